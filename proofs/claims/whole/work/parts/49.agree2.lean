/-! ===== agreement, the rest ===== -/
theorem Fs.ag {h h' : MH_} {f : Nat} (hf : Fs h f) (g : Ag f 6 h h') : Fs h' f := by
  obtain ⟨a1, a2, a3, a4, a5, a6, a7, a8, a9, a10, a11⟩ := hf
  exact ⟨by rw [g.kd f (by omega) (by omega), a1], by rw [g.gP f _ (by omega) (by omega), a2], by rw [g.gP f _ (by omega) (by omega), a3], by rw [g.gP f _ (by omega) (by omega), a4], by rw [g.gP f _ (by omega) (by omega), a5], by rw [g.kd (f + 3) (by omega) (by omega), a6], by rw [g.ln (f + 3) (by omega) (by omega), a7], by rw [g.kd (f + 4) (by omega) (by omega), a8], by rw [g.ln (f + 4) (by omega) (by omega), a9], by rw [g.kd (f + 5) (by omega) (by omega), a10], by rw [g.ln (f + 5) (by omega) (by omega), a11]⟩
theorem Fc.ag {h h' : MH_} {f : Nat} {ts : List Tok} (hf : Fc h f ts) (g : Ag f 6 h h') : Fc h' f ts := by
  obtain ⟨c1, c2, c3, c4, c5, c6⟩ := hf
  exact ⟨by rw [g.gI f _ (by omega) (by omega), c1], c2, by rw [g.gI f _ (by omega) (by omega), c3], c4, fun i hi => by rw [g.gI (f + 3) _ (by omega) (by omega), c5 i hi], fun j hj => ⟨by rw [g.gI (f + 4) _ (by omega) (by omega), (c6 j hj).1], by rw [g.gI (f + 5) _ (by omega) (by omega), (c6 j hj).2]⟩⟩
theorem Fo.ag {h h' : MH_} {f : Nat} {ts : List Tok} (hf : Fo h f ts) (g : Ag f 6 h h') : Fo h' f ts := ⟨hf.1.ag g, hf.2.1.ag g, hf.2.2.ag (g.sub (by omega) (by omega))⟩
theorem Pr.ag {h h' : MH_} {p : Nat} (hp : Pr h p) (g : Ag p 7 h h') : Pr h' p := by
  obtain ⟨a1, a2, a3, a4, a5, a6⟩ := hp
  exact ⟨by rw [g.kd p (by omega) (by omega), a1], by rw [g.gP p _ (by omega) (by omega), a2], by rw [g.gP p _ (by omega) (by omega), a3], by rw [g.gP p _ (by omega) (by omega), a4], by rw [g.kd (p + 6) (by omega) (by omega), a5], by rw [g.ln (p + 6) (by omega) (by omega), a6]⟩
theorem Bs.ag {h h' : MH_} {b : Nat} (hb : Bs h b) (g : Ag b 4 h h') : Bs h' b := by
  obtain ⟨a1, a2, a3, a4, a5⟩ := hb
  exact ⟨by rw [g.kd b (by omega) (by omega), a1], by rw [g.gP b _ (by omega) (by omega), a2], by rw [g.gP b _ (by omega) (by omega), a3], by rw [g.kd (b + 3) (by omega) (by omega), a4], by rw [g.ln (b + 3) (by omega) (by omega), a5]⟩
theorem Bk.ag {h h' : MH_} {b w o : Nat} {ft lt : Int64} {ev : List Nat} {la : Nat → Int32} (hb : Bk h b w o ft lt ev la) (g : Ag b 4 h h') : Bk h' b w o ft lt ev la := by
  obtain ⟨a1, a2, a3, a4, a5, a6, a7⟩ := hb
  exact ⟨a1.ag g, a2.ag (g.sub (by omega) (by omega)), by rw [g.gI b _ (by omega) (by omega), a3], by rw [g.gI b _ (by omega) (by omega), a4], by rw [g.gJ b _ (by omega) (by omega), a5], by rw [g.gJ b _ (by omega) (by omega), a6], fun i hi => by rw [g.gI (b + 3) _ (by omega) (by omega), a7 i hi]⟩
theorem Fi.ag {h h' : MH_} {f : Nat} (hf : Fi h f) (g : Ag f 3 h h') : Fi h' f := ⟨by rw [g.kd f (by omega) (by omega)]; exact hf.1, by rw [g.gP f _ (by omega) (by omega)]; exact hf.2⟩
theorem Nm.ag {h h' : MH_} {n : Nat} {nm : Nat → List Nat} (hn : Nm h n nm) (g : Ag n 3 h h') : Nm h' n nm := by
  obtain ⟨⟨a1, a2, a3, a4, a5, a6, a7⟩, b⟩ := hn
  refine ⟨⟨by rw [g.kd n (by omega) (by omega), a1], by rw [g.gP n _ (by omega) (by omega), a2], by rw [g.gP n _ (by omega) (by omega), a3], by rw [g.kd (n + 1) (by omega) (by omega), a4], by rw [g.ln (n + 1) (by omega) (by omega), a5], by rw [g.kd (n + 2) (by omega) (by omega), a6], by rw [g.ln (n + 2) (by omega) (by omega), a7]⟩, fun q hq => ?_⟩
  obtain ⟨b1, b2, b3, b4⟩ := b q hq
  exact ⟨b1, by rw [g.gI (n + 2) _ (by omega) (by omega), b2], fun k hk => by rw [g.gI (n + 1) _ (by omega) (by omega), b3 k hk], b4⟩
