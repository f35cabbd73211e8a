/-! ===== Lines: a block is read ===== -/
def rEs (si : List (List Tok)) (w : Nat) : Nat → (Nat → Int32) → Nat → List Ev → List Nat → Option (List Ev)
  | _, _, _, acc, [] => some acc
  | 0, _, _, _, _ :: _ => none
  | n + 1, la, t, acc, b :: r => (rE si la t (b :: r)).bind fun x => rEs si w n (laU la x.1 x.2.2.1) x.2.1 (acc ++ [(w, x.1, x.2.1, x.2.2.1)]) x.2.2.2
theorem rI_len : ∀ n x r y r', rI n x r = some (y, r') → r'.length ≤ r.length
  | 0, x, r, y, r' => by intro h; have e := congrArg Prod.snd (Option.some.inj h); simp only at e; rw [e]; exact Nat.le_refl _
  | _ + 1, _, [], _, _ => by intro h; simp [rI] at h
  | n + 1, x, b :: r, y, r' => by
    intro h
    have := rI_len n _ r y r' h
    rw [List.length_cons]
    omega
theorem rN_len {la : Int32} {r : List Nat} {x : Int32 × List Nat} (h : rN la r = some x) : x.2.length ≤ r.length := by
  cases r with
  | nil => cases h
  | cons b r =>
    simp only [rN] at h
    rw [List.length_cons]
    split at h
    · rw [← Option.some.inj h]; simp only; omega
    · split at h
      · have := rI_len 4 _ r x.1 x.2 h; omega
      · split at h
        · rw [← Option.some.inj h]; simp only; omega
        · cases h
theorem rT_len {r : List Nat} {x : List Nat × List Nat} (h : rT r = some x) : x.2.length ≤ r.length := by
  cases r with
  | nil => cases h
  | cons b r =>
    simp only [rT] at h
    rw [List.length_cons]
    split at h
    · rw [← Option.some.inj h]; simp only [List.length_drop]; omega
    · cases h
theorem rS_len {la : Nat → Int32} : ∀ q j acc r x, rS la q j acc r = some x → x.2.length ≤ r.length
  | [], j, acc, r, x => by intro h; rw [← Option.some.inj h]; exact Nat.le_refl _
  | q :: qs, j, acc, r, x => by
    intro h
    simp only [rS] at h
    split at h
    · cases hr : rT r with
      | none => rw [hr] at h; cases h
      | some y =>
        rw [hr] at h
        have h1 := rT_len hr
        have h2 := rS_len qs _ _ _ x h
        omega
    · cases hr : rN (la j) r with
      | none => rw [hr] at h; cases h
      | some y =>
        rw [hr] at h
        have h1 := rN_len hr
        have h2 := rS_len qs _ _ _ x h
        omega
/-- what an event that is read is -/
theorem rE_inv {si : List (List Tok)} {la : Nat → Int32} {t : Nat} {r : List Nat} {x : Nat × Nat × List Arg × List Nat} (h : rE si la t r = some x) : x.2.2.2.length + 2 ≤ r.length ∧ x.2.1 < 9223372036854775808 ∧ ∃ ts r2, si[x.1]? = some ts ∧ rS (fun j => la (x.1 * 6 + j)) (slts ts) 0 [] r2 = some (x.2.2.1, x.2.2.2) := by
  unfold rE at h
  cases h1 : rV 9 0 0 r with
  | none => rw [h1] at h; cases h
  | some y =>
    rw [h1] at h
    simp only [Option.bind_some] at h
    cases h2 : rV 9 0 0 y.2 with
    | none => rw [h2] at h; cases h
    | some z =>
      rw [h2] at h
      simp only [Option.bind_some] at h
      cases h3 : si[y.1]? with
      | none => rw [h3] at h; cases h
      | some ts =>
        rw [h3] at h
        simp only [Option.bind_some] at h
        split at h
        · rename_i h4
          cases h5 : rS (fun j => la (y.1 * 6 + j)) (slts ts) 0 [] z.2 with
          | none => rw [h5] at h; cases h
          | some w =>
            rw [h5] at h
            have e := Option.some.inj h
            subst e
            have l1 := rV_len 9 0 0 r y.1 y.2 h1
            have l2 := rV_len 9 0 0 y.2 z.1 z.2 h2
            have l3 := rS_len _ _ _ _ w h5
            exact ⟨by simp only; omega, h4, ts, z.2, h3, h5⟩
        · cases h
theorem Us.ag {h h' : MH_} {u fr p e : Nat} {fl : List Nat} (hu : Us h u fr p e fl) (g : Ag u 2 h h') (g2 : Ag fr 2 h h') : Us h' u fr p e fl := by
  obtain ⟨⟨a1, a2, a3, a4, a5⟩, ⟨b1, b2⟩, c1, c2, c3, c4⟩ := hu
  exact ⟨⟨by rw [g.kd u (by omega) (by omega), a1], by rw [g.gP u _ (by omega) (by omega), a2], by rw [g.gP u _ (by omega) (by omega), a3], by rw [g.kd (u + 1) (by omega) (by omega), a4], by rw [g.ln (u + 1) (by omega) (by omega), a5]⟩, ⟨by rw [g.gI u _ (by omega) (by omega), b1], by rw [g.gI u _ (by omega) (by omega), b2]⟩, c1, c2, c3.ag g2, c4⟩
theorem UO.ag {h h' : MH_} {u fr e : Nat} {fl : List Nat} {o : Option (List Nat)} (hu : UO h u fr e fl o) (g : Ag u 2 h h') (g2 : Ag fr 2 h h') : UO h' u fr e fl o := by
  obtain ⟨p, hp, ho⟩ := hu
  refine ⟨p, hp.ag g g2, ?_⟩
  cases o with
  | some r => exact ⟨ho.1, by rw [g.gI u _ (by omega) (by omega)]; exact ho.2⟩
  | none => exact (g.gI u _ (by omega) (by omega)).trans ho
def Rm (h : MH_) (B C : Nat) (pl : List Nat) (pr : Nat) : Prop := B + pC pl.length (ln_ h pr) ≤ rc_ h ∧ C + pS pl.length (ln_ h pr) ≤ rs_ h ∧ ln_ h pr ≤ 9000
theorem Rm.fy {h h' : MH_} {B C : Nat} {pl : List Nat} {pr : Nat} {S : Nat → Nat → Prop} (r : Rm h B C pl pr) (f : Fy S h h') : Rm h' B C pl pr := by
  unfold Rm
  rw [f.2.1, f.2.2.1.2.1, f.2.2.1.2.2.1]
  exact r
section
variable {h0 h h' : MH_} {l fr sl sA pr0 sr0 pr sr n B C : Nat} {fl fs pl0 pl so : List Nat} {si : List (List Tok)}
theorem next_Bd {v : Rs_} (b : Bd h0 h l fr sl sA pr0 sr0 fl fs pl0 si pl pr so sr) (hn : n ≤ pl.length) (x : PX h l pr n B C pl v h') : ∃ (e : Nat) (pl' : List Nat) (pr' : Nat), v = .inl (.ref e) ∧ pl'[n]? = some e ∧ Bd h0 h' l fr sl sA pr0 sr0 fl fs pl0 si pl' pr' so sr ∧ Rm h' B C pl' pr' ∧ gI_ h' l 3 = Int32.ofNat (n + 1) ∧ (pl' = pl ∨ pl' = pl ++ [e]) ∧ Fb (fun b i => (b = l ∧ i = 3) ∨ b = l + 1 ∨ (b = pr ∧ kd_ h pr = 34)) h h' := by
  obtain ⟨e, pl', pr', rfl, y1, y2, y3, y4, y5, y6, y7, y8, y9, y10, y11, y12⟩ := x
  refine ⟨e, pl', pr', rfl, y1, ?_, ⟨y7, y8, y9⟩, y3, ?_, y11⟩
  · obtain ⟨x1, x2, x3, x4, x5, x6⟩ := b.stat y11 (fun a i z => by
      rcases z with z | z | z
      · exact Or.inl ⟨z.1, by omega⟩
      · exact Or.inr (Or.inl z)
      · exact Or.inr (Or.inr (Or.inr (Or.inr (Or.inr (Or.inl z))))))
    obtain ⟨⟨⟨k1, k2, k3, k4⟩, u1, u2, u3, u4⟩, ⟨p1, p2, p3⟩, ⟨r1, r2⟩, ⟨e1, e2⟩, ⟨b1, b2, b3, b4, b5⟩, ⟨c1, c2, c3⟩, ⟨d1, d2, d3⟩, ⟨g1, g2, g3⟩, q1, q2⟩ := b
    have n0 := q2.1
    have n1 := y11.1
    have j2 := p2.1
    have ks := p2.kd
    have kp := p1.kd
    have K : kd_ h' pr' = 34 ∨ kd_ h' pr' = 38 := y2.kd
    have p2' : Al h' (l + 2) sr so := by
      refine p2.ag y11.2.2.1.1 (y11.ag (by omega) ?_) (y11.ag (by omega) ?_)
      · intro a i h1 h2 z
        have ea : a = l + 2 := by omega
        rcases z with z | z | ⟨z, w⟩
        · omega
        · omega
        · rw [← z, ea] at w; omega
      · intro a i h1 h2 z
        have ea : a = sr := by omega
        rcases z with z | z | ⟨z, w⟩
        · rw [← ea, z.1] at ks; omega
        · rw [← ea, z] at ks; have := p1.1; omega
        · have := d1 (by omega); omega
    have hps : ∀ x, (sr = x ∨ sA = x) → x < nx_ h := by rintro x (rfl | rfl) <;> omega
    have D : ∀ x, x < nx_ h → (pr = x → kd_ h pr = 38) → pr' = x → kd_ h' pr' = 38 := by
      intro x hx hd hx2
      rcases y10 with rfl | y10
      · rw [(y11.2.1 pr' c1).1]; exact hd hx2
      · omega
    refine ⟨⟨x1, x2⟩, ⟨y2, p2', x3⟩, ⟨x4, x5⟩, ⟨y4, ?_⟩, ⟨b1, b2, b3, b4, b5⟩, ⟨y6, by omega, y5⟩, ⟨D sr c2 d1, D sA (by omega) d2, fun z => by rw [(y11.2.1 sr c2).1]; exact d3 z⟩, ⟨?_, ?_, g3⟩, ?_, x6⟩
    · rcases y12 with rfl | ⟨-, rfl, y12⟩
      · exact e2
      · rw [List.nodup_append]
        refine ⟨e2, by simp, fun a ha b hb => ?_⟩
        have := c3 a ha
        have := List.mem_singleton.mp hb
        omega
    · rcases y12 with rfl | ⟨-, rfl, y12⟩
      · exact g1
      · intro x hx
        rcases List.mem_append.mp hx with hx | hx
        · exact g1 x hx
        · rw [List.mem_singleton.mp hx]; right; omega
    · rcases y10 with rfl | y10
      · exact g2
      · right; omega
    · intro x hx
      rcases y12 with rfl | ⟨-, rfl, y12⟩
      · exact q1 x hx
      · exact List.mem_append.mpr (Or.inl (q1 x hx))
  · rcases y12 with rfl | ⟨-, rfl, y12⟩
    · exact Or.inl rfl
    · exact Or.inr rfl
theorem Pv.next {es : List Ev} {e : Nat} {pl' : List Nat} (b : Bd h0 h l fr sl sA pr0 sr0 fl fs pl0 si pl pr so sr) (p : Pv h pl es) (f : Fb (fun b i => (b = l ∧ i = 3) ∨ b = l + 1 ∨ (b = pr ∧ kd_ h pr = 34)) h h') (hp : pl' = pl ∨ pl' = pl ++ [e]) : Pv h' pl' es := by
  obtain ⟨⟨⟨k1, k2, k3, k4⟩, u1, u2, u3, u4⟩, ⟨p1, p2, p3⟩, ⟨r1, r2⟩, ⟨e1, e2⟩, ⟨b1, b2, b3, b4, b5⟩, ⟨c1, c2, c3⟩, ⟨d1, d2, d3⟩, ⟨g1, g2, g3⟩, q1, q2⟩ := b
  have q := p.step f c3 (by
    intro i e hi he a j h1 h2 z
    have c := (e1 e (List.mem_of_getElem? he)).cell h1 h2
    have := p1.1
    rcases z with z | z | ⟨z, w⟩
    · rw [z.1] at c; omega
    · rw [z] at c; omega
    · rw [z] at c; omega)
  rcases hp with rfl | rfl
  · exact q
  · refine ⟨by rw [List.length_append]; have := q.1; omega, fun i e x h1 h2 => ?_⟩
    have hi : i < es.length := by
      rcases Nat.lt_or_ge i es.length with z | z
      · exact z
      · rw [List.getElem?_eq_none z] at h2; cases h2
    rw [List.getElem?_append_left (by have := q.1; omega)] at h1
    exact q.2 i e x h1 h2
end
