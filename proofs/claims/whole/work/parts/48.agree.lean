/-! ===== two heaps that agree on cells ===== -/
def Ag (lo n : Nat) (h h' : MH_) : Prop := ∀ a, lo ≤ a → a < lo + n → kd_ h' a = kd_ h a ∧ ln_ h' a = ln_ h a ∧ ∀ i, gI_ h' a i = gI_ h a i ∧ gJ_ h' a i = gJ_ h a i ∧ gP_ h' a i = gP_ h a i
theorem Fy.ag {S : Nat → Nat → Prop} {h h' : MH_} {lo n : Nat} (f : Fy S h h') (hs : ∀ a i, lo ≤ a → a < lo + n → ¬ S a i) : Ag lo n h h' :=
  fun a h1 h2 => ⟨f.1 a, f.2.1 a, fun i => f.2.2.2 a i (hs a i h1 h2)⟩
theorem Fa.ag {S : Nat → Nat → Prop} {k w : Nat} {h h' : MH_} {lo n : Nat} (f : Fa S k w h h') (hn : lo + n ≤ nx_ h) (hs : ∀ a i, lo ≤ a → a < lo + n → ¬ S a i) : Ag lo n h h' :=
  fun a h1 h2 => ⟨f.2.1 a (by omega), f.2.2.1 a (by omega), fun i => f.2.2.2.2.2.2.2 a i (by omega) (hs a i h1 h2)⟩
theorem Ag.sub {lo n lo' n' : Nat} {h h' : MH_} (g : Ag lo n h h') (h1 : lo ≤ lo') (h2 : lo' + n' ≤ lo + n) : Ag lo' n' h h' := fun a x y => g a (by omega) (by omega)
section Agr
variable {h h' : MH_} {lo n : Nat}
theorem Ag.kd (g : Ag lo n h h') (a : Nat) (h1 : lo ≤ a) (h2 : a < lo + n) : kd_ h' a = kd_ h a := (g a h1 h2).1
theorem Ag.ln (g : Ag lo n h h') (a : Nat) (h1 : lo ≤ a) (h2 : a < lo + n) : ln_ h' a = ln_ h a := (g a h1 h2).2.1
theorem Ag.gI (g : Ag lo n h h') (a i : Nat) (h1 : lo ≤ a) (h2 : a < lo + n) : gI_ h' a i = gI_ h a i := ((g a h1 h2).2.2 i).1
theorem Ag.gJ (g : Ag lo n h h') (a i : Nat) (h1 : lo ≤ a) (h2 : a < lo + n) : gJ_ h' a i = gJ_ h a i := ((g a h1 h2).2.2 i).2.1
theorem Ag.gP (g : Ag lo n h h') (a i : Nat) (h1 : lo ≤ a) (h2 : a < lo + n) : gP_ h' a i = gP_ h a i := ((g a h1 h2).2.2 i).2.2
end Agr
theorem Rw.ag {h h' : MH_} {r c : Nat} {l : List Nat} (hr : Rw h r c l) (g : Ag r 2 h h') : Rw h' r c l := by
  obtain ⟨a1, a2, a3, a4, a5, a6, a7, a8, a9⟩ := hr
  exact ⟨by rw [g.kd r (by omega) (by omega), a1], by rw [g.gP r _ (by omega) (by omega), a2], by rw [g.kd (r + 1) (by omega) (by omega), a3], by rw [g.ln (r + 1) (by omega) (by omega), a4], a5, a6, by rw [g.gI r _ (by omega) (by omega), a7], fun i hi => by rw [g.gI (r + 1) _ (by omega) (by omega), a8 i hi], a9⟩
theorem Es.ag {h h' : MH_} {e : Nat} (he : Es h e) (g : Ag e 4 h h') : Es h' e := by
  obtain ⟨a1, a2, a3, a4, a5, a6, a7, a8, a9, a10⟩ := he
  exact ⟨by rw [g.kd e (by omega) (by omega), a1], by rw [g.gP e _ (by omega) (by omega), a2], by rw [g.gP e _ (by omega) (by omega), a3], by rw [g.gP e _ (by omega) (by omega), a4], by rw [g.kd (e + 1) (by omega) (by omega), a5], by rw [g.ln (e + 1) (by omega) (by omega), a6], by rw [g.kd (e + 2) (by omega) (by omega), a7], by rw [g.ln (e + 2) (by omega) (by omega), a8], by rw [g.kd (e + 3) (by omega) (by omega), a9], by rw [g.ln (e + 3) (by omega) (by omega), a10]⟩
theorem Ea.ag {h h' : MH_} {e : Nat} {as : List Arg} (he : Ea h e as) (g : Ag e 4 h h') : Ea h' e as := by
  refine ⟨he.1.ag g, he.2.1, by rw [g.gI e _ (by omega) (by omega), he.2.2.1], fun i hi => ?_⟩
  have c := he.2.2.2 i hi
  revert c
  cases as[i] with
  | inl x => intro c; exact ⟨by rw [g.gI (e + 1) _ (by omega) (by omega)]; exact c.1, by rw [g.gI (e + 2) _ (by omega) (by omega)]; exact c.2⟩
  | inr t => intro c; exact ⟨by rw [g.gI (e + 1) _ (by omega) (by omega)]; exact c.1, by rw [g.gI (e + 2) _ (by omega) (by omega)]; exact c.2.1, c.2.2.1, fun k hk => by rw [g.gI (e + 3) _ (by omega) (by omega)]; exact c.2.2.2.1 k hk, c.2.2.2.2⟩
