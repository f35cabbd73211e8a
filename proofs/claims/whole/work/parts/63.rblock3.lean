/-! ===== Lines: readsBlock, placeOf ===== -/
def hdD (fl : List Nat) (i : Nat) : Decidable (hdOk fl i) := inferInstanceAs (Decidable (_ ∧ _ ∧ _ ∧ _ ∧ _ ∧ _))
def tB (fl : List Nat) (i : Nat) : Nat := (bg fl 8 (i + 4)).toNatClampNeg
def rB (si : List (List Tok)) (fl : List Nat) (acc : List Ev) (i : Nat) : Option (List Ev) := @ite _ (hdOk fl i) (hdD fl i) (rEs si (fl.getD (i + 1) 0) 238 (fun _ => Int32.ofNat 0) (tB fl i) acc ((fl.take (i + 14 + nE fl i)).drop (i + 14))) none
theorem tB_of {fl : List Nat} {i : Nat} (h : ¬ bg fl 8 (i + 4) < Int64.ofNat 0) : bg fl 8 (i + 4) = Int64.ofNat (tB fl i) ∧ tB fl i < 9223372036854775808 := by
  have h0 : 0 ≤ bg fl 8 (i + 4) := Int64.not_lt.mp h
  exact ⟨(Int64.ofNat_toNatClampNeg _ h0).symm, Int64.toNatClampNeg_lt _⟩
section
variable {h0 : MH_} {l fr sl sA pr0 sr0 sr B C : Nat} {fl fs pl0 so : List Nat} {si : List (List Tok)}
theorem Lines_readsBlock {h : MH_} {i : Nat} {br : Int32} {acc : List Ev} {pl : List Nat} {pr : Nat} (b : Bd h0 h l fr sl sA pr0 sr0 fl fs pl0 si pl pr so sr) (rm : Rm h B C pl pr) (hu : gI_ h l 3 = Int32.ofNat acc.length) (hbr : gI_ h l 4 = br) (hP : Pv h pl acc) (hlen : acc.length + 238 ≤ 5950) (hi : i ≤ 6144) :
    Wp 50 0 [.ref l, .ref fr, .int (Int32.ofNat i), .ref sl, .null] [] h (PB h0 l fr sl sA pr0 sr0 sr B C fl fs pl0 so si (ln_ h sr) pl br acc (rB si fl acc i)) := by
  have b' := b
  obtain ⟨⟨⟨k1, k2, k3, k4⟩, u1, u2, u3, u4⟩, ⟨p1, p2, p3⟩, ⟨r1, r2⟩, ⟨e1, e2⟩, ⟨b1, b2, b3, b4, b5⟩, ⟨c1, c2, c3⟩, ⟨d1, d2, d3⟩, ⟨g1, g2, g3⟩, q1, q2⟩ := b
  have n0 := q2.1
  have u3' : kd_ h (l + 4) = 30 := u3
  have u4' : ln_ h (l + 4) = 240 := u4
  have kr := r1.1
  have kr2 := r1.2.2.1
  have apF : fr + 2 ≤ l + 3 ∨ l + 3 + 2 ≤ fr := by
    rcases Nat.lt_or_ge (l + 3) (fr + 2) with z | z
    · rcases Nat.lt_or_ge fr (l + 5) with y | y
      · rcases (show fr = l + 4 ∨ fr = l + 3 ∨ fr + 1 = l + 3 by omega) with y | y | y
        · rw [y] at kr; omega
        · rw [y] at kr; omega
        · rw [y] at kr2; omega
      · exact Or.inr (by omega)
    · exact Or.inl z
  simp (disch := omega) only [U50_0, U50_1, U50_4, U50_5, U50_6, U50_9, U50_12, U50_13, U50_14, U50_15, U50_19, U50_22, U50_25, U50_26, U50_29, U50_32, U50_35, U50_36, U50_39, U50_40, U50_43, U50_44, U50_47, U50_50, U50_51, U50_52, U50_55, U50_58, U50_59, k1, k4, u1, i_add, i_mul, i_sub, i_addn, i_lt, i_eq, i_idx, i_vp, true_and, and_true, false_and, and_false, if_true, if_false, Nat.reduceAdd, Nat.reduceMul, Nat.reduceSub, Nat.reduceEqDiff, Option.some.injEq, exists_eq_left', true_or, or_true, false_or, or_false, not_true_eq_false, not_false_eq_true, eq_self, and_self, Nat.reduceLeDiff, decide_true, decide_false, ne_eq, Nat.left_eq_add, Nat.add_eq_left, Nat.add_left_cancel_iff, Nat.add_zero]
  refine Wp_use (Unp_beginsBlock ⟨u1, u2, u3, u4⟩ r1 apF hi) ?_
  rintro v h1 ⟨f1, z⟩
  have bb := b'.fy f1 (by
    unfold SW
    rintro a i (z | z)
    · exact Or.inr (Or.inl ⟨z.1, z.2.1⟩)
    · exact Or.inr (Or.inr (Or.inl z)))
  have rm1 := rm.fy f1
  have hP1 : Pv h1 pl acc := hP.step f1.fb c3 (by
    intro i e hi he a j z1 z2 z
    have c := (e1 e (List.mem_of_getElem? he)).cell z1 z2
    unfold SW at z
    rcases z with ⟨rfl, -⟩ | rfl
    · omega
    · rw [show l + 3 + 1 = l + 4 by omega] at c; omega)
  have hu1 : gI_ h1 l 3 = Int32.ofNat acc.length := by rw [f1.gI (by unfold SW; omega), hu]
  have hbr1 : gI_ h1 l 4 = br := by rw [f1.gI (by unfold SW; omega), hbr]
  rcases z with ⟨hk, rfl, uo, w1, t1, la1⟩ | ⟨hk, rfl⟩
  · obtain ⟨tb1, tb2⟩ := tB_of hk.2.2.2.1
    simp (disch := omega) only [V104, U50_0, U50_1, U50_4, U50_5, U50_6, U50_9, U50_12, U50_13, U50_14, U50_15, U50_19, U50_22, U50_25, U50_26, U50_29, U50_32, U50_35, U50_36, U50_39, U50_40, U50_43, U50_44, U50_47, U50_50, U50_51, U50_52, U50_55, U50_58, U50_59, show ¬ (1 : Nat) = 0 by omega, i_add, i_mul, i_sub, i_addn, i_lt, i_eq, i_idx, i_vp, true_and, and_true, false_and, and_false, if_true, if_false, Nat.reduceAdd, Nat.reduceMul, Nat.reduceSub, Nat.reduceEqDiff, Option.some.injEq, exists_eq_left', true_or, or_true, false_or, or_false, not_true_eq_false, not_false_eq_true, eq_self, and_self, Nat.reduceLeDiff, decide_true, decide_false, ne_eq, Nat.left_eq_add, Nat.add_eq_left, Nat.add_left_cancel_iff, Nat.add_zero]
    rw [show rB si fl acc i = rEs si (fl.getD (i + 1) 0) 238 (fun _ => Int32.ofNat 0) (tB fl i) acc ((fl.take (i + 14 + nE fl i)).drop (i + 14)) from if_pos hk]
    have hn := hk.2.2.2.2.1
    have hrl : ((fl.take (i + 14 + nE fl i)).drop (i + 14)).length ≤ 238 := by rw [List.length_drop, List.length_take]; omega
    exact readsBlock_loop 238 0 _ _ acc [] _ h1 pl pr rfl hrl bb rm1 hu1 hbr1 ⟨f1.ln _, [], by simp⟩ hP1 (by simp) (by omega) uo w1 (by rw [t1, tb1]) tb2 la1
  · simp (disch := omega) only [V104, U50_0, U50_1, U50_4, U50_5, U50_6, U50_9, U50_12, U50_13, U50_14, U50_15, U50_19, U50_22, U50_25, U50_26, U50_29, U50_32, U50_35, U50_36, U50_39, U50_40, U50_43, U50_44, U50_47, U50_50, U50_51, U50_52, U50_55, U50_58, U50_59, i_add, i_mul, i_sub, i_addn, i_lt, i_eq, i_idx, i_vp, true_and, and_true, false_and, and_false, if_true, if_false, Nat.reduceAdd, Nat.reduceMul, Nat.reduceSub, Nat.reduceEqDiff, Option.some.injEq, exists_eq_left', true_or, or_true, false_or, or_false, not_true_eq_false, not_false_eq_true, eq_self, and_self, Nat.reduceLeDiff, decide_true, decide_false, ne_eq, Nat.left_eq_add, Nat.add_eq_left, Nat.add_left_cancel_iff, Nat.add_zero]
    rw [show rB si fl acc i = none from if_neg hk]
    exact ⟨pl, pr, bb, rm1, hbr1, ⟨f1.ln _, [], by simp⟩, rfl, hP1⟩
end
/-! the order of the lines -/
def bef (x y : Ev) : Prop := x.2.2.1 < y.2.2.1 ∨ (x.2.2.1 = y.2.2.1 ∧ x.1 < y.1)
def evD : Ev := (0, 0, 0, [])
/-- the place of event e among those of od -/
def plc (es : List Ev) (od : List Nat) (e : Nat) : Nat → Nat
  | 0 => 0
  | k + 1 => @ite _ (bef (es.getD e evD) (es.getD (od.getD k 0) evD)) (inferInstanceAs (Decidable (_ ∨ _))) (plc es od e k) (k + 1)
def srt (es : List Ev) (od : List Nat) : Prop := ∀ i j, i < j → j < od.length → ¬ bef (es.getD (od.getD j 0) evD) (es.getD (od.getD i 0) evD)
theorem bef_tr {x y z : Ev} (h1 : bef x y) (h2 : ¬ bef z y) : bef x z := by
  unfold bef at *
  omega
theorem plc_spec {es : List Ev} {od : List Nat} {e : Nat} (hs : srt es od) : ∀ k, k ≤ od.length → plc es od e k ≤ k ∧ (∀ i, i < plc es od e k → ¬ bef (es.getD e evD) (es.getD (od.getD i 0) evD)) ∧ ∀ i, plc es od e k ≤ i → i < k → bef (es.getD e evD) (es.getD (od.getD i 0) evD) := by
  intro k
  induction k with
  | zero => intro _; exact ⟨Nat.le_refl _, fun i hi => absurd hi (Nat.not_lt_zero _), fun i _ hi => absurd hi (Nat.not_lt_zero _)⟩
  | succ k ih =>
    intro hk
    obtain ⟨a, b, c⟩ := ih (by omega)
    unfold plc
    by_cases h1 : bef (es.getD e evD) (es.getD (od.getD k 0) evD)
    · rw [if_pos h1]
      refine ⟨by omega, b, fun i h2 h3 => ?_⟩
      rcases Nat.lt_or_ge i k with z | z
      · exact c i h2 z
      · rw [show i = k by omega]; exact h1
    · rw [if_neg h1]
      refine ⟨Nat.le_refl _, fun i hi z => ?_, fun i h2 h3 => by omega⟩
      rcases Nat.lt_or_ge i k with y | y
      · exact h1 (bef_tr z (hs i k y (by omega)))
      · exact h1 ((show i = k by omega) ▸ z)
theorem plc_uniq {es : List Ev} {od : List Nat} {e k : Nat} (hs : srt es od) (hk : k ≤ od.length) (h1 : ∀ i, i < k → ¬ bef (es.getD e evD) (es.getD (od.getD i 0) evD)) (h2 : ∀ i, k ≤ i → i < od.length → bef (es.getD e evD) (es.getD (od.getD i 0) evD)) : k = plc es od e od.length := by
  obtain ⟨a, b, c⟩ := plc_spec (e := e) hs od.length (Nat.le_refl _)
  rcases Nat.lt_trichotomy k (plc es od e od.length) with z | z | z
  · exact absurd (h2 k (Nat.le_refl _) (by omega)) (b k z)
  · exact z
  · exact absurd (c _ (Nat.le_refl _) (by omega)) (h1 _ z)
def insO (es : List Ev) (od : List Nat) (e : Nat) : List Nat := ins od (plc es od e od.length) e
theorem ins_gD {xs : List Nat} {i x j : Nat} (h : i ≤ xs.length) (hj : j < xs.length + 1) : (ins xs i x).getD j 0 = if j < i then xs.getD j 0 else if j = i then x else xs.getD (j - 1) 0 := by
  have := ins_at (x := x) h (j := j) (by rw [ins_len h]; exact hj)
  rw [List.getD_eq_getElem?_getD, this]
  split
  · rw [List.getD_eq_getElem?_getD]
  · split
    · rfl
    · rw [List.getD_eq_getElem?_getD]
theorem srt_ins {es : List Ev} {od : List Nat} {e : Nat} (hs : srt es od) : srt es (insO es od e) := by
  obtain ⟨a, b, c⟩ := plc_spec (e := e) hs od.length (Nat.le_refl _)
  unfold insO
  generalize plc es od e od.length = p at *
  intro i j hij hj
  rw [ins_len a] at hj
  rw [ins_gD a (by omega), ins_gD a (by omega)]
  by_cases j1 : j < p
  · rw [if_pos j1, if_pos (by omega)]; exact hs i j hij (by omega)
  · rw [if_neg j1]
    by_cases j2 : j = p
    · rw [if_pos j2, if_pos (by omega)]; exact b i (by omega)
    · rw [if_neg j2]
      by_cases i1 : i < p
      · rw [if_pos i1]; exact hs i (j - 1) (by omega) (by omega)
      · rw [if_neg i1]
        by_cases i2 : i = p
        · rw [if_pos i2]
          have := c (j - 1) (by omega) (by omega)
          unfold bef at *
          omega
        · rw [if_neg i2]; exact hs (i - 1) (j - 1) (by omega) (by omega)
