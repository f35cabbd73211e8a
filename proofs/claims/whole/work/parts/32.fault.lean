/-! ===== Format: faultIn ===== -/
def SA (f : Nat) : Nat → Nat → Prop := fun a i => SF f a i ∨ SR (f + 1) a i
theorem dr_cons {t r : List Nat} {p b : Nat} (h : t.drop p = b :: r) : p < t.length ∧ t.getD p 0 = b ∧ t.drop (p + 1) = r ∧ t.take (p + 1) = t.take p ++ [b] := by
  have h1 : p < t.length := by
    rcases Nat.lt_or_ge p t.length with z | z
    · exact z
    · rw [List.drop_of_length_le z] at h; cases h
  rw [gD_drop h1] at h
  injection h with h2 h3
  exact ⟨h1, h2, h3, by rw [List.take_add_one, List.getElem?_eq_getElem h1, ← gD_in h1, h2]; rfl⟩
theorem dr_nil {t : List Nat} {p : Nat} (h : t.drop p = []) : t.length ≤ p := List.drop_eq_nil_iff.mp h
section It
variable {u : MH_} {f r c i b md k d md' k' d' : Nat} {ts ts' : List Tok} {t sp : List Nat} {y : Value} {Q : Rs_ → MH_ → Prop}
theorem it_end (hi : i = t.length) (hf : FR u f ts md k d) (hm : md ≤ 4) (hr : Rw u r c t) (K : if md = 0 then Q (.inl (.int (-(Int32.ofNat 1)))) u else Q (.inl (.int (Int32.ofNat i))) u) : Wp 29 24 [.ref f, .ref r, .int (Int32.ofNat i), y] [] u Q := by
  have h5 := hr.2.2.2.2.1
  have h6 := hr.2.2.2.2.2.1
  rw [U29_24]
  simp (disch := omega) only [U29_0, U29_1, U29_4, U29_7, U29_8, U29_9, U29_12, U29_13, U29_14, U29_17, U29_18, U29_19, U29_22, U29_23, U29_25, U29_26, U29_29, U29_32, U29_33, U29_34, U29_37, U29_38, U29_39, U29_41, U29_44, U29_45, U29_48, U29_51, U29_52, U29_53, U29_54, U29_57, U29_60, U29_61, U29_62, U29_65, U29_68, U29_69, U29_70, U29_71, U29_74, U29_75, U29_78, U29_81, U29_84, U29_85, U29_88, U29_91, U29_92, U29_95, U29_96, U29_99, hr.1, Row_held hr, V89, hf.1.1, hf.2.2.1, show ¬ i < t.length by omega, i_add, i_mul, i_sub, i_addn, i_lt, i_eq, i_idx, i_vp, true_and, and_true, false_and, and_false, if_true, if_false, Nat.reduceAdd, Nat.reduceMul, Nat.reduceSub, Nat.reduceEqDiff, Option.some.injEq, exists_eq_left', true_or, or_true, false_or, or_false, not_true_eq_false, not_false_eq_true, eq_self, and_self, Nat.reduceLeDiff, decide_true, decide_false, ne_eq, Nat.left_eq_add, Nat.add_eq_left, Nat.add_left_cancel_iff, Nat.add_zero]
  rw [hi] at K
  exact K
theorem it_stop1 (hi : i < t.length) (hf : FR u f ts md k d) (hm : md ≤ 4) (hr : Rw u r c t) (hb : t.getD i 0 = b) (hx : 80 ≤ i ∨ ¬ sg b ∨ (md = 0 ∧ (slts ts).length = 6 ∧ b = 123 ∧ ¬ t.getD (i + 1) 0 = 123)) (K : Q (.inl (.int (Int32.ofNat i))) u) : Wp 29 24 [.ref f, .ref r, .int (Int32.ofNat i), y] [] u Q := by
  have h5 := hr.2.2.2.2.1
  have h6 := hr.2.2.2.2.2.1
  have hl := hr.lt i
  rw [U29_24]
  simp (disch := omega) only [U29_0, U29_1, U29_4, U29_7, U29_8, U29_9, U29_12, U29_13, U29_14, U29_17, U29_18, U29_19, U29_22, U29_23, U29_25, U29_26, U29_29, U29_32, U29_33, U29_34, U29_37, U29_38, U29_39, U29_41, U29_44, U29_45, U29_48, U29_51, U29_52, U29_53, U29_54, U29_57, U29_60, U29_61, U29_62, U29_65, U29_68, U29_69, U29_70, U29_71, U29_74, U29_75, U29_78, U29_81, U29_84, U29_85, U29_88, U29_91, U29_92, U29_95, U29_96, U29_99, hr.1, Row_held hr, V89, Row_at hr, V85, Row_isSign hl, V92, Format_opens hf hr hm, V34, bz_0, hf.1.1, hi, i_add, i_mul, i_sub, i_addn, i_lt, i_eq, i_idx, i_vp, true_and, and_true, false_and, and_false, if_true, if_false, Nat.reduceAdd, Nat.reduceMul, Nat.reduceSub, Nat.reduceEqDiff, Option.some.injEq, exists_eq_left', true_or, or_true, false_or, or_false, not_true_eq_false, not_false_eq_true, eq_self, and_self, Nat.reduceLeDiff, decide_true, decide_false, ne_eq, Nat.left_eq_add, Nat.add_eq_left, Nat.add_left_cancel_iff, Nat.add_zero]
  by_cases h1 : i < 80
  · rw [if_pos h1]
    by_cases h2 : sg (t.getD i 0)
    · rw [if_neg (fun z => z h2)]
      have h3 : md = 0 ∧ (slts ts).length = 6 ∧ t.getD i 0 = 123 ∧ ¬ t.getD (i + 1) 0 = 123 := by
        rcases hx with z | z | z
        · omega
        · exact absurd (hb ▸ h2) z
        · exact ⟨z.1, z.2.1, hb.trans z.2.2.1, z.2.2.2⟩
      rw [if_neg (fun z => z h3)]
      exact K
    · rw [if_pos h2]; exact K
  · rw [if_neg h1]; exact K
theorem it_pre (hi : i < t.length) (h80 : i < 80) (hf : FR u f ts md k d) (hm : md ≤ 4) (hr : Rw u r c t) (hb : t.getD i 0 = b) (hs : sg b) (ho : ¬ (md = 0 ∧ (slts ts).length = 6 ∧ b = 123 ∧ ¬ t.getD (i + 1) 0 = 123)) (K : Wp 39 0 [.ref f, .int (Int32.ofNat b)] [] u (bk_ Wp 29 62 0 39 [.ref f, .ref r, .int (Int32.ofNat i), .int (Int32.ofNat b)] [] Q)) : Wp 29 24 [.ref f, .ref r, .int (Int32.ofNat i), y] [] u Q := by
  have h5 := hr.2.2.2.2.1
  have h6 := hr.2.2.2.2.2.1
  have hl := hr.lt i
  rw [U29_24]
  simp (disch := omega) only [U29_0, U29_1, U29_4, U29_7, U29_8, U29_9, U29_12, U29_13, U29_14, U29_17, U29_18, U29_19, U29_22, U29_23, U29_25, U29_26, U29_29, U29_32, U29_33, U29_34, U29_37, U29_38, U29_39, U29_41, U29_44, U29_45, U29_48, U29_51, U29_52, U29_53, U29_54, U29_57, U29_60, U29_61, U29_62, U29_65, U29_68, U29_69, U29_70, U29_71, U29_74, U29_75, U29_78, U29_81, U29_84, U29_85, U29_88, U29_91, U29_92, U29_95, U29_96, U29_99, hr.1, Row_held hr, V89, Row_at hr, V85, Row_isSign hl, V92, Format_opens hf hr hm, V34, bz_0, hf.1.1, hi, h80, i_add, i_mul, i_sub, i_addn, i_lt, i_eq, i_idx, i_vp, true_and, and_true, false_and, and_false, if_true, if_false, Nat.reduceAdd, Nat.reduceMul, Nat.reduceSub, Nat.reduceEqDiff, Option.some.injEq, exists_eq_left', true_or, or_true, false_or, or_false, not_true_eq_false, not_false_eq_true, eq_self, and_self, Nat.reduceLeDiff, decide_true, decide_false, ne_eq, Nat.left_eq_add, Nat.add_eq_left, Nat.add_left_cancel_iff, Nat.add_zero]
  rw [hb]
  rw [if_neg (fun z => z hs), if_pos ho]
  exact K
theorem it_stop2 (hi : i < t.length) (h80 : i < 80) (hf : FR u f ts md k d) (hm : md ≤ 4) (hr : Rw u r c t) (hb : t.getD i 0 = b) (hs : sg b) (ho : ¬ (md = 0 ∧ (slts ts).length = 6 ∧ b = 123 ∧ ¬ t.getD (i + 1) 0 = 123)) (hT : Wp 39 0 [.ref f, .int (Int32.ofNat b)] [] u (fun v u' => v = .inl (.int (Int32.ofNat 0)) ∧ Fz (SF f) u u')) (K : ∀ u', Fz (SF f) u u' → Q (.inl (.int (Int32.ofNat i))) u') : Wp 29 24 [.ref f, .ref r, .int (Int32.ofNat i), y] [] u Q := by
  refine it_pre hi h80 hf hm hr hb hs ho (Wp_use hT ?_)
  rintro _ u' ⟨rfl, z⟩
  simp (disch := omega) only [V39, U29_0, U29_1, U29_4, U29_7, U29_8, U29_9, U29_12, U29_13, U29_14, U29_17, U29_18, U29_19, U29_22, U29_23, U29_25, U29_26, U29_29, U29_32, U29_33, U29_34, U29_37, U29_38, U29_39, U29_41, U29_44, U29_45, U29_48, U29_51, U29_52, U29_53, U29_54, U29_57, U29_60, U29_61, U29_62, U29_65, U29_68, U29_69, U29_70, U29_71, U29_74, U29_75, U29_78, U29_81, U29_84, U29_85, U29_88, U29_91, U29_92, U29_95, U29_96, U29_99, i_add, i_mul, i_sub, i_addn, i_lt, i_eq, i_idx, i_vp, true_and, and_true, false_and, and_false, if_true, if_false, Nat.reduceAdd, Nat.reduceMul, Nat.reduceSub, Nat.reduceEqDiff, Option.some.injEq, exists_eq_left', true_or, or_true, false_or, or_false, not_true_eq_false, not_false_eq_true, eq_self, and_self, Nat.reduceLeDiff, decide_true, decide_false, ne_eq, Nat.left_eq_add, Nat.add_eq_left, Nat.add_left_cancel_iff, Nat.add_zero]
  exact K u' z
theorem it_go (hi : i < t.length) (h80 : i < 80) (hf : FR u f ts md k d) (hm : md ≤ 4) (hr : Rw u r c t) (hsp : Rw u (f + 1) 80 sp) (hsl : sp.length < 80) (ap : r + 2 ≤ f ∨ f + 6 ≤ r) (hb : t.getD i 0 = b) (hs : sg b) (ho : ¬ (md = 0 ∧ (slts ts).length = 6 ∧ b = 123 ∧ ¬ t.getD (i + 1) 0 = 123)) (hT : Wp 39 0 [.ref f, .int (Int32.ofNat b)] [] u (fun v u' => v = .inl (.int (Int32.ofNat 1)) ∧ FR u' f ts' md' k' d' ∧ Fz (SF f) u u')) (K : ∀ u', FR u' f ts' md' k' d' → Rw u' r c t → Rw u' (f + 1) 80 (sp ++ [b]) → Fz (SA f) u u' → Wp 29 24 [.ref f, .ref r, .int (Int32.ofNat (i + 1)), .int (Int32.ofNat b)] [] u' Q) : Wp 29 24 [.ref f, .ref r, .int (Int32.ofNat i), y] [] u Q := by
  refine it_pre hi h80 hf hm hr hb hs ho (Wp_use hT ?_)
  rintro _ u' ⟨rfl, hf', z⟩
  have hsp' : Rw u' (f + 1) 80 sp := hsp.fz z (by unfold SR SF; intro a i z1 z2; omega)
  simp (disch := omega) only [V39, U29_0, U29_1, U29_4, U29_7, U29_8, U29_9, U29_12, U29_13, U29_14, U29_17, U29_18, U29_19, U29_22, U29_23, U29_25, U29_26, U29_29, U29_32, U29_33, U29_34, U29_37, U29_38, U29_39, U29_41, U29_44, U29_45, U29_48, U29_51, U29_52, U29_53, U29_54, U29_57, U29_60, U29_61, U29_62, U29_65, U29_68, U29_69, U29_70, U29_71, U29_74, U29_75, U29_78, U29_81, U29_84, U29_85, U29_88, U29_91, U29_92, U29_95, U29_96, U29_99, show ¬ (1 : Nat) = 0 by decide, hf'.1.1, hf'.1.2.1, hsp'.1, i_add, i_mul, i_sub, i_addn, i_lt, i_eq, i_idx, i_vp, true_and, and_true, false_and, and_false, if_true, if_false, Nat.reduceAdd, Nat.reduceMul, Nat.reduceSub, Nat.reduceEqDiff, Option.some.injEq, exists_eq_left', true_or, or_true, false_or, or_false, not_true_eq_false, not_false_eq_true, eq_self, and_self, Nat.reduceLeDiff, decide_true, decide_false, ne_eq, Nat.left_eq_add, Nat.add_eq_left, Nat.add_left_cancel_iff, Nat.add_zero]
  refine Wp_use (Row_put hsp' hsl) ?_
  rintro _ u2 ⟨rfl, hsp2, z2⟩
  simp (disch := omega) only [V93, U29_0, U29_1, U29_4, U29_7, U29_8, U29_9, U29_12, U29_13, U29_14, U29_17, U29_18, U29_19, U29_22, U29_23, U29_25, U29_26, U29_29, U29_32, U29_33, U29_34, U29_37, U29_38, U29_39, U29_41, U29_44, U29_45, U29_48, U29_51, U29_52, U29_53, U29_54, U29_57, U29_60, U29_61, U29_62, U29_65, U29_68, U29_69, U29_70, U29_71, U29_74, U29_75, U29_78, U29_81, U29_84, U29_85, U29_88, U29_91, U29_92, U29_95, U29_96, U29_99, i_add, i_mul, i_sub, i_addn, i_lt, i_eq, i_idx, i_vp, true_and, and_true, false_and, and_false, if_true, if_false, Nat.reduceAdd, Nat.reduceMul, Nat.reduceSub, Nat.reduceEqDiff, Option.some.injEq, exists_eq_left', true_or, or_true, false_or, or_false, not_true_eq_false, not_false_eq_true, eq_self, and_self, Nat.reduceLeDiff, decide_true, decide_false, ne_eq, Nat.left_eq_add, Nat.add_eq_left, Nat.add_left_cancel_iff, Nat.add_zero]
  have hb256 : b < 256 := by have := hr.lt i; omega
  rw [lo8_of, Nat.mod_eq_of_lt hb256] at hsp2
  refine K u2 (hf'.fz z2 (by unfold SR SF; intro a i z1 z2; omega)) ((hr.fz z (by unfold SR SF; intro a i z1 z2; omega)).fz z2 (by unfold SR; intro a i z1 z2; omega)) hsp2 ?_
  exact (z.mono (fun a i z => Or.inl z)).trans (z2.mono (fun a i z => Or.inr z))
end It
