/-! ===== Block: pack ===== -/
theorem Arrays_fill {h : MH_} {a n : Nat} {x : Int32} (ha : kd_ h a = 30) (hl : ln_ h a = n) (hn : n < 1000000) : Wp 224 0 [.ref a, .int x, .null, .null] [] h (fun v h' => v = .inl .null ∧ (∀ i, i < n → gI_ h' a i = x) ∧ Fz (fun b _ => b = a) h h') := by
  have key : ∀ m k u, k + m = n → Fz (fun b _ => b = a) h u → (∀ i, i < k → gI_ u a i = x) → Wp 224 5 [.ref a, .int x, .int (Int32.ofNat k), .int (Int32.ofNat n)] [] u (fun v h' => v = .inl .null ∧ (∀ i, i < n → gI_ h' a i = x) ∧ Fz (fun b _ => b = a) h h') := by
    intro m
    induction m with
    | zero =>
      intro k u hk z hu
      rw [U224_5]
      simp (disch := omega) only [U224_0, U224_1, U224_2, U224_3, U224_4, U224_6, U224_7, U224_10, U224_11, U224_12, U224_13, U224_14, U224_17, U224_20, show ¬ k < n by omega, i_add, i_mul, i_sub, i_addn, i_lt, i_eq, i_idx, i_vp, true_and, and_true, false_and, and_false, if_true, if_false, Nat.reduceAdd, Nat.reduceMul, Nat.reduceSub, Nat.reduceEqDiff, Option.some.injEq, exists_eq_left', true_or, or_true, false_or, or_false, not_true_eq_false, not_false_eq_true, eq_self, and_self, Nat.reduceLeDiff, decide_true, decide_false, ne_eq, Nat.left_eq_add, Nat.add_eq_left, Nat.add_left_cancel_iff, Nat.add_zero]
      exact ⟨fun i hi => hu i (by omega), z⟩
    | succ m ih =>
      intro k u hk z hu
      have g1 : kd_ u a = 30 := by rw [z.kd, ha]
      have g2 : ln_ u a = n := by rw [z.ln, hl]
      rw [U224_5]
      simp (disch := omega) only [U224_0, U224_1, U224_2, U224_3, U224_4, U224_6, U224_7, U224_10, U224_11, U224_12, U224_13, U224_14, U224_17, U224_20, g1, g2, show k < n by omega, i_add, i_mul, i_sub, i_addn, i_lt, i_eq, i_idx, i_vp, true_and, and_true, false_and, and_false, if_true, if_false, Nat.reduceAdd, Nat.reduceMul, Nat.reduceSub, Nat.reduceEqDiff, Option.some.injEq, exists_eq_left', true_or, or_true, false_or, or_false, not_true_eq_false, not_false_eq_true, eq_self, and_self, Nat.reduceLeDiff, decide_true, decide_false, ne_eq, Nat.left_eq_add, Nat.add_eq_left, Nat.add_left_cancel_iff, Nat.add_zero]
      refine ih (k + 1) _ (by omega) (z.sI rfl) (fun i hi => ?_)
      rw [z_gI_sI]
      by_cases h1 : i = k
      · rw [if_pos ⟨rfl, h1⟩]
      · rw [if_neg (by omega), hu i (by omega)]
  simp (disch := omega) only [U224_0, U224_1, U224_2, U224_3, U224_4, U224_6, U224_7, U224_10, U224_11, U224_12, U224_13, U224_14, U224_17, U224_20, ha, hl, show (30 : Nat) ≤ 30 by decide, show (30 : Nat) ≤ 38 by decide, i_add, i_mul, i_sub, i_addn, i_lt, i_eq, i_idx, i_vp, true_and, and_true, false_and, and_false, if_true, if_false, Nat.reduceAdd, Nat.reduceMul, Nat.reduceSub, Nat.reduceEqDiff, Option.some.injEq, exists_eq_left', true_or, or_true, false_or, or_false, not_true_eq_false, not_false_eq_true, eq_self, and_self, Nat.reduceLeDiff, decide_true, decide_false, ne_eq, Nat.left_eq_add, Nat.add_eq_left, Nat.add_left_cancel_iff, Nat.add_zero]
  exact key n 0 h (by omega) Fz.rfl' (fun i hi => absurd hi (Nat.not_lt_zero _))
/-- a number packed against the last one -/
def pkN (x la : Int32) : List Nat := if x - la = Int32.ofNat 0 then [0] else if x - la < -(Int32.ofNat 60) ∨ Int32.ofNat 60 < x - la then 255 :: bigB x.toInt64 4 else [lo8 (Int32.ofNat 64 + (x - la))]
theorem bigB_len (x : Int64) : ∀ n, (bigB x n).length = n
  | 0 => rfl
  | n + 1 => by rw [bigB, List.length_cons, bigB_len x n]
theorem pkN_len {x la : Int32} : (pkN x la).length ≤ 5 := by
  unfold pkN
  split
  · simp
  · split
    · rw [List.length_cons, bigB_len]; omega
    · simp
theorem Block_packNumber {h : MH_} {r c : Nat} {x la : Int32} {l : List Nat} (hr : Rw h r c l) (hc : l.length + 5 ≤ c) : Wp 8 0 [.int x, .int la, .ref r, .null] [] h (fun v h' => v = .inl .null ∧ Rw h' r c (l ++ pkN x la) ∧ Fz (SR r) h h') := by
  unfold pkN
  by_cases h0 : x - la = Int32.ofNat 0
  · rw [if_pos h0]
    simp (disch := omega) only [U8_0, U8_1, U8_2, U8_3, U8_4, U8_5, U8_8, U8_9, U8_10, U8_13, U8_16, U8_17, U8_19, U8_22, U8_23, U8_25, U8_28, U8_29, U8_31, U8_32, U8_33, U8_36, U8_39, U8_40, U8_43, U8_46, U8_47, U8_48, U8_49, U8_50, U8_53, hr.1, h0, true_and, and_true, false_and, and_false, if_true, if_false, Nat.reduceAdd, Nat.reduceMul, Nat.reduceSub, Nat.reduceEqDiff, Option.some.injEq, exists_eq_left', true_or, or_true, false_or, or_false, not_true_eq_false, not_false_eq_true, eq_self, and_self, Nat.reduceLeDiff, decide_true, decide_false, ne_eq, Nat.left_eq_add, Nat.add_eq_left, Nat.add_left_cancel_iff, Nat.add_zero]
    refine Wp_use (Row_put hr (by omega)) ?_
    rintro _ h1 ⟨rfl, hr1, f1⟩
    simp (disch := omega) only [V93, U8_0, U8_1, U8_2, U8_3, U8_4, U8_5, U8_8, U8_9, U8_10, U8_13, U8_16, U8_17, U8_19, U8_22, U8_23, U8_25, U8_28, U8_29, U8_31, U8_32, U8_33, U8_36, U8_39, U8_40, U8_43, U8_46, U8_47, U8_48, U8_49, U8_50, U8_53, true_and, and_true, false_and, and_false, if_true, if_false, Nat.reduceAdd, Nat.reduceMul, Nat.reduceSub, Nat.reduceEqDiff, Option.some.injEq, exists_eq_left', true_or, or_true, false_or, or_false, not_true_eq_false, not_false_eq_true, eq_self, and_self, Nat.reduceLeDiff, decide_true, decide_false, ne_eq, Nat.left_eq_add, Nat.add_eq_left, Nat.add_left_cancel_iff, Nat.add_zero]
    rw [lo8_of] at hr1
    exact ⟨hr1, f1⟩
  · rw [if_neg h0]
    have itself : Wp 8 39 [.int x, .int la, .ref r, .int (x - la)] [] h (fun v h' => v = .inl .null ∧ Rw h' r c (l ++ 255 :: bigB x.toInt64 4) ∧ Fz (SR r) h h') := by
      simp (disch := omega) only [U8_0, U8_1, U8_2, U8_3, U8_4, U8_5, U8_8, U8_9, U8_10, U8_13, U8_16, U8_17, U8_19, U8_22, U8_23, U8_25, U8_28, U8_29, U8_31, U8_32, U8_33, U8_36, U8_39, U8_40, U8_43, U8_46, U8_47, U8_48, U8_49, U8_50, U8_53, hr.1, true_and, and_true, false_and, and_false, if_true, if_false, Nat.reduceAdd, Nat.reduceMul, Nat.reduceSub, Nat.reduceEqDiff, Option.some.injEq, exists_eq_left', true_or, or_true, false_or, or_false, not_true_eq_false, not_false_eq_true, eq_self, and_self, Nat.reduceLeDiff, decide_true, decide_false, ne_eq, Nat.left_eq_add, Nat.add_eq_left, Nat.add_left_cancel_iff, Nat.add_zero]
      refine Wp_use (Row_put hr (by omega)) ?_
      rintro _ h1 ⟨rfl, hr1, f1⟩
      simp (disch := omega) only [V93, U8_0, U8_1, U8_2, U8_3, U8_4, U8_5, U8_8, U8_9, U8_10, U8_13, U8_16, U8_17, U8_19, U8_22, U8_23, U8_25, U8_28, U8_29, U8_31, U8_32, U8_33, U8_36, U8_39, U8_40, U8_43, U8_46, U8_47, U8_48, U8_49, U8_50, U8_53, hr1.1, true_and, and_true, false_and, and_false, if_true, if_false, Nat.reduceAdd, Nat.reduceMul, Nat.reduceSub, Nat.reduceEqDiff, Option.some.injEq, exists_eq_left', true_or, or_true, false_or, or_false, not_true_eq_false, not_false_eq_true, eq_self, and_self, Nat.reduceLeDiff, decide_true, decide_false, ne_eq, Nat.left_eq_add, Nat.add_eq_left, Nat.add_left_cancel_iff, Nat.add_zero]
      refine Wp_use (Row_putBig hr1 (by omega) (by rw [List.length_append, List.length_singleton]; omega)) ?_
      rintro _ h2 ⟨rfl, hr2, f2⟩
      simp (disch := omega) only [V94, U8_0, U8_1, U8_2, U8_3, U8_4, U8_5, U8_8, U8_9, U8_10, U8_13, U8_16, U8_17, U8_19, U8_22, U8_23, U8_25, U8_28, U8_29, U8_31, U8_32, U8_33, U8_36, U8_39, U8_40, U8_43, U8_46, U8_47, U8_48, U8_49, U8_50, U8_53, true_and, and_true, false_and, and_false, if_true, if_false, Nat.reduceAdd, Nat.reduceMul, Nat.reduceSub, Nat.reduceEqDiff, Option.some.injEq, exists_eq_left', true_or, or_true, false_or, or_false, not_true_eq_false, not_false_eq_true, eq_self, and_self, Nat.reduceLeDiff, decide_true, decide_false, ne_eq, Nat.left_eq_add, Nat.add_eq_left, Nat.add_left_cancel_iff, Nat.add_zero]
      rw [lo8_of, List.append_assoc] at hr2
      exact ⟨hr2, f1.trans f2⟩
    by_cases h1 : x - la < -(Int32.ofNat 60)
    · rw [if_pos (Or.inl h1)]
      simp (disch := omega) only [U8_0, U8_1, U8_2, U8_3, U8_4, U8_5, U8_16, U8_17, U8_19, h0, h1, true_and, and_true, false_and, and_false, if_true, if_false, Nat.reduceAdd, Nat.reduceMul, Nat.reduceSub, Nat.reduceEqDiff, Option.some.injEq, exists_eq_left', true_or, or_true, false_or, or_false, not_true_eq_false, not_false_eq_true, eq_self, and_self, Nat.reduceLeDiff, decide_true, decide_false, ne_eq, Nat.left_eq_add, Nat.add_eq_left, Nat.add_left_cancel_iff, Nat.add_zero]
      exact itself
    · by_cases h2 : Int32.ofNat 60 < x - la
      · rw [if_pos (Or.inr h2)]
        simp (disch := omega) only [U8_0, U8_1, U8_2, U8_3, U8_4, U8_5, U8_16, U8_17, U8_19, U8_22, U8_23, U8_25, h0, h1, h2, true_and, and_true, false_and, and_false, if_true, if_false, Nat.reduceAdd, Nat.reduceMul, Nat.reduceSub, Nat.reduceEqDiff, Option.some.injEq, exists_eq_left', true_or, or_true, false_or, or_false, not_true_eq_false, not_false_eq_true, eq_self, and_self, Nat.reduceLeDiff, decide_true, decide_false, ne_eq, Nat.left_eq_add, Nat.add_eq_left, Nat.add_left_cancel_iff, Nat.add_zero]
        exact itself
      · rw [if_neg (by rintro (z | z); exact h1 z; exact h2 z)]
        simp (disch := omega) only [U8_0, U8_1, U8_2, U8_3, U8_4, U8_5, U8_8, U8_9, U8_10, U8_13, U8_16, U8_17, U8_19, U8_22, U8_23, U8_25, U8_28, U8_29, U8_31, U8_32, U8_33, U8_36, U8_39, U8_40, U8_43, U8_46, U8_47, U8_48, U8_49, U8_50, U8_53, hr.1, h0, h1, h2, true_and, and_true, false_and, and_false, if_true, if_false, Nat.reduceAdd, Nat.reduceMul, Nat.reduceSub, Nat.reduceEqDiff, Option.some.injEq, exists_eq_left', true_or, or_true, false_or, or_false, not_true_eq_false, not_false_eq_true, eq_self, and_self, Nat.reduceLeDiff, decide_true, decide_false, ne_eq, Nat.left_eq_add, Nat.add_eq_left, Nat.add_left_cancel_iff, Nat.add_zero]
        refine Wp_use (Row_put hr (by omega)) ?_
        rintro _ h1 ⟨rfl, hr1, f1⟩
        simp (disch := omega) only [V93, U8_0, U8_1, U8_2, U8_3, U8_4, U8_5, U8_8, U8_9, U8_10, U8_13, U8_16, U8_17, U8_19, U8_22, U8_23, U8_25, U8_28, U8_29, U8_31, U8_32, U8_33, U8_36, U8_39, U8_40, U8_43, U8_46, U8_47, U8_48, U8_49, U8_50, U8_53, true_and, and_true, false_and, and_false, if_true, if_false, Nat.reduceAdd, Nat.reduceMul, Nat.reduceSub, Nat.reduceEqDiff, Option.some.injEq, exists_eq_left', true_or, or_true, false_or, or_false, not_true_eq_false, not_false_eq_true, eq_self, and_self, Nat.reduceLeDiff, decide_true, decide_false, ne_eq, Nat.left_eq_add, Nat.add_eq_left, Nat.add_left_cancel_iff, Nat.add_zero]
        exact ⟨hr1, f1⟩
/-- what a block is made of -/
def Bs (h : MH_) (b : Nat) : Prop := kd_ h b = 1 ∧ gP_ h b 1 = some (b + 1) ∧ gP_ h b 2 = some (b + 3) ∧ kd_ h (b + 3) = 30 ∧ ln_ h (b + 3) = 240
theorem Bs.fz {S : Nat → Nat → Prop} {h h' : MH_} {b : Nat} (hb : Bs h b) (z : Fz S h h') : Bs h' b := by
  obtain ⟨a1, a2, a3, a4, a5⟩ := hb
  exact ⟨by rw [z.kd, a1], by rw [z.gP, a2], by rw [z.gP, a3], by rw [z.kd, a4], by rw [z.ln, a5]⟩
def pkA (la : Nat → Int32) (j : Nat) : Arg → List Nat
  | .inl x => pkN x (la j)
  | .inr t => t.length :: t
def pkL (la : Nat → Int32) : List Arg → Nat → List Nat
  | [], _ => []
  | a :: r, j => pkA la j a ++ pkL la r (j + 1)
/-- an event packed: its site, its time behind the last, its arguments against the site's last numbers -/
def pkE (s dt : Nat) (la : Nat → Int32) (as : List Arg) : List Nat := vrF 8 s ++ vrF 8 dt ++ pkL la as 0
theorem Block_pack {h : MH_} {b e r s dt : Nat} {as : List Arg} {l0 ev : List Nat} {w : Nat} {t : Int64} (hb : Bs h b) (hev : Rw h (b + 1) 238 ev) (he : Ea h e as) (hw : Ew h e w s t) (hr : Rw h r 120 l0) (hs : s < 40) (hdt : dt < 9223372036854775808) (hd : (ev = [] → dt = 0) ∧ (ev ≠ [] → t - gJ_ h b 5 = Int64.ofNat dt)) (ae : r + 2 ≤ e ∨ e + 4 ≤ r) (ab : r + 2 ≤ b ∨ b + 4 ≤ r) : Wp 7 0 [.ref b, .ref e, .ref r, .null] [] h (fun v h' => v = .inl .null ∧ Rw h' r 120 (pkE s dt (fun j => gI_ h (b + 3) (s * 6 + j)) as) ∧ Fz (SR r) h h') := by
  have h6 := he.2.1
  have key : ∀ n k u l, k + n = as.length → Fz (SR r) h u → Rw u r 120 l → l.length ≤ 18 + 17 * k → Wp 7 42 [.ref b, .ref e, .ref r, .int (Int32.ofNat k)] [] u (fun v h' => v = .inl .null ∧ Rw h' r 120 (l ++ pkL (fun j => gI_ h (b + 3) (s * 6 + j)) (as.drop k) k) ∧ Fz (SR r) h h') := by
    intro n
    induction n with
    | zero =>
      intro k u l hk z hr hl
      have he1 : Ea u e as := he.fz z (by unfold SE SR; intro a i y1 y2; omega)
      rw [U7_42]
      simp (disch := omega) only [U7_0, U7_1, U7_4, U7_5, U7_6, U7_9, U7_10, U7_13, U7_14, U7_15, U7_18, U7_21, U7_24, U7_25, U7_28, U7_29, U7_32, U7_33, U7_36, U7_37, U7_40, U7_41, U7_43, U7_44, U7_47, U7_50, U7_51, U7_52, U7_55, U7_58, U7_59, U7_60, U7_63, U7_64, U7_67, U7_68, U7_71, U7_72, U7_75, U7_76, U7_79, U7_82, U7_83, U7_84, U7_85, U7_88, U7_91, U7_92, U7_93, U7_94, U7_97, U7_100, U7_103, he1.1.1, Event_held he1, V16, show ¬ k < as.length by omega, i_add, i_mul, i_sub, i_addn, i_lt, i_eq, i_idx, i_vp, true_and, and_true, false_and, and_false, if_true, if_false, Nat.reduceAdd, Nat.reduceMul, Nat.reduceSub, Nat.reduceEqDiff, Option.some.injEq, exists_eq_left', true_or, or_true, false_or, or_false, not_true_eq_false, not_false_eq_true, eq_self, and_self, Nat.reduceLeDiff, decide_true, decide_false, ne_eq, Nat.left_eq_add, Nat.add_eq_left, Nat.add_left_cancel_iff, Nat.add_zero]
      rw [List.drop_of_length_le (by omega), pkL, List.append_nil]
      exact ⟨hr, z⟩
    | succ n ih =>
      intro k u l hk z hr hl
      have hkl : k < as.length := by omega
      have he1 : Ea u e as := he.fz z (by unfold SE SR; intro a i y1 y2; omega)
      have hb1 := hb.fz z
      have ho1 : gI_ u e 5 = Int32.ofNat s := by rw [z.gI (by unfold SR; omega)]; exact hw.2.1
      have hla : gI_ u (b + 3) (s * 6 + k) = gI_ h (b + 3) (s * 6 + k) := z.gI (by unfold SR; omega)
      rw [U7_42, List.drop_eq_getElem_cons hkl, pkL]
      cases hx : as[k] with
      | inl x =>
        have e1 : isN as k = true := by unfold isN; rw [List.getElem?_eq_getElem hkl, hx]
        have e2 : numA as k = x := by unfold numA; rw [List.getElem?_eq_getElem hkl, hx]; rfl
        simp (disch := omega) only [U7_0, U7_1, U7_4, U7_5, U7_6, U7_9, U7_10, U7_13, U7_14, U7_15, U7_18, U7_21, U7_24, U7_25, U7_28, U7_29, U7_32, U7_33, U7_36, U7_37, U7_40, U7_41, U7_43, U7_44, U7_47, U7_50, U7_51, U7_52, U7_55, U7_58, U7_59, U7_60, U7_63, U7_64, U7_67, U7_68, U7_71, U7_72, U7_75, U7_76, U7_79, U7_82, U7_83, U7_84, U7_85, U7_88, U7_91, U7_92, U7_93, U7_94, U7_97, U7_100, U7_103, he1.1.1, hb1.1, hb1.2.2.1, ho1, hla, Event_held he1, V16, Event_hasNumber he1, V15, Event_numberAt he1, V20, U21_0, U21_1, U21_4, V21, Event_lastIn hb1.2.2.2.1 hb1.2.2.2.2 hs (show k < 6 by omega), V19, bz_0, e1, e2, hkl, i_add, i_mul, i_sub, i_addn, i_lt, i_eq, i_idx, i_vp, true_and, and_true, false_and, and_false, if_true, if_false, Nat.reduceAdd, Nat.reduceMul, Nat.reduceSub, Nat.reduceEqDiff, Option.some.injEq, exists_eq_left', true_or, or_true, false_or, or_false, not_true_eq_false, not_false_eq_true, eq_self, and_self, Nat.reduceLeDiff, decide_true, decide_false, ne_eq, Nat.left_eq_add, Nat.add_eq_left, Nat.add_left_cancel_iff, Nat.add_zero]
        refine Wp_use (Block_packNumber hr (by omega)) ?_
        rintro _ h1 ⟨rfl, hr1, f1⟩
        simp (disch := omega) only [V8, U7_0, U7_1, U7_4, U7_5, U7_6, U7_9, U7_10, U7_13, U7_14, U7_15, U7_18, U7_21, U7_24, U7_25, U7_28, U7_29, U7_32, U7_33, U7_36, U7_37, U7_40, U7_41, U7_43, U7_44, U7_47, U7_50, U7_51, U7_52, U7_55, U7_58, U7_59, U7_60, U7_63, U7_64, U7_67, U7_68, U7_71, U7_72, U7_75, U7_76, U7_79, U7_82, U7_83, U7_84, U7_85, U7_88, U7_91, U7_92, U7_93, U7_94, U7_97, U7_100, U7_103, i_add, i_mul, i_sub, i_addn, i_lt, i_eq, i_idx, i_vp, true_and, and_true, false_and, and_false, if_true, if_false, Nat.reduceAdd, Nat.reduceMul, Nat.reduceSub, Nat.reduceEqDiff, Option.some.injEq, exists_eq_left', true_or, or_true, false_or, or_false, not_true_eq_false, not_false_eq_true, eq_self, and_self, Nat.reduceLeDiff, decide_true, decide_false, ne_eq, Nat.left_eq_add, Nat.add_eq_left, Nat.add_left_cancel_iff, Nat.add_zero]
        refine Wp_use (ih (k + 1) h1 _ (by omega) (z.trans f1) hr1 (by have := @pkN_len x (gI_ h (b + 3) (s * 6 + k)); rw [List.length_append]; omega)) ?_
        rintro _ h2 ⟨rfl, hr2, f2⟩
        rw [List.append_assoc] at hr2
        exact ⟨rfl, hr2, f2⟩
      | inr tt =>
        have c := he1.2.2.2 k hkl
        rw [hx] at c
        have c16 := c.2.2.1
        have e1 : isN as k = false := by unfold isN; rw [List.getElem?_eq_getElem hkl, hx]
        have e2 : numA as k = Int32.ofNat tt.length := by unfold numA; rw [List.getElem?_eq_getElem hkl, hx]; rfl
        simp (disch := omega) only [U7_0, U7_1, U7_4, U7_5, U7_6, U7_9, U7_10, U7_13, U7_14, U7_15, U7_18, U7_21, U7_24, U7_25, U7_28, U7_29, U7_32, U7_33, U7_36, U7_37, U7_40, U7_41, U7_43, U7_44, U7_47, U7_50, U7_51, U7_52, U7_55, U7_58, U7_59, U7_60, U7_63, U7_64, U7_67, U7_68, U7_71, U7_72, U7_75, U7_76, U7_79, U7_82, U7_83, U7_84, U7_85, U7_88, U7_91, U7_92, U7_93, U7_94, U7_97, U7_100, U7_103, he1.1.1, hr.1, Event_held he1, V16, Event_hasNumber he1, V15, Event_numberAt he1, V20, bz_0, e1, e2, hkl, Bool.false_eq_true, i_add, i_mul, i_sub, i_addn, i_lt, i_eq, i_idx, i_vp, true_and, and_true, false_and, and_false, if_true, if_false, Nat.reduceAdd, Nat.reduceMul, Nat.reduceSub, Nat.reduceEqDiff, Option.some.injEq, exists_eq_left', true_or, or_true, false_or, or_false, not_true_eq_false, not_false_eq_true, eq_self, and_self, Nat.reduceLeDiff, decide_true, decide_false, ne_eq, Nat.left_eq_add, Nat.add_eq_left, Nat.add_left_cancel_iff, Nat.add_zero]
        refine Wp_use (Row_put hr (by omega)) ?_
        rintro _ h1 ⟨rfl, hr1, f1⟩
        have he2 : Ea h1 e as := he1.fz f1 (by unfold SE SR; intro a i y1 y2; omega)
        simp (disch := omega) only [V93, U7_0, U7_1, U7_4, U7_5, U7_6, U7_9, U7_10, U7_13, U7_14, U7_15, U7_18, U7_21, U7_24, U7_25, U7_28, U7_29, U7_32, U7_33, U7_36, U7_37, U7_40, U7_41, U7_43, U7_44, U7_47, U7_50, U7_51, U7_52, U7_55, U7_58, U7_59, U7_60, U7_63, U7_64, U7_67, U7_68, U7_71, U7_72, U7_75, U7_76, U7_79, U7_82, U7_83, U7_84, U7_85, U7_88, U7_91, U7_92, U7_93, U7_94, U7_97, U7_100, U7_103, he2.1.1, i_add, i_mul, i_sub, i_addn, i_lt, i_eq, i_idx, i_vp, true_and, and_true, false_and, and_false, if_true, if_false, Nat.reduceAdd, Nat.reduceMul, Nat.reduceSub, Nat.reduceEqDiff, Option.some.injEq, exists_eq_left', true_or, or_true, false_or, or_false, not_true_eq_false, not_false_eq_true, eq_self, and_self, Nat.reduceLeDiff, decide_true, decide_false, ne_eq, Nat.left_eq_add, Nat.add_eq_left, Nat.add_left_cancel_iff, Nat.add_zero]
        refine Wp_use (Event_putText he2 hr1 (by rw [List.getElem?_eq_getElem hkl, hx]) (by rw [List.length_append, List.length_singleton]; omega) ae) ?_
        rintro _ h2 ⟨rfl, hr2, f2⟩
        simp (disch := omega) only [V22, U7_0, U7_1, U7_4, U7_5, U7_6, U7_9, U7_10, U7_13, U7_14, U7_15, U7_18, U7_21, U7_24, U7_25, U7_28, U7_29, U7_32, U7_33, U7_36, U7_37, U7_40, U7_41, U7_43, U7_44, U7_47, U7_50, U7_51, U7_52, U7_55, U7_58, U7_59, U7_60, U7_63, U7_64, U7_67, U7_68, U7_71, U7_72, U7_75, U7_76, U7_79, U7_82, U7_83, U7_84, U7_85, U7_88, U7_91, U7_92, U7_93, U7_94, U7_97, U7_100, U7_103, i_add, i_mul, i_sub, i_addn, i_lt, i_eq, i_idx, i_vp, true_and, and_true, false_and, and_false, if_true, if_false, Nat.reduceAdd, Nat.reduceMul, Nat.reduceSub, Nat.reduceEqDiff, Option.some.injEq, exists_eq_left', true_or, or_true, false_or, or_false, not_true_eq_false, not_false_eq_true, eq_self, and_self, Nat.reduceLeDiff, decide_true, decide_false, ne_eq, Nat.left_eq_add, Nat.add_eq_left, Nat.add_left_cancel_iff, Nat.add_zero]
        rw [lo8_of, Nat.mod_eq_of_lt (by omega), List.append_assoc, List.singleton_append] at hr2
        refine Wp_use (ih (k + 1) h2 _ (by omega) (z.trans (f1.trans f2)) hr2 (by rw [List.length_append, List.length_cons]; omega)) ?_
        rintro _ h3 ⟨rfl, hr3, f3⟩
        rw [List.append_assoc] at hr3
        exact ⟨rfl, hr3, f3⟩
  simp (disch := omega) only [U7_0, U7_1, U7_4, U7_5, U7_6, U7_9, U7_10, U7_13, U7_14, U7_15, U7_18, U7_21, U7_24, U7_25, U7_28, U7_29, U7_32, U7_33, U7_36, U7_37, U7_40, U7_41, U7_43, U7_44, U7_47, U7_50, U7_51, U7_52, U7_55, U7_58, U7_59, U7_60, U7_63, U7_64, U7_67, U7_68, U7_71, U7_72, U7_75, U7_76, U7_79, U7_82, U7_83, U7_84, U7_85, U7_88, U7_91, U7_92, U7_93, U7_94, U7_97, U7_100, U7_103, hr.1, true_and, and_true, false_and, and_false, if_true, if_false, Nat.reduceAdd, Nat.reduceMul, Nat.reduceSub, Nat.reduceEqDiff, Option.some.injEq, exists_eq_left', true_or, or_true, false_or, or_false, not_true_eq_false, not_false_eq_true, eq_self, and_self, Nat.reduceLeDiff, decide_true, decide_false, ne_eq, Nat.left_eq_add, Nat.add_eq_left, Nat.add_left_cancel_iff, Nat.add_zero]
  refine Wp_use (Row_begin hr) ?_
  rintro _ h1 ⟨rfl, hr1, f1⟩
  have he1 : Ea h1 e as := he.fz f1 (by unfold SE SR; intro a i y1 y2; omega)
  have ho1 : gI_ h1 e 5 = Int32.ofNat s := by rw [f1.gI (by unfold SR; omega)]; exact hw.2.1
  simp (disch := omega) only [V86, U7_0, U7_1, U7_4, U7_5, U7_6, U7_9, U7_10, U7_13, U7_14, U7_15, U7_18, U7_21, U7_24, U7_25, U7_28, U7_29, U7_32, U7_33, U7_36, U7_37, U7_40, U7_41, U7_43, U7_44, U7_47, U7_50, U7_51, U7_52, U7_55, U7_58, U7_59, U7_60, U7_63, U7_64, U7_67, U7_68, U7_71, U7_72, U7_75, U7_76, U7_79, U7_82, U7_83, U7_84, U7_85, U7_88, U7_91, U7_92, U7_93, U7_94, U7_97, U7_100, U7_103, he1.1.1, ho1, hr1.1, U21_0, U21_1, U21_4, V21, i64, true_and, and_true, false_and, and_false, if_true, if_false, Nat.reduceAdd, Nat.reduceMul, Nat.reduceSub, Nat.reduceEqDiff, Option.some.injEq, exists_eq_left', true_or, or_true, false_or, or_false, not_true_eq_false, not_false_eq_true, eq_self, and_self, Nat.reduceLeDiff, decide_true, decide_false, ne_eq, Nat.left_eq_add, Nat.add_eq_left, Nat.add_left_cancel_iff, Nat.add_zero]
  refine Wp_use (Row_putVar hr1 (by omega) (by rw [List.length_nil]; omega)) ?_
  rintro _ h2 ⟨rfl, hr2, f2⟩
  rw [List.nil_append] at hr2
  have f12 := f1.trans f2
  have hv := vrF_len 8 s
  have he2 : Ea h2 e as := he.fz f12 (by unfold SE SR; intro a i y1 y2; omega)
  have hb2 := hb.fz f12
  have hev2 : Rw h2 (b + 1) 238 ev := hev.fz f12 (by unfold SR; intro a i y1 y2; omega)
  have hlen := hev.2.2.2.2.2.1
  have ht2 : gJ_ h2 e 6 = t := by rw [f12.gJ (by unfold SR; omega)]; exact hw.2.2
  have hl2 : gJ_ h2 b 5 = gJ_ h b 5 := f12.gJ (by unfold SR; omega)
  have go : Wp 7 37 [.ref b, .ref e, .ref r, .null] [.long (Int64.ofNat dt), .ref r] h2 (fun v h' => v = .inl .null ∧ Rw h' r 120 (pkE s dt (fun j => gI_ h (b + 3) (s * 6 + j)) as) ∧ Fz (SR r) h h') := by
    simp (disch := omega) only [U7_0, U7_1, U7_4, U7_5, U7_6, U7_9, U7_10, U7_13, U7_14, U7_15, U7_18, U7_21, U7_24, U7_25, U7_28, U7_29, U7_32, U7_33, U7_36, U7_37, U7_40, U7_41, U7_43, U7_44, U7_47, U7_50, U7_51, U7_52, U7_55, U7_58, U7_59, U7_60, U7_63, U7_64, U7_67, U7_68, U7_71, U7_72, U7_75, U7_76, U7_79, U7_82, U7_83, U7_84, U7_85, U7_88, U7_91, U7_92, U7_93, U7_94, U7_97, U7_100, U7_103, hr2.1, true_and, and_true, false_and, and_false, if_true, if_false, Nat.reduceAdd, Nat.reduceMul, Nat.reduceSub, Nat.reduceEqDiff, Option.some.injEq, exists_eq_left', true_or, or_true, false_or, or_false, not_true_eq_false, not_false_eq_true, eq_self, and_self, Nat.reduceLeDiff, decide_true, decide_false, ne_eq, Nat.left_eq_add, Nat.add_eq_left, Nat.add_left_cancel_iff, Nat.add_zero]
    refine Wp_use (Row_putVar hr2 hdt (by omega)) ?_
    rintro _ h3 ⟨rfl, hr3, f3⟩
    simp (disch := omega) only [V96, U7_0, U7_1, U7_4, U7_5, U7_6, U7_9, U7_10, U7_13, U7_14, U7_15, U7_18, U7_21, U7_24, U7_25, U7_28, U7_29, U7_32, U7_33, U7_36, U7_37, U7_40, U7_41, U7_43, U7_44, U7_47, U7_50, U7_51, U7_52, U7_55, U7_58, U7_59, U7_60, U7_63, U7_64, U7_67, U7_68, U7_71, U7_72, U7_75, U7_76, U7_79, U7_82, U7_83, U7_84, U7_85, U7_88, U7_91, U7_92, U7_93, U7_94, U7_97, U7_100, U7_103, true_and, and_true, false_and, and_false, if_true, if_false, Nat.reduceAdd, Nat.reduceMul, Nat.reduceSub, Nat.reduceEqDiff, Option.some.injEq, exists_eq_left', true_or, or_true, false_or, or_false, not_true_eq_false, not_false_eq_true, eq_self, and_self, Nat.reduceLeDiff, decide_true, decide_false, ne_eq, Nat.left_eq_add, Nat.add_eq_left, Nat.add_left_cancel_iff, Nat.add_zero]
    have hv2 := vrF_len 8 dt
    exact key as.length 0 h3 _ (by omega) (f12.trans f3) hr3 (by rw [List.length_append]; omega)
  simp (disch := omega) only [V96, U7_13, U7_14, U7_15, U7_18, U7_21, U7_24, U7_25, U7_28, U7_29, U7_32, U7_33, U7_36, hb2.1, hb2.2.1, hev2.1, Row_held hev2, V89, he2.1.1, U24_0, U24_1, U24_4, V24, ht2, hl2, i_add, i_mul, i_sub, i_addn, i_lt, i_eq, i_idx, i_vp, true_and, and_true, false_and, and_false, if_true, if_false, Nat.reduceAdd, Nat.reduceMul, Nat.reduceSub, Nat.reduceEqDiff, Option.some.injEq, exists_eq_left', true_or, or_true, false_or, or_false, not_true_eq_false, not_false_eq_true, eq_self, and_self, Nat.reduceLeDiff, decide_true, decide_false, ne_eq, Nat.left_eq_add, Nat.add_eq_left, Nat.add_left_cancel_iff, Nat.add_zero]
  by_cases h0 : ev.length = 0
  · rw [if_pos h0]
    rw [hd.1 (List.eq_nil_of_length_eq_zero h0)] at go
    rw [hd.1 (List.eq_nil_of_length_eq_zero h0)]
    exact go
  · rw [if_neg h0, hd.2 (fun z => h0 (by rw [z]; rfl))]
    exact go
