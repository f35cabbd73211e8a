/-! ===== the model: a format's faults ===== -/
section
variable {h h' : MH_} {m : Nat} {tx : List Nat}
def isR (tx : List Nat) (k : Nat) : Prop := k < tx.length ∧ k < 80 ∧ sg (tx.getD k 0)
def isRD (tx : List Nat) (k : Nat) : Decidable (isR tx k) := inferInstanceAs (Decidable (_ ∧ _ ∧ _))
theorem M_isRight {k : Nat} {Q : Rs_ → MH_ → Prop} (X0 : MS h m) (X1 : MT h m tx) (hk : k < 1000000) : Wp 166 0 [.ref m, .int (Int32.ofNat k)] [] h Q ↔ Q (.inl (.int (@bz (isR tx k) (isRD tx k)))) h := by
  have h200 := X1.2.1
  by_cases c1 : k < tx.length
  · by_cases c2 : k < 80
    · have hb := gD_lt X1.2.2.2 k
      by_cases c3 : 32 ≤ tx.getD k 0 ∧ tx.getD k 0 ≤ 126
      · rw [← @bz_t _ (isRD tx k) ⟨c1, c2, c3⟩]
        simp (disch := omega) only [U166_0, U166_1, U166_2, U166_5, U166_8, U166_9, U166_11, U166_14, U166_15, U166_18, U166_19, U166_20, U166_22, U166_24, U166_27, U166_30, U166_31, U166_34, U166_35, X0.1, X1.1, mp2 X0, mk1 X0, mn1 X0, c1, c2, X1.2.2.1 k c1, M_withinN, V207, bz_0, c3, show k < 200 by omega, i_add, i_mul, i_sub, i_addn, i_lt, i_eq, i_idx, i_vp, true_and, and_true, false_and, and_false, if_true, if_false, Nat.reduceAdd, Nat.reduceMul, Nat.reduceSub, Nat.reduceEqDiff, Option.some.injEq, exists_eq_left', true_or, or_true, false_or, or_false, not_true_eq_false, not_false_eq_true, eq_self, and_self, Nat.reduceLeDiff, decide_true, decide_false, ne_eq, Nat.left_eq_add, Nat.add_eq_left, Nat.add_left_cancel_iff, Nat.add_zero]
      · rw [← @bz_f _ (isRD tx k) (fun z => c3 z.2.2)]
        simp (disch := omega) only [U166_0, U166_1, U166_2, U166_5, U166_8, U166_9, U166_11, U166_14, U166_15, U166_18, U166_19, U166_20, U166_22, U166_24, U166_27, U166_30, U166_31, U166_34, U166_35, X0.1, X1.1, mp2 X0, mk1 X0, mn1 X0, c1, c2, X1.2.2.1 k c1, M_withinN, V207, bz_0, c3, show k < 200 by omega, i_add, i_mul, i_sub, i_addn, i_lt, i_eq, i_idx, i_vp, true_and, and_true, false_and, and_false, if_true, if_false, Nat.reduceAdd, Nat.reduceMul, Nat.reduceSub, Nat.reduceEqDiff, Option.some.injEq, exists_eq_left', true_or, or_true, false_or, or_false, not_true_eq_false, not_false_eq_true, eq_self, and_self, Nat.reduceLeDiff, decide_true, decide_false, ne_eq, Nat.left_eq_add, Nat.add_eq_left, Nat.add_left_cancel_iff, Nat.add_zero]
    · rw [← @bz_f _ (isRD tx k) (fun z => c2 z.2.1)]
      simp (disch := omega) only [U166_0, U166_1, U166_2, U166_5, U166_8, U166_9, U166_11, U166_14, U166_15, U166_18, U166_19, U166_20, U166_22, U166_24, U166_27, U166_30, U166_31, U166_34, U166_35, X0.1, X1.1, c1, c2, i_add, i_mul, i_sub, i_addn, i_lt, i_eq, i_idx, i_vp, true_and, and_true, false_and, and_false, if_true, if_false, Nat.reduceAdd, Nat.reduceMul, Nat.reduceSub, Nat.reduceEqDiff, Option.some.injEq, exists_eq_left', true_or, or_true, false_or, or_false, not_true_eq_false, not_false_eq_true, eq_self, and_self, Nat.reduceLeDiff, decide_true, decide_false, ne_eq, Nat.left_eq_add, Nat.add_eq_left, Nat.add_left_cancel_iff, Nat.add_zero]
  · rw [← @bz_f _ (isRD tx k) (fun z => c1 z.1)]
    simp (disch := omega) only [U166_0, U166_1, U166_2, U166_5, U166_8, U166_9, U166_11, U166_14, U166_15, U166_18, U166_19, U166_20, U166_22, U166_24, U166_27, U166_30, U166_31, U166_34, U166_35, X0.1, X1.1, c1, i_add, i_mul, i_sub, i_addn, i_lt, i_eq, i_idx, i_vp, true_and, and_true, false_and, and_false, if_true, if_false, Nat.reduceAdd, Nat.reduceMul, Nat.reduceSub, Nat.reduceEqDiff, Option.some.injEq, exists_eq_left', true_or, or_true, false_or, or_false, not_true_eq_false, not_false_eq_true, eq_self, and_self, Nat.reduceLeDiff, decide_true, decide_false, ne_eq, Nat.left_eq_add, Nat.add_eq_left, Nat.add_left_cancel_iff, Nat.add_zero]
theorem M_isR1 {k : Nat} {Q : Rs_ → MH_ → Prop} (X0 : MS h m) (X1 : MT h m tx) (hk : k < 1000000) (hr : isR tx k) : Wp 166 0 [.ref m, .int (Int32.ofNat k)] [] h Q ↔ Q (.inl (.int (Int32.ofNat 1))) h := by
  rw [M_isRight X0 X1 hk, ← @bz_t _ (isRD tx k) hr]
theorem M_isR0 {k : Nat} {Q : Rs_ → MH_ → Prop} (X0 : MS h m) (X1 : MT h m tx) (hk : k < 1000000) (hr : ¬ isR tx k) : Wp 166 0 [.ref m, .int (Int32.ofNat k)] [] h Q ↔ Q (.inl (.int (Int32.ofNat 0))) h := by
  rw [M_isRight X0 X1 hk, ← @bz_f _ (isRD tx k) hr]
theorem dg_tab : ∀ d : Fin 256, ((¬ Int32.ofNat d.val - Int32.ofNat 48 < Int32.ofNat 1 ∧ ¬ Int32.ofNat 6 < Int32.ofNat d.val - Int32.ofNat 48) ↔ (49 ≤ d.val ∧ d.val ≤ 54)) ∧ ((¬ Int32.ofNat d.val - Int32.ofNat 48 < Int32.ofNat 0 ∧ ¬ Int32.ofNat 7 < Int32.ofNat d.val - Int32.ofNat 48) ↔ (48 ≤ d.val ∧ d.val ≤ 55)) := by decide +kernel
theorem M_w102 {d : Nat} {Q : Rs_ → MH_ → Prop} (hd : d < 256) : Wp 207 0 [.int (Int32.ofNat d - Int32.ofNat 48), .int (Int32.ofNat 1), .int (Int32.ofNat 6)] [] h Q ↔ Q (.inl (.int (bz (49 ≤ d ∧ d ≤ 54)))) h := by
  have t := (dg_tab ⟨d, hd⟩).1
  simp only at t
  rw [M_within, bz_iff (q := 49 ≤ d ∧ d ≤ 54) t]
theorem M_w101 {d : Nat} {Q : Rs_ → MH_ → Prop} (hd : d < 256) : Wp 207 0 [.int (Int32.ofNat d - Int32.ofNat 48), .int (Int32.ofNat 0), .int (Int32.ofNat 7)] [] h Q ↔ Q (.inl (.int (bz (48 ≤ d ∧ d ≤ 55)))) h := by
  have t := (dg_tab ⟨d, hd⟩).2
  simp only at t
  rw [M_within, bz_iff (q := 48 ≤ d ∧ d ≤ 55) t]
def cls (r : List Nat) (k : Nat) : Option Nat := match r with
  | [] => some k
  | e :: _ => if k < 80 ∧ e = 125 then none else some k
def sf (r : List Nat) (p : Nat) : Option Nat := match r with
  | [] => some (p + 1)
  | c :: r' => if ¬ (p + 1 < 80) then some (p + 1) else if c = 102 ∨ c = 101 then (match r' with
      | [] => some (p + 2)
      | d :: r'' => if p + 2 < 80 ∧ ((c = 102 ∧ 49 ≤ d ∧ d ≤ 54) ∨ (c = 101 ∧ 48 ≤ d ∧ d ≤ 55)) then cls r'' (p + 3) else some (p + 2))
    else if c = 100 ∨ c = 117 ∨ c = 120 ∨ c = 116 then cls r' (p + 2) else some (p + 1)
def sfI (o : Option Nat) : Int32 := match o with | some q => Int32.ofNat q | none => -(Int32.ofNat 1)
/-- the closing brace -/
theorem sf_close {p k c : Nat} {b : Nat} {Q : Rs_ → MH_ → Prop} (X0 : MS h m) (X1 : MT h m tx) (hk : k < 1000) : Wp 199 131 [.ref m, .int (Int32.ofNat p), .int (Int32.ofNat k), .int (Int32.ofNat c), .int (Int32.ofNat b)] [] h Q ↔ Q (.inl (.int (sfI (cls (tx.drop k) k)))) h := by
  have h200 := X1.2.1
  unfold cls
  cases hd : tx.drop k with
  | nil =>
    have hl := dr_nil hd
    simp (disch := omega) only [U199_0, U199_1, U199_2, U199_3, U199_4, U199_5, U199_6, U199_9, U199_12, U199_13, U199_14, U199_15, U199_18, U199_19, U199_20, U199_21, U199_22, U199_24, U199_27, U199_28, U199_30, U199_33, U199_34, U199_37, U199_38, U199_40, U199_42, U199_45, U199_46, U199_48, U199_51, U199_52, U199_54, U199_57, U199_58, U199_60, U199_63, U199_64, U199_66, U199_69, U199_70, U199_71, U199_73, U199_76, U199_79, U199_80, U199_81, U199_84, U199_87, U199_88, U199_91, U199_92, U199_93, U199_95, U199_96, U199_97, U199_99, U199_102, U199_103, U199_106, U199_107, U199_108, U199_110, U199_113, U199_115, U199_118, U199_120, U199_123, U199_126, U199_127, U199_128, U199_131, U199_132, U199_133, U199_136, U199_139, U199_140, U199_143, U199_144, U199_145, U199_147, U199_150, U199_151, U199_154, U199_155, X0.1, M_isR0 X0 X1 (show k < 1000000 by omega) (fun z => by have := z.1; omega), V166, sfI, i_add, i_mul, i_sub, i_addn, i_lt, i_eq, i_idx, i_vp, true_and, and_true, false_and, and_false, if_true, if_false, Nat.reduceAdd, Nat.reduceMul, Nat.reduceSub, Nat.reduceEqDiff, Option.some.injEq, exists_eq_left', true_or, or_true, false_or, or_false, not_true_eq_false, not_false_eq_true, eq_self, and_self, Nat.reduceLeDiff, decide_true, decide_false, ne_eq, Nat.left_eq_add, Nat.add_eq_left, Nat.add_left_cancel_iff, Nat.add_zero]
  | cons e r =>
    obtain ⟨d1, d2, d3, d4⟩ := dr_cons hd
    have et := X1.2.2.1 k d1
    rw [d2] at et
    have hb : e < 256 := by rw [← d2]; exact gD_lt X1.2.2.2 k
    simp only
    by_cases c1 : k < 80 ∧ e = 125
    · obtain ⟨c1, rfl⟩ := c1
      rw [if_pos ⟨c1, rfl⟩]
      simp (disch := omega) only [U199_0, U199_1, U199_2, U199_3, U199_4, U199_5, U199_6, U199_9, U199_12, U199_13, U199_14, U199_15, U199_18, U199_19, U199_20, U199_21, U199_22, U199_24, U199_27, U199_28, U199_30, U199_33, U199_34, U199_37, U199_38, U199_40, U199_42, U199_45, U199_46, U199_48, U199_51, U199_52, U199_54, U199_57, U199_58, U199_60, U199_63, U199_64, U199_66, U199_69, U199_70, U199_71, U199_73, U199_76, U199_79, U199_80, U199_81, U199_84, U199_87, U199_88, U199_91, U199_92, U199_93, U199_95, U199_96, U199_97, U199_99, U199_102, U199_103, U199_106, U199_107, U199_108, U199_110, U199_113, U199_115, U199_118, U199_120, U199_123, U199_126, U199_127, U199_128, U199_131, U199_132, U199_133, U199_136, U199_139, U199_140, U199_143, U199_144, U199_145, U199_147, U199_150, U199_151, U199_154, U199_155, X0.1, mp2 X0, mk1 X0, mn1 X0, et, M_isR1 X0 X1 (show k < 1000000 by omega) ⟨d1, c1, by rw [d2]; decide⟩, V166, sfI, show k < 200 by omega, show ¬ (1 : Nat) = 0 by omega, i_add, i_mul, i_sub, i_addn, i_lt, i_eq, i_idx, i_vp, true_and, and_true, false_and, and_false, if_true, if_false, Nat.reduceAdd, Nat.reduceMul, Nat.reduceSub, Nat.reduceEqDiff, Option.some.injEq, exists_eq_left', true_or, or_true, false_or, or_false, not_true_eq_false, not_false_eq_true, eq_self, and_self, Nat.reduceLeDiff, decide_true, decide_false, ne_eq, Nat.left_eq_add, Nat.add_eq_left, Nat.add_left_cancel_iff, Nat.add_zero]
    · rw [if_neg c1]
      by_cases c2 : isR tx k
      · have c3 : ¬ e = 125 := fun z => c1 ⟨c2.2.1, z⟩
        simp (disch := omega) only [U199_0, U199_1, U199_2, U199_3, U199_4, U199_5, U199_6, U199_9, U199_12, U199_13, U199_14, U199_15, U199_18, U199_19, U199_20, U199_21, U199_22, U199_24, U199_27, U199_28, U199_30, U199_33, U199_34, U199_37, U199_38, U199_40, U199_42, U199_45, U199_46, U199_48, U199_51, U199_52, U199_54, U199_57, U199_58, U199_60, U199_63, U199_64, U199_66, U199_69, U199_70, U199_71, U199_73, U199_76, U199_79, U199_80, U199_81, U199_84, U199_87, U199_88, U199_91, U199_92, U199_93, U199_95, U199_96, U199_97, U199_99, U199_102, U199_103, U199_106, U199_107, U199_108, U199_110, U199_113, U199_115, U199_118, U199_120, U199_123, U199_126, U199_127, U199_128, U199_131, U199_132, U199_133, U199_136, U199_139, U199_140, U199_143, U199_144, U199_145, U199_147, U199_150, U199_151, U199_154, U199_155, X0.1, mp2 X0, mk1 X0, mn1 X0, et, M_isR1 X0 X1 (show k < 1000000 by omega) c2, V166, sfI, c3, show k < 200 by omega, show ¬ (1 : Nat) = 0 by omega, i_add, i_mul, i_sub, i_addn, i_lt, i_eq, i_idx, i_vp, true_and, and_true, false_and, and_false, if_true, if_false, Nat.reduceAdd, Nat.reduceMul, Nat.reduceSub, Nat.reduceEqDiff, Option.some.injEq, exists_eq_left', true_or, or_true, false_or, or_false, not_true_eq_false, not_false_eq_true, eq_self, and_self, Nat.reduceLeDiff, decide_true, decide_false, ne_eq, Nat.left_eq_add, Nat.add_eq_left, Nat.add_left_cancel_iff, Nat.add_zero]
      · simp (disch := omega) only [U199_0, U199_1, U199_2, U199_3, U199_4, U199_5, U199_6, U199_9, U199_12, U199_13, U199_14, U199_15, U199_18, U199_19, U199_20, U199_21, U199_22, U199_24, U199_27, U199_28, U199_30, U199_33, U199_34, U199_37, U199_38, U199_40, U199_42, U199_45, U199_46, U199_48, U199_51, U199_52, U199_54, U199_57, U199_58, U199_60, U199_63, U199_64, U199_66, U199_69, U199_70, U199_71, U199_73, U199_76, U199_79, U199_80, U199_81, U199_84, U199_87, U199_88, U199_91, U199_92, U199_93, U199_95, U199_96, U199_97, U199_99, U199_102, U199_103, U199_106, U199_107, U199_108, U199_110, U199_113, U199_115, U199_118, U199_120, U199_123, U199_126, U199_127, U199_128, U199_131, U199_132, U199_133, U199_136, U199_139, U199_140, U199_143, U199_144, U199_145, U199_147, U199_150, U199_151, U199_154, U199_155, X0.1, M_isR0 X0 X1 (show k < 1000000 by omega) c2, V166, sfI, i_add, i_mul, i_sub, i_addn, i_lt, i_eq, i_idx, i_vp, true_and, and_true, false_and, and_false, if_true, if_false, Nat.reduceAdd, Nat.reduceMul, Nat.reduceSub, Nat.reduceEqDiff, Option.some.injEq, exists_eq_left', true_or, or_true, false_or, or_false, not_true_eq_false, not_false_eq_true, eq_self, and_self, Nat.reduceLeDiff, decide_true, decide_false, ne_eq, Nat.left_eq_add, Nat.add_eq_left, Nat.add_left_cancel_iff, Nat.add_zero]
theorem M_slotFault {p : Nat} {Q : Rs_ → MH_ → Prop} (X0 : MS h m) (X1 : MT h m tx) (hp : p < 80) : Wp 199 0 [.ref m, .int (Int32.ofNat p), .null, .null, .null] [] h Q ↔ Q (.inl (.int (sfI (sf (tx.drop (p + 1)) p)))) h := by
  have h200 := X1.2.1
  have hp1 : p + 1 < 1000000 := by omega
  have hp2 : p + 2 < 1000000 := by omega
  cases hd : tx.drop (p + 1) with
  | nil =>
    have hl := dr_nil hd
    simp (disch := omega) only [U199_0, U199_1, U199_2, U199_3, U199_4, U199_5, U199_6, U199_9, U199_12, U199_13, U199_14, U199_15, U199_18, U199_19, U199_20, U199_21, U199_22, U199_24, U199_27, U199_28, U199_30, U199_33, U199_34, U199_37, U199_38, U199_40, U199_42, U199_45, U199_46, U199_48, U199_51, U199_52, U199_54, U199_57, U199_58, U199_60, U199_63, U199_64, U199_66, U199_69, U199_70, U199_71, U199_73, U199_76, U199_79, U199_80, U199_81, U199_84, U199_87, U199_88, U199_91, U199_92, U199_93, U199_95, U199_96, U199_97, U199_99, U199_102, U199_103, U199_106, U199_107, U199_108, U199_110, U199_113, U199_115, U199_118, U199_120, U199_123, U199_126, U199_127, U199_128, U199_131, U199_132, U199_133, U199_136, U199_139, U199_140, U199_143, U199_144, U199_145, U199_147, U199_150, U199_151, U199_154, U199_155, X0.1, M_isR0 X0 X1 hp1 (fun z => by have := z.1; omega), V166, sf, sfI, i_add, i_mul, i_sub, i_addn, i_lt, i_eq, i_idx, i_vp, true_and, and_true, false_and, and_false, if_true, if_false, Nat.reduceAdd, Nat.reduceMul, Nat.reduceSub, Nat.reduceEqDiff, Option.some.injEq, exists_eq_left', true_or, or_true, false_or, or_false, not_true_eq_false, not_false_eq_true, eq_self, and_self, Nat.reduceLeDiff, decide_true, decide_false, ne_eq, Nat.left_eq_add, Nat.add_eq_left, Nat.add_left_cancel_iff, Nat.add_zero]
  | cons c r =>
    obtain ⟨d1, d2, d3, d4⟩ := dr_cons hd
    have et := X1.2.2.1 (p + 1) d1
    rw [d2] at et
    have hb : c < 256 := by rw [← d2]; exact gD_lt X1.2.2.2 (p + 1)
    by_cases c1 : isR tx (p + 1)
    · have c80 : p + 1 < 80 := c1.2.1
      by_cases c2 : c = 102 ∨ c = 101
      · have step : Wp 199 79 [.ref m, .int (Int32.ofNat p), .int (Int32.ofNat (p + 2)), .int (Int32.ofNat c), .int (Int32.ofNat 1)] [] h Q ↔ Q (.inl (.int (sfI (sf (c :: r) p)))) h := by
          simp only [sf]
          rw [if_neg (by omega), if_pos c2]
          cases r with
          | nil =>
            have hl := dr_nil d3
            simp (disch := omega) only [U199_79, U199_80, U199_81, U199_84, U199_87, U199_88, U199_91, U199_92, U199_93, U199_95, U199_96, U199_97, U199_99, U199_102, U199_103, U199_106, U199_107, U199_108, U199_110, U199_113, U199_115, U199_118, U199_120, U199_123, U199_126, U199_127, U199_128, X0.1, M_isR0 X0 X1 hp2 (fun z => by have := z.1; omega), V166, sfI, i_add, i_mul, i_sub, i_addn, i_lt, i_eq, i_idx, i_vp, true_and, and_true, false_and, and_false, if_true, if_false, Nat.reduceAdd, Nat.reduceMul, Nat.reduceSub, Nat.reduceEqDiff, Option.some.injEq, exists_eq_left', true_or, or_true, false_or, or_false, not_true_eq_false, not_false_eq_true, eq_self, and_self, Nat.reduceLeDiff, decide_true, decide_false, ne_eq, Nat.left_eq_add, Nat.add_eq_left, Nat.add_left_cancel_iff, Nat.add_zero]
          | cons d r2 =>
            obtain ⟨e1, e2, e3, e4⟩ := dr_cons d3
            have et2 := X1.2.2.1 (p + 2) e1
            have e2' : tx.getD (p + 2) 0 = d := e2
            rw [e2'] at et2
            have hbd : d < 256 := by rw [← e2']; exact gD_lt X1.2.2.2 (p + 2)
            have cl := sf_close (p := p) (k := p + 3) (c := c) (b := 1) (Q := Q) X0 X1 (by omega)
            rw [show tx.drop (p + 3) = r2 from e3] at cl
            simp only
            by_cases c3 : p + 2 < 80 ∧ ((c = 102 ∧ 49 ≤ d ∧ d ≤ 54) ∨ (c = 101 ∧ 48 ≤ d ∧ d ≤ 55))
            · rw [if_pos c3, ← cl]
              have hR : isR tx (p + 2) := ⟨e1, c3.1, by rw [e2']; unfold sg; omega⟩
              rcases c2 with rfl | rfl
              · simp (disch := omega) only [U199_79, U199_80, U199_81, U199_84, U199_87, U199_88, U199_91, U199_92, U199_93, U199_95, U199_96, U199_97, U199_99, U199_102, U199_103, U199_106, U199_107, U199_108, U199_110, U199_113, U199_115, U199_118, U199_120, U199_123, U199_126, U199_127, U199_128, X0.1, mp2 X0, mk1 X0, mn1 X0, et2, M_isR1 X0 X1 hp2 hR, V166, M_w102 hbd, V207, bz_0, show 49 ≤ d ∧ d ≤ 54 by omega, show p + 2 < 200 by omega, show ¬ (1 : Nat) = 0 by omega, i_add, i_lt, i_eq, i_idx, i_vp, true_and, and_true, false_and, and_false, if_true, if_false, Nat.reduceAdd, Nat.reduceMul, Nat.reduceSub, Nat.reduceEqDiff, Option.some.injEq, exists_eq_left', true_or, or_true, false_or, or_false, not_true_eq_false, not_false_eq_true, eq_self, and_self, Nat.reduceLeDiff, decide_true, decide_false, ne_eq, Nat.left_eq_add, Nat.add_eq_left, Nat.add_left_cancel_iff, Nat.add_zero]
              · simp (disch := omega) only [U199_79, U199_80, U199_81, U199_84, U199_87, U199_88, U199_91, U199_92, U199_93, U199_95, U199_96, U199_97, U199_99, U199_102, U199_103, U199_106, U199_107, U199_108, U199_110, U199_113, U199_115, U199_118, U199_120, U199_123, U199_126, U199_127, U199_128, X0.1, mp2 X0, mk1 X0, mn1 X0, et2, M_isR1 X0 X1 hp2 hR, V166, M_w101 hbd, V207, bz_0, show 48 ≤ d ∧ d ≤ 55 by omega, show p + 2 < 200 by omega, show ¬ (1 : Nat) = 0 by omega, i_add, i_lt, i_eq, i_idx, i_vp, true_and, and_true, false_and, and_false, if_true, if_false, Nat.reduceAdd, Nat.reduceMul, Nat.reduceSub, Nat.reduceEqDiff, Option.some.injEq, exists_eq_left', true_or, or_true, false_or, or_false, not_true_eq_false, not_false_eq_true, eq_self, and_self, Nat.reduceLeDiff, decide_true, decide_false, ne_eq, Nat.left_eq_add, Nat.add_eq_left, Nat.add_left_cancel_iff, Nat.add_zero]
            · rw [if_neg c3]
              by_cases hR : isR tx (p + 2)
              · have h80 := hR.2.1
                rcases c2 with rfl | rfl
                · simp (disch := omega) only [U199_79, U199_80, U199_81, U199_84, U199_87, U199_88, U199_91, U199_92, U199_93, U199_95, U199_96, U199_97, U199_99, U199_102, U199_103, U199_106, U199_107, U199_108, U199_110, U199_113, U199_115, U199_118, U199_120, U199_123, U199_126, U199_127, U199_128, X0.1, mp2 X0, mk1 X0, mn1 X0, et2, M_isR1 X0 X1 hp2 hR, V166, M_w102 hbd, V207, bz_0, show ¬ (49 ≤ d ∧ d ≤ 54) by omega, sfI, show p + 2 < 200 by omega, show ¬ (1 : Nat) = 0 by omega, i_add, i_lt, i_eq, i_idx, i_vp, true_and, and_true, false_and, and_false, if_true, if_false, Nat.reduceAdd, Nat.reduceMul, Nat.reduceSub, Nat.reduceEqDiff, Option.some.injEq, exists_eq_left', true_or, or_true, false_or, or_false, not_true_eq_false, not_false_eq_true, eq_self, and_self, Nat.reduceLeDiff, decide_true, decide_false, ne_eq, Nat.left_eq_add, Nat.add_eq_left, Nat.add_left_cancel_iff, Nat.add_zero]
                · simp (disch := omega) only [U199_79, U199_80, U199_81, U199_84, U199_87, U199_88, U199_91, U199_92, U199_93, U199_95, U199_96, U199_97, U199_99, U199_102, U199_103, U199_106, U199_107, U199_108, U199_110, U199_113, U199_115, U199_118, U199_120, U199_123, U199_126, U199_127, U199_128, X0.1, mp2 X0, mk1 X0, mn1 X0, et2, M_isR1 X0 X1 hp2 hR, V166, M_w101 hbd, V207, bz_0, show ¬ (48 ≤ d ∧ d ≤ 55) by omega, sfI, show p + 2 < 200 by omega, show ¬ (1 : Nat) = 0 by omega, i_add, i_lt, i_eq, i_idx, i_vp, true_and, and_true, false_and, and_false, if_true, if_false, Nat.reduceAdd, Nat.reduceMul, Nat.reduceSub, Nat.reduceEqDiff, Option.some.injEq, exists_eq_left', true_or, or_true, false_or, or_false, not_true_eq_false, not_false_eq_true, eq_self, and_self, Nat.reduceLeDiff, decide_true, decide_false, ne_eq, Nat.left_eq_add, Nat.add_eq_left, Nat.add_left_cancel_iff, Nat.add_zero]
              · simp (disch := omega) only [U199_79, U199_80, U199_81, U199_84, U199_87, U199_88, U199_91, U199_92, U199_93, U199_95, U199_96, U199_97, U199_99, U199_102, U199_103, U199_106, U199_107, U199_108, U199_110, U199_113, U199_115, U199_118, U199_120, U199_123, U199_126, U199_127, U199_128, X0.1, M_isR0 X0 X1 hp2 hR, V166, sfI, i_add, i_mul, i_sub, i_addn, i_lt, i_eq, i_idx, i_vp, true_and, and_true, false_and, and_false, if_true, if_false, Nat.reduceAdd, Nat.reduceMul, Nat.reduceSub, Nat.reduceEqDiff, Option.some.injEq, exists_eq_left', true_or, or_true, false_or, or_false, not_true_eq_false, not_false_eq_true, eq_self, and_self, Nat.reduceLeDiff, decide_true, decide_false, ne_eq, Nat.left_eq_add, Nat.add_eq_left, Nat.add_left_cancel_iff, Nat.add_zero]
        rcases c2 with rfl | rfl
        · simp (disch := omega) only [U199_0, U199_1, U199_2, U199_3, U199_4, U199_5, U199_6, U199_9, U199_12, U199_13, U199_14, U199_15, U199_18, U199_19, U199_20, U199_21, U199_22, U199_24, U199_27, U199_28, U199_30, U199_33, U199_34, U199_37, U199_38, U199_40, U199_42, U199_45, U199_46, U199_48, U199_51, U199_52, U199_54, U199_57, U199_58, U199_60, U199_63, U199_64, U199_66, U199_69, U199_70, U199_71, U199_73, U199_76, X0.1, mp2 X0, mk1 X0, mn1 X0, et, M_isR1 X0 X1 hp1 c1, V166, show p + 1 < 200 by omega, show ¬ (1 : Nat) = 0 by omega, i_add, i_mul, i_sub, i_addn, i_lt, i_eq, i_idx, i_vp, true_and, and_true, false_and, and_false, if_true, if_false, Nat.reduceAdd, Nat.reduceMul, Nat.reduceSub, Nat.reduceEqDiff, Option.some.injEq, exists_eq_left', true_or, or_true, false_or, or_false, not_true_eq_false, not_false_eq_true, eq_self, and_self, Nat.reduceLeDiff, decide_true, decide_false, ne_eq, Nat.left_eq_add, Nat.add_eq_left, Nat.add_left_cancel_iff, Nat.add_zero]
          exact step
        · simp (disch := omega) only [U199_0, U199_1, U199_2, U199_3, U199_4, U199_5, U199_6, U199_9, U199_12, U199_13, U199_14, U199_15, U199_18, U199_19, U199_20, U199_21, U199_22, U199_24, U199_27, U199_28, U199_30, U199_33, U199_34, U199_37, U199_38, U199_40, U199_42, U199_45, U199_46, U199_48, U199_51, U199_52, U199_54, U199_57, U199_58, U199_60, U199_63, U199_64, U199_66, U199_69, U199_70, U199_71, U199_73, U199_76, X0.1, mp2 X0, mk1 X0, mn1 X0, et, M_isR1 X0 X1 hp1 c1, V166, show p + 1 < 200 by omega, show ¬ (1 : Nat) = 0 by omega, i_add, i_mul, i_sub, i_addn, i_lt, i_eq, i_idx, i_vp, true_and, and_true, false_and, and_false, if_true, if_false, Nat.reduceAdd, Nat.reduceMul, Nat.reduceSub, Nat.reduceEqDiff, Option.some.injEq, exists_eq_left', true_or, or_true, false_or, or_false, not_true_eq_false, not_false_eq_true, eq_self, and_self, Nat.reduceLeDiff, decide_true, decide_false, ne_eq, Nat.left_eq_add, Nat.add_eq_left, Nat.add_left_cancel_iff, Nat.add_zero]
          exact step
      · simp only [sf]
        rw [if_neg (by omega), if_neg c2]
        have n1 : ¬ c = 102 := fun z => c2 (Or.inl z)
        have n2 : ¬ c = 101 := fun z => c2 (Or.inr z)
        have cl := sf_close (p := p) (k := p + 2) (c := c) (b := 0) (Q := Q) X0 X1 (by omega)
        rw [show tx.drop (p + 2) = r from d3] at cl
        by_cases c3 : c = 100 ∨ c = 117 ∨ c = 120 ∨ c = 116
        · rw [if_pos c3, ← cl]
          rcases c3 with rfl | rfl | rfl | rfl
          all_goals simp (disch := omega) only [U199_0, U199_1, U199_2, U199_3, U199_4, U199_5, U199_6, U199_9, U199_12, U199_13, U199_14, U199_15, U199_18, U199_19, U199_20, U199_21, U199_22, U199_24, U199_27, U199_28, U199_30, U199_33, U199_34, U199_37, U199_38, U199_40, U199_42, U199_45, U199_46, U199_48, U199_51, U199_52, U199_54, U199_57, U199_58, U199_60, U199_63, U199_64, U199_66, U199_69, U199_70, U199_71, U199_73, U199_76, U199_79, U199_80, U199_81, U199_84, U199_87, U199_88, U199_91, U199_92, U199_93, U199_95, U199_96, U199_97, U199_99, U199_102, U199_103, U199_106, U199_107, U199_108, U199_110, U199_113, U199_115, U199_118, U199_120, U199_123, U199_126, U199_127, U199_128, X0.1, mp2 X0, mk1 X0, mn1 X0, et, M_isR1 X0 X1 hp1 c1, V166, Nat.reduceEqDiff, show p + 1 < 200 by omega, show ¬ (1 : Nat) = 0 by omega, i_add, i_mul, i_sub, i_addn, i_lt, i_eq, i_idx, i_vp, true_and, and_true, false_and, and_false, if_true, if_false, Nat.reduceAdd, Nat.reduceMul, Nat.reduceSub, Nat.reduceEqDiff, Option.some.injEq, exists_eq_left', true_or, or_true, false_or, or_false, not_true_eq_false, not_false_eq_true, eq_self, and_self, Nat.reduceLeDiff, decide_true, decide_false, ne_eq, Nat.left_eq_add, Nat.add_eq_left, Nat.add_left_cancel_iff, Nat.add_zero]
        · rw [if_neg c3]
          simp (disch := omega) only [U199_0, U199_1, U199_2, U199_3, U199_4, U199_5, U199_6, U199_9, U199_12, U199_13, U199_14, U199_15, U199_18, U199_19, U199_20, U199_21, U199_22, U199_24, U199_27, U199_28, U199_30, U199_33, U199_34, U199_37, U199_38, U199_40, U199_42, U199_45, U199_46, U199_48, U199_51, U199_52, U199_54, U199_57, U199_58, U199_60, U199_63, U199_64, U199_66, U199_69, U199_70, U199_71, U199_73, U199_76, X0.1, mp2 X0, mk1 X0, mn1 X0, et, M_isR1 X0 X1 hp1 c1, V166, n1, n2, show ¬ c = 100 by omega, show ¬ c = 117 by omega, show ¬ c = 120 by omega, show ¬ c = 116 by omega, sfI, show p + 1 < 200 by omega, show ¬ (1 : Nat) = 0 by omega, i_add, i_mul, i_sub, i_addn, i_lt, i_eq, i_idx, i_vp, true_and, and_true, false_and, and_false, if_true, if_false, Nat.reduceAdd, Nat.reduceMul, Nat.reduceSub, Nat.reduceEqDiff, Option.some.injEq, exists_eq_left', true_or, or_true, false_or, or_false, not_true_eq_false, not_false_eq_true, eq_self, and_self, Nat.reduceLeDiff, decide_true, decide_false, ne_eq, Nat.left_eq_add, Nat.add_eq_left, Nat.add_left_cancel_iff, Nat.add_zero]
    · have hs : sf (c :: r) p = some (p + 1) := by
        simp only [sf]
        by_cases h80 : p + 1 < 80
        · rw [if_neg (by omega)]
          have hns : ¬ sg c := fun z => c1 ⟨d1, h80, by rw [d2]; exact z⟩
          unfold sg at hns
          rw [if_neg (by omega), if_neg (by omega)]
        · rw [if_pos h80]
      rw [hs]
      simp (disch := omega) only [U199_0, U199_1, U199_2, U199_3, U199_4, U199_5, U199_6, U199_9, U199_12, U199_13, U199_14, U199_15, U199_18, U199_19, U199_20, U199_21, U199_22, U199_24, U199_27, U199_28, U199_30, U199_33, U199_34, U199_37, U199_38, U199_40, U199_42, U199_45, U199_46, U199_48, U199_51, U199_52, U199_54, U199_57, U199_58, U199_60, U199_63, U199_64, U199_66, U199_69, U199_70, U199_71, U199_73, U199_76, X0.1, M_isR0 X0 X1 hp1 c1, V166, sfI, i_add, i_mul, i_sub, i_addn, i_lt, i_eq, i_idx, i_vp, true_and, and_true, false_and, and_false, if_true, if_false, Nat.reduceAdd, Nat.reduceMul, Nat.reduceSub, Nat.reduceEqDiff, Option.some.injEq, exists_eq_left', true_or, or_true, false_or, or_false, not_true_eq_false, not_false_eq_true, eq_self, and_self, Nat.reduceLeDiff, decide_true, decide_false, ne_eq, Nat.left_eq_add, Nat.add_eq_left, Nat.add_left_cancel_iff, Nat.add_zero]
end
