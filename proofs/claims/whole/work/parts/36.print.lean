/-! ===== Printer ===== -/
/-- digits, the lowest first; m of them at least, f at most -/
def dgF (base : Nat) : Nat → Nat → Nat → List Nat
  | 0, _, _ => []
  | f + 1, v, m => if 0 < v ∨ 0 < m then v % base :: dgF base f (v / base) (m - 1) else []
/-- the sign of a digit -/
def chr (x : Nat) : Nat := if x < 10 then 48 + x else 87 + x
/-- the digits of a list, the last first; a point behind number p, if it is not the first -/
def otF (ds : List Nat) (p : Nat) : Nat → List Nat
  | 0 => []
  | k + 1 => chr (ds.getD k 0) :: ((if k = p ∧ 0 < k then [46] else []) ++ otF ds p k)
def prD (v p base : Nat) : List Nat := otF (dgF base 12 v (p + 1)) p (dgF base 12 v (p + 1)).length
theorem dgF_len (base : Nat) : ∀ f v m, (dgF base f v m).length ≤ f
  | 0, _, _ => by simp [dgF]
  | f + 1, v, m => by
    unfold dgF
    split
    · have := dgF_len base f (v / base) (m - 1)
      rw [List.length_cons]; omega
    · exact Nat.zero_le _
theorem dgF_lt {base : Nat} (hb : 0 < base) : ∀ f v m, ∀ x ∈ dgF base f v m, x < base
  | 0, _, _ => by simp [dgF]
  | f + 1, v, m => by
    unfold dgF
    split
    · intro x hx
      rcases List.mem_cons.mp hx with rfl | hx
      · exact Nat.mod_lt _ hb
      · exact dgF_lt hb f _ _ x hx
    · intro x hx; cases hx
theorem otF_len (ds : List Nat) (p : Nat) : ∀ k, (otF ds p k).length ≤ k + (if p < k ∧ 0 < p then 1 else 0)
  | 0 => by simp [otF]
  | k + 1 => by
    have := otF_len ds p k
    unfold otF
    by_cases h1 : k = p ∧ 0 < k
    · rw [if_pos h1, List.length_cons, List.length_append, List.length_singleton]
      rw [if_neg (by omega)] at this
      rw [if_pos (by omega)]
      omega
    · rw [if_neg h1, List.length_cons, List.nil_append]
      by_cases h2 : p < k ∧ 0 < p
      · rw [if_pos h2] at this; rw [if_pos (by omega)]; omega
      · rw [if_neg h2] at this; omega
theorem prD_len {v p base : Nat} : (prD v p base).length ≤ 13 := by
  unfold prD
  have h1 := otF_len (dgF base 12 v (p + 1)) p (dgF base 12 v (p + 1)).length
  have h2 := dgF_len base 12 v (p + 1)
  split at h1 <;> omega
/-- a printer: names, row, digits -/
def Pr (h : MH_) (p : Nat) : Prop := kd_ h p = 8 ∧ gP_ h p 0 = some (p + 1) ∧ gP_ h p 1 = some (p + 4) ∧ gP_ h p 2 = some (p + 6) ∧ kd_ h (p + 6) = 30 ∧ ln_ h (p + 6) = 12
theorem Pr.fz {S : Nat → Nat → Prop} {h h' : MH_} {p : Nat} (hp : Pr h p) (z : Fz S h h') : Pr h' p := by
  obtain ⟨a1, a2, a3, a4, a5, a6⟩ := hp
  exact ⟨by rw [z.kd, a1], by rw [z.gP, a2], by rw [z.gP, a3], by rw [z.gP, a4], by rw [z.kd, a5], by rw [z.ln, a6]⟩
/-- what printing may change -/
def SP (p : Nat) : Nat → Nat → Prop := fun a i => SR (p + 4) a i ∨ a = p + 6
theorem i64 {n : Nat} (h : n < 2147483648) : (Int32.ofNat n).toInt64 = Int64.ofNat n := by
  apply bvJ_inj
  rw [bvJ_toInt64, bvI_of, bvJ_of, if_pos (by omega)]
  omega
theorem j_div {a b : Nat} (ha : a < 9223372036854775808) (hb : b < 2147483648) : Int64.ofNat a / Int64.ofNat b = Int64.ofNat (a / b) := by
  have h3 : a / b ≤ a := Nat.div_le_self _ _
  apply Int64.toInt_inj.mp
  rw [Int64.toInt_div_of_ne_left _ _ (by intro z; have y := congrArg Int64.toInt z; rw [Int64.toInt_ofNat_of_lt (by omega), show Int64.minValue.toInt = -9223372036854775808 by decide] at y; omega), Int64.toInt_ofNat_of_lt (by omega), Int64.toInt_ofNat_of_lt (by omega), Int64.toInt_ofNat_of_lt (by omega)]
  rfl
theorem j_rem {a b : Nat} : Int64.ofNat a - Int64.ofNat (a / b) * Int64.ofNat b = Int64.ofNat (a % b) := by
  have h1 : a / b * b ≤ a := Nat.div_mul_le_self a b
  rw [← Int64.ofNat_mul, ← Int64.ofNat_sub _ _ h1]
  congr 1
  have := Nat.mod_add_div a b
  rw [Nat.mul_comm] at this
  omega
theorem j_i {n : Nat} : (Int64.ofNat n).toInt32 = Int32.ofNat n := by
  apply bvI_inj
  rw [bvI_toInt32, bvJ_of, bvI_of]
  omega
theorem chr_lt {x : Nat} (h : x < 16) : chr x < 256 := by unfold chr; split <;> omega
theorem pd_step {u : MH_} {p bp base k x : Nat} {v v' : Int64} {n : Int32} {l : List Nat} {Q : Rs_ → MH_ → Prop} (hp : Pr u p) (hr : Rw u (p + 4) 176 l) (hk : k < 12) (hbp : bp < 12) (hx : gI_ u (p + 6) k = Int32.ofNat x) (hx2 : x < 16) (hl : l.length + 1 + (if k = bp ∧ 0 < k then 1 else 0) ≤ 176)
    (K : ∀ u', Rw u' (p + 4) 176 (l ++ (chr x :: (if k = bp ∧ 0 < k then [46] else []))) → Fz (SR (p + 4)) u u' → Wp 72 63 [.ref p, .long v, .null, .int (Int32.ofNat bp), .int (Int32.ofNat base), .long v', .null, .int n, .int (Int32.ofNat k + -(Int32.ofNat 1))] [] u' Q) :
    Wp 72 63 [.ref p, .long v, .null, .int (Int32.ofNat bp), .int (Int32.ofNat base), .long v', .null, .int n, .int (Int32.ofNat k)] [] u Q := by
  obtain ⟨a1, a2, a3, a4, a5, a6⟩ := hp
  have hl2 : l.length < 176 := by split at hl <;> omega
  have fin : ∀ (y : Nat), y = chr x → Wp 93 0 [.ref (p + 4), .int (Int32.ofNat y)] [] u (bk_ Wp 72 110 0 93 [.ref p, .long v, .null, .int (Int32.ofNat bp), .int (Int32.ofNat base), .long v', .null, .int n, .int (Int32.ofNat k)] [] Q) := by
    intro y hy
    refine Wp_use (Row_put hr hl2) ?_
    rintro _ h1 ⟨rfl, hr1, f1⟩
    rw [lo8_of, hy, Nat.mod_eq_of_lt (chr_lt hx2)] at hr1
    have g1 : kd_ h1 p = 8 := by rw [f1.kd, a1]
    have g3 : gP_ h1 p 1 = some (p + 4) := by rw [f1.gP, a3]
    by_cases hc : k = bp ∧ 0 < k
    · rw [if_pos hc] at K hl
      simp (disch := omega) only [V93, U72_0, U72_1, U72_3, U72_4, U72_8, U72_9, U72_12, U72_13, U72_16, U72_18, U72_19, U72_20, U72_23, U72_25, U72_26, U72_29, U72_30, U72_33, U72_35, U72_37, U72_39, U72_40, U72_41, U72_42, U72_43, U72_45, U72_47, U72_48, U72_49, U72_51, U72_54, U72_57, U72_59, U72_60, U72_61, U72_65, U72_68, U72_69, U72_72, U72_73, U72_76, U72_78, U72_79, U72_81, U72_84, U72_86, U72_87, U72_90, U72_92, U72_93, U72_94, U72_97, U72_99, U72_100, U72_103, U72_105, U72_106, U72_107, U72_109, U72_110, U72_113, U72_115, U72_116, U72_119, U72_121, U72_124, U72_125, U72_128, U72_130, U72_133, U72_136, U72_139, hc.1, show 0 < bp by omega, g1, g3, hr1.1, i_lt, i_eq, true_and, and_true, false_and, and_false, if_true, if_false, Nat.reduceAdd, Nat.reduceMul, Nat.reduceSub, Nat.reduceEqDiff, Option.some.injEq, exists_eq_left', true_or, or_true, false_or, or_false, not_true_eq_false, not_false_eq_true, eq_self, and_self, Nat.reduceLeDiff, decide_true, decide_false, ne_eq, Nat.left_eq_add, Nat.add_eq_left, Nat.add_left_cancel_iff, Nat.add_zero]
      refine Wp_use (Row_put hr1 (by rw [List.length_append, List.length_singleton]; omega)) ?_
      rintro _ h2 ⟨rfl, hr2, f2⟩
      simp (disch := omega) only [V93, U72_0, U72_1, U72_3, U72_4, U72_8, U72_9, U72_12, U72_13, U72_16, U72_18, U72_19, U72_20, U72_23, U72_25, U72_26, U72_29, U72_30, U72_33, U72_35, U72_37, U72_39, U72_40, U72_41, U72_42, U72_43, U72_45, U72_47, U72_48, U72_49, U72_51, U72_54, U72_57, U72_59, U72_60, U72_61, U72_65, U72_68, U72_69, U72_72, U72_73, U72_76, U72_78, U72_79, U72_81, U72_84, U72_86, U72_87, U72_90, U72_92, U72_93, U72_94, U72_97, U72_99, U72_100, U72_103, U72_105, U72_106, U72_107, U72_109, U72_110, U72_113, U72_115, U72_116, U72_119, U72_121, U72_124, U72_125, U72_128, U72_130, U72_133, U72_136, U72_139, true_and, and_true, false_and, and_false, if_true, if_false, Nat.reduceAdd, Nat.reduceMul, Nat.reduceSub, Nat.reduceEqDiff, Option.some.injEq, exists_eq_left', true_or, or_true, false_or, or_false, not_true_eq_false, not_false_eq_true, eq_self, and_self, Nat.reduceLeDiff, decide_true, decide_false, ne_eq, Nat.left_eq_add, Nat.add_eq_left, Nat.add_left_cancel_iff, Nat.add_zero]
      rw [lo8_of, List.append_assoc] at hr2
      rw [hc.1] at K
      exact K h2 hr2 (f1.trans f2)
    · rw [if_neg hc] at K
      by_cases h3 : k = bp
      · simp (disch := omega) only [V93, U72_0, U72_1, U72_3, U72_4, U72_8, U72_9, U72_12, U72_13, U72_16, U72_18, U72_19, U72_20, U72_23, U72_25, U72_26, U72_29, U72_30, U72_33, U72_35, U72_37, U72_39, U72_40, U72_41, U72_42, U72_43, U72_45, U72_47, U72_48, U72_49, U72_51, U72_54, U72_57, U72_59, U72_60, U72_61, U72_65, U72_68, U72_69, U72_72, U72_73, U72_76, U72_78, U72_79, U72_81, U72_84, U72_86, U72_87, U72_90, U72_92, U72_93, U72_94, U72_97, U72_99, U72_100, U72_103, U72_105, U72_106, U72_107, U72_109, U72_110, U72_113, U72_115, U72_116, U72_119, U72_121, U72_124, U72_125, U72_128, U72_130, U72_133, U72_136, U72_139, h3, show ¬ 0 < bp by omega, i_lt, i_eq, true_and, and_true, false_and, and_false, if_true, if_false, Nat.reduceAdd, Nat.reduceMul, Nat.reduceSub, Nat.reduceEqDiff, Option.some.injEq, exists_eq_left', true_or, or_true, false_or, or_false, not_true_eq_false, not_false_eq_true, eq_self, and_self, Nat.reduceLeDiff, decide_true, decide_false, ne_eq, Nat.left_eq_add, Nat.add_eq_left, Nat.add_left_cancel_iff, Nat.add_zero]
        rw [h3] at K
        exact K h1 hr1 f1
      · simp (disch := omega) only [V93, U72_0, U72_1, U72_3, U72_4, U72_8, U72_9, U72_12, U72_13, U72_16, U72_18, U72_19, U72_20, U72_23, U72_25, U72_26, U72_29, U72_30, U72_33, U72_35, U72_37, U72_39, U72_40, U72_41, U72_42, U72_43, U72_45, U72_47, U72_48, U72_49, U72_51, U72_54, U72_57, U72_59, U72_60, U72_61, U72_65, U72_68, U72_69, U72_72, U72_73, U72_76, U72_78, U72_79, U72_81, U72_84, U72_86, U72_87, U72_90, U72_92, U72_93, U72_94, U72_97, U72_99, U72_100, U72_103, U72_105, U72_106, U72_107, U72_109, U72_110, U72_113, U72_115, U72_116, U72_119, U72_121, U72_124, U72_125, U72_128, U72_130, U72_133, U72_136, U72_139, h3, i_lt, i_eq, true_and, and_true, false_and, and_false, if_true, if_false, Nat.reduceAdd, Nat.reduceMul, Nat.reduceSub, Nat.reduceEqDiff, Option.some.injEq, exists_eq_left', true_or, or_true, false_or, or_false, not_true_eq_false, not_false_eq_true, eq_self, and_self, Nat.reduceLeDiff, decide_true, decide_false, ne_eq, Nat.left_eq_add, Nat.add_eq_left, Nat.add_left_cancel_iff, Nat.add_zero]
        exact K h1 hr1 f1
  rw [U72_63]
  simp (disch := omega) only [U72_0, U72_1, U72_3, U72_4, U72_8, U72_9, U72_12, U72_13, U72_16, U72_18, U72_19, U72_20, U72_23, U72_25, U72_26, U72_29, U72_30, U72_33, U72_35, U72_37, U72_39, U72_40, U72_41, U72_42, U72_43, U72_45, U72_47, U72_48, U72_49, U72_51, U72_54, U72_57, U72_59, U72_60, U72_61, U72_65, U72_68, U72_69, U72_72, U72_73, U72_76, U72_78, U72_79, U72_81, U72_84, U72_86, U72_87, U72_90, U72_92, U72_93, U72_94, U72_97, U72_99, U72_100, U72_103, U72_105, U72_106, U72_107, U72_109, U72_110, U72_113, U72_115, U72_116, U72_119, U72_121, U72_124, U72_125, U72_128, U72_130, U72_133, U72_136, U72_139, a1, a3, a4, a5, a6, hr.1, hx, show ¬ k < 0 by omega, hk, i_add, i_mul, i_sub, i_addn, i_lt, i_eq, i_idx, i_vp, true_and, and_true, false_and, and_false, if_true, if_false, Nat.reduceAdd, Nat.reduceMul, Nat.reduceSub, Nat.reduceEqDiff, Option.some.injEq, exists_eq_left', true_or, or_true, false_or, or_false, not_true_eq_false, not_false_eq_true, eq_self, and_self, Nat.reduceLeDiff, decide_true, decide_false, ne_eq, Nat.left_eq_add, Nat.add_eq_left, Nat.add_left_cancel_iff, Nat.add_zero]
  by_cases h10 : x < 10
  · rw [if_pos h10]
    exact fin _ (by unfold chr; rw [if_pos h10])
  · rw [if_neg h10]
    exact fin _ (by unfold chr; rw [if_neg h10]; omega)
theorem Printer_printDigits {h : MH_} {p v bp base : Nat} {l : List Nat} (hp : Pr h p) (hr : Rw h (p + 4) 176 l) (hv : v < 9223372036854775808) (hb : base = 10 ∨ base = 16) (hbp : bp < 12) (hl : l.length + 13 ≤ 176) : Wp 72 0 [.ref p, .long (Int64.ofNat v), .null, .int (Int32.ofNat bp), .int (Int32.ofNat base), .null, .null, .null, .null] [] h (fun w h' => w = .inl .null ∧ Rw h' (p + 4) 176 (l ++ prD v bp base) ∧ Fz (SP p) h h') := by
  have hb0 : 0 < base := by omega
  have last : ∀ u l (v' : Int64) (n : Int32), Rw u (p + 4) 176 l → Wp 72 63 [.ref p, .long (Int64.ofNat v), .null, .int (Int32.ofNat bp), .int (Int32.ofNat base), .long v', .null, .int n, .int (-(Int32.ofNat 1))] [] u (fun w h' => w = .inl .null ∧ Rw h' (p + 4) 176 l ∧ Fz (SP p) u h') := by
    intro u l v' n hr
    rw [U72_63]
    simp (disch := omega) only [U72_0, U72_1, U72_3, U72_4, U72_8, U72_9, U72_12, U72_13, U72_16, U72_18, U72_19, U72_20, U72_23, U72_25, U72_26, U72_29, U72_30, U72_33, U72_35, U72_37, U72_39, U72_40, U72_41, U72_42, U72_43, U72_45, U72_47, U72_48, U72_49, U72_51, U72_54, U72_57, U72_59, U72_60, U72_61, U72_65, U72_68, U72_69, U72_72, U72_73, U72_76, U72_78, U72_79, U72_81, U72_84, U72_86, U72_87, U72_90, U72_92, U72_93, U72_94, U72_97, U72_99, U72_100, U72_103, U72_105, U72_106, U72_107, U72_109, U72_110, U72_113, U72_115, U72_116, U72_119, U72_121, U72_124, U72_125, U72_128, U72_130, U72_133, U72_136, U72_139, show (-(Int32.ofNat 1) : Int32) < Int32.ofNat 0 by decide, i_add, i_mul, i_sub, i_addn, i_lt, i_eq, i_idx, i_vp, true_and, and_true, false_and, and_false, if_true, if_false, Nat.reduceAdd, Nat.reduceMul, Nat.reduceSub, Nat.reduceEqDiff, Option.some.injEq, exists_eq_left', true_or, or_true, false_or, or_false, not_true_eq_false, not_false_eq_true, eq_self, and_self, Nat.reduceLeDiff, decide_true, decide_false, ne_eq, Nat.left_eq_add, Nat.add_eq_left, Nat.add_left_cancel_iff, Nat.add_zero]
    exact ⟨hr, Fz.rfl'⟩
  have two : ∀ k u l (v' : Int64) (n : Int32) (ds : List Nat), k < 12 → Pr u p → Rw u (p + 4) 176 l → (∀ i, i < k + 1 → gI_ u (p + 6) i = Int32.ofNat (ds.getD i 0)) → (∀ i, ds.getD i 0 < 16) → l.length + (k + 1) + (if bp < k + 1 ∧ 0 < bp then 1 else 0) ≤ 176 → Wp 72 63 [.ref p, .long (Int64.ofNat v), .null, .int (Int32.ofNat bp), .int (Int32.ofNat base), .long v', .null, .int n, .int (Int32.ofNat k)] [] u (fun w h' => w = .inl .null ∧ Rw h' (p + 4) 176 (l ++ otF ds bp (k + 1)) ∧ Fz (SP p) u h') := by
    intro k
    induction k with
    | zero =>
      intro u l v' n ds hk hp hr hd hd2 hl
      refine pd_step hp hr hk hbp (hd 0 (by omega)) (hd2 0) (by rw [if_neg (by omega)]; split at hl <;> omega) ?_
      intro u' hr' f'
      rw [show Int32.ofNat 0 + -(Int32.ofNat 1) = -(Int32.ofNat 1) by decide]
      refine Wp_use (last u' _ v' n hr') ?_
      rintro _ h2 ⟨rfl, hr2, f2⟩
      refine ⟨rfl, ?_, (f'.mono (fun a i z => Or.inl z)).trans f2⟩
      simp only [otF, List.append_nil] at hr2 ⊢
      exact hr2
    | succ k ih =>
      intro u l v' n ds hk hp hr hd hd2 hl
      refine pd_step hp hr hk hbp (hd (k + 1) (by omega)) (hd2 (k + 1)) (by split <;> split at hl <;> omega) ?_
      intro u' hr' f'
      rw [i_addn (show 1 ≤ k + 1 by omega), show k + 1 - 1 = k by omega]
      refine Wp_use (ih u' _ v' n ds (by omega) (hp.fz f') hr' (fun i hi => by rw [f'.gI (by unfold SR; omega)]; exact hd i (by omega)) hd2 ?_) ?_
      · rw [List.length_append, List.length_cons]
        by_cases h1 : k + 1 = bp ∧ 0 < k + 1
        · rw [if_pos h1, List.length_singleton, if_neg (by omega)]
          rw [if_pos (by omega)] at hl
          omega
        · rw [if_neg h1, List.length_nil]
          split <;> split at hl <;> omega
      · rintro _ h2 ⟨rfl, hr2, f2⟩
        refine ⟨rfl, ?_, (f'.mono (fun a i z => Or.inl z)).trans f2⟩
        rw [otF]
        rwa [List.append_assoc, List.cons_append] at hr2
  have one : ∀ f n u v' (ds : List Nat), n + f = 12 → ds.length = n → (n = 0 → 0 < bp + 1) → v' < 9223372036854775808 → dgF base 12 v (bp + 1) = ds ++ dgF base f v' (bp + 1 - n) → Pr u p → Rw u (p + 4) 176 l → (∀ i, i < n → gI_ u (p + 6) i = Int32.ofNat (ds.getD i 0)) → Fz (SP p) h u → Wp 72 6 [.ref p, .long (Int64.ofNat v), .null, .int (Int32.ofNat bp), .int (Int32.ofNat base), .long (Int64.ofNat v'), .null, .int (Int32.ofNat n), .null] [] u (fun w h' => w = .inl .null ∧ Rw h' (p + 4) 176 (l ++ prD v bp base) ∧ Fz (SP p) h h') := by
    have exit : ∀ n u v' (ds : List Nat), n ≤ 12 → ds.length = n → 0 < n → dgF base 12 v (bp + 1) = ds → Pr u p → Rw u (p + 4) 176 l → (∀ i, i < n → gI_ u (p + 6) i = Int32.ofNat (ds.getD i 0)) → Fz (SP p) h u → Wp 72 57 [.ref p, .long (Int64.ofNat v), .null, .int (Int32.ofNat bp), .int (Int32.ofNat base), .long v', .null, .int (Int32.ofNat n), .null] [] u (fun w h' => w = .inl .null ∧ Rw h' (p + 4) 176 (l ++ prD v bp base) ∧ Fz (SP p) h h') := by
      intro n u v' ds hn hdl h0 hds hp hr hd hz
      simp (disch := omega) only [U72_57, U72_59, U72_60, U72_61, i_add, i_mul, i_sub, i_addn, i_lt, i_eq, i_idx, i_vp, true_and, and_true, false_and, and_false, if_true, if_false, Nat.reduceAdd, Nat.reduceMul, Nat.reduceSub, Nat.reduceEqDiff, Option.some.injEq, exists_eq_left', true_or, or_true, false_or, or_false, not_true_eq_false, not_false_eq_true, eq_self, and_self, Nat.reduceLeDiff, decide_true, decide_false, ne_eq, Nat.left_eq_add, Nat.add_eq_left, Nat.add_left_cancel_iff, Nat.add_zero]
      have hd2 : ∀ i, ds.getD i 0 < 16 := by
        intro i
        by_cases hi : i < ds.length
        · have := dgF_lt hb0 12 v (bp + 1) ds[i] (by rw [hds]; exact List.getElem_mem hi)
          rw [gD_in hi]; omega
        · rw [gD_out (by omega)]; omega
      refine Wp_use (two (n - 1) u l v' _ ds (by omega) hp hr (fun i hi => hd i (by omega)) hd2 (by split <;> omega)) ?_
      rintro _ h2 ⟨rfl, hr2, f2⟩
      refine ⟨rfl, ?_, hz.trans f2⟩
      unfold prD
      rw [hds, hdl]
      rwa [show n - 1 + 1 = n by omega] at hr2
    intro f
    induction f with
    | zero =>
      intro n u v' ds hn hdl h0 hv' hds hp hr hd hz
      have hp' := hp
      obtain ⟨a1, a2, a3, a4, a5, a6⟩ := hp
      rw [U72_6, U72_8]
      simp (disch := omega) only [U72_9, U72_12, U72_13, a1, a4, a5, a6, show ¬ n < 12 by omega, show (30 : Nat) ≤ 30 by decide, show (30 : Nat) ≤ 38 by decide, i_add, i_mul, i_sub, i_addn, i_lt, i_eq, i_idx, i_vp, true_and, and_true, false_and, and_false, if_true, if_false, Nat.reduceAdd, Nat.reduceMul, Nat.reduceSub, Nat.reduceEqDiff, Option.some.injEq, exists_eq_left', true_or, or_true, false_or, or_false, not_true_eq_false, not_false_eq_true, eq_self, and_self, Nat.reduceLeDiff, decide_true, decide_false, ne_eq, Nat.left_eq_add, Nat.add_eq_left, Nat.add_left_cancel_iff, Nat.add_zero]
      rw [dgF, List.append_nil] at hds
      exact exit n u _ ds (by omega) hdl (by omega) hds hp' hr hd hz
    | succ f ih =>
      intro n u v' ds hn hdl h0 hv' hds hp hr hd hz
      have hp' := hp
      obtain ⟨a1, a2, a3, a4, a5, a6⟩ := hp
      by_cases hg : 0 < v' ∨ 0 < bp + 1 - n
      · rw [show dgF base (f + 1) v' (bp + 1 - n) = v' % base :: dgF base f (v' / base) (bp + 1 - n - 1) by rw [dgF, if_pos hg]] at hds
        have go : Wp 72 29 [.ref p, .long (Int64.ofNat v), .null, .int (Int32.ofNat bp), .int (Int32.ofNat base), .long (Int64.ofNat v'), .null, .int (Int32.ofNat n), .null] [] u (fun w h' => w = .inl .null ∧ Rw h' (p + 4) 176 (l ++ prD v bp base) ∧ Fz (SP p) h h') := by
          simp (disch := omega) only [U72_0, U72_1, U72_3, U72_4, U72_8, U72_9, U72_12, U72_13, U72_16, U72_18, U72_19, U72_20, U72_23, U72_25, U72_26, U72_29, U72_30, U72_33, U72_35, U72_37, U72_39, U72_40, U72_41, U72_42, U72_43, U72_45, U72_47, U72_48, U72_49, U72_51, U72_54, U72_57, U72_59, U72_60, U72_61, U72_65, U72_68, U72_69, U72_72, U72_73, U72_76, U72_78, U72_79, U72_81, U72_84, U72_86, U72_87, U72_90, U72_92, U72_93, U72_94, U72_97, U72_99, U72_100, U72_103, U72_105, U72_106, U72_107, U72_109, U72_110, U72_113, U72_115, U72_116, U72_119, U72_121, U72_124, U72_125, U72_128, U72_130, U72_133, U72_136, U72_139, z_kd_sI, z_ln_sI, z_gI_sI, z_gJ_sI, z_gP_sI, z_nx_sI, z_rc_sI, z_rs_sI, z_em_sI, z_mi_sI, z_kd_sJ, z_ln_sJ, z_gI_sJ, z_gJ_sJ, z_gP_sJ, z_nx_sJ, z_rc_sJ, z_rs_sJ, z_em_sJ, z_mi_sJ, z_kd_sP, z_ln_sP, z_gI_sP, z_gJ_sP, z_gP_sP, z_nx_sP, z_rc_sP, z_rs_sP, z_em_sP, z_mi_sP, z_kd_nw, z_ln_nw, z_gI_nw, z_gJ_nw, z_gP_nw, z_nx_nw, z_rc_nw, z_rs_nw, z_em_nw, z_mi_nw, z_kd_cI, z_ln_cI, z_gI_cI, z_gJ_cI, z_gP_cI, z_nx_cI, z_rc_cI, z_rs_cI, z_em_cI, z_mi_cI, z_kd_cP, z_ln_cP, z_gI_cP, z_gJ_cP, z_gP_cP, z_nx_cP, z_rc_cP, z_rs_cP, z_em_cP, z_mi_cP, z_kd_wI, z_ln_wI, z_gI_wI, z_gJ_wI, z_gP_wI, z_nx_wI, z_rc_wI, z_rs_wI, z_em_wI, z_mi_wI, z_kd_wJ, z_ln_wJ, z_gI_wJ, z_gJ_wJ, z_gP_wJ, z_nx_wJ, z_rc_wJ, z_rs_wJ, z_em_wJ, z_mi_wJ, a1, a4, a5, a6, show n < 12 by omega, i64, j_eq, j_div, j_rem, j_i, show ¬ base = 0 by omega, i_add, i_mul, i_sub, i_addn, i_lt, i_eq, i_idx, i_vp, true_and, and_true, false_and, and_false, if_true, if_false, Nat.reduceAdd, Nat.reduceMul, Nat.reduceSub, Nat.reduceEqDiff, Option.some.injEq, exists_eq_left', true_or, or_true, false_or, or_false, not_true_eq_false, not_false_eq_true, eq_self, and_self, Nat.reduceLeDiff, decide_true, decide_false, ne_eq, Nat.left_eq_add, Nat.add_eq_left, Nat.add_left_cancel_iff, Nat.add_zero]
          refine ih (n + 1) _ (v' / base) (ds ++ [v' % base]) (by omega) (by rw [List.length_append, List.length_singleton]; omega) (by omega) (Nat.lt_of_le_of_lt (Nat.div_le_self _ _) hv') (by rw [hds, List.append_assoc, List.singleton_append, show bp + 1 - n - 1 = bp + 1 - (n + 1) by omega]) (hp'.fz (Fz.rfl'.sI (S := SP p) (Or.inr rfl))) (hr.fz (Fz.rfl'.sI (S := fun a _ => a = p + 6) rfl) (by unfold SR; intro a i z1 z2; omega)) (fun i hi => ?_) (hz.sI (Or.inr rfl))
          rw [z_gI_sI]
          by_cases h1 : i = n
          · subst h1
            rw [if_pos ⟨rfl, rfl⟩, gD_app' (by omega), hdl, Nat.sub_self]; rfl
          · rw [if_neg (by omega), hd i (by omega), gD_app (by omega)]
        rw [U72_6, U72_8]
        simp (disch := omega) only [U72_9, U72_12, U72_13, U72_16, U72_18, U72_19, U72_20, U72_23, U72_25, U72_26, a1, a4, a5, a6, c_gt, j_lt, show n < 12 by omega, show (30 : Nat) ≤ 30 by decide, show (30 : Nat) ≤ 38 by decide, i_add, i_mul, i_sub, i_addn, i_lt, i_eq, i_idx, i_vp, true_and, and_true, false_and, and_false, if_true, if_false, Nat.reduceAdd, Nat.reduceMul, Nat.reduceSub, Nat.reduceEqDiff, Option.some.injEq, exists_eq_left', true_or, or_true, false_or, or_false, not_true_eq_false, not_false_eq_true, eq_self, and_self, Nat.reduceLeDiff, decide_true, decide_false, ne_eq, Nat.left_eq_add, Nat.add_eq_left, Nat.add_left_cancel_iff, Nat.add_zero]
        by_cases h1 : 0 < v'
        · rw [if_pos h1]; exact go
        · rw [if_neg h1, if_neg (by omega)]; exact go
      · rw [show dgF base (f + 1) v' (bp + 1 - n) = [] by rw [dgF, if_neg hg], List.append_nil] at hds
        rw [U72_6, U72_8]
        simp (disch := omega) only [U72_9, U72_12, U72_13, U72_16, U72_18, U72_19, U72_20, U72_23, U72_25, U72_26, a1, a4, a5, a6, c_gt, j_lt, show n < 12 by omega, show ¬ 0 < v' by omega, show bp < n by omega, show (30 : Nat) ≤ 30 by decide, show (30 : Nat) ≤ 38 by decide, i_add, i_mul, i_sub, i_addn, i_lt, i_eq, i_idx, i_vp, true_and, and_true, false_and, and_false, if_true, if_false, Nat.reduceAdd, Nat.reduceMul, Nat.reduceSub, Nat.reduceEqDiff, Option.some.injEq, exists_eq_left', true_or, or_true, false_or, or_false, not_true_eq_false, not_false_eq_true, eq_self, and_self, Nat.reduceLeDiff, decide_true, decide_false, ne_eq, Nat.left_eq_add, Nat.add_eq_left, Nat.add_left_cancel_iff, Nat.add_zero]
        exact exit n u _ ds (by omega) hdl (by omega) hds hp' hr hd hz
  simp (disch := omega) only [U72_0, U72_1, U72_3, U72_4, U72_8, U72_9, U72_12, U72_13, U72_16, U72_18, U72_19, U72_20, U72_23, U72_25, U72_26, U72_29, U72_30, U72_33, U72_35, U72_37, U72_39, U72_40, U72_41, U72_42, U72_43, U72_45, U72_47, U72_48, U72_49, U72_51, U72_54, U72_57, U72_59, U72_60, U72_61, U72_65, U72_68, U72_69, U72_72, U72_73, U72_76, U72_78, U72_79, U72_81, U72_84, U72_86, U72_87, U72_90, U72_92, U72_93, U72_94, U72_97, U72_99, U72_100, U72_103, U72_105, U72_106, U72_107, U72_109, U72_110, U72_113, U72_115, U72_116, U72_119, U72_121, U72_124, U72_125, U72_128, U72_130, U72_133, U72_136, U72_139, i_add, i_mul, i_sub, i_addn, i_lt, i_eq, i_idx, i_vp, true_and, and_true, false_and, and_false, if_true, if_false, Nat.reduceAdd, Nat.reduceMul, Nat.reduceSub, Nat.reduceEqDiff, Option.some.injEq, exists_eq_left', true_or, or_true, false_or, or_false, not_true_eq_false, not_false_eq_true, eq_self, and_self, Nat.reduceLeDiff, decide_true, decide_false, ne_eq, Nat.left_eq_add, Nat.add_eq_left, Nat.add_left_cancel_iff, Nat.add_zero]
  exact one 12 0 h v [] (by omega) rfl (by omega) hv (by rw [List.nil_append]; rfl) hp hr (fun i hi => absurd hi (Nat.not_lt_zero _)) Fz.rfl'
