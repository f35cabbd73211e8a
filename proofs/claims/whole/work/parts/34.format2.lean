/-! ===== Format, the rest ===== -/
theorem Format_faultIn {h : MH_} {f r c : Nat} {t sp : List Nat} (hf : Fs h f) (hsp : Rw h (f + 1) 80 sp) (hr : Rw h r c t) (ap : r + 2 ≤ f ∨ f + 6 ≤ r) : Wp 29 0 [.ref f, .ref r, .null, .null] [] h (PF (fm t 0 0) [] t f h) := by
  simp (disch := omega) only [U29_0, U29_1, U29_4, U29_7, U29_8, U29_9, U29_12, U29_13, U29_14, U29_17, U29_18, U29_19, U29_22, U29_23, U29_25, U29_26, U29_29, U29_32, U29_33, U29_34, U29_37, U29_38, U29_39, U29_41, U29_44, U29_45, U29_48, U29_51, U29_52, U29_53, U29_54, U29_57, U29_60, U29_61, U29_62, U29_65, U29_68, U29_69, U29_70, U29_71, U29_74, U29_75, U29_78, U29_81, U29_84, U29_85, U29_88, U29_91, U29_92, U29_95, U29_96, U29_99, hf.1, hf.2.1, hsp.1, i_add, i_mul, i_sub, i_addn, i_lt, i_eq, i_idx, i_vp, true_and, and_true, false_and, and_false, if_true, if_false, Nat.reduceAdd, Nat.reduceMul, Nat.reduceSub, Nat.reduceEqDiff, Option.some.injEq, exists_eq_left', true_or, or_true, false_or, or_false, not_true_eq_false, not_false_eq_true, eq_self, and_self, Nat.reduceLeDiff, decide_true, decide_false, ne_eq, Nat.left_eq_add, Nat.add_eq_left, Nat.add_left_cancel_iff, Nat.add_zero]
  refine Wp_use (Row_begin hsp) ?_
  rintro _ h1 ⟨rfl, hs1, z1⟩
  have hf1 : Fs h1 f := hf.fz z1
  simp (disch := omega) only [V86, U29_0, U29_1, U29_4, U29_7, U29_8, U29_9, U29_12, U29_13, U29_14, U29_17, U29_18, U29_19, U29_22, U29_23, U29_25, U29_26, U29_29, U29_32, U29_33, U29_34, U29_37, U29_38, U29_39, U29_41, U29_44, U29_45, U29_48, U29_51, U29_52, U29_53, U29_54, U29_57, U29_60, U29_61, U29_62, U29_65, U29_68, U29_69, U29_70, U29_71, U29_74, U29_75, U29_78, U29_81, U29_84, U29_85, U29_88, U29_91, U29_92, U29_95, U29_96, U29_99, z_kd_sI, z_ln_sI, z_gI_sI, z_gJ_sI, z_gP_sI, z_nx_sI, z_rc_sI, z_rs_sI, z_em_sI, z_mi_sI, z_kd_sJ, z_ln_sJ, z_gI_sJ, z_gJ_sJ, z_gP_sJ, z_nx_sJ, z_rc_sJ, z_rs_sJ, z_em_sJ, z_mi_sJ, z_kd_sP, z_ln_sP, z_gI_sP, z_gJ_sP, z_gP_sP, z_nx_sP, z_rc_sP, z_rs_sP, z_em_sP, z_mi_sP, z_kd_nw, z_ln_nw, z_gI_nw, z_gJ_nw, z_gP_nw, z_nx_nw, z_rc_nw, z_rs_nw, z_em_nw, z_mi_nw, z_kd_cI, z_ln_cI, z_gI_cI, z_gJ_cI, z_gP_cI, z_nx_cI, z_rc_cI, z_rs_cI, z_em_cI, z_mi_cI, z_kd_cP, z_ln_cP, z_gI_cP, z_gJ_cP, z_gP_cP, z_nx_cP, z_rc_cP, z_rs_cP, z_em_cP, z_mi_cP, z_kd_wI, z_ln_wI, z_gI_wI, z_gJ_wI, z_gP_wI, z_nx_wI, z_rc_wI, z_rs_wI, z_em_wI, z_mi_wI, z_kd_wJ, z_ln_wJ, z_gI_wJ, z_gJ_wJ, z_gP_wJ, z_nx_wJ, z_rc_wJ, z_rs_wJ, z_em_wJ, z_mi_wJ, hf1.1, i_add, i_mul, i_sub, i_addn, i_lt, i_eq, i_idx, i_vp, true_and, and_true, false_and, and_false, if_true, if_false, Nat.reduceAdd, Nat.reduceMul, Nat.reduceSub, Nat.reduceEqDiff, Option.some.injEq, exists_eq_left', true_or, or_true, false_or, or_false, not_true_eq_false, not_false_eq_true, eq_self, and_self, Nat.reduceLeDiff, decide_true, decide_false, ne_eq, Nat.left_eq_add, Nat.add_eq_left, Nat.add_left_cancel_iff, Nat.add_zero]
  have z2 : Fz (SF f) h1 (sI_ (sI_ (sI_ h1 f 4 (Int32.ofNat 0)) f 5 (Int32.ofNat 0)) f 6 (Int32.ofNat 0)) := ((Fz.rfl'.sI (Or.inl ⟨rfl, Or.inl rfl⟩)).sI (Or.inl ⟨rfl, Or.inr (Or.inl rfl)⟩)).sI (Or.inl ⟨rfl, Or.inr (Or.inr rfl)⟩)
  have hr2 : Rw (sI_ (sI_ (sI_ h1 f 4 (Int32.ofNat 0)) f 5 (Int32.ofNat 0)) f 6 (Int32.ofNat 0)) r c t := (hr.fz z1 (by unfold SR; intro a i y1 y2; omega)).fz z2 (by unfold SR SF; intro a i y1 y2; omega)
  refine fq ap hr t.length t (Nat.le_refl _) 0 [] _ 0 0 _ rfl ⟨hf1.fz z2, ⟨?_, Nat.zero_le _, ?_, Nat.zero_le _, fun i hi => absurd hi (Nat.not_lt_zero _), fun j hj => absurd hj (Nat.not_lt_zero _)⟩, ?_, fun m => absurd m (by decide), fun m => absurd m (by decide)⟩ hr2 (hs1.fz z2 (by unfold SR SF; intro a i y1 y2; omega)) (by omega) (by omega) (Nat.le_refl _) ((z1.mono (fun a i z => Or.inr z)).trans (z2.mono (fun a i z => Or.inl z)))
  · rw [z_gI_sI, if_neg (by omega), z_gI_sI, if_neg (by omega), z_gI_sI, if_pos ⟨rfl, rfl⟩]; rfl
  · rw [z_gI_sI, if_neg (by omega), z_gI_sI, if_pos ⟨rfl, rfl⟩]; rfl
  · rw [z_gI_sI, if_pos ⟨rfl, rfl⟩]
/-- a site's format -/
def Fo (h : MH_) (f : Nat) (ts : List Tok) : Prop := Fs h f ∧ Fc h f ts ∧ Rw h (f + 1) 80 (spell ts)
theorem Fo.fz {S : Nat → Nat → Prop} {h h' : MH_} {f : Nat} {ts : List Tok} (hf : Fo h f ts) (z : Fz S h h') (hs : ∀ a i, SA f a i → ¬ S a i) : Fo h' f ts :=
  ⟨hf.1.fz z, hf.2.1.fz z (fun a i y => hs a i (Or.inl y)), hf.2.2.fz z (fun a i y => hs a i (Or.inr y))⟩
def kdS (ts : List Tok) (s : Nat) : Nat := match (slts ts)[s]? with | some q => q.1 | none => 0
def dgS (ts : List Tok) (s : Nat) : Nat := match (slts ts)[s]? with | some q => q.2 | none => 0
theorem Format_isSpelled {h : MH_} {f r c : Nat} {t : List Nat} {ts : List Tok} {Q : Rs_ → MH_ → Prop} (hf : Fo h f ts) (hr : Rw h r c t) : Wp 31 0 [.ref f, .ref r] [] h Q ↔ Q (.inl (.int (bz (spell ts = t)))) h := by
  simp (disch := omega) only [U31_0, U31_1, U31_4, U31_5, U31_8, hf.1.1, hf.1.2.1, hf.2.2.1, Row_isSameAs hf.2.2 hr, V91, bz_01, i_add, i_mul, i_sub, i_addn, i_lt, i_eq, i_idx, i_vp, true_and, and_true, false_and, and_false, if_true, if_false, Nat.reduceAdd, Nat.reduceMul, Nat.reduceSub, Nat.reduceEqDiff, Option.some.injEq, exists_eq_left', true_or, or_true, false_or, or_false, not_true_eq_false, not_false_eq_true, eq_self, and_self, Nat.reduceLeDiff, decide_true, decide_false, ne_eq, Nat.left_eq_add, Nat.add_eq_left, Nat.add_left_cancel_iff, Nat.add_zero]
theorem Format_pieceCount {h : MH_} {f : Nat} {ts : List Tok} {Q : Rs_ → MH_ → Prop} (hf : Fs h f) (hc : Fc h f ts) : Wp 36 0 [.ref f] [] h Q ↔ Q (.inl (.int (Int32.ofNat ts.length))) h := by
  simp (disch := omega) only [U36_0, U36_1, U36_4, hf.1, hc.1, i_add, i_mul, i_sub, i_addn, i_lt, i_eq, i_idx, i_vp, true_and, and_true, false_and, and_false, if_true, if_false, Nat.reduceAdd, Nat.reduceMul, Nat.reduceSub, Nat.reduceEqDiff, Option.some.injEq, exists_eq_left', true_or, or_true, false_or, or_false, not_true_eq_false, not_false_eq_true, eq_self, and_self, Nat.reduceLeDiff, decide_true, decide_false, ne_eq, Nat.left_eq_add, Nat.add_eq_left, Nat.add_left_cancel_iff, Nat.add_zero]
theorem Format_slots {h : MH_} {f : Nat} {ts : List Tok} {Q : Rs_ → MH_ → Prop} (hf : Fs h f) (hc : Fc h f ts) : Wp 37 0 [.ref f] [] h Q ↔ Q (.inl (.int (Int32.ofNat (slts ts).length))) h := by
  simp (disch := omega) only [U37_0, U37_1, U37_4, hf.1, hc.2.2.1, i_add, i_mul, i_sub, i_addn, i_lt, i_eq, i_idx, i_vp, true_and, and_true, false_and, and_false, if_true, if_false, Nat.reduceAdd, Nat.reduceMul, Nat.reduceSub, Nat.reduceEqDiff, Option.some.injEq, exists_eq_left', true_or, or_true, false_or, or_false, not_true_eq_false, not_false_eq_true, eq_self, and_self, Nat.reduceLeDiff, decide_true, decide_false, ne_eq, Nat.left_eq_add, Nat.add_eq_left, Nat.add_left_cancel_iff, Nat.add_zero]
theorem Format_pieceAt {h : MH_} {f i : Nat} {ts : List Tok} {Q : Rs_ → MH_ → Prop} (hf : Fs h f) (hc : Fc h f ts) (hi : i < ts.length) : Wp 35 0 [.ref f, .int (Int32.ofNat i)] [] h Q ↔ Q (.inl (.int (pcv ts i))) h := by
  have c2 := hc.2.1
  obtain ⟨a1, a2, a3, a4, a5, a6, a7, a8, a9, a10, a11⟩ := hf
  simp (disch := omega) only [U35_0, U35_1, U35_4, U35_5, U35_6, U35_9, U35_12, U35_13, U35_16, U35_17, U35_18, U35_21, U35_22, a1, a3, a6, a7, hc.1, hi, show ¬ i < 0 by omega, show i < 80 by omega, hc.2.2.2.2.1 i hi, i_add, i_mul, i_sub, i_addn, i_lt, i_eq, i_idx, i_vp, true_and, and_true, false_and, and_false, if_true, if_false, Nat.reduceAdd, Nat.reduceMul, Nat.reduceSub, Nat.reduceEqDiff, Option.some.injEq, exists_eq_left', true_or, or_true, false_or, or_false, not_true_eq_false, not_false_eq_true, eq_self, and_self, Nat.reduceLeDiff, decide_true, decide_false, ne_eq, Nat.left_eq_add, Nat.add_eq_left, Nat.add_left_cancel_iff, Nat.add_zero]
theorem Format_kindAt {h : MH_} {f s : Nat} {ts : List Tok} {Q : Rs_ → MH_ → Prop} (hf : Fs h f) (hc : Fc h f ts) (hs : s < 1000000) : Wp 33 0 [.ref f, .int (Int32.ofNat s)] [] h Q ↔ Q (.inl (.int (Int32.ofNat (kdS ts s)))) h := by
  have c4 := hc.2.2.2.1
  obtain ⟨a1, a2, a3, a4, a5, a6, a7, a8, a9, a10, a11⟩ := hf
  by_cases h1 : s < (slts ts).length
  · simp (disch := omega) only [U33_0, U33_1, U33_4, U33_5, U33_6, U33_9, U33_12, U33_13, U33_16, U33_17, U33_18, U33_21, U33_22, a1, a4, a8, a9, hc.2.2.1, h1, show ¬ s < 0 by omega, show s < 6 by omega, (hc.2.2.2.2.2 s h1).1, i_add, i_mul, i_sub, i_addn, i_lt, i_eq, i_idx, i_vp, true_and, and_true, false_and, and_false, if_true, if_false, Nat.reduceAdd, Nat.reduceMul, Nat.reduceSub, Nat.reduceEqDiff, Option.some.injEq, exists_eq_left', true_or, or_true, false_or, or_false, not_true_eq_false, not_false_eq_true, eq_self, and_self, Nat.reduceLeDiff, decide_true, decide_false, ne_eq, Nat.left_eq_add, Nat.add_eq_left, Nat.add_left_cancel_iff, Nat.add_zero]
    unfold kdS
    rw [List.getElem?_eq_getElem h1]
  · simp (disch := omega) only [U33_0, U33_1, U33_4, U33_5, U33_6, U33_9, U33_12, U33_13, U33_16, U33_17, U33_18, U33_21, U33_22, a1, hc.2.2.1, h1, show ¬ s < 0 by omega, i_add, i_mul, i_sub, i_addn, i_lt, i_eq, i_idx, i_vp, true_and, and_true, false_and, and_false, if_true, if_false, Nat.reduceAdd, Nat.reduceMul, Nat.reduceSub, Nat.reduceEqDiff, Option.some.injEq, exists_eq_left', true_or, or_true, false_or, or_false, not_true_eq_false, not_false_eq_true, eq_self, and_self, Nat.reduceLeDiff, decide_true, decide_false, ne_eq, Nat.left_eq_add, Nat.add_eq_left, Nat.add_left_cancel_iff, Nat.add_zero]
    unfold kdS
    rw [List.getElem?_eq_none (by omega)]
theorem Format_digitAt {h : MH_} {f s : Nat} {ts : List Tok} {Q : Rs_ → MH_ → Prop} (hf : Fs h f) (hc : Fc h f ts) (hs : s < 1000000) : Wp 28 0 [.ref f, .int (Int32.ofNat s)] [] h Q ↔ Q (.inl (.int (Int32.ofNat (dgS ts s)))) h := by
  have c4 := hc.2.2.2.1
  obtain ⟨a1, a2, a3, a4, a5, a6, a7, a8, a9, a10, a11⟩ := hf
  by_cases h1 : s < (slts ts).length
  · simp (disch := omega) only [U28_0, U28_1, U28_4, U28_5, U28_6, U28_9, U28_12, U28_13, U28_16, U28_17, U28_18, U28_21, U28_22, a1, a5, a10, a11, hc.2.2.1, h1, show ¬ s < 0 by omega, show s < 6 by omega, (hc.2.2.2.2.2 s h1).2, i_add, i_mul, i_sub, i_addn, i_lt, i_eq, i_idx, i_vp, true_and, and_true, false_and, and_false, if_true, if_false, Nat.reduceAdd, Nat.reduceMul, Nat.reduceSub, Nat.reduceEqDiff, Option.some.injEq, exists_eq_left', true_or, or_true, false_or, or_false, not_true_eq_false, not_false_eq_true, eq_self, and_self, Nat.reduceLeDiff, decide_true, decide_false, ne_eq, Nat.left_eq_add, Nat.add_eq_left, Nat.add_left_cancel_iff, Nat.add_zero]
    unfold dgS
    rw [List.getElem?_eq_getElem h1]
  · simp (disch := omega) only [U28_0, U28_1, U28_4, U28_5, U28_6, U28_9, U28_12, U28_13, U28_16, U28_17, U28_18, U28_21, U28_22, a1, hc.2.2.1, h1, show ¬ s < 0 by omega, i_add, i_mul, i_sub, i_addn, i_lt, i_eq, i_idx, i_vp, true_and, and_true, false_and, and_false, if_true, if_false, Nat.reduceAdd, Nat.reduceMul, Nat.reduceSub, Nat.reduceEqDiff, Option.some.injEq, exists_eq_left', true_or, or_true, false_or, or_false, not_true_eq_false, not_false_eq_true, eq_self, and_self, Nat.reduceLeDiff, decide_true, decide_false, ne_eq, Nat.left_eq_add, Nat.add_eq_left, Nat.add_left_cancel_iff, Nat.add_zero]
    unfold dgS
    rw [List.getElem?_eq_none (by omega)]
/-- letters are small -/
def okS (ts : List Tok) : Prop := ∀ x ∈ ts, okT x
theorem slts_mem {ts : List Tok} {q : Nat × Nat} (h : q ∈ slts ts) : (.inr q : Tok) ∈ ts := by
  unfold slts at h
  obtain ⟨x, hx, e⟩ := List.mem_filterMap.mp h
  cases x with
  | inl b => cases e
  | inr p => cases e; exact hx
theorem kdS_lt {ts : List Tok} (h : okS ts) (s : Nat) : kdS ts s < 256 := by
  unfold kdS
  split
  · rename_i q e
    have := h _ (slts_mem (List.mem_of_getElem? e))
    obtain ⟨k, d⟩ := q
    simp only [okT] at this
    omega
  · omega
theorem dgS_lt {ts : List Tok} (h : okS ts) (s : Nat) : dgS ts s < 8 := by
  unfold dgS
  split
  · rename_i q e
    have := h _ (slts_mem (List.mem_of_getElem? e))
    obtain ⟨k, d⟩ := q
    simp only [okT] at this
    omega
  · omega
theorem Format_isTextAt {h : MH_} {f s : Nat} {ts : List Tok} {Q : Rs_ → MH_ → Prop} (hf : Fs h f) (hc : Fc h f ts) (ho : okS ts) (hs : s < 1000000) : Wp 32 0 [.ref f, .int (Int32.ofNat s)] [] h Q ↔ Q (.inl (.int (bz (kdS ts s = 116)))) h := by
  have hk := kdS_lt ho s
  simp (disch := omega) only [U32_0, U32_1, U32_2, U32_5, U32_7, U32_10, U32_11, U32_14, U32_15, hf.1, Format_kindAt hf hc, V33, i_add, i_mul, i_sub, i_addn, i_lt, i_eq, i_idx, i_vp, true_and, and_true, false_and, and_false, if_true, if_false, Nat.reduceAdd, Nat.reduceMul, Nat.reduceSub, Nat.reduceEqDiff, Option.some.injEq, exists_eq_left', true_or, or_true, false_or, or_false, not_true_eq_false, not_false_eq_true, eq_self, and_self, Nat.reduceLeDiff, decide_true, decide_false, ne_eq, Nat.left_eq_add, Nat.add_eq_left, Nat.add_left_cancel_iff, Nat.add_zero]
  by_cases h1 : kdS ts s = 116
  · rw [if_pos h1, bz_t h1]
  · rw [if_neg h1, bz_f h1]
def fit (ts : List Tok) (as : List Arg) : Bool := decide (as.length = (slts ts).length) && decide (∀ k, k < (slts ts).length → (isN as k = true ↔ ¬ kdS ts k = 116))
theorem bz_eq {p q : Prop} [Decidable p] [Decidable q] : bz p = bz q ↔ (p ↔ q) := by
  constructor
  · intro z
    unfold bz at z
    by_cases hp : p <;> by_cases hq : q
    · exact ⟨fun _ => hq, fun _ => hp⟩
    · rw [if_pos hp, if_neg hq] at z; exact absurd z (by decide)
    · rw [if_neg hp, if_pos hq] at z; exact absurd z (by decide)
    · exact ⟨fun y => absurd y hp, fun y => absurd y hq⟩
  · exact bz_iff
theorem Format_fits {h : MH_} {f e : Nat} {ts : List Tok} {as : List Arg} {Q : Rs_ → MH_ → Prop} (hf : Fs h f) (hc : Fc h f ts) (ho : okS ts) (he : Ea h e as) : Wp 30 0 [.ref f, .ref e, .null] [] h Q ↔ Q (.inl (.int (bz (fit ts as = true)))) h := by
  have c4 := hc.2.2.2.1
  have b1 := he.2.1
  have key : ∀ n k, k + n = (slts ts).length → (Wp 30 15 [.ref f, .ref e, .int (Int32.ofNat k)] [] h Q ↔ Q (.inl (.int (bz (∀ j, j < n → (isN as (k + j) = true ↔ ¬ kdS ts (k + j) = 116))))) h) := by
    intro n
    induction n with
    | zero =>
      intro k hk
      rw [U30_15]
      simp (disch := omega) only [U30_0, U30_1, U30_4, U30_5, U30_8, U30_11, U30_12, U30_13, U30_14, U30_16, U30_17, U30_20, U30_23, U30_24, U30_25, U30_28, U30_29, U30_30, U30_33, U30_36, U30_37, U30_38, U30_41, U30_44, U30_45, hf.1, hc.2.2.1, show ¬ k < (slts ts).length by omega, i_add, i_mul, i_sub, i_addn, i_lt, i_eq, i_idx, i_vp, true_and, and_true, false_and, and_false, if_true, if_false, Nat.reduceAdd, Nat.reduceMul, Nat.reduceSub, Nat.reduceEqDiff, Option.some.injEq, exists_eq_left', true_or, or_true, false_or, or_false, not_true_eq_false, not_false_eq_true, eq_self, and_self, Nat.reduceLeDiff, decide_true, decide_false, ne_eq, Nat.left_eq_add, Nat.add_eq_left, Nat.add_left_cancel_iff, Nat.add_zero]
      rw [bz_t (p := ∀ j, j < 0 → (isN as (k + j) = true ↔ ¬ kdS ts (k + j) = 116)) (fun j hj => absurd hj (Nat.not_lt_zero _))]
    | succ n ih =>
      intro k hk
      rw [U30_15]
      simp (disch := omega) only [U30_0, U30_1, U30_4, U30_5, U30_8, U30_11, U30_12, U30_13, U30_14, U30_16, U30_17, U30_20, U30_23, U30_24, U30_25, U30_28, U30_29, U30_30, U30_33, U30_36, U30_37, U30_38, U30_41, U30_44, U30_45, hf.1, he.1.1, hc.2.2.1, show k < (slts ts).length by omega, Event_hasNumber he, V15, Format_isTextAt hf hc ho, V32, bz_eq, ih (k + 1) (by omega), i_add, i_mul, i_sub, i_addn, i_lt, i_eq, i_idx, i_vp, true_and, and_true, false_and, and_false, if_true, if_false, Nat.reduceAdd, Nat.reduceMul, Nat.reduceSub, Nat.reduceEqDiff, Option.some.injEq, exists_eq_left', true_or, or_true, false_or, or_false, not_true_eq_false, not_false_eq_true, eq_self, and_self, Nat.reduceLeDiff, decide_true, decide_false, ne_eq, Nat.left_eq_add, Nat.add_eq_left, Nat.add_left_cancel_iff, Nat.add_zero]
      by_cases hs : isN as k = true ↔ kdS ts k = 116
      · rw [if_pos hs, bz_f (p := ∀ j, j < n + 1 → (isN as (k + j) = true ↔ ¬ kdS ts (k + j) = 116))]
        intro z
        have := z 0 (by omega)
        rw [Nat.add_zero] at this
        by_cases h1 : kdS ts k = 116
        · exact this.mp (hs.mpr h1) h1
        · exact h1 (hs.mp (this.mpr h1))
      · rw [if_neg hs]
        rw [bz_iff (p := ∀ j, j < n + 1 → (isN as (k + j) = true ↔ ¬ kdS ts (k + j) = 116)) (q := ∀ j, j < n → (isN as (k + 1 + j) = true ↔ ¬ kdS ts (k + 1 + j) = 116))]
        constructor
        · intro z j hj
          have := z (j + 1) (by omega)
          rwa [show k + (j + 1) = k + 1 + j by omega] at this
        · intro z j hj
          cases j with
          | zero =>
            rw [Nat.add_zero]
            by_cases h1 : kdS ts k = 116 <;> by_cases h2 : isN as k = true
            · exact absurd ⟨fun _ => h1, fun _ => h2⟩ hs
            · exact ⟨fun y => absurd y h2, fun y => absurd h1 y⟩
            · exact ⟨fun _ => h1, fun _ => h2⟩
            · exact absurd ⟨fun y => absurd y h2, fun y => absurd y h1⟩ hs
          | succ j =>
            have := z j (by omega)
            rwa [show k + (j + 1) = k + 1 + j by omega]
  simp (disch := omega) only [U30_0, U30_1, U30_4, U30_5, U30_8, U30_11, U30_12, U30_13, U30_14, U30_16, U30_17, U30_20, U30_23, U30_24, U30_25, U30_28, U30_29, U30_30, U30_33, U30_36, U30_37, U30_38, U30_41, U30_44, U30_45, hf.1, he.1.1, Event_held he, V16, hc.2.2.1, i_add, i_mul, i_sub, i_addn, i_lt, i_eq, i_idx, i_vp, true_and, and_true, false_and, and_false, if_true, if_false, Nat.reduceAdd, Nat.reduceMul, Nat.reduceSub, Nat.reduceEqDiff, Option.some.injEq, exists_eq_left', true_or, or_true, false_or, or_false, not_true_eq_false, not_false_eq_true, eq_self, and_self, Nat.reduceLeDiff, decide_true, decide_false, ne_eq, Nat.left_eq_add, Nat.add_eq_left, Nat.add_left_cancel_iff, Nat.add_zero]
  unfold fit
  by_cases hl : as.length = (slts ts).length
  · rw [if_pos hl, key (slts ts).length 0 (by omega)]
    simp only [Nat.zero_add]
    rw [bz_iff (p := (decide (as.length = (slts ts).length) && decide (∀ k, k < (slts ts).length → (isN as k = true ↔ ¬ kdS ts k = 116))) = true) (q := ∀ k, k < (slts ts).length → (isN as k = true ↔ ¬ kdS ts k = 116)) (by rw [decide_eq_true hl, Bool.true_and, decide_eq_true_iff])]
  · rw [if_neg hl, bz_f (p := (decide (as.length = (slts ts).length) && decide (∀ k, k < (slts ts).length → (isN as k = true ↔ ¬ kdS ts k = 116))) = true) (by rw [decide_eq_false hl, Bool.false_and]; decide)]
