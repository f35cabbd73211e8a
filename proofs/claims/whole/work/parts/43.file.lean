/-! ===== LogFile ===== -/
def Fi (h : MH_) (f : Nat) : Prop := kd_ h f = 5 ∧ gP_ h f 0 = some (f + 1)
theorem Fi.fz {S : Nat → Nat → Prop} {h h' : MH_} {f : Nat} (hf : Fi h f) (z : Fz S h h') : Fi h' f := ⟨by rw [z.kd]; exact hf.1, by rw [z.gP]; exact hf.2⟩
theorem smF_shift {g : Nat → Int32} {o : Nat} : ∀ n k s, smF (fun i => g (o + i)) n k s = smF g n (o + k) s
  | 0, _, _ => rfl
  | n + 1, k, s => by
    rw [smF, smF, smF_shift n (k + 1)]
    rfl
theorem smF_ext {g g' : Nat → Int32} : ∀ n k s, (∀ i, k ≤ i → i < k + n → g i = g' i) → smF g n k s = smF g' n k s
  | 0, _, _, _ => rfl
  | n + 1, k, s, h => by
    rw [smF, smF, h k (Nat.le_refl _) (by omega)]
    exact smF_ext n (k + 1) _ (fun i h1 h2 => h i (by omega) (by omega))
/-- a block's bytes before its sum -/
def bdy (w o : Nat) (ft : Int64) (ev : List Nat) : List Nat := [90, w] ++ bigB (Int32.ofNat o).toInt64 2 ++ bigB ft 8 ++ bigB (Int32.ofNat ev.length).toInt64 2 ++ ev ++ List.replicate (238 - ev.length) 0
def smB (l : List Nat) : Int32 := smF (fun k => Int32.ofNat (l.getD k 0)) 252 0 (Int32.ofNat 0)
def blk (w o : Nat) (ft : Int64) (ev : List Nat) : List Nat := bdy w o ft ev ++ bigB (smB (bdy w o ft ev)).toInt64 4
theorem bdy_len {w o : Nat} {ft : Int64} {ev : List Nat} (h : ev.length ≤ 238) : (bdy w o ft ev).length = 252 := by
  unfold bdy
  simp only [List.length_append, List.length_cons, List.length_nil, bigB_len, List.length_replicate]
  omega
theorem blk_len {w o : Nat} {ft : Int64} {ev : List Nat} (h : ev.length ≤ 238) : (blk w o ft ev).length = 256 := by
  unfold blk
  rw [List.length_append, bdy_len h, bigB_len]
theorem File_append {h : MH_} {f r w o : Nat} {ft : Int64} {fl ev : List Nat} (hf : Fi h f) (hb : Rw h (f + 1) 6144 fl) (hr : Rw h r 238 ev) (hw : w < 256) (hl : fl.length + 256 ≤ 6144) (ap : r + 2 ≤ f ∨ f + 3 ≤ r) : Wp 53 0 [.ref f, .int (Int32.ofNat w), .int (Int32.ofNat o), .long ft, .null, .ref r, .null] [] h (fun v h' => v = .inl .null ∧ Rw h' (f + 1) 6144 (fl ++ blk w o ft ev) ∧ Fz (SR (f + 1)) h h') := by
  have hel := hr.2.2.2.2.2.1
  have ap2 : f + 1 + 2 ≤ r ∨ r + 2 ≤ f + 1 := by omega
  simp (disch := omega) only [U53_0, U53_1, U53_4, U53_7, U53_9, U53_10, U53_13, U53_15, U53_18, U53_19, U53_22, U53_23, U53_26, U53_27, U53_30, U53_31, U53_32, U53_33, U53_36, U53_37, U53_40, U53_41, U53_43, U53_46, U53_47, U53_50, U53_52, U53_55, U53_56, U53_57, U53_60, U53_61, U53_64, U53_66, U53_69, U53_70, U53_73, U53_75, U53_78, U53_81, U53_82, U53_85, U53_86, U53_89, U53_91, U53_94, U53_95, U53_96, U53_99, hf.1, hf.2, hb.1, Row_held hb, V89, true_and, and_true, false_and, and_false, if_true, if_false, Nat.reduceAdd, Nat.reduceMul, Nat.reduceSub, Nat.reduceEqDiff, Option.some.injEq, exists_eq_left', true_or, or_true, false_or, or_false, not_true_eq_false, not_false_eq_true, eq_self, and_self, Nat.reduceLeDiff, decide_true, decide_false, ne_eq, Nat.left_eq_add, Nat.add_eq_left, Nat.add_left_cancel_iff, Nat.add_zero]
  refine Wp_use (Row_put hb (by omega)) ?_
  rintro _ h1 ⟨rfl, b1, f1⟩
  simp (disch := omega) only [V93, U53_0, U53_1, U53_4, U53_7, U53_9, U53_10, U53_13, U53_15, U53_18, U53_19, U53_22, U53_23, U53_26, U53_27, U53_30, U53_31, U53_32, U53_33, U53_36, U53_37, U53_40, U53_41, U53_43, U53_46, U53_47, U53_50, U53_52, U53_55, U53_56, U53_57, U53_60, U53_61, U53_64, U53_66, U53_69, U53_70, U53_73, U53_75, U53_78, U53_81, U53_82, U53_85, U53_86, U53_89, U53_91, U53_94, U53_95, U53_96, U53_99, (hf.fz f1).1, (hf.fz f1).2, b1.1, true_and, and_true, false_and, and_false, if_true, if_false, Nat.reduceAdd, Nat.reduceMul, Nat.reduceSub, Nat.reduceEqDiff, Option.some.injEq, exists_eq_left', true_or, or_true, false_or, or_false, not_true_eq_false, not_false_eq_true, eq_self, and_self, Nat.reduceLeDiff, decide_true, decide_false, ne_eq, Nat.left_eq_add, Nat.add_eq_left, Nat.add_left_cancel_iff, Nat.add_zero]
  refine Wp_use (Row_put b1 (by rw [List.length_append, List.length_singleton]; omega)) ?_
  rintro _ h2 ⟨rfl, b2, f2⟩
  have z2 := f1.trans f2
  rw [lo8_of, lo8_of, Nat.mod_eq_of_lt hw, List.append_assoc] at b2
  simp (disch := omega) only [V93, U53_0, U53_1, U53_4, U53_7, U53_9, U53_10, U53_13, U53_15, U53_18, U53_19, U53_22, U53_23, U53_26, U53_27, U53_30, U53_31, U53_32, U53_33, U53_36, U53_37, U53_40, U53_41, U53_43, U53_46, U53_47, U53_50, U53_52, U53_55, U53_56, U53_57, U53_60, U53_61, U53_64, U53_66, U53_69, U53_70, U53_73, U53_75, U53_78, U53_81, U53_82, U53_85, U53_86, U53_89, U53_91, U53_94, U53_95, U53_96, U53_99, (hf.fz z2).1, (hf.fz z2).2, b2.1, true_and, and_true, false_and, and_false, if_true, if_false, Nat.reduceAdd, Nat.reduceMul, Nat.reduceSub, Nat.reduceEqDiff, Option.some.injEq, exists_eq_left', true_or, or_true, false_or, or_false, not_true_eq_false, not_false_eq_true, eq_self, and_self, Nat.reduceLeDiff, decide_true, decide_false, ne_eq, Nat.left_eq_add, Nat.add_eq_left, Nat.add_left_cancel_iff, Nat.add_zero]
  refine Wp_use (Row_putBig b2 (by omega) (by simp only [List.length_append, List.length_singleton]; omega)) ?_
  rintro _ h3 ⟨rfl, b3, f3⟩
  have z3 := z2.trans f3
  rw [List.append_assoc] at b3
  simp (disch := omega) only [V94, U53_0, U53_1, U53_4, U53_7, U53_9, U53_10, U53_13, U53_15, U53_18, U53_19, U53_22, U53_23, U53_26, U53_27, U53_30, U53_31, U53_32, U53_33, U53_36, U53_37, U53_40, U53_41, U53_43, U53_46, U53_47, U53_50, U53_52, U53_55, U53_56, U53_57, U53_60, U53_61, U53_64, U53_66, U53_69, U53_70, U53_73, U53_75, U53_78, U53_81, U53_82, U53_85, U53_86, U53_89, U53_91, U53_94, U53_95, U53_96, U53_99, (hf.fz z3).1, (hf.fz z3).2, b3.1, true_and, and_true, false_and, and_false, if_true, if_false, Nat.reduceAdd, Nat.reduceMul, Nat.reduceSub, Nat.reduceEqDiff, Option.some.injEq, exists_eq_left', true_or, or_true, false_or, or_false, not_true_eq_false, not_false_eq_true, eq_self, and_self, Nat.reduceLeDiff, decide_true, decide_false, ne_eq, Nat.left_eq_add, Nat.add_eq_left, Nat.add_left_cancel_iff, Nat.add_zero]
  refine Wp_use (Row_putBig b3 (by omega) (by simp only [List.length_append, List.length_singleton, bigB_len]; omega)) ?_
  rintro _ h4 ⟨rfl, b4, f4⟩
  have z4 := z3.trans f4
  rw [List.append_assoc] at b4
  have r4 : Rw h4 r 238 ev := hr.fz z4 (SR_ap ap2)
  simp (disch := omega) only [V94, U53_0, U53_1, U53_4, U53_7, U53_9, U53_10, U53_13, U53_15, U53_18, U53_19, U53_22, U53_23, U53_26, U53_27, U53_30, U53_31, U53_32, U53_33, U53_36, U53_37, U53_40, U53_41, U53_43, U53_46, U53_47, U53_50, U53_52, U53_55, U53_56, U53_57, U53_60, U53_61, U53_64, U53_66, U53_69, U53_70, U53_73, U53_75, U53_78, U53_81, U53_82, U53_85, U53_86, U53_89, U53_91, U53_94, U53_95, U53_96, U53_99, (hf.fz z4).1, (hf.fz z4).2, b4.1, r4.1, Row_held r4, V89, true_and, and_true, false_and, and_false, if_true, if_false, Nat.reduceAdd, Nat.reduceMul, Nat.reduceSub, Nat.reduceEqDiff, Option.some.injEq, exists_eq_left', true_or, or_true, false_or, or_false, not_true_eq_false, not_false_eq_true, eq_self, and_self, Nat.reduceLeDiff, decide_true, decide_false, ne_eq, Nat.left_eq_add, Nat.add_eq_left, Nat.add_left_cancel_iff, Nat.add_zero]
  refine Wp_use (Row_putBig b4 (by omega) (by simp only [List.length_append, List.length_singleton, bigB_len]; omega)) ?_
  rintro _ h5 ⟨rfl, b5, f5⟩
  have z5 := z4.trans f5
  rw [List.append_assoc] at b5
  have r5 : Rw h5 r 238 ev := hr.fz z5 (SR_ap ap2)
  simp (disch := omega) only [V94, U53_0, U53_1, U53_4, U53_7, U53_9, U53_10, U53_13, U53_15, U53_18, U53_19, U53_22, U53_23, U53_26, U53_27, U53_30, U53_31, U53_32, U53_33, U53_36, U53_37, U53_40, U53_41, U53_43, U53_46, U53_47, U53_50, U53_52, U53_55, U53_56, U53_57, U53_60, U53_61, U53_64, U53_66, U53_69, U53_70, U53_73, U53_75, U53_78, U53_81, U53_82, U53_85, U53_86, U53_89, U53_91, U53_94, U53_95, U53_96, U53_99, (hf.fz z5).1, (hf.fz z5).2, b5.1, true_and, and_true, false_and, and_false, if_true, if_false, Nat.reduceAdd, Nat.reduceMul, Nat.reduceSub, Nat.reduceEqDiff, Option.some.injEq, exists_eq_left', true_or, or_true, false_or, or_false, not_true_eq_false, not_false_eq_true, eq_self, and_self, Nat.reduceLeDiff, decide_true, decide_false, ne_eq, Nat.left_eq_add, Nat.add_eq_left, Nat.add_left_cancel_iff, Nat.add_zero]
  refine Wp_use (Row_putRow b5 r5 (by simp only [List.length_append, List.length_singleton, bigB_len]; omega) ap2) ?_
  rintro _ h6 ⟨rfl, b6, f6⟩
  have z6 := z5.trans f6
  rw [List.append_assoc] at b6
  have r6 : Rw h6 r 238 ev := hr.fz z6 (SR_ap ap2)
  simp (disch := omega) only [V95, U53_0, U53_1, U53_4, U53_7, U53_9, U53_10, U53_13, U53_15, U53_18, U53_19, U53_22, U53_23, U53_26, U53_27, U53_30, U53_31, U53_32, U53_33, U53_36, U53_37, U53_40, U53_41, U53_43, U53_46, U53_47, U53_50, U53_52, U53_55, U53_56, U53_57, U53_60, U53_61, U53_64, U53_66, U53_69, U53_70, U53_73, U53_75, U53_78, U53_81, U53_82, U53_85, U53_86, U53_89, U53_91, U53_94, U53_95, U53_96, U53_99, (hf.fz z6).1, (hf.fz z6).2, b6.1, r6.1, Row_room r6, V98, true_and, and_true, false_and, and_false, if_true, if_false, Nat.reduceAdd, Nat.reduceMul, Nat.reduceSub, Nat.reduceEqDiff, Option.some.injEq, exists_eq_left', true_or, or_true, false_or, or_false, not_true_eq_false, not_false_eq_true, eq_self, and_self, Nat.reduceLeDiff, decide_true, decide_false, ne_eq, Nat.left_eq_add, Nat.add_eq_left, Nat.add_left_cancel_iff, Nat.add_zero]
  refine Wp_use (Row_putZeros b6 (by simp only [List.length_append, List.length_singleton, bigB_len]; omega)) ?_
  rintro _ h7 ⟨rfl, b7, f7⟩
  have z7 := z6.trans f7
  rw [List.append_assoc] at b7
  have eb : [90 % 256] ++ [w] ++ bigB (Int32.ofNat o).toInt64 2 ++ bigB ft 8 ++ bigB (Int32.ofNat ev.length).toInt64 2 ++ ev ++ List.replicate (238 - ev.length) 0 = bdy w o ft ev := rfl
  rw [eb] at b7
  simp (disch := omega) only [V97, U53_0, U53_1, U53_4, U53_7, U53_9, U53_10, U53_13, U53_15, U53_18, U53_19, U53_22, U53_23, U53_26, U53_27, U53_30, U53_31, U53_32, U53_33, U53_36, U53_37, U53_40, U53_41, U53_43, U53_46, U53_47, U53_50, U53_52, U53_55, U53_56, U53_57, U53_60, U53_61, U53_64, U53_66, U53_69, U53_70, U53_73, U53_75, U53_78, U53_81, U53_82, U53_85, U53_86, U53_89, U53_91, U53_94, U53_95, U53_96, U53_99, (hf.fz z7).1, (hf.fz z7).2, b7.1, Row_sumOfBlock b7, V102, true_and, and_true, false_and, and_false, if_true, if_false, Nat.reduceAdd, Nat.reduceMul, Nat.reduceSub, Nat.reduceEqDiff, Option.some.injEq, exists_eq_left', true_or, or_true, false_or, or_false, not_true_eq_false, not_false_eq_true, eq_self, and_self, Nat.reduceLeDiff, decide_true, decide_false, ne_eq, Nat.left_eq_add, Nat.add_eq_left, Nat.add_left_cancel_iff, Nat.add_zero]
  refine Wp_use (Row_putBig b7 (by omega) (by rw [List.length_append, bdy_len hel]; omega)) ?_
  rintro _ h8 ⟨rfl, b8, f8⟩
  simp (disch := omega) only [V94, U53_0, U53_1, U53_4, U53_7, U53_9, U53_10, U53_13, U53_15, U53_18, U53_19, U53_22, U53_23, U53_26, U53_27, U53_30, U53_31, U53_32, U53_33, U53_36, U53_37, U53_40, U53_41, U53_43, U53_46, U53_47, U53_50, U53_52, U53_55, U53_56, U53_57, U53_60, U53_61, U53_64, U53_66, U53_69, U53_70, U53_73, U53_75, U53_78, U53_81, U53_82, U53_85, U53_86, U53_89, U53_91, U53_94, U53_95, U53_96, U53_99, true_and, and_true, false_and, and_false, if_true, if_false, Nat.reduceAdd, Nat.reduceMul, Nat.reduceSub, Nat.reduceEqDiff, Option.some.injEq, exists_eq_left', true_or, or_true, false_or, or_false, not_true_eq_false, not_false_eq_true, eq_self, and_self, Nat.reduceLeDiff, decide_true, decide_false, ne_eq, Nat.left_eq_add, Nat.add_eq_left, Nat.add_left_cancel_iff, Nat.add_zero]
  refine ⟨?_, z7.trans f8⟩
  have es : smF (fun k => Int32.ofNat ((fl ++ bdy w o ft ev).getD k 0)) 252 fl.length (Int32.ofNat 0) = smB (bdy w o ft ev) := by
    unfold smB
    rw [← Nat.add_zero fl.length, ← smF_shift (g := fun k => Int32.ofNat ((fl ++ bdy w o ft ev).getD k 0))]
    refine smF_ext _ _ _ (fun i _ _ => ?_)
    show Int32.ofNat ((fl ++ bdy w o ft ev).getD (fl.length + i) 0) = Int32.ofNat ((bdy w o ft ev).getD i 0)
    rw [gD_app' (by omega), Nat.add_sub_cancel_left]
  rw [es, List.append_assoc] at b8
  exact b8
theorem File_isFull {h : MH_} {f : Nat} {fl : List Nat} {Q : Rs_ → MH_ → Prop} (hf : Fi h f) (hb : Rw h (f + 1) 6144 fl) : Wp 58 0 [.ref f] [] h Q ↔ Q (.inl (.int (bz (6144 < fl.length + 256)))) h := by
  have hl := hb.2.2.2.2.2.1
  simp (disch := omega) only [U58_0, U58_1, U58_4, U58_7, U58_10, U58_13, U58_14, U58_17, U58_18, hf.1, hf.2, hb.1, Row_room hb, V98, i_add, i_mul, i_sub, i_addn, i_lt, i_eq, i_idx, i_vp, true_and, and_true, false_and, and_false, if_true, if_false, Nat.reduceAdd, Nat.reduceMul, Nat.reduceSub, Nat.reduceEqDiff, Option.some.injEq, exists_eq_left', true_or, or_true, false_or, or_false, not_true_eq_false, not_false_eq_true, eq_self, and_self, Nat.reduceLeDiff, decide_true, decide_false, ne_eq, Nat.left_eq_add, Nat.add_eq_left, Nat.add_left_cancel_iff, Nat.add_zero]
  by_cases h1 : 6144 < fl.length + 256
  · rw [if_pos (by omega), bz_t h1]
  · rw [if_neg (by omega), bz_f h1]
theorem File_held {h : MH_} {f : Nat} {fl : List Nat} {Q : Rs_ → MH_ → Prop} (hf : Fi h f) (hb : Rw h (f + 1) 6144 fl) : Wp 56 0 [.ref f] [] h Q ↔ Q (.inl (.int (Int32.ofNat fl.length))) h := by
  simp (disch := omega) only [U56_0, U56_1, U56_4, U56_7, hf.1, hf.2, hb.1, Row_held hb, V89, true_and, and_true, false_and, and_false, if_true, if_false, Nat.reduceAdd, Nat.reduceMul, Nat.reduceSub, Nat.reduceEqDiff, Option.some.injEq, exists_eq_left', true_or, or_true, false_or, or_false, not_true_eq_false, not_false_eq_true, eq_self, and_self, Nat.reduceLeDiff, decide_true, decide_false, ne_eq, Nat.left_eq_add, Nat.add_eq_left, Nat.add_left_cancel_iff, Nat.add_zero]
theorem File_cutBehind {h : MH_} {f n d : Nat} {fl : List Nat} (hf : Fi h f) (hb : Rw h (f + 1) 6144 fl) (hd : gI_ h f 1 = Int32.ofNat d) (hdl : d ≤ fl.length) (hn : n < 2147483648) : Wp 55 0 [.ref f, .int (Int32.ofNat n), .null] [] h (fun v h' => v = .inl .null ∧ Rw h' (f + 1) 6144 (fl.take (d + min n (fl.length - d))) ∧ gI_ h' f 2 = Int32.ofNat 1 ∧ Fz (fun a i => (a = f ∧ i = 2) ∨ SR (f + 1) a i) h h') := by
  have hl := hb.2.2.2.2.2.1
  simp (disch := omega) only [U55_0, U55_1, U55_4, U55_7, U55_8, U55_11, U55_12, U55_13, U55_14, U55_17, U55_18, U55_21, U55_22, U55_23, U55_26, U55_27, U55_30, U55_31, U55_32, U55_35, hf.1, hf.2, hb.1, hd, Row_held hb, V89, Math_min, V227, i_add, i_mul, i_sub, i_addn, i_lt, i_eq, i_idx, i_vp, true_and, and_true, false_and, and_false, if_true, if_false, Nat.reduceAdd, Nat.reduceMul, Nat.reduceSub, Nat.reduceEqDiff, Option.some.injEq, exists_eq_left', true_or, or_true, false_or, or_false, not_true_eq_false, not_false_eq_true, eq_self, and_self, Nat.reduceLeDiff, decide_true, decide_false, ne_eq, Nat.left_eq_add, Nat.add_eq_left, Nat.add_left_cancel_iff, Nat.add_zero]
  refine Wp_use (Row_shorten hb (by omega)) ?_
  rintro _ h1 ⟨rfl, b1, f1⟩
  simp (disch := omega) only [V100, U55_0, U55_1, U55_4, U55_7, U55_8, U55_11, U55_12, U55_13, U55_14, U55_17, U55_18, U55_21, U55_22, U55_23, U55_26, U55_27, U55_30, U55_31, U55_32, U55_35, z_kd_sI, z_ln_sI, z_gI_sI, z_gJ_sI, z_gP_sI, z_nx_sI, z_rc_sI, z_rs_sI, z_em_sI, z_mi_sI, z_kd_sJ, z_ln_sJ, z_gI_sJ, z_gJ_sJ, z_gP_sJ, z_nx_sJ, z_rc_sJ, z_rs_sJ, z_em_sJ, z_mi_sJ, z_kd_sP, z_ln_sP, z_gI_sP, z_gJ_sP, z_gP_sP, z_nx_sP, z_rc_sP, z_rs_sP, z_em_sP, z_mi_sP, z_kd_nw, z_ln_nw, z_gI_nw, z_gJ_nw, z_gP_nw, z_nx_nw, z_rc_nw, z_rs_nw, z_em_nw, z_mi_nw, z_kd_cI, z_ln_cI, z_gI_cI, z_gJ_cI, z_gP_cI, z_nx_cI, z_rc_cI, z_rs_cI, z_em_cI, z_mi_cI, z_kd_cP, z_ln_cP, z_gI_cP, z_gJ_cP, z_gP_cP, z_nx_cP, z_rc_cP, z_rs_cP, z_em_cP, z_mi_cP, z_kd_wI, z_ln_wI, z_gI_wI, z_gJ_wI, z_gP_wI, z_nx_wI, z_rc_wI, z_rs_wI, z_em_wI, z_mi_wI, z_kd_wJ, z_ln_wJ, z_gI_wJ, z_gJ_wJ, z_gP_wJ, z_nx_wJ, z_rc_wJ, z_rs_wJ, z_em_wJ, z_mi_wJ, (hf.fz f1).1, i_add, i_mul, i_sub, i_addn, i_lt, i_eq, i_idx, i_vp, true_and, and_true, false_and, and_false, if_true, if_false, Nat.reduceAdd, Nat.reduceMul, Nat.reduceSub, Nat.reduceEqDiff, Option.some.injEq, exists_eq_left', true_or, or_true, false_or, or_false, not_true_eq_false, not_false_eq_true, eq_self, and_self, Nat.reduceLeDiff, decide_true, decide_false, ne_eq, Nat.left_eq_add, Nat.add_eq_left, Nat.add_left_cancel_iff, Nat.add_zero]
  have z : Fz (fun a i => a = f ∧ i = 2) h1 (sI_ h1 f 2 (Int32.ofNat 1)) := Fz.rfl'.sI ⟨rfl, rfl⟩
  exact ⟨b1.fz z (by unfold SR; intro a i y1 y2; omega), (f1.mono (fun a i y => Or.inr y)).trans (z.mono (fun a i y => Or.inl y))⟩
/-! ===== Block, the rest ===== -/
theorem Block_beginBlock {h : MH_} {b : Nat} {ev : List Nat} (hb : Bs h b) (hev : Rw h (b + 1) 238 ev) : Wp 2 0 [.ref b] [] h (fun v h' => v = .inl .null ∧ Rw h' (b + 1) 238 [] ∧ (∀ i, i < 240 → gI_ h' (b + 3) i = Int32.ofNat 0) ∧ Fz (fun a i => SR (b + 1) a i ∨ a = b + 3) h h') := by
  simp (disch := omega) only [U2_0, U2_1, U2_4, U2_7, U2_8, U2_11, U2_12, U2_15, hb.1, hb.2.1, hev.1, true_and, and_true, false_and, and_false, if_true, if_false, Nat.reduceAdd, Nat.reduceMul, Nat.reduceSub, Nat.reduceEqDiff, Option.some.injEq, exists_eq_left', true_or, or_true, false_or, or_false, not_true_eq_false, not_false_eq_true, eq_self, and_self, Nat.reduceLeDiff, decide_true, decide_false, ne_eq, Nat.left_eq_add, Nat.add_eq_left, Nat.add_left_cancel_iff, Nat.add_zero]
  refine Wp_use (Row_begin hev) ?_
  rintro _ h1 ⟨rfl, b1, f1⟩
  have hb1 := hb.fz f1
  simp (disch := omega) only [V86, U2_0, U2_1, U2_4, U2_7, U2_8, U2_11, U2_12, U2_15, hb1.1, hb1.2.2.1, true_and, and_true, false_and, and_false, if_true, if_false, Nat.reduceAdd, Nat.reduceMul, Nat.reduceSub, Nat.reduceEqDiff, Option.some.injEq, exists_eq_left', true_or, or_true, false_or, or_false, not_true_eq_false, not_false_eq_true, eq_self, and_self, Nat.reduceLeDiff, decide_true, decide_false, ne_eq, Nat.left_eq_add, Nat.add_eq_left, Nat.add_left_cancel_iff, Nat.add_zero]
  refine Wp_use (Arrays_fill hb1.2.2.2.1 hb1.2.2.2.2 (by omega)) ?_
  rintro _ h2 ⟨rfl, e2, f2⟩
  simp (disch := omega) only [V224, U2_0, U2_1, U2_4, U2_7, U2_8, U2_11, U2_12, U2_15, true_and, and_true, false_and, and_false, if_true, if_false, Nat.reduceAdd, Nat.reduceMul, Nat.reduceSub, Nat.reduceEqDiff, Option.some.injEq, exists_eq_left', true_or, or_true, false_or, or_false, not_true_eq_false, not_false_eq_true, eq_self, and_self, Nat.reduceLeDiff, decide_true, decide_false, ne_eq, Nat.left_eq_add, Nat.add_eq_left, Nat.add_left_cancel_iff, Nat.add_zero]
  exact ⟨b1.fz f2 (by unfold SR; intro a i y1 y2; omega), e2, (f1.mono (fun a i y => Or.inl y)).trans (f2.mono (fun a i y => Or.inr y))⟩
theorem Block_moveTo {h : MH_} {b f w o : Nat} {ft : Int64} {fl ev : List Nat} (hb : Bs h b) (hev : Rw h (b + 1) 238 ev) (hf : Fi h f) (hfl : Rw h (f + 1) 6144 fl) (h0 : gI_ h b 0 = Int32.ofNat w) (h3 : gI_ h b 3 = Int32.ofNat o) (h4 : gJ_ h b 4 = ft) (hw : w < 256) (hl : fl.length + 256 ≤ 6144) (ap : b + 4 ≤ f ∨ f + 3 ≤ b) : Wp 6 0 [.ref b, .ref f] [] h (fun v h' => v = .inl .null ∧ Rw h' (f + 1) 6144 (fl ++ blk w o ft ev) ∧ Rw h' (b + 1) 238 [] ∧ (∀ i, i < 240 → gI_ h' (b + 3) i = Int32.ofNat 0) ∧ gI_ h' b 3 = Int32.ofNat (o + 1) ∧ Fz (fun a i => SR (f + 1) a i ∨ SR (b + 1) a i ∨ a = b + 3 ∨ (a = b ∧ i = 3)) h h') := by
  simp (disch := omega) only [U6_0, U6_1, U6_2, U6_5, U6_6, U6_9, U6_10, U6_13, U6_14, U6_17, U6_20, U6_21, U6_22, U6_25, U6_26, U6_27, U6_30, U6_31, U6_34, hb.1, hb.2.1, hf.1, h0, h3, h4, true_and, and_true, false_and, and_false, if_true, if_false, Nat.reduceAdd, Nat.reduceMul, Nat.reduceSub, Nat.reduceEqDiff, Option.some.injEq, exists_eq_left', true_or, or_true, false_or, or_false, not_true_eq_false, not_false_eq_true, eq_self, and_self, Nat.reduceLeDiff, decide_true, decide_false, ne_eq, Nat.left_eq_add, Nat.add_eq_left, Nat.add_left_cancel_iff, Nat.add_zero]
  refine Wp_use (File_append hf hfl hev hw hl (by omega)) ?_
  rintro _ h1 ⟨rfl, b1, f1⟩
  have hb1 := hb.fz f1
  have e3 : gI_ h1 b 3 = Int32.ofNat o := by rw [f1.gI (by unfold SR; omega)]; exact h3
  simp (disch := omega) only [V53, U6_0, U6_1, U6_2, U6_5, U6_6, U6_9, U6_10, U6_13, U6_14, U6_17, U6_20, U6_21, U6_22, U6_25, U6_26, U6_27, U6_30, U6_31, U6_34, z_kd_sI, z_ln_sI, z_gI_sI, z_gJ_sI, z_gP_sI, z_nx_sI, z_rc_sI, z_rs_sI, z_em_sI, z_mi_sI, z_kd_sJ, z_ln_sJ, z_gI_sJ, z_gJ_sJ, z_gP_sJ, z_nx_sJ, z_rc_sJ, z_rs_sJ, z_em_sJ, z_mi_sJ, z_kd_sP, z_ln_sP, z_gI_sP, z_gJ_sP, z_gP_sP, z_nx_sP, z_rc_sP, z_rs_sP, z_em_sP, z_mi_sP, z_kd_nw, z_ln_nw, z_gI_nw, z_gJ_nw, z_gP_nw, z_nx_nw, z_rc_nw, z_rs_nw, z_em_nw, z_mi_nw, z_kd_cI, z_ln_cI, z_gI_cI, z_gJ_cI, z_gP_cI, z_nx_cI, z_rc_cI, z_rs_cI, z_em_cI, z_mi_cI, z_kd_cP, z_ln_cP, z_gI_cP, z_gJ_cP, z_gP_cP, z_nx_cP, z_rc_cP, z_rs_cP, z_em_cP, z_mi_cP, z_kd_wI, z_ln_wI, z_gI_wI, z_gJ_wI, z_gP_wI, z_nx_wI, z_rc_wI, z_rs_wI, z_em_wI, z_mi_wI, z_kd_wJ, z_ln_wJ, z_gI_wJ, z_gJ_wJ, z_gP_wJ, z_nx_wJ, z_rc_wJ, z_rs_wJ, z_em_wJ, z_mi_wJ, hb1.1, e3, i_add, i_mul, i_sub, i_addn, i_lt, i_eq, i_idx, i_vp, true_and, and_true, false_and, and_false, if_true, if_false, Nat.reduceAdd, Nat.reduceMul, Nat.reduceSub, Nat.reduceEqDiff, Option.some.injEq, exists_eq_left', true_or, or_true, false_or, or_false, not_true_eq_false, not_false_eq_true, eq_self, and_self, Nat.reduceLeDiff, decide_true, decide_false, ne_eq, Nat.left_eq_add, Nat.add_eq_left, Nat.add_left_cancel_iff, Nat.add_zero]
  have z : Fz (fun a i => a = b ∧ i = 3) h1 (sI_ h1 b 3 (Int32.ofNat (o + 1))) := Fz.rfl'.sI ⟨rfl, rfl⟩
  have ev2 : Rw (sI_ h1 b 3 (Int32.ofNat (o + 1))) (b + 1) 238 ev := (hev.fz f1 (by unfold SR; intro a i y1 y2; omega)).fz z (by unfold SR; intro a i y1 y2; omega)
  refine Wp_use (Block_beginBlock (hb1.fz z) ev2) ?_
  rintro _ h2 ⟨rfl, c1, c2, f2⟩
  simp (disch := omega) only [V2, U6_0, U6_1, U6_2, U6_5, U6_6, U6_9, U6_10, U6_13, U6_14, U6_17, U6_20, U6_21, U6_22, U6_25, U6_26, U6_27, U6_30, U6_31, U6_34, true_and, and_true, false_and, and_false, if_true, if_false, Nat.reduceAdd, Nat.reduceMul, Nat.reduceSub, Nat.reduceEqDiff, Option.some.injEq, exists_eq_left', true_or, or_true, false_or, or_false, not_true_eq_false, not_false_eq_true, eq_self, and_self, Nat.reduceLeDiff, decide_true, decide_false, ne_eq, Nat.left_eq_add, Nat.add_eq_left, Nat.add_left_cancel_iff, Nat.add_zero]
  refine ⟨(b1.fz z (by unfold SR; intro a i y1 y2; omega)).fz f2 (by unfold SR; intro a i y1 y2; omega), c1, c2, ?_, ((f1.mono (fun a i y => Or.inl y)).trans (z.mono (fun a i y => Or.inr (Or.inr (Or.inr y))))).trans (f2.mono (fun a i y => ?_))⟩
  · rw [f2.gI (by unfold SR; omega), z_gI_sI, if_pos ⟨rfl, rfl⟩]
  · rcases y with y | y
    · exact Or.inr (Or.inl y)
    · exact Or.inr (Or.inr (Or.inl y))
