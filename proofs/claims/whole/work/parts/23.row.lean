/-! ===== Row ===== -/
/-- what a row's methods may change -/
def SR (r : Nat) : Nat → Nat → Prop := fun a i => (a = r ∧ i = 1) ∨ a = r + 1
def Rw (h : MH_) (r c : Nat) (l : List Nat) : Prop :=
  kd_ h r = 10 ∧ gP_ h r 0 = some (r + 1) ∧ kd_ h (r + 1) = 31 ∧ ln_ h (r + 1) = c ∧ c ≤ 100000 ∧ l.length ≤ c ∧ gI_ h r 1 = Int32.ofNat l.length ∧ (∀ i, i < l.length → gI_ h (r + 1) i = b8 (l.getD i 0)) ∧ ∀ b ∈ l, b < 256
theorem Rw.fz {S : Nat → Nat → Prop} {h h' : MH_} {r c : Nat} {l : List Nat} (hr : Rw h r c l) (f : Fz S h h') (h1 : ∀ a i, SR r a i → ¬ S a i) : Rw h' r c l := by
  obtain ⟨a1, a2, a3, a4, a5, a6, a7, a8, a9⟩ := hr
  exact ⟨by rw [f.kd, a1], by rw [f.gP, a2], by rw [f.kd, a3], by rw [f.ln, a4], a5, a6, by rw [f.gI (h1 _ _ (Or.inl ⟨rfl, rfl⟩)), a7], fun i hi => by rw [f.gI (h1 _ _ (Or.inr rfl)), a8 i hi], a9⟩
theorem SR_ap {r o : Nat} (h : r + 2 ≤ o ∨ o + 2 ≤ r) : ∀ a i, SR o a i → ¬ SR r a i := by
  unfold SR
  intro a i h1 h2
  omega
theorem Rw.lt {h : MH_} {r c : Nat} {l : List Nat} (hr : Rw h r c l) (i : Nat) : l.getD i 0 < 256 := gD_lt hr.2.2.2.2.2.2.2.2 i
theorem Row_held {h : MH_} {r c : Nat} {l : List Nat} {Q : Rs_ → MH_ → Prop} (hr : Rw h r c l) : Wp 89 0 [.ref r] [] h Q ↔ Q (.inl (.int (Int32.ofNat l.length))) h := by
  obtain ⟨a1, a2, a3, a4, a5, a6, a7, a8, a9⟩ := hr
  simp only [U89_0, U89_1, U89_4, a1, a7, true_and, and_true, false_and, and_false, if_true, if_false, Nat.reduceAdd, Nat.reduceMul, Nat.reduceSub, Nat.reduceEqDiff, Option.some.injEq, exists_eq_left', true_or, or_true, false_or, or_false, not_true_eq_false, not_false_eq_true, eq_self, and_self, Nat.reduceLeDiff, decide_true, decide_false, ne_eq, Nat.left_eq_add, Nat.add_eq_left, Nat.add_left_cancel_iff, Nat.add_zero]
theorem Row_at {h : MH_} {r c i : Nat} {l : List Nat} {Q : Rs_ → MH_ → Prop} (hr : Rw h r c l) (hi : i < 2147483648) : Wp 85 0 [.ref r, .int (Int32.ofNat i)] [] h Q ↔ Q (.inl (.int (Int32.ofNat (l.getD i 0)))) h := by
  have hb := hr.lt i
  obtain ⟨a1, a2, a3, a4, a5, a6, a7, a8, a9⟩ := hr
  simp (disch := omega) only [U85_0, U85_1, U85_4, U85_5, U85_6, U85_9, U85_12, U85_13, U85_16, U85_17, U85_18, U85_21, U85_22, U85_25, U85_26, a1, a2, a3, a4, a7, i_add, i_mul, i_sub, i_addn, i_lt, i_eq, i_idx, i_vp, true_and, and_true, false_and, and_false, if_true, if_false, Nat.reduceAdd, Nat.reduceMul, Nat.reduceSub, Nat.reduceEqDiff, Option.some.injEq, exists_eq_left', true_or, or_true, false_or, or_false, not_true_eq_false, not_false_eq_true, eq_self, and_self, Nat.reduceLeDiff, decide_true, decide_false, ne_eq, Nat.left_eq_add, Nat.add_eq_left, Nat.add_left_cancel_iff, Nat.add_zero]
  by_cases h1 : i < l.length
  · simp (disch := omega) only [h1, show ¬ i < 0 by omega, show i < c by omega, a8 i h1, b8_and hb, true_and, and_true, false_and, and_false, if_true, if_false, Nat.reduceAdd, Nat.reduceMul, Nat.reduceSub, Nat.reduceEqDiff, Option.some.injEq, exists_eq_left', true_or, or_true, false_or, or_false, not_true_eq_false, not_false_eq_true, eq_self, and_self, Nat.reduceLeDiff, decide_true, decide_false, ne_eq, Nat.left_eq_add, Nat.add_eq_left, Nat.add_left_cancel_iff, Nat.add_zero]
  · simp (disch := omega) only [h1, show ¬ i < 0 by omega, gD_out (show l.length ≤ i by omega), true_and, and_true, false_and, and_false, if_true, if_false, Nat.reduceAdd, Nat.reduceMul, Nat.reduceSub, Nat.reduceEqDiff, Option.some.injEq, exists_eq_left', true_or, or_true, false_or, or_false, not_true_eq_false, not_false_eq_true, eq_self, and_self, Nat.reduceLeDiff, decide_true, decide_false, ne_eq, Nat.left_eq_add, Nat.add_eq_left, Nat.add_left_cancel_iff, Nat.add_zero]
theorem lo8_b8' {n : Nat} (h : n < 256) : lo8 (b8 n) = n := by
  unfold lo8
  rw [b8_and h, i_idx (by omega)]
theorem lo8_of {n : Nat} : lo8 (Int32.ofNat n) = n % 256 := by
  have h1 : (Int32.ofNat n &&& Int32.ofNat 255).toBitVec.toNat = n % 256 := by
    rw [Int32.toBitVec_and, BitVec.toNat_and]
    show (BitVec.ofNat 32 n).toNat &&& 255 = _
    rw [BitVec.toNat_ofNat, Nat.and_two_pow_sub_one_eq_mod _ 8]
    omega
  have h2 : (Int32.ofNat n &&& Int32.ofNat 255) = Int32.ofNat (n % 256) := by
    apply Int32.toBitVec.inj
    apply BitVec.eq_of_toNat_eq
    rw [h1]
    show _ = (BitVec.ofNat 32 _).toNat
    rw [BitVec.toNat_ofNat]
    omega
  unfold lo8
  rw [h2, i_idx (by omega)]
theorem Rw.mk' {h h' : MH_} {r c : Nat} {l l' : List Nat} (hr : Rw h r c l) (f : Fz (SR r) h h') (h1 : gI_ h' r 1 = Int32.ofNat l'.length) (hl : l'.length ≤ c) (hc : ∀ i, i < l'.length → gI_ h' (r + 1) i = b8 (l'.getD i 0)) (hb : ∀ b ∈ l', b < 256) : Rw h' r c l' := by
  obtain ⟨a1, a2, a3, a4, a5, a6, a7, a8, a9⟩ := hr
  exact ⟨by rw [f.kd, a1], by rw [f.gP, a2], by rw [f.kd, a3], by rw [f.ln, a4], a5, hl, h1, hc, hb⟩
theorem Row_put {h : MH_} {r c : Nat} {x : Int32} {l : List Nat} (hr : Rw h r c l) (hc : l.length < c) : Wp 93 0 [.ref r, .int x] [] h (fun v h' => v = .inl .null ∧ Rw h' r c (l ++ [lo8 x]) ∧ Fz (SR r) h h') := by
  have hr' := hr
  obtain ⟨a1, a2, a3, a4, a5, a6, a7, a8, a9⟩ := hr
  simp (disch := omega) only [U93_0, U93_1, U93_4, U93_5, U93_8, U93_9, U93_12, U93_13, U93_16, U93_17, U93_20, U93_21, U93_22, U93_23, U93_24, U93_25, U93_28, U93_29, U93_30, U93_33, z_kd_sI, z_ln_sI, z_gI_sI, z_gJ_sI, z_gP_sI, z_nx_sI, z_rc_sI, z_rs_sI, z_em_sI, z_mi_sI, z_kd_sJ, z_ln_sJ, z_gI_sJ, z_gJ_sJ, z_gP_sJ, z_nx_sJ, z_rc_sJ, z_rs_sJ, z_em_sJ, z_mi_sJ, z_kd_sP, z_ln_sP, z_gI_sP, z_gJ_sP, z_gP_sP, z_nx_sP, z_rc_sP, z_rs_sP, z_em_sP, z_mi_sP, z_kd_nw, z_ln_nw, z_gI_nw, z_gJ_nw, z_gP_nw, z_nx_nw, z_rc_nw, z_rs_nw, z_em_nw, z_mi_nw, z_kd_cI, z_ln_cI, z_gI_cI, z_gJ_cI, z_gP_cI, z_nx_cI, z_rc_cI, z_rs_cI, z_em_cI, z_mi_cI, z_kd_cP, z_ln_cP, z_gI_cP, z_gJ_cP, z_gP_cP, z_nx_cP, z_rc_cP, z_rs_cP, z_em_cP, z_mi_cP, z_kd_wI, z_ln_wI, z_gI_wI, z_gJ_wI, z_gP_wI, z_nx_wI, z_rc_wI, z_rs_wI, z_em_wI, z_mi_wI, z_kd_wJ, z_ln_wJ, z_gI_wJ, z_gJ_wJ, z_gP_wJ, z_nx_wJ, z_rc_wJ, z_rs_wJ, z_em_wJ, z_mi_wJ, a1, a2, a3, a4, a7, hc, Int8.toInt8_toInt32, i_add, i_mul, i_sub, i_addn, i_lt, i_eq, i_idx, i_vp, true_and, and_true, false_and, and_false, if_true, if_false, Nat.reduceAdd, Nat.reduceMul, Nat.reduceSub, Nat.reduceEqDiff, Option.some.injEq, exists_eq_left', true_or, or_true, false_or, or_false, not_true_eq_false, not_false_eq_true, eq_self, and_self, Nat.reduceLeDiff, decide_true, decide_false, ne_eq, Nat.left_eq_add, Nat.add_eq_left, Nat.add_left_cancel_iff, Nat.add_zero]
  rw [(lo8_b8 x).1]
  have f : Fz (SR r) h (sI_ (sI_ h (r + 1) l.length (b8 (lo8 x))) r 1 (Int32.ofNat (l.length + 1))) := (Fz.rfl'.sI (Or.inr rfl)).sI (Or.inl ⟨rfl, rfl⟩)
  refine ⟨hr'.mk' f ?_ ?_ ?_ ?_, f⟩
  · rw [z_gI_sI, if_pos ⟨rfl, rfl⟩, List.length_append]; rfl
  · rw [List.length_append]; exact hc
  · intro i hi
    rw [List.length_append, List.length_singleton] at hi
    rw [z_gI_sI, if_neg (by omega), z_gI_sI]
    by_cases h1 : i = l.length
    · subst h1
      rw [if_pos ⟨rfl, rfl⟩, gD_app' (Nat.le_refl _), Nat.sub_self]; rfl
    · rw [if_neg (by omega), a8 i (by omega), gD_app (by omega)]
  · intro b hb
    rcases List.mem_append.mp hb with hb | hb
    · exact a9 b hb
    · rw [List.mem_singleton.mp hb]; exact (lo8_b8 x).2.1
theorem Row_begin {h : MH_} {r c : Nat} {l : List Nat} (hr : Rw h r c l) : Wp 86 0 [.ref r] [] h (fun v h' => v = .inl .null ∧ Rw h' r c [] ∧ Fz (SR r) h h') := by
  have hr' := hr
  obtain ⟨a1, a2, a3, a4, a5, a6, a7, a8, a9⟩ := hr
  simp (disch := omega) only [U86_0, U86_1, U86_2, U86_5, z_kd_sI, z_ln_sI, z_gI_sI, z_gJ_sI, z_gP_sI, z_nx_sI, z_rc_sI, z_rs_sI, z_em_sI, z_mi_sI, z_kd_sJ, z_ln_sJ, z_gI_sJ, z_gJ_sJ, z_gP_sJ, z_nx_sJ, z_rc_sJ, z_rs_sJ, z_em_sJ, z_mi_sJ, z_kd_sP, z_ln_sP, z_gI_sP, z_gJ_sP, z_gP_sP, z_nx_sP, z_rc_sP, z_rs_sP, z_em_sP, z_mi_sP, z_kd_nw, z_ln_nw, z_gI_nw, z_gJ_nw, z_gP_nw, z_nx_nw, z_rc_nw, z_rs_nw, z_em_nw, z_mi_nw, z_kd_cI, z_ln_cI, z_gI_cI, z_gJ_cI, z_gP_cI, z_nx_cI, z_rc_cI, z_rs_cI, z_em_cI, z_mi_cI, z_kd_cP, z_ln_cP, z_gI_cP, z_gJ_cP, z_gP_cP, z_nx_cP, z_rc_cP, z_rs_cP, z_em_cP, z_mi_cP, z_kd_wI, z_ln_wI, z_gI_wI, z_gJ_wI, z_gP_wI, z_nx_wI, z_rc_wI, z_rs_wI, z_em_wI, z_mi_wI, z_kd_wJ, z_ln_wJ, z_gI_wJ, z_gJ_wJ, z_gP_wJ, z_nx_wJ, z_rc_wJ, z_rs_wJ, z_em_wJ, z_mi_wJ, a1, i_add, i_mul, i_sub, i_addn, i_lt, i_eq, i_idx, i_vp, true_and, and_true, false_and, and_false, if_true, if_false, Nat.reduceAdd, Nat.reduceMul, Nat.reduceSub, Nat.reduceEqDiff, Option.some.injEq, exists_eq_left', true_or, or_true, false_or, or_false, not_true_eq_false, not_false_eq_true, eq_self, and_self, Nat.reduceLeDiff, decide_true, decide_false, ne_eq, Nat.left_eq_add, Nat.add_eq_left, Nat.add_left_cancel_iff, Nat.add_zero]
  have f : Fz (SR r) h (sI_ h r 1 (Int32.ofNat 0)) := Fz.rfl'.sI (Or.inl ⟨rfl, rfl⟩)
  exact ⟨hr'.mk' f (by rw [z_gI_sI, if_pos ⟨rfl, rfl⟩]; rfl) (Nat.zero_le _) (fun i hi => absurd hi (Nat.not_lt_zero _)) (fun b hb => absurd hb List.not_mem_nil), f⟩
theorem Row_room {h : MH_} {r c : Nat} {l : List Nat} {Q : Rs_ → MH_ → Prop} (hr : Rw h r c l) : Wp 98 0 [.ref r] [] h Q ↔ Q (.inl (.int (Int32.ofNat (c - l.length)))) h := by
  obtain ⟨a1, a2, a3, a4, a5, a6, a7, a8, a9⟩ := hr
  simp (disch := omega) only [U98_0, U98_1, U98_4, U98_5, U98_6, U98_9, U98_10, a1, a2, a3, a4, a7, i_add, i_mul, i_sub, i_addn, i_lt, i_eq, i_idx, i_vp, true_and, and_true, false_and, and_false, if_true, if_false, Nat.reduceAdd, Nat.reduceMul, Nat.reduceSub, Nat.reduceEqDiff, Option.some.injEq, exists_eq_left', true_or, or_true, false_or, or_false, not_true_eq_false, not_false_eq_true, eq_self, and_self, Nat.reduceLeDiff, decide_true, decide_false, ne_eq, Nat.left_eq_add, Nat.add_eq_left, Nat.add_left_cancel_iff, Nat.add_zero]
theorem Row_set {h : MH_} {r c i : Nat} {x : Int32} {l : List Nat} (hr : Rw h r c l) (hi : i < l.length) : Wp 99 0 [.ref r, .int (Int32.ofNat i), .int x] [] h (fun v h' => v = .inl .null ∧ Rw h' r c (l.set i (lo8 x)) ∧ Fz (SR r) h h') := by
  have hr' := hr
  obtain ⟨a1, a2, a3, a4, a5, a6, a7, a8, a9⟩ := hr
  simp (disch := omega) only [U99_0, U99_1, U99_4, U99_5, U99_6, U99_9, U99_12, U99_13, U99_16, U99_17, U99_18, U99_19, U99_20, z_kd_sI, z_ln_sI, z_gI_sI, z_gJ_sI, z_gP_sI, z_nx_sI, z_rc_sI, z_rs_sI, z_em_sI, z_mi_sI, z_kd_sJ, z_ln_sJ, z_gI_sJ, z_gJ_sJ, z_gP_sJ, z_nx_sJ, z_rc_sJ, z_rs_sJ, z_em_sJ, z_mi_sJ, z_kd_sP, z_ln_sP, z_gI_sP, z_gJ_sP, z_gP_sP, z_nx_sP, z_rc_sP, z_rs_sP, z_em_sP, z_mi_sP, z_kd_nw, z_ln_nw, z_gI_nw, z_gJ_nw, z_gP_nw, z_nx_nw, z_rc_nw, z_rs_nw, z_em_nw, z_mi_nw, z_kd_cI, z_ln_cI, z_gI_cI, z_gJ_cI, z_gP_cI, z_nx_cI, z_rc_cI, z_rs_cI, z_em_cI, z_mi_cI, z_kd_cP, z_ln_cP, z_gI_cP, z_gJ_cP, z_gP_cP, z_nx_cP, z_rc_cP, z_rs_cP, z_em_cP, z_mi_cP, z_kd_wI, z_ln_wI, z_gI_wI, z_gJ_wI, z_gP_wI, z_nx_wI, z_rc_wI, z_rs_wI, z_em_wI, z_mi_wI, z_kd_wJ, z_ln_wJ, z_gI_wJ, z_gJ_wJ, z_gP_wJ, z_nx_wJ, z_rc_wJ, z_rs_wJ, z_em_wJ, z_mi_wJ, a1, a2, a3, a4, a7, hi, show ¬ i < 0 by omega, show i < c by omega, Int8.toInt8_toInt32, i_add, i_mul, i_sub, i_addn, i_lt, i_eq, i_idx, i_vp, true_and, and_true, false_and, and_false, if_true, if_false, Nat.reduceAdd, Nat.reduceMul, Nat.reduceSub, Nat.reduceEqDiff, Option.some.injEq, exists_eq_left', true_or, or_true, false_or, or_false, not_true_eq_false, not_false_eq_true, eq_self, and_self, Nat.reduceLeDiff, decide_true, decide_false, ne_eq, Nat.left_eq_add, Nat.add_eq_left, Nat.add_left_cancel_iff, Nat.add_zero]
  rw [(lo8_b8 x).1]
  have f : Fz (SR r) h (sI_ h (r + 1) i (b8 (lo8 x))) := Fz.rfl'.sI (Or.inr rfl)
  refine ⟨hr'.mk' f ?_ ?_ ?_ ?_, f⟩
  · rw [z_gI_sI, if_neg (by omega), List.length_set, a7]
  · rw [List.length_set]; exact a6
  · intro j hj
    rw [List.length_set] at hj
    rw [z_gI_sI, gD_in (by rw [List.length_set]; exact hj), List.getElem_set]
    by_cases h1 : i = j
    · subst h1
      rw [if_pos ⟨rfl, rfl⟩, if_pos rfl]
    · rw [if_neg (by omega), if_neg h1, a8 j hj, gD_in hj]
  · intro b hb
    rcases List.mem_or_eq_of_mem_set hb with hb | hb
    · exact a9 b hb
    · rw [hb]; exact (lo8_b8 x).2.1
theorem Row_shorten {h : MH_} {r c n : Nat} {l : List Nat} (hr : Rw h r c l) (hn : n < 2147483648) : Wp 100 0 [.ref r, .int (Int32.ofNat n)] [] h (fun v h' => v = .inl .null ∧ Rw h' r c (l.take n) ∧ Fz (SR r) h h') := by
  have hr' := hr
  obtain ⟨a1, a2, a3, a4, a5, a6, a7, a8, a9⟩ := hr
  by_cases hl : n < l.length
  · simp (disch := omega) only [U100_0, U100_1, U100_4, U100_5, U100_6, U100_9, U100_12, U100_13, U100_14, U100_17, z_kd_sI, z_ln_sI, z_gI_sI, z_gJ_sI, z_gP_sI, z_nx_sI, z_rc_sI, z_rs_sI, z_em_sI, z_mi_sI, z_kd_sJ, z_ln_sJ, z_gI_sJ, z_gJ_sJ, z_gP_sJ, z_nx_sJ, z_rc_sJ, z_rs_sJ, z_em_sJ, z_mi_sJ, z_kd_sP, z_ln_sP, z_gI_sP, z_gJ_sP, z_gP_sP, z_nx_sP, z_rc_sP, z_rs_sP, z_em_sP, z_mi_sP, z_kd_nw, z_ln_nw, z_gI_nw, z_gJ_nw, z_gP_nw, z_nx_nw, z_rc_nw, z_rs_nw, z_em_nw, z_mi_nw, z_kd_cI, z_ln_cI, z_gI_cI, z_gJ_cI, z_gP_cI, z_nx_cI, z_rc_cI, z_rs_cI, z_em_cI, z_mi_cI, z_kd_cP, z_ln_cP, z_gI_cP, z_gJ_cP, z_gP_cP, z_nx_cP, z_rc_cP, z_rs_cP, z_em_cP, z_mi_cP, z_kd_wI, z_ln_wI, z_gI_wI, z_gJ_wI, z_gP_wI, z_nx_wI, z_rc_wI, z_rs_wI, z_em_wI, z_mi_wI, z_kd_wJ, z_ln_wJ, z_gI_wJ, z_gJ_wJ, z_gP_wJ, z_nx_wJ, z_rc_wJ, z_rs_wJ, z_em_wJ, z_mi_wJ, a1, a2, a3, a4, a7, hl, show ¬ n < 0 by omega, i_add, i_mul, i_sub, i_addn, i_lt, i_eq, i_idx, i_vp, true_and, and_true, false_and, and_false, if_true, if_false, Nat.reduceAdd, Nat.reduceMul, Nat.reduceSub, Nat.reduceEqDiff, Option.some.injEq, exists_eq_left', true_or, or_true, false_or, or_false, not_true_eq_false, not_false_eq_true, eq_self, and_self, Nat.reduceLeDiff, decide_true, decide_false, ne_eq, Nat.left_eq_add, Nat.add_eq_left, Nat.add_left_cancel_iff, Nat.add_zero]
    have f : Fz (SR r) h (sI_ h r 1 (Int32.ofNat n)) := Fz.rfl'.sI (Or.inl ⟨rfl, rfl⟩)
    refine ⟨hr'.mk' f ?_ ?_ ?_ ?_, f⟩
    · rw [z_gI_sI, if_pos ⟨rfl, rfl⟩, List.length_take, Nat.min_eq_left (by omega)]
    · rw [List.length_take]; omega
    · intro i hi
      have hi' := hi
      rw [List.length_take] at hi'
      rw [z_gI_sI, if_neg (by omega), a8 i (by omega), gD_in hi, gD_in (by omega), List.getElem_take]
    · intro b hb
      exact a9 b (List.mem_of_mem_take hb)
  · simp (disch := omega) only [U100_0, U100_1, U100_4, U100_5, U100_6, U100_9, U100_12, U100_13, U100_14, U100_17, z_kd_sI, z_ln_sI, z_gI_sI, z_gJ_sI, z_gP_sI, z_nx_sI, z_rc_sI, z_rs_sI, z_em_sI, z_mi_sI, z_kd_sJ, z_ln_sJ, z_gI_sJ, z_gJ_sJ, z_gP_sJ, z_nx_sJ, z_rc_sJ, z_rs_sJ, z_em_sJ, z_mi_sJ, z_kd_sP, z_ln_sP, z_gI_sP, z_gJ_sP, z_gP_sP, z_nx_sP, z_rc_sP, z_rs_sP, z_em_sP, z_mi_sP, z_kd_nw, z_ln_nw, z_gI_nw, z_gJ_nw, z_gP_nw, z_nx_nw, z_rc_nw, z_rs_nw, z_em_nw, z_mi_nw, z_kd_cI, z_ln_cI, z_gI_cI, z_gJ_cI, z_gP_cI, z_nx_cI, z_rc_cI, z_rs_cI, z_em_cI, z_mi_cI, z_kd_cP, z_ln_cP, z_gI_cP, z_gJ_cP, z_gP_cP, z_nx_cP, z_rc_cP, z_rs_cP, z_em_cP, z_mi_cP, z_kd_wI, z_ln_wI, z_gI_wI, z_gJ_wI, z_gP_wI, z_nx_wI, z_rc_wI, z_rs_wI, z_em_wI, z_mi_wI, z_kd_wJ, z_ln_wJ, z_gI_wJ, z_gJ_wJ, z_gP_wJ, z_nx_wJ, z_rc_wJ, z_rs_wJ, z_em_wJ, z_mi_wJ, a1, a2, a3, a4, a7, hl, show ¬ n < 0 by omega, i_add, i_mul, i_sub, i_addn, i_lt, i_eq, i_idx, i_vp, true_and, and_true, false_and, and_false, if_true, if_false, Nat.reduceAdd, Nat.reduceMul, Nat.reduceSub, Nat.reduceEqDiff, Option.some.injEq, exists_eq_left', true_or, or_true, false_or, or_false, not_true_eq_false, not_false_eq_true, eq_self, and_self, Nat.reduceLeDiff, decide_true, decide_false, ne_eq, Nat.left_eq_add, Nat.add_eq_left, Nat.add_left_cancel_iff, Nat.add_zero]
    rw [List.take_of_length_le (by omega)]
    exact ⟨hr', Fz.rfl'⟩
theorem Row_putRow {h : MH_} {r o c d : Nat} {l m : List Nat} (hr : Rw h r c l) (ho : Rw h o d m) (hc : l.length + m.length ≤ c) (ap : r + 2 ≤ o ∨ o + 2 ≤ r) : Wp 95 0 [.ref r, .ref o, .null] [] h (fun v h' => v = .inl .null ∧ Rw h' r c (l ++ m) ∧ Fz (SR r) h h') := by
  have key : ∀ n k h l, k + n = m.length → Rw h r c l → Rw h o d m → l.length + n ≤ c → Wp 95 2 [.ref r, .ref o, .int (Int32.ofNat k)] [] h (fun v h' => v = .inl .null ∧ Rw h' r c (l ++ m.drop k) ∧ Fz (SR r) h h') := by
    intro n
    induction n with
    | zero =>
      intro k h l hk hr ho hc
      obtain ⟨a1, a2, a3, a4, a5, a6, a7, a8, a9⟩ := ho
      rw [U95_2]
      simp (disch := omega) only [U95_0, U95_1, U95_3, U95_4, U95_7, U95_10, U95_11, U95_12, U95_15, U95_16, U95_17, U95_20, U95_23, U95_26, a1, a2, a3, a4, a7, show ¬ k < m.length by omega, i_add, i_mul, i_sub, i_addn, i_lt, i_eq, i_idx, i_vp, true_and, and_true, false_and, and_false, if_true, if_false, Nat.reduceAdd, Nat.reduceMul, Nat.reduceSub, Nat.reduceEqDiff, Option.some.injEq, exists_eq_left', true_or, or_true, false_or, or_false, not_true_eq_false, not_false_eq_true, eq_self, and_self, Nat.reduceLeDiff, decide_true, decide_false, ne_eq, Nat.left_eq_add, Nat.add_eq_left, Nat.add_left_cancel_iff, Nat.add_zero]
      rw [List.drop_of_length_le (by omega), List.append_nil]
      exact ⟨hr, Fz.rfl'⟩
    | succ n ih =>
      intro k h l hk hr ho hc
      have ho' := ho
      obtain ⟨a1, a2, a3, a4, a5, a6, a7, a8, a9⟩ := ho
      rw [U95_2]
      simp (disch := omega) only [U95_0, U95_1, U95_3, U95_4, U95_7, U95_10, U95_11, U95_12, U95_15, U95_16, U95_17, U95_20, U95_23, U95_26, a1, a2, a3, a4, a7, hr.1, show k < m.length by omega, show k < d by omega, a8 k (by omega), i_add, i_mul, i_sub, i_addn, i_lt, i_eq, i_idx, i_vp, true_and, and_true, false_and, and_false, if_true, if_false, Nat.reduceAdd, Nat.reduceMul, Nat.reduceSub, Nat.reduceEqDiff, Option.some.injEq, exists_eq_left', true_or, or_true, false_or, or_false, not_true_eq_false, not_false_eq_true, eq_self, and_self, Nat.reduceLeDiff, decide_true, decide_false, ne_eq, Nat.left_eq_add, Nat.add_eq_left, Nat.add_left_cancel_iff, Nat.add_zero]
      refine Wp_use (Row_put hr (by omega)) ?_
      rintro _ h1 ⟨rfl, hr1, f1⟩
      simp (disch := omega) only [V93, U95_0, U95_1, U95_3, U95_4, U95_7, U95_10, U95_11, U95_12, U95_15, U95_16, U95_17, U95_20, U95_23, U95_26, i_add, i_mul, i_sub, i_addn, i_lt, i_eq, i_idx, i_vp, true_and, and_true, false_and, and_false, if_true, if_false, Nat.reduceAdd, Nat.reduceMul, Nat.reduceSub, Nat.reduceEqDiff, Option.some.injEq, exists_eq_left', true_or, or_true, false_or, or_false, not_true_eq_false, not_false_eq_true, eq_self, and_self, Nat.reduceLeDiff, decide_true, decide_false, ne_eq, Nat.left_eq_add, Nat.add_eq_left, Nat.add_left_cancel_iff, Nat.add_zero]
      refine Wp_use (ih (k + 1) h1 _ (by omega) hr1 (ho'.fz f1 (SR_ap ap)) (by rw [List.length_append, List.length_singleton]; omega)) ?_
      rintro _ h2 ⟨rfl, hr2, f2⟩
      rw [List.append_assoc, List.singleton_append, lo8_b8' (ho'.lt k), ← gD_drop (by omega)] at hr2
      exact ⟨rfl, hr2, f1.trans f2⟩
  simp (disch := omega) only [U95_0, U95_1, U95_3, U95_4, U95_7, U95_10, U95_11, U95_12, U95_15, U95_16, U95_17, U95_20, U95_23, U95_26, i_add, i_mul, i_sub, i_addn, i_lt, i_eq, i_idx, i_vp, true_and, and_true, false_and, and_false, if_true, if_false, Nat.reduceAdd, Nat.reduceMul, Nat.reduceSub, Nat.reduceEqDiff, Option.some.injEq, exists_eq_left', true_or, or_true, false_or, or_false, not_true_eq_false, not_false_eq_true, eq_self, and_self, Nat.reduceLeDiff, decide_true, decide_false, ne_eq, Nat.left_eq_add, Nat.add_eq_left, Nat.add_left_cancel_iff, Nat.add_zero]
  exact key m.length 0 h l (by omega) hr ho hc
theorem Row_putZeros {h : MH_} {r c n : Nat} {l : List Nat} (hr : Rw h r c l) (hc : l.length + n ≤ c) : Wp 97 0 [.ref r, .int (Int32.ofNat n), .null] [] h (fun v h' => v = .inl .null ∧ Rw h' r c (l ++ List.replicate n 0) ∧ Fz (SR r) h h') := by
  have hc5 := hr.2.2.2.2.1
  have key : ∀ j k h l, k + j = n → Rw h r c l → l.length + j ≤ c → Wp 97 2 [.ref r, .int (Int32.ofNat n), .int (Int32.ofNat k)] [] h (fun v h' => v = .inl .null ∧ Rw h' r c (l ++ List.replicate j 0) ∧ Fz (SR r) h h') := by
    intro j
    induction j with
    | zero =>
      intro k h l hk hr hc
      rw [U97_2]
      simp (disch := omega) only [U97_0, U97_1, U97_3, U97_4, U97_7, U97_8, U97_9, U97_12, U97_15, U97_18, show ¬ k < n by omega, i_add, i_mul, i_sub, i_addn, i_lt, i_eq, i_idx, i_vp, true_and, and_true, false_and, and_false, if_true, if_false, Nat.reduceAdd, Nat.reduceMul, Nat.reduceSub, Nat.reduceEqDiff, Option.some.injEq, exists_eq_left', true_or, or_true, false_or, or_false, not_true_eq_false, not_false_eq_true, eq_self, and_self, Nat.reduceLeDiff, decide_true, decide_false, ne_eq, Nat.left_eq_add, Nat.add_eq_left, Nat.add_left_cancel_iff, Nat.add_zero]
      rw [List.replicate_zero, List.append_nil]
      exact ⟨hr, Fz.rfl'⟩
    | succ j ih =>
      intro k h l hk hr hc
      rw [U97_2]
      simp (disch := omega) only [U97_0, U97_1, U97_3, U97_4, U97_7, U97_8, U97_9, U97_12, U97_15, U97_18, hr.1, show k < n by omega, i_add, i_mul, i_sub, i_addn, i_lt, i_eq, i_idx, i_vp, true_and, and_true, false_and, and_false, if_true, if_false, Nat.reduceAdd, Nat.reduceMul, Nat.reduceSub, Nat.reduceEqDiff, Option.some.injEq, exists_eq_left', true_or, or_true, false_or, or_false, not_true_eq_false, not_false_eq_true, eq_self, and_self, Nat.reduceLeDiff, decide_true, decide_false, ne_eq, Nat.left_eq_add, Nat.add_eq_left, Nat.add_left_cancel_iff, Nat.add_zero]
      refine Wp_use (Row_put hr (by omega)) ?_
      rintro _ h1 ⟨rfl, hr1, f1⟩
      simp (disch := omega) only [V93, U97_0, U97_1, U97_3, U97_4, U97_7, U97_8, U97_9, U97_12, U97_15, U97_18, i_add, i_mul, i_sub, i_addn, i_lt, i_eq, i_idx, i_vp, true_and, and_true, false_and, and_false, if_true, if_false, Nat.reduceAdd, Nat.reduceMul, Nat.reduceSub, Nat.reduceEqDiff, Option.some.injEq, exists_eq_left', true_or, or_true, false_or, or_false, not_true_eq_false, not_false_eq_true, eq_self, and_self, Nat.reduceLeDiff, decide_true, decide_false, ne_eq, Nat.left_eq_add, Nat.add_eq_left, Nat.add_left_cancel_iff, Nat.add_zero]
      refine Wp_use (ih (k + 1) h1 _ (by omega) hr1 (by rw [List.length_append, List.length_singleton]; omega)) ?_
      rintro _ h2 ⟨rfl, hr2, f2⟩
      rw [List.append_assoc, lo8_of] at hr2
      exact ⟨rfl, hr2, f1.trans f2⟩
  simp (disch := omega) only [U97_0, U97_1, U97_3, U97_4, U97_7, U97_8, U97_9, U97_12, U97_15, U97_18, i_add, i_mul, i_sub, i_addn, i_lt, i_eq, i_idx, i_vp, true_and, and_true, false_and, and_false, if_true, if_false, Nat.reduceAdd, Nat.reduceMul, Nat.reduceSub, Nat.reduceEqDiff, Option.some.injEq, exists_eq_left', true_or, or_true, false_or, or_false, not_true_eq_false, not_false_eq_true, eq_self, and_self, Nat.reduceLeDiff, decide_true, decide_false, ne_eq, Nat.left_eq_add, Nat.add_eq_left, Nat.add_left_cancel_iff, Nat.add_zero]
  exact key n 0 h l (by omega) hr hc
