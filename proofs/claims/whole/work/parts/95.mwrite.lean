/-! ===== the model: put, sum, write ===== -/
section
variable {h h' : MH_} {m s : Nat} {si : List (List Tok)} {Q : Rs_ → MH_ → Prop} {wr : Nat → Wr}
def Mf (h : MH_) (m : Nat) (l : List Nat) : Prop := gI_ h m 22 = Int32.ofNat l.length ∧ (∀ i, i < l.length → gI_ h (m + 18) i = Int32.ofNat (l.getD i 0)) ∧ ∀ q ∈ l, q < 256
def SG (m : Nat) : Nat → Nat → Prop := fun a i => (a = m ∧ i = 22) ∨ a = m + 18
theorem M_put {b : Int32} {l : List Nat} (X0 : MS h m) (K : Mf h m l) (hl : l.length < 6144) : Wp 188 0 [.ref m, .int b] [] h (fun v h' => v = .inl .null ∧ Mf h' m (l ++ [lo8 b]) ∧ Fz (SG m) h h') := by
  simp (disch := omega) only [U188_0, U188_1, U188_4, U188_5, U188_8, U188_9, U188_12, U188_13, U188_14, U188_15, U188_16, U188_19, U188_20, U188_21, U188_24, z_kd_sI, z_ln_sI, z_gI_sI, z_gJ_sI, z_gP_sI, z_nx_sI, z_rc_sI, z_rs_sI, z_em_sI, z_mi_sI, z_kd_sJ, z_ln_sJ, z_gI_sJ, z_gJ_sJ, z_gP_sJ, z_nx_sJ, z_rc_sJ, z_rs_sJ, z_em_sJ, z_mi_sJ, z_kd_sP, z_ln_sP, z_gI_sP, z_gJ_sP, z_gP_sP, z_nx_sP, z_rc_sP, z_rs_sP, z_em_sP, z_mi_sP, z_kd_nw, z_ln_nw, z_gI_nw, z_gJ_nw, z_gP_nw, z_nx_nw, z_rc_nw, z_rs_nw, z_em_nw, z_mi_nw, z_kd_cI, z_ln_cI, z_gI_cI, z_gJ_cI, z_gP_cI, z_nx_cI, z_rc_cI, z_rs_cI, z_em_cI, z_mi_cI, z_kd_cP, z_ln_cP, z_gI_cP, z_gJ_cP, z_gP_cP, z_nx_cP, z_rc_cP, z_rs_cP, z_em_cP, z_mi_cP, z_kd_wI, z_ln_wI, z_gI_wI, z_gJ_wI, z_gP_wI, z_nx_wI, z_rc_wI, z_rs_wI, z_em_wI, z_mi_wI, z_kd_wJ, z_ln_wJ, z_gI_wJ, z_gJ_wJ, z_gP_wJ, z_nx_wJ, z_rc_wJ, z_rs_wJ, z_em_wJ, z_mi_wJ, X0.1, K.1, mp23 X0, mk18 X0, mn18 X0, hl, (lo8_b8 b).2.2, i_add, i_mul, i_sub, i_addn, i_lt, i_eq, i_idx, i_vp, true_and, and_true, false_and, and_false, if_true, if_false, Nat.reduceAdd, Nat.reduceMul, Nat.reduceSub, Nat.reduceEqDiff, Option.some.injEq, exists_eq_left', true_or, or_true, false_or, or_false, not_true_eq_false, not_false_eq_true, eq_self, and_self, Nat.reduceLeDiff, decide_true, decide_false, ne_eq, Nat.left_eq_add, Nat.add_eq_left, Nat.add_left_cancel_iff, Nat.add_zero]
  refine ⟨⟨by rw [z_gI_sI, if_pos ⟨rfl, rfl⟩, List.length_append]; rfl, fun i hi => ?_, fun q hq => ?_⟩, (Fz.rfl'.sI (Or.inr rfl)).sI (Or.inl ⟨rfl, rfl⟩)⟩
  · rw [List.length_append, List.length_singleton] at hi
    rw [z_gI_sI, if_neg (by omega), z_gI_sI]
    by_cases hi2 : i = l.length
    · subst hi2; rw [if_pos ⟨rfl, rfl⟩, gD_app' (Nat.le_refl _), Nat.sub_self]; rfl
    · rw [if_neg (by omega), K.2.1 i (by omega), gD_app (by omega)]
  · rcases List.mem_append.mp hq with hq | hq
    · exact K.2.2 q hq
    · rw [List.mem_singleton.mp hq]; exact (lo8_b8 b).2.1
theorem M_sum {a i : Nat} (hk : kd_ h a = 30) (hl : i + 252 ≤ ln_ h a) (hi : i < 1000000) : Wp 201 0 [.ref a, .int (Int32.ofNat i), .null, .null] [] h Q ↔ Q (.inl (.int (smF (fun k => gI_ h a k) 252 i (Int32.ofNat 0)))) h := by
  have key : ∀ n k s, k + n = i + 252 → (Wp 201 4 [.ref a, .int (Int32.ofNat i), .int s, .int (Int32.ofNat k)] [] h Q ↔ Q (.inl (.int (smF (fun k => gI_ h a k) n k s))) h) := by
    intro n
    induction n with
    | zero =>
      intro k s hk2
      rw [U201_4]
      simp (disch := omega) only [U201_0, U201_1, U201_2, U201_3, U201_5, U201_6, U201_9, U201_10, U201_13, U201_14, U201_16, U201_17, U201_18, U201_19, U201_20, U201_21, U201_22, U201_25, U201_28, U201_29, show ¬ k < i + 252 by omega, smF, i_add, i_mul, i_sub, i_addn, i_lt, i_eq, i_idx, i_vp, true_and, and_true, false_and, and_false, if_true, if_false, Nat.reduceAdd, Nat.reduceMul, Nat.reduceSub, Nat.reduceEqDiff, Option.some.injEq, exists_eq_left', true_or, or_true, false_or, or_false, not_true_eq_false, not_false_eq_true, eq_self, and_self, Nat.reduceLeDiff, decide_true, decide_false, ne_eq, Nat.left_eq_add, Nat.add_eq_left, Nat.add_left_cancel_iff, Nat.add_zero]
    | succ n ih =>
      intro k s hk2
      rw [U201_4]
      simp (disch := omega) only [U201_0, U201_1, U201_2, U201_3, U201_5, U201_6, U201_9, U201_10, U201_13, U201_14, U201_16, U201_17, U201_18, U201_19, U201_20, U201_21, U201_22, U201_25, U201_28, U201_29, hk, show k < i + 252 by omega, show k < ln_ h a by omega, ih (k + 1), smF, i_add, i_mul, i_sub, i_addn, i_lt, i_eq, i_idx, i_vp, true_and, and_true, false_and, and_false, if_true, if_false, Nat.reduceAdd, Nat.reduceMul, Nat.reduceSub, Nat.reduceEqDiff, Option.some.injEq, exists_eq_left', true_or, or_true, false_or, or_false, not_true_eq_false, not_false_eq_true, eq_self, and_self, Nat.reduceLeDiff, decide_true, decide_false, ne_eq, Nat.left_eq_add, Nat.add_eq_left, Nat.add_left_cancel_iff, Nat.add_zero]
  simp (disch := omega) only [U201_0, U201_1, U201_2, U201_3, i_add, i_mul, i_sub, i_addn, i_lt, i_eq, i_idx, i_vp, true_and, and_true, false_and, and_false, if_true, if_false, Nat.reduceAdd, Nat.reduceMul, Nat.reduceSub, Nat.reduceEqDiff, Option.some.injEq, exists_eq_left', true_or, or_true, false_or, or_false, not_true_eq_false, not_false_eq_true, eq_self, and_self, Nat.reduceLeDiff, decide_true, decide_false, ne_eq, Nat.left_eq_add, Nat.add_eq_left, Nat.add_left_cancel_iff, Nat.add_zero]
  exact key 252 i _ (by omega)
theorem lo8_0 (x : Int32) : lo8 x = by64 x.toInt64 0 := by
  rw [by64_int x (by omega), lo8_n]
  simp
theorem lo8_8 (x : Int32) : lo8 (x >>> (Int32.ofNat 8 &&& 31)) = by64 x.toInt64 1 := lo8_shr x (k := 1) (by omega)
theorem big2 (x : Int64) : bigB x 2 = [by64 x 1, by64 x 0] := rfl
theorem Mf_sum {fl bd : List Nat} (K : Mf h m (fl ++ bd)) (bl : bd.length = 252) : smF (fun k => gI_ h (m + 18) k) 252 fl.length (Int32.ofNat 0) = smB bd := by
  unfold smB
  have e := smF_shift (g := fun k => gI_ h (m + 18) k) (o := fl.length) 252 0 (Int32.ofNat 0)
  rw [Nat.add_zero fl.length] at e
  rw [← e]
  apply smF_ext
  intro i hi1 hi2
  show gI_ h (m + 18) (fl.length + i) = _
  rw [K.2.1 _ (by rw [List.length_append, bl]; omega), gD_app' (by omega), Nat.add_sub_cancel_left]
theorem M_write {w : Nat} {fl : List Nat} (X0 : MS h m) (X2 : MF h m si) (X5 : MW h m wr) (F : Mf h m fl) (hw : w < 4) (ok : WkOk si (wr w).1) (mo : mono (wr w).1) (hpre : ∀ e, e < (wr w).1.length → (pkP ((wr w).1.take e)).1.length ≤ 238) (hev : (pkP (wr w).1).1.length ≤ 238) (hne : (wr w).1 ≠ []) (h256 : ∀ q ∈ (pkP (wr w).1).1, q < 256) (hl : fl.length + 256 ≤ 6144) : Wp 208 0 [.ref m, .int (Int32.ofNat w), .null, .null, .null, .null, .null] [] h (fun v h' => v = .inl .null ∧ Mf h' m (fl ++ bkW w (wr w)) ∧ gI_ h' (m + 9) w = Int32.ofNat 0 ∧ gI_ h' (m + 16) w = Int32.ofNat ((wr w).2.2 + 1) ∧ Fz (fun a i => SK m a i ∨ SG m a i ∨ ((a = m + 9 ∨ a = m + 16) ∧ i = w)) h h') := by
  obtain ⟨w1, w2, w3, w4, w5⟩ := X5 w hw
  obtain ⟨p0, l0, hp0⟩ : ∃ p l, (wr w).1 = p :: l := by
    cases hc : (wr w).1 with
    | nil => exact absurd hc hne
    | cons p l => exact ⟨p, l, rfl⟩
  have hd0 : hdT (wr w).1 = p0.2.1 := by rw [hp0]; rfl
  have z0 := (w5 0 p0 (by rw [hp0]; rfl)).2.1
  rw [Nat.add_zero] at z0
  have SKG : ∀ a i, SK m a i → ¬ SG m a i := by unfold SK SG; intro a i z w; omega
  -- the frame while bytes are put
  simp (disch := omega) only [U208_0, U208_1, U208_2, X0.1, i_add, i_mul, i_sub, i_addn, i_lt, i_eq, i_idx, i_vp, true_and, and_true, false_and, and_false, if_true, if_false, Nat.reduceAdd, Nat.reduceMul, Nat.reduceSub, Nat.reduceEqDiff, Option.some.injEq, exists_eq_left', true_or, or_true, false_or, or_false, not_true_eq_false, not_false_eq_true, eq_self, and_self, Nat.reduceLeDiff, decide_true, decide_false, ne_eq, Nat.left_eq_add, Nat.add_eq_left, Nat.add_left_cancel_iff, Nat.add_zero]
  refine Wp_use (M_packAll (l0 := []) X0 X2 X5 hw ok mo hpre) ?_
  rintro _ h1 ⟨rfl, K1, f1⟩
  have F1 : Mf h1 m fl := ⟨by rw [f1.gI (by unfold SK; omega)]; exact F.1, fun i hi => by rw [f1.gI (by unfold SK; omega)]; exact F.2.1 i hi, F.2.2⟩
  have Y0 := X0.fz f1
  have ev256 : ∀ q ∈ (pkP (wr w).1).1, q < 256 := h256
  generalize hE : (pkP (wr w).1).1 = ev at *
  -- everything that is read stays under puts
  have st : ∀ {h2}, Fz (SG m) h1 h2 → MS h2 m ∧ gI_ h2 (m + 16) w = Int32.ofNat (wr w).2.2 ∧ gJ_ h2 (m + 11) (120 * w) = Int64.ofNat (hdT (wr w).1) ∧ Mk h2 m ev := by
    intro h2 f2
    refine ⟨Y0.fz f2, ?_, ?_, ?_, fun i hi => ?_⟩
    · rw [f2.gI (by unfold SG; omega), f1.gI (by unfold SK; omega)]; exact w4
    · rw [f2.gJ (by unfold SG; omega), f1.gJ (by unfold SK; omega), hd0]; exact z0
    · rw [f2.gI (by unfold SG; omega)]; exact K1.1
    · rw [f2.gI (by unfold SG; omega)]; exact K1.2 i hi
  have from_ : fl.length < 6144 := by omega
  -- eight bytes of a time
  have loopT : ∀ (Q : Rs_ → MH_ → Prop) n h2 l, n ≤ 8 → Fz (SG m) h1 h2 → Mf h2 m l → l.length + n ≤ 6144 → (∀ h3 y, Fz (SG m) h1 h3 → Mf h3 m (l ++ bigB (Int64.ofNat (hdT (wr w).1)) n) → Wp 208 86 [.ref m, .int (Int32.ofNat w), .int (Int32.ofNat fl.length), .long (Int64.ofNat (hdT (wr w).1)), .null, .int y, .null] [] h3 Q) → Wp 208 58 [.ref m, .int (Int32.ofNat w), .int (Int32.ofNat fl.length), .long (Int64.ofNat (hdT (wr w).1)), .null, .int (Int32.ofNat (8 * n) - Int32.ofNat 8), .null] [] h2 Q := by
    intro Q n
    induction n with
    | zero =>
      intro h2 l hn f2 K hl2 go
      rw [U208_58]
      simp (disch := omega) only [U208_60, U208_63, U208_64, U208_65, U208_67, U208_68, U208_71, U208_72, U208_73, U208_76, U208_78, U208_80, U208_81, U208_83, show Int32.ofNat (8 * 0) - Int32.ofNat 8 < Int32.ofNat 0 by decide, true_and, and_true, false_and, and_false, if_true, if_false, Nat.reduceAdd, Nat.reduceMul, Nat.reduceSub, Nat.reduceEqDiff, Option.some.injEq, exists_eq_left', true_or, or_true, false_or, or_false, not_true_eq_false, not_false_eq_true, eq_self, and_self, Nat.reduceLeDiff, decide_true, decide_false, ne_eq, Nat.left_eq_add, Nat.add_eq_left, Nat.add_left_cancel_iff, Nat.add_zero]
      exact go h2 _ f2 (by rw [show bigB (Int64.ofNat (hdT (wr w).1)) 0 = [] from rfl, List.append_nil]; exact K)
    | succ n ih =>
      intro h2 l hn f2 K hl2 go
      obtain ⟨Z0, z16, z11, zk⟩ := st f2
      have e8 : Int32.ofNat (8 * (n + 1)) - Int32.ofNat 8 = Int32.ofNat (8 * n) := by rw [i_sub (by omega)]; congr 1
      rw [e8, U208_58]
      simp (disch := omega) only [U208_60, U208_63, U208_64, U208_65, U208_67, U208_68, U208_71, U208_72, U208_73, U208_76, U208_78, U208_80, U208_81, U208_83, Z0.1, i_lt, show ¬ 8 * n < 0 by omega, sshr_and _ (show n < 8 by omega), true_and, and_true, false_and, and_false, if_true, if_false, Nat.reduceAdd, Nat.reduceMul, Nat.reduceSub, Nat.reduceEqDiff, Option.some.injEq, exists_eq_left', true_or, or_true, false_or, or_false, not_true_eq_false, not_false_eq_true, eq_self, and_self, Nat.reduceLeDiff, decide_true, decide_false, ne_eq, Nat.left_eq_add, Nat.add_eq_left, Nat.add_left_cancel_iff, Nat.add_zero]
      refine Wp_use (M_put Z0 K (by omega)) ?_
      rintro _ h3 ⟨rfl, K3, f3⟩
      rw [lo8_of, Nat.mod_eq_of_lt (by64_lt _ _)] at K3
      simp (disch := omega) only [V188, U208_60, U208_63, U208_64, U208_65, U208_67, U208_68, U208_71, U208_72, U208_73, U208_76, U208_78, U208_80, U208_81, U208_83, true_and, and_true, false_and, and_false, if_true, if_false, Nat.reduceAdd, Nat.reduceMul, Nat.reduceSub, Nat.reduceEqDiff, Option.some.injEq, exists_eq_left', true_or, or_true, false_or, or_false, not_true_eq_false, not_false_eq_true, eq_self, and_self, Nat.reduceLeDiff, decide_true, decide_false, ne_eq, Nat.left_eq_add, Nat.add_eq_left, Nat.add_left_cancel_iff, Nat.add_zero]
      refine ih h3 _ (by omega) (f2.trans f3) K3 (by rw [List.length_append, List.length_singleton]; omega) (fun h4 y f4 K4 => go h4 y f4 ?_)
      rw [List.append_assoc] at K4
      exact K4
  -- the events
  have loopE : ∀ (Q : Rs_ → MH_ → Prop) n k h2 l, k + n = ev.length → Fz (SG m) h1 h2 → Mf h2 m l → l.length + n ≤ 6144 → (∀ h3 y, Fz (SG m) h1 h3 → Mf h3 m (l ++ ev.drop k) → Wp 208 134 [.ref m, .int (Int32.ofNat w), .int (Int32.ofNat fl.length), .long (Int64.ofNat (hdT (wr w).1)), .null, .int y, .null] [] h3 Q) → Wp 208 108 [.ref m, .int (Int32.ofNat w), .int (Int32.ofNat fl.length), .long (Int64.ofNat (hdT (wr w).1)), .null, .int (Int32.ofNat k), .null] [] h2 Q := by
    intro Q n
    induction n with
    | zero =>
      intro k h2 l hk f2 K hl2 go
      obtain ⟨Z0, z16, z11, zk⟩ := st f2
      rw [U208_108]
      simp (disch := omega) only [U208_110, U208_111, U208_114, U208_117, U208_118, U208_119, U208_122, U208_124, U208_125, U208_128, U208_131, Z0.1, zk.1, show ¬ k < ev.length by omega, i_add, i_mul, i_sub, i_addn, i_lt, i_eq, i_idx, i_vp, true_and, and_true, false_and, and_false, if_true, if_false, Nat.reduceAdd, Nat.reduceMul, Nat.reduceSub, Nat.reduceEqDiff, Option.some.injEq, exists_eq_left', true_or, or_true, false_or, or_false, not_true_eq_false, not_false_eq_true, eq_self, and_self, Nat.reduceLeDiff, decide_true, decide_false, ne_eq, Nat.left_eq_add, Nat.add_eq_left, Nat.add_left_cancel_iff, Nat.add_zero]
      exact go h2 _ f2 (by rw [List.drop_of_length_le (by omega), List.append_nil]; exact K)
    | succ n ih =>
      intro k h2 l hk f2 K hl2 go
      obtain ⟨Z0, z16, z11, zk⟩ := st f2
      have zkk := zk.2 k (by omega)
      rw [U208_108]
      simp (disch := omega) only [U208_110, U208_111, U208_114, U208_117, U208_118, U208_119, U208_122, U208_124, U208_125, U208_128, U208_131, Z0.1, zk.1, mp21 Z0, mk17 Z0, mn17 Z0, zkk, show k < ev.length by omega, show k < 400 by omega, i_add, i_mul, i_sub, i_addn, i_lt, i_eq, i_idx, i_vp, true_and, and_true, false_and, and_false, if_true, if_false, Nat.reduceAdd, Nat.reduceMul, Nat.reduceSub, Nat.reduceEqDiff, Option.some.injEq, exists_eq_left', true_or, or_true, false_or, or_false, not_true_eq_false, not_false_eq_true, eq_self, and_self, Nat.reduceLeDiff, decide_true, decide_false, ne_eq, Nat.left_eq_add, Nat.add_eq_left, Nat.add_left_cancel_iff, Nat.add_zero]
      refine Wp_use (M_put Z0 K (by omega)) ?_
      rintro _ h3 ⟨rfl, K3, f3⟩
      rw [lo8_of, Nat.mod_eq_of_lt (gD_lt ev256 k)] at K3
      simp (disch := omega) only [V188, U208_110, U208_111, U208_114, U208_117, U208_118, U208_119, U208_122, U208_124, U208_125, U208_128, U208_131, i_add, i_mul, i_sub, i_addn, i_lt, i_eq, i_idx, i_vp, true_and, and_true, false_and, and_false, if_true, if_false, Nat.reduceAdd, Nat.reduceMul, Nat.reduceSub, Nat.reduceEqDiff, Option.some.injEq, exists_eq_left', true_or, or_true, false_or, or_false, not_true_eq_false, not_false_eq_true, eq_self, and_self, Nat.reduceLeDiff, decide_true, decide_false, ne_eq, Nat.left_eq_add, Nat.add_eq_left, Nat.add_left_cancel_iff, Nat.add_zero]
      refine ih (k + 1) h3 _ (by omega) (f2.trans f3) K3 (by rw [List.length_append, List.length_singleton]; omega) (fun h4 y f4 K4 => go h4 y f4 ?_)
      rw [List.append_assoc, List.singleton_append, ← gD_drop (by omega)] at K4
      exact K4
  -- zeros
  have loopZ : ∀ (Q : Rs_ → MH_ → Prop) n h2 l y, l.length + n = fl.length + 252 → Fz (SG m) h1 h2 → Mf h2 m l → (∀ h3, Fz (SG m) h1 h3 → Mf h3 m (l ++ List.replicate n 0) → Wp 208 154 [.ref m, .int (Int32.ofNat w), .int (Int32.ofNat fl.length), .long (Int64.ofNat (hdT (wr w).1)), .null, .int y, .null] [] h3 Q) → Wp 208 134 [.ref m, .int (Int32.ofNat w), .int (Int32.ofNat fl.length), .long (Int64.ofNat (hdT (wr w).1)), .null, .int y, .null] [] h2 Q := by
    intro Q n
    induction n with
    | zero =>
      intro h2 l y hk f2 K go
      obtain ⟨Z0, z16, z11, zk⟩ := st f2
      rw [U208_134]
      simp (disch := omega) only [U208_135, U208_138, U208_139, U208_142, U208_143, U208_146, U208_147, U208_148, U208_151, Z0.1, K.1, show ¬ l.length < fl.length + 252 by omega, i_add, i_mul, i_sub, i_addn, i_lt, i_eq, i_idx, i_vp, true_and, and_true, false_and, and_false, if_true, if_false, Nat.reduceAdd, Nat.reduceMul, Nat.reduceSub, Nat.reduceEqDiff, Option.some.injEq, exists_eq_left', true_or, or_true, false_or, or_false, not_true_eq_false, not_false_eq_true, eq_self, and_self, Nat.reduceLeDiff, decide_true, decide_false, ne_eq, Nat.left_eq_add, Nat.add_eq_left, Nat.add_left_cancel_iff, Nat.add_zero]
      exact go h2 f2 (by rw [List.replicate_zero, List.append_nil]; exact K)
    | succ n ih =>
      intro h2 l y hk f2 K go
      obtain ⟨Z0, z16, z11, zk⟩ := st f2
      rw [U208_134]
      simp (disch := omega) only [U208_135, U208_138, U208_139, U208_142, U208_143, U208_146, U208_147, U208_148, U208_151, Z0.1, K.1, show l.length < fl.length + 252 by omega, i_add, i_mul, i_sub, i_addn, i_lt, i_eq, i_idx, i_vp, true_and, and_true, false_and, and_false, if_true, if_false, Nat.reduceAdd, Nat.reduceMul, Nat.reduceSub, Nat.reduceEqDiff, Option.some.injEq, exists_eq_left', true_or, or_true, false_or, or_false, not_true_eq_false, not_false_eq_true, eq_self, and_self, Nat.reduceLeDiff, decide_true, decide_false, ne_eq, Nat.left_eq_add, Nat.add_eq_left, Nat.add_left_cancel_iff, Nat.add_zero]
      refine Wp_use (M_put Z0 K (by omega)) ?_
      rintro _ h3 ⟨rfl, K3, f3⟩
      rw [lo8_of] at K3
      simp (disch := omega) only [V188, U208_135, U208_138, U208_139, U208_142, U208_143, U208_146, U208_147, U208_148, U208_151, i_add, i_mul, i_sub, i_addn, i_lt, i_eq, i_idx, i_vp, true_and, and_true, false_and, and_false, if_true, if_false, Nat.reduceAdd, Nat.reduceMul, Nat.reduceSub, Nat.reduceEqDiff, Option.some.injEq, exists_eq_left', true_or, or_true, false_or, or_false, not_true_eq_false, not_false_eq_true, eq_self, and_self, Nat.reduceLeDiff, decide_true, decide_false, ne_eq, Nat.left_eq_add, Nat.add_eq_left, Nat.add_left_cancel_iff, Nat.add_zero]
      refine ih h3 _ y (by rw [List.length_append, List.length_singleton]; omega) (f2.trans f3) K3 (fun h4 f4 K4 => go h4 f4 ?_)
      rw [List.append_assoc] at K4
      exact K4
  -- the sum's bytes
  have loopS : ∀ (Q : Rs_ → MH_ → Prop) (x : Int32) n h2 l, n ≤ 4 → Fz (SG m) h1 h2 → Mf h2 m l → l.length + n ≤ 6144 → (∀ h3 y, Fz (SG m) h1 h3 → Mf h3 m (l ++ bigB x.toInt64 n) → Wp 208 192 [.ref m, .int (Int32.ofNat w), .int (Int32.ofNat fl.length), .long (Int64.ofNat (hdT (wr w).1)), .null, .int x, .int y] [] h3 Q) → Wp 208 168 [.ref m, .int (Int32.ofNat w), .int (Int32.ofNat fl.length), .long (Int64.ofNat (hdT (wr w).1)), .null, .int x, .int (Int32.ofNat (8 * n) - Int32.ofNat 8)] [] h2 Q := by
    intro Q x n
    induction n with
    | zero =>
      intro h2 l hn f2 K hl2 go
      rw [U208_168]
      simp (disch := omega) only [U208_170, U208_173, U208_174, U208_176, U208_178, U208_179, U208_182, U208_184, U208_186, U208_187, U208_189, show Int32.ofNat (8 * 0) - Int32.ofNat 8 < Int32.ofNat 0 by decide, true_and, and_true, false_and, and_false, if_true, if_false, Nat.reduceAdd, Nat.reduceMul, Nat.reduceSub, Nat.reduceEqDiff, Option.some.injEq, exists_eq_left', true_or, or_true, false_or, or_false, not_true_eq_false, not_false_eq_true, eq_self, and_self, Nat.reduceLeDiff, decide_true, decide_false, ne_eq, Nat.left_eq_add, Nat.add_eq_left, Nat.add_left_cancel_iff, Nat.add_zero]
      exact go h2 _ f2 (by rw [show bigB x.toInt64 0 = [] from rfl, List.append_nil]; exact K)
    | succ n ih =>
      intro h2 l hn f2 K hl2 go
      obtain ⟨Z0, z16, z11, zk⟩ := st f2
      have e8 : Int32.ofNat (8 * (n + 1)) - Int32.ofNat 8 = Int32.ofNat (8 * n) := by rw [i_sub (by omega)]; congr 1
      rw [e8, U208_168]
      simp (disch := omega) only [U208_170, U208_173, U208_174, U208_176, U208_178, U208_179, U208_182, U208_184, U208_186, U208_187, U208_189, Z0.1, i_lt, show ¬ 8 * n < 0 by omega, true_and, and_true, false_and, and_false, if_true, if_false, Nat.reduceAdd, Nat.reduceMul, Nat.reduceSub, Nat.reduceEqDiff, Option.some.injEq, exists_eq_left', true_or, or_true, false_or, or_false, not_true_eq_false, not_false_eq_true, eq_self, and_self, Nat.reduceLeDiff, decide_true, decide_false, ne_eq, Nat.left_eq_add, Nat.add_eq_left, Nat.add_left_cancel_iff, Nat.add_zero]
      refine Wp_use (M_put Z0 K (by omega)) ?_
      rintro _ h3 ⟨rfl, K3, f3⟩
      rw [lo8_shr x (by omega)] at K3
      simp (disch := omega) only [V188, U208_170, U208_173, U208_174, U208_176, U208_178, U208_179, U208_182, U208_184, U208_186, U208_187, U208_189, true_and, and_true, false_and, and_false, if_true, if_false, Nat.reduceAdd, Nat.reduceMul, Nat.reduceSub, Nat.reduceEqDiff, Option.some.injEq, exists_eq_left', true_or, or_true, false_or, or_false, not_true_eq_false, not_false_eq_true, eq_self, and_self, Nat.reduceLeDiff, decide_true, decide_false, ne_eq, Nat.left_eq_add, Nat.add_eq_left, Nat.add_left_cancel_iff, Nat.add_zero]
      refine ih h3 _ (by omega) (f2.trans f3) K3 (by rw [List.length_append, List.length_singleton]; omega) (fun h4 y f4 K4 => go h4 y f4 ?_)
      rw [List.append_assoc] at K4
      exact K4
  have hw8 : (wr w).2.2 = (wr w).2.2 := rfl
  simp (disch := omega) only [V178, U208_5, U208_6, U208_9, U208_10, U208_11, U208_13, Y0.1, F1.1, i_add, i_mul, i_sub, i_addn, i_lt, i_eq, i_idx, i_vp, true_and, and_true, false_and, and_false, if_true, if_false, Nat.reduceAdd, Nat.reduceMul, Nat.reduceSub, Nat.reduceEqDiff, Option.some.injEq, exists_eq_left', true_or, or_true, false_or, or_false, not_true_eq_false, not_false_eq_true, eq_self, and_self, Nat.reduceLeDiff, decide_true, decide_false, ne_eq, Nat.left_eq_add, Nat.add_eq_left, Nat.add_left_cancel_iff, Nat.add_zero]
  refine Wp_use (M_put Y0 F1 from_) ?_
  rintro _ h2 ⟨rfl, K2, f2⟩
  rw [lo8_of, show 90 % 256 = 90 from rfl] at K2
  obtain ⟨Z0, z16, z11, zk⟩ := st f2
  simp (disch := omega) only [V188, U208_16, U208_17, U208_18, Z0.1, i_add, i_mul, i_sub, i_addn, i_lt, i_eq, i_idx, i_vp, true_and, and_true, false_and, and_false, if_true, if_false, Nat.reduceAdd, Nat.reduceMul, Nat.reduceSub, Nat.reduceEqDiff, Option.some.injEq, exists_eq_left', true_or, or_true, false_or, or_false, not_true_eq_false, not_false_eq_true, eq_self, and_self, Nat.reduceLeDiff, decide_true, decide_false, ne_eq, Nat.left_eq_add, Nat.add_eq_left, Nat.add_left_cancel_iff, Nat.add_zero]
  refine Wp_use (M_put Z0 K2 (by rw [List.length_append, List.length_singleton]; omega)) ?_
  rintro _ h3 ⟨rfl, K3, f3⟩
  rw [lo8_of, Nat.mod_eq_of_lt (show w < 256 by omega)] at K3
  have g3 := f2.trans f3
  obtain ⟨Z0', z16', z11', zk'⟩ := st g3
  simp (disch := omega) only [V188, U208_21, U208_22, U208_23, U208_26, U208_27, U208_28, U208_30, U208_31, Z0'.1, mp19 Z0', mk16 Z0', mn16 Z0', z16', hw, i_add, i_mul, i_sub, i_addn, i_lt, i_eq, i_idx, i_vp, true_and, and_true, false_and, and_false, if_true, if_false, Nat.reduceAdd, Nat.reduceMul, Nat.reduceSub, Nat.reduceEqDiff, Option.some.injEq, exists_eq_left', true_or, or_true, false_or, or_false, not_true_eq_false, not_false_eq_true, eq_self, and_self, Nat.reduceLeDiff, decide_true, decide_false, ne_eq, Nat.left_eq_add, Nat.add_eq_left, Nat.add_left_cancel_iff, Nat.add_zero]
  refine Wp_use (M_put Z0' K3 (by simp only [List.length_append, List.length_singleton]; omega)) ?_
  rintro _ h4 ⟨rfl, K4, f4⟩
  rw [lo8_8] at K4
  have g4 := g3.trans f4
  obtain ⟨V0, v16, v11, vk⟩ := st g4
  simp (disch := omega) only [V188, U208_34, U208_35, U208_36, U208_39, U208_40, U208_41, V0.1, mp19 V0, mk16 V0, mn16 V0, v16, hw, i_add, i_mul, i_sub, i_addn, i_lt, i_eq, i_idx, i_vp, true_and, and_true, false_and, and_false, if_true, if_false, Nat.reduceAdd, Nat.reduceMul, Nat.reduceSub, Nat.reduceEqDiff, Option.some.injEq, exists_eq_left', true_or, or_true, false_or, or_false, not_true_eq_false, not_false_eq_true, eq_self, and_self, Nat.reduceLeDiff, decide_true, decide_false, ne_eq, Nat.left_eq_add, Nat.add_eq_left, Nat.add_left_cancel_iff, Nat.add_zero]
  refine Wp_use (M_put V0 K4 (by simp only [List.length_append, List.length_singleton]; omega)) ?_
  rintro _ h5 ⟨rfl, K5, f5⟩
  rw [lo8_0] at K5
  have g5 := g4.trans f5
  obtain ⟨U0, u16, u11, uk⟩ := st g5
  simp (disch := omega) only [V188, U208_44, U208_45, U208_48, U208_50, U208_51, U208_52, U208_53, U208_54, U208_56, U0.1, mp14 U0, mk11 U0, mn11 U0, u11, show 120 * w < 480 by omega, i_add, i_mul, i_sub, i_addn, i_lt, i_eq, i_idx, i_vp, true_and, and_true, false_and, and_false, if_true, if_false, Nat.reduceAdd, Nat.reduceMul, Nat.reduceSub, Nat.reduceEqDiff, Option.some.injEq, exists_eq_left', true_or, or_true, false_or, or_false, not_true_eq_false, not_false_eq_true, eq_self, and_self, Nat.reduceLeDiff, decide_true, decide_false, ne_eq, Nat.left_eq_add, Nat.add_eq_left, Nat.add_left_cancel_iff, Nat.add_zero]
  have t8 := fun Q => loopT Q 8
  rw [show Int32.ofNat (8 * 8) - Int32.ofNat 8 = Int32.ofNat 56 by decide] at t8
  refine t8 _ h5 _ (by omega) g5 K5 (by simp only [List.length_append, List.length_singleton]; omega) ?_
  intro h6 y6 g6 K6
  obtain ⟨T0, t16, t11, tk⟩ := st g6
  simp (disch := omega) only [U208_86, U208_87, U208_88, U208_91, U208_93, U208_94, T0.1, tk.1, i_add, i_mul, i_sub, i_addn, i_lt, i_eq, i_idx, i_vp, true_and, and_true, false_and, and_false, if_true, if_false, Nat.reduceAdd, Nat.reduceMul, Nat.reduceSub, Nat.reduceEqDiff, Option.some.injEq, exists_eq_left', true_or, or_true, false_or, or_false, not_true_eq_false, not_false_eq_true, eq_self, and_self, Nat.reduceLeDiff, decide_true, decide_false, ne_eq, Nat.left_eq_add, Nat.add_eq_left, Nat.add_left_cancel_iff, Nat.add_zero]
  refine Wp_use (M_put T0 K6 (by simp only [List.length_append, List.length_singleton, bigB_len]; omega)) ?_
  rintro _ h7 ⟨rfl, K7, f7⟩
  rw [lo8_8] at K7
  have g7 := g6.trans f7
  obtain ⟨R0, r16, r11, rk⟩ := st g7
  simp (disch := omega) only [V188, U208_97, U208_98, U208_99, U208_102, R0.1, rk.1, i_add, i_mul, i_sub, i_addn, i_lt, i_eq, i_idx, i_vp, true_and, and_true, false_and, and_false, if_true, if_false, Nat.reduceAdd, Nat.reduceMul, Nat.reduceSub, Nat.reduceEqDiff, Option.some.injEq, exists_eq_left', true_or, or_true, false_or, or_false, not_true_eq_false, not_false_eq_true, eq_self, and_self, Nat.reduceLeDiff, decide_true, decide_false, ne_eq, Nat.left_eq_add, Nat.add_eq_left, Nat.add_left_cancel_iff, Nat.add_zero]
  refine Wp_use (M_put R0 K7 (by simp only [List.length_append, List.length_singleton, bigB_len]; omega)) ?_
  rintro _ h8 ⟨rfl, K8, f8⟩
  rw [lo8_0] at K8
  have g8 := g7.trans f8
  simp (disch := omega) only [V188, U208_105, U208_106, i_add, i_mul, i_sub, i_addn, i_lt, i_eq, i_idx, i_vp, true_and, and_true, false_and, and_false, if_true, if_false, Nat.reduceAdd, Nat.reduceMul, Nat.reduceSub, Nat.reduceEqDiff, Option.some.injEq, exists_eq_left', true_or, or_true, false_or, or_false, not_true_eq_false, not_false_eq_true, eq_self, and_self, Nat.reduceLeDiff, decide_true, decide_false, ne_eq, Nat.left_eq_add, Nat.add_eq_left, Nat.add_left_cancel_iff, Nat.add_zero]
  refine loopE _ ev.length 0 h8 _ (by omega) g8 K8 (by simp only [List.length_append, List.length_singleton, bigB_len]; omega) ?_
  intro h9 y9 g9 K9
  rw [List.drop_zero] at K9
  refine loopZ _ (238 - ev.length) h9 _ y9 (by simp only [List.length_append, List.length_singleton, bigB_len]; omega) g9 K9 ?_
  intro h10 g10 K10
  obtain ⟨P0, q16, q11, qk⟩ := st g10
  have eL : fl ++ [90] ++ [w] ++ [by64 (Int32.ofNat (wr w).2.2).toInt64 1] ++ [by64 (Int32.ofNat (wr w).2.2).toInt64 0] ++ bigB (Int64.ofNat (hdT (wr w).1)) 8 ++ [by64 (Int32.ofNat ev.length).toInt64 1] ++ [by64 (Int32.ofNat ev.length).toInt64 0] ++ ev ++ List.replicate (238 - ev.length) 0 = fl ++ bdy w (wr w).2.2 (Int64.ofNat (hdT (wr w).1)) ev := by
    unfold bdy
    simp only [List.append_assoc, List.cons_append, List.nil_append, big2]
  have K10 : Mf h10 m (fl ++ bdy w (wr w).2.2 (Int64.ofNat (hdT (wr w).1)) ev) := by rw [← eL]; exact K10
  have bl := bdy_len (w := w) (o := (wr w).2.2) (ft := Int64.ofNat (hdT (wr w).1)) hev
  have hsum := Mf_sum K10 bl
  simp (disch := omega) only [U208_154, U208_155, U208_158, U208_159, U208_162, U208_164, U208_166, P0.1, mp23 P0, M_sum (mk18 P0) (show fl.length + 252 ≤ ln_ h10 (m + 18) by rw [mn18 P0]; omega) (show fl.length < 1000000 by omega), V201, hsum, i_add, i_mul, i_sub, i_addn, i_lt, i_eq, i_idx, i_vp, true_and, and_true, false_and, and_false, if_true, if_false, Nat.reduceAdd, Nat.reduceMul, Nat.reduceSub, Nat.reduceEqDiff, Option.some.injEq, exists_eq_left', true_or, or_true, false_or, or_false, not_true_eq_false, not_false_eq_true, eq_self, and_self, Nat.reduceLeDiff, decide_true, decide_false, ne_eq, Nat.left_eq_add, Nat.add_eq_left, Nat.add_left_cancel_iff, Nat.add_zero]
  have s4 := fun Q => loopS Q (smB (bdy w (wr w).2.2 (Int64.ofNat (hdT (wr w).1)) ev)) 4
  rw [show Int32.ofNat (8 * 4) - Int32.ofNat 8 = Int32.ofNat 24 by decide] at s4
  refine s4 _ h10 _ (by omega) g10 K10 (by rw [List.length_append, bl]; omega) ?_
  intro h11 y11 g11 K11
  obtain ⟨O0, o16, o11, okk⟩ := st g11
  simp (disch := omega) only [U208_192, U208_193, U208_196, U208_197, U208_198, U208_199, U208_200, U208_201, U208_202, U208_203, U208_206, U208_207, U208_208, U208_209, z_kd_sI, z_gP_sI, z_ln_sI, O0.1, mp19 O0, mk16 O0, mn16 O0, mp12 O0, mk9 O0, mn9 O0, o16, hw, i_add, i_mul, i_sub, i_addn, i_lt, i_eq, i_idx, i_vp, true_and, and_true, false_and, and_false, if_true, if_false, Nat.reduceAdd, Nat.reduceMul, Nat.reduceSub, Nat.reduceEqDiff, Option.some.injEq, exists_eq_left', true_or, or_true, false_or, or_false, not_true_eq_false, not_false_eq_true, eq_self, and_self, Nat.reduceLeDiff, decide_true, decide_false, ne_eq, Nat.left_eq_add, Nat.add_eq_left, Nat.add_left_cancel_iff, Nat.add_zero]
  have f12 : Fz (fun a i => (a = m + 9 ∨ a = m + 16) ∧ i = w) h11 (sI_ (sI_ h11 (m + 16) w (Int32.ofNat ((wr w).2.2 + 1))) (m + 9) w (Int32.ofNat 0)) := (Fz.rfl'.sI ⟨Or.inr rfl, rfl⟩).sI ⟨Or.inl rfl, rfl⟩
  refine ⟨⟨by rw [f12.gI (by omega)]; rw [List.append_assoc] at K11; unfold bkW blk; rw [hE]; exact K11.1, fun i hi => ?_, ?_⟩, ?_, ?_, ?_⟩
  · rw [f12.gI (by omega)]
    rw [List.append_assoc] at K11
    unfold bkW blk at hi ⊢
    rw [hE] at hi ⊢
    exact K11.2.1 i hi
  · rw [List.append_assoc] at K11
    unfold bkW blk
    rw [hE]
    exact K11.2.2
  · rw [z_gI_sI, if_pos ⟨rfl, rfl⟩]
  · rw [z_gI_sI, if_neg (by omega), z_gI_sI, if_pos ⟨rfl, rfl⟩]
  · exact ((f1.mono (fun a i z => Or.inl z)).trans (g11.mono (fun a i z => Or.inr (Or.inl z)))).trans (f12.mono (fun a i z => Or.inr (Or.inr z)))
end
