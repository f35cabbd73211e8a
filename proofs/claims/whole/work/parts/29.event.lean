/-! ===== Event ===== -/
/-- an argument: a number, or a text -/
abbrev Arg : Type := Int32 ⊕ List Nat
def nv : Arg → Int32
  | .inl x => x
  | .inr t => Int32.ofNat t.length
def EC (h : MH_) (e i : Nat) (a : Arg) : Prop := match a with
  | .inl x => gI_ h (e + 1) i = Int32.ofNat 0 ∧ gI_ h (e + 2) i = x
  | .inr t => gI_ h (e + 1) i = Int32.ofNat 1 ∧ gI_ h (e + 2) i = Int32.ofNat t.length ∧ t.length ≤ 16 ∧ (∀ k, k < t.length → gI_ h (e + 3) (i * 16 + k) = b8 (t.getD k 0)) ∧ ∀ b ∈ t, b < 256
/-- what an event is made of -/
def Es (h : MH_) (e : Nat) : Prop := kd_ h e = 2 ∧ gP_ h e 0 = some (e + 1) ∧ gP_ h e 1 = some (e + 2) ∧ gP_ h e 2 = some (e + 3) ∧ kd_ h (e + 1) = 32 ∧ ln_ h (e + 1) = 6 ∧ kd_ h (e + 2) = 30 ∧ ln_ h (e + 2) = 6 ∧ kd_ h (e + 3) = 31 ∧ ln_ h (e + 3) = 96
def Ea (h : MH_) (e : Nat) (as : List Arg) : Prop := Es h e ∧ as.length ≤ 6 ∧ gI_ h e 3 = Int32.ofNat as.length ∧ ∀ i (hi : i < as.length), EC h e i as[i]
def SE (e : Nat) : Nat → Nat → Prop := fun a i => (a = e ∧ i = 3) ∨ a = e + 1 ∨ a = e + 2 ∨ a = e + 3
theorem Es.fz {S : Nat → Nat → Prop} {h h' : MH_} {e : Nat} (he : Es h e) (f : Fz S h h') : Es h' e := by
  obtain ⟨a1, a2, a3, a4, a5, a6, a7, a8, a9, a10⟩ := he
  exact ⟨by rw [f.kd, a1], by rw [f.gP, a2], by rw [f.gP, a3], by rw [f.gP, a4], by rw [f.kd, a5], by rw [f.ln, a6], by rw [f.kd, a7], by rw [f.ln, a8], by rw [f.kd, a9], by rw [f.ln, a10]⟩
theorem EC.fz {S : Nat → Nat → Prop} {h h' : MH_} {e i : Nat} {a : Arg} (hc : EC h e i a) (f : Fz S h h') (h1 : ¬ S (e + 1) i) (h2 : ¬ S (e + 2) i) (h3 : ∀ k, k < 16 → ¬ S (e + 3) (i * 16 + k)) : EC h' e i a := by
  cases a with
  | inl x => exact ⟨by rw [f.gI h1]; exact hc.1, by rw [f.gI h2]; exact hc.2⟩
  | inr t =>
    obtain ⟨c1, c2, c3, c4, c5⟩ := hc
    exact ⟨by rw [f.gI h1, c1], by rw [f.gI h2, c2], c3, fun k hk => by rw [f.gI (h3 k (by omega)), c4 k hk], c5⟩
theorem Ea.fz {S : Nat → Nat → Prop} {h h' : MH_} {e : Nat} {as : List Arg} (he : Ea h e as) (f : Fz S h h') (hs : ∀ a i, SE e a i → ¬ S a i) : Ea h' e as :=
  ⟨he.1.fz f, he.2.1, by rw [f.gI (hs _ _ (Or.inl ⟨rfl, rfl⟩)), he.2.2.1], fun i hi => (he.2.2.2 i hi).fz f (hs _ _ (Or.inr (Or.inl rfl))) (hs _ _ (Or.inr (Or.inr (Or.inl rfl)))) (fun k _ => hs _ _ (Or.inr (Or.inr (Or.inr rfl))))⟩
theorem Event_begin {h : MH_} {e : Nat} (he : Es h e) : Wp 13 0 [.ref e] [] h (fun v h' => v = .inl .null ∧ Ea h' e [] ∧ Fz (fun a i => a = e ∧ i = 3) h h') := by
  simp (disch := omega) only [U13_0, U13_1, U13_2, U13_5, z_kd_sI, z_ln_sI, z_gI_sI, z_gJ_sI, z_gP_sI, z_nx_sI, z_rc_sI, z_rs_sI, z_em_sI, z_mi_sI, z_kd_sJ, z_ln_sJ, z_gI_sJ, z_gJ_sJ, z_gP_sJ, z_nx_sJ, z_rc_sJ, z_rs_sJ, z_em_sJ, z_mi_sJ, z_kd_sP, z_ln_sP, z_gI_sP, z_gJ_sP, z_gP_sP, z_nx_sP, z_rc_sP, z_rs_sP, z_em_sP, z_mi_sP, z_kd_nw, z_ln_nw, z_gI_nw, z_gJ_nw, z_gP_nw, z_nx_nw, z_rc_nw, z_rs_nw, z_em_nw, z_mi_nw, z_kd_cI, z_ln_cI, z_gI_cI, z_gJ_cI, z_gP_cI, z_nx_cI, z_rc_cI, z_rs_cI, z_em_cI, z_mi_cI, z_kd_cP, z_ln_cP, z_gI_cP, z_gJ_cP, z_gP_cP, z_nx_cP, z_rc_cP, z_rs_cP, z_em_cP, z_mi_cP, z_kd_wI, z_ln_wI, z_gI_wI, z_gJ_wI, z_gP_wI, z_nx_wI, z_rc_wI, z_rs_wI, z_em_wI, z_mi_wI, z_kd_wJ, z_ln_wJ, z_gI_wJ, z_gJ_wJ, z_gP_wJ, z_nx_wJ, z_rc_wJ, z_rs_wJ, z_em_wJ, z_mi_wJ, he.1, i_add, i_mul, i_sub, i_addn, i_lt, i_eq, i_idx, i_vp, true_and, and_true, false_and, and_false, if_true, if_false, Nat.reduceAdd, Nat.reduceMul, Nat.reduceSub, Nat.reduceEqDiff, Option.some.injEq, exists_eq_left', true_or, or_true, false_or, or_false, not_true_eq_false, not_false_eq_true, eq_self, and_self, Nat.reduceLeDiff, decide_true, decide_false, ne_eq, Nat.left_eq_add, Nat.add_eq_left, Nat.add_left_cancel_iff, Nat.add_zero]
  have f : Fz (fun a i => a = e ∧ i = 3) h (sI_ h e 3 (Int32.ofNat 0)) := Fz.rfl'.sI ⟨rfl, rfl⟩
  exact ⟨⟨he.fz f, Nat.zero_le _, by rw [z_gI_sI, if_pos ⟨rfl, rfl⟩]; rfl, fun i hi => absurd hi (Nat.not_lt_zero _)⟩, f⟩
theorem Event_held {h : MH_} {e : Nat} {as : List Arg} {Q : Rs_ → MH_ → Prop} (he : Ea h e as) : Wp 16 0 [.ref e] [] h Q ↔ Q (.inl (.int (Int32.ofNat as.length))) h := by
  simp (disch := omega) only [U16_0, U16_1, U16_4, he.1.1, he.2.2.1, i_add, i_mul, i_sub, i_addn, i_lt, i_eq, i_idx, i_vp, true_and, and_true, false_and, and_false, if_true, if_false, Nat.reduceAdd, Nat.reduceMul, Nat.reduceSub, Nat.reduceEqDiff, Option.some.injEq, exists_eq_left', true_or, or_true, false_or, or_false, not_true_eq_false, not_false_eq_true, eq_self, and_self, Nat.reduceLeDiff, decide_true, decide_false, ne_eq, Nat.left_eq_add, Nat.add_eq_left, Nat.add_left_cancel_iff, Nat.add_zero]
theorem Event_isFull {h : MH_} {e : Nat} {as : List Arg} {Q : Rs_ → MH_ → Prop} (he : Ea h e as) : Wp 18 0 [.ref e] [] h Q ↔ Q (.inl (.int (bz (as.length = 6)))) h := by
  have h6 := he.2.1
  simp (disch := omega) only [U18_0, U18_1, U18_4, U18_6, U18_9, U18_10, U18_13, U18_14, he.1.1, he.2.2.1, i_add, i_mul, i_sub, i_addn, i_lt, i_eq, i_idx, i_vp, true_and, and_true, false_and, and_false, if_true, if_false, Nat.reduceAdd, Nat.reduceMul, Nat.reduceSub, Nat.reduceEqDiff, Option.some.injEq, exists_eq_left', true_or, or_true, false_or, or_false, not_true_eq_false, not_false_eq_true, eq_self, and_self, Nat.reduceLeDiff, decide_true, decide_false, ne_eq, Nat.left_eq_add, Nat.add_eq_left, Nat.add_left_cancel_iff, Nat.add_zero]
  by_cases hl : as.length = 6
  · simp only [show ¬ as.length < 6 by omega, if_false, bz_t hl]
  · simp only [show as.length < 6 by omega, if_true, bz_f hl]
theorem Math_min {h : MH_} {a b : Nat} {Q : Rs_ → MH_ → Prop} (ha : a < 2147483648) (hb : b < 2147483648) : Wp 227 0 [.int (Int32.ofNat a), .int (Int32.ofNat b)] [] h Q ↔ Q (.inl (.int (Int32.ofNat (min a b)))) h := by
  simp (disch := omega) only [U227_0, U227_1, U227_2, U227_5, U227_6, U227_9, U227_10, i_add, i_mul, i_sub, i_addn, i_lt, i_eq, i_idx, i_vp, true_and, and_true, false_and, and_false, if_true, if_false, Nat.reduceAdd, Nat.reduceMul, Nat.reduceSub, Nat.reduceEqDiff, Option.some.injEq, exists_eq_left', true_or, or_true, false_or, or_false, not_true_eq_false, not_false_eq_true, eq_self, and_self, Nat.reduceLeDiff, decide_true, decide_false, ne_eq, Nat.left_eq_add, Nat.add_eq_left, Nat.add_left_cancel_iff, Nat.add_zero]
  by_cases hl : b < a
  · simp only [hl, if_true, Nat.min_eq_right (show b ≤ a by omega)]
  · simp only [hl, if_false, Nat.min_eq_left (show a ≤ b by omega)]
theorem Math_max {h : MH_} {a b : Nat} {Q : Rs_ → MH_ → Prop} (ha : a < 2147483648) (hb : b < 2147483648) : Wp 226 0 [.int (Int32.ofNat a), .int (Int32.ofNat b)] [] h Q ↔ Q (.inl (.int (Int32.ofNat (max a b)))) h := by
  simp (disch := omega) only [U226_0, U226_1, U226_2, U226_5, U226_6, U226_9, U226_10, i_add, i_mul, i_sub, i_addn, i_lt, i_eq, i_idx, i_vp, true_and, and_true, false_and, and_false, if_true, if_false, Nat.reduceAdd, Nat.reduceMul, Nat.reduceSub, Nat.reduceEqDiff, Option.some.injEq, exists_eq_left', true_or, or_true, false_or, or_false, not_true_eq_false, not_false_eq_true, eq_self, and_self, Nat.reduceLeDiff, decide_true, decide_false, ne_eq, Nat.left_eq_add, Nat.add_eq_left, Nat.add_left_cancel_iff, Nat.add_zero]
  by_cases hl : a < b
  · simp only [hl, if_true, Nat.max_eq_right (show a ≤ b by omega)]
  · simp only [hl, if_false, Nat.max_eq_left (show b ≤ a by omega)]
theorem Ea.add {h h' : MH_} {e : Nat} {as : List Arg} {a : Arg} (he : Ea h e as) (f : Fz (SE e) h h') (hl : as.length < 6) (hu : gI_ h' e 3 = Int32.ofNat (as.length + 1)) (hc : EC h' e as.length a) (ho : ∀ i, i < as.length → gI_ h' (e + 1) i = gI_ h (e + 1) i ∧ gI_ h' (e + 2) i = gI_ h (e + 2) i ∧ ∀ k, k < 16 → gI_ h' (e + 3) (i * 16 + k) = gI_ h (e + 3) (i * 16 + k)) : Ea h' e (as ++ [a]) := by
  refine ⟨he.1.fz f, by rw [List.length_append]; exact hl, by rw [List.length_append]; exact hu, fun i hi => ?_⟩
  rw [List.length_append, List.length_singleton] at hi
  by_cases h1 : i < as.length
  · rw [List.getElem_append_left h1]
    have c := he.2.2.2 i h1
    obtain ⟨o1, o2, o3⟩ := ho i h1
    revert c
    cases as[i] with
    | inl x => intro c; exact ⟨o1.trans c.1, o2.trans c.2⟩
    | inr t => intro c; exact ⟨o1.trans c.1, o2.trans c.2.1, c.2.2.1, fun k hk => (o3 k (by have := c.2.2.1; omega)).trans (c.2.2.2.1 k hk), c.2.2.2.2⟩
  · have h2 : i = as.length := by omega
    subst h2
    rw [List.getElem_append_right (Nat.le_refl _)]
    simp only [Nat.sub_self, List.getElem_cons_zero]
    exact hc
theorem Event_addNumber {h : MH_} {e : Nat} {as : List Arg} {x : Int32} (he : Ea h e as) (hl : as.length < 6) : Wp 11 0 [.ref e, .int x] [] h (fun v h' => v = .inl .null ∧ Ea h' e (as ++ [.inl x]) ∧ Fz (SE e) h h') := by
  have he' := he
  obtain ⟨⟨a1, a2, a3, a4, a5, a6, a7, a8, a9, a10⟩, b1, b2, b3⟩ := he
  simp (disch := omega) only [U11_0, U11_1, U11_4, U11_7, U11_8, U11_9, U11_12, U11_13, U11_16, U11_17, U11_18, U11_19, U11_22, U11_23, U11_26, U11_27, U11_28, U11_29, U11_30, U11_33, U11_34, U11_35, U11_38, Event_isFull he', V18, bz_0, z_kd_sI, z_ln_sI, z_gI_sI, z_gJ_sI, z_gP_sI, z_nx_sI, z_rc_sI, z_rs_sI, z_em_sI, z_mi_sI, z_kd_sJ, z_ln_sJ, z_gI_sJ, z_gJ_sJ, z_gP_sJ, z_nx_sJ, z_rc_sJ, z_rs_sJ, z_em_sJ, z_mi_sJ, z_kd_sP, z_ln_sP, z_gI_sP, z_gJ_sP, z_gP_sP, z_nx_sP, z_rc_sP, z_rs_sP, z_em_sP, z_mi_sP, z_kd_nw, z_ln_nw, z_gI_nw, z_gJ_nw, z_gP_nw, z_nx_nw, z_rc_nw, z_rs_nw, z_em_nw, z_mi_nw, z_kd_cI, z_ln_cI, z_gI_cI, z_gJ_cI, z_gP_cI, z_nx_cI, z_rc_cI, z_rs_cI, z_em_cI, z_mi_cI, z_kd_cP, z_ln_cP, z_gI_cP, z_gJ_cP, z_gP_cP, z_nx_cP, z_rc_cP, z_rs_cP, z_em_cP, z_mi_cP, z_kd_wI, z_ln_wI, z_gI_wI, z_gJ_wI, z_gP_wI, z_nx_wI, z_rc_wI, z_rs_wI, z_em_wI, z_mi_wI, z_kd_wJ, z_ln_wJ, z_gI_wJ, z_gJ_wJ, z_gP_wJ, z_nx_wJ, z_rc_wJ, z_rs_wJ, z_em_wJ, z_mi_wJ, a1, a2, a3, a4, a5, a6, a7, a8, b2, hl, show ¬ as.length = 6 by omega, i_add, i_mul, i_sub, i_addn, i_lt, i_eq, i_idx, i_vp, true_and, and_true, false_and, and_false, if_true, if_false, Nat.reduceAdd, Nat.reduceMul, Nat.reduceSub, Nat.reduceEqDiff, Option.some.injEq, exists_eq_left', true_or, or_true, false_or, or_false, not_true_eq_false, not_false_eq_true, eq_self, and_self, Nat.reduceLeDiff, decide_true, decide_false, ne_eq, Nat.left_eq_add, Nat.add_eq_left, Nat.add_left_cancel_iff, Nat.add_zero]
  have f : Fz (SE e) h (sI_ (sI_ (sI_ h (e + 1) as.length (Int32.ofNat 0)) (e + 2) as.length x) e 3 (Int32.ofNat (as.length + 1))) := ((Fz.rfl'.sI (Or.inr (Or.inl rfl))).sI (Or.inr (Or.inr (Or.inl rfl)))).sI (Or.inl ⟨rfl, rfl⟩)
  refine ⟨he'.add f hl (by rw [z_gI_sI, if_pos ⟨rfl, rfl⟩]) ⟨?_, ?_⟩ (fun i hi => ⟨?_, ?_, fun k hk => ?_⟩), f⟩
  · rw [z_gI_sI, if_neg (by omega), z_gI_sI, if_neg (by omega), z_gI_sI, if_pos ⟨rfl, rfl⟩]
  · rw [z_gI_sI, if_neg (by omega), z_gI_sI, if_pos ⟨rfl, rfl⟩]
  · rw [z_gI_sI, if_neg (by omega), z_gI_sI, if_neg (by omega), z_gI_sI, if_neg (by omega)]
  · rw [z_gI_sI, if_neg (by omega), z_gI_sI, if_neg (by omega), z_gI_sI, if_neg (by omega)]
  · rw [z_gI_sI, if_neg (by omega), z_gI_sI, if_neg (by omega), z_gI_sI, if_neg (by omega)]
/-- a stretch of a row -/
def cut (l : List Nat) (p n : Nat) : List Nat := (List.range n).map (fun k => l.getD (p + k) 0)
theorem cut_len {l : List Nat} {p n : Nat} : (cut l p n).length = n := by unfold cut; rw [List.length_map, List.length_range]
theorem cut_at {l : List Nat} {p n k : Nat} (h : k < n) : (cut l p n).getD k 0 = l.getD (p + k) 0 := by
  rw [gD_in (by rw [cut_len]; exact h)]
  unfold cut
  rw [List.getElem_map, List.getElem_range]
theorem Event_addText {h : MH_} {e r c p n : Nat} {as : List Arg} {l : List Nat} (he : Ea h e as) (hr : Rw h r c l) (hl : as.length < 6) (hn : n ≤ 16) (hp : p < 1000000) (ap : r + 2 ≤ e ∨ e + 4 ≤ r) : Wp 12 0 [.ref e, .ref r, .int (Int32.ofNat p), .int (Int32.ofNat n), .null] [] h (fun v h' => v = .inl .null ∧ Ea h' e (as ++ [.inr (cut l p n)]) ∧ Fz (SE e) h h') := by
  have he' := he
  obtain ⟨⟨a1, a2, a3, a4, a5, a6, a7, a8, a9, a10⟩, b1, b2, b3⟩ := he
  have key : ∀ j k u, k + j = n → Fz (SE e) h u → gI_ u e 3 = Int32.ofNat as.length → gI_ u (e + 1) as.length = Int32.ofNat 1 → gI_ u (e + 2) as.length = Int32.ofNat n → (∀ q, q < k → gI_ u (e + 3) (as.length * 16 + q) = b8 (l.getD (p + q) 0)) → (∀ i, i < as.length → gI_ u (e + 1) i = gI_ h (e + 1) i ∧ gI_ u (e + 2) i = gI_ h (e + 2) i ∧ ∀ k, k < 16 → gI_ u (e + 3) (i * 16 + k) = gI_ h (e + 3) (i * 16 + k)) →
      Wp 12 36 [.ref e, .ref r, .int (Int32.ofNat p), .int (Int32.ofNat n), .int (Int32.ofNat k)] [] u (fun v h' => v = .inl .null ∧ Ea h' e (as ++ [.inr (cut l p n)]) ∧ Fz (SE e) h h') := by
    intro j
    induction j with
    | zero =>
      intro k u hk f u3 u1 u2 uk uo
      have g1 : Es u e := he'.1.fz f
      obtain ⟨g1, g2, g3, g4, g5, g6, g7, g8, g9, g10⟩ := g1
      rw [U12_36]
      simp (disch := omega) only [U12_0, U12_1, U12_4, U12_7, U12_8, U12_9, U12_12, U12_13, U12_16, U12_17, U12_18, U12_19, U12_22, U12_23, U12_26, U12_27, U12_29, U12_32, U12_33, U12_34, U12_38, U12_39, U12_42, U12_43, U12_46, U12_47, U12_50, U12_51, U12_54, U12_55, U12_58, U12_60, U12_61, U12_63, U12_64, U12_65, U12_66, U12_68, U12_69, U12_72, U12_73, U12_74, U12_77, U12_80, U12_81, U12_82, U12_85, U12_86, U12_87, U12_90, z_kd_sI, z_ln_sI, z_gI_sI, z_gJ_sI, z_gP_sI, z_nx_sI, z_rc_sI, z_rs_sI, z_em_sI, z_mi_sI, z_kd_sJ, z_ln_sJ, z_gI_sJ, z_gJ_sJ, z_gP_sJ, z_nx_sJ, z_rc_sJ, z_rs_sJ, z_em_sJ, z_mi_sJ, z_kd_sP, z_ln_sP, z_gI_sP, z_gJ_sP, z_gP_sP, z_nx_sP, z_rc_sP, z_rs_sP, z_em_sP, z_mi_sP, z_kd_nw, z_ln_nw, z_gI_nw, z_gJ_nw, z_gP_nw, z_nx_nw, z_rc_nw, z_rs_nw, z_em_nw, z_mi_nw, z_kd_cI, z_ln_cI, z_gI_cI, z_gJ_cI, z_gP_cI, z_nx_cI, z_rc_cI, z_rs_cI, z_em_cI, z_mi_cI, z_kd_cP, z_ln_cP, z_gI_cP, z_gJ_cP, z_gP_cP, z_nx_cP, z_rc_cP, z_rs_cP, z_em_cP, z_mi_cP, z_kd_wI, z_ln_wI, z_gI_wI, z_gJ_wI, z_gP_wI, z_nx_wI, z_rc_wI, z_rs_wI, z_em_wI, z_mi_wI, z_kd_wJ, z_ln_wJ, z_gI_wJ, z_gJ_wJ, z_gP_wJ, z_nx_wJ, z_rc_wJ, z_rs_wJ, z_em_wJ, z_mi_wJ, g1, g2, g3, g4, g5, g6, g7, g8, u3, u2, hl, show ¬ k < n by omega, i_add, i_mul, i_sub, i_addn, i_lt, i_eq, i_idx, i_vp, true_and, and_true, false_and, and_false, if_true, if_false, Nat.reduceAdd, Nat.reduceMul, Nat.reduceSub, Nat.reduceEqDiff, Option.some.injEq, exists_eq_left', true_or, or_true, false_or, or_false, not_true_eq_false, not_false_eq_true, eq_self, and_self, Nat.reduceLeDiff, decide_true, decide_false, ne_eq, Nat.left_eq_add, Nat.add_eq_left, Nat.add_left_cancel_iff, Nat.add_zero]
      have f' : Fz (SE e) h (sI_ u e 3 (Int32.ofNat (as.length + 1))) := f.sI (Or.inl ⟨rfl, rfl⟩)
      refine ⟨he'.add f' hl (by rw [z_gI_sI, if_pos ⟨rfl, rfl⟩]) ⟨?_, ?_, by rw [cut_len]; exact hn, fun q hq => ?_, ?_⟩ (fun i hi => ?_), f'⟩
      · rw [z_gI_sI, if_neg (by omega), u1]
      · rw [z_gI_sI, if_neg (by omega), u2, cut_len]
      · rw [cut_len] at hq
        rw [z_gI_sI, if_neg (by omega), uk q (by omega), cut_at hq]
      · intro b hb
        unfold cut at hb
        obtain ⟨q, -, rfl⟩ := List.mem_map.mp hb
        exact hr.lt _
      · obtain ⟨o1, o2, o3⟩ := uo i hi
        exact ⟨by rw [z_gI_sI, if_neg (by omega), o1], by rw [z_gI_sI, if_neg (by omega), o2], fun k hk => by rw [z_gI_sI, if_neg (by omega), o3 k hk]⟩
    | succ j ih =>
      intro k u hk f u3 u1 u2 uk uo
      have g1 : Es u e := he'.1.fz f
      obtain ⟨g1, g2, g3, g4, g5, g6, g7, g8, g9, g10⟩ := g1
      have hr1 : Rw u r c l := hr.fz f (by unfold SR SE; intro a i z1 z2; omega)
      rw [U12_36]
      simp (disch := omega) only [U12_0, U12_1, U12_4, U12_7, U12_8, U12_9, U12_12, U12_13, U12_16, U12_17, U12_18, U12_19, U12_22, U12_23, U12_26, U12_27, U12_29, U12_32, U12_33, U12_34, U12_38, U12_39, U12_42, U12_43, U12_46, U12_47, U12_50, U12_51, U12_54, U12_55, U12_58, U12_60, U12_61, U12_63, U12_64, U12_65, U12_66, U12_68, U12_69, U12_72, U12_73, U12_74, U12_77, U12_80, U12_81, U12_82, U12_85, U12_86, U12_87, U12_90, Row_at hr1, V85, z_kd_sI, z_ln_sI, z_gI_sI, z_gJ_sI, z_gP_sI, z_nx_sI, z_rc_sI, z_rs_sI, z_em_sI, z_mi_sI, z_kd_sJ, z_ln_sJ, z_gI_sJ, z_gJ_sJ, z_gP_sJ, z_nx_sJ, z_rc_sJ, z_rs_sJ, z_em_sJ, z_mi_sJ, z_kd_sP, z_ln_sP, z_gI_sP, z_gJ_sP, z_gP_sP, z_nx_sP, z_rc_sP, z_rs_sP, z_em_sP, z_mi_sP, z_kd_nw, z_ln_nw, z_gI_nw, z_gJ_nw, z_gP_nw, z_nx_nw, z_rc_nw, z_rs_nw, z_em_nw, z_mi_nw, z_kd_cI, z_ln_cI, z_gI_cI, z_gJ_cI, z_gP_cI, z_nx_cI, z_rc_cI, z_rs_cI, z_em_cI, z_mi_cI, z_kd_cP, z_ln_cP, z_gI_cP, z_gJ_cP, z_gP_cP, z_nx_cP, z_rc_cP, z_rs_cP, z_em_cP, z_mi_cP, z_kd_wI, z_ln_wI, z_gI_wI, z_gJ_wI, z_gP_wI, z_nx_wI, z_rc_wI, z_rs_wI, z_em_wI, z_mi_wI, z_kd_wJ, z_ln_wJ, z_gI_wJ, z_gJ_wJ, z_gP_wJ, z_nx_wJ, z_rc_wJ, z_rs_wJ, z_em_wJ, z_mi_wJ, g1, g2, g3, g4, g5, g6, g7, g8, g9, g10, u3, u2, hr1.1, hl, show k < n by omega, show as.length * 16 + k < 96 by omega, Int8.toInt8_toInt32, i_add, i_mul, i_sub, i_addn, i_lt, i_eq, i_idx, i_vp, true_and, and_true, false_and, and_false, if_true, if_false, Nat.reduceAdd, Nat.reduceMul, Nat.reduceSub, Nat.reduceEqDiff, Option.some.injEq, exists_eq_left', true_or, or_true, false_or, or_false, not_true_eq_false, not_false_eq_true, eq_self, and_self, Nat.reduceLeDiff, decide_true, decide_false, ne_eq, Nat.left_eq_add, Nat.add_eq_left, Nat.add_left_cancel_iff, Nat.add_zero]
      rw [show (Int32.ofNat (l.getD (p + k) 0)).toInt8.toInt32 = b8 (l.getD (p + k) 0) from rfl]
      refine ih (k + 1) _ (by omega) (f.sI (Or.inr (Or.inr (Or.inr rfl)))) ?_ ?_ ?_ ?_ ?_
      · rw [z_gI_sI, if_neg (by omega), u3]
      · rw [z_gI_sI, if_neg (by omega), u1]
      · rw [z_gI_sI, if_neg (by omega), u2]
      · intro q hq
        rw [z_gI_sI]
        by_cases hqk : q = k
        · subst hqk; rw [if_pos ⟨rfl, rfl⟩]
        · rw [if_neg (by omega), uk q (by omega)]
      · intro i hi
        obtain ⟨o1, o2, o3⟩ := uo i hi
        exact ⟨by rw [z_gI_sI, if_neg (by omega), o1], by rw [z_gI_sI, if_neg (by omega), o2], fun q hq => by rw [z_gI_sI, if_neg (by omega), o3 q hq]⟩
  simp (disch := omega) only [U12_0, U12_1, U12_4, U12_7, U12_8, U12_9, U12_12, U12_13, U12_16, U12_17, U12_18, U12_19, U12_22, U12_23, U12_26, U12_27, U12_29, U12_32, U12_33, U12_34, U12_38, U12_39, U12_42, U12_43, U12_46, U12_47, U12_50, U12_51, U12_54, U12_55, U12_58, U12_60, U12_61, U12_63, U12_64, U12_65, U12_66, U12_68, U12_69, U12_72, U12_73, U12_74, U12_77, U12_80, U12_81, U12_82, U12_85, U12_86, U12_87, U12_90, Event_isFull he', V18, Math_min, V227, Nat.min_eq_left hn, bz_0, z_kd_sI, z_ln_sI, z_gI_sI, z_gJ_sI, z_gP_sI, z_nx_sI, z_rc_sI, z_rs_sI, z_em_sI, z_mi_sI, z_kd_sJ, z_ln_sJ, z_gI_sJ, z_gJ_sJ, z_gP_sJ, z_nx_sJ, z_rc_sJ, z_rs_sJ, z_em_sJ, z_mi_sJ, z_kd_sP, z_ln_sP, z_gI_sP, z_gJ_sP, z_gP_sP, z_nx_sP, z_rc_sP, z_rs_sP, z_em_sP, z_mi_sP, z_kd_nw, z_ln_nw, z_gI_nw, z_gJ_nw, z_gP_nw, z_nx_nw, z_rc_nw, z_rs_nw, z_em_nw, z_mi_nw, z_kd_cI, z_ln_cI, z_gI_cI, z_gJ_cI, z_gP_cI, z_nx_cI, z_rc_cI, z_rs_cI, z_em_cI, z_mi_cI, z_kd_cP, z_ln_cP, z_gI_cP, z_gJ_cP, z_gP_cP, z_nx_cP, z_rc_cP, z_rs_cP, z_em_cP, z_mi_cP, z_kd_wI, z_ln_wI, z_gI_wI, z_gJ_wI, z_gP_wI, z_nx_wI, z_rc_wI, z_rs_wI, z_em_wI, z_mi_wI, z_kd_wJ, z_ln_wJ, z_gI_wJ, z_gJ_wJ, z_gP_wJ, z_nx_wJ, z_rc_wJ, z_rs_wJ, z_em_wJ, z_mi_wJ, a1, a2, a3, a4, a5, a6, a7, a8, b2, hl, show ¬ as.length = 6 by omega, Nat.reduceEqDiff, i_add, i_mul, i_sub, i_addn, i_lt, i_eq, i_idx, i_vp, true_and, and_true, false_and, and_false, if_true, if_false, Nat.reduceAdd, Nat.reduceMul, Nat.reduceSub, Nat.reduceEqDiff, Option.some.injEq, exists_eq_left', true_or, or_true, false_or, or_false, not_true_eq_false, not_false_eq_true, eq_self, and_self, Nat.reduceLeDiff, decide_true, decide_false, ne_eq, Nat.left_eq_add, Nat.add_eq_left, Nat.add_left_cancel_iff, Nat.add_zero]
  refine key n 0 _ (by omega) ((Fz.rfl'.sI (Or.inr (Or.inl rfl))).sI (Or.inr (Or.inr (Or.inl rfl)))) ?_ ?_ ?_ (fun q hq => absurd hq (Nat.not_lt_zero _)) (fun i hi => ⟨?_, ?_, fun k hk => ?_⟩)
  · rw [z_gI_sI, if_neg (by omega), z_gI_sI, if_neg (by omega), b2]
  · rw [z_gI_sI, if_neg (by omega), z_gI_sI, if_pos ⟨rfl, rfl⟩]
  · rw [z_gI_sI, if_pos ⟨rfl, rfl⟩]
  · rw [z_gI_sI, if_neg (by omega), z_gI_sI, if_neg (by omega)]
  · rw [z_gI_sI, if_neg (by omega), z_gI_sI, if_neg (by omega)]
  · rw [z_gI_sI, if_neg (by omega), z_gI_sI, if_neg (by omega)]
/-- whether a slot holds a number -/
def isN (as : List Arg) (s : Nat) : Bool := match as[s]? with | some (.inl _) => true | _ => false
/-- a slot's number, or its text's size -/
def numA (as : List Arg) (s : Nat) : Int32 := match as[s]? with | some a => nv a | none => Int32.ofNat 0
theorem Event_hasNumber {h : MH_} {e s : Nat} {as : List Arg} {Q : Rs_ → MH_ → Prop} (he : Ea h e as) (hs : s < 2147483648) : Wp 15 0 [.ref e, .int (Int32.ofNat s)] [] h Q ↔ Q (.inl (.int (bz (isN as s = true)))) h := by
  obtain ⟨⟨a1, a2, a3, a4, a5, a6, a7, a8, a9, a10⟩, b1, b2, b3⟩ := he
  by_cases h1 : s < as.length
  · have c := b3 s h1
    simp (disch := omega) only [U15_0, U15_1, U15_4, U15_5, U15_6, U15_9, U15_12, U15_13, U15_16, U15_17, U15_18, U15_21, U15_22, U15_25, U15_26, a1, a2, a5, a6, b2, h1, show ¬ s < 0 by omega, show s < 6 by omega, i_add, i_mul, i_sub, i_addn, i_lt, i_eq, i_idx, i_vp, true_and, and_true, false_and, and_false, if_true, if_false, Nat.reduceAdd, Nat.reduceMul, Nat.reduceSub, Nat.reduceEqDiff, Option.some.injEq, exists_eq_left', true_or, or_true, false_or, or_false, not_true_eq_false, not_false_eq_true, eq_self, and_self, Nat.reduceLeDiff, decide_true, decide_false, ne_eq, Nat.left_eq_add, Nat.add_eq_left, Nat.add_left_cancel_iff, Nat.add_zero]
    unfold isN
    rw [List.getElem?_eq_getElem h1]
    revert c
    cases as[s] with
    | inl x =>
      intro c
      rw [← bz_t (p := true = true) rfl]
      simp (disch := omega) only [c.1, i_add, i_mul, i_sub, i_addn, i_lt, i_eq, i_idx, i_vp, true_and, and_true, false_and, and_false, if_true, if_false, Nat.reduceAdd, Nat.reduceMul, Nat.reduceSub, Nat.reduceEqDiff, Option.some.injEq, exists_eq_left', true_or, or_true, false_or, or_false, not_true_eq_false, not_false_eq_true, eq_self, and_self, Nat.reduceLeDiff, decide_true, decide_false, ne_eq, Nat.left_eq_add, Nat.add_eq_left, Nat.add_left_cancel_iff, Nat.add_zero]
    | inr t =>
      intro c
      simp (disch := omega) only [c.1, show ¬ (1 : Nat) = 0 by decide, i_add, i_mul, i_sub, i_addn, i_lt, i_eq, i_idx, i_vp, true_and, and_true, false_and, and_false, if_true, if_false, Nat.reduceAdd, Nat.reduceMul, Nat.reduceSub, Nat.reduceEqDiff, Option.some.injEq, exists_eq_left', true_or, or_true, false_or, or_false, not_true_eq_false, not_false_eq_true, eq_self, and_self, Nat.reduceLeDiff, decide_true, decide_false, ne_eq, Nat.left_eq_add, Nat.add_eq_left, Nat.add_left_cancel_iff, Nat.add_zero]
      rw [bz_f (p := false = true) (by decide)]
  · simp (disch := omega) only [U15_0, U15_1, U15_4, U15_5, U15_6, U15_9, U15_12, U15_13, U15_16, U15_17, U15_18, U15_21, U15_22, U15_25, U15_26, a1, b2, h1, show ¬ s < 0 by omega, i_add, i_mul, i_sub, i_addn, i_lt, i_eq, i_idx, i_vp, true_and, and_true, false_and, and_false, if_true, if_false, Nat.reduceAdd, Nat.reduceMul, Nat.reduceSub, Nat.reduceEqDiff, Option.some.injEq, exists_eq_left', true_or, or_true, false_or, or_false, not_true_eq_false, not_false_eq_true, eq_self, and_self, Nat.reduceLeDiff, decide_true, decide_false, ne_eq, Nat.left_eq_add, Nat.add_eq_left, Nat.add_left_cancel_iff, Nat.add_zero]
    unfold isN
    rw [List.getElem?_eq_none (by omega), bz_f (p := false = true) (by decide)]
theorem Event_hasNumber_n {h : MH_} {e : Nat} {x : Int32} {as : List Arg} {Q : Rs_ → MH_ → Prop} (hx : x < Int32.ofNat 0) : Wp 15 0 [.ref e, .int x] [] h Q ↔ Q (.inl (.int (Int32.ofNat 0))) h := by
  simp (disch := omega) only [U15_0, U15_1, U15_4, U15_5, U15_6, U15_9, U15_12, U15_13, U15_16, U15_17, U15_18, U15_21, U15_22, U15_25, U15_26, hx, i_add, i_mul, i_sub, i_addn, i_lt, i_eq, i_idx, i_vp, true_and, and_true, false_and, and_false, if_true, if_false, Nat.reduceAdd, Nat.reduceMul, Nat.reduceSub, Nat.reduceEqDiff, Option.some.injEq, exists_eq_left', true_or, or_true, false_or, or_false, not_true_eq_false, not_false_eq_true, eq_self, and_self, Nat.reduceLeDiff, decide_true, decide_false, ne_eq, Nat.left_eq_add, Nat.add_eq_left, Nat.add_left_cancel_iff, Nat.add_zero]
theorem Event_numberAt {h : MH_} {e s : Nat} {as : List Arg} {Q : Rs_ → MH_ → Prop} (he : Ea h e as) (hs : s < 2147483648) : Wp 20 0 [.ref e, .int (Int32.ofNat s)] [] h Q ↔ Q (.inl (.int (numA as s))) h := by
  obtain ⟨⟨a1, a2, a3, a4, a5, a6, a7, a8, a9, a10⟩, b1, b2, b3⟩ := he
  by_cases h1 : s < as.length
  · have c := b3 s h1
    simp (disch := omega) only [U20_0, U20_1, U20_4, U20_5, U20_6, U20_9, U20_12, U20_13, U20_16, U20_17, U20_18, U20_21, U20_22, a1, a3, a7, a8, b2, h1, show ¬ s < 0 by omega, show s < 6 by omega, i_add, i_mul, i_sub, i_addn, i_lt, i_eq, i_idx, i_vp, true_and, and_true, false_and, and_false, if_true, if_false, Nat.reduceAdd, Nat.reduceMul, Nat.reduceSub, Nat.reduceEqDiff, Option.some.injEq, exists_eq_left', true_or, or_true, false_or, or_false, not_true_eq_false, not_false_eq_true, eq_self, and_self, Nat.reduceLeDiff, decide_true, decide_false, ne_eq, Nat.left_eq_add, Nat.add_eq_left, Nat.add_left_cancel_iff, Nat.add_zero]
    unfold numA
    rw [List.getElem?_eq_getElem h1]
    revert c
    cases as[s] with
    | inl x => intro c; rw [c.2]; rfl
    | inr t => intro c; rw [c.2.1]; rfl
  · simp (disch := omega) only [U20_0, U20_1, U20_4, U20_5, U20_6, U20_9, U20_12, U20_13, U20_16, U20_17, U20_18, U20_21, U20_22, a1, b2, h1, show ¬ s < 0 by omega, i_add, i_mul, i_sub, i_addn, i_lt, i_eq, i_idx, i_vp, true_and, and_true, false_and, and_false, if_true, if_false, Nat.reduceAdd, Nat.reduceMul, Nat.reduceSub, Nat.reduceEqDiff, Option.some.injEq, exists_eq_left', true_or, or_true, false_or, or_false, not_true_eq_false, not_false_eq_true, eq_self, and_self, Nat.reduceLeDiff, decide_true, decide_false, ne_eq, Nat.left_eq_add, Nat.add_eq_left, Nat.add_left_cancel_iff, Nat.add_zero]
    unfold numA
    rw [List.getElem?_eq_none (by omega)]
theorem Event_putText {h : MH_} {e r c s : Nat} {as : List Arg} {l t : List Nat} (he : Ea h e as) (hr : Rw h r c l) (hs : as[s]? = some (.inr t)) (hc : l.length + t.length ≤ c) (ap : r + 2 ≤ e ∨ e + 4 ≤ r) : Wp 22 0 [.ref e, .int (Int32.ofNat s), .ref r, .null] [] h (fun v h' => v = .inl .null ∧ Rw h' r c (l ++ t) ∧ Fz (SR r) h h') := by
  have hsl : s < as.length := by
    rcases Nat.lt_or_ge s as.length with z | z
    · exact z
    · rw [List.getElem?_eq_none z] at hs; cases hs
  have h6 := he.2.1
  have hsg : as[s] = .inr t := by rw [List.getElem?_eq_getElem hsl] at hs; exact Option.some.inj hs
  have key : ∀ n k u l, k + n = t.length → Ea u e as → Rw u r c l → l.length + n ≤ c → Wp 22 24 [.ref e, .int (Int32.ofNat s), .ref r, .int (Int32.ofNat k)] [] u (fun v h' => v = .inl .null ∧ Rw h' r c (l ++ t.drop k) ∧ Fz (SR r) u h') := by
    intro n
    induction n with
    | zero =>
      intro k u l hk he hr hc
      obtain ⟨⟨a1, a2, a3, a4, a5, a6, a7, a8, a9, a10⟩, b1, b2, b3⟩ := he
      have cc := b3 s hsl
      rw [hsg] at cc
      obtain ⟨c1, c2, c3, c4, c5⟩ := cc
      rw [U22_24]
      simp (disch := omega) only [U22_0, U22_1, U22_4, U22_5, U22_6, U22_9, U22_12, U22_13, U22_16, U22_17, U22_18, U22_21, U22_22, U22_23, U22_25, U22_26, U22_29, U22_30, U22_31, U22_34, U22_35, U22_36, U22_39, U22_40, U22_42, U22_43, U22_44, U22_45, U22_46, U22_49, U22_52, U22_55, a1, a3, a7, a8, c2, show ¬ k < t.length by omega, show s < 6 by omega, i_add, i_mul, i_sub, i_addn, i_lt, i_eq, i_idx, i_vp, true_and, and_true, false_and, and_false, if_true, if_false, Nat.reduceAdd, Nat.reduceMul, Nat.reduceSub, Nat.reduceEqDiff, Option.some.injEq, exists_eq_left', true_or, or_true, false_or, or_false, not_true_eq_false, not_false_eq_true, eq_self, and_self, Nat.reduceLeDiff, decide_true, decide_false, ne_eq, Nat.left_eq_add, Nat.add_eq_left, Nat.add_left_cancel_iff, Nat.add_zero]
      rw [List.drop_of_length_le (by omega), List.append_nil]
      exact ⟨hr, Fz.rfl'⟩
    | succ n ih =>
      intro k u l hk he hr hc
      have he' := he
      obtain ⟨⟨a1, a2, a3, a4, a5, a6, a7, a8, a9, a10⟩, b1, b2, b3⟩ := he
      have cc := b3 s hsl
      rw [hsg] at cc
      obtain ⟨c1, c2, c3, c4, c5⟩ := cc
      rw [U22_24]
      simp (disch := omega) only [U22_0, U22_1, U22_4, U22_5, U22_6, U22_9, U22_12, U22_13, U22_16, U22_17, U22_18, U22_21, U22_22, U22_23, U22_25, U22_26, U22_29, U22_30, U22_31, U22_34, U22_35, U22_36, U22_39, U22_40, U22_42, U22_43, U22_44, U22_45, U22_46, U22_49, U22_52, U22_55, a1, a3, a4, a7, a8, a9, a10, c2, hr.1, show k < t.length by omega, show s < 6 by omega, show s * 16 + k < 96 by omega, c4 k (by omega), i_add, i_mul, i_sub, i_addn, i_lt, i_eq, i_idx, i_vp, true_and, and_true, false_and, and_false, if_true, if_false, Nat.reduceAdd, Nat.reduceMul, Nat.reduceSub, Nat.reduceEqDiff, Option.some.injEq, exists_eq_left', true_or, or_true, false_or, or_false, not_true_eq_false, not_false_eq_true, eq_self, and_self, Nat.reduceLeDiff, decide_true, decide_false, ne_eq, Nat.left_eq_add, Nat.add_eq_left, Nat.add_left_cancel_iff, Nat.add_zero]
      refine Wp_use (Row_put hr (by omega)) ?_
      rintro _ h1 ⟨rfl, hr1, f1⟩
      simp (disch := omega) only [V93, U22_0, U22_1, U22_4, U22_5, U22_6, U22_9, U22_12, U22_13, U22_16, U22_17, U22_18, U22_21, U22_22, U22_23, U22_25, U22_26, U22_29, U22_30, U22_31, U22_34, U22_35, U22_36, U22_39, U22_40, U22_42, U22_43, U22_44, U22_45, U22_46, U22_49, U22_52, U22_55, i_add, i_mul, i_sub, i_addn, i_lt, i_eq, i_idx, i_vp, true_and, and_true, false_and, and_false, if_true, if_false, Nat.reduceAdd, Nat.reduceMul, Nat.reduceSub, Nat.reduceEqDiff, Option.some.injEq, exists_eq_left', true_or, or_true, false_or, or_false, not_true_eq_false, not_false_eq_true, eq_self, and_self, Nat.reduceLeDiff, decide_true, decide_false, ne_eq, Nat.left_eq_add, Nat.add_eq_left, Nat.add_left_cancel_iff, Nat.add_zero]
      refine Wp_use (ih (k + 1) h1 _ (by omega) (he'.fz f1 (by unfold SR SE; intro a i z1 z2; omega)) hr1 (by rw [List.length_append, List.length_singleton]; omega)) ?_
      rintro _ h2 ⟨rfl, hr2, f2⟩
      rw [List.append_assoc, List.singleton_append, lo8_b8' (gD_lt c5 k), ← gD_drop (by omega)] at hr2
      exact ⟨rfl, hr2, f1.trans f2⟩
  have he' := he
  obtain ⟨⟨a1, a2, a3, a4, a5, a6, a7, a8, a9, a10⟩, b1, b2, b3⟩ := he
  have cc := b3 s hsl
  rw [hsg] at cc
  simp (disch := omega) only [U22_0, U22_1, U22_4, U22_5, U22_6, U22_9, U22_12, U22_13, U22_16, U22_17, U22_18, U22_21, U22_22, U22_23, U22_25, U22_26, U22_29, U22_30, U22_31, U22_34, U22_35, U22_36, U22_39, U22_40, U22_42, U22_43, U22_44, U22_45, U22_46, U22_49, U22_52, U22_55, a1, a2, a5, a6, b2, hsl, cc.1, show ¬ s < 0 by omega, show s < 6 by omega, show ¬ (1 : Nat) = 0 by decide, i_add, i_mul, i_sub, i_addn, i_lt, i_eq, i_idx, i_vp, true_and, and_true, false_and, and_false, if_true, if_false, Nat.reduceAdd, Nat.reduceMul, Nat.reduceSub, Nat.reduceEqDiff, Option.some.injEq, exists_eq_left', true_or, or_true, false_or, or_false, not_true_eq_false, not_false_eq_true, eq_self, and_self, Nat.reduceLeDiff, decide_true, decide_false, ne_eq, Nat.left_eq_add, Nat.add_eq_left, Nat.add_left_cancel_iff, Nat.add_zero]
  exact key t.length 0 h l (by omega) he' hr hc
/-- who wrote an event, where, when -/
def Ew (h : MH_) (e w s : Nat) (t : Int64) : Prop := gI_ h e 4 = Int32.ofNat w ∧ gI_ h e 5 = Int32.ofNat s ∧ gJ_ h e 6 = t
theorem Event_happens {h : MH_} {e : Nat} {w s : Int32} {t : Int64} (he : Es h e) : Wp 14 0 [.ref e, .int w, .int s, .long t, .null] [] h (fun v h' => v = .inl .null ∧ (gI_ h' e 4 = w ∧ gI_ h' e 5 = s ∧ gJ_ h' e 6 = t) ∧ Fz (fun a i => a = e ∧ (i = 4 ∨ i = 5 ∨ i = 6)) h h') := by
  simp (disch := omega) only [U14_0, U14_1, U14_2, U14_5, U14_6, U14_7, U14_10, U14_11, U14_12, U14_15, z_kd_sI, z_ln_sI, z_gI_sI, z_gJ_sI, z_gP_sI, z_nx_sI, z_rc_sI, z_rs_sI, z_em_sI, z_mi_sI, z_kd_sJ, z_ln_sJ, z_gI_sJ, z_gJ_sJ, z_gP_sJ, z_nx_sJ, z_rc_sJ, z_rs_sJ, z_em_sJ, z_mi_sJ, z_kd_sP, z_ln_sP, z_gI_sP, z_gJ_sP, z_gP_sP, z_nx_sP, z_rc_sP, z_rs_sP, z_em_sP, z_mi_sP, z_kd_nw, z_ln_nw, z_gI_nw, z_gJ_nw, z_gP_nw, z_nx_nw, z_rc_nw, z_rs_nw, z_em_nw, z_mi_nw, z_kd_cI, z_ln_cI, z_gI_cI, z_gJ_cI, z_gP_cI, z_nx_cI, z_rc_cI, z_rs_cI, z_em_cI, z_mi_cI, z_kd_cP, z_ln_cP, z_gI_cP, z_gJ_cP, z_gP_cP, z_nx_cP, z_rc_cP, z_rs_cP, z_em_cP, z_mi_cP, z_kd_wI, z_ln_wI, z_gI_wI, z_gJ_wI, z_gP_wI, z_nx_wI, z_rc_wI, z_rs_wI, z_em_wI, z_mi_wI, z_kd_wJ, z_ln_wJ, z_gI_wJ, z_gJ_wJ, z_gP_wJ, z_nx_wJ, z_rc_wJ, z_rs_wJ, z_em_wJ, z_mi_wJ, he.1, i_add, i_mul, i_sub, i_addn, i_lt, i_eq, i_idx, i_vp, true_and, and_true, false_and, and_false, if_true, if_false, Nat.reduceAdd, Nat.reduceMul, Nat.reduceSub, Nat.reduceEqDiff, Option.some.injEq, exists_eq_left', true_or, or_true, false_or, or_false, not_true_eq_false, not_false_eq_true, eq_self, and_self, Nat.reduceLeDiff, decide_true, decide_false, ne_eq, Nat.left_eq_add, Nat.add_eq_left, Nat.add_left_cancel_iff, Nat.add_zero]
  exact ((Fz.rfl'.sI ⟨rfl, Or.inl rfl⟩).sI ⟨rfl, Or.inr (Or.inl rfl)⟩).sJ ⟨rfl, Or.inr (Or.inr rfl)⟩
theorem Event_isBefore {h : MH_} {e d w s w' s' : Nat} {t t' : Int64} {Q : Rs_ → MH_ → Prop} (he : Es h e) (hd : Es h d) (e1 : Ew h e w s t) (d1 : Ew h d w' s' t') (hw : w < 1000) (hw' : w' < 1000) : Wp 17 0 [.ref e, .ref d] [] h Q ↔ Q (.inl (.int (bz (t < t' ∨ (t = t' ∧ w < w'))))) h := by
  simp (disch := omega) only [U17_0, U17_1, U17_4, U17_5, U17_8, U17_9, U17_12, U17_13, U17_16, U17_17, U17_20, U17_21, U17_24, U17_25, U17_28, U17_29, U17_32, U17_35, U17_36, U17_39, U17_40, he.1, hd.1, e1.1, e1.2.2, d1.1, d1.2.2, c_lt, c_eq, i_add, i_mul, i_sub, i_addn, i_lt, i_eq, i_idx, i_vp, true_and, and_true, false_and, and_false, if_true, if_false, Nat.reduceAdd, Nat.reduceMul, Nat.reduceSub, Nat.reduceEqDiff, Option.some.injEq, exists_eq_left', true_or, or_true, false_or, or_false, not_true_eq_false, not_false_eq_true, eq_self, and_self, Nat.reduceLeDiff, decide_true, decide_false, ne_eq, Nat.left_eq_add, Nat.add_eq_left, Nat.add_left_cancel_iff, Nat.add_zero]
  by_cases h1 : t < t'
  · rw [if_pos h1, bz_t (p := t < t' ∨ (t = t' ∧ w < w')) (Or.inl h1)]
  · rw [if_neg h1]
    by_cases h2 : t = t'
    · rw [if_pos h2]
      by_cases h3 : w < w'
      · rw [if_pos h3, bz_t (p := t < t' ∨ (t = t' ∧ w < w')) (Or.inr ⟨h2, h3⟩)]
      · rw [if_neg h3, bz_f (p := t < t' ∨ (t = t' ∧ w < w')) (by rintro (z | z); exact h1 z; exact h3 z.2)]
    · rw [if_neg h2, bz_f (p := t < t' ∨ (t = t' ∧ w < w')) (by rintro (z | z); exact h1 z; exact h2 z.1)]
theorem Event_lastIn {h : MH_} {a s k : Nat} {Q : Rs_ → MH_ → Prop} (ha : kd_ h a = 30) (hl : ln_ h a = 240) (hs : s < 40) (hk : k < 6) : Wp 19 0 [.ref a, .int (Int32.ofNat s), .int (Int32.ofNat k), .null] [] h Q ↔ Q (.inl (.int (gI_ h a (s * 6 + k)))) h := by
  simp (disch := omega) only [U19_0, U19_1, U19_3, U19_4, U19_5, U19_6, U19_7, U19_8, U19_11, U19_12, U19_13, U19_14, U19_17, U19_18, U19_19, U19_20, U19_23, U19_24, ha, hl, show ¬ s * 6 + k < 0 by omega, show s * 6 + k < 240 by omega, show (30 : Nat) ≤ 30 by decide, show (30 : Nat) ≤ 38 by decide, i_add, i_mul, i_sub, i_addn, i_lt, i_eq, i_idx, i_vp, true_and, and_true, false_and, and_false, if_true, if_false, Nat.reduceAdd, Nat.reduceMul, Nat.reduceSub, Nat.reduceEqDiff, Option.some.injEq, exists_eq_left', true_or, or_true, false_or, or_false, not_true_eq_false, not_false_eq_true, eq_self, and_self, Nat.reduceLeDiff, decide_true, decide_false, ne_eq, Nat.left_eq_add, Nat.add_eq_left, Nat.add_left_cancel_iff, Nat.add_zero]
/-- the last numbers of a site, remembered -/
theorem Event_rememberIn {h : MH_} {e a s : Nat} {as : List Arg} {x : Int32} (he : Ea h e as) (ho : gI_ h e 5 = Int32.ofNat s) (ha : kd_ h a = 30) (hl : ln_ h a = 240) (hs : s < 40) (ap : a < e ∨ e + 4 ≤ a) : Wp 23 0 [.ref e, .ref a, .null, .null] [] h (fun v h' => v = .inl .null ∧ (∀ i, gI_ h' a i = if s * 6 ≤ i ∧ i < s * 6 + as.length then numA as (i - s * 6) else gI_ h a i) ∧ Fz (fun b _ => b = a) h h') := by
  have h6 := he.2.1
  have key : ∀ n k u (y : Value), k + n = as.length → Fz (fun b _ => b = a) h u → (∀ i, gI_ u a i = if s * 6 ≤ i ∧ i < s * 6 + k then numA as (i - s * 6) else gI_ h a i) → Wp 23 2 [.ref e, .ref a, .int (Int32.ofNat k), y] [] u (fun v h' => v = .inl .null ∧ (∀ i, gI_ h' a i = if s * 6 ≤ i ∧ i < s * 6 + as.length then numA as (i - s * 6) else gI_ h a i) ∧ Fz (fun b _ => b = a) h h') := by
    intro n
    induction n with
    | zero =>
      intro k u y hk f hu
      have he1 : Ea u e as := he.fz f (by unfold SE; intro b i z1 z2; omega)
      rw [U23_2]
      simp (disch := omega) only [U23_0, U23_1, U23_3, U23_4, U23_7, U23_10, U23_11, U23_14, U23_16, U23_17, U23_18, U23_19, U23_20, U23_21, U23_24, U23_25, U23_26, U23_27, U23_30, U23_31, U23_32, U23_33, U23_36, U23_37, U23_38, U23_39, U23_42, U23_45, he1.1.1, he1.2.2.1, show ¬ k < as.length by omega, i_add, i_mul, i_sub, i_addn, i_lt, i_eq, i_idx, i_vp, true_and, and_true, false_and, and_false, if_true, if_false, Nat.reduceAdd, Nat.reduceMul, Nat.reduceSub, Nat.reduceEqDiff, Option.some.injEq, exists_eq_left', true_or, or_true, false_or, or_false, not_true_eq_false, not_false_eq_true, eq_self, and_self, Nat.reduceLeDiff, decide_true, decide_false, ne_eq, Nat.left_eq_add, Nat.add_eq_left, Nat.add_left_cancel_iff, Nat.add_zero]
      rw [show k = as.length by omega] at hu
      exact ⟨hu, f⟩
    | succ n ih =>
      intro k u y hk f hu
      have he1 : Ea u e as := he.fz f (by unfold SE; intro b i z1 z2; omega)
      have ho1 : gI_ u e 5 = Int32.ofNat s := by rw [f.gI (by omega)]; exact ho
      have hc : gI_ u (e + 2) k = numA as k := by
        have c := he1.2.2.2 k (by omega)
        unfold numA
        rw [List.getElem?_eq_getElem (show k < as.length by omega)]
        revert c
        cases as[k] with
        | inl x => intro c; exact c.2
        | inr t => intro c; exact c.2.1
      obtain ⟨⟨a1, a2, a3, a4, a5, a6, a7, a8, a9, a10⟩, b1, b2, b3⟩ := he1
      have ha1 : kd_ u a = 30 := by rw [f.kd]; exact ha
      have hl1 : ln_ u a = 240 := by rw [f.ln]; exact hl
      rw [U23_2]
      simp (disch := omega) only [U23_0, U23_1, U23_3, U23_4, U23_7, U23_10, U23_11, U23_14, U23_16, U23_17, U23_18, U23_19, U23_20, U23_21, U23_24, U23_25, U23_26, U23_27, U23_30, U23_31, U23_32, U23_33, U23_36, U23_37, U23_38, U23_39, U23_42, U23_45, ha1, hl1, a1, a3, a7, a8, b2, ho1, hc, show k < as.length by omega, show k < 6 by omega, show ¬ s * 6 + k < 0 by omega, show s * 6 + k < 240 by omega, show (30 : Nat) ≤ 30 by decide, show (30 : Nat) ≤ 38 by decide, i_add, i_mul, i_sub, i_addn, i_lt, i_eq, i_idx, i_vp, true_and, and_true, false_and, and_false, if_true, if_false, Nat.reduceAdd, Nat.reduceMul, Nat.reduceSub, Nat.reduceEqDiff, Option.some.injEq, exists_eq_left', true_or, or_true, false_or, or_false, not_true_eq_false, not_false_eq_true, eq_self, and_self, Nat.reduceLeDiff, decide_true, decide_false, ne_eq, Nat.left_eq_add, Nat.add_eq_left, Nat.add_left_cancel_iff, Nat.add_zero]
      refine ih (k + 1) _ _ (by omega) (f.sI rfl) ?_
      intro i
      rw [z_gI_sI]
      by_cases hi : i = s * 6 + k
      · subst hi
        rw [if_pos ⟨rfl, rfl⟩, if_pos (by omega), show s * 6 + k - s * 6 = k by omega]
      · rw [if_neg (by omega), hu i]
        by_cases hj : s * 6 ≤ i ∧ i < s * 6 + k
        · rw [if_pos hj, if_pos (by omega)]
        · rw [if_neg hj, if_neg (by omega)]
  simp (disch := omega) only [U23_0, U23_1, U23_3, U23_4, U23_7, U23_10, U23_11, U23_14, U23_16, U23_17, U23_18, U23_19, U23_20, U23_21, U23_24, U23_25, U23_26, U23_27, U23_30, U23_31, U23_32, U23_33, U23_36, U23_37, U23_38, U23_39, U23_42, U23_45, i_add, i_mul, i_sub, i_addn, i_lt, i_eq, i_idx, i_vp, true_and, and_true, false_and, and_false, if_true, if_false, Nat.reduceAdd, Nat.reduceMul, Nat.reduceSub, Nat.reduceEqDiff, Option.some.injEq, exists_eq_left', true_or, or_true, false_or, or_false, not_true_eq_false, not_false_eq_true, eq_self, and_self, Nat.reduceLeDiff, decide_true, decide_false, ne_eq, Nat.left_eq_add, Nat.add_eq_left, Nat.add_left_cancel_iff, Nat.add_zero]
  exact key as.length 0 h _ (by omega) Fz.rfl' (fun i => by rw [if_neg (by omega)])
