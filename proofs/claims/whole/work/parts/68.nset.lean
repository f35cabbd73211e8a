/-! ===== NumberSet ===== -/
/-- how many different ones -/
def dst : List Int32 → Nat
  | [] => 0
  | x :: r => (if x ∈ r then 0 else 1) + dst r
theorem dst_perm {l l' : List Int32} (p : l.Perm l') : dst l = dst l' := by
  induction p with
  | nil => rfl
  | cons x p ih => simp only [dst, p.mem_iff, ih]
  | swap x y r =>
    simp only [dst, List.mem_cons]
    by_cases h : x = y
    · subst h; rfl
    · simp only [h, fun z : y = x => h z.symm, false_or, show ¬ y = x from fun z => h z.symm]
      omega
  | trans _ _ i1 i2 => exact i1.trans i2
def Ns (h : MH_) (ns nA : Nat) (S : List Int32) : Prop := (kd_ h ns = 7 ∧ gP_ h ns 0 = some nA ∧ kd_ h nA = 30 ∧ gI_ h ns 1 = Int32.ofNat S.length) ∧ (S.length ≤ ln_ h nA ∧ ln_ h nA ≤ 20000) ∧ (∀ i (hi : i < S.length), gI_ h nA i = S[i]) ∧ S.Pairwise (· < ·)
def insI (xs : List Int32) (i : Nat) (x : Int32) : List Int32 := xs.take i ++ x :: xs.drop i
theorem insI_len {xs : List Int32} {i : Nat} {x : Int32} (h : i ≤ xs.length) : (insI xs i x).length = xs.length + 1 := by
  unfold insI
  rw [List.length_append, List.length_cons, List.length_take, List.length_drop]
  omega
theorem insI_at {xs : List Int32} {i j : Nat} {x : Int32} (h : i ≤ xs.length) : (insI xs i x)[j]? = if j < i then xs[j]? else if j = i then some x else xs[j - 1]? := by
  unfold insI
  have hl : (xs.take i).length = i := by rw [List.length_take]; omega
  by_cases h1 : j < i
  · rw [if_pos h1, List.getElem?_append_left (by omega), List.getElem?_take, if_pos h1]
  · rw [if_neg h1, List.getElem?_append_right (by omega), hl]
    by_cases h2 : j = i
    · rw [if_pos h2, h2, Nat.sub_self]; rfl
    · rw [if_neg h2, show j - i = (j - i - 1) + 1 by omega, List.getElem?_cons_succ, List.getElem?_drop, show i + (j - i - 1) = j - 1 by omega]
theorem insI_mem {xs : List Int32} {i : Nat} {x y : Int32} : y ∈ insI xs i x ↔ y = x ∨ y ∈ xs := by
  unfold insI
  rw [List.mem_append, List.mem_cons]
  constructor
  · rintro (h | h | h)
    · exact Or.inr (List.mem_of_mem_take h)
    · exact Or.inl h
    · exact Or.inr (List.mem_of_mem_drop h)
  · rintro (h | h)
    · exact Or.inr (Or.inl h)
    · rw [← List.take_append_drop i xs, List.mem_append] at h
      rcases h with h | h
      · exact Or.inl h
      · exact Or.inr (Or.inr h)
theorem NSet_add {h : MH_} {ns nA : Nat} {S pv : List Int32} {x : Int32} (hn : Ns h ns nA S) (hm : ∀ y, y ∈ S ↔ y ∈ pv) (hd : S.length = dst pv) (hr : S.length < ln_ h nA) : Wp 66 0 [.ref ns, .int x, .null, .null, .null] [] h (fun v h' => v = .inl .null ∧ (∃ S', Ns h' ns nA S' ∧ (∀ y, y ∈ S' ↔ y ∈ x :: pv) ∧ S'.length = dst (x :: pv)) ∧ Fz (fun a i => (a = ns ∧ i = 1) ∨ a = nA) h h') := by
  have hn' := hn
  obtain ⟨⟨a1, a2, a3, a4⟩, ⟨b1, b2⟩, c, d⟩ := hn
  have dd : ∀ i j (hi : i < S.length) (hj : j < S.length), i < j → S[i] < S[j] := fun i j hi hj hij => List.pairwise_iff_getElem.mp d i j hi hj hij
  have fin : ∀ lo y, lo ≤ S.length → (∀ i (hi : i < S.length), i < lo → S[i] < x) → (∀ i (hi : i < S.length), lo ≤ i → ¬ S[i] < x) → Wp 66 44 [.ref ns, .int x, .int (Int32.ofNat lo), .int (Int32.ofNat lo), y] [] h (fun v h' => v = .inl .null ∧ (∃ S', Ns h' ns nA S' ∧ (∀ y, y ∈ S' ↔ y ∈ x :: pv) ∧ S'.length = dst (x :: pv)) ∧ Fz (fun a i => (a = ns ∧ i = 1) ∨ a = nA) h h') := by
    intro lo y h1 h2 h3
    by_cases hx : x ∈ S
    · obtain ⟨j, hj, hjx⟩ := List.getElem_of_mem hx
      have hlo : lo = j := by
        rcases Nat.lt_trichotomy lo j with z | z | z
        · have := dd lo j (by omega) hj z
          rw [hjx] at this
          exact absurd this (h3 lo (by omega) (Nat.le_refl _))
        · exact z
        · have := h2 j hj z
          rw [hjx] at this
          exact absurd this Int32.lt_irrefl
      subst hlo
      have hg : gI_ h nA lo = x := by rw [c lo hj, hjx]
      simp (disch := omega) only [U66_0, U66_1, U66_2, U66_3, U66_6, U66_8, U66_9, U66_12, U66_13, U66_14, U66_15, U66_16, U66_17, U66_19, U66_20, U66_23, U66_25, U66_26, U66_27, U66_30, U66_32, U66_33, U66_34, U66_35, U66_38, U66_40, U66_41, U66_44, U66_45, U66_46, U66_49, U66_52, U66_53, U66_56, U66_57, U66_58, U66_59, U66_62, U66_63, U66_66, U66_67, U66_69, U66_71, U66_74, U66_75, U66_78, U66_79, U66_82, U66_83, U66_86, U66_87, U66_90, U66_91, U66_92, U66_95, U66_96, U66_97, U66_98, U66_99, U66_102, U66_103, U66_104, U66_107, U66_108, U66_111, U66_112, U66_113, U66_114, U66_115, U66_116, U66_119, U66_120, U66_121, U66_124, a1, a2, a3, a4, hg, show lo < S.length by omega, show lo < ln_ h nA by omega, show ¬ (1 : Nat) = 0 by omega, i_add, i_mul, i_sub, i_addn, i_lt, i_eq, i_idx, i_vp, true_and, and_true, false_and, and_false, if_true, if_false, Nat.reduceAdd, Nat.reduceMul, Nat.reduceSub, Nat.reduceEqDiff, Option.some.injEq, exists_eq_left', true_or, or_true, false_or, or_false, not_true_eq_false, not_false_eq_true, eq_self, and_self, Nat.reduceLeDiff, decide_true, decide_false, ne_eq, Nat.left_eq_add, Nat.add_eq_left, Nat.add_left_cancel_iff, Nat.add_zero]
      refine ⟨⟨S, hn', fun y => ?_, ?_⟩, Fz.rfl'⟩
      · rw [List.mem_cons, hm]
        exact ⟨Or.inr, fun z => z.elim (fun e => by rw [e, ← hm]; exact hx) id⟩
      · rw [hd]
        simp only [dst]
        rw [if_pos ((hm x).mp hx), Nat.zero_add]
    · have hlt : ∀ i (hi : i < S.length), lo ≤ i → x < S[i] := by
        intro i hi hl
        have h4 := h3 i hi hl
        have h5 : ¬ S[i] = x := fun z => hx (z ▸ List.getElem_mem hi)
        rcases Int32.lt_or_eq_of_le (Int32.not_lt.mp h4) with z | z
        · exact z
        · exact absurd z.symm h5
      have goal : (∃ S', Ns (sI_ (sI_ (cI_ h nA lo nA (lo + 1) (S.length - lo)) nA lo x) ns 1 (Int32.ofNat (S.length + 1))) ns nA S' ∧ (∀ y, y ∈ S' ↔ y ∈ x :: pv) ∧ S'.length = dst (x :: pv)) ∧ Fz (fun a i => (a = ns ∧ i = 1) ∨ a = nA) h (sI_ (sI_ (cI_ h nA lo nA (lo + 1) (S.length - lo)) nA lo x) ns 1 (Int32.ofNat (S.length + 1))) := by
        have ne : ¬ nA = ns := by intro z; rw [z] at a3; omega
        refine ⟨⟨insI S lo x, ⟨⟨a1, a2, a3, ?_⟩, ⟨?_, b2⟩, fun i hi => ?_, ?_⟩, fun y => ?_, ?_⟩, ?_⟩
        · rw [z_gI_sI, if_pos ⟨rfl, rfl⟩, insI_len h1]
        · rw [insI_len h1]; exact hr
        · have e := insI_at (x := x) (j := i) h1
          rw [List.getElem?_eq_getElem hi] at e
          rw [insI_len h1] at hi
          rw [z_gI_sI, if_neg (fun z => ne z.1), z_gI_sI]
          by_cases h5 : i < lo
          · rw [if_pos h5, List.getElem?_eq_getElem (by omega)] at e
            rw [if_neg (by omega), z_gI_cI, if_neg (by omega), c i (by omega), Option.some.inj e]
          · rw [if_neg h5] at e
            by_cases h6 : i = lo
            · rw [if_pos h6] at e
              rw [if_pos ⟨rfl, h6⟩, Option.some.inj e]
            · rw [if_neg h6, List.getElem?_eq_getElem (by omega)] at e
              rw [if_neg (by omega), z_gI_cI, if_pos ⟨rfl, by omega, by omega⟩, show lo + (i - (lo + 1)) = i - 1 by omega, c (i - 1) (by omega), Option.some.inj e]
        · unfold insI
          rw [List.pairwise_append, List.pairwise_cons]
          refine ⟨d.sublist (List.take_sublist _ _), ⟨fun y hy => ?_, d.sublist (List.drop_sublist _ _)⟩, fun y hy z hz => ?_⟩
          · obtain ⟨j, hj, rfl⟩ := List.getElem_of_mem hy
            rw [List.length_drop] at hj
            rw [List.getElem_drop]
            exact hlt _ (by omega) (by omega)
          · obtain ⟨j, hj, rfl⟩ := List.getElem_of_mem hy
            rw [List.length_take] at hj
            rw [List.getElem_take]
            rcases List.mem_cons.mp hz with rfl | hz
            · exact h2 j (by omega) (by omega)
            · obtain ⟨k, hk, rfl⟩ := List.getElem_of_mem hz
              rw [List.length_drop] at hk
              rw [List.getElem_drop]
              exact dd j _ (by omega) (by omega) (by omega)
        · rw [insI_mem, List.mem_cons, hm]
        · rw [insI_len h1, hd]
          simp only [dst]
          rw [if_neg (fun z => hx ((hm x).mpr z)), Nat.add_comm]
        · have z : Fz (fun a i => (a = ns ∧ i = 1) ∨ a = nA) h (cI_ h nA lo nA (lo + 1) (S.length - lo)) := by
            refine ⟨fun _ => rfl, fun _ => rfl, fun _ _ => rfl, ⟨rfl, rfl, rfl, rfl, rfl⟩, fun b j hb => ⟨?_, rfl⟩⟩
            rw [z_gI_cI, if_neg (fun y => hb (Or.inr y.1))]
          exact Fz.sI (Fz.sI z (Or.inr rfl)) (Or.inl ⟨rfl, rfl⟩)
      have ne : ¬ nA = ns := by intro z; rw [z] at a3; omega
      have gu : gI_ (sI_ (cI_ h nA lo nA (lo + 1) (S.length - lo)) nA lo x) ns 1 = Int32.ofNat S.length := by
        rw [z_gI_sI, if_neg (fun z => ne z.1.symm), z_gI_cI, if_neg (fun z => ne z.1.symm), a4]
      by_cases hlo : lo < S.length
      · have hg : ¬ gI_ h nA lo = x := by rw [c lo hlo]; exact fun z => hx (z ▸ List.getElem_mem hlo)
        simp (disch := omega) only [U66_0, U66_1, U66_2, U66_3, U66_6, U66_8, U66_9, U66_12, U66_13, U66_14, U66_15, U66_16, U66_17, U66_19, U66_20, U66_23, U66_25, U66_26, U66_27, U66_30, U66_32, U66_33, U66_34, U66_35, U66_38, U66_40, U66_41, U66_44, U66_45, U66_46, U66_49, U66_52, U66_53, U66_56, U66_57, U66_58, U66_59, U66_62, U66_63, U66_66, U66_67, U66_69, U66_71, U66_74, U66_75, U66_78, U66_79, U66_82, U66_83, U66_86, U66_87, U66_90, U66_91, U66_92, U66_95, U66_96, U66_97, U66_98, U66_99, U66_102, U66_103, U66_104, U66_107, U66_108, U66_111, U66_112, U66_113, U66_114, U66_115, U66_116, U66_119, U66_120, U66_121, U66_124, z_kd_sI, z_ln_sI, z_gI_sI, z_gJ_sI, z_gP_sI, z_nx_sI, z_rc_sI, z_rs_sI, z_em_sI, z_mi_sI, z_kd_sJ, z_ln_sJ, z_gI_sJ, z_gJ_sJ, z_gP_sJ, z_nx_sJ, z_rc_sJ, z_rs_sJ, z_em_sJ, z_mi_sJ, z_kd_sP, z_ln_sP, z_gI_sP, z_gJ_sP, z_gP_sP, z_nx_sP, z_rc_sP, z_rs_sP, z_em_sP, z_mi_sP, z_kd_nw, z_ln_nw, z_gI_nw, z_gJ_nw, z_gP_nw, z_nx_nw, z_rc_nw, z_rs_nw, z_em_nw, z_mi_nw, z_kd_cI, z_ln_cI, z_gI_cI, z_gJ_cI, z_gP_cI, z_nx_cI, z_rc_cI, z_rs_cI, z_em_cI, z_mi_cI, z_kd_cP, z_ln_cP, z_gI_cP, z_gJ_cP, z_gP_cP, z_nx_cP, z_rc_cP, z_rs_cP, z_em_cP, z_mi_cP, z_kd_wI, z_ln_wI, z_gI_wI, z_gJ_wI, z_gP_wI, z_nx_wI, z_rc_wI, z_rs_wI, z_em_wI, z_mi_wI, z_kd_wJ, z_ln_wJ, z_gI_wJ, z_gJ_wJ, z_gP_wJ, z_nx_wJ, z_rc_wJ, z_rs_wJ, z_em_wJ, z_mi_wJ, gu, show ¬ ns = nA from fun z => ne z.symm, a1, a2, a3, a4, hg, hlo, hr, show lo < ln_ h nA by omega, show ¬ lo < 0 by omega, show ¬ lo + 1 < 0 by omega, show ¬ S.length - lo < 0 by omega, show lo + (S.length - lo) ≤ ln_ h nA by omega, show lo + 1 + (S.length - lo) ≤ ln_ h nA by omega, show ¬ (1 : Nat) = 0 by omega, i_add, i_mul, i_sub, i_addn, i_lt, i_eq, i_idx, i_vp, true_and, and_true, false_and, and_false, if_true, if_false, Nat.reduceAdd, Nat.reduceMul, Nat.reduceSub, Nat.reduceEqDiff, Option.some.injEq, exists_eq_left', true_or, or_true, false_or, or_false, not_true_eq_false, not_false_eq_true, eq_self, and_self, Nat.reduceLeDiff, decide_true, decide_false, ne_eq, Nat.left_eq_add, Nat.add_eq_left, Nat.add_left_cancel_iff, Nat.add_zero]
        exact goal
      · simp (disch := omega) only [U66_0, U66_1, U66_2, U66_3, U66_6, U66_8, U66_9, U66_12, U66_13, U66_14, U66_15, U66_16, U66_17, U66_19, U66_20, U66_23, U66_25, U66_26, U66_27, U66_30, U66_32, U66_33, U66_34, U66_35, U66_38, U66_40, U66_41, U66_44, U66_45, U66_46, U66_49, U66_52, U66_53, U66_56, U66_57, U66_58, U66_59, U66_62, U66_63, U66_66, U66_67, U66_69, U66_71, U66_74, U66_75, U66_78, U66_79, U66_82, U66_83, U66_86, U66_87, U66_90, U66_91, U66_92, U66_95, U66_96, U66_97, U66_98, U66_99, U66_102, U66_103, U66_104, U66_107, U66_108, U66_111, U66_112, U66_113, U66_114, U66_115, U66_116, U66_119, U66_120, U66_121, U66_124, z_kd_sI, z_ln_sI, z_gI_sI, z_gJ_sI, z_gP_sI, z_nx_sI, z_rc_sI, z_rs_sI, z_em_sI, z_mi_sI, z_kd_sJ, z_ln_sJ, z_gI_sJ, z_gJ_sJ, z_gP_sJ, z_nx_sJ, z_rc_sJ, z_rs_sJ, z_em_sJ, z_mi_sJ, z_kd_sP, z_ln_sP, z_gI_sP, z_gJ_sP, z_gP_sP, z_nx_sP, z_rc_sP, z_rs_sP, z_em_sP, z_mi_sP, z_kd_nw, z_ln_nw, z_gI_nw, z_gJ_nw, z_gP_nw, z_nx_nw, z_rc_nw, z_rs_nw, z_em_nw, z_mi_nw, z_kd_cI, z_ln_cI, z_gI_cI, z_gJ_cI, z_gP_cI, z_nx_cI, z_rc_cI, z_rs_cI, z_em_cI, z_mi_cI, z_kd_cP, z_ln_cP, z_gI_cP, z_gJ_cP, z_gP_cP, z_nx_cP, z_rc_cP, z_rs_cP, z_em_cP, z_mi_cP, z_kd_wI, z_ln_wI, z_gI_wI, z_gJ_wI, z_gP_wI, z_nx_wI, z_rc_wI, z_rs_wI, z_em_wI, z_mi_wI, z_kd_wJ, z_ln_wJ, z_gI_wJ, z_gJ_wJ, z_gP_wJ, z_nx_wJ, z_rc_wJ, z_rs_wJ, z_em_wJ, z_mi_wJ, gu, show ¬ ns = nA from fun z => ne z.symm, a1, a2, a3, a4, hlo, hr, show lo < ln_ h nA by omega, show ¬ lo < 0 by omega, show ¬ lo + 1 < 0 by omega, show ¬ S.length - lo < 0 by omega, show lo + (S.length - lo) ≤ ln_ h nA by omega, show lo + 1 + (S.length - lo) ≤ ln_ h nA by omega, show ¬ (1 : Nat) = 0 by omega, i_add, i_mul, i_sub, i_addn, i_lt, i_eq, i_idx, i_vp, true_and, and_true, false_and, and_false, if_true, if_false, Nat.reduceAdd, Nat.reduceMul, Nat.reduceSub, Nat.reduceEqDiff, Option.some.injEq, exists_eq_left', true_or, or_true, false_or, or_false, not_true_eq_false, not_false_eq_true, eq_self, and_self, Nat.reduceLeDiff, decide_true, decide_false, ne_eq, Nat.left_eq_add, Nat.add_eq_left, Nat.add_left_cancel_iff, Nat.add_zero]
        exact goal
  have key : ∀ n lo hi y, hi - lo ≤ n → lo ≤ hi → hi ≤ S.length → (∀ i (hi : i < S.length), i < lo → S[i] < x) → (∀ i (hh : i < S.length), hi ≤ i → ¬ S[i] < x) → Wp 66 7 [.ref ns, .int x, .int (Int32.ofNat lo), .int (Int32.ofNat hi), y] [] h (fun v h' => v = .inl .null ∧ (∃ S', Ns h' ns nA S' ∧ (∀ y, y ∈ S' ↔ y ∈ x :: pv) ∧ S'.length = dst (x :: pv)) ∧ Fz (fun a i => (a = ns ∧ i = 1) ∨ a = nA) h h') := by
    intro n
    induction n with
    | zero =>
      intro lo hi y h1 h2 h3 h4 h5
      rw [U66_7]
      simp (disch := omega) only [U66_8, U66_9, U66_12, U66_13, U66_14, U66_15, U66_16, U66_17, U66_19, U66_20, U66_23, U66_25, U66_26, U66_27, U66_30, U66_32, U66_33, U66_34, U66_35, U66_38, U66_40, U66_41, show ¬ lo < hi by omega, i_add, i_mul, i_sub, i_addn, i_lt, i_eq, i_idx, i_vp, true_and, and_true, false_and, and_false, if_true, if_false, Nat.reduceAdd, Nat.reduceMul, Nat.reduceSub, Nat.reduceEqDiff, Option.some.injEq, exists_eq_left', true_or, or_true, false_or, or_false, not_true_eq_false, not_false_eq_true, eq_self, and_self, Nat.reduceLeDiff, decide_true, decide_false, ne_eq, Nat.left_eq_add, Nat.add_eq_left, Nat.add_left_cancel_iff, Nat.add_zero]
      obtain rfl : hi = lo := by omega
      exact fin hi _ h3 h4 h5
    | succ n ih =>
      intro lo hi y h1 h2 h3 h4 h5
      rw [U66_7]
      by_cases hlt : lo < hi
      · have hm' : (lo + hi) / 2 < S.length := by omega
        have hd : Int32.ofNat (lo + hi) / Int32.ofNat 2 = Int32.ofNat ((lo + hi) / 2) := (Int32.ofNat_div (by omega) (by omega)).symm
        by_cases hb : S[(lo + hi) / 2] < x
        · simp (disch := omega) only [U66_8, U66_9, U66_12, U66_13, U66_14, U66_15, U66_16, U66_17, U66_19, U66_20, U66_23, U66_25, U66_26, U66_27, U66_30, U66_32, U66_33, U66_34, U66_35, U66_38, U66_40, U66_41, a1, a2, a3, hlt, hd, c _ hm', show (lo + hi) / 2 < ln_ h nA by omega, hb, show ¬ (2 : Nat) = 0 by omega, i_add, i_mul, i_sub, i_addn, i_lt, i_eq, i_idx, i_vp, true_and, and_true, false_and, and_false, if_true, if_false, Nat.reduceAdd, Nat.reduceMul, Nat.reduceSub, Nat.reduceEqDiff, Option.some.injEq, exists_eq_left', true_or, or_true, false_or, or_false, not_true_eq_false, not_false_eq_true, eq_self, and_self, Nat.reduceLeDiff, decide_true, decide_false, ne_eq, Nat.left_eq_add, Nat.add_eq_left, Nat.add_left_cancel_iff, Nat.add_zero]
          refine ih _ hi _ (by omega) (by omega) h3 (fun i hh hl => ?_) h5
          rcases Nat.lt_or_ge i ((lo + hi) / 2) with z | z
          · exact Int32.lt_trans (dd i _ hh hm' z) hb
          · obtain rfl : i = (lo + hi) / 2 := by omega
            exact hb
        · simp (disch := omega) only [U66_8, U66_9, U66_12, U66_13, U66_14, U66_15, U66_16, U66_17, U66_19, U66_20, U66_23, U66_25, U66_26, U66_27, U66_30, U66_32, U66_33, U66_34, U66_35, U66_38, U66_40, U66_41, a1, a2, a3, hlt, hd, c _ hm', show (lo + hi) / 2 < ln_ h nA by omega, hb, show ¬ (2 : Nat) = 0 by omega, i_add, i_mul, i_sub, i_addn, i_lt, i_eq, i_idx, i_vp, true_and, and_true, false_and, and_false, if_true, if_false, Nat.reduceAdd, Nat.reduceMul, Nat.reduceSub, Nat.reduceEqDiff, Option.some.injEq, exists_eq_left', true_or, or_true, false_or, or_false, not_true_eq_false, not_false_eq_true, eq_self, and_self, Nat.reduceLeDiff, decide_true, decide_false, ne_eq, Nat.left_eq_add, Nat.add_eq_left, Nat.add_left_cancel_iff, Nat.add_zero]
          refine ih lo _ _ (by omega) (by omega) (by omega) h4 (fun i hh hl z => ?_)
          rcases Nat.lt_or_ge ((lo + hi) / 2) i with w | w
          · exact hb (Int32.lt_trans (dd _ i hm' hh w) z)
          · exact hb ((show i = (lo + hi) / 2 by omega) ▸ z)
      · simp (disch := omega) only [U66_8, U66_9, U66_12, U66_13, U66_14, U66_15, U66_16, U66_17, U66_19, U66_20, U66_23, U66_25, U66_26, U66_27, U66_30, U66_32, U66_33, U66_34, U66_35, U66_38, U66_40, U66_41, hlt, i_add, i_mul, i_sub, i_addn, i_lt, i_eq, i_idx, i_vp, true_and, and_true, false_and, and_false, if_true, if_false, Nat.reduceAdd, Nat.reduceMul, Nat.reduceSub, Nat.reduceEqDiff, Option.some.injEq, exists_eq_left', true_or, or_true, false_or, or_false, not_true_eq_false, not_false_eq_true, eq_self, and_self, Nat.reduceLeDiff, decide_true, decide_false, ne_eq, Nat.left_eq_add, Nat.add_eq_left, Nat.add_left_cancel_iff, Nat.add_zero]
        obtain rfl : hi = lo := by omega
        exact fin hi _ h3 h4 h5
  simp (disch := omega) only [U66_0, U66_1, U66_2, U66_3, U66_6, a1, a4, i_add, i_mul, i_sub, i_addn, i_lt, i_eq, i_idx, i_vp, true_and, and_true, false_and, and_false, if_true, if_false, Nat.reduceAdd, Nat.reduceMul, Nat.reduceSub, Nat.reduceEqDiff, Option.some.injEq, exists_eq_left', true_or, or_true, false_or, or_false, not_true_eq_false, not_false_eq_true, eq_self, and_self, Nat.reduceLeDiff, decide_true, decide_false, ne_eq, Nat.left_eq_add, Nat.add_eq_left, Nat.add_left_cancel_iff, Nat.add_zero]
  exact key S.length 0 S.length _ (by omega) (Nat.zero_le _) (Nat.le_refl _) (fun i hi hl => absurd hl (Nat.not_lt_zero _)) (fun i hi hl => by omega)
theorem NSet_begin {h : MH_} {ns nA m : Nat} {S : List Int32} (hn : Ns h ns nA S) (hm : m ≤ 6000) (h1 : ns < nx_ h) (h2 : nA < nx_ h) (hr : 1 ≤ rc_ h) (hs : 12000 ≤ rs_ h) : Wp 67 0 [.ref ns, .int (Int32.ofNat m)] [] h (fun v h' => v = .inl .null ∧ ∃ nA', Ns h' ns nA' [] ∧ m ≤ ln_ h' nA' ∧ (nA' = nA ∨ nA' = nx_ h) ∧ nA' < nx_ h' ∧ Fa (fun a _ => a = ns) 1 12000 h h') := by
  have hn' := hn
  obtain ⟨⟨a1, a2, a3, a4⟩, ⟨b1, b2⟩, c, d⟩ := hn
  have f1 : Fz (fun a i => a = ns ∧ i = 1) h (sI_ h ns 1 (Int32.ofNat 0)) := Fz.rfl'.sI ⟨rfl, rfl⟩
  have ne : ¬ ns = nA := by intro z; rw [← z] at a3; omega
  by_cases hl : ln_ h nA < m
  · simp (disch := omega) only [U67_0, U67_1, U67_2, U67_5, U67_6, U67_9, U67_10, U67_11, U67_14, U67_15, U67_16, U67_17, U67_18, U67_21, U67_22, U67_23, U67_26, U67_28, U67_31, z_kd_sI, z_ln_sI, z_gI_sI, z_gJ_sI, z_gP_sI, z_nx_sI, z_rc_sI, z_rs_sI, z_em_sI, z_mi_sI, z_kd_sJ, z_ln_sJ, z_gI_sJ, z_gJ_sJ, z_gP_sJ, z_nx_sJ, z_rc_sJ, z_rs_sJ, z_em_sJ, z_mi_sJ, z_kd_sP, z_ln_sP, z_gI_sP, z_gJ_sP, z_gP_sP, z_nx_sP, z_rc_sP, z_rs_sP, z_em_sP, z_mi_sP, z_kd_nw, z_ln_nw, z_gI_nw, z_gJ_nw, z_gP_nw, z_nx_nw, z_rc_nw, z_rs_nw, z_em_nw, z_mi_nw, z_kd_cI, z_ln_cI, z_gI_cI, z_gJ_cI, z_gP_cI, z_nx_cI, z_rc_cI, z_rs_cI, z_em_cI, z_mi_cI, z_kd_cP, z_ln_cP, z_gI_cP, z_gJ_cP, z_gP_cP, z_nx_cP, z_rc_cP, z_rs_cP, z_em_cP, z_mi_cP, z_kd_wI, z_ln_wI, z_gI_wI, z_gJ_wI, z_gP_wI, z_nx_wI, z_rc_wI, z_rs_wI, z_em_wI, z_mi_wI, z_kd_wJ, z_ln_wJ, z_gI_wJ, z_gJ_wJ, z_gP_wJ, z_nx_wJ, z_rc_wJ, z_rs_wJ, z_em_wJ, z_mi_wJ, Math_max, V226, a1, a2, a3, hl, hr, show ¬ max m (2 * ln_ h nA) < 0 by omega, show max m (2 * ln_ h nA) ≤ 1000000 by omega, show max m (2 * ln_ h nA) ≤ rs_ h by omega, show (30 : Nat) ≤ 30 by omega, show (30 : Nat) ≤ 38 by omega, show ¬ ns = nx_ h by omega, i_add, i_mul, i_sub, i_addn, i_lt, i_eq, i_idx, i_vp, true_and, and_true, false_and, and_false, if_true, if_false, Nat.reduceAdd, Nat.reduceMul, Nat.reduceSub, Nat.reduceEqDiff, Option.some.injEq, exists_eq_left', true_or, or_true, false_or, or_false, not_true_eq_false, not_false_eq_true, eq_self, and_self, Nat.reduceLeDiff, decide_true, decide_false, ne_eq, Nat.left_eq_add, Nat.add_eq_left, Nat.add_left_cancel_iff, Nat.add_zero]
    refine ⟨nx_ h, ⟨⟨?_, ?_, ?_, ?_⟩, ⟨Nat.zero_le _, ?_⟩, fun i hi => absurd hi (Nat.not_lt_zero _), List.Pairwise.nil⟩, ?_, ?_⟩
    · simp only [z_kd_sI, z_ln_sI, z_gI_sI, z_gJ_sI, z_gP_sI, z_nx_sI, z_rc_sI, z_rs_sI, z_em_sI, z_mi_sI, z_kd_sJ, z_ln_sJ, z_gI_sJ, z_gJ_sJ, z_gP_sJ, z_nx_sJ, z_rc_sJ, z_rs_sJ, z_em_sJ, z_mi_sJ, z_kd_sP, z_ln_sP, z_gI_sP, z_gJ_sP, z_gP_sP, z_nx_sP, z_rc_sP, z_rs_sP, z_em_sP, z_mi_sP, z_kd_nw, z_ln_nw, z_gI_nw, z_gJ_nw, z_gP_nw, z_nx_nw, z_rc_nw, z_rs_nw, z_em_nw, z_mi_nw, z_kd_cI, z_ln_cI, z_gI_cI, z_gJ_cI, z_gP_cI, z_nx_cI, z_rc_cI, z_rs_cI, z_em_cI, z_mi_cI, z_kd_cP, z_ln_cP, z_gI_cP, z_gJ_cP, z_gP_cP, z_nx_cP, z_rc_cP, z_rs_cP, z_em_cP, z_mi_cP, z_kd_wI, z_ln_wI, z_gI_wI, z_gJ_wI, z_gP_wI, z_nx_wI, z_rc_wI, z_rs_wI, z_em_wI, z_mi_wI, z_kd_wJ, z_ln_wJ, z_gI_wJ, z_gJ_wJ, z_gP_wJ, z_nx_wJ, z_rc_wJ, z_rs_wJ, z_em_wJ, z_mi_wJ, show ¬ ns = nx_ h by omega, if_false, a1]
    · simp only [z_kd_sI, z_ln_sI, z_gI_sI, z_gJ_sI, z_gP_sI, z_nx_sI, z_rc_sI, z_rs_sI, z_em_sI, z_mi_sI, z_kd_sJ, z_ln_sJ, z_gI_sJ, z_gJ_sJ, z_gP_sJ, z_nx_sJ, z_rc_sJ, z_rs_sJ, z_em_sJ, z_mi_sJ, z_kd_sP, z_ln_sP, z_gI_sP, z_gJ_sP, z_gP_sP, z_nx_sP, z_rc_sP, z_rs_sP, z_em_sP, z_mi_sP, z_kd_nw, z_ln_nw, z_gI_nw, z_gJ_nw, z_gP_nw, z_nx_nw, z_rc_nw, z_rs_nw, z_em_nw, z_mi_nw, z_kd_cI, z_ln_cI, z_gI_cI, z_gJ_cI, z_gP_cI, z_nx_cI, z_rc_cI, z_rs_cI, z_em_cI, z_mi_cI, z_kd_cP, z_ln_cP, z_gI_cP, z_gJ_cP, z_gP_cP, z_nx_cP, z_rc_cP, z_rs_cP, z_em_cP, z_mi_cP, z_kd_wI, z_ln_wI, z_gI_wI, z_gJ_wI, z_gP_wI, z_nx_wI, z_rc_wI, z_rs_wI, z_em_wI, z_mi_wI, z_kd_wJ, z_ln_wJ, z_gI_wJ, z_gJ_wJ, z_gP_wJ, z_nx_wJ, z_rc_wJ, z_rs_wJ, z_em_wJ, z_mi_wJ, eq_self, and_self, if_true]
    · simp only [z_kd_sI, z_ln_sI, z_gI_sI, z_gJ_sI, z_gP_sI, z_nx_sI, z_rc_sI, z_rs_sI, z_em_sI, z_mi_sI, z_kd_sJ, z_ln_sJ, z_gI_sJ, z_gJ_sJ, z_gP_sJ, z_nx_sJ, z_rc_sJ, z_rs_sJ, z_em_sJ, z_mi_sJ, z_kd_sP, z_ln_sP, z_gI_sP, z_gJ_sP, z_gP_sP, z_nx_sP, z_rc_sP, z_rs_sP, z_em_sP, z_mi_sP, z_kd_nw, z_ln_nw, z_gI_nw, z_gJ_nw, z_gP_nw, z_nx_nw, z_rc_nw, z_rs_nw, z_em_nw, z_mi_nw, z_kd_cI, z_ln_cI, z_gI_cI, z_gJ_cI, z_gP_cI, z_nx_cI, z_rc_cI, z_rs_cI, z_em_cI, z_mi_cI, z_kd_cP, z_ln_cP, z_gI_cP, z_gJ_cP, z_gP_cP, z_nx_cP, z_rc_cP, z_rs_cP, z_em_cP, z_mi_cP, z_kd_wI, z_ln_wI, z_gI_wI, z_gJ_wI, z_gP_wI, z_nx_wI, z_rc_wI, z_rs_wI, z_em_wI, z_mi_wI, z_kd_wJ, z_ln_wJ, z_gI_wJ, z_gJ_wJ, z_gP_wJ, z_nx_wJ, z_rc_wJ, z_rs_wJ, z_em_wJ, z_mi_wJ, eq_self, if_true]
    · simp only [z_kd_sI, z_ln_sI, z_gI_sI, z_gJ_sI, z_gP_sI, z_nx_sI, z_rc_sI, z_rs_sI, z_em_sI, z_mi_sI, z_kd_sJ, z_ln_sJ, z_gI_sJ, z_gJ_sJ, z_gP_sJ, z_nx_sJ, z_rc_sJ, z_rs_sJ, z_em_sJ, z_mi_sJ, z_kd_sP, z_ln_sP, z_gI_sP, z_gJ_sP, z_gP_sP, z_nx_sP, z_rc_sP, z_rs_sP, z_em_sP, z_mi_sP, z_kd_nw, z_ln_nw, z_gI_nw, z_gJ_nw, z_gP_nw, z_nx_nw, z_rc_nw, z_rs_nw, z_em_nw, z_mi_nw, z_kd_cI, z_ln_cI, z_gI_cI, z_gJ_cI, z_gP_cI, z_nx_cI, z_rc_cI, z_rs_cI, z_em_cI, z_mi_cI, z_kd_cP, z_ln_cP, z_gI_cP, z_gJ_cP, z_gP_cP, z_nx_cP, z_rc_cP, z_rs_cP, z_em_cP, z_mi_cP, z_kd_wI, z_ln_wI, z_gI_wI, z_gJ_wI, z_gP_wI, z_nx_wI, z_rc_wI, z_rs_wI, z_em_wI, z_mi_wI, z_kd_wJ, z_ln_wJ, z_gI_wJ, z_gJ_wJ, z_gP_wJ, z_nx_wJ, z_rc_wJ, z_rs_wJ, z_em_wJ, z_mi_wJ, show ¬ ns = nx_ h by omega, if_false, eq_self, and_self, if_true]; rfl
    · simp only [z_kd_sI, z_ln_sI, z_gI_sI, z_gJ_sI, z_gP_sI, z_nx_sI, z_rc_sI, z_rs_sI, z_em_sI, z_mi_sI, z_kd_sJ, z_ln_sJ, z_gI_sJ, z_gJ_sJ, z_gP_sJ, z_nx_sJ, z_rc_sJ, z_rs_sJ, z_em_sJ, z_mi_sJ, z_kd_sP, z_ln_sP, z_gI_sP, z_gJ_sP, z_gP_sP, z_nx_sP, z_rc_sP, z_rs_sP, z_em_sP, z_mi_sP, z_kd_nw, z_ln_nw, z_gI_nw, z_gJ_nw, z_gP_nw, z_nx_nw, z_rc_nw, z_rs_nw, z_em_nw, z_mi_nw, z_kd_cI, z_ln_cI, z_gI_cI, z_gJ_cI, z_gP_cI, z_nx_cI, z_rc_cI, z_rs_cI, z_em_cI, z_mi_cI, z_kd_cP, z_ln_cP, z_gI_cP, z_gJ_cP, z_gP_cP, z_nx_cP, z_rc_cP, z_rs_cP, z_em_cP, z_mi_cP, z_kd_wI, z_ln_wI, z_gI_wI, z_gJ_wI, z_gP_wI, z_nx_wI, z_rc_wI, z_rs_wI, z_em_wI, z_mi_wI, z_kd_wJ, z_ln_wJ, z_gI_wJ, z_gJ_wJ, z_gP_wJ, z_nx_wJ, z_rc_wJ, z_rs_wJ, z_em_wJ, z_mi_wJ, eq_self, if_true]; omega
    · simp only [z_kd_sI, z_ln_sI, z_gI_sI, z_gJ_sI, z_gP_sI, z_nx_sI, z_rc_sI, z_rs_sI, z_em_sI, z_mi_sI, z_kd_sJ, z_ln_sJ, z_gI_sJ, z_gJ_sJ, z_gP_sJ, z_nx_sJ, z_rc_sJ, z_rs_sJ, z_em_sJ, z_mi_sJ, z_kd_sP, z_ln_sP, z_gI_sP, z_gJ_sP, z_gP_sP, z_nx_sP, z_rc_sP, z_rs_sP, z_em_sP, z_mi_sP, z_kd_nw, z_ln_nw, z_gI_nw, z_gJ_nw, z_gP_nw, z_nx_nw, z_rc_nw, z_rs_nw, z_em_nw, z_mi_nw, z_kd_cI, z_ln_cI, z_gI_cI, z_gJ_cI, z_gP_cI, z_nx_cI, z_rc_cI, z_rs_cI, z_em_cI, z_mi_cI, z_kd_cP, z_ln_cP, z_gI_cP, z_gJ_cP, z_gP_cP, z_nx_cP, z_rc_cP, z_rs_cP, z_em_cP, z_mi_cP, z_kd_wI, z_ln_wI, z_gI_wI, z_gJ_wI, z_gP_wI, z_nx_wI, z_rc_wI, z_rs_wI, z_em_wI, z_mi_wI, z_kd_wJ, z_ln_wJ, z_gI_wJ, z_gJ_wJ, z_gP_wJ, z_nx_wJ, z_rc_wJ, z_rs_wJ, z_em_wJ, z_mi_wJ, eq_self, if_true]; omega
    · have F1 : Fa (fun a _ => a = ns) 0 0 h (sI_ h ns 1 (Int32.ofNat 0)) := (f1.mono (fun _ _ z => z.1)).fa
      have F2 := (F1.nw' (k := 30) (m := max m (2 * ln_ h nA)) (w' := max m (2 * ln_ h nA)) (by simp only [z_kd_sI, z_ln_sI, z_gI_sI, z_gJ_sI, z_gP_sI, z_nx_sI, z_rc_sI, z_rs_sI, z_em_sI, z_mi_sI, z_kd_sJ, z_ln_sJ, z_gI_sJ, z_gJ_sJ, z_gP_sJ, z_nx_sJ, z_rc_sJ, z_rs_sJ, z_em_sJ, z_mi_sJ, z_kd_sP, z_ln_sP, z_gI_sP, z_gJ_sP, z_gP_sP, z_nx_sP, z_rc_sP, z_rs_sP, z_em_sP, z_mi_sP, z_kd_nw, z_ln_nw, z_gI_nw, z_gJ_nw, z_gP_nw, z_nx_nw, z_rc_nw, z_rs_nw, z_em_nw, z_mi_nw, z_kd_cI, z_ln_cI, z_gI_cI, z_gJ_cI, z_gP_cI, z_nx_cI, z_rc_cI, z_rs_cI, z_em_cI, z_mi_cI, z_kd_cP, z_ln_cP, z_gI_cP, z_gJ_cP, z_gP_cP, z_nx_cP, z_rc_cP, z_rs_cP, z_em_cP, z_mi_cP, z_kd_wI, z_ln_wI, z_gI_wI, z_gJ_wI, z_gP_wI, z_nx_wI, z_rc_wI, z_rs_wI, z_em_wI, z_mi_wI, z_kd_wJ, z_ln_wJ, z_gI_wJ, z_gJ_wJ, z_gP_wJ, z_nx_wJ, z_rc_wJ, z_rs_wJ, z_em_wJ, z_mi_wJ]; omega) (by simp only [z_kd_sI, z_ln_sI, z_gI_sI, z_gJ_sI, z_gP_sI, z_nx_sI, z_rc_sI, z_rs_sI, z_em_sI, z_mi_sI, z_kd_sJ, z_ln_sJ, z_gI_sJ, z_gJ_sJ, z_gP_sJ, z_nx_sJ, z_rc_sJ, z_rs_sJ, z_em_sJ, z_mi_sJ, z_kd_sP, z_ln_sP, z_gI_sP, z_gJ_sP, z_gP_sP, z_nx_sP, z_rc_sP, z_rs_sP, z_em_sP, z_mi_sP, z_kd_nw, z_ln_nw, z_gI_nw, z_gJ_nw, z_gP_nw, z_nx_nw, z_rc_nw, z_rs_nw, z_em_nw, z_mi_nw, z_kd_cI, z_ln_cI, z_gI_cI, z_gJ_cI, z_gP_cI, z_nx_cI, z_rc_cI, z_rs_cI, z_em_cI, z_mi_cI, z_kd_cP, z_ln_cP, z_gI_cP, z_gJ_cP, z_gP_cP, z_nx_cP, z_rc_cP, z_rs_cP, z_em_cP, z_mi_cP, z_kd_wI, z_ln_wI, z_gI_wI, z_gJ_wI, z_gP_wI, z_nx_wI, z_rc_wI, z_rs_wI, z_em_wI, z_mi_wI, z_kd_wJ, z_ln_wJ, z_gI_wJ, z_gJ_wJ, z_gP_wJ, z_nx_wJ, z_rc_wJ, z_rs_wJ, z_em_wJ, z_mi_wJ]; omega)).sP (a := ns) (j := 0) (x := some (nx_ h)) (Or.inr rfl)
      exact ⟨by omega, by omega, F2.mono (fun _ _ _ z => z) (by omega) (by omega)⟩
  · simp (disch := omega) only [U67_0, U67_1, U67_2, U67_5, U67_6, U67_9, U67_10, U67_11, U67_14, U67_15, U67_16, U67_17, U67_18, U67_21, U67_22, U67_23, U67_26, U67_28, U67_31, z_kd_sI, z_ln_sI, z_gI_sI, z_gJ_sI, z_gP_sI, z_nx_sI, z_rc_sI, z_rs_sI, z_em_sI, z_mi_sI, z_kd_sJ, z_ln_sJ, z_gI_sJ, z_gJ_sJ, z_gP_sJ, z_nx_sJ, z_rc_sJ, z_rs_sJ, z_em_sJ, z_mi_sJ, z_kd_sP, z_ln_sP, z_gI_sP, z_gJ_sP, z_gP_sP, z_nx_sP, z_rc_sP, z_rs_sP, z_em_sP, z_mi_sP, z_kd_nw, z_ln_nw, z_gI_nw, z_gJ_nw, z_gP_nw, z_nx_nw, z_rc_nw, z_rs_nw, z_em_nw, z_mi_nw, z_kd_cI, z_ln_cI, z_gI_cI, z_gJ_cI, z_gP_cI, z_nx_cI, z_rc_cI, z_rs_cI, z_em_cI, z_mi_cI, z_kd_cP, z_ln_cP, z_gI_cP, z_gJ_cP, z_gP_cP, z_nx_cP, z_rc_cP, z_rs_cP, z_em_cP, z_mi_cP, z_kd_wI, z_ln_wI, z_gI_wI, z_gJ_wI, z_gP_wI, z_nx_wI, z_rc_wI, z_rs_wI, z_em_wI, z_mi_wI, z_kd_wJ, z_ln_wJ, z_gI_wJ, z_gJ_wJ, z_gP_wJ, z_nx_wJ, z_rc_wJ, z_rs_wJ, z_em_wJ, z_mi_wJ, a1, a2, a3, hl, show (30 : Nat) ≤ 30 by omega, show (30 : Nat) ≤ 38 by omega, i_add, i_mul, i_sub, i_addn, i_lt, i_eq, i_idx, i_vp, true_and, and_true, false_and, and_false, if_true, if_false, Nat.reduceAdd, Nat.reduceMul, Nat.reduceSub, Nat.reduceEqDiff, Option.some.injEq, exists_eq_left', true_or, or_true, false_or, or_false, not_true_eq_false, not_false_eq_true, eq_self, and_self, Nat.reduceLeDiff, decide_true, decide_false, ne_eq, Nat.left_eq_add, Nat.add_eq_left, Nat.add_left_cancel_iff, Nat.add_zero]
    refine ⟨nA, ⟨⟨a1, a2, a3, by rw [z_gI_sI, if_pos ⟨rfl, rfl⟩]; rfl⟩, ⟨Nat.zero_le _, b2⟩, fun i hi => absurd hi (Nat.not_lt_zero _), List.Pairwise.nil⟩, by show m ≤ ln_ h nA; omega, Or.inl rfl, h2, ((f1.mono (fun _ _ z => z.1)).fa).mono (fun _ _ _ z => z) (by omega) (by omega)⟩
