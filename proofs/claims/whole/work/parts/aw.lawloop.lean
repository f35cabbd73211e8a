/-! ===== the law: its loop (generated) ===== -/
theorem and31 (v : Int32) : v &&& Int32.ofNat 31 = Int32.ofNat (bvI v % 32) := by
  apply bvI_inj
  rw [bvI_of]
  unfold bvI
  rw [Int32.toBitVec_and, BitVec.toNat_and]
  have : v.toBitVec.toNat &&& 31 = v.toBitVec.toNat % 32 := Nat.and_two_pow_sub_one_eq_mod _ 5
  show v.toBitVec.toNat &&& 31 = _
  rw [this]
  omega
theorem sub5 {n i : Nat} (hn : n < 1000) (hi : i < 1000) : Int32.ofNat n - Int32.ofNat 5 < Int32.ofNat i ↔ n < i + 5 := by
  rcases Nat.lt_or_ge n 5 with z | z
  · refine ⟨fun _ => by omega, fun _ => ?_⟩
    have h1 : Int32.ofNat n - Int32.ofNat 5 < Int32.ofNat 0 := by
      rcases (show n = 0 ∨ n = 1 ∨ n = 2 ∨ n = 3 ∨ n = 4 by omega) with rfl | rfl | rfl | rfl | rfl <;> decide
    have h2 : ¬ Int32.ofNat i < Int32.ofNat 0 := by rw [i_lt (by omega) (by omega)]; omega
    exact Int32.lt_of_lt_of_le h1 (Int32.not_lt.mp h2)
  · rw [i_sub z, i_lt (by omega) (by omega)]; omega
def Qone : Rs_ → MH_ → Prop := fun v _ => v = .inl (.int (Int32.ofNat 1))
section
variable {x B C sc n : Nat} {sg : Nat → Int32}
theorem law_loop (hn : n ≤ 240) : ∀ c i h y5 y6 tx si nm ar wr fl du cu es br tm, n ≤ i + 5 * c + 4 → i ≤ 240 → Ls h x (B + 20 * c) (C + 20000 * c) sc n sg tx si nm ar wr fl du cu es br tm → Jv si wr fl cu es → Wp 238 23 [.ref sc, .ref x, .ref (x + 71), .ref (x + 103), .int (Int32.ofNat i), y5, y6, .null] [] h Qone := by
  intro c
  induction c with
  | zero =>
    intro i h y5 y6 tx si nm ar wr fl du cu es br tm hc hi D J
    obtain ⟨E, X, ho, s1, s2, s3, s4⟩ := D
    rw [U238_23]
    simp (disch := omega) only [U238_25, U238_26, U238_27, U238_28, U238_29, U238_1271, U238_1272, s2, s3, show (30 : Nat) ≤ 37 by omega, show (37 : Nat) ≤ 38 by omega, sub5, show n < i + 5 by omega, i_lt, i_eq, true_and, and_true, false_and, and_false, if_true, if_false, Nat.reduceAdd, Nat.reduceMul, Nat.reduceSub, Nat.reduceEqDiff, Option.some.injEq, exists_eq_left', true_or, or_true, false_or, or_false, not_true_eq_false, not_false_eq_true, eq_self, and_self, Nat.reduceLeDiff, decide_true, decide_false, ne_eq, Nat.left_eq_add, Nat.add_eq_left, Nat.add_left_cancel_iff, Nat.add_zero]
    rfl
  | succ c ih =>
    intro i h y5 y6 tx si nm ar wr fl du cu es br tm hc hi D J
    rw [show B + 20 * (c + 1) = (B + 20 * c) + 20 by omega, show C + 20000 * (c + 1) = (C + 20000 * c) + 20000 by omega] at D
    obtain ⟨E, X, ho, s1, s2, s3, s4⟩ := id D
    rw [U238_23]
    by_cases hex : n < i + 5
    · simp (disch := omega) only [U238_25, U238_26, U238_27, U238_28, U238_29, U238_1271, U238_1272, s2, s3, show (30 : Nat) ≤ 37 by omega, show (37 : Nat) ≤ 38 by omega, sub5, hex, i_lt, i_eq, true_and, and_true, false_and, and_false, if_true, if_false, Nat.reduceAdd, Nat.reduceMul, Nat.reduceSub, Nat.reduceEqDiff, Option.some.injEq, exists_eq_left', true_or, or_true, false_or, or_false, not_true_eq_false, not_false_eq_true, eq_self, and_self, Nat.reduceLeDiff, decide_true, decide_false, ne_eq, Nat.left_eq_add, Nat.add_eq_left, Nat.add_left_cancel_iff, Nat.add_zero]
      rfl
    · have hi5 : i + 5 ≤ n := by omega
      have K : ∀ h1 z5 z6 tx si nm ar wr fl du cu es br tm, Ls h1 x (B + 20 * c) (C + 20000 * c) sc n sg tx si nm ar wr fl du cu es br tm → Jv si wr fl cu es → Wp 238 1265 [.ref sc, .ref x, .ref (x + 71), .ref (x + 103), .int (Int32.ofNat i), z5, z6, .null] [] h1 Qone := by
        intro h1 z5 z6 tx si nm ar wr fl du cu es br tm D1 J1
        simp (disch := omega) only [U238_1265, U238_1268, i_add, true_and, and_true, false_and, and_false, if_true, if_false, Nat.reduceAdd, Nat.reduceMul, Nat.reduceSub, Nat.reduceEqDiff, Option.some.injEq, exists_eq_left', true_or, or_true, false_or, or_false, not_true_eq_false, not_false_eq_true, eq_self, and_self, Nat.reduceLeDiff, decide_true, decide_false, ne_eq, Nat.left_eq_add, Nat.add_eq_left, Nat.add_left_cancel_iff, Nat.add_zero]
        exact ih (i + 5) h1 z5 z6 tx si nm ar wr fl du cu es br tm (by omega) (by omega) D1 J1
      simp (disch := omega) only [U238_25, U238_26, U238_27, U238_28, U238_29, U238_32, U238_33, U238_35, U238_36, U238_38, s2, s3, s4, show (30 : Nat) ≤ 37 by omega, show (37 : Nat) ≤ 38 by omega, sub5, hex, show i < n by omega, and31, i_lt, i_eq, i_idx, i_vp, true_and, and_true, false_and, and_false, if_true, if_false, Nat.reduceAdd, Nat.reduceMul, Nat.reduceSub, Nat.reduceEqDiff, Option.some.injEq, exists_eq_left', true_or, or_true, false_or, or_false, not_true_eq_false, not_false_eq_true, eq_self, and_self, Nat.reduceLeDiff, decide_true, decide_false, ne_eq, Nat.left_eq_add, Nat.add_eq_left, Nat.add_left_cancel_iff, Nat.add_zero]
      have h32 : bvI (sg i) % 32 < 32 := Nat.mod_lt _ (by decide)
      generalize bvI (sg i) % 32 = v at h32
      rcases Nat.lt_or_ge v 24 with hv | hv
      · rcases (show v = 0 ∨ v = 1 ∨ v = 2 ∨ v = 3 ∨ v = 4 ∨ v = 5 ∨ v = 6 ∨ v = 7 ∨ v = 8 ∨ v = 9 ∨ v = 10 ∨ v = 11 ∨ v = 12 ∨ v = 13 ∨ v = 14 ∨ v = 15 ∨ v = 16 ∨ v = 17 ∨ v = 18 ∨ v = 19 ∨ v = 20 ∨ v = 21 ∨ v = 22 ∨ v = 23 by omega) with rfl | rfl | rfl | rfl | rfl | rfl | rfl | rfl | rfl | rfl | rfl | rfl | rfl | rfl | rfl | rfl | rfl | rfl | rfl | rfl | rfl | rfl | rfl | rfl
        · rw [U238_39_0 (s0 := 0)]; exact op_type D J hi5 hn K
        · rw [U238_39_1 (s0 := 0)]; exact op_site D J hi5 hn K
        · rw [U238_39_2 (s0 := 0)]; exact op_name D J hi5 hn K
        · rw [U238_39_3 (s0 := 0)]; exact op_arg D J hi5 hn K
        · rw [U238_39_4 (s0 := 0)]; exact op_text D J hi5 hn K
        · rw [U238_39_5 (s0 := 0)]; exact op_log D J hi5 hn K
        · rw [U238_39_6 (s0 := 0)]; exact op_flush D J hi5 hn K
        · rw [U238_39_7 (s0 := 0)]; exact op_rotate D J hi5 hn K
        · rw [U238_39_8 (s0 := 0)]; exact op_crash D J hi5 hn K
        · rw [U238_39_9 (s0 := 0)]; exact op_size D J hi5 hn K
        · rw [U238_39_10 (s0 := 0)]; exact op_byteOf D J hi5 hn K
        · rw [U238_39_11 (s0 := 0)]; exact op_damage D J hi5 hn K
        · rw [U238_39_12 (s0 := 0)]; exact op_open D J hi5 hn K
        · rw [U238_39_13 (s0 := 0)]; exact op_broken D J hi5 hn K
        · rw [U238_39_14 (s0 := 0)]; exact op_time D J hi5 hn K
        · rw [U238_39_15 (s0 := 0)]; exact op_about D J hi5 hn K
        · rw [U238_39_16 (s0 := 0)]; exact op_length D J hi5 hn K
        · rw [U238_39_17 (s0 := 0)]; exact op_letter D J hi5 hn K
        · rw [U238_39_18 (s0 := 0)]; exact op_where D J hi5 hn K
        · rw [U238_39_19 (s0 := 0)]; exact op_search D J hi5 hn K
        · rw [U238_39_20 (s0 := 0)]; exact op_clear D J hi5 hn K
        · rw [U238_39_21 (s0 := 0)]; exact op_find D J hi5 hn K
        · rw [U238_39_22 (s0 := 0)]; exact op_count D J hi5 hn K
        · rw [U238_39_23 (s0 := 0)]; exact op_distinct D J hi5 hn K
      · rw [U238_39_d (s0 := Int32.ofNat v) (Or.inr (by rw [Int32.toInt_ofNat_of_lt (by omega)]; omega))]
        exact K h y5 y6 tx si nm ar wr fl du cu es br tm ⟨EL.mono (n := 20) (w := 20000) E, X, ho, s1, s2, s3, s4⟩ J
theorem law_ok {h0 : MH_} {sc n : Nat} (hs : sc < nx_ h0) (hk : kd_ h0 sc = 37) (hl : ln_ h0 sc = n) (hn : n ≤ 240) (he : em_ h0 < nx_ h0) (hek : kd_ h0 (em_ h0) = 38) (hel : ln_ h0 (em_ h0) = 0) (hrc : 100000 ≤ rc_ h0) (hrs : 3000000 ≤ rs_ h0) : Wp 238 0 [.ref sc, .null, .null, .null, .null, .null, .null, .null] [] h0 Qone := by
  refine law_init rfl (by omega) (by omega) (fun h s => ?_)
  have E : EL h (nx_ h0) (0 + 20 * 48) (0 + 20000 * 48) [] [] (fun _ => []) [] (fun _ => ([], 0, 0)) [] 0 false [] 0 [] := s.el he hek hel (by omega) (by omega)
  obtain ⟨g1, g2, g3⟩ := s.2.2.2.2.2 sc hs
  exact law_loop hn 48 0 h .null .null _ _ _ _ _ _ _ _ _ _ _ (by omega) (by omega) ⟨E, s.mm, ⟨s.kd (a := 103) rfl (by decide) rfl, s.ln (a := 103) rfl (by decide) rfl⟩, hs, by rw [g1]; exact hk, by rw [g2]; exact hl, fun i => (g3 i).1⟩ ⟨fun w hw => JW.nil (by omega), fun _ => rfl, fun y hy => absurd hy List.not_mem_nil⟩
end
