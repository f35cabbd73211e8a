/-! ===== Query ===== -/
abbrev Tm : Type := (Nat × Int32 × Int32) ⊕ List Nat
def QT (h : MH_) (q i : Nat) (tm : Tm) : Prop := match tm with
  | .inl (k, a, b) => k < 4 ∧ gI_ h (q + 1) i = Int32.ofNat k ∧ gI_ h (q + 2) i = a ∧ gI_ h (q + 3) i = b
  | .inr t => gI_ h (q + 1) i = Int32.ofNat 4 ∧ Rw h (q + 5 + 2 * i) 24 t
def Qs (h : MH_) (q : Nat) : Prop := (kd_ h q = 9 ∧ gP_ h q 0 = some (q + 1) ∧ gP_ h q 1 = some (q + 2) ∧ gP_ h q 2 = some (q + 3) ∧ gP_ h q 3 = some (q + 4)) ∧ (kd_ h (q + 1) = 30 ∧ ln_ h (q + 1) = 4 ∧ kd_ h (q + 2) = 30 ∧ ln_ h (q + 2) = 4 ∧ kd_ h (q + 3) = 30 ∧ ln_ h (q + 3) = 4 ∧ kd_ h (q + 4) = 36 ∧ ln_ h (q + 4) = 4) ∧ ∀ i, i < 4 → gP_ h (q + 4) i = some (q + 5 + 2 * i)
def Qr (h : MH_) (q : Nat) (tms : List Tm) : Prop := Qs h q ∧ (∀ i, i < 4 → ∃ l, Rw h (q + 5 + 2 * i) 24 l) ∧ tms.length ≤ 4 ∧ gI_ h q 4 = Int32.ofNat tms.length ∧ ∀ i (hi : i < tms.length), QT h q i tms[i]
def SQ (q : Nat) : Nat → Nat → Prop := fun a i => (a = q ∧ i = 4) ∨ a = q + 1 ∨ a = q + 2 ∨ a = q + 3 ∨ (q + 5 ≤ a ∧ a < q + 13)
theorem Qs.fz {S : Nat → Nat → Prop} {h h' : MH_} {q : Nat} (hq : Qs h q) (z : Fz S h h') : Qs h' q := by
  obtain ⟨⟨a1, a2, a3, a4, a5⟩, ⟨b1, b2, b3, b4, b5, b6, b7, b8⟩, c⟩ := hq
  exact ⟨⟨by rw [z.kd, a1], by rw [z.gP, a2], by rw [z.gP, a3], by rw [z.gP, a4], by rw [z.gP, a5]⟩, ⟨by rw [z.kd, b1], by rw [z.ln, b2], by rw [z.kd, b3], by rw [z.ln, b4], by rw [z.kd, b5], by rw [z.ln, b6], by rw [z.kd, b7], by rw [z.ln, b8]⟩, fun i hi => by rw [z.gP, c i hi]⟩
theorem QT.fz {S : Nat → Nat → Prop} {h h' : MH_} {q i : Nat} {tm : Tm} (ht : QT h q i tm) (z : Fz S h h') (hi : i < 4) (hs : ∀ a i, SQ q a i → ¬ S a i) : QT h' q i tm := by
  cases tm with
  | inl x =>
    obtain ⟨k, a, b⟩ := x
    obtain ⟨h1, h2, h3, h4⟩ := ht
    exact ⟨h1, by rw [z.gI (hs _ _ (Or.inr (Or.inl rfl))), h2], by rw [z.gI (hs _ _ (Or.inr (Or.inr (Or.inl rfl)))), h3], by rw [z.gI (hs _ _ (Or.inr (Or.inr (Or.inr (Or.inl rfl))))), h4]⟩
  | inr t =>
    obtain ⟨h1, h2⟩ := ht
    exact ⟨by rw [z.gI (hs _ _ (Or.inr (Or.inl rfl))), h1], h2.fz z (fun a i y => hs a i (by unfold SR at y; unfold SQ; omega))⟩
theorem Qr.fz {S : Nat → Nat → Prop} {h h' : MH_} {q : Nat} {tms : List Tm} (hq : Qr h q tms) (z : Fz S h h') (hs : ∀ a i, SQ q a i → ¬ S a i) : Qr h' q tms := by
  obtain ⟨a, b, c, d, e⟩ := hq
  refine ⟨a.fz z, fun i hi => ?_, c, by rw [z.gI (hs _ _ (Or.inl ⟨rfl, rfl⟩)), d], fun i hi => (e i hi).fz z (by omega) hs⟩
  obtain ⟨l, hl⟩ := b i hi
  exact ⟨l, hl.fz z (fun a i y => hs a i (by unfold SR at y; unfold SQ; omega))⟩
def isNI (as : List Arg) (x : Int32) : Bool := !decide (x < Int32.ofNat 0) && isN as x.toNatClampNeg
def numI (as : List Arg) (x : Int32) : Int32 := numA as x.toNatClampNeg
/-- a term that asks nothing of the text -/
def tm1 (w s : Nat) (as : List Arg) (x : Nat × Int32 × Int32) : Bool :=
  if x.1 = 0 then decide (Int32.ofNat s = x.2.1) else if x.1 = 1 then decide (Int32.ofNat w = x.2.1)
  else if x.1 = 2 then isNI as x.2.1 && !decide (numI as x.2.1 < x.2.2) else isNI as x.2.1 && !decide (x.2.2 < numI as x.2.1)
theorem Event_hasI {h : MH_} {e : Nat} {x : Int32} {as : List Arg} {Q : Rs_ → MH_ → Prop} (he : Ea h e as) : Wp 15 0 [.ref e, .int x] [] h Q ↔ Q (.inl (.int (bz (isNI as x = true)))) h := by
  unfold isNI
  by_cases hx : x < Int32.ofNat 0
  · rw [Event_hasNumber_n (as := as) hx, ← bz_f (p := (!decide (x < Int32.ofNat 0) && isN as x.toNatClampNeg) = true) (by rw [decide_eq_true hx]; simp)]
  · obtain ⟨n, hn, rfl⟩ := i_nat hx
    rw [Event_hasNumber he hn, bz_iff (p := isN as n = true) (q := (!decide (Int32.ofNat n < Int32.ofNat 0) && isN as (Int32.ofNat n).toNatClampNeg) = true) (by rw [decide_eq_false hx, i_idx hn]; simp)]
theorem Query_holdsUnprinted {h : MH_} {q e i w s k : Nat} {a b : Int32} {t : Int64} {tms : List Tm} {as : List Arg} {Q : Rs_ → MH_ → Prop} (hq : Qs h q) (hi : i < 4) (ht : QT h q i (.inl (k, a, b))) (he : Ea h e as) (hw : Ew h e w s t) : Wp 81 0 [.ref q, .int (Int32.ofNat i), .ref e] [] h Q ↔ Q (.inl (.int (bz (tm1 w s as (k, a, b) = true)))) h := by
  obtain ⟨⟨a1, a2, a3, a4, a5⟩, ⟨b1, b2, b3, b4, b5, b6, b7, b8⟩, c⟩ := hq
  obtain ⟨t1, t2, t3, t4⟩ := ht
  have num : ∀ (y : Int32) (R : Rs_ → MH_ → Prop), isNI as y = true → (Wp 20 0 [.ref e, .int y] [] h R ↔ R (.inl (.int (numI as y))) h) := by
    intro y R hy
    unfold isNI at hy
    have hy0 : ¬ y < Int32.ofNat 0 := by
      intro z; rw [decide_eq_true z] at hy; simp at hy
    obtain ⟨n, hn, rfl⟩ := i_nat hy0
    unfold numI
    rw [Event_numberAt he hn, i_idx hn]
  rcases (show k = 0 ∨ k = 1 ∨ k = 2 ∨ k = 3 by omega) with rfl | rfl | rfl | rfl
  · simp (disch := omega) only [U81_0, U81_1, U81_4, U81_5, U81_6_0 (s0 := 0), U81_6_1 (s0 := 0), U81_6_2 (s0 := 0), U81_6_d, U81_32, U81_33, U81_36, U81_37, U81_40, U81_41, U81_42, U81_45, U81_46, U81_49, U81_50, U81_51, U81_52, U81_55, U81_56, U81_59, U81_60, U81_61, U81_64, U81_65, U81_68, U81_69, U81_70, U81_71, U81_72, U81_75, U81_76, U81_77, U81_80, U81_83, U81_84, U81_85, U81_88, U81_89, U81_90, U81_93, U81_94, U81_97, U81_98, U81_99, U81_102, U81_103, U81_106, U81_107, U81_108, U81_109, U81_110, U81_113, U81_114, U81_115, U81_118, U81_121, U81_122, U81_123, U81_126, U81_127, U81_128, U81_131, U81_132, U81_135, U81_136, U81_137, U81_140, U81_141, U81_144, U81_145, U21_0, U21_1, U21_4, V21, a1, a2, a3, b1, b2, b3, b4, t2, t3, he.1.1, hw.2.1, hi, i_add, i_mul, i_sub, i_addn, i_lt, i_eq, i_idx, i_vp, true_and, and_true, false_and, and_false, if_true, if_false, Nat.reduceAdd, Nat.reduceMul, Nat.reduceSub, Nat.reduceEqDiff, Option.some.injEq, exists_eq_left', true_or, or_true, false_or, or_false, not_true_eq_false, not_false_eq_true, eq_self, and_self, Nat.reduceLeDiff, decide_true, decide_false, ne_eq, Nat.left_eq_add, Nat.add_eq_left, Nat.add_left_cancel_iff, Nat.add_zero]
    by_cases h1 : Int32.ofNat s = a
    · rw [if_pos h1, bz_t (p := tm1 w s as (0, a, b) = true) (by unfold tm1; simp [h1])]
    · rw [if_neg h1, bz_f (p := tm1 w s as (0, a, b) = true) (by unfold tm1; simp [h1])]
  · simp (disch := omega) only [U81_0, U81_1, U81_4, U81_5, U81_6_0 (s0 := 0), U81_6_1 (s0 := 0), U81_6_2 (s0 := 0), U81_6_d, U81_32, U81_33, U81_36, U81_37, U81_40, U81_41, U81_42, U81_45, U81_46, U81_49, U81_50, U81_51, U81_52, U81_55, U81_56, U81_59, U81_60, U81_61, U81_64, U81_65, U81_68, U81_69, U81_70, U81_71, U81_72, U81_75, U81_76, U81_77, U81_80, U81_83, U81_84, U81_85, U81_88, U81_89, U81_90, U81_93, U81_94, U81_97, U81_98, U81_99, U81_102, U81_103, U81_106, U81_107, U81_108, U81_109, U81_110, U81_113, U81_114, U81_115, U81_118, U81_121, U81_122, U81_123, U81_126, U81_127, U81_128, U81_131, U81_132, U81_135, U81_136, U81_137, U81_140, U81_141, U81_144, U81_145, U25_0, U25_1, U25_4, V25, a1, a2, a3, b1, b2, b3, b4, t2, t3, he.1.1, hw.1, hi, i_add, i_mul, i_sub, i_addn, i_lt, i_eq, i_idx, i_vp, true_and, and_true, false_and, and_false, if_true, if_false, Nat.reduceAdd, Nat.reduceMul, Nat.reduceSub, Nat.reduceEqDiff, Option.some.injEq, exists_eq_left', true_or, or_true, false_or, or_false, not_true_eq_false, not_false_eq_true, eq_self, and_self, Nat.reduceLeDiff, decide_true, decide_false, ne_eq, Nat.left_eq_add, Nat.add_eq_left, Nat.add_left_cancel_iff, Nat.add_zero]
    by_cases h1 : Int32.ofNat w = a
    · rw [if_pos h1, bz_t (p := tm1 w s as (1, a, b) = true) (by unfold tm1; simp [h1])]
    · rw [if_neg h1, bz_f (p := tm1 w s as (1, a, b) = true) (by unfold tm1; simp [h1])]
  · by_cases h0 : isNI as a = true
    · simp (disch := omega) only [U81_0, U81_1, U81_4, U81_5, U81_6_0 (s0 := 0), U81_6_1 (s0 := 0), U81_6_2 (s0 := 0), U81_6_d, U81_32, U81_33, U81_36, U81_37, U81_40, U81_41, U81_42, U81_45, U81_46, U81_49, U81_50, U81_51, U81_52, U81_55, U81_56, U81_59, U81_60, U81_61, U81_64, U81_65, U81_68, U81_69, U81_70, U81_71, U81_72, U81_75, U81_76, U81_77, U81_80, U81_83, U81_84, U81_85, U81_88, U81_89, U81_90, U81_93, U81_94, U81_97, U81_98, U81_99, U81_102, U81_103, U81_106, U81_107, U81_108, U81_109, U81_110, U81_113, U81_114, U81_115, U81_118, U81_121, U81_122, U81_123, U81_126, U81_127, U81_128, U81_131, U81_132, U81_135, U81_136, U81_137, U81_140, U81_141, U81_144, U81_145, Event_hasI he, V15, num _ _ h0, V20, bz_0, a1, a2, a3, a4, b1, b2, b3, b4, b5, b6, t2, t3, t4, he.1.1, h0, hi, i_add, i_mul, i_sub, i_addn, i_lt, i_eq, i_idx, i_vp, true_and, and_true, false_and, and_false, if_true, if_false, Nat.reduceAdd, Nat.reduceMul, Nat.reduceSub, Nat.reduceEqDiff, Option.some.injEq, exists_eq_left', true_or, or_true, false_or, or_false, not_true_eq_false, not_false_eq_true, eq_self, and_self, Nat.reduceLeDiff, decide_true, decide_false, ne_eq, Nat.left_eq_add, Nat.add_eq_left, Nat.add_left_cancel_iff, Nat.add_zero]
      by_cases h1 : numI as a < b
      · rw [if_pos h1, bz_f (p := tm1 w s as (2, a, b) = true) (by unfold tm1; simp [h1])]
      · rw [if_neg h1, bz_t (p := tm1 w s as (2, a, b) = true) (by unfold tm1; simp [h1, h0])]
    · simp (disch := omega) only [U81_0, U81_1, U81_4, U81_5, U81_6_0 (s0 := 0), U81_6_1 (s0 := 0), U81_6_2 (s0 := 0), U81_6_d, U81_32, U81_33, U81_36, U81_37, U81_40, U81_41, U81_42, U81_45, U81_46, U81_49, U81_50, U81_51, U81_52, U81_55, U81_56, U81_59, U81_60, U81_61, U81_64, U81_65, U81_68, U81_69, U81_70, U81_71, U81_72, U81_75, U81_76, U81_77, U81_80, U81_83, U81_84, U81_85, U81_88, U81_89, U81_90, U81_93, U81_94, U81_97, U81_98, U81_99, U81_102, U81_103, U81_106, U81_107, U81_108, U81_109, U81_110, U81_113, U81_114, U81_115, U81_118, U81_121, U81_122, U81_123, U81_126, U81_127, U81_128, U81_131, U81_132, U81_135, U81_136, U81_137, U81_140, U81_141, U81_144, U81_145, Event_hasI he, V15, bz_0, a1, a2, a3, b1, b2, b3, b4, t2, t3, he.1.1, h0, hi, i_add, i_mul, i_sub, i_addn, i_lt, i_eq, i_idx, i_vp, true_and, and_true, false_and, and_false, if_true, if_false, Nat.reduceAdd, Nat.reduceMul, Nat.reduceSub, Nat.reduceEqDiff, Option.some.injEq, exists_eq_left', true_or, or_true, false_or, or_false, not_true_eq_false, not_false_eq_true, eq_self, and_self, Nat.reduceLeDiff, decide_true, decide_false, ne_eq, Nat.left_eq_add, Nat.add_eq_left, Nat.add_left_cancel_iff, Nat.add_zero]
      rw [← bz_f (p := tm1 w s as (2, a, b) = true) (by unfold tm1; simp [h0]), if_pos (by decide)]
  · by_cases h0 : isNI as a = true
    · simp (disch := omega) only [U81_0, U81_1, U81_4, U81_5, U81_6_0 (s0 := 0), U81_6_1 (s0 := 0), U81_6_2 (s0 := 0), U81_6_d, U81_32, U81_33, U81_36, U81_37, U81_40, U81_41, U81_42, U81_45, U81_46, U81_49, U81_50, U81_51, U81_52, U81_55, U81_56, U81_59, U81_60, U81_61, U81_64, U81_65, U81_68, U81_69, U81_70, U81_71, U81_72, U81_75, U81_76, U81_77, U81_80, U81_83, U81_84, U81_85, U81_88, U81_89, U81_90, U81_93, U81_94, U81_97, U81_98, U81_99, U81_102, U81_103, U81_106, U81_107, U81_108, U81_109, U81_110, U81_113, U81_114, U81_115, U81_118, U81_121, U81_122, U81_123, U81_126, U81_127, U81_128, U81_131, U81_132, U81_135, U81_136, U81_137, U81_140, U81_141, U81_144, U81_145, U81_6_d (s0 := Int32.ofNat 3) (by decide), Event_hasI he, V15, num _ _ h0, V20, bz_0, a1, a2, a3, a4, b1, b2, b3, b4, b5, b6, t2, t3, t4, he.1.1, h0, hi, i_add, i_mul, i_sub, i_addn, i_lt, i_eq, i_idx, i_vp, true_and, and_true, false_and, and_false, if_true, if_false, Nat.reduceAdd, Nat.reduceMul, Nat.reduceSub, Nat.reduceEqDiff, Option.some.injEq, exists_eq_left', true_or, or_true, false_or, or_false, not_true_eq_false, not_false_eq_true, eq_self, and_self, Nat.reduceLeDiff, decide_true, decide_false, ne_eq, Nat.left_eq_add, Nat.add_eq_left, Nat.add_left_cancel_iff, Nat.add_zero]
      by_cases h1 : b < numI as a
      · rw [if_pos h1, bz_f (p := tm1 w s as (3, a, b) = true) (by unfold tm1; simp [h1])]
      · rw [if_neg h1, bz_t (p := tm1 w s as (3, a, b) = true) (by unfold tm1; simp [h1, h0])]
    · simp (disch := omega) only [U81_0, U81_1, U81_4, U81_5, U81_6_0 (s0 := 0), U81_6_1 (s0 := 0), U81_6_2 (s0 := 0), U81_6_d, U81_32, U81_33, U81_36, U81_37, U81_40, U81_41, U81_42, U81_45, U81_46, U81_49, U81_50, U81_51, U81_52, U81_55, U81_56, U81_59, U81_60, U81_61, U81_64, U81_65, U81_68, U81_69, U81_70, U81_71, U81_72, U81_75, U81_76, U81_77, U81_80, U81_83, U81_84, U81_85, U81_88, U81_89, U81_90, U81_93, U81_94, U81_97, U81_98, U81_99, U81_102, U81_103, U81_106, U81_107, U81_108, U81_109, U81_110, U81_113, U81_114, U81_115, U81_118, U81_121, U81_122, U81_123, U81_126, U81_127, U81_128, U81_131, U81_132, U81_135, U81_136, U81_137, U81_140, U81_141, U81_144, U81_145, U81_6_d (s0 := Int32.ofNat 3) (by decide), Event_hasI he, V15, bz_0, a1, a2, a3, b1, b2, b3, b4, t2, t3, he.1.1, h0, hi, i_add, i_mul, i_sub, i_addn, i_lt, i_eq, i_idx, i_vp, true_and, and_true, false_and, and_false, if_true, if_false, Nat.reduceAdd, Nat.reduceMul, Nat.reduceSub, Nat.reduceEqDiff, Option.some.injEq, exists_eq_left', true_or, or_true, false_or, or_false, not_true_eq_false, not_false_eq_true, eq_self, and_self, Nat.reduceLeDiff, decide_true, decide_false, ne_eq, Nat.left_eq_add, Nat.add_eq_left, Nat.add_left_cancel_iff, Nat.add_zero]
      rw [← bz_f (p := tm1 w s as (3, a, b) = true) (by unfold tm1; simp [h0]), if_pos (by decide)]
def ptH (pl : List Nat) (tm : Tm) : Bool := match tm with | .inl _ => true | .inr t => cont pl t
theorem Query_partsStandIn {h : MH_} {q r c : Nat} {tms : List Tm} {pl : List Nat} {Q : Rs_ → MH_ → Prop} (hq : Qr h q tms) (hr : Rw h r c pl) : Wp 83 0 [.ref q, .ref r, .null] [] h Q ↔ Q (.inl (.int (bz (tms.all (ptH pl) = true)))) h := by
  obtain ⟨⟨⟨a1, a2, a3, a4, a5⟩, ⟨b1, b2, b3, b4, b5, b6, b7, b8⟩, c1⟩, d1, d2, d3, d4⟩ := hq
  have key : ∀ n k, k + n = tms.length → (Wp 83 2 [.ref q, .ref r, .int (Int32.ofNat k)] [] h Q ↔ Q (.inl (.int (bz ((tms.drop k).all (ptH pl) = true)))) h) := by
    intro n
    induction n with
    | zero =>
      intro k hk
      rw [U83_2]
      simp (disch := omega) only [U83_0, U83_1, U83_3, U83_4, U83_7, U83_10, U83_11, U83_14, U83_15, U83_16, U83_17, U83_20, U83_21, U83_22, U83_25, U83_26, U83_27, U83_30, U83_33, U83_34, U83_35, U83_38, U83_41, U83_42, a1, d3, show ¬ k < tms.length by omega, i_add, i_mul, i_sub, i_addn, i_lt, i_eq, i_idx, i_vp, true_and, and_true, false_and, and_false, if_true, if_false, Nat.reduceAdd, Nat.reduceMul, Nat.reduceSub, Nat.reduceEqDiff, Option.some.injEq, exists_eq_left', true_or, or_true, false_or, or_false, not_true_eq_false, not_false_eq_true, eq_self, and_self, Nat.reduceLeDiff, decide_true, decide_false, ne_eq, Nat.left_eq_add, Nat.add_eq_left, Nat.add_left_cancel_iff, Nat.add_zero]
      rw [List.drop_of_length_le (by omega), bz_t (p := ([] : List Tm).all (ptH pl) = true) rfl]
    | succ n ih =>
      intro k hk
      have hkl : k < tms.length := by omega
      have ht := d4 k hkl
      rw [U83_2, List.drop_eq_getElem_cons hkl, List.all_cons]
      cases hx : tms[k] with
      | inl x =>
        rw [hx] at ht
        obtain ⟨kk, a, b⟩ := x
        obtain ⟨t1, t2, t3, t4⟩ := ht
        simp (disch := omega) only [U83_0, U83_1, U83_3, U83_4, U83_7, U83_10, U83_11, U83_14, U83_15, U83_16, U83_17, U83_20, U83_21, U83_22, U83_25, U83_26, U83_27, U83_30, U83_33, U83_34, U83_35, U83_38, U83_41, U83_42, a1, a2, b1, b2, d3, t2, hkl, show k < 4 by omega, show ¬ kk = 4 by omega, ih (k + 1) (by omega), ptH, Bool.true_and, i_add, i_mul, i_sub, i_addn, i_lt, i_eq, i_idx, i_vp, true_and, and_true, false_and, and_false, if_true, if_false, Nat.reduceAdd, Nat.reduceMul, Nat.reduceSub, Nat.reduceEqDiff, Option.some.injEq, exists_eq_left', true_or, or_true, false_or, or_false, not_true_eq_false, not_false_eq_true, eq_self, and_self, Nat.reduceLeDiff, decide_true, decide_false, ne_eq, Nat.left_eq_add, Nat.add_eq_left, Nat.add_left_cancel_iff, Nat.add_zero]
      | inr t =>
        rw [hx] at ht
        obtain ⟨t1, t2⟩ := ht
        simp (disch := omega) only [U83_0, U83_1, U83_3, U83_4, U83_7, U83_10, U83_11, U83_14, U83_15, U83_16, U83_17, U83_20, U83_21, U83_22, U83_25, U83_26, U83_27, U83_30, U83_33, U83_34, U83_35, U83_38, U83_41, U83_42, a1, a2, a5, b1, b2, b7, b8, d3, t1, hr.1, hkl, show k < 4 by omega, c1 k (by omega), Row_contains hr t2, V88, bz_0, ih (k + 1) (by omega), show (34 : Nat) ≤ 36 by decide, show (36 : Nat) ≤ 36 by decide, i_add, i_mul, i_sub, i_addn, i_lt, i_eq, i_idx, i_vp, true_and, and_true, false_and, and_false, if_true, if_false, Nat.reduceAdd, Nat.reduceMul, Nat.reduceSub, Nat.reduceEqDiff, Option.some.injEq, exists_eq_left', true_or, or_true, false_or, or_false, not_true_eq_false, not_false_eq_true, eq_self, and_self, Nat.reduceLeDiff, decide_true, decide_false, ne_eq, Nat.left_eq_add, Nat.add_eq_left, Nat.add_left_cancel_iff, Nat.add_zero]
        by_cases hc : cont pl t = true
        · rw [if_neg (fun z => z hc), bz_iff (p := (ptH pl (.inr t) && (tms.drop (k + 1)).all (ptH pl)) = true) (q := (tms.drop (k + 1)).all (ptH pl) = true) (by simp only [ptH, hc, Bool.true_and])]
        · rw [if_pos hc, ← bz_f (p := (ptH pl (.inr t) && (tms.drop (k + 1)).all (ptH pl)) = true) (by simp only [ptH, hc, Bool.false_and]; decide)]
  simp (disch := omega) only [U83_0, U83_1, U83_3, U83_4, U83_7, U83_10, U83_11, U83_14, U83_15, U83_16, U83_17, U83_20, U83_21, U83_22, U83_25, U83_26, U83_27, U83_30, U83_33, U83_34, U83_35, U83_38, U83_41, U83_42, i_add, i_mul, i_sub, i_addn, i_lt, i_eq, i_idx, i_vp, true_and, and_true, false_and, and_false, if_true, if_false, Nat.reduceAdd, Nat.reduceMul, Nat.reduceSub, Nat.reduceEqDiff, Option.some.injEq, exists_eq_left', true_or, or_true, false_or, or_false, not_true_eq_false, not_false_eq_true, eq_self, and_self, Nat.reduceLeDiff, decide_true, decide_false, ne_eq, Nat.left_eq_add, Nat.add_eq_left, Nat.add_left_cancel_iff, Nat.add_zero]
  exact key tms.length 0 (by omega)
