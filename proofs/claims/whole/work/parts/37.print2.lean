/-! ===== Printer, the rest ===== -/
def prS (x : Int32) (bp : Nat) : List Nat := (if x < Int32.ofNat 0 then [45] else []) ++ prD x.toInt.natAbs bp 10
theorem abs64 (x : Int32) : (if x.toInt64 < Int64.ofNat 0 then -x.toInt64 else x.toInt64) = Int64.ofNat x.toInt.natAbs := by
  have h1 := x.le_toInt
  have h2 := x.toInt_lt
  apply Int64.toInt_inj.mp
  rw [Int64.toInt_ofNat_of_lt (by omega)]
  by_cases h : x.toInt64 < Int64.ofNat 0
  · rw [if_pos h]
    rw [Int64.lt_iff_toInt_lt, Int32.toInt_toInt64, show (Int64.ofNat 0).toInt = 0 by decide] at h
    rw [Int64.toInt_neg, Int32.toInt_toInt64, Int.bmod_eq_of_le (by omega) (by omega)]
    omega
  · rw [if_neg h]
    rw [Int64.lt_iff_toInt_lt, Int32.toInt_toInt64, show (Int64.ofNat 0).toInt = 0 by decide] at h
    rw [Int32.toInt_toInt64]
    omega
theorem Math_abs {h : MH_} {y : Int64} {Q : Rs_ → MH_ → Prop} : Wp 225 0 [.long y, .null] [] h Q ↔ Q (.inl (.long (if y < Int64.ofNat 0 then -y else y))) h := by
  simp (disch := omega) only [U225_0, U225_1, U225_2, U225_3, U225_6, U225_7, U225_8, U225_11, U225_12, c_lt, i_add, i_mul, i_sub, i_addn, i_lt, i_eq, i_idx, i_vp, true_and, and_true, false_and, and_false, if_true, if_false, Nat.reduceAdd, Nat.reduceMul, Nat.reduceSub, Nat.reduceEqDiff, Option.some.injEq, exists_eq_left', true_or, or_true, false_or, or_false, not_true_eq_false, not_false_eq_true, eq_self, and_self, Nat.reduceLeDiff, decide_true, decide_false, ne_eq, Nat.left_eq_add, Nat.add_eq_left, Nat.add_left_cancel_iff, Nat.add_zero]
  by_cases h1 : y < Int64.ofNat 0
  · rw [if_pos h1, if_pos h1]
  · rw [if_neg h1, if_neg h1]
theorem mask32 (x : Int32) : x.toInt64 &&& Int64.ofNat 4294967295 = Int64.ofNat (bvI x) := by
  apply bvJ_inj
  have h1 : bvJ (x.toInt64 &&& Int64.ofNat 4294967295) = bvJ x.toInt64 % 4294967296 := by
    unfold bvJ
    rw [Int64.toBitVec_and, BitVec.toNat_and]
    exact Nat.and_two_pow_sub_one_eq_mod _ 32
  have h2 := bvI_lt x
  rw [h1, bvJ_toInt64, bvJ_of]
  split <;> omega
theorem prS_len {x : Int32} {bp : Nat} : (prS x bp).length ≤ 14 := by
  unfold prS
  have := @prD_len x.toInt.natAbs bp 10
  rw [List.length_append]
  split
  · rw [List.length_singleton]; omega
  · rw [List.length_nil]; omega
theorem Printer_printSigned {h : MH_} {p bp : Nat} {x : Int32} {l : List Nat} (hp : Pr h p) (hr : Rw h (p + 4) 176 l) (hbp : bp < 12) (hl : l.length + 14 ≤ 176) : Wp 73 0 [.ref p, .int x, .int (Int32.ofNat bp)] [] h (fun w h' => w = .inl .null ∧ Rw h' (p + 4) 176 (l ++ prS x bp) ∧ Fz (SP p) h h') := by
  have h1 := x.le_toInt
  have h2 := x.toInt_lt
  have fin : ∀ u l', Pr u p → Rw u (p + 4) 176 l' → l'.length + 13 ≤ 176 → Wp 73 13 [.ref p, .int x, .int (Int32.ofNat bp)] [] u (fun w h' => w = .inl .null ∧ Rw h' (p + 4) 176 (l' ++ prD x.toInt.natAbs bp 10) ∧ Fz (SP p) u h') := by
    intro u l' hp hr hl
    simp (disch := omega) only [U73_0, U73_1, U73_4, U73_5, U73_8, U73_10, U73_13, U73_14, U73_15, U73_16, U73_19, U73_20, U73_22, U73_25, Math_abs, V225, abs64, hp.1, true_and, and_true, false_and, and_false, if_true, if_false, Nat.reduceAdd, Nat.reduceMul, Nat.reduceSub, Nat.reduceEqDiff, Option.some.injEq, exists_eq_left', true_or, or_true, false_or, or_false, not_true_eq_false, not_false_eq_true, eq_self, and_self, Nat.reduceLeDiff, decide_true, decide_false, ne_eq, Nat.left_eq_add, Nat.add_eq_left, Nat.add_left_cancel_iff, Nat.add_zero]
    refine Wp_use (Printer_printDigits hp hr (by omega) (Or.inl rfl) hbp hl) ?_
    rintro _ h1 ⟨rfl, hr1, f1⟩
    simp (disch := omega) only [V72, U73_0, U73_1, U73_4, U73_5, U73_8, U73_10, U73_13, U73_14, U73_15, U73_16, U73_19, U73_20, U73_22, U73_25, true_and, and_true, false_and, and_false, if_true, if_false, Nat.reduceAdd, Nat.reduceMul, Nat.reduceSub, Nat.reduceEqDiff, Option.some.injEq, exists_eq_left', true_or, or_true, false_or, or_false, not_true_eq_false, not_false_eq_true, eq_self, and_self, Nat.reduceLeDiff, decide_true, decide_false, ne_eq, Nat.left_eq_add, Nat.add_eq_left, Nat.add_left_cancel_iff, Nat.add_zero]
    exact ⟨hr1, f1⟩
  unfold prS
  by_cases hx : x < Int32.ofNat 0
  · rw [if_pos hx]
    rw [U73_0, U73_1, if_pos hx]
    simp (disch := omega) only [U73_4, U73_5, U73_8, U73_10, hp.1, hp.2.2.1, hr.1, true_and, and_true, false_and, and_false, if_true, if_false, Nat.reduceAdd, Nat.reduceMul, Nat.reduceSub, Nat.reduceEqDiff, Option.some.injEq, exists_eq_left', true_or, or_true, false_or, or_false, not_true_eq_false, not_false_eq_true, eq_self, and_self, Nat.reduceLeDiff, decide_true, decide_false, ne_eq, Nat.left_eq_add, Nat.add_eq_left, Nat.add_left_cancel_iff, Nat.add_zero]
    refine Wp_use (Row_put hr (by omega)) ?_
    rintro _ h1 ⟨rfl, hr1, f1⟩
    rw [V93]
    refine Wp_use (fin h1 _ (hp.fz f1) hr1 (by rw [List.length_append, List.length_singleton]; omega)) ?_
    rintro _ h2 ⟨rfl, hr2, f2⟩
    refine ⟨rfl, ?_, (f1.mono (fun a i z => Or.inl z)).trans f2⟩
    rw [lo8_of, List.append_assoc] at hr2
    exact hr2
  · rw [if_neg hx]
    rw [U73_0, U73_1, if_neg hx]
    exact fin h l hp hr (by omega)
/-- a slot's text, by its letter and digit -/
def slT (nm : Nat → List Nat) (k d : Nat) (a : Arg) : List Nat :=
  if k = 117 then prD (bvI (nv a)) 0 10 else if k = 120 then prD (bvI (nv a)) 0 16
  else if k = 101 then (if nv a < Int32.ofNat 0 ∨ ¬ nv a < Int32.ofNat 32 ∨ nm (d * 32 + (nv a).toNatClampNeg) = [] then prS (nv a) 0 else nm (d * 32 + (nv a).toNatClampNeg))
  else if k = 116 then (match a with | .inr t => t | .inl _ => []) else prS (nv a) d
theorem Printer_printSlot {h : MH_} {p f e s k d : Nat} {nm : Nat → List Nat} {ts : List Tok} {as : List Arg} {a : Arg} {l : List Nat} (hp : Pr h p) (hn : Nm h (p + 1) nm) (hr : Rw h (p + 4) 176 l) (hf : Fs h f) (hc : Fc h f ts) (he : Ea h e as) (hs : (slts ts)[s]? = some (k, d)) (ho : okT (.inr (k, d))) (ha : as[s]? = some a) (ht : k = 116 → ∃ t, a = .inr t) (hl : l.length + 16 ≤ 176) (ae : e + 4 ≤ p ∨ p + 7 ≤ e) (af : f + 6 ≤ p ∨ p + 7 ≤ f) : Wp 74 0 [.ref p, .ref f, .int (Int32.ofNat s), .ref e, .null] [] h (fun w h' => w = .inl .null ∧ Rw h' (p + 4) 176 (l ++ slT nm k d a) ∧ Fz (SP p) h h') := by
  have hsl : s < (slts ts).length := by
    rcases Nat.lt_or_ge s (slts ts).length with z | z
    · exact z
    · rw [List.getElem?_eq_none z] at hs; cases hs
  have c4 := hc.2.2.2.1
  have ek : kdS ts s = k := by unfold kdS; rw [hs]
  have ed : dgS ts s = d := by unfold dgS; rw [hs]
  have en : numA as s = nv a := by unfold numA; rw [ha]
  have hd8 : d < 8 := by simp only [okT] at ho; omega
  have step : Wp 74 12 [.ref p, .ref f, .int (Int32.ofNat s), .ref e, .int (nv a)] [.int (Int32.ofNat k)] h (fun w h' => w = .inl .null ∧ Rw h' (p + 4) 176 (l ++ slT nm k d a) ∧ Fz (SP p) h h') := by
    have sig : ∀ bp, bp < 12 → prS (nv a) bp = slT nm k d a → Wp 73 0 [.ref p, .int (nv a), .int (Int32.ofNat bp)] [] h (fun w h' => w = .inl .null ∧ Rw h' (p + 4) 176 (l ++ slT nm k d a) ∧ Fz (SP p) h h') := by
      intro bp hb eq
      rw [← eq]
      exact Printer_printSigned hp hr hb (by omega)
    have dig : ∀ base, base = 10 ∨ base = 16 → prD (bvI (nv a)) 0 base = slT nm k d a → Wp 72 0 [.ref p, .long (Int64.ofNat (bvI (nv a))), .null, .int (Int32.ofNat 0), .int (Int32.ofNat base), .null, .null, .null, .null] [] h (fun w h' => w = .inl .null ∧ Rw h' (p + 4) 176 (l ++ slT nm k d a) ∧ Fz (SP p) h h') := by
      intro base hb eq
      rw [← eq]
      have := bvI_lt (nv a)
      exact Printer_printDigits hp hr (by omega) hb (by omega) (by omega)
    simp only [okT] at ho
    rcases ho with ⟨rfl, h1, h2⟩ | ⟨rfl, h1⟩ | ⟨rfl | rfl | rfl | rfl, rfl⟩
    · simp (disch := omega) only [U74_0, U74_1, U74_2, U74_5, U74_7, U74_8, U74_9, U74_12_101 (s0 := 0), U74_12_116 (s0 := 0), U74_12_117 (s0 := 0), U74_12_120 (s0 := 0), U74_12_d, U74_56, U74_57, U74_59, U74_60, U74_63, U74_64, U74_65, U74_67, U74_70, U74_73, U74_74, U74_76, U74_77, U74_80, U74_81, U74_82, U74_84, U74_87, U74_90, U74_91, U74_94, U74_95, U74_98, U74_99, U74_100, U74_103, U74_105, U74_108, U74_111, U74_112, U74_114, U74_115, U74_118, U74_121, U74_122, U74_123, U74_124, U74_127, U74_130, U74_133, U74_134, U74_136, U74_137, U74_138, U74_141, U74_144, U74_12_d (s0 := Int32.ofNat 102) (by decide), hp.1, hf.1, Format_digitAt hf hc, V28, ed, true_and, and_true, false_and, and_false, if_true, if_false, Nat.reduceAdd, Nat.reduceMul, Nat.reduceSub, Nat.reduceEqDiff, Option.some.injEq, exists_eq_left', true_or, or_true, false_or, or_false, not_true_eq_false, not_false_eq_true, eq_self, and_self, Nat.reduceLeDiff, decide_true, decide_false, ne_eq, Nat.left_eq_add, Nat.add_eq_left, Nat.add_left_cancel_iff, Nat.add_zero]
      refine Wp_use (sig d (by omega) (by unfold slT; simp)) ?_
      rintro _ h1 ⟨rfl, hr1, f1⟩
      simp only [V73, U74_0, U74_1, U74_2, U74_5, U74_7, U74_8, U74_9, U74_12_101 (s0 := 0), U74_12_116 (s0 := 0), U74_12_117 (s0 := 0), U74_12_120 (s0 := 0), U74_12_d, U74_56, U74_57, U74_59, U74_60, U74_63, U74_64, U74_65, U74_67, U74_70, U74_73, U74_74, U74_76, U74_77, U74_80, U74_81, U74_82, U74_84, U74_87, U74_90, U74_91, U74_94, U74_95, U74_98, U74_99, U74_100, U74_103, U74_105, U74_108, U74_111, U74_112, U74_114, U74_115, U74_118, U74_121, U74_122, U74_123, U74_124, U74_127, U74_130, U74_133, U74_134, U74_136, U74_137, U74_138, U74_141, U74_144, true_and, and_true, false_and, and_false, if_true, if_false, Nat.reduceAdd, Nat.reduceMul, Nat.reduceSub, Nat.reduceEqDiff, Option.some.injEq, exists_eq_left', true_or, or_true, false_or, or_false, not_true_eq_false, not_false_eq_true, eq_self, and_self, Nat.reduceLeDiff, decide_true, decide_false, ne_eq, Nat.left_eq_add, Nat.add_eq_left, Nat.add_left_cancel_iff, Nat.add_zero]
      exact ⟨hr1, f1⟩
    · have neg : (nv a < Int32.ofNat 0 ∨ ∃ c, nv a = Int32.ofNat c ∧ c < 2147483648 ∧ 32 ≤ c) → Wp 74 12 [.ref p, .ref f, .int (Int32.ofNat s), .ref e, .int (nv a)] [.int (Int32.ofNat 101)] h (fun w h' => w = .inl .null ∧ Rw h' (p + 4) 176 (l ++ slT nm 101 d a) ∧ Fz (SP p) h h') := by
        intro hx
        simp (disch := omega) only [U74_0, U74_1, U74_2, U74_5, U74_7, U74_8, U74_9, U74_12_101 (s0 := 0), U74_12_116 (s0 := 0), U74_12_117 (s0 := 0), U74_12_120 (s0 := 0), U74_12_d, U74_56, U74_57, U74_59, U74_60, U74_63, U74_64, U74_65, U74_67, U74_70, U74_73, U74_74, U74_76, U74_77, U74_80, U74_81, U74_82, U74_84, U74_87, U74_90, U74_91, U74_94, U74_95, U74_98, U74_99, U74_100, U74_103, U74_105, U74_108, U74_111, U74_112, U74_114, U74_115, U74_118, U74_121, U74_122, U74_123, U74_124, U74_127, U74_130, U74_133, U74_134, U74_136, U74_137, U74_138, U74_141, U74_144, hp.1, hp.2.1, hp.2.2.1, hn.1.1, hf.1, Format_digitAt hf hc, V28, ed, Names_putInto_n hd8 hx, V64, true_and, and_true, false_and, and_false, if_true, if_false, Nat.reduceAdd, Nat.reduceMul, Nat.reduceSub, Nat.reduceEqDiff, Option.some.injEq, exists_eq_left', true_or, or_true, false_or, or_false, not_true_eq_false, not_false_eq_true, eq_self, and_self, Nat.reduceLeDiff, decide_true, decide_false, ne_eq, Nat.left_eq_add, Nat.add_eq_left, Nat.add_left_cancel_iff, Nat.add_zero]
        refine Wp_use (sig 0 (by omega) ?_) ?_
        · unfold slT
          rw [if_neg (by decide), if_neg (by decide), if_pos rfl, if_pos]
          rcases hx with hx | ⟨c, hx, h3, h4⟩
          · exact Or.inl hx
          · refine Or.inr (Or.inl ?_)
            rw [hx, i_lt h3 (by omega)]
            omega
        · rintro _ h1 ⟨rfl, hr1, f1⟩
          simp only [V73, U74_0, U74_1, U74_2, U74_5, U74_7, U74_8, U74_9, U74_12_101 (s0 := 0), U74_12_116 (s0 := 0), U74_12_117 (s0 := 0), U74_12_120 (s0 := 0), U74_12_d, U74_56, U74_57, U74_59, U74_60, U74_63, U74_64, U74_65, U74_67, U74_70, U74_73, U74_74, U74_76, U74_77, U74_80, U74_81, U74_82, U74_84, U74_87, U74_90, U74_91, U74_94, U74_95, U74_98, U74_99, U74_100, U74_103, U74_105, U74_108, U74_111, U74_112, U74_114, U74_115, U74_118, U74_121, U74_122, U74_123, U74_124, U74_127, U74_130, U74_133, U74_134, U74_136, U74_137, U74_138, U74_141, U74_144, true_and, and_true, false_and, and_false, if_true, if_false, Nat.reduceAdd, Nat.reduceMul, Nat.reduceSub, Nat.reduceEqDiff, Option.some.injEq, exists_eq_left', true_or, or_true, false_or, or_false, not_true_eq_false, not_false_eq_true, eq_self, and_self, Nat.reduceLeDiff, decide_true, decide_false, ne_eq, Nat.left_eq_add, Nat.add_eq_left, Nat.add_left_cancel_iff, Nat.add_zero]
          exact ⟨hr1, f1⟩
      by_cases hx : nv a < Int32.ofNat 0
      · exact neg (Or.inl hx)
      · obtain ⟨c, h3, hcx⟩ := i_nat hx
        by_cases h32 : 32 ≤ c
        · exact neg (Or.inr ⟨c, hcx, h3, h32⟩)
        · have ei : (nv a).toNatClampNeg = c := by rw [hcx]; exact i_idx h3
          simp (disch := omega) only [U74_0, U74_1, U74_2, U74_5, U74_7, U74_8, U74_9, U74_12_101 (s0 := 0), U74_12_116 (s0 := 0), U74_12_117 (s0 := 0), U74_12_120 (s0 := 0), U74_12_d, U74_56, U74_57, U74_59, U74_60, U74_63, U74_64, U74_65, U74_67, U74_70, U74_73, U74_74, U74_76, U74_77, U74_80, U74_81, U74_82, U74_84, U74_87, U74_90, U74_91, U74_94, U74_95, U74_98, U74_99, U74_100, U74_103, U74_105, U74_108, U74_111, U74_112, U74_114, U74_115, U74_118, U74_121, U74_122, U74_123, U74_124, U74_127, U74_130, U74_133, U74_134, U74_136, U74_137, U74_138, U74_141, U74_144, hp.1, hp.2.1, hp.2.2.1, hn.1.1, hf.1, Format_digitAt hf hc, V28, ed, true_and, and_true, false_and, and_false, if_true, if_false, Nat.reduceAdd, Nat.reduceMul, Nat.reduceSub, Nat.reduceEqDiff, Option.some.injEq, exists_eq_left', true_or, or_true, false_or, or_false, not_true_eq_false, not_false_eq_true, eq_self, and_self, Nat.reduceLeDiff, decide_true, decide_false, ne_eq, Nat.left_eq_add, Nat.add_eq_left, Nat.add_left_cancel_iff, Nat.add_zero]
          rw [hcx]
          refine Wp_use (Names_putInto hn hr hd8 (by omega) (by omega) (by omega)) ?_
          rintro _ h1 ⟨rfl, hr1, f1⟩
          by_cases hnm : nm (d * 32 + c) = []
          · simp (disch := omega) only [V64, U74_0, U74_1, U74_2, U74_5, U74_7, U74_8, U74_9, U74_12_101 (s0 := 0), U74_12_116 (s0 := 0), U74_12_117 (s0 := 0), U74_12_120 (s0 := 0), U74_12_d, U74_56, U74_57, U74_59, U74_60, U74_63, U74_64, U74_65, U74_67, U74_70, U74_73, U74_74, U74_76, U74_77, U74_80, U74_81, U74_82, U74_84, U74_87, U74_90, U74_91, U74_94, U74_95, U74_98, U74_99, U74_100, U74_103, U74_105, U74_108, U74_111, U74_112, U74_114, U74_115, U74_118, U74_121, U74_122, U74_123, U74_124, U74_127, U74_130, U74_133, U74_134, U74_136, U74_137, U74_138, U74_141, U74_144, hnm, bz_0, f1.kd, hp.1, not_true_eq_false, not_false_eq_true, true_and, and_true, false_and, and_false, if_true, if_false, Nat.reduceAdd, Nat.reduceMul, Nat.reduceSub, Nat.reduceEqDiff, Option.some.injEq, exists_eq_left', true_or, or_true, false_or, or_false, not_true_eq_false, not_false_eq_true, eq_self, and_self, Nat.reduceLeDiff, decide_true, decide_false, ne_eq, Nat.left_eq_add, Nat.add_eq_left, Nat.add_left_cancel_iff, Nat.add_zero]
            rw [hnm, List.append_nil] at hr1
            rw [← hcx]
            refine Wp_use (Printer_printSigned (hp.fz f1) hr1 (by omega) (by omega)) ?_
            rintro _ h2 ⟨rfl, hr2, f2⟩
            simp only [V73, U74_0, U74_1, U74_2, U74_5, U74_7, U74_8, U74_9, U74_12_101 (s0 := 0), U74_12_116 (s0 := 0), U74_12_117 (s0 := 0), U74_12_120 (s0 := 0), U74_12_d, U74_56, U74_57, U74_59, U74_60, U74_63, U74_64, U74_65, U74_67, U74_70, U74_73, U74_74, U74_76, U74_77, U74_80, U74_81, U74_82, U74_84, U74_87, U74_90, U74_91, U74_94, U74_95, U74_98, U74_99, U74_100, U74_103, U74_105, U74_108, U74_111, U74_112, U74_114, U74_115, U74_118, U74_121, U74_122, U74_123, U74_124, U74_127, U74_130, U74_133, U74_134, U74_136, U74_137, U74_138, U74_141, U74_144, true_and, and_true, false_and, and_false, if_true, if_false, Nat.reduceAdd, Nat.reduceMul, Nat.reduceSub, Nat.reduceEqDiff, Option.some.injEq, exists_eq_left', true_or, or_true, false_or, or_false, not_true_eq_false, not_false_eq_true, eq_self, and_self, Nat.reduceLeDiff, decide_true, decide_false, ne_eq, Nat.left_eq_add, Nat.add_eq_left, Nat.add_left_cancel_iff, Nat.add_zero]
            refine ⟨?_, (f1.mono (fun a i z => Or.inl z)).trans f2⟩
            unfold slT
            rw [if_neg (by decide), if_neg (by decide), if_pos rfl, if_pos (Or.inr (Or.inr (by rw [ei]; exact hnm)))]
            exact hr2
          · simp (disch := omega) only [V64, U74_0, U74_1, U74_2, U74_5, U74_7, U74_8, U74_9, U74_12_101 (s0 := 0), U74_12_116 (s0 := 0), U74_12_117 (s0 := 0), U74_12_120 (s0 := 0), U74_12_d, U74_56, U74_57, U74_59, U74_60, U74_63, U74_64, U74_65, U74_67, U74_70, U74_73, U74_74, U74_76, U74_77, U74_80, U74_81, U74_82, U74_84, U74_87, U74_90, U74_91, U74_94, U74_95, U74_98, U74_99, U74_100, U74_103, U74_105, U74_108, U74_111, U74_112, U74_114, U74_115, U74_118, U74_121, U74_122, U74_123, U74_124, U74_127, U74_130, U74_133, U74_134, U74_136, U74_137, U74_138, U74_141, U74_144, hnm, bz_0, not_true_eq_false, not_false_eq_true, true_and, and_true, false_and, and_false, if_true, if_false, Nat.reduceAdd, Nat.reduceMul, Nat.reduceSub, Nat.reduceEqDiff, Option.some.injEq, exists_eq_left', true_or, or_true, false_or, or_false, not_true_eq_false, not_false_eq_true, eq_self, and_self, Nat.reduceLeDiff, decide_true, decide_false, ne_eq, Nat.left_eq_add, Nat.add_eq_left, Nat.add_left_cancel_iff, Nat.add_zero]
            refine ⟨?_, f1.mono (fun a i z => Or.inl z)⟩
            unfold slT
            rw [if_neg (by decide), if_neg (by decide), if_pos rfl, if_neg (by rw [ei]; rintro (z | z | z); exact hx z; exact z (by rw [hcx, i_lt h3 (by omega)]; omega); exact hnm z), ei]
            exact hr1
    · simp (disch := omega) only [U74_0, U74_1, U74_2, U74_5, U74_7, U74_8, U74_9, U74_12_101 (s0 := 0), U74_12_116 (s0 := 0), U74_12_117 (s0 := 0), U74_12_120 (s0 := 0), U74_12_d, U74_56, U74_57, U74_59, U74_60, U74_63, U74_64, U74_65, U74_67, U74_70, U74_73, U74_74, U74_76, U74_77, U74_80, U74_81, U74_82, U74_84, U74_87, U74_90, U74_91, U74_94, U74_95, U74_98, U74_99, U74_100, U74_103, U74_105, U74_108, U74_111, U74_112, U74_114, U74_115, U74_118, U74_121, U74_122, U74_123, U74_124, U74_127, U74_130, U74_133, U74_134, U74_136, U74_137, U74_138, U74_141, U74_144, U74_12_d (s0 := Int32.ofNat 100) (by decide), hp.1, hf.1, Format_digitAt hf hc, V28, ed, true_and, and_true, false_and, and_false, if_true, if_false, Nat.reduceAdd, Nat.reduceMul, Nat.reduceSub, Nat.reduceEqDiff, Option.some.injEq, exists_eq_left', true_or, or_true, false_or, or_false, not_true_eq_false, not_false_eq_true, eq_self, and_self, Nat.reduceLeDiff, decide_true, decide_false, ne_eq, Nat.left_eq_add, Nat.add_eq_left, Nat.add_left_cancel_iff, Nat.add_zero]
      refine Wp_use (sig 0 (by omega) (by unfold slT; simp)) ?_
      rintro _ h1 ⟨rfl, hr1, f1⟩
      simp only [V73, U74_0, U74_1, U74_2, U74_5, U74_7, U74_8, U74_9, U74_12_101 (s0 := 0), U74_12_116 (s0 := 0), U74_12_117 (s0 := 0), U74_12_120 (s0 := 0), U74_12_d, U74_56, U74_57, U74_59, U74_60, U74_63, U74_64, U74_65, U74_67, U74_70, U74_73, U74_74, U74_76, U74_77, U74_80, U74_81, U74_82, U74_84, U74_87, U74_90, U74_91, U74_94, U74_95, U74_98, U74_99, U74_100, U74_103, U74_105, U74_108, U74_111, U74_112, U74_114, U74_115, U74_118, U74_121, U74_122, U74_123, U74_124, U74_127, U74_130, U74_133, U74_134, U74_136, U74_137, U74_138, U74_141, U74_144, true_and, and_true, false_and, and_false, if_true, if_false, Nat.reduceAdd, Nat.reduceMul, Nat.reduceSub, Nat.reduceEqDiff, Option.some.injEq, exists_eq_left', true_or, or_true, false_or, or_false, not_true_eq_false, not_false_eq_true, eq_self, and_self, Nat.reduceLeDiff, decide_true, decide_false, ne_eq, Nat.left_eq_add, Nat.add_eq_left, Nat.add_left_cancel_iff, Nat.add_zero]
      exact ⟨hr1, f1⟩
    · simp (disch := omega) only [U74_0, U74_1, U74_2, U74_5, U74_7, U74_8, U74_9, U74_12_101 (s0 := 0), U74_12_116 (s0 := 0), U74_12_117 (s0 := 0), U74_12_120 (s0 := 0), U74_12_d, U74_56, U74_57, U74_59, U74_60, U74_63, U74_64, U74_65, U74_67, U74_70, U74_73, U74_74, U74_76, U74_77, U74_80, U74_81, U74_82, U74_84, U74_87, U74_90, U74_91, U74_94, U74_95, U74_98, U74_99, U74_100, U74_103, U74_105, U74_108, U74_111, U74_112, U74_114, U74_115, U74_118, U74_121, U74_122, U74_123, U74_124, U74_127, U74_130, U74_133, U74_134, U74_136, U74_137, U74_138, U74_141, U74_144, hp.1, mask32, true_and, and_true, false_and, and_false, if_true, if_false, Nat.reduceAdd, Nat.reduceMul, Nat.reduceSub, Nat.reduceEqDiff, Option.some.injEq, exists_eq_left', true_or, or_true, false_or, or_false, not_true_eq_false, not_false_eq_true, eq_self, and_self, Nat.reduceLeDiff, decide_true, decide_false, ne_eq, Nat.left_eq_add, Nat.add_eq_left, Nat.add_left_cancel_iff, Nat.add_zero]
      refine Wp_use (dig 10 (Or.inl rfl) (by unfold slT; simp)) ?_
      rintro _ h1 ⟨rfl, hr1, f1⟩
      simp only [V72, U74_0, U74_1, U74_2, U74_5, U74_7, U74_8, U74_9, U74_12_101 (s0 := 0), U74_12_116 (s0 := 0), U74_12_117 (s0 := 0), U74_12_120 (s0 := 0), U74_12_d, U74_56, U74_57, U74_59, U74_60, U74_63, U74_64, U74_65, U74_67, U74_70, U74_73, U74_74, U74_76, U74_77, U74_80, U74_81, U74_82, U74_84, U74_87, U74_90, U74_91, U74_94, U74_95, U74_98, U74_99, U74_100, U74_103, U74_105, U74_108, U74_111, U74_112, U74_114, U74_115, U74_118, U74_121, U74_122, U74_123, U74_124, U74_127, U74_130, U74_133, U74_134, U74_136, U74_137, U74_138, U74_141, U74_144, true_and, and_true, false_and, and_false, if_true, if_false, Nat.reduceAdd, Nat.reduceMul, Nat.reduceSub, Nat.reduceEqDiff, Option.some.injEq, exists_eq_left', true_or, or_true, false_or, or_false, not_true_eq_false, not_false_eq_true, eq_self, and_self, Nat.reduceLeDiff, decide_true, decide_false, ne_eq, Nat.left_eq_add, Nat.add_eq_left, Nat.add_left_cancel_iff, Nat.add_zero]
      exact ⟨hr1, f1⟩
    · simp (disch := omega) only [U74_0, U74_1, U74_2, U74_5, U74_7, U74_8, U74_9, U74_12_101 (s0 := 0), U74_12_116 (s0 := 0), U74_12_117 (s0 := 0), U74_12_120 (s0 := 0), U74_12_d, U74_56, U74_57, U74_59, U74_60, U74_63, U74_64, U74_65, U74_67, U74_70, U74_73, U74_74, U74_76, U74_77, U74_80, U74_81, U74_82, U74_84, U74_87, U74_90, U74_91, U74_94, U74_95, U74_98, U74_99, U74_100, U74_103, U74_105, U74_108, U74_111, U74_112, U74_114, U74_115, U74_118, U74_121, U74_122, U74_123, U74_124, U74_127, U74_130, U74_133, U74_134, U74_136, U74_137, U74_138, U74_141, U74_144, hp.1, mask32, true_and, and_true, false_and, and_false, if_true, if_false, Nat.reduceAdd, Nat.reduceMul, Nat.reduceSub, Nat.reduceEqDiff, Option.some.injEq, exists_eq_left', true_or, or_true, false_or, or_false, not_true_eq_false, not_false_eq_true, eq_self, and_self, Nat.reduceLeDiff, decide_true, decide_false, ne_eq, Nat.left_eq_add, Nat.add_eq_left, Nat.add_left_cancel_iff, Nat.add_zero]
      refine Wp_use (dig 16 (Or.inr rfl) (by unfold slT; simp)) ?_
      rintro _ h1 ⟨rfl, hr1, f1⟩
      simp only [V72, U74_0, U74_1, U74_2, U74_5, U74_7, U74_8, U74_9, U74_12_101 (s0 := 0), U74_12_116 (s0 := 0), U74_12_117 (s0 := 0), U74_12_120 (s0 := 0), U74_12_d, U74_56, U74_57, U74_59, U74_60, U74_63, U74_64, U74_65, U74_67, U74_70, U74_73, U74_74, U74_76, U74_77, U74_80, U74_81, U74_82, U74_84, U74_87, U74_90, U74_91, U74_94, U74_95, U74_98, U74_99, U74_100, U74_103, U74_105, U74_108, U74_111, U74_112, U74_114, U74_115, U74_118, U74_121, U74_122, U74_123, U74_124, U74_127, U74_130, U74_133, U74_134, U74_136, U74_137, U74_138, U74_141, U74_144, true_and, and_true, false_and, and_false, if_true, if_false, Nat.reduceAdd, Nat.reduceMul, Nat.reduceSub, Nat.reduceEqDiff, Option.some.injEq, exists_eq_left', true_or, or_true, false_or, or_false, not_true_eq_false, not_false_eq_true, eq_self, and_self, Nat.reduceLeDiff, decide_true, decide_false, ne_eq, Nat.left_eq_add, Nat.add_eq_left, Nat.add_left_cancel_iff, Nat.add_zero]
      exact ⟨hr1, f1⟩
    · obtain ⟨t, rfl⟩ := ht rfl
      have hsa : s < as.length := by
        rcases Nat.lt_or_ge s as.length with z | z
        · exact z
        · rw [List.getElem?_eq_none z] at ha; cases ha
      have hc16 : t.length ≤ 16 := by
        have c := he.2.2.2 s hsa
        rw [show as[s] = .inr t by rw [List.getElem?_eq_getElem hsa] at ha; exact Option.some.inj ha] at c
        exact c.2.2.1
      simp (disch := omega) only [U74_0, U74_1, U74_2, U74_5, U74_7, U74_8, U74_9, U74_12_101 (s0 := 0), U74_12_116 (s0 := 0), U74_12_117 (s0 := 0), U74_12_120 (s0 := 0), U74_12_d, U74_56, U74_57, U74_59, U74_60, U74_63, U74_64, U74_65, U74_67, U74_70, U74_73, U74_74, U74_76, U74_77, U74_80, U74_81, U74_82, U74_84, U74_87, U74_90, U74_91, U74_94, U74_95, U74_98, U74_99, U74_100, U74_103, U74_105, U74_108, U74_111, U74_112, U74_114, U74_115, U74_118, U74_121, U74_122, U74_123, U74_124, U74_127, U74_130, U74_133, U74_134, U74_136, U74_137, U74_138, U74_141, U74_144, hp.1, hp.2.2.1, he.1.1, true_and, and_true, false_and, and_false, if_true, if_false, Nat.reduceAdd, Nat.reduceMul, Nat.reduceSub, Nat.reduceEqDiff, Option.some.injEq, exists_eq_left', true_or, or_true, false_or, or_false, not_true_eq_false, not_false_eq_true, eq_self, and_self, Nat.reduceLeDiff, decide_true, decide_false, ne_eq, Nat.left_eq_add, Nat.add_eq_left, Nat.add_left_cancel_iff, Nat.add_zero]
      refine Wp_use (Event_putText he hr ha (by omega) (by omega)) ?_
      rintro _ h1 ⟨rfl, hr1, f1⟩
      simp only [V22, U74_0, U74_1, U74_2, U74_5, U74_7, U74_8, U74_9, U74_12_101 (s0 := 0), U74_12_116 (s0 := 0), U74_12_117 (s0 := 0), U74_12_120 (s0 := 0), U74_12_d, U74_56, U74_57, U74_59, U74_60, U74_63, U74_64, U74_65, U74_67, U74_70, U74_73, U74_74, U74_76, U74_77, U74_80, U74_81, U74_82, U74_84, U74_87, U74_90, U74_91, U74_94, U74_95, U74_98, U74_99, U74_100, U74_103, U74_105, U74_108, U74_111, U74_112, U74_114, U74_115, U74_118, U74_121, U74_122, U74_123, U74_124, U74_127, U74_130, U74_133, U74_134, U74_136, U74_137, U74_138, U74_141, U74_144, true_and, and_true, false_and, and_false, if_true, if_false, Nat.reduceAdd, Nat.reduceMul, Nat.reduceSub, Nat.reduceEqDiff, Option.some.injEq, exists_eq_left', true_or, or_true, false_or, or_false, not_true_eq_false, not_false_eq_true, eq_self, and_self, Nat.reduceLeDiff, decide_true, decide_false, ne_eq, Nat.left_eq_add, Nat.add_eq_left, Nat.add_left_cancel_iff, Nat.add_zero]
      refine ⟨?_, f1.mono (fun a i z => Or.inl z)⟩
      unfold slT
      rw [if_neg (by decide), if_neg (by decide), if_neg (by decide), if_pos rfl]
      exact hr1
  simp (disch := omega) only [U74_0, U74_1, U74_2, U74_5, U74_7, U74_8, U74_9, he.1.1, hf.1, Event_numberAt he, V20, Format_kindAt hf hc, V33, ek, en, true_and, and_true, false_and, and_false, if_true, if_false, Nat.reduceAdd, Nat.reduceMul, Nat.reduceSub, Nat.reduceEqDiff, Option.some.injEq, exists_eq_left', true_or, or_true, false_or, or_false, not_true_eq_false, not_false_eq_true, eq_self, and_self, Nat.reduceLeDiff, decide_true, decide_false, ne_eq, Nat.left_eq_add, Nat.add_eq_left, Nat.add_left_cancel_iff, Nat.add_zero]
  exact step
/-- a line, printed -/
def prF (nm : Nat → List Nat) (as : List Arg) : List Tok → Nat → List Nat
  | [], _ => []
  | .inl b :: r, j => b :: prF nm as r j
  | .inr (k, d) :: r, j => slT nm k d (as.getD j (.inl (Int32.ofNat 0))) ++ prF nm as r (j + 1)
theorem sub_back (j : Nat) : -(Int32.ofNat 1) - (-(Int32.ofNat 1) - Int32.ofNat j) = Int32.ofNat j := by
  apply Int32.toBitVec.inj
  simp only [Int32.toBitVec_sub]
  bv_omega
theorem neg_slot {j : Nat} (h : j < 6) : -(Int32.ofNat 1) - Int32.ofNat j < Int32.ofNat 0 := by
  rcases (show j = 0 ∨ j = 1 ∨ j = 2 ∨ j = 3 ∨ j = 4 ∨ j = 5 by omega) with rfl | rfl | rfl | rfl | rfl | rfl <;> decide
