/-! ===== the model: slotAt, slotCount, isTextSlot ===== -/
section
variable {h h' : MH_} {m s : Nat} {si : List (List Tok)} {ts : List Tok} {Q : Rs_ → MH_ → Prop}
theorem si_lt {s : Nat} {ts : List Tok} (X2 : MF h m si) (hs : si[s]? = some ts) : s < 40 ∧ s < si.length := by
  have h40 := X2.2.1
  rcases Nat.lt_or_ge s si.length with z | z
  · omega
  · rw [List.getElem?_eq_none z] at hs; cases hs
def oPl (s : Nat) (o : Option Nat) : Option Nat := o.map (fun z => 80 * s + z)
theorem M_slotAt {k : Nat} (X0 : MS h m) (X2 : MF h m si) (hs : si[s]? = some ts) (hk : k < 1000000) : Wp 197 0 [.ref m, .int (Int32.ofNat s), .int (Int32.ofNat k), .null, .null, .null] [] h Q ↔ Q (.inl (.int (sfI (oPl s (slA ts k 0))))) h := by
  obtain ⟨a1, a2, a3, a4, a5⟩ := X2.2.2 s ts hs
  have hs40 := (si_lt X2 hs).1
  have key : ∀ us pre n y, ts = pre ++ us → n ≤ k → n + (slts us).length ≤ 6 → (Wp 197 8 [.ref m, .int (Int32.ofNat s), .int (Int32.ofNat k), .int (Int32.ofNat (80 * s + (spell pre).length)), .int (Int32.ofNat n), y] [] h Q ↔ Q (.inl (.int (sfI (oPl s (slA us (k - n) (spell pre).length))))) h) := by
    intro us
    induction us with
    | nil =>
      intro pre n y hp hn hn8
      rw [List.append_nil] at hp
      rw [U197_8]
      rw [hp] at hs a2
      simp (disch := omega) only [U197_0, U197_2, U197_3, U197_4, U197_5, U197_6, U197_9, U197_10, U197_11, U197_14, U197_17, U197_18, U197_21, U197_22, U197_23, U197_24, U197_27, U197_30, U197_32, U197_34, U197_37, U197_39, U197_40, U197_43, U197_44, U197_45, U197_46, U197_47, U197_49, U197_52, U197_54, U197_55, U197_56, U197_59, U197_61, U197_63, U197_65, U197_68, U197_69, U197_71, U197_72, U197_75, U197_76, U197_79, U197_80, U197_81, U197_83, U197_86, U197_87, U197_90, U197_91, U197_92, U197_94, U197_97, U197_98, U197_99, U197_100, U197_103, U197_104, U197_105, U197_106, U197_107, U197_110, U197_111, X0.1, M_end X0 X2 hs, V155, show ¬ 80 * s + (spell pre).length < 80 * s + (spell pre).length by omega, slA, oPl, Option.map_none, sfI, i_add, i_mul, i_sub, i_addn, i_lt, i_eq, i_idx, i_vp, true_and, and_true, false_and, and_false, if_true, if_false, Nat.reduceAdd, Nat.reduceMul, Nat.reduceSub, Nat.reduceEqDiff, Option.some.injEq, exists_eq_left', true_or, or_true, false_or, or_false, not_true_eq_false, not_false_eq_true, eq_self, and_self, Nat.reduceLeDiff, decide_true, decide_false, ne_eq, Nat.left_eq_add, Nat.add_eq_left, Nat.add_left_cancel_iff, Nat.add_zero]
    | cons t us ih =>
      intro pre n y hp hn hn8
      have hl := sp1_len t
      have hsp : spell ts = spell pre ++ (sp1 t ++ spell us) := by rw [hp, spell_app, spell_cons]
      have hlen : (spell ts).length = (spell pre).length + ((sp1 t).length + (spell us).length) := by rw [hsp, List.length_append, List.length_append]
      have hp2 : ts = (pre ++ [t]) ++ us := by rw [hp, List.append_assoc]; rfl
      have hsp2 : (spell (pre ++ [t])).length = (spell pre).length + (sp1 t).length := by rw [spell_app, List.length_append]; unfold spell; rw [List.flatMap_singleton]
      have e0 := (M_tok (Q := Q) X0 X2 hs hp).1
      have f256 := (M_tok (Q := Q) X0 X2 hs hp).2.1
      have sz : ∀ Q : Rs_ → MH_ → Prop, _ := fun Q => (M_tok (Q := Q) X0 X2 hs hp).2.2
      rw [U197_8]
      cases t with
      | inl b =>
        have go := ih (pre ++ [.inl b]) n (.int (Int32.ofNat 0)) hp2 hn hn8
        rw [hsp2, ← Nat.add_assoc] at go
        rw [show slA (.inl b :: us) (k - n) (spell pre).length = slA us (k - n) ((spell pre).length + (sp1 (.inl b)).length) from rfl]
        have e0' : gI_ h (m + 3) (80 * s + (spell pre).length) = Int32.ofNat b := e0
        have b256 : b < 256 := f256
        by_cases hb1 : b = 123
        · subst hb1
          rw [show (sp1 (.inl 123)).length = 2 from rfl] at go hlen ⊢
          simp (disch := omega) only [U197_0, U197_2, U197_3, U197_4, U197_5, U197_6, U197_9, U197_10, U197_11, U197_14, U197_17, U197_18, U197_21, U197_22, U197_23, U197_24, U197_27, U197_30, U197_32, U197_34, U197_37, U197_39, U197_40, U197_43, U197_44, U197_45, U197_46, U197_47, U197_49, U197_52, U197_54, U197_55, U197_56, U197_59, U197_61, U197_63, U197_65, U197_68, U197_69, U197_71, U197_72, U197_75, U197_76, U197_79, U197_80, U197_81, U197_83, U197_86, U197_87, U197_90, U197_91, U197_92, U197_94, U197_97, U197_98, U197_99, U197_100, U197_103, U197_104, U197_105, U197_106, U197_107, U197_110, U197_111, X0.1, mp5 X0, mk3 X0, mn3 X0, M_end X0 X2 hs, V155, show 80 * s + (spell pre).length < 80 * s + (spell ts).length by omega, sz, tkS, V200, e0', show 80 * s + (spell pre).length < 3280 by omega, show ¬ (0 : Nat) < 0 by omega, i_add, i_mul, i_sub, i_addn, i_lt, i_eq, i_idx, i_vp, true_and, and_true, false_and, and_false, if_true, if_false, Nat.reduceAdd, Nat.reduceMul, Nat.reduceSub, Nat.reduceEqDiff, Option.some.injEq, exists_eq_left', true_or, or_true, false_or, or_false, not_true_eq_false, not_false_eq_true, eq_self, and_self, Nat.reduceLeDiff, decide_true, decide_false, ne_eq, Nat.left_eq_add, Nat.add_eq_left, Nat.add_left_cancel_iff, Nat.add_zero]
          exact go
        · by_cases hb2 : b = 125
          · subst hb2
            rw [show (sp1 (.inl 125)).length = 2 from rfl] at go hlen ⊢
            simp (disch := omega) only [U197_0, U197_2, U197_3, U197_4, U197_5, U197_6, U197_9, U197_10, U197_11, U197_14, U197_17, U197_18, U197_21, U197_22, U197_23, U197_24, U197_27, U197_30, U197_32, U197_34, U197_37, U197_39, U197_40, U197_43, U197_44, U197_45, U197_46, U197_47, U197_49, U197_52, U197_54, U197_55, U197_56, U197_59, U197_61, U197_63, U197_65, U197_68, U197_69, U197_71, U197_72, U197_75, U197_76, U197_79, U197_80, U197_81, U197_83, U197_86, U197_87, U197_90, U197_91, U197_92, U197_94, U197_97, U197_98, U197_99, U197_100, U197_103, U197_104, U197_105, U197_106, U197_107, U197_110, U197_111, X0.1, mp5 X0, mk3 X0, mn3 X0, M_end X0 X2 hs, V155, show 80 * s + (spell pre).length < 80 * s + (spell ts).length by omega, sz, tkS, V200, e0', show 80 * s + (spell pre).length < 3280 by omega, show ¬ (0 : Nat) < 0 by omega, Nat.reduceEqDiff, i_add, i_mul, i_sub, i_addn, i_lt, i_eq, i_idx, i_vp, true_and, and_true, false_and, and_false, if_true, if_false, Nat.reduceAdd, Nat.reduceMul, Nat.reduceSub, Nat.reduceEqDiff, Option.some.injEq, exists_eq_left', true_or, or_true, false_or, or_false, not_true_eq_false, not_false_eq_true, eq_self, and_self, Nat.reduceLeDiff, decide_true, decide_false, ne_eq, Nat.left_eq_add, Nat.add_eq_left, Nat.add_left_cancel_iff, Nat.add_zero]
            exact go
          · have e1 : (sp1 (.inl b)).length = 1 := by simp only [sp1]; rw [if_neg (by omega)]; rfl
            rw [e1] at go hlen ⊢
            simp (disch := omega) only [U197_0, U197_2, U197_3, U197_4, U197_5, U197_6, U197_9, U197_10, U197_11, U197_14, U197_17, U197_18, U197_21, U197_22, U197_23, U197_24, U197_27, U197_30, U197_32, U197_34, U197_37, U197_39, U197_40, U197_43, U197_44, U197_45, U197_46, U197_47, U197_49, U197_52, U197_54, U197_55, U197_56, U197_59, U197_61, U197_63, U197_65, U197_68, U197_69, U197_71, U197_72, U197_75, U197_76, U197_79, U197_80, U197_81, U197_83, U197_86, U197_87, U197_90, U197_91, U197_92, U197_94, U197_97, U197_98, U197_99, U197_100, U197_103, U197_104, U197_105, U197_106, U197_107, U197_110, U197_111, X0.1, mp5 X0, mk3 X0, mn3 X0, M_end X0 X2 hs, V155, show 80 * s + (spell pre).length < 80 * s + (spell ts).length by omega, sz, tkS, V200, e0', hb1, hb2, show 80 * s + (spell pre).length < 3280 by omega, show ¬ (0 : Nat) < 0 by omega, Nat.reduceEqDiff, i_add, i_mul, i_sub, i_addn, i_lt, i_eq, i_idx, i_vp, true_and, and_true, false_and, and_false, if_true, if_false, Nat.reduceAdd, Nat.reduceMul, Nat.reduceSub, Nat.reduceEqDiff, Option.some.injEq, exists_eq_left', true_or, or_true, false_or, or_false, not_true_eq_false, not_false_eq_true, eq_self, and_self, Nat.reduceLeDiff, decide_true, decide_false, ne_eq, Nat.left_eq_add, Nat.add_eq_left, Nat.add_left_cancel_iff, Nat.add_zero]
            exact go
      | inr q =>
        have tk : tkS (.inr q) = (sp1 (.inr q)).length := rfl
        generalize hL : (sp1 (.inr q)).length = L at *
        by_cases hnk : n = k
        · subst hnk
          rw [show slA (.inr q :: us) (n - n) (spell pre).length = some ((spell pre).length + 1) by rw [Nat.sub_self]; rfl]
          simp (disch := omega) only [U197_0, U197_2, U197_3, U197_4, U197_5, U197_6, U197_9, U197_10, U197_11, U197_14, U197_17, U197_18, U197_21, U197_22, U197_23, U197_24, U197_27, U197_30, U197_32, U197_34, U197_37, U197_39, U197_40, U197_43, U197_44, U197_45, U197_46, U197_47, U197_49, U197_52, U197_54, U197_55, U197_56, U197_59, U197_61, U197_63, U197_65, U197_68, U197_69, U197_71, U197_72, U197_75, U197_76, U197_79, U197_80, U197_81, U197_83, U197_86, U197_87, U197_90, U197_91, U197_92, U197_94, U197_97, U197_98, U197_99, U197_100, U197_103, U197_104, U197_105, U197_106, U197_107, U197_110, U197_111, X0.1, mp5 X0, M_end X0 X2 hs, V155, show 80 * s + (spell pre).length < 80 * s + (spell ts).length by omega, sz, tk, V200, show 0 < L by omega, oPl, Option.map_some, sfI, i_add, i_mul, i_sub, i_addn, i_lt, i_eq, i_idx, i_vp, true_and, and_true, false_and, and_false, if_true, if_false, Nat.reduceAdd, Nat.reduceMul, Nat.reduceSub, Nat.reduceEqDiff, Option.some.injEq, exists_eq_left', true_or, or_true, false_or, or_false, not_true_eq_false, not_false_eq_true, eq_self, and_self, Nat.reduceLeDiff, decide_true, decide_false, ne_eq, Nat.left_eq_add, Nat.add_eq_left, Nat.add_left_cancel_iff, Nat.add_zero]
          rw [show 80 * s + ((spell pre).length + 1) = 80 * s + (spell pre).length + 1 by omega]
        · have go := ih (pre ++ [.inr q]) (n + 1) (.int (Int32.ofNat L)) hp2 (by omega) (by rw [slts_cr] at hn8; omega)
          rw [hsp2, ← Nat.add_assoc] at go
          rw [show slA (.inr q :: us) (k - n) (spell pre).length = slA us (k - (n + 1)) ((spell pre).length + L) by rw [← hL, show k - (n + 1) = k - n - 1 by omega]; exact if_neg (by omega)]
          simp (disch := omega) only [U197_0, U197_2, U197_3, U197_4, U197_5, U197_6, U197_9, U197_10, U197_11, U197_14, U197_17, U197_18, U197_21, U197_22, U197_23, U197_24, U197_27, U197_30, U197_32, U197_34, U197_37, U197_39, U197_40, U197_43, U197_44, U197_45, U197_46, U197_47, U197_49, U197_52, U197_54, U197_55, U197_56, U197_59, U197_61, U197_63, U197_65, U197_68, U197_69, U197_71, U197_72, U197_75, U197_76, U197_79, U197_80, U197_81, U197_83, U197_86, U197_87, U197_90, U197_91, U197_92, U197_94, U197_97, U197_98, U197_99, U197_100, U197_103, U197_104, U197_105, U197_106, U197_107, U197_110, U197_111, X0.1, mp5 X0, M_end X0 X2 hs, V155, show 80 * s + (spell pre).length < 80 * s + (spell ts).length by omega, sz, tk, V200, show 0 < L by omega, hnk, i_add, i_mul, i_sub, i_addn, i_lt, i_eq, i_idx, i_vp, true_and, and_true, false_and, and_false, if_true, if_false, Nat.reduceAdd, Nat.reduceMul, Nat.reduceSub, Nat.reduceEqDiff, Option.some.injEq, exists_eq_left', true_or, or_true, false_or, or_false, not_true_eq_false, not_false_eq_true, eq_self, and_self, Nat.reduceLeDiff, decide_true, decide_false, ne_eq, Nat.left_eq_add, Nat.add_eq_left, Nat.add_left_cancel_iff, Nat.add_zero]
          exact go
  have k0 := key ts [] 0 .null rfl (Nat.zero_le _) (by omega)
  rw [show (spell []).length = 0 from rfl, Nat.add_zero, Nat.sub_zero] at k0
  simp (disch := omega) only [U197_0, U197_2, U197_3, U197_4, U197_5, U197_6, i_add, i_mul, i_sub, i_addn, i_lt, i_eq, i_idx, i_vp, true_and, and_true, false_and, and_false, if_true, if_false, Nat.reduceAdd, Nat.reduceMul, Nat.reduceSub, Nat.reduceEqDiff, Option.some.injEq, exists_eq_left', true_or, or_true, false_or, or_false, not_true_eq_false, not_false_eq_true, eq_self, and_self, Nat.reduceLeDiff, decide_true, decide_false, ne_eq, Nat.left_eq_add, Nat.add_eq_left, Nat.add_left_cancel_iff, Nat.add_zero]
  exact k0
theorem slA_lt {k : Nat} {z : Nat} (hz : slA ts k 0 = some z) : k < (slts ts).length ∧ z < (spell ts).length ∧ (spell ts).getD z 0 = kdS ts k := by
  obtain ⟨i1, i2⟩ := slA_inv ts k 0
  obtain ⟨j1, j2, j3, j4⟩ := i2 z hz
  rw [Nat.sub_zero] at j2 j3
  refine ⟨?_, j3, j2⟩
  rcases Nat.lt_or_ge k (slts ts).length with w | w
  · exact w
  · rw [i1.mpr w] at hz; cases hz
theorem M_slotCount (X0 : MS h m) (X2 : MF h m si) (hs : si[s]? = some ts) : Wp 198 0 [.ref m, .int (Int32.ofNat s), .null] [] h Q ↔ Q (.inl (.int (Int32.ofNat (slts ts).length))) h := by
  obtain ⟨a1, a2, a3, a4, a5⟩ := X2.2.2 s ts hs
  have hs40 := (si_lt X2 hs).1
  have key : ∀ n k, k + n = (slts ts).length → (Wp 198 2 [.ref m, .int (Int32.ofNat s), .int (Int32.ofNat k)] [] h Q ↔ Q (.inl (.int (Int32.ofNat (slts ts).length))) h) := by
    intro n
    induction n with
    | zero =>
      intro k hk
      have hn : slA ts k 0 = none := (slA_inv ts k 0).1.mpr (by omega)
      obtain rfl : k = (slts ts).length := by omega
      rw [U198_2]
      simp (disch := omega) only [U198_0, U198_1, U198_3, U198_4, U198_5, U198_8, U198_11, U198_14, U198_17, U198_18, X0.1, M_slotAt X0 X2 hs, V197, hn, oPl, Option.map_none, sfI, show -(Int32.ofNat 1) < Int32.ofNat 0 by decide, i_add, i_mul, i_sub, i_addn, i_lt, i_eq, i_idx, i_vp, true_and, and_true, false_and, and_false, if_true, if_false, Nat.reduceAdd, Nat.reduceMul, Nat.reduceSub, Nat.reduceEqDiff, Option.some.injEq, exists_eq_left', true_or, or_true, false_or, or_false, not_true_eq_false, not_false_eq_true, eq_self, and_self, Nat.reduceLeDiff, decide_true, decide_false, ne_eq, Nat.left_eq_add, Nat.add_eq_left, Nat.add_left_cancel_iff, Nat.add_zero]
    | succ n ih =>
      intro k hk
      have go := ih (k + 1) (by omega)
      cases hz : slA ts k 0 with
      | none => have := (slA_inv ts k 0).1.mp hz; omega
      | some z =>
        have hl := (slA_lt hz).2.1
        rw [U198_2]
        simp (disch := omega) only [U198_0, U198_1, U198_3, U198_4, U198_5, U198_8, U198_11, U198_14, U198_17, U198_18, X0.1, M_slotAt X0 X2 hs, V197, hz, oPl, Option.map_some, sfI, show ¬ 80 * s + z < 0 by omega, i_add, i_mul, i_sub, i_addn, i_lt, i_eq, i_idx, i_vp, true_and, and_true, false_and, and_false, if_true, if_false, Nat.reduceAdd, Nat.reduceMul, Nat.reduceSub, Nat.reduceEqDiff, Option.some.injEq, exists_eq_left', true_or, or_true, false_or, or_false, not_true_eq_false, not_false_eq_true, eq_self, and_self, Nat.reduceLeDiff, decide_true, decide_false, ne_eq, Nat.left_eq_add, Nat.add_eq_left, Nat.add_left_cancel_iff, Nat.add_zero]
        exact go
  simp (disch := omega) only [U198_0, U198_1, i_add, i_mul, i_sub, i_addn, i_lt, i_eq, i_idx, i_vp, true_and, and_true, false_and, and_false, if_true, if_false, Nat.reduceAdd, Nat.reduceMul, Nat.reduceSub, Nat.reduceEqDiff, Option.some.injEq, exists_eq_left', true_or, or_true, false_or, or_false, not_true_eq_false, not_false_eq_true, eq_self, and_self, Nat.reduceLeDiff, decide_true, decide_false, ne_eq, Nat.left_eq_add, Nat.add_eq_left, Nat.add_left_cancel_iff, Nat.add_zero]
  exact key (slts ts).length 0 (by omega)
theorem M_isTextSlot {k : Nat} (X0 : MS h m) (X2 : MF h m si) (hs : si[s]? = some ts) (hk : k < 1000000) : Wp 167 0 [.ref m, .int (Int32.ofNat s), .int (Int32.ofNat k), .null] [] h Q ↔ Q (.inl (.int (bz (kdS ts k = 116)))) h := by
  obtain ⟨a1, a2, a3, a4, a5⟩ := X2.2.2 s ts hs
  have hs40 := (si_lt X2 hs).1
  cases hz : slA ts k 0 with
  | none =>
    have hk0 : kdS ts k = 0 := by unfold kdS; rw [List.getElem?_eq_none ((slA_inv ts k 0).1.mp hz)]
    rw [← bz_f (p := kdS ts k = 116) (by omega)]
    simp (disch := omega) only [U167_0, U167_1, U167_2, U167_3, U167_6, U167_7, U167_8, U167_11, U167_12, U167_15, U167_16, U167_17, U167_19, U167_22, U167_23, U167_26, U167_27, X0.1, M_slotAt X0 X2 hs, V197, hz, oPl, Option.map_none, sfI, show -(Int32.ofNat 1) < Int32.ofNat 0 by decide, i_add, i_mul, i_sub, i_addn, i_lt, i_eq, i_idx, i_vp, true_and, and_true, false_and, and_false, if_true, if_false, Nat.reduceAdd, Nat.reduceMul, Nat.reduceSub, Nat.reduceEqDiff, Option.some.injEq, exists_eq_left', true_or, or_true, false_or, or_false, not_true_eq_false, not_false_eq_true, eq_self, and_self, Nat.reduceLeDiff, decide_true, decide_false, ne_eq, Nat.left_eq_add, Nat.add_eq_left, Nat.add_left_cancel_iff, Nat.add_zero]
  | some z =>
    obtain ⟨l1, l2, l3⟩ := slA_lt hz
    have g := a3 z l2
    rw [l3] at g
    have h256 : kdS ts k < 256 := by rw [← l3]; exact gD_lt (spell_256 a4) z
    by_cases h116 : kdS ts k = 116
    · rw [← bz_t h116]
      simp (disch := omega) only [U167_0, U167_1, U167_2, U167_3, U167_6, U167_7, U167_8, U167_11, U167_12, U167_15, U167_16, U167_17, U167_19, U167_22, U167_23, U167_26, U167_27, X0.1, mp5 X0, mk3 X0, mn3 X0, M_slotAt X0 X2 hs, V197, hz, oPl, Option.map_some, sfI, g, h116, show ¬ 80 * s + z < 0 by omega, show 80 * s + z < 3280 by omega, i_add, i_mul, i_sub, i_addn, i_lt, i_eq, i_idx, i_vp, true_and, and_true, false_and, and_false, if_true, if_false, Nat.reduceAdd, Nat.reduceMul, Nat.reduceSub, Nat.reduceEqDiff, Option.some.injEq, exists_eq_left', true_or, or_true, false_or, or_false, not_true_eq_false, not_false_eq_true, eq_self, and_self, Nat.reduceLeDiff, decide_true, decide_false, ne_eq, Nat.left_eq_add, Nat.add_eq_left, Nat.add_left_cancel_iff, Nat.add_zero]
    · rw [← bz_f h116]
      simp (disch := omega) only [U167_0, U167_1, U167_2, U167_3, U167_6, U167_7, U167_8, U167_11, U167_12, U167_15, U167_16, U167_17, U167_19, U167_22, U167_23, U167_26, U167_27, X0.1, mp5 X0, mk3 X0, mn3 X0, M_slotAt X0 X2 hs, V197, hz, oPl, Option.map_some, sfI, g, h116, show ¬ 80 * s + z < 0 by omega, show 80 * s + z < 3280 by omega, i_add, i_mul, i_sub, i_addn, i_lt, i_eq, i_idx, i_vp, true_and, and_true, false_and, and_false, if_true, if_false, Nat.reduceAdd, Nat.reduceMul, Nat.reduceSub, Nat.reduceEqDiff, Option.some.injEq, exists_eq_left', true_or, or_true, false_or, or_false, not_true_eq_false, not_false_eq_true, eq_self, and_self, Nat.reduceLeDiff, decide_true, decide_false, ne_eq, Nat.left_eq_add, Nat.add_eq_left, Nat.add_left_cancel_iff, Nat.add_zero]
end
