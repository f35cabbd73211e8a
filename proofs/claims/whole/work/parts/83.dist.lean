/-! ===== the class: distinct ===== -/
def vlF (p : Nat → Bool) (v : Nat → Int32) : Nat → Nat → List Int32 → List Int32
  | 0, _, acc => acc
  | n + 1, k, acc => vlF p v n (k + 1) (if p k = true then v k :: acc else acc)
def dsK (s : Int32) : Prop := s < Int32.ofNat 0 ∨ ¬ s < Int32.ofNat 6
def dsD (s : Int32) : Decidable (dsK s) := inferInstanceAs (Decidable (_ ∨ _))
/-- a line counts for a slot -/
def cnt (nm : Nat → List Nat) (si : List (List Tok)) (tm : List Tm) (s : Nat) (y : Ev) : Bool := isN y.2.2.2 s && hld nm si tm y
theorem dst_le : ∀ l : List Int32, dst l ≤ l.length
  | [] => Nat.le_refl _
  | x :: r => by unfold dst; have := dst_le r; rw [List.length_cons]; split <;> omega
section
variable {h h' : MH_} {x B C n w : Nat} {tx : List Nat} {si : List (List Tok)} {nm : Nat → List Nat} {ar : List Arg} {wr : Nat → Wr} {fl : List Nat} {du : Nat} {cu : Bool} {es : List Ev} {br : Nat} {tm : List Tm}
theorem EL_distinct {s : Int32} (ok : ∀ y ∈ es, okL si y) (hlen : es.length ≤ 6000) (E : EL h x (B + 20) (C + 20000) tx si nm ar wr fl du cu es br tm) : Wp 121 0 [.ref x, .int s, .null, .null] [] h (@ite _ (dsK s) (dsD s) (PZ h x B C (.inr 24) tx si nm ar wr fl du cu es br tm) (PZ h x B C (.inl (.int (Int32.ofNat (dst (vlF (fun k => cnt nm si tm s.toNatClampNeg (lnE es k)) (fun k => numA (lnE es k).2.2.2 s.toNatClampNeg) es.length 0 []))))) tx si nm ar wr fl du cu es br tm)) := by
  obtain ⟨rm1, rm2⟩ := E.room
  by_cases c1 : s < Int32.ofNat 0
  · rw [if_pos (show dsK s from Or.inl c1)]
    simp (disch := omega) only [U121_0, U121_1, U121_4, U121_5, U121_7, U121_10, U121_13, U121_18, U121_19, U121_22, U121_23, U121_26, U121_29, U121_32, U121_33, U121_35, U121_36, U121_39, U121_42, U121_45, U121_46, U121_49, U121_50, U121_53, U121_54, U121_55, U121_56, U121_59, U121_62, U121_63, U121_66, U121_67, U121_68, U121_69, U121_72, U121_73, U121_76, U121_79, U121_82, U121_83, U121_86, U121_87, U121_88, U121_91, U121_94, U121_97, U121_100, U121_101, U121_104, U121_107, c1, show 1 ≤ rc_ h by omega, show 6 ≤ rs_ h by omega, i_add, i_mul, i_sub, i_addn, i_lt, i_eq, i_idx, i_vp, true_and, and_true, false_and, and_false, if_true, if_false, Nat.reduceAdd, Nat.reduceMul, Nat.reduceSub, Nat.reduceEqDiff, Option.some.injEq, exists_eq_left', true_or, or_true, false_or, or_false, not_true_eq_false, not_false_eq_true, eq_self, and_self, Nat.reduceLeDiff, decide_true, decide_false, ne_eq, Nat.left_eq_add, Nat.add_eq_left, Nat.add_left_cancel_iff, Nat.add_zero]
    exact E.thr
  · by_cases c2 : s < Int32.ofNat 6
    · rw [if_neg (show ¬ dsK s from fun z => z.elim c1 (fun y => y c2))]
      obtain ⟨m, hm, rfl⟩ := i_nat c1
      rw [i_lt hm (by omega)] at c2
      rw [i_idx hm]
      have key : ∀ n k pv h1 nA S y, k + n = es.length → pv.length ≤ k → Fb (SX x) h h1 → EL h1 x (B + 19) (C + 8000) tx si nm ar wr fl du cu es br tm → Ns h1 (x + 53) nA S → (∀ z, z ∈ S ↔ z ∈ pv) → S.length = dst pv → es.length ≤ ln_ h1 nA → Wp 121 34 [.ref x, .int (Int32.ofNat m), .int (Int32.ofNat k), y] [] h1 (PZ h x B C (.inl (.int (Int32.ofNat (dst (vlF (fun k => cnt nm si tm m (lnE es k)) (fun k => numA (lnE es k).2.2.2 m) n k pv))))) tx si nm ar wr fl du cu es br tm) := by
        intro n
        induction n with
        | zero =>
          intro k pv h1 nA S y hk hpv F1 E1 N1 M1 D1 L1
          have E' := E1
          obtain ⟨t1, t2, a1, a2, d, sA, fs, pl, pr, sr, nB, H, Tt, R, P, F, Bq, I, Qq, N, L⟩ := E1
          obtain ⟨k1, -, ⟨g5, g6, g7, g8, g9, g10, g11, g12⟩, -⟩ := H
          have l1 := L.1.1.1.1
          have l3 := L.1.1.1.2.2.1
          have p2 := L.1.2.1.2.1
          have sl := so_len (es := es) (pl := pl)
          rw [U121_34]
          simp (disch := omega) only [U121_0, U121_1, U121_4, U121_5, U121_7, U121_10, U121_13, U121_18, U121_19, U121_22, U121_23, U121_26, U121_29, U121_32, U121_33, U121_35, U121_36, U121_39, U121_42, U121_45, U121_46, U121_49, U121_50, U121_53, U121_54, U121_55, U121_56, U121_59, U121_62, U121_63, U121_66, U121_67, U121_68, U121_69, U121_72, U121_73, U121_76, U121_79, U121_82, U121_83, U121_86, U121_87, U121_88, U121_91, U121_94, U121_97, U121_100, U121_101, U121_104, U121_107, k1, g9, g12, l1, l3, p2.1, U46_0, U46_1, U46_4, U46_7, V46, AL_size p2, V219, sl, show ¬ k < es.length by omega, U68_0, U68_1, U68_4, V68, N1.1.1, N1.1.2.2.2, i_add, i_mul, i_sub, i_addn, i_lt, i_eq, i_idx, i_vp, true_and, and_true, false_and, and_false, if_true, if_false, Nat.reduceAdd, Nat.reduceMul, Nat.reduceSub, Nat.reduceEqDiff, Option.some.injEq, exists_eq_left', true_or, or_true, false_or, or_false, not_true_eq_false, not_false_eq_true, eq_self, and_self, Nat.reduceLeDiff, decide_true, decide_false, ne_eq, Nat.left_eq_add, Nat.add_eq_left, Nat.add_left_cancel_iff, Nat.add_zero]
          rw [D1]
          exact ⟨rfl, F1, EL.mono (n := 19) (w := 8000) E'⟩
        | succ n ih =>
          intro k pv h1 nA S y hk hpv F1 E1 N1 M1 D1 L1
          have E' := E1
          have hx := E1.nx
          obtain ⟨t1, t2, a1, a2, d, sA, fs, pl, pr, sr, nB, H, Tt, R, P, F, Bq, I, Qq, N, L⟩ := E1
          have eq : nB = nA := by
            obtain ⟨S0, n0⟩ := N.1
            exact Option.some.inj (n0.1.2.1.symm.trans N1.1.2.1)
          subst eq
          have y1 := N.2.1
          have y5 := N.2.2.2.2.2
          obtain ⟨k1, -, ⟨g5, g6, g7, g8, g9, g10, g11, g12⟩, -⟩ := H
          have l1 := L.1.1.1.1
          have l3 := L.1.1.1.2.2.1
          have p2 := L.1.2.1.2.1
          have p3 := L.1.2.1.2.2
          have sl := so_len (es := es) (pl := pl)
          have hkl : k < es.length := by omega
          have kq := Qq.1.1.1
          have i11 := I.1.1
          obtain ⟨e, f, ts, s1, s2, s3, s4, s5, s6, s7, s8, s9, s10, s11, s12⟩ := L.line ok hkl
          obtain ⟨hm2, hge⟩ := get_of s1
          obtain ⟨hs2, hgf⟩ := get_of s2
          have hl3 := p3.len
          have eF : vlF (fun k => cnt nm si tm m (lnE es k)) (fun k => numA (lnE es k).2.2.2 m) (n + 1) k pv = vlF (fun k => cnt nm si tm m (lnE es k)) (fun k => numA (lnE es k).2.2.2 m) n (k + 1) (if cnt nm si tm m (lnE es k) = true then numA (lnE es k).2.2.2 m :: pv else pv) := rfl
          rw [eF]
          rw [U121_34]
          by_cases hN : isN (lnE es k).2.2.2 m = true
          · simp (disch := omega) only [U121_0, U121_1, U121_4, U121_5, U121_7, U121_10, U121_13, U121_18, U121_19, U121_22, U121_23, U121_26, U121_29, U121_32, U121_33, U121_35, U121_36, U121_39, U121_42, U121_45, U121_46, U121_49, U121_50, U121_53, U121_54, U121_55, U121_56, U121_59, U121_62, U121_63, U121_66, U121_67, U121_68, U121_69, U121_72, U121_73, U121_76, U121_79, U121_82, U121_83, U121_86, U121_87, U121_88, U121_91, U121_94, U121_97, U121_100, U121_101, U121_104, U121_107, k1, g5, g9, g10, g11, l1, l3, p2.1, p3.1, i11, kq, U46_0, U46_1, U46_4, U46_7, V46, AL_size p2, V219, sl, hkl, U44_0, U44_1, U44_4, U44_5, U44_8, U44_11, V44, AL_get p2 hm2, hge, V215, s4.1.1, Event_hasNumber s4, V15, bz_0, hN, U124_0, U124_1, U124_4, U124_5, U124_6, U124_9, U124_10, U124_11, U124_14, U124_17, U124_20, U124_21, U124_24, U124_25, U124_28, U124_31, U124_34, U124_35, U124_38, V124, U21_0, U21_1, U21_4, V21, s5.2.1, AL_size p3, Nat.not_lt_zero, hs2, AL_get p3 hs2, hgf, s6.1.1, i_add, i_mul, i_sub, i_addn, i_lt, i_eq, i_idx, i_vp, true_and, and_true, false_and, and_false, if_true, if_false, Nat.reduceAdd, Nat.reduceMul, Nat.reduceSub, Nat.reduceEqDiff, Option.some.injEq, exists_eq_left', true_or, or_true, false_or, or_false, not_true_eq_false, not_false_eq_true, eq_self, and_self, Nat.reduceLeDiff, decide_true, decide_false, ne_eq, Nat.left_eq_add, Nat.add_eq_left, Nat.add_left_cancel_iff, Nat.add_zero]
            refine hold_step ok hkl E' s3 s4 s5 s6 s7 s8 s9 s10 ?_
            intro h2 f2 E2
            have F2 : Fb (SX x) h h2 := F1.trans f2.fb (fun a i _ z => SP_SX a i z)
            have N2 : Ns h2 (x + 53) nB S := N1.ag (f2.fy.ag (by unfold SP SR; intro a i z w y; omega)) (f2.fy.ag (by unfold SP SR; intro a i z w y; omega))
            have L2 : ln_ h2 nB = ln_ h1 nB := f2.ln nB
            by_cases hh : hld nm si tm (lnE es k) = true
            · have hc : cnt nm si tm m (lnE es k) = true := by unfold cnt; rw [hN, hh]; rfl
              rw [if_pos hc, ← bz_t hh]
              have s4' := s4.fz f2 (by unfold SE SP SR; intro a i z w; omega)
              have hdl := dst_le pv
              simp (disch := omega) only [V80, U121_0, U121_1, U121_4, U121_5, U121_7, U121_10, U121_13, U121_18, U121_19, U121_22, U121_23, U121_26, U121_29, U121_32, U121_33, U121_35, U121_36, U121_39, U121_42, U121_45, U121_46, U121_49, U121_50, U121_53, U121_54, U121_55, U121_56, U121_59, U121_62, U121_63, U121_66, U121_67, U121_68, U121_69, U121_72, U121_73, U121_76, U121_79, U121_82, U121_83, U121_86, U121_87, U121_88, U121_91, U121_94, U121_97, U121_100, U121_101, U121_104, U121_107, f2.kd, f2.gP, k1, g12, N1.1.1, s4.1.1, Event_numberAt s4', V20, show ¬ (1 : Nat) = 0 by omega, i_add, i_mul, i_sub, i_addn, i_lt, i_eq, i_idx, i_vp, true_and, and_true, false_and, and_false, if_true, if_false, Nat.reduceAdd, Nat.reduceMul, Nat.reduceSub, Nat.reduceEqDiff, Option.some.injEq, exists_eq_left', true_or, or_true, false_or, or_false, not_true_eq_false, not_false_eq_true, eq_self, and_self, Nat.reduceLeDiff, decide_true, decide_false, ne_eq, Nat.left_eq_add, Nat.add_eq_left, Nat.add_left_cancel_iff, Nat.add_zero]
              refine Wp_use (NSet_add N2 M1 D1 (by omega)) ?_
              rintro _ h3 ⟨rfl, ⟨S3, N3, M3, D3⟩, f3⟩
              simp (disch := omega) only [V66, U121_0, U121_1, U121_4, U121_5, U121_7, U121_10, U121_13, U121_18, U121_19, U121_22, U121_23, U121_26, U121_29, U121_32, U121_33, U121_35, U121_36, U121_39, U121_42, U121_45, U121_46, U121_49, U121_50, U121_53, U121_54, U121_55, U121_56, U121_59, U121_62, U121_63, U121_66, U121_67, U121_68, U121_69, U121_72, U121_73, U121_76, U121_79, U121_82, U121_83, U121_86, U121_87, U121_88, U121_91, U121_94, U121_97, U121_100, U121_101, U121_104, U121_107, i_add, i_mul, i_sub, i_addn, i_lt, i_eq, i_idx, i_vp, true_and, and_true, false_and, and_false, if_true, if_false, Nat.reduceAdd, Nat.reduceMul, Nat.reduceSub, Nat.reduceEqDiff, Option.some.injEq, exists_eq_left', true_or, or_true, false_or, or_false, not_true_eq_false, not_false_eq_true, eq_self, and_self, Nat.reduceLeDiff, decide_true, decide_false, ne_eq, Nat.left_eq_add, Nat.add_eq_left, Nat.add_left_cancel_iff, Nat.add_zero]
              have E3 := EL.nset (n := 0) (w := 0) E2 N2 (f3.fa) (fun a i z => by rcases z with z | z; exact Or.inl z.1; exact Or.inr z) N3 (Or.inl rfl) (by rw [f3.nx, f2.nx]; exact y5)
              refine ih (k + 1) _ h3 nB S3 _ (by omega) (by rw [List.length_cons]; omega) (F2.trans f3.fb (fun a i _ z => ?_)) E3 N3 M3 D3 (by rw [f3.ln, L2]; exact L1)
              rcases z with z | z
              · exact Or.inl (by omega)
              · rcases y1 with w | w
                · exact Or.inl (by omega)
                · exact Or.inr (by omega)
            · have hc : ¬ cnt nm si tm m (lnE es k) = true := by unfold cnt; rw [hN, Bool.true_and]; exact hh
              rw [if_neg hc, ← bz_f hh]
              simp (disch := omega) only [V80, U121_0, U121_1, U121_4, U121_5, U121_7, U121_10, U121_13, U121_18, U121_19, U121_22, U121_23, U121_26, U121_29, U121_32, U121_33, U121_35, U121_36, U121_39, U121_42, U121_45, U121_46, U121_49, U121_50, U121_53, U121_54, U121_55, U121_56, U121_59, U121_62, U121_63, U121_66, U121_67, U121_68, U121_69, U121_72, U121_73, U121_76, U121_79, U121_82, U121_83, U121_86, U121_87, U121_88, U121_91, U121_94, U121_97, U121_100, U121_101, U121_104, U121_107, i_add, i_mul, i_sub, i_addn, i_lt, i_eq, i_idx, i_vp, true_and, and_true, false_and, and_false, if_true, if_false, Nat.reduceAdd, Nat.reduceMul, Nat.reduceSub, Nat.reduceEqDiff, Option.some.injEq, exists_eq_left', true_or, or_true, false_or, or_false, not_true_eq_false, not_false_eq_true, eq_self, and_self, Nat.reduceLeDiff, decide_true, decide_false, ne_eq, Nat.left_eq_add, Nat.add_eq_left, Nat.add_left_cancel_iff, Nat.add_zero]
              exact ih (k + 1) pv h2 nB S _ (by omega) (by omega) F2 E2 N2 M1 D1 (by rw [L2]; exact L1)
          · have hc : ¬ cnt nm si tm m (lnE es k) = true := by unfold cnt; intro z; rw [Bool.and_eq_true] at z; exact hN z.1
            rw [if_neg hc]
            simp (disch := omega) only [U121_0, U121_1, U121_4, U121_5, U121_7, U121_10, U121_13, U121_18, U121_19, U121_22, U121_23, U121_26, U121_29, U121_32, U121_33, U121_35, U121_36, U121_39, U121_42, U121_45, U121_46, U121_49, U121_50, U121_53, U121_54, U121_55, U121_56, U121_59, U121_62, U121_63, U121_66, U121_67, U121_68, U121_69, U121_72, U121_73, U121_76, U121_79, U121_82, U121_83, U121_86, U121_87, U121_88, U121_91, U121_94, U121_97, U121_100, U121_101, U121_104, U121_107, k1, g5, g9, g10, g11, l1, l3, p2.1, p3.1, i11, kq, U46_0, U46_1, U46_4, U46_7, V46, AL_size p2, V219, sl, hkl, U44_0, U44_1, U44_4, U44_5, U44_8, U44_11, V44, AL_get p2 hm2, hge, V215, s4.1.1, Event_hasNumber s4, V15, bz_0, hN, i_add, i_mul, i_sub, i_addn, i_lt, i_eq, i_idx, i_vp, true_and, and_true, false_and, and_false, if_true, if_false, Nat.reduceAdd, Nat.reduceMul, Nat.reduceSub, Nat.reduceEqDiff, Option.some.injEq, exists_eq_left', true_or, or_true, false_or, or_false, not_true_eq_false, not_false_eq_true, eq_self, and_self, Nat.reduceLeDiff, decide_true, decide_false, ne_eq, Nat.left_eq_add, Nat.add_eq_left, Nat.add_left_cancel_iff, Nat.add_zero]
            exact ih (k + 1) pv h1 nB S _ (by omega) (by omega) F1 E' N1 M1 D1 L1
      have E' : EL h x (B + 19 + 1) (C + 8000 + 12000) tx si nm ar wr fl du cu es br tm := by
        rw [show B + 19 + 1 = B + 20 by omega, show C + 8000 + 12000 = C + 20000 by omega]
        exact E
      have hx := E.nx
      obtain ⟨t1, t2, a1, a2, d, sA, fs, pl, pr, sr, nA, H, Tt, R, P, F, Bq, I, Qq, N, L⟩ := E
      obtain ⟨k1, -, ⟨g5, g6, g7, g8, g9, g10, g11, g12⟩, -⟩ := H
      have l1 := L.1.1.1.1
      have l3 := L.1.1.1.2.2.1
      have p2 := L.1.2.1.2.1
      have sl := so_len (es := es) (pl := pl)
      obtain ⟨S, n0⟩ := N.1
      simp (disch := omega) only [U121_0, U121_1, U121_4, U121_5, U121_7, U121_10, U121_13, U121_18, U121_19, U121_22, U121_23, U121_26, U121_29, show ¬ m < 0 by omega, c2, k1, g9, g12, l1, l3, p2.1, n0.1.1, U46_0, U46_1, U46_4, U46_7, V46, AL_size p2, V219, sl, i_add, i_mul, i_sub, i_addn, i_lt, i_eq, i_idx, i_vp, true_and, and_true, false_and, and_false, if_true, if_false, Nat.reduceAdd, Nat.reduceMul, Nat.reduceSub, Nat.reduceEqDiff, Option.some.injEq, exists_eq_left', true_or, or_true, false_or, or_false, not_true_eq_false, not_false_eq_true, eq_self, and_self, Nat.reduceLeDiff, decide_true, decide_false, ne_eq, Nat.left_eq_add, Nat.add_eq_left, Nat.add_left_cancel_iff, Nat.add_zero]
      refine Wp_use (NSet_begin n0 hlen (by omega) N.2.2.2.2.2 (by omega) (by omega)) ?_
      rintro _ h1 ⟨rfl, nA1, N1, L1, o1, o2, f1⟩
      simp (disch := omega) only [V67, U121_29, U121_32, U121_33, i_add, i_mul, i_sub, i_addn, i_lt, i_eq, i_idx, i_vp, true_and, and_true, false_and, and_false, if_true, if_false, Nat.reduceAdd, Nat.reduceMul, Nat.reduceSub, Nat.reduceEqDiff, Option.some.injEq, exists_eq_left', true_or, or_true, false_or, or_false, not_true_eq_false, not_false_eq_true, eq_self, and_self, Nat.reduceLeDiff, decide_true, decide_false, ne_eq, Nat.left_eq_add, Nat.add_eq_left, Nat.add_left_cancel_iff, Nat.add_zero]
      exact key es.length 0 [] h1 nA1 [] _ (by omega) (by simp) (f1.fb.mono (fun a i _ z => Or.inl (by omega))) (EL.nset (B := B + 19) (C := C + 8000) (n := 1) (w := 12000) E' n0 f1 (fun a i z => Or.inl z) N1 o1 o2) N1 (fun z => Iff.rfl) rfl L1
    · rw [if_pos (show dsK s from Or.inr c2)]
      simp (disch := omega) only [U121_0, U121_1, U121_4, U121_5, U121_7, U121_10, U121_13, U121_18, U121_19, U121_22, U121_23, U121_26, U121_29, U121_32, U121_33, U121_35, U121_36, U121_39, U121_42, U121_45, U121_46, U121_49, U121_50, U121_53, U121_54, U121_55, U121_56, U121_59, U121_62, U121_63, U121_66, U121_67, U121_68, U121_69, U121_72, U121_73, U121_76, U121_79, U121_82, U121_83, U121_86, U121_87, U121_88, U121_91, U121_94, U121_97, U121_100, U121_101, U121_104, U121_107, c1, c2, show 1 ≤ rc_ h by omega, show 6 ≤ rs_ h by omega, i_add, i_mul, i_sub, i_addn, i_lt, i_eq, i_idx, i_vp, true_and, and_true, false_and, and_false, if_true, if_false, Nat.reduceAdd, Nat.reduceMul, Nat.reduceSub, Nat.reduceEqDiff, Option.some.injEq, exists_eq_left', true_or, or_true, false_or, or_false, not_true_eq_false, not_false_eq_true, eq_self, and_self, Nat.reduceLeDiff, decide_true, decide_false, ne_eq, Nat.left_eq_add, Nat.add_eq_left, Nat.add_left_cancel_iff, Nat.add_zero]
      exact E.thr
end
