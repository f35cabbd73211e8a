/-! ===== the class: log, all ===== -/
section
variable {h h' : MH_} {x B C n : Nat} {T : Nat → Nat → Prop} {tx : List Nat} {si : List (List Tok)} {nm : Nat → List Nat} {ar : List Arg} {wr : Nat → Wr} {fl : List Nat} {du : Nat} {cu : Bool} {es : List Ev} {br : Nat} {tm : List Tm}
/-- what log answers and leaves, when there are writer and site and the file is not cut -/
def PG (h : MH_) (x B C : Nat) (w s : Nat) (t : Int64) (tx : List Nat) (si : List (List Tok)) (nm : Nat → List Nat) (ar : List Arg) (wr : Nat → Wr) (fl : List Nat) (du : Nat) (cu : Bool) (es : List Ev) (br : Nat) (tm : List Tm) : Rs_ → MH_ → Prop :=
  @ite _ (lgF (si.getD s []) ar t (wr w).2.1) (lgG _ _ _ _)
    (if (pkP (wrN (wr w) s t.toNatClampNeg ar)).1.length ≤ 238 then PZ h x B C (.inl (.int (Int32.ofNat (pkP (wrN (wr w) s t.toNatClampNeg ar)).1.length))) tx si nm [] (wrS wr w (wrN (wr w) s t.toNatClampNeg ar, t.toNatClampNeg, (wr w).2.2)) fl du cu es br tm
      else if 6144 < fl.length + 256 then PZ h x B C (.inr 20) tx si nm [] wr fl du cu es br tm
      else PZ h x B C (.inl (.int (Int32.ofNat (pkP [(s, t.toNatClampNeg, ar)]).1.length))) tx si nm [] (wrS wr w ([(s, t.toNatClampNeg, ar)], t.toNatClampNeg, (wr w).2.2 + 1)) (fl ++ bkW w (wr w)) du cu es br tm)
    (PZ h x B C (.inr 22) tx si nm [] wr fl du cu es br tm)
theorem EL_log {w s : Int32} {t : Int64} (hok : WrOk si wr) (E : EL h x (B + 20) (C + 20000) tx si nm ar wr fl du cu es br tm) : Wp 129 0 [.ref x, .int w, .int s, .long t, .null, .null, .null] [] h (@ite _ (wrI w) (wrD w) (@ite _ (lgI s si) (lgD s si) (if cu = true then PZ h x B C (.inr 23) tx si nm [] wr fl du cu es br tm else PG h x B C w.toNatClampNeg s.toNatClampNeg t tx si nm ar wr fl du cu es br tm) (PZ h x B C (.inr 21) tx si nm [] wr fl du cu es br tm)) (PZ h x B C (.inr 21) tx si nm [] wr fl du cu es br tm)) := by
  have k1 : kd_ h x = 12 := by obtain ⟨t1, t2, a1, a2, d, sA, fs, pl, pr, sr, nA, H, -⟩ := E; exact H.1
  simp (disch := omega) only [U129_0, U129_1, U129_4, k1, i_add, i_mul, i_sub, i_addn, i_lt, i_eq, i_idx, i_vp, true_and, and_true, false_and, and_false, if_true, if_false, Nat.reduceAdd, Nat.reduceMul, Nat.reduceSub, Nat.reduceEqDiff, Option.some.injEq, exists_eq_left', true_or, or_true, false_or, or_false, not_true_eq_false, not_false_eq_true, eq_self, and_self, Nat.reduceLeDiff, decide_true, decide_false, ne_eq, Nat.left_eq_add, Nat.add_eq_left, Nat.add_left_cancel_iff, Nat.add_zero]
  refine Wp_use (EL_takeArguments E) ?_
  rintro v h1 ⟨a, rfl, ha, he, f1, E1⟩
  have hS : ∀ a i, (fun (a _ : Nat) => a = x ∨ (x + 5 ≤ a ∧ a < x + 13)) a i → SX x a i := fun a i z => Or.inl (by omega)
  obtain ⟨rm1, rm2⟩ := E1.room
  have E' := E1
  obtain ⟨t1, t2, a1, a2, d, sA, fs, pl, pr, sr, nA, H, Tt, R, P, F, Bq, I, Qq, N, L⟩ := E1
  obtain ⟨k1', ⟨g0, g1, g2, g3, g4⟩, ⟨g5, g6, g7, g8, g9, g10, g11, g12⟩, ⟨g13, g14, g15⟩⟩ := H
  obtain ⟨F1, F2, F3, F4, F5⟩ := F
  have sl := L.1.2.1.2.2
  have ss := L.1.2.2.1
  have hl40 : fs.length ≤ 40 := by rw [ss.1]; exact ss.2.1
  by_cases c1 : wrI w
  · rw [if_pos c1]
    have b1 : ¬ (@bz (wrI w) (wrD w)) = Int32.ofNat 0 := by rw [@bz_0 _ (wrD w)]; exact fun z => z c1
    obtain ⟨m, hm, rfl⟩ := i_nat c1.1
    have ei := i_idx hm
    have hm4 : m < 4 := by have := c1.2; rw [ei] at this; exact this
    rw [ei]
    by_cases c2 : s < Int32.ofNat 0
    · rw [if_neg (fun z => z.1 c2)]
      simp (disch := omega) only [V136, U129_0, U129_1, U129_4, U129_6, U129_7, U129_10, U129_13, U129_14, U129_17, U129_18, U129_19, U129_22, U129_25, U129_28, U129_31, U129_36, U129_37, U129_40, U129_43, U129_46, U129_49, U129_54, U129_55, U129_58, U129_59, U129_60, U129_62, U129_63, U129_66, U129_67, U129_70, U129_73, U129_75, U129_78, U129_81, U129_82, U129_83, U129_84, U129_87, U129_88, U129_90, U129_93, U129_94, U129_97, U129_100, U129_105, U129_107, U129_108, U129_109, U129_110, U129_113, U129_115, U129_117, U129_118, U129_121, U129_124, U129_125, U129_128, U129_131, U129_133, U129_136, U129_139, U129_140, U129_143, U129_146, U129_149, U129_152, U129_157, U129_159, U129_160, U129_163, U129_166, U129_168, U129_170, U129_171, U129_174, U129_177, U129_179, U129_181, U129_182, U129_185, U129_188, U129_190, U129_193, EL_isWI, V125, b1, c2, show 1 ≤ rc_ h1 by omega, show 6 ≤ rs_ h1 by omega, i_add, i_mul, i_sub, i_addn, i_lt, i_eq, i_idx, i_vp, true_and, and_true, false_and, and_false, if_true, if_false, Nat.reduceAdd, Nat.reduceMul, Nat.reduceSub, Nat.reduceEqDiff, Option.some.injEq, exists_eq_left', true_or, or_true, false_or, or_false, not_true_eq_false, not_false_eq_true, eq_self, and_self, Nat.reduceLeDiff, decide_true, decide_false, ne_eq, Nat.left_eq_add, Nat.add_eq_left, Nat.add_left_cancel_iff, Nat.add_zero]
      exact PZ.tr f1 hS _ _ E'.thr
    · obtain ⟨k, hk, rfl⟩ := i_nat c2
      have ek := i_idx hk
      rw [ek]
      by_cases c3 : k < fs.length
      · have c3' : k < si.length := by rw [← ss.1]; exact c3
        rw [if_pos ⟨c2, by rw [ek]; exact c3'⟩]
        by_cases c4 : cu = true
        · rw [if_pos c4]
          have F4' : gI_ h1 (x + 23) 2 = Int32.ofNat 1 := by rw [F4]; exact (bz_t c4).symm
          simp (disch := omega) only [V136, U129_0, U129_1, U129_4, U129_6, U129_7, U129_10, U129_13, U129_14, U129_17, U129_18, U129_19, U129_22, U129_25, U129_28, U129_31, U129_36, U129_37, U129_40, U129_43, U129_46, U129_49, U129_54, U129_55, U129_58, U129_59, U129_60, U129_62, U129_63, U129_66, U129_67, U129_70, U129_73, U129_75, U129_78, U129_81, U129_82, U129_83, U129_84, U129_87, U129_88, U129_90, U129_93, U129_94, U129_97, U129_100, U129_105, U129_107, U129_108, U129_109, U129_110, U129_113, U129_115, U129_117, U129_118, U129_121, U129_124, U129_125, U129_128, U129_131, U129_133, U129_136, U129_139, U129_140, U129_143, U129_146, U129_149, U129_152, U129_157, U129_159, U129_160, U129_163, U129_166, U129_168, U129_170, U129_171, U129_174, U129_177, U129_179, U129_181, U129_182, U129_185, U129_188, U129_190, U129_193, EL_isWI, V125, b1, show ¬ k < 0 by omega, k1', g5, g8, sl.1, AL_size sl, V219, c3, F1.1, U57_0, U57_1, U57_4, V57, F4', show ¬ (1 : Nat) = 0 by omega, show 1 ≤ rc_ h1 by omega, show 6 ≤ rs_ h1 by omega, i_add, i_mul, i_sub, i_addn, i_lt, i_eq, i_idx, i_vp, true_and, and_true, false_and, and_false, if_true, if_false, Nat.reduceAdd, Nat.reduceMul, Nat.reduceSub, Nat.reduceEqDiff, Option.some.injEq, exists_eq_left', true_or, or_true, false_or, or_false, not_true_eq_false, not_false_eq_true, eq_self, and_self, Nat.reduceLeDiff, decide_true, decide_false, ne_eq, Nat.left_eq_add, Nat.add_eq_left, Nat.add_left_cancel_iff, Nat.add_zero]
          exact PZ.tr f1 hS _ _ E'.thr
        · rw [if_neg c4]
          have F4' : gI_ h1 (x + 23) 2 = Int32.ofNat 0 := by rw [F4]; exact (bz_f c4).symm
          obtain ⟨ft, bk, hft⟩ := Bq m hm4
          have hts : si[k]? = some (si.getD k []) := by rw [List.getD_eq_getElem?_getD, List.getElem?_eq_getElem c3']; rfl
          obtain ⟨fo, ok⟩ := ss.2.2 k fs[k] _ (List.getElem?_eq_getElem c3) hts
          generalize hD : si.getD k [] = ts at *
          have kf := fo.1.1
          unfold PG
          rw [hD]
          obtain ⟨w1, w2, w3, w4⟩ := hok m hm4
          by_cases d1 : fit ts ar = true
          · by_cases d2 : t < Int64.ofNat 0
            · rw [if_neg (fun z => z.2.1 d2)]
              simp (disch := omega) only [V136, U129_0, U129_1, U129_4, U129_6, U129_7, U129_10, U129_13, U129_14, U129_17, U129_18, U129_19, U129_22, U129_25, U129_28, U129_31, U129_36, U129_37, U129_40, U129_43, U129_46, U129_49, U129_54, U129_55, U129_58, U129_59, U129_60, U129_62, U129_63, U129_66, U129_67, U129_70, U129_73, U129_75, U129_78, U129_81, U129_82, U129_83, U129_84, U129_87, U129_88, U129_90, U129_93, U129_94, U129_97, U129_100, U129_105, U129_107, U129_108, U129_109, U129_110, U129_113, U129_115, U129_117, U129_118, U129_121, U129_124, U129_125, U129_128, U129_131, U129_133, U129_136, U129_139, U129_140, U129_143, U129_146, U129_149, U129_152, U129_157, U129_159, U129_160, U129_163, U129_166, U129_168, U129_170, U129_171, U129_174, U129_177, U129_179, U129_181, U129_182, U129_185, U129_188, U129_190, U129_193, EL_isWI, V125, b1, show ¬ k < 0 by omega, k1', g5, g6, g8, g13, g14, g15 m hm4, hm4, bk.1.1, sl.1, AL_size sl, V219, AL_get sl c3, V215, kf, Format_fits fo.1 fo.2.1 ok he, V30, bz_0, d1, c_lt, d2, c3, F1.1, U57_0, U57_1, U57_4, V57, F4', show (34 : Nat) ≤ 35 by omega, show (35 : Nat) ≤ 36 by omega, show 1 ≤ rc_ h1 by omega, show 6 ≤ rs_ h1 by omega, i_add, i_mul, i_sub, i_addn, i_lt, i_eq, i_idx, i_vp, true_and, and_true, false_and, and_false, if_true, if_false, Nat.reduceAdd, Nat.reduceMul, Nat.reduceSub, Nat.reduceEqDiff, Option.some.injEq, exists_eq_left', true_or, or_true, false_or, or_false, not_true_eq_false, not_false_eq_true, eq_self, and_self, Nat.reduceLeDiff, decide_true, decide_false, ne_eq, Nat.left_eq_add, Nat.add_eq_left, Nat.add_left_cancel_iff, Nat.add_zero]
              exact PZ.tr f1 hS _ _ E'.thr
            · by_cases d3 : t < Int64.ofNat (wr m).2.1
              · rw [if_neg (fun z => z.2.2 d3)]
                simp (disch := omega) only [V136, U129_0, U129_1, U129_4, U129_6, U129_7, U129_10, U129_13, U129_14, U129_17, U129_18, U129_19, U129_22, U129_25, U129_28, U129_31, U129_36, U129_37, U129_40, U129_43, U129_46, U129_49, U129_54, U129_55, U129_58, U129_59, U129_60, U129_62, U129_63, U129_66, U129_67, U129_70, U129_73, U129_75, U129_78, U129_81, U129_82, U129_83, U129_84, U129_87, U129_88, U129_90, U129_93, U129_94, U129_97, U129_100, U129_105, U129_107, U129_108, U129_109, U129_110, U129_113, U129_115, U129_117, U129_118, U129_121, U129_124, U129_125, U129_128, U129_131, U129_133, U129_136, U129_139, U129_140, U129_143, U129_146, U129_149, U129_152, U129_157, U129_159, U129_160, U129_163, U129_166, U129_168, U129_170, U129_171, U129_174, U129_177, U129_179, U129_181, U129_182, U129_185, U129_188, U129_190, U129_193, EL_isWI, V125, b1, show ¬ k < 0 by omega, k1', g5, g6, g8, g13, g14, g15 m hm4, hm4, bk.1.1, sl.1, AL_size sl, V219, AL_get sl c3, V215, kf, Format_fits fo.1 fo.2.1 ok he, V30, bz_0, d1, c_lt, d2, U5_0, U5_1, U5_4, V5, bk.2.2.2.2.2.1, d3, c3, F1.1, U57_0, U57_1, U57_4, V57, F4', show (34 : Nat) ≤ 35 by omega, show (35 : Nat) ≤ 36 by omega, show 1 ≤ rc_ h1 by omega, show 6 ≤ rs_ h1 by omega, i_add, i_mul, i_sub, i_addn, i_lt, i_eq, i_idx, i_vp, true_and, and_true, false_and, and_false, if_true, if_false, Nat.reduceAdd, Nat.reduceMul, Nat.reduceSub, Nat.reduceEqDiff, Option.some.injEq, exists_eq_left', true_or, or_true, false_or, or_false, not_true_eq_false, not_false_eq_true, eq_self, and_self, Nat.reduceLeDiff, decide_true, decide_false, ne_eq, Nat.left_eq_add, Nat.add_eq_left, Nat.add_left_cancel_iff, Nat.add_zero]
                exact PZ.tr f1 hS _ _ E'.thr
              · rw [if_pos ⟨d1, d2, d3⟩]
                obtain ⟨u, hu, rfl⟩ := j_nat d2
                have eu : (Int64.ofNat u).toNatClampNeg = u := Int64.toNatClampNeg_ofNat_of_lt (by omega)
                rw [j_lt hu w1] at d3
                rw [eu]
                have M := log_main (s := k) (ts := ts) (t := u) hm4 c3' hts d1 hu (by omega) hok ha he E'
                have d2' : ¬ Int64.ofNat u < Int64.ofNat 0 := d2
                have d3' : ¬ Int64.ofNat u < Int64.ofNat (wr m).2.1 := by rw [j_lt hu w1]; exact d3
                have M' : Wp 129 105 [.ref x, .int (Int32.ofNat m), .int (Int32.ofNat k), .long (Int64.ofNat u), .null, .ref a, .ref (x + 55 + 4 * m)] [] h1 (if (pkP (wrN (wr m) k u ar)).1.length ≤ 238 then PZ h x B C (.inl (.int (Int32.ofNat (pkP (wrN (wr m) k u ar)).1.length))) tx si nm [] (wrS wr m (wrN (wr m) k u ar, u, (wr m).2.2)) fl du cu es br tm else if 6144 < fl.length + 256 then PZ h x B C (.inr 20) tx si nm [] wr fl du cu es br tm else PZ h x B C (.inl (.int (Int32.ofNat (pkP [(k, u, ar)]).1.length))) tx si nm [] (wrS wr m ([(k, u, ar)], u, (wr m).2.2 + 1)) (fl ++ bkW m (wr m)) du cu es br tm) := by
                  refine Wp_use M ?_
                  intro v h2
                  split
                  · exact PZ.tr f1 hS _ _
                  · split
                    · exact PZ.tr f1 hS _ _
                    · exact PZ.tr f1 hS _ _
                simp (disch := omega) only [V136, U129_4, U129_6, U129_7, U129_10, U129_13, U129_14, U129_17, U129_18, U129_19, U129_22, U129_25, U129_28, U129_31, U129_36, U129_37, U129_40, U129_43, U129_46, U129_49, U129_54, U129_55, U129_58, U129_59, U129_60, U129_62, U129_63, U129_66, U129_67, U129_70, U129_73, U129_75, U129_78, U129_81, U129_82, U129_83, U129_84, U129_87, U129_88, U129_90, U129_93, U129_94, EL_isWI, V125, b1, show ¬ k < 0 by omega, k1', g5, g6, g8, g13, g14, g15 m hm4, hm4, bk.1.1, sl.1, AL_size sl, V219, AL_get sl c3, V215, kf, Format_fits fo.1 fo.2.1 ok he, V30, bz_0, d1, c_lt, d2', U5_0, U5_1, U5_4, V5, bk.2.2.2.2.2.1, d3', c3, F1.1, U57_0, U57_1, U57_4, V57, F4', show (34 : Nat) ≤ 35 by omega, show (35 : Nat) ≤ 36 by omega, i_add, i_mul, i_sub, i_addn, i_lt, i_eq, i_idx, i_vp, true_and, and_true, false_and, and_false, if_true, if_false, Nat.reduceAdd, Nat.reduceMul, Nat.reduceSub, Nat.reduceEqDiff, Option.some.injEq, exists_eq_left', true_or, or_true, false_or, or_false, not_true_eq_false, not_false_eq_true, eq_self, and_self, Nat.reduceLeDiff, decide_true, decide_false, ne_eq, Nat.left_eq_add, Nat.add_eq_left, Nat.add_left_cancel_iff, Nat.add_zero]
                exact M'
          · rw [if_neg (fun z => d1 z.1)]
            simp (disch := omega) only [V136, U129_0, U129_1, U129_4, U129_6, U129_7, U129_10, U129_13, U129_14, U129_17, U129_18, U129_19, U129_22, U129_25, U129_28, U129_31, U129_36, U129_37, U129_40, U129_43, U129_46, U129_49, U129_54, U129_55, U129_58, U129_59, U129_60, U129_62, U129_63, U129_66, U129_67, U129_70, U129_73, U129_75, U129_78, U129_81, U129_82, U129_83, U129_84, U129_87, U129_88, U129_90, U129_93, U129_94, U129_97, U129_100, U129_105, U129_107, U129_108, U129_109, U129_110, U129_113, U129_115, U129_117, U129_118, U129_121, U129_124, U129_125, U129_128, U129_131, U129_133, U129_136, U129_139, U129_140, U129_143, U129_146, U129_149, U129_152, U129_157, U129_159, U129_160, U129_163, U129_166, U129_168, U129_170, U129_171, U129_174, U129_177, U129_179, U129_181, U129_182, U129_185, U129_188, U129_190, U129_193, EL_isWI, V125, b1, show ¬ k < 0 by omega, k1', g5, g6, g8, g13, g14, g15 m hm4, hm4, bk.1.1, sl.1, AL_size sl, V219, AL_get sl c3, V215, kf, Format_fits fo.1 fo.2.1 ok he, V30, bz_0, d1, c3, F1.1, U57_0, U57_1, U57_4, V57, F4', show (34 : Nat) ≤ 35 by omega, show (35 : Nat) ≤ 36 by omega, show 1 ≤ rc_ h1 by omega, show 6 ≤ rs_ h1 by omega, i_add, i_mul, i_sub, i_addn, i_lt, i_eq, i_idx, i_vp, true_and, and_true, false_and, and_false, if_true, if_false, Nat.reduceAdd, Nat.reduceMul, Nat.reduceSub, Nat.reduceEqDiff, Option.some.injEq, exists_eq_left', true_or, or_true, false_or, or_false, not_true_eq_false, not_false_eq_true, eq_self, and_self, Nat.reduceLeDiff, decide_true, decide_false, ne_eq, Nat.left_eq_add, Nat.add_eq_left, Nat.add_left_cancel_iff, Nat.add_zero]
            exact PZ.tr f1 hS _ _ E'.thr
      · rw [if_neg (fun z => by have := z.2; rw [ek, ← ss.1] at this; exact c3 this)]
        simp (disch := omega) only [V136, U129_0, U129_1, U129_4, U129_6, U129_7, U129_10, U129_13, U129_14, U129_17, U129_18, U129_19, U129_22, U129_25, U129_28, U129_31, U129_36, U129_37, U129_40, U129_43, U129_46, U129_49, U129_54, U129_55, U129_58, U129_59, U129_60, U129_62, U129_63, U129_66, U129_67, U129_70, U129_73, U129_75, U129_78, U129_81, U129_82, U129_83, U129_84, U129_87, U129_88, U129_90, U129_93, U129_94, U129_97, U129_100, U129_105, U129_107, U129_108, U129_109, U129_110, U129_113, U129_115, U129_117, U129_118, U129_121, U129_124, U129_125, U129_128, U129_131, U129_133, U129_136, U129_139, U129_140, U129_143, U129_146, U129_149, U129_152, U129_157, U129_159, U129_160, U129_163, U129_166, U129_168, U129_170, U129_171, U129_174, U129_177, U129_179, U129_181, U129_182, U129_185, U129_188, U129_190, U129_193, EL_isWI, V125, b1, show ¬ k < 0 by omega, k1', g5, sl.1, AL_size sl, V219, c3, show 1 ≤ rc_ h1 by omega, show 6 ≤ rs_ h1 by omega, i_add, i_mul, i_sub, i_addn, i_lt, i_eq, i_idx, i_vp, true_and, and_true, false_and, and_false, if_true, if_false, Nat.reduceAdd, Nat.reduceMul, Nat.reduceSub, Nat.reduceEqDiff, Option.some.injEq, exists_eq_left', true_or, or_true, false_or, or_false, not_true_eq_false, not_false_eq_true, eq_self, and_self, Nat.reduceLeDiff, decide_true, decide_false, ne_eq, Nat.left_eq_add, Nat.add_eq_left, Nat.add_left_cancel_iff, Nat.add_zero]
        exact PZ.tr f1 hS _ _ E'.thr
  · rw [if_neg c1]
    have b1 : (@bz (wrI w) (wrD w)) = Int32.ofNat 0 := by rw [@bz_0 _ (wrD w)]; exact c1
    simp (disch := omega) only [V136, U129_0, U129_1, U129_4, U129_6, U129_7, U129_10, U129_13, U129_14, U129_17, U129_18, U129_19, U129_22, U129_25, U129_28, U129_31, U129_36, U129_37, U129_40, U129_43, U129_46, U129_49, U129_54, U129_55, U129_58, U129_59, U129_60, U129_62, U129_63, U129_66, U129_67, U129_70, U129_73, U129_75, U129_78, U129_81, U129_82, U129_83, U129_84, U129_87, U129_88, U129_90, U129_93, U129_94, U129_97, U129_100, U129_105, U129_107, U129_108, U129_109, U129_110, U129_113, U129_115, U129_117, U129_118, U129_121, U129_124, U129_125, U129_128, U129_131, U129_133, U129_136, U129_139, U129_140, U129_143, U129_146, U129_149, U129_152, U129_157, U129_159, U129_160, U129_163, U129_166, U129_168, U129_170, U129_171, U129_174, U129_177, U129_179, U129_181, U129_182, U129_185, U129_188, U129_190, U129_193, EL_isWI, V125, b1, show 1 ≤ rc_ h1 by omega, show 6 ≤ rs_ h1 by omega, i_add, i_mul, i_sub, i_addn, i_lt, i_eq, i_idx, i_vp, true_and, and_true, false_and, and_false, if_true, if_false, Nat.reduceAdd, Nat.reduceMul, Nat.reduceSub, Nat.reduceEqDiff, Option.some.injEq, exists_eq_left', true_or, or_true, false_or, or_false, not_true_eq_false, not_false_eq_true, eq_self, and_self, Nat.reduceLeDiff, decide_true, decide_false, ne_eq, Nat.left_eq_add, Nat.add_eq_left, Nat.add_left_cancel_iff, Nat.add_zero]
    exact PZ.tr f1 hS _ _ E'.thr
end
