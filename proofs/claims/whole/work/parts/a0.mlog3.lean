/-! ===== the model: log ===== -/
section
variable {h h' : MH_} {m : Nat} {S : Nat → Nat → Prop} {tx : List Nat} {si : List (List Tok)} {nm : Nat → List Nat} {ar : List Arg} {wr : Nat → Wr} {fl : List Nat} {du : Nat} {cu : Bool} {es : List Ev} {br : Nat} {tm : List Tm}
def PGm (h : MH_) (m : Nat) (w s : Nat) (t : Int64) (tx : List Nat) (si : List (List Tok)) (nm : Nat → List Nat) (ar : List Arg) (wr : Nat → Wr) (fl : List Nat) (du : Nat) (cu : Bool) (es : List Ev) (br : Nat) (tm : List Tm) : Rs_ → MH_ → Prop :=
  @ite _ (lgF (si.getD s []) ar t (wr w).2.1) (lgG _ _ _ _)
    (if (pkP (wrN (wr w) s t.toNatClampNeg ar)).1.length ≤ 238 then PM h m (.int (Int32.ofNat (pkP (wrN (wr w) s t.toNatClampNeg ar)).1.length)) 0 tx si nm [] (wrS wr w (wrN (wr w) s t.toNatClampNeg ar, t.toNatClampNeg, (wr w).2.2)) fl du cu es br tm
      else if 6144 < fl.length + 256 then PM h m (.int (Int32.ofNat 0)) 4 tx si nm [] wr fl du cu es br tm
      else PM h m (.int (Int32.ofNat (pkP [(s, t.toNatClampNeg, ar)]).1.length)) 0 tx si nm [] (wrS wr w ([(s, t.toNatClampNeg, ar)], t.toNatClampNeg, (wr w).2.2 + 1)) (fl ++ bkW w (wr w)) du cu es br tm)
    (PM h m (.int (Int32.ofNat 0)) 3 tx si nm [] wr fl du cu es br tm)
theorem MM.na (X : MM h m tx si nm ar wr fl du cu es br tm) : MM (sI_ h m 8 (Int32.ofNat 0)) m tx si nm [] wr fl du cu es br tm ∧ Fz (fun a i => a = m ∧ i = 8) h (sI_ h m 8 (Int32.ofNat 0)) := by
  obtain ⟨X0, X1, X2, X3, X4, X5, X6, X7, X8⟩ := X
  have f : Fz (fun a i => a = m ∧ i = 8) h (sI_ h m 8 (Int32.ofNat 0)) := Fz.rfl'.sI ⟨rfl, rfl⟩
  exact ⟨⟨X0.fz f, X1.fz f (by intro a i z w; omega), X2.fz f (by intro a i z w; omega), X3.fz f (by intro a i z w; omega), ⟨by rw [z_gI_sI, if_pos ⟨rfl, rfl⟩]; rfl, Nat.zero_le _, fun i g hg => by cases hg⟩, X5.fz f (by intro a i z w; omega), X6.fz f (by intro a i z w; omega), X7.fz f (by intro a i z w; omega), X8.fz f (by intro a i z w; omega)⟩, f⟩
theorem log_end {h1 : MH_} {w s y : Int32} {t : Int64} {k : Nat} {pk : List Nat} (f : Fz (fun a _ => m ≤ a ∧ a < m + 32) h h1) (X : MM h1 m tx si nm ar wr fl du cu es br tm) (h0 : gI_ h1 m 0 = Int32.ofNat k) (hk : k < 10) (hp : k = 0 → Mk h1 m pk) : Wp 171 92 [.ref m, .int w, .int s, .long t, .null, .int y] [] h1 (PM h m (.int (if k = 0 then Int32.ofNat pk.length else Int32.ofNat 0)) k tx si nm [] wr fl du cu es br tm) := by
  have X0 := X.1
  obtain ⟨X', f'⟩ := X.na
  have e0 : gI_ (sI_ h1 m 8 (Int32.ofNat 0)) m 0 = Int32.ofNat k := by rw [f'.gI (by omega)]; exact h0
  have g := f.trans (f'.mono (T := fun a _ => m ≤ a ∧ a < m + 32) (fun a i z => by omega))
  by_cases c : k = 0
  · rw [if_pos c]
    subst c
    have e1 := (hp rfl).1
    simp (disch := omega) only [U171_92, U171_93, U171_94, U171_97, U171_98, U171_101, U171_104, U171_105, U171_108, U171_109, U171_112, z_kd_sI, z_ln_sI, z_gI_sI, z_gJ_sI, z_gP_sI, z_nx_sI, z_rc_sI, z_rs_sI, z_em_sI, z_mi_sI, z_kd_sJ, z_ln_sJ, z_gI_sJ, z_gJ_sJ, z_gP_sJ, z_nx_sJ, z_rc_sJ, z_rs_sJ, z_em_sJ, z_mi_sJ, z_kd_sP, z_ln_sP, z_gI_sP, z_gJ_sP, z_gP_sP, z_nx_sP, z_rc_sP, z_rs_sP, z_em_sP, z_mi_sP, z_kd_nw, z_ln_nw, z_gI_nw, z_gJ_nw, z_gP_nw, z_nx_nw, z_rc_nw, z_rs_nw, z_em_nw, z_mi_nw, z_kd_cI, z_ln_cI, z_gI_cI, z_gJ_cI, z_gP_cI, z_nx_cI, z_rc_cI, z_rs_cI, z_em_cI, z_mi_cI, z_kd_cP, z_ln_cP, z_gI_cP, z_gJ_cP, z_gP_cP, z_nx_cP, z_rc_cP, z_rs_cP, z_em_cP, z_mi_cP, z_kd_wI, z_ln_wI, z_gI_wI, z_gJ_wI, z_gP_wI, z_nx_wI, z_rc_wI, z_rs_wI, z_em_wI, z_mi_wI, z_kd_wJ, z_ln_wJ, z_gI_wJ, z_gJ_wJ, z_gP_wJ, z_nx_wJ, z_rc_wJ, z_rs_wJ, z_em_wJ, z_mi_wJ, X0.1, h0, e1, show ¬ (0 : Nat) < 0 by omega, Nat.reduceEqDiff, and_false, if_false, i_add, i_mul, i_sub, i_addn, i_lt, i_eq, i_idx, i_vp, true_and, and_true, false_and, and_false, if_true, if_false, Nat.reduceAdd, Nat.reduceMul, Nat.reduceSub, Nat.reduceEqDiff, Option.some.injEq, exists_eq_left', true_or, or_true, false_or, or_false, not_true_eq_false, not_false_eq_true, eq_self, and_self, Nat.reduceLeDiff, decide_true, decide_false, ne_eq, Nat.left_eq_add, Nat.add_eq_left, Nat.add_left_cancel_iff, Nat.add_zero]
    exact ⟨rfl, e0, g, X'⟩
  · rw [if_neg c]
    simp (disch := omega) only [U171_92, U171_93, U171_94, U171_97, U171_98, U171_101, U171_104, U171_105, U171_108, U171_109, U171_112, z_kd_sI, z_ln_sI, z_gI_sI, z_gJ_sI, z_gP_sI, z_nx_sI, z_rc_sI, z_rs_sI, z_em_sI, z_mi_sI, z_kd_sJ, z_ln_sJ, z_gI_sJ, z_gJ_sJ, z_gP_sJ, z_nx_sJ, z_rc_sJ, z_rs_sJ, z_em_sJ, z_mi_sJ, z_kd_sP, z_ln_sP, z_gI_sP, z_gJ_sP, z_gP_sP, z_nx_sP, z_rc_sP, z_rs_sP, z_em_sP, z_mi_sP, z_kd_nw, z_ln_nw, z_gI_nw, z_gJ_nw, z_gP_nw, z_nx_nw, z_rc_nw, z_rs_nw, z_em_nw, z_mi_nw, z_kd_cI, z_ln_cI, z_gI_cI, z_gJ_cI, z_gP_cI, z_nx_cI, z_rc_cI, z_rs_cI, z_em_cI, z_mi_cI, z_kd_cP, z_ln_cP, z_gI_cP, z_gJ_cP, z_gP_cP, z_nx_cP, z_rc_cP, z_rs_cP, z_em_cP, z_mi_cP, z_kd_wI, z_ln_wI, z_gI_wI, z_gJ_wI, z_gP_wI, z_nx_wI, z_rc_wI, z_rs_wI, z_em_wI, z_mi_wI, z_kd_wJ, z_ln_wJ, z_gI_wJ, z_gJ_wJ, z_gP_wJ, z_nx_wJ, z_rc_wJ, z_rs_wJ, z_em_wJ, z_mi_wJ, X0.1, h0, show 0 < k by omega, Nat.reduceEqDiff, and_false, if_false, i_add, i_mul, i_sub, i_addn, i_lt, i_eq, i_idx, i_vp, true_and, and_true, false_and, and_false, if_true, if_false, Nat.reduceAdd, Nat.reduceMul, Nat.reduceSub, Nat.reduceEqDiff, Option.some.injEq, exists_eq_left', true_or, or_true, false_or, or_false, not_true_eq_false, not_false_eq_true, eq_self, and_self, Nat.reduceLeDiff, decide_true, decide_false, ne_eq, Nat.left_eq_add, Nat.add_eq_left, Nat.add_left_cancel_iff, Nat.add_zero]
    exact ⟨rfl, e0, g, X'⟩
theorem M_within_w {w : Int32} {Q : Rs_ → MH_ → Prop} : Wp 207 0 [.int w, .int (Int32.ofNat 0), .int (Int32.ofNat 3)] [] h Q ↔ Q (.inl (.int (@bz (wrI w) (wrD w)))) h := by
  rw [M_within]
  by_cases c : wrI w
  · have c1 := c
    obtain ⟨q, hq, rfl⟩ := i_nat c.1
    have h4 : q < 4 := by have := c.2; rw [i_idx hq] at this; exact this
    rw [← bz_t ⟨c.1, by rw [i_lt (by omega) (by omega)]; omega⟩, @bz_t _ (wrD _) c1]
  · rw [← @bz_f _ (wrD _) c]
    refine iff_of_eq (congrArg (fun z => Q (.inl (.int z)) h) (bz_f ?_).symm)
    rintro ⟨z1, z2⟩
    apply c
    obtain ⟨q, hq, rfl⟩ := i_nat z1
    refine ⟨z1, ?_⟩
    rw [i_lt (by omega) (by omega)] at z2
    rw [i_idx hq]
    omega
theorem M_within_s {s : Int32} {Q : Rs_ → MH_ → Prop} (hl : si.length ≤ 40) : Wp 207 0 [.int s, .int (Int32.ofNat 0), .int (Int32.ofNat si.length - Int32.ofNat 1)] [] h Q ↔ Q (.inl (.int (@bz (lgI s si) (lgD s si)))) h := by
  rw [M_within]
  by_cases c : lgI s si
  · have c1 := c
    obtain ⟨q, hq, rfl⟩ := i_nat c.1
    have h4 : q < si.length := by have := c.2; rw [i_idx hq] at this; exact this
    rw [← bz_t ⟨c.1, by rw [i_sub (by omega), i_lt (by omega) (by omega)]; omega⟩, @bz_t _ (lgD _ _) c1]
  · rw [← @bz_f _ (lgD _ _) c]
    refine iff_of_eq (congrArg (fun z => Q (.inl (.int z)) h) (bz_f ?_).symm)
    rintro ⟨z1, z2⟩
    apply c
    obtain ⟨q, hq, rfl⟩ := i_nat z1
    refine ⟨z1, ?_⟩
    rw [i_idx hq]
    rcases Nat.eq_zero_or_pos si.length with hz | hz
    · exfalso
      apply z2
      rw [hz, show Int32.ofNat 0 - Int32.ofNat 1 = -(Int32.ofNat 1) by decide]
      exact Int32.lt_of_lt_of_le (show -(Int32.ofNat 1) < Int32.ofNat 0 by decide) (Int32.not_lt.mp z1)
    · rw [i_sub (by omega), i_lt (by omega) (by omega)] at z2
      omega
theorem M_log {w s : Int32} {t : Int64} (X : MM h m tx si nm ar wr fl du cu es br tm) (ok : ∀ w, w < 4 → WB si (wr w)) (hok : WrOk si wr) (hd : ¬ cu = true → fl.length % 256 = 0) : Wp 171 0 [.ref m, .int w, .int s, .long t, .null, .null] [] h (@ite _ (wrI w) (wrD w) (@ite _ (lgI s si) (lgD s si) (if cu = true then PM h m (.int (Int32.ofNat 0)) 2 tx si nm [] wr fl du cu es br tm else PGm h m w.toNatClampNeg s.toNatClampNeg t tx si nm ar wr fl du cu es br tm) (PM h m (.int (Int32.ofNat 0)) 1 tx si nm [] wr fl du cu es br tm)) (PM h m (.int (Int32.ofNat 0)) 1 tx si nm [] wr fl du cu es br tm)) := by
  have X' := X
  obtain ⟨X0, X1, X2, X3, X4, X5, X6, X7, X8⟩ := X
  have hl := X6.2.1
  -- an exception's number
  have thr : ∀ k y, 0 < k → k < 10 → Wp 171 92 [.ref m, .int w, .int s, .long t, .null, .int y] [] (sI_ h m 0 (Int32.ofNat k)) (PM h m (.int (Int32.ofNat 0)) k tx si nm [] wr fl du cu es br tm) := by
    intro k y h1 h2
    obtain ⟨M1, e1, f1⟩ := X'.th (k := k)
    have := log_end (pk := []) (w := w) (s := s) (t := t) (y := y) (f1.mono (fun a i z => by omega)) M1 e1 h2 (fun z => by omega)
    rw [if_neg (by omega)] at this
    exact this
  by_cases c1 : wrI w
  · rw [if_pos c1]
    have b1 : ¬ (@bz (wrI w) (wrD w)) = Int32.ofNat 0 := by rw [@bz_0 _ (wrD w)]; exact fun z => z c1
    by_cases c2 : lgI s si
    · rw [if_pos c2]
      have b2 : ¬ (@bz (lgI s si) (lgD s si)) = Int32.ofNat 0 := by rw [@bz_0 _ (lgD s si)]; exact fun z => z c2
      by_cases c3 : cu = true
      · rw [if_pos c3]
        have e25 : gI_ h m 25 = Int32.ofNat 1 := by rw [X6.2.2.2.2.2.2]; exact bz_of.1 c3
        simp (disch := omega) only [U171_0, U171_1, U171_2, U171_3, U171_6, U171_9, U171_10, U171_11, U171_12, U171_15, U171_16, U171_17, U171_20, U171_23, U171_24, U171_27, U171_28, U171_30, U171_31, U171_33, U171_36, U171_37, U171_40, U171_41, U171_44, U171_47, U171_48, U171_51, U171_52, U171_53, U171_56, U171_59, U171_60, U171_61, U171_64, U171_65, U171_66, U171_67, U171_70, U171_71, U171_74, U171_75, U171_78, U171_79, U171_82, z_kd_sI, z_ln_sI, z_gI_sI, z_gJ_sI, z_gP_sI, z_nx_sI, z_rc_sI, z_rs_sI, z_em_sI, z_mi_sI, z_kd_sJ, z_ln_sJ, z_gI_sJ, z_gJ_sJ, z_gP_sJ, z_nx_sJ, z_rc_sJ, z_rs_sJ, z_em_sJ, z_mi_sJ, z_kd_sP, z_ln_sP, z_gI_sP, z_gJ_sP, z_gP_sP, z_nx_sP, z_rc_sP, z_rs_sP, z_em_sP, z_mi_sP, z_kd_nw, z_ln_nw, z_gI_nw, z_gJ_nw, z_gP_nw, z_nx_nw, z_rc_nw, z_rs_nw, z_em_nw, z_mi_nw, z_kd_cI, z_ln_cI, z_gI_cI, z_gJ_cI, z_gP_cI, z_nx_cI, z_rc_cI, z_rs_cI, z_em_cI, z_mi_cI, z_kd_cP, z_ln_cP, z_gI_cP, z_gJ_cP, z_gP_cP, z_nx_cP, z_rc_cP, z_rs_cP, z_em_cP, z_mi_cP, z_kd_wI, z_ln_wI, z_gI_wI, z_gJ_wI, z_gP_wI, z_nx_wI, z_rc_wI, z_rs_wI, z_em_wI, z_mi_wI, z_kd_wJ, z_ln_wJ, z_gI_wJ, z_gJ_wJ, z_gP_wJ, z_nx_wJ, z_rc_wJ, z_rs_wJ, z_em_wJ, z_mi_wJ, M_within_w, M_within_s X2.2.1, V207, X0.1, X2.1, b1, b2, e25, show ¬ (1 : Nat) = 0 by omega, show ¬ (2 : Nat) = 0 by omega, i_add, i_mul, i_sub, i_addn, i_lt, i_eq, i_idx, i_vp, true_and, and_true, false_and, and_false, if_true, if_false, Nat.reduceAdd, Nat.reduceMul, Nat.reduceSub, Nat.reduceEqDiff, Option.some.injEq, exists_eq_left', true_or, or_true, false_or, or_false, not_true_eq_false, not_false_eq_true, eq_self, and_self, Nat.reduceLeDiff, decide_true, decide_false, ne_eq, Nat.left_eq_add, Nat.add_eq_left, Nat.add_left_cancel_iff, Nat.add_zero]
        exact thr 2 _ (by omega) (by omega)
      · rw [if_neg c3]
        have hd := hd c3
        have e25 : gI_ h m 25 = Int32.ofNat 0 := by rw [X6.2.2.2.2.2.2]; exact bz_of.2 c3
        obtain ⟨q, hq, rfl⟩ := i_nat c1.1
        have ei := i_idx hq
        have hq4 : q < 4 := by have := c1.2; rw [ei] at this; exact this
        obtain ⟨k, hk, rfl⟩ := i_nat c2.1
        have ek := i_idx hk
        have hks : k < si.length := by have := c2.2; rw [ek] at this; exact this
        have hts : si[k]? = some (si.getD k []) := by rw [List.getD_eq_getElem?_getD, List.getElem?_eq_getElem hks]; rfl
        rw [ei, ek]
        unfold PGm
        generalize si.getD k [] = ts at *
        obtain ⟨w1, w2, w3, w4⟩ := hok q hq4
        have e15 := (X5 q hq4).2.2.1
        have l40 := X2.2.1
        have ws : ∀ {Q : Rs_ → MH_ → Prop}, Wp 207 0 [.int (Int32.ofNat k), .int (Int32.ofNat 0), .int (Int32.ofNat (si.length - 1))] [] h Q ↔ Q (.inl (.int (@bz (lgI (Int32.ofNat k) si) (lgD (Int32.ofNat k) si)))) h := by
          intro Q
          rw [← i_sub (by omega)]
          exact M_within_s X2.2.1
        by_cases d1 : fit ts ar = true
        · have g1 : ¬ bz (fit ts ar = true) = Int32.ofNat 0 := by rw [bz_0]; exact fun z => z d1
          by_cases d3 : t < Int64.ofNat (wr q).2.1
          · rw [if_neg (fun z => z.2.2 d3)]
            simp (disch := omega) only [U171_0, U171_1, U171_2, U171_3, U171_6, U171_9, U171_10, U171_11, U171_12, U171_15, U171_16, U171_17, U171_20, U171_23, U171_24, U171_27, U171_28, U171_30, U171_31, U171_33, U171_36, U171_37, U171_40, U171_41, U171_44, U171_47, U171_48, U171_51, U171_52, U171_53, U171_56, U171_59, U171_60, U171_61, U171_64, U171_65, U171_66, U171_67, U171_70, U171_71, U171_74, U171_75, U171_78, U171_79, U171_82, z_kd_sI, z_ln_sI, z_gI_sI, z_gJ_sI, z_gP_sI, z_nx_sI, z_rc_sI, z_rs_sI, z_em_sI, z_mi_sI, z_kd_sJ, z_ln_sJ, z_gI_sJ, z_gJ_sJ, z_gP_sJ, z_nx_sJ, z_rc_sJ, z_rs_sJ, z_em_sJ, z_mi_sJ, z_kd_sP, z_ln_sP, z_gI_sP, z_gJ_sP, z_gP_sP, z_nx_sP, z_rc_sP, z_rs_sP, z_em_sP, z_mi_sP, z_kd_nw, z_ln_nw, z_gI_nw, z_gJ_nw, z_gP_nw, z_nx_nw, z_rc_nw, z_rs_nw, z_em_nw, z_mi_nw, z_kd_cI, z_ln_cI, z_gI_cI, z_gJ_cI, z_gP_cI, z_nx_cI, z_rc_cI, z_rs_cI, z_em_cI, z_mi_cI, z_kd_cP, z_ln_cP, z_gI_cP, z_gJ_cP, z_gP_cP, z_nx_cP, z_rc_cP, z_rs_cP, z_em_cP, z_mi_cP, z_kd_wI, z_ln_wI, z_gI_wI, z_gJ_wI, z_gP_wI, z_nx_wI, z_rc_wI, z_rs_wI, z_em_wI, z_mi_wI, z_kd_wJ, z_ln_wJ, z_gI_wJ, z_gJ_wJ, z_gP_wJ, z_nx_wJ, z_rc_wJ, z_rs_wJ, z_em_wJ, z_mi_wJ, M_within_w, ws, V207, X0.1, X2.1, b1, b2, e25, M_fitArgs X0 X2 X4 hts, V157, g1, mp18 X0, mk15 X0, mn15 X0, e15, hq4, c_lt, d3, show ¬ (3 : Nat) = 0 by omega, show ¬ (1 : Nat) = 0 by omega, i_add, i_mul, i_sub, i_addn, i_lt, i_eq, i_idx, i_vp, true_and, and_true, false_and, and_false, if_true, if_false, Nat.reduceAdd, Nat.reduceMul, Nat.reduceSub, Nat.reduceEqDiff, Option.some.injEq, exists_eq_left', true_or, or_true, false_or, or_false, not_true_eq_false, not_false_eq_true, eq_self, and_self, Nat.reduceLeDiff, decide_true, decide_false, ne_eq, Nat.left_eq_add, Nat.add_eq_left, Nat.add_left_cancel_iff, Nat.add_zero]
            exact thr 3 _ (by omega) (by omega)
          · have d2 : ¬ t < Int64.ofNat 0 := by
              intro z
              apply d3
              rw [Int64.lt_iff_toInt_lt] at z ⊢
              rw [Int64.toInt_ofNat_of_lt (by omega)] at z ⊢
              omega
            rw [if_pos ⟨d1, d2, d3⟩]
            obtain ⟨u, hu, rfl⟩ := j_nat d2
            have eu : (Int64.ofNat u).toNatClampNeg = u := Int64.toNatClampNeg_ofNat_of_lt (by omega)
            rw [eu]
            have d3' := d3
            rw [j_lt hu w1] at d3'
            obtain ⟨M1, e1, f1⟩ := X'.th (k := 0)
            simp (disch := omega) only [U171_0, U171_1, U171_2, U171_3, U171_6, U171_9, U171_10, U171_11, U171_12, U171_15, U171_16, U171_17, U171_20, U171_23, U171_24, U171_27, U171_28, U171_30, U171_31, U171_33, U171_36, U171_37, U171_40, U171_41, U171_44, U171_47, U171_48, U171_51, U171_52, U171_53, U171_56, U171_59, U171_60, U171_61, U171_64, U171_65, U171_66, U171_67, U171_70, U171_71, U171_74, U171_75, U171_78, U171_79, U171_82, U171_85, U171_86, U171_87, U171_88, U171_89, z_kd_sI, z_ln_sI, z_gI_sI, z_gJ_sI, z_gP_sI, z_nx_sI, z_rc_sI, z_rs_sI, z_em_sI, z_mi_sI, z_kd_sJ, z_ln_sJ, z_gI_sJ, z_gJ_sJ, z_gP_sJ, z_nx_sJ, z_rc_sJ, z_rs_sJ, z_em_sJ, z_mi_sJ, z_kd_sP, z_ln_sP, z_gI_sP, z_gJ_sP, z_gP_sP, z_nx_sP, z_rc_sP, z_rs_sP, z_em_sP, z_mi_sP, z_kd_nw, z_ln_nw, z_gI_nw, z_gJ_nw, z_gP_nw, z_nx_nw, z_rc_nw, z_rs_nw, z_em_nw, z_mi_nw, z_kd_cI, z_ln_cI, z_gI_cI, z_gJ_cI, z_gP_cI, z_nx_cI, z_rc_cI, z_rs_cI, z_em_cI, z_mi_cI, z_kd_cP, z_ln_cP, z_gI_cP, z_gJ_cP, z_gP_cP, z_nx_cP, z_rc_cP, z_rs_cP, z_em_cP, z_mi_cP, z_kd_wI, z_ln_wI, z_gI_wI, z_gJ_wI, z_gP_wI, z_nx_wI, z_rc_wI, z_rs_wI, z_em_wI, z_mi_wI, z_kd_wJ, z_ln_wJ, z_gI_wJ, z_gJ_wJ, z_gP_wJ, z_nx_wJ, z_rc_wJ, z_rs_wJ, z_em_wJ, z_mi_wJ, M_within_w, ws, V207, X0.1, X2.1, b1, b2, e25, M_fitArgs X0 X2 X4 hts, V157, g1, mp18 X0, mk15 X0, mn15 X0, e15, hq4, c_lt, d3, show ¬ (1 : Nat) = 0 by omega, i_add, i_mul, i_sub, i_addn, i_lt, i_eq, i_idx, i_vp, true_and, and_true, false_and, and_false, if_true, if_false, Nat.reduceAdd, Nat.reduceMul, Nat.reduceSub, Nat.reduceEqDiff, Option.some.injEq, exists_eq_left', true_or, or_true, false_or, or_false, not_true_eq_false, not_false_eq_true, eq_self, and_self, Nat.reduceLeDiff, decide_true, decide_false, ne_eq, Nat.left_eq_add, Nat.add_eq_left, Nat.add_left_cancel_iff, Nat.add_zero]
            have cm := M_comes M1 e1 hq4 (ok q hq4) hts d1 hu (by omega) w2 hd
            have f1' : Fz (fun a _ => m ≤ a ∧ a < m + 32) h (sI_ h m 0 (Int32.ofNat 0)) := f1.mono (fun a i z => by omega)
            have sw : ∀ {h2}, Fz (SWr m) (sI_ h m 0 (Int32.ofNat 0)) h2 → Fz (fun a _ => m ≤ a ∧ a < m + 32) h h2 := fun f => f1'.trans (f.mono (fun a i z => by unfold SWr at z; omega))
            by_cases p1 : (pkP (wrN (wr q) k u ar)).1.length ≤ 238
            · rw [if_pos p1] at cm ⊢
              refine Wp_use cm ?_
              rintro _ h2 ⟨rfl, e2, k2, f2, M2⟩
              simp (disch := omega) only [V149, true_and, and_true, false_and, and_false, if_true, if_false, Nat.reduceAdd, Nat.reduceMul, Nat.reduceSub, Nat.reduceEqDiff, Option.some.injEq, exists_eq_left', true_or, or_true, false_or, or_false, not_true_eq_false, not_false_eq_true, eq_self, and_self, Nat.reduceLeDiff, decide_true, decide_false, ne_eq, Nat.left_eq_add, Nat.add_eq_left, Nat.add_left_cancel_iff, Nat.add_zero]
              exact log_end (sw f2) M2 e2 (by omega) k2
            · rw [if_neg p1] at cm ⊢
              by_cases p2 : 6144 < fl.length + 256
              · rw [if_pos p2] at cm ⊢
                refine Wp_use cm ?_
                rintro _ h2 ⟨rfl, e2, k2, f2, M2⟩
                simp (disch := omega) only [V149, true_and, and_true, false_and, and_false, if_true, if_false, Nat.reduceAdd, Nat.reduceMul, Nat.reduceSub, Nat.reduceEqDiff, Option.some.injEq, exists_eq_left', true_or, or_true, false_or, or_false, not_true_eq_false, not_false_eq_true, eq_self, and_self, Nat.reduceLeDiff, decide_true, decide_false, ne_eq, Nat.left_eq_add, Nat.add_eq_left, Nat.add_left_cancel_iff, Nat.add_zero]
                exact log_end (sw f2) M2 e2 (by omega) k2
              · rw [if_neg p2] at cm ⊢
                refine Wp_use cm ?_
                rintro _ h2 ⟨rfl, e2, k2, f2, M2⟩
                simp (disch := omega) only [V149, true_and, and_true, false_and, and_false, if_true, if_false, Nat.reduceAdd, Nat.reduceMul, Nat.reduceSub, Nat.reduceEqDiff, Option.some.injEq, exists_eq_left', true_or, or_true, false_or, or_false, not_true_eq_false, not_false_eq_true, eq_self, and_self, Nat.reduceLeDiff, decide_true, decide_false, ne_eq, Nat.left_eq_add, Nat.add_eq_left, Nat.add_left_cancel_iff, Nat.add_zero]
                exact log_end (sw f2) M2 e2 (by omega) k2
        · rw [if_neg (fun z => d1 z.1)]
          have g1 : bz (fit ts ar = true) = Int32.ofNat 0 := by rw [bz_0]; exact d1
          simp (disch := omega) only [U171_0, U171_1, U171_2, U171_3, U171_6, U171_9, U171_10, U171_11, U171_12, U171_15, U171_16, U171_17, U171_20, U171_23, U171_24, U171_27, U171_28, U171_30, U171_31, U171_33, U171_36, U171_37, U171_40, U171_41, U171_44, U171_47, U171_48, U171_51, U171_52, U171_53, U171_56, U171_59, U171_60, U171_61, U171_64, U171_65, U171_66, U171_67, U171_70, U171_71, U171_74, U171_75, U171_78, U171_79, U171_82, z_kd_sI, z_ln_sI, z_gI_sI, z_gJ_sI, z_gP_sI, z_nx_sI, z_rc_sI, z_rs_sI, z_em_sI, z_mi_sI, z_kd_sJ, z_ln_sJ, z_gI_sJ, z_gJ_sJ, z_gP_sJ, z_nx_sJ, z_rc_sJ, z_rs_sJ, z_em_sJ, z_mi_sJ, z_kd_sP, z_ln_sP, z_gI_sP, z_gJ_sP, z_gP_sP, z_nx_sP, z_rc_sP, z_rs_sP, z_em_sP, z_mi_sP, z_kd_nw, z_ln_nw, z_gI_nw, z_gJ_nw, z_gP_nw, z_nx_nw, z_rc_nw, z_rs_nw, z_em_nw, z_mi_nw, z_kd_cI, z_ln_cI, z_gI_cI, z_gJ_cI, z_gP_cI, z_nx_cI, z_rc_cI, z_rs_cI, z_em_cI, z_mi_cI, z_kd_cP, z_ln_cP, z_gI_cP, z_gJ_cP, z_gP_cP, z_nx_cP, z_rc_cP, z_rs_cP, z_em_cP, z_mi_cP, z_kd_wI, z_ln_wI, z_gI_wI, z_gJ_wI, z_gP_wI, z_nx_wI, z_rc_wI, z_rs_wI, z_em_wI, z_mi_wI, z_kd_wJ, z_ln_wJ, z_gI_wJ, z_gJ_wJ, z_gP_wJ, z_nx_wJ, z_rc_wJ, z_rs_wJ, z_em_wJ, z_mi_wJ, M_within_w, ws, V207, X0.1, X2.1, b1, b2, e25, M_fitArgs X0 X2 X4 hts, V157, g1, show ¬ (3 : Nat) = 0 by omega, show ¬ (1 : Nat) = 0 by omega, i_add, i_mul, i_sub, i_addn, i_lt, i_eq, i_idx, i_vp, true_and, and_true, false_and, and_false, if_true, if_false, Nat.reduceAdd, Nat.reduceMul, Nat.reduceSub, Nat.reduceEqDiff, Option.some.injEq, exists_eq_left', true_or, or_true, false_or, or_false, not_true_eq_false, not_false_eq_true, eq_self, and_self, Nat.reduceLeDiff, decide_true, decide_false, ne_eq, Nat.left_eq_add, Nat.add_eq_left, Nat.add_left_cancel_iff, Nat.add_zero]
          exact thr 3 _ (by omega) (by omega)
    · rw [if_neg c2]
      have b2 : (@bz (lgI s si) (lgD s si)) = Int32.ofNat 0 := by rw [@bz_0 _ (lgD s si)]; exact c2
      simp (disch := omega) only [U171_0, U171_1, U171_2, U171_3, U171_6, U171_9, U171_10, U171_11, U171_12, U171_15, U171_16, U171_17, U171_20, U171_23, U171_24, U171_27, U171_28, U171_30, U171_31, U171_33, U171_36, U171_37, U171_40, U171_41, U171_44, U171_47, U171_48, U171_51, U171_52, U171_53, U171_56, U171_59, U171_60, U171_61, U171_64, U171_65, U171_66, U171_67, U171_70, U171_71, U171_74, U171_75, U171_78, U171_79, U171_82, z_kd_sI, z_ln_sI, z_gI_sI, z_gJ_sI, z_gP_sI, z_nx_sI, z_rc_sI, z_rs_sI, z_em_sI, z_mi_sI, z_kd_sJ, z_ln_sJ, z_gI_sJ, z_gJ_sJ, z_gP_sJ, z_nx_sJ, z_rc_sJ, z_rs_sJ, z_em_sJ, z_mi_sJ, z_kd_sP, z_ln_sP, z_gI_sP, z_gJ_sP, z_gP_sP, z_nx_sP, z_rc_sP, z_rs_sP, z_em_sP, z_mi_sP, z_kd_nw, z_ln_nw, z_gI_nw, z_gJ_nw, z_gP_nw, z_nx_nw, z_rc_nw, z_rs_nw, z_em_nw, z_mi_nw, z_kd_cI, z_ln_cI, z_gI_cI, z_gJ_cI, z_gP_cI, z_nx_cI, z_rc_cI, z_rs_cI, z_em_cI, z_mi_cI, z_kd_cP, z_ln_cP, z_gI_cP, z_gJ_cP, z_gP_cP, z_nx_cP, z_rc_cP, z_rs_cP, z_em_cP, z_mi_cP, z_kd_wI, z_ln_wI, z_gI_wI, z_gJ_wI, z_gP_wI, z_nx_wI, z_rc_wI, z_rs_wI, z_em_wI, z_mi_wI, z_kd_wJ, z_ln_wJ, z_gI_wJ, z_gJ_wJ, z_gP_wJ, z_nx_wJ, z_rc_wJ, z_rs_wJ, z_em_wJ, z_mi_wJ, M_within_w, M_within_s X2.2.1, V207, X0.1, X2.1, b1, b2, show ¬ (1 : Nat) = 0 by omega, i_add, i_mul, i_sub, i_addn, i_lt, i_eq, i_idx, i_vp, true_and, and_true, false_and, and_false, if_true, if_false, Nat.reduceAdd, Nat.reduceMul, Nat.reduceSub, Nat.reduceEqDiff, Option.some.injEq, exists_eq_left', true_or, or_true, false_or, or_false, not_true_eq_false, not_false_eq_true, eq_self, and_self, Nat.reduceLeDiff, decide_true, decide_false, ne_eq, Nat.left_eq_add, Nat.add_eq_left, Nat.add_left_cancel_iff, Nat.add_zero]
      exact thr 1 _ (by omega) (by omega)
  · rw [if_neg c1]
    have b1 : (@bz (wrI w) (wrD w)) = Int32.ofNat 0 := by rw [@bz_0 _ (wrD w)]; exact c1
    simp (disch := omega) only [U171_0, U171_1, U171_2, U171_3, U171_6, U171_9, U171_10, U171_11, U171_12, U171_15, U171_16, U171_17, U171_20, U171_23, U171_24, U171_27, U171_28, U171_30, U171_31, U171_33, U171_36, U171_37, U171_40, U171_41, U171_44, U171_47, U171_48, U171_51, U171_52, U171_53, U171_56, U171_59, U171_60, U171_61, U171_64, U171_65, U171_66, U171_67, U171_70, U171_71, U171_74, U171_75, U171_78, U171_79, U171_82, z_kd_sI, z_ln_sI, z_gI_sI, z_gJ_sI, z_gP_sI, z_nx_sI, z_rc_sI, z_rs_sI, z_em_sI, z_mi_sI, z_kd_sJ, z_ln_sJ, z_gI_sJ, z_gJ_sJ, z_gP_sJ, z_nx_sJ, z_rc_sJ, z_rs_sJ, z_em_sJ, z_mi_sJ, z_kd_sP, z_ln_sP, z_gI_sP, z_gJ_sP, z_gP_sP, z_nx_sP, z_rc_sP, z_rs_sP, z_em_sP, z_mi_sP, z_kd_nw, z_ln_nw, z_gI_nw, z_gJ_nw, z_gP_nw, z_nx_nw, z_rc_nw, z_rs_nw, z_em_nw, z_mi_nw, z_kd_cI, z_ln_cI, z_gI_cI, z_gJ_cI, z_gP_cI, z_nx_cI, z_rc_cI, z_rs_cI, z_em_cI, z_mi_cI, z_kd_cP, z_ln_cP, z_gI_cP, z_gJ_cP, z_gP_cP, z_nx_cP, z_rc_cP, z_rs_cP, z_em_cP, z_mi_cP, z_kd_wI, z_ln_wI, z_gI_wI, z_gJ_wI, z_gP_wI, z_nx_wI, z_rc_wI, z_rs_wI, z_em_wI, z_mi_wI, z_kd_wJ, z_ln_wJ, z_gI_wJ, z_gJ_wJ, z_gP_wJ, z_nx_wJ, z_rc_wJ, z_rs_wJ, z_em_wJ, z_mi_wJ, M_within_w, V207, X0.1, b1, show ¬ (1 : Nat) = 0 by omega, i_add, i_mul, i_sub, i_addn, i_lt, i_eq, i_idx, i_vp, true_and, and_true, false_and, and_false, if_true, if_false, Nat.reduceAdd, Nat.reduceMul, Nat.reduceSub, Nat.reduceEqDiff, Option.some.injEq, exists_eq_left', true_or, or_true, false_or, or_false, not_true_eq_false, not_false_eq_true, eq_self, and_self, Nat.reduceLeDiff, decide_true, decide_false, ne_eq, Nat.left_eq_add, Nat.add_eq_left, Nat.add_left_cancel_iff, Nat.add_zero]
    exact thr 1 _ (by omega) (by omega)
end
