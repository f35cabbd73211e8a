/-! ===== the class: log ===== -/
section
variable {h h' : MH_} {x B C n w : Nat} {T : Nat → Nat → Prop} {tx : List Nat} {si : List (List Tok)} {nm : Nat → List Nat} {ar : List Arg} {wr : Nat → Wr} {fl : List Nat} {du : Nat} {cu : Bool} {es : List Ev} {br : Nat} {tm : List Tm}
def PA (h : MH_) (x B C : Nat) (tx : List Nat) (si : List (List Tok)) (nm : Nat → List Nat) (ar : List Arg) (wr : Nat → Wr) (fl : List Nat) (du : Nat) (cu : Bool) (es : List Ev) (br : Nat) (tm : List Tm) : Rs_ → MH_ → Prop := fun v h' => ∃ t : Nat, v = .inl (.ref t) ∧ (t = x + 5 ∨ t = x + 9) ∧ Ea h' t ar ∧ Fy (fun a _ => a = x ∨ (x + 5 ≤ a ∧ a < x + 13)) h h' ∧ EL h' x B C tx si nm [] wr fl du cu es br tm
theorem EL_takeArguments (E : EL h x B C tx si nm ar wr fl du cu es br tm) : Wp 136 0 [.ref x, .null] [] h (PA h x B C tx si nm ar wr fl du cu es br tm) := by
  have hx := E.nx
  obtain ⟨t1, t2, a1, a2, d, sA, fs, pl, pr, sr, nA, H, Tt, R, P, F, Bq, I, Qq, N, L⟩ := E
  obtain ⟨az, r1, r2⟩ := R
  obtain ⟨k1, ⟨g0, g1, g2, g3, g4⟩, g5, g6⟩ := H
  have f1 : Fy (fun a i => a = x ∧ (i = 2 ∨ i = 3)) h (sP_ (sP_ h x 2 (some a2)) x 3 (some a1)) := (Fy.rfl'.sP ⟨rfl, Or.inl rfl⟩).sP ⟨rfl, Or.inr rfl⟩
  have r2' : Es (sP_ (sP_ h x 2 (some a2)) x 3 (some a1)) a2 := r2.ag (f1.ag (by omega))
  have r1' : Ea (sP_ (sP_ h x 2 (some a2)) x 3 (some a1)) a1 ar := r1.ag (f1.ag (by omega))
  have e0 : gP_ (sP_ (sP_ h x 2 (some a2)) x 3 (some a1)) x 2 = some a2 := by simp only [z_kd_sI, z_ln_sI, z_gI_sI, z_gJ_sI, z_gP_sI, z_nx_sI, z_rc_sI, z_rs_sI, z_em_sI, z_mi_sI, z_kd_sJ, z_ln_sJ, z_gI_sJ, z_gJ_sJ, z_gP_sJ, z_nx_sJ, z_rc_sJ, z_rs_sJ, z_em_sJ, z_mi_sJ, z_kd_sP, z_ln_sP, z_gI_sP, z_gJ_sP, z_gP_sP, z_nx_sP, z_rc_sP, z_rs_sP, z_em_sP, z_mi_sP, z_kd_nw, z_ln_nw, z_gI_nw, z_gJ_nw, z_gP_nw, z_nx_nw, z_rc_nw, z_rs_nw, z_em_nw, z_mi_nw, z_kd_cI, z_ln_cI, z_gI_cI, z_gJ_cI, z_gP_cI, z_nx_cI, z_rc_cI, z_rs_cI, z_em_cI, z_mi_cI, z_kd_cP, z_ln_cP, z_gI_cP, z_gJ_cP, z_gP_cP, z_nx_cP, z_rc_cP, z_rs_cP, z_em_cP, z_mi_cP, z_kd_wI, z_ln_wI, z_gI_wI, z_gJ_wI, z_gP_wI, z_nx_wI, z_rc_wI, z_rs_wI, z_em_wI, z_mi_wI, z_kd_wJ, z_ln_wJ, z_gI_wJ, z_gJ_wJ, z_gP_wJ, z_nx_wJ, z_rc_wJ, z_rs_wJ, z_em_wJ, z_mi_wJ, true_and, and_true, false_and, and_false, if_true, if_false, Nat.reduceAdd, Nat.reduceMul, Nat.reduceSub, Nat.reduceEqDiff, Option.some.injEq, exists_eq_left', true_or, or_true, false_or, or_false, not_true_eq_false, not_false_eq_true, eq_self, and_self, Nat.reduceLeDiff, decide_true, decide_false, ne_eq, Nat.left_eq_add, Nat.add_eq_left, Nat.add_left_cancel_iff, Nat.add_zero]
  have e1 : gP_ (sP_ (sP_ h x 2 (some a2)) x 3 (some a1)) x 3 = some a1 := by simp only [z_kd_sI, z_ln_sI, z_gI_sI, z_gJ_sI, z_gP_sI, z_nx_sI, z_rc_sI, z_rs_sI, z_em_sI, z_mi_sI, z_kd_sJ, z_ln_sJ, z_gI_sJ, z_gJ_sJ, z_gP_sJ, z_nx_sJ, z_rc_sJ, z_rs_sJ, z_em_sJ, z_mi_sJ, z_kd_sP, z_ln_sP, z_gI_sP, z_gJ_sP, z_gP_sP, z_nx_sP, z_rc_sP, z_rs_sP, z_em_sP, z_mi_sP, z_kd_nw, z_ln_nw, z_gI_nw, z_gJ_nw, z_gP_nw, z_nx_nw, z_rc_nw, z_rs_nw, z_em_nw, z_mi_nw, z_kd_cI, z_ln_cI, z_gI_cI, z_gJ_cI, z_gP_cI, z_nx_cI, z_rc_cI, z_rs_cI, z_em_cI, z_mi_cI, z_kd_cP, z_ln_cP, z_gI_cP, z_gJ_cP, z_gP_cP, z_nx_cP, z_rc_cP, z_rs_cP, z_em_cP, z_mi_cP, z_kd_wI, z_ln_wI, z_gI_wI, z_gJ_wI, z_gP_wI, z_nx_wI, z_rc_wI, z_rs_wI, z_em_wI, z_mi_wI, z_kd_wJ, z_ln_wJ, z_gI_wJ, z_gJ_wJ, z_gP_wJ, z_nx_wJ, z_rc_wJ, z_rs_wJ, z_em_wJ, z_mi_wJ, true_and, and_true, false_and, and_false, if_true, if_false, Nat.reduceAdd, Nat.reduceMul, Nat.reduceSub, Nat.reduceEqDiff, Option.some.injEq, exists_eq_left', true_or, or_true, false_or, or_false, not_true_eq_false, not_false_eq_true, eq_self, and_self, Nat.reduceLeDiff, decide_true, decide_false, ne_eq, Nat.left_eq_add, Nat.add_eq_left, Nat.add_left_cancel_iff, Nat.add_zero]
  simp (disch := omega) only [U136_0, U136_1, U136_4, U136_5, U136_6, U136_7, U136_10, U136_13, U136_14, U136_15, z_kd_sP, z_gP_sP, k1, g2, g3, i_add, i_mul, i_sub, i_addn, i_lt, i_eq, i_idx, i_vp, true_and, and_true, false_and, and_false, if_true, if_false, Nat.reduceAdd, Nat.reduceMul, Nat.reduceSub, Nat.reduceEqDiff, Option.some.injEq, exists_eq_left', true_or, or_true, false_or, or_false, not_true_eq_false, not_false_eq_true, eq_self, and_self, Nat.reduceLeDiff, decide_true, decide_false, ne_eq, Nat.left_eq_add, Nat.add_eq_left, Nat.add_left_cancel_iff, Nat.add_zero]
  simp (disch := omega) only [U136_18, U136_19, U136_22, z_kd_sP, k1, e0, r2.1, i_add, i_mul, i_sub, i_addn, i_lt, i_eq, i_idx, i_vp, true_and, and_true, false_and, and_false, if_true, if_false, Nat.reduceAdd, Nat.reduceMul, Nat.reduceSub, Nat.reduceEqDiff, Option.some.injEq, exists_eq_left', true_or, or_true, false_or, or_false, not_true_eq_false, not_false_eq_true, eq_self, and_self, Nat.reduceLeDiff, decide_true, decide_false, ne_eq, Nat.left_eq_add, Nat.add_eq_left, Nat.add_left_cancel_iff, Nat.add_zero]
  refine Wp_use (Event_begin r2') ?_
  rintro _ h2 ⟨rfl, r3, f2⟩
  simp (disch := omega) only [V13, U136_0, U136_1, U136_4, U136_5, U136_6, U136_7, U136_10, U136_13, U136_14, U136_15, U136_18, U136_19, U136_22, U136_25, U136_26, i_add, i_mul, i_sub, i_addn, i_lt, i_eq, i_idx, i_vp, true_and, and_true, false_and, and_false, if_true, if_false, Nat.reduceAdd, Nat.reduceMul, Nat.reduceSub, Nat.reduceEqDiff, Option.some.injEq, exists_eq_left', true_or, or_true, false_or, or_false, not_true_eq_false, not_false_eq_true, eq_self, and_self, Nat.reduceLeDiff, decide_true, decide_false, ne_eq, Nat.left_eq_add, Nat.add_eq_left, Nat.add_left_cancel_iff, Nat.add_zero]
  have F12 : Fy (fun a _ => a = x ∨ (x + 5 ≤ a ∧ a < x + 13)) h h2 := (f1.mono (fun a i z => by omega)).trans (f2.fy.mono (fun a i z => by omega))
  have g := F12.fb
  have fa : Fa (fun a _ => a = x ∨ (x + 5 ≤ a ∧ a < x + 13)) 0 0 h h2 := F12.fa
  have r1'' : Ea h2 a1 ar := r1'.fz f2 (by unfold SE; intro a i z w; omega)
  refine ⟨a1, rfl, by omega, r1'', F12, t1, t2, a2, a1, d, sA, fs, pl, pr, sr, nA, ?_, Tt.fb g hx (by intro a i z w; omega), ⟨by omega, r3, r1''.1⟩, P.fb g hx (by intro a i z w; omega), F.fb g hx (by intro a i z w; omega), Bq.fb g hx (by intro a i z w; omega), I.fb g hx (by intro a i z w; omega), Qq.fb g hx (by intro a i z w; omega), N.fb' g hx (by intro a i z w; omega), L.fa fa (by intro a i z w; omega)⟩
  have q : ∀ i, (i < 2 ∨ 4 ≤ i) → gP_ h2 x i = gP_ h x i := fun i hi => by rw [f2.gP, f1.gP (by omega)]
  have q2 : ∀ i, gP_ h2 (x + 20) i = gP_ h (x + 20) i := fun i => by rw [f2.gP, f1.gP (by omega)]
  refine ⟨by rw [f2.kd, f1.kd, k1], ⟨by rw [q 0 (by omega), g0], by rw [q 1 (by omega), g1], by rw [f2.gP, e0], by rw [f2.gP, e1], by rw [q 4 (by omega), g4]⟩, ?_, ⟨by rw [f2.kd, f1.kd]; exact g6.1, by rw [f2.ln, f1.ln]; exact g6.2.1, fun w hw => by rw [q2]; exact g6.2.2 w hw⟩⟩
  rw [q 5 (by omega), q 6 (by omega), q 7 (by omega), q 8 (by omega), q 9 (by omega), q 10 (by omega), q 11 (by omega), q 12 (by omega)]
  exact g5
def WrOk (si : List (List Tok)) (wr : Nat → Wr) : Prop := ∀ w, w < 4 → (wr w).2.1 < 9223372036854775808 ∧ ((wr w).1 ≠ [] → (pkP (wr w).1).2.2.1 = (wr w).2.1) ∧ (pkP (wr w).1).1.length ≤ 238 ∧ ∀ p ∈ (wr w).1, p.2.1 < 9223372036854775808 ∧ ∃ ts, si[p.1]? = some ts ∧ fit ts p.2.2 = true
/-- the events of a writer and one more -/
def wrN (q : Wr) (s : Nat) (t : Nat) (ar : List Arg) : List Pd := q.1 ++ [(s, t, ar)]
def lgI (s : Int32) (si : List (List Tok)) : Prop := ¬ s < Int32.ofNat 0 ∧ s.toNatClampNeg < si.length
def lgD (s : Int32) (si : List (List Tok)) : Decidable (lgI s si) := inferInstanceAs (Decidable (_ ∧ _))
def lgF (ts : List Tok) (ar : List Arg) (t : Int64) (la : Nat) : Prop := fit ts ar = true ∧ ¬ t < Int64.ofNat 0 ∧ ¬ t < Int64.ofNat la
def lgG (ts : List Tok) (ar : List Arg) (t : Int64) (la : Nat) : Decidable (lgF ts ar t la) := inferInstanceAs (Decidable (_ ∧ _ ∧ _))
theorem j_sub {a b : Nat} (h : b ≤ a) : Int64.ofNat a - Int64.ofNat b = Int64.ofNat (a - b) := (Int64.ofNat_sub a b h).symm
theorem pkL_ext {la la' : Nat → Int32} : ∀ (as : List Arg) j, (∀ i, j ≤ i → i < j + as.length → la i = la' i) → pkL la as j = pkL la' as j
  | [], _ => fun _ => rfl
  | a :: r, j => by
    intro h
    unfold pkL
    rw [pkL_ext r (j + 1) (fun i h1 h2 => h i (by omega) (by rw [List.length_cons]; omega))]
    cases a with
    | inl y => unfold pkA; rw [h j (by omega) (by rw [List.length_cons]; omega)]
    | inr t => rfl
theorem pkE_ext {s dt : Nat} {la la' : Nat → Int32} {as : List Arg} (h : ∀ j, j < as.length → la j = la' j) : pkE s dt la as = pkE s dt la' as := by
  unfold pkE
  rw [pkL_ext as 0 (fun i _ h2 => h i (by omega))]
theorem log_main {w s t a : Nat} {ts : List Tok} (hw4 : w < 4) (hs : s < si.length) (hts : si[s]? = some ts) (hfit : fit ts ar = true) (ht : t < 9223372036854775808) (hla : (wr w).2.1 ≤ t) (hok : WrOk si wr) (ha : a = x + 5 ∨ a = x + 9) (he : Ea h a ar) (E : EL h x (B + 20) (C + 20000) tx si nm [] wr fl du cu es br tm) :
    Wp 129 105 [.ref x, .int (Int32.ofNat w), .int (Int32.ofNat s), .long (Int64.ofNat t), .null, .ref a, .ref (x + 55 + 4 * w)] [] h (if (pkP (wrN (wr w) s t ar)).1.length ≤ 238 then PZ h x B C (.inl (.int (Int32.ofNat (pkP (wrN (wr w) s t ar)).1.length))) tx si nm [] (wrS wr w (wrN (wr w) s t ar, t, (wr w).2.2)) fl du cu es br tm else if 6144 < fl.length + 256 then PZ h x B C (.inr 20) tx si nm [] wr fl du cu es br tm else PZ h x B C (.inl (.int (Int32.ofNat (pkP [(s, t, ar)]).1.length))) tx si nm [] (wrS wr w ([(s, t, ar)], t, (wr w).2.2 + 1)) (fl ++ bkW w (wr w)) du cu es br tm) := by
  have hx := E.nx
  obtain ⟨rm1, rm2⟩ := E.room
  have E' := E
  obtain ⟨t1, t2, a1, a2, d, sA, fs, pl, pr, sr, nA, H, Tt, R, P, F, Bq, I, Qq, N, L⟩ := E
  have H' := H
  obtain ⟨k1, ⟨g0, g1, g2, g3, g4⟩, ⟨g5, g6, g7, g8, g9, g10, g11, g12⟩, ⟨g13, g14, g15⟩⟩ := H
  obtain ⟨F1, F2, F3, F4, F5⟩ := F
  obtain ⟨az, e1, e2⟩ := R
  obtain ⟨lp, P1⟩ := P
  obtain ⟨ft, bk, hft⟩ := Bq w hw4
  obtain ⟨w1, w2, w3, w4⟩ := hok w hw4
  have hev := (pkP_inv (wr w).1)
  have hl := F2.2.2.2.2.2.1
  have hs40 : s < 40 := by have := L.1.2.2.1.2.1; omega
  simp (disch := omega) only [U129_0, U129_1, U129_4, U129_6, U129_7, U129_10, U129_13, U129_14, U129_17, U129_18, U129_19, U129_22, U129_25, U129_28, U129_31, U129_36, U129_37, U129_40, U129_43, U129_46, U129_49, U129_54, U129_55, U129_58, U129_59, U129_60, U129_62, U129_63, U129_66, U129_67, U129_70, U129_73, U129_75, U129_78, U129_81, U129_82, U129_83, U129_84, U129_87, U129_88, U129_90, U129_93, U129_94, U129_97, U129_100, U129_105, U129_107, U129_108, U129_109, U129_110, U129_113, U129_115, U129_117, U129_118, U129_121, U129_124, U129_125, U129_128, U129_131, U129_133, U129_136, U129_139, U129_140, U129_143, U129_146, U129_149, U129_152, U129_157, U129_159, U129_160, U129_163, U129_166, U129_168, U129_170, U129_171, U129_174, U129_177, U129_179, U129_181, U129_182, U129_185, U129_188, U129_190, U129_193, he.1.1, i_add, i_mul, i_sub, i_addn, i_lt, i_eq, i_idx, i_vp, true_and, and_true, false_and, and_false, if_true, if_false, Nat.reduceAdd, Nat.reduceMul, Nat.reduceSub, Nat.reduceEqDiff, Option.some.injEq, exists_eq_left', true_or, or_true, false_or, or_false, not_true_eq_false, not_false_eq_true, eq_self, and_self, Nat.reduceLeDiff, decide_true, decide_false, ne_eq, Nat.left_eq_add, Nat.add_eq_left, Nat.add_left_cancel_iff, Nat.add_zero]
  refine Wp_use (Event_happens he.1) ?_
  rintro _ h2 ⟨rfl, hw2, f2⟩
  have f2' : Fz (fun a _ => x + 5 ≤ a ∧ a < x + 13) h h2 := f2.mono (fun a i z => by omega)
  have he2 := he.fz f2 (by unfold SE; intro a i z w; omega)
  have R2 : XR h2 x a1 a2 [] := ⟨az, e1.fz f2 (by unfold SE; intro a i z w; omega), e2.fz f2⟩
  have bk2 : Bk h2 (x + 55 + 4 * w) w (wr w).2.2 ft (Int64.ofNat (wr w).2.1) (pkP (wr w).1).1 (pkP (wr w).1).2.1 := bk.ag (f2'.fy.ag (by intro a i z w y; omega))
  have P2 := P1.fz f2' (by unfold SR; intro a i z w; omega)
  have hdt : ∃ dt, dt < 9223372036854775808 ∧ ((pkP (wr w).1).1 = [] → dt = 0) ∧ ((pkP (wr w).1).1 ≠ [] → Int64.ofNat t - gJ_ h2 (x + 55 + 4 * w) 5 = Int64.ofNat dt) ∧ dt = (if (pkP (wr w).1).2.2.2 = true then 0 else t - (pkP (wr w).1).2.2.1) := by
    by_cases hp : (wr w).1 = []
    · exact ⟨0, by omega, fun _ => rfl, fun z => absurd (hev.1.mpr hp) z, by rw [if_pos (hev.2.mpr hp)]⟩
    · refine ⟨t - (wr w).2.1, by omega, fun z => absurd (hev.1.mp z) hp, fun _ => ?_, ?_⟩
      · rw [bk2.2.2.2.2.2.1, j_sub hla]
      · rw [if_neg (fun z => hp (hev.2.mp z)), w2 hp]
  obtain ⟨dt, dt1, dt2, dt3, dt4⟩ := hdt
  simp (disch := omega) only [V14, U129_0, U129_1, U129_4, U129_6, U129_7, U129_10, U129_13, U129_14, U129_17, U129_18, U129_19, U129_22, U129_25, U129_28, U129_31, U129_36, U129_37, U129_40, U129_43, U129_46, U129_49, U129_54, U129_55, U129_58, U129_59, U129_60, U129_62, U129_63, U129_66, U129_67, U129_70, U129_73, U129_75, U129_78, U129_81, U129_82, U129_83, U129_84, U129_87, U129_88, U129_90, U129_93, U129_94, U129_97, U129_100, U129_105, U129_107, U129_108, U129_109, U129_110, U129_113, U129_115, U129_117, U129_118, U129_121, U129_124, U129_125, U129_128, U129_131, U129_133, U129_136, U129_139, U129_140, U129_143, U129_146, U129_149, U129_152, U129_157, U129_159, U129_160, U129_163, U129_166, U129_168, U129_170, U129_171, U129_174, U129_177, U129_179, U129_181, U129_182, U129_185, U129_188, U129_190, U129_193, f2.kd, f2.gP, k1, g7, bk.1.1, i_add, i_mul, i_sub, i_addn, i_lt, i_eq, i_idx, i_vp, true_and, and_true, false_and, and_false, if_true, if_false, Nat.reduceAdd, Nat.reduceMul, Nat.reduceSub, Nat.reduceEqDiff, Option.some.injEq, exists_eq_left', true_or, or_true, false_or, or_false, not_true_eq_false, not_false_eq_true, eq_self, and_self, Nat.reduceLeDiff, decide_true, decide_false, ne_eq, Nat.left_eq_add, Nat.add_eq_left, Nat.add_left_cancel_iff, Nat.add_zero]
  refine Wp_use (Block_pack bk2.1 bk2.2.1 he2 (w := w) (t := Int64.ofNat t) hw2 P2 hs40 dt1 ⟨dt2, dt3⟩ (by omega) (by omega)) ?_
  rintro _ h3 ⟨rfl, P3, f3⟩
  have h6 := he.2.1
  have epk : pkE s dt (fun j => gI_ h2 (x + 55 + 4 * w + 3) (s * 6 + j)) ar = pkE s dt (fun j => (pkP (wr w).1).2.1 (s * 6 + j)) ar := pkE_ext (fun j hj => bk2.2.2.2.2.2.2 _ (by omega))
  rw [epk] at P3
  have enew : (pkP (wrN (wr w) s t ar)).1 = (pkP (wr w).1).1 ++ pkE s dt (fun j => (pkP (wr w).1).2.1 (s * 6 + j)) ar := by unfold wrN; rw [pkP_snoc, dt4]; rfl
  have enla : (pkP (wrN (wr w) s t ar)).2.1 = laU (pkP (wr w).1).2.1 s ar := by unfold wrN; rw [pkP_snoc]; rfl
  generalize hpk : pkE s dt (fun j => (pkP (wr w).1).2.1 (s * 6 + j)) ar = pk at P3 enew
  have hpl := P3.2.2.2.2.2.1
  have f3' : Fz (fun a _ => x + 21 ≤ a ∧ a < x + 23) h2 h3 := f3.mono (fun a i z => by unfold SR at z; omega)
  have f23 : Fz (fun a _ => (x + 5 ≤ a ∧ a < x + 13) ∨ (x + 21 ≤ a ∧ a < x + 23)) h h3 := (f2'.mono (fun a i z => Or.inl z)).trans (f3'.mono (fun a i z => Or.inr z))
  have hx2 : x + 104 ≤ nx_ h2 := by rw [f2.nx]; exact hx
  have hx3 : x + 104 ≤ nx_ h3 := by rw [f23.nx]; exact hx
  have R3 := R2.fb f3'.fb hx2 (by intro a i z w; omega)
  have he3 := he2.fz f3' (by unfold SE; intro a i z w; omega)
  have ew3 : Ew h3 a w s (Int64.ofNat t) := ⟨by rw [f3'.gI (by omega)]; exact hw2.1, by rw [f3'.gI (by omega)]; exact hw2.2.1, by rw [f3'.gJ (by omega)]; exact hw2.2.2⟩
  have XF3 : XF h3 x fl du cu := XF.fb (h := h) ⟨F1, F2, F3, F4, F5⟩ f23.fb hx (by intro a i z w; omega)
  have Bq3 := Bq.fb f23.fb hx (by intro a i z w; omega)
  have bk3 : Bk h3 (x + 55 + 4 * w) w (wr w).2.2 ft (Int64.ofNat (wr w).2.1) (pkP (wr w).1).1 (pkP (wr w).1).2.1 := bk.ag (f23.fy.ag (by intro a i z w y; omega))
  have hel := bk3.2.1.2.2.2.2.2.1
  have fin : ∀ h5 fl' wr' (v : Wr) pk' ev' la' ft' lt' o', Fz (fun a _ => (x + 5 ≤ a ∧ a < x + 13) ∨ (x + 21 ≤ a ∧ a < x + 26) ∨ (x + 55 ≤ a ∧ a < x + 71)) h h5 → XR h5 x a1 a2 [] → Ea h5 a ar → Ew h5 a w s (Int64.ofNat t) → Rw h5 (x + 21) 120 pk' → Bk h5 (x + 55 + 4 * w) w o' ft' lt' ev' la' → XF h5 x fl' du cu → XB h5 x wr' → wrS wr' w v = wrS wr w v → (pkP v.1).1 = ev' ++ pk' → (pkP v.1).2.1 = laU la' s ar → v.2.1 = t → v.2.2 = o' → (if ev' = [] then Int64.ofNat t else ft') = Int64.ofNat (hdT v.1) → ev'.length + pk'.length ≤ 238 →
      Wp 129 177 [.ref x, .int (Int32.ofNat w), .int (Int32.ofNat s), .long (Int64.ofNat t), .null, .ref a, .ref (x + 55 + 4 * w)] [] h5 (PZ h x B C (.inl (.int (Int32.ofNat (pkP v.1).1.length))) tx si nm [] (wrS wr w v) fl' du cu es br tm) := by
    intro h5 fl' wr' v pk' ev' la' ft' lt' o' f5 r5 ea5 ew5 p5 b5 xf5 xb5 hww v1 v2 v3 v4 v5 hlen
    have hx5 : x + 104 ≤ nx_ h5 := by rw [f5.nx]; exact hx
    simp (disch := omega) only [U129_177, U129_179, U129_181, U129_182, U129_185, f5.kd, f5.gP, k1, g7, bk.1.1, i_add, i_mul, i_sub, i_addn, i_lt, i_eq, i_idx, i_vp, true_and, and_true, false_and, and_false, if_true, if_false, Nat.reduceAdd, Nat.reduceMul, Nat.reduceSub, Nat.reduceEqDiff, Option.some.injEq, exists_eq_left', true_or, or_true, false_or, or_false, not_true_eq_false, not_false_eq_true, eq_self, and_self, Nat.reduceLeDiff, decide_true, decide_false, ne_eq, Nat.left_eq_add, Nat.add_eq_left, Nat.add_left_cancel_iff, Nat.add_zero]
    refine Wp_use (Block_append b5 ea5 ew5 p5 hs40 hlen (by omega) (by omega)) ?_
    rintro _ h6 ⟨rfl, b6, f6⟩
    rw [v5, ← v1, ← v2, ← v3, ← v4] at b6
    have f6' : Fz (fun a _ => x + 55 + 4 * w ≤ a ∧ a < x + 59 + 4 * w) h5 h6 := f6.mono (fun a i z => by unfold SB SR at z; omega)
    simp (disch := omega) only [V1, U129_0, U129_1, U129_4, U129_6, U129_7, U129_10, U129_13, U129_14, U129_17, U129_18, U129_19, U129_22, U129_25, U129_28, U129_31, U129_36, U129_37, U129_40, U129_43, U129_46, U129_49, U129_54, U129_55, U129_58, U129_59, U129_60, U129_62, U129_63, U129_66, U129_67, U129_70, U129_73, U129_75, U129_78, U129_81, U129_82, U129_83, U129_84, U129_87, U129_88, U129_90, U129_93, U129_94, U129_97, U129_100, U129_105, U129_107, U129_108, U129_109, U129_110, U129_113, U129_115, U129_117, U129_118, U129_121, U129_124, U129_125, U129_128, U129_131, U129_133, U129_136, U129_139, U129_140, U129_143, U129_146, U129_149, U129_152, U129_157, U129_159, U129_160, U129_163, U129_166, U129_168, U129_170, U129_171, U129_174, U129_177, U129_179, U129_181, U129_182, U129_185, U129_188, U129_190, U129_193, f6.kd, f6.gP, f5.kd, f5.gP, bk.1.1, bk.1.2.1, bk.2.1.1, U4_0, U4_1, U4_4, U4_7, V4, Row_held b6.2.1, V89, i_add, i_mul, i_sub, i_addn, i_lt, i_eq, i_idx, i_vp, true_and, and_true, false_and, and_false, if_true, if_false, Nat.reduceAdd, Nat.reduceMul, Nat.reduceSub, Nat.reduceEqDiff, Option.some.injEq, exists_eq_left', true_or, or_true, false_or, or_false, not_true_eq_false, not_false_eq_true, eq_self, and_self, Nat.reduceLeDiff, decide_true, decide_false, ne_eq, Nat.left_eq_add, Nat.add_eq_left, Nat.add_left_cancel_iff, Nat.add_zero]
    have f7 : Fa (fun a _ => (x + 5 ≤ a ∧ a < x + 13) ∨ (x + 21 ≤ a ∧ a < x + 26) ∨ (x + 55 ≤ a ∧ a < x + 71)) 20 20000 h h6 := (f5.trans (f6'.mono (fun a i z => by omega))).fa.mono (fun _ _ _ z => z) (Nat.zero_le _) (Nat.zero_le _)
    have g := f7.fb
    exact ⟨rfl, f7.fb.mono (fun a i _ z => Or.inl (by omega)), t1, t2, a1, a2, d, sA, fs, pl, pr, sr, nA, H'.fb g hx (by intro a i z w; omega), Tt.fb g hx (by intro a i z w; omega), r5.fb f6'.fb hx5 (by intro a i z w; omega), XP.fb ⟨pk', p5⟩ f6'.fb hx5 (by intro a i z w; omega), xf5.fb f6'.fb hx5 (by intro a i z w; omega), hww ▸ xb5.upd f6'.fb hx5 (fun a i z => by omega) ⟨_, b6, fun _ => rfl⟩, I.fb g hx (by intro a i z w; omega), Qq.fb g hx (by intro a i z w; omega), N.fb' g hx (by intro a i z w; omega), L.fa f7 (by intro a i z w; omega)⟩
  by_cases c1 : (pkP (wrN (wr w) s t ar)).1.length ≤ 238
  · rw [if_pos c1]
    rw [enew, List.length_append] at c1
    simp (disch := omega) only [V7, U129_124, U129_125, U129_128, U129_131, U129_133, U129_136, f23.kd, f23.gP, k1, g7, P1.1, Row_held P3, V89, bk.1.1, bk.1.2.1, bk.2.1.1, U9_0, U9_1, U9_4, U9_7, V9, Row_room bk3.2.1, V98, show ¬ 238 - (pkP (wr w).1).1.length < pk.length by omega, i_add, i_mul, i_sub, i_addn, i_lt, i_eq, i_idx, i_vp, true_and, and_true, false_and, and_false, if_true, if_false, Nat.reduceAdd, Nat.reduceMul, Nat.reduceSub, Nat.reduceEqDiff, Option.some.injEq, exists_eq_left', true_or, or_true, false_or, or_false, not_true_eq_false, not_false_eq_true, eq_self, and_self, Nat.reduceLeDiff, decide_true, decide_false, ne_eq, Nat.left_eq_add, Nat.add_eq_left, Nat.add_left_cancel_iff, Nat.add_zero]
    refine fin h3 fl wr (wrN (wr w) s t ar, t, (wr w).2.2) pk _ _ ft _ _ (f23.mono (fun a i z => by omega)) R3 he3 ew3 P3 bk3 XF3 Bq3 rfl enew enla rfl rfl ?_ c1
    by_cases hp : (wr w).1 = []
    · rw [if_pos (hev.1.mpr hp)]
      show _ = Int64.ofNat (hdT (wrN (wr w) s t ar))
      unfold wrN
      rw [hp]
      rfl
    · rw [if_neg (fun z => hp (hev.1.mp z)), hft hp]
      show _ = Int64.ofNat (hdT (wrN (wr w) s t ar))
      unfold wrN
      cases hq : (wr w).1 with
      | nil => exact absurd hq hp
      | cons p l => rfl
  · rw [if_neg c1]
    rw [enew, List.length_append] at c1
    have hne : ¬ (wr w).1 = [] := by
      intro z
      have := hev.1.mpr z
      rw [this, List.length_nil] at c1
      omega
    by_cases c2 : 6144 < fl.length + 256
    · rw [if_pos c2]
      simp (disch := omega) only [V7, U129_124, U129_125, U129_128, U129_131, U129_133, U129_136, U129_139, U129_140, U129_143, U129_146, U129_149, U129_152, U129_157, U129_159, U129_160, U129_163, U129_166, U129_168, U129_170, f23.kd, f23.gP, k1, g7, g8, P1.1, Row_held P3, V89, bk.1.1, bk.1.2.1, bk.2.1.1, U9_0, U9_1, U9_4, U9_7, V9, Row_room bk3.2.1, V98, show 238 - (pkP (wr w).1).1.length < pk.length by omega, F1.1, File_isFull XF3.1 XF3.2.1, V58, bz_0, c2, f23.rc, f23.rs, show 1 ≤ rc_ h by omega, show 6 ≤ rs_ h by omega, i_add, i_mul, i_sub, i_addn, i_lt, i_eq, i_idx, i_vp, true_and, and_true, false_and, and_false, if_true, if_false, Nat.reduceAdd, Nat.reduceMul, Nat.reduceSub, Nat.reduceEqDiff, Option.some.injEq, exists_eq_left', true_or, or_true, false_or, or_false, not_true_eq_false, not_false_eq_true, eq_self, and_self, Nat.reduceLeDiff, decide_true, decide_false, ne_eq, Nat.left_eq_add, Nat.add_eq_left, Nat.add_left_cancel_iff, Nat.add_zero]
      refine PZ.tr (h1 := h3) f23.fy (fun a i z => Or.inl (by omega)) _ _ (EL.thr ?_)
      have f7 : Fa (fun a _ => (x + 5 ≤ a ∧ a < x + 13) ∨ (x + 21 ≤ a ∧ a < x + 23)) 0 0 h h3 := f23.fa
      have g := f7.fb
      exact ⟨t1, t2, a1, a2, d, sA, fs, pl, pr, sr, nA, H'.fb g hx (by intro a i z w; omega), Tt.fb g hx (by intro a i z w; omega), R3, ⟨pk, P3⟩, XF3, Bq3, I.fb g hx (by intro a i z w; omega), Qq.fb g hx (by intro a i z w; omega), N.fb' g hx (by intro a i z w; omega), XL.fa (B := B + 20) (C := C + 20000) (n := 0) (w := 0) L f7 (by intro a i z w; omega)⟩
    · rw [if_neg c2]
      simp (disch := omega) only [V7, U129_124, U129_125, U129_128, U129_131, U129_133, U129_136, U129_139, U129_140, U129_143, U129_146, U129_149, U129_152, U129_157, U129_159, U129_160, U129_163, f23.kd, f23.gP, k1, g7, g8, P1.1, Row_held P3, V89, bk.1.1, bk.1.2.1, bk.2.1.1, U9_0, U9_1, U9_4, U9_7, V9, Row_room bk3.2.1, V98, show 238 - (pkP (wr w).1).1.length < pk.length by omega, F1.1, File_isFull XF3.1 XF3.2.1, V58, bz_0, c2, i_add, i_mul, i_sub, i_addn, i_lt, i_eq, i_idx, i_vp, true_and, and_true, false_and, and_false, if_true, if_false, Nat.reduceAdd, Nat.reduceMul, Nat.reduceSub, Nat.reduceEqDiff, Option.some.injEq, exists_eq_left', true_or, or_true, false_or, or_false, not_true_eq_false, not_false_eq_true, eq_self, and_self, Nat.reduceLeDiff, decide_true, decide_false, ne_eq, Nat.left_eq_add, Nat.add_eq_left, Nat.add_left_cancel_iff, Nat.add_zero]
      refine Wp_use (Block_moveTo' bk3 XF3.1 XF3.2.1 (by omega) (by omega) (by omega)) ?_
      rintro _ h4 ⟨rfl, r4, bk4, f4⟩
      rw [hft hne] at r4
      have f4' : Fz (fun a _ => (x + 24 ≤ a ∧ a < x + 26) ∨ (x + 55 + 4 * w ≤ a ∧ a < x + 59 + 4 * w)) h3 h4 := f4.mono (fun a i z => by unfold SR at z; omega)
      have R4 := R3.fb f4'.fb hx3 (by intro a i z w; omega)
      have he4 := he3.fz f4' (by unfold SE; intro a i z w; omega)
      have ew4 : Ew h4 a w s (Int64.ofNat t) := ⟨by rw [f4'.gI (by omega)]; exact ew3.1, by rw [f4'.gI (by omega)]; exact ew3.2.1, by rw [f4'.gJ (by omega)]; exact ew3.2.2⟩
      have P4 := P3.fz f4' (by unfold SR; intro a i z w; omega)
      simp (disch := omega) only [V6, U129_166, U129_168, U129_170, U129_171, U129_174, f4.kd, f4.gP, f23.kd, f23.gP, k1, g7, bk.1.1, i_add, i_mul, i_sub, i_addn, i_lt, i_eq, i_idx, i_vp, true_and, and_true, false_and, and_false, if_true, if_false, Nat.reduceAdd, Nat.reduceMul, Nat.reduceSub, Nat.reduceEqDiff, Option.some.injEq, exists_eq_left', true_or, or_true, false_or, or_false, not_true_eq_false, not_false_eq_true, eq_self, and_self, Nat.reduceLeDiff, decide_true, decide_false, ne_eq, Nat.left_eq_add, Nat.add_eq_left, Nat.add_left_cancel_iff, Nat.add_zero]
      refine Wp_use (Block_pack (dt := 0) bk4.1 bk4.2.1 he4 ew4 P4 hs40 (by omega) ⟨fun _ => rfl, fun z => absurd rfl z⟩ (by omega) (by omega)) ?_
      rintro _ h5 ⟨rfl, P5, f5⟩
      have epk5 : pkE s 0 (fun j => gI_ h4 (x + 55 + 4 * w + 3) (s * 6 + j)) ar = pkE s 0 (fun _ => Int32.ofNat 0) ar := pkE_ext (fun j hj => bk4.2.2.2.2.2.2 _ (by omega))
      rw [epk5] at P5
      have hp5 := P5.2.2.2.2.2.1
      have f5' : Fz (fun a _ => x + 21 ≤ a ∧ a < x + 23) h4 h5 := f5.mono (fun a i z => by unfold SR at z; omega)
      have hx4 : x + 104 ≤ nx_ h4 := by rw [f4'.nx]; exact hx3
      simp (disch := omega) only [V7, U129_166, U129_168, U129_170, U129_171, U129_174, i_add, i_mul, i_sub, i_addn, i_lt, i_eq, i_idx, i_vp, true_and, and_true, false_and, and_false, if_true, if_false, Nat.reduceAdd, Nat.reduceMul, Nat.reduceSub, Nat.reduceEqDiff, Option.some.injEq, exists_eq_left', true_or, or_true, false_or, or_false, not_true_eq_false, not_false_eq_true, eq_self, and_self, Nat.reduceLeDiff, decide_true, decide_false, ne_eq, Nat.left_eq_add, Nat.add_eq_left, Nat.add_left_cancel_iff, Nat.add_zero]
      have f25 : Fz (fun a _ => (x + 5 ≤ a ∧ a < x + 13) ∨ (x + 21 ≤ a ∧ a < x + 26) ∨ (x + 55 ≤ a ∧ a < x + 71)) h h5 := ((f23.mono (fun a i z => by omega)).trans (f4'.mono (fun a i z => by omega))).trans (f5'.mono (fun a i z => by omega))
      have xf4 : XF h4 x (fl ++ bkW w (wr w)) du cu := ⟨XF3.1.fz f4', r4, by rw [f4'.gI (by omega)]; exact XF3.2.2.1, by rw [f4'.gI (by omega)]; exact XF3.2.2.2.1, by rw [List.length_append]; omega⟩
      refine fin h5 (fl ++ bkW w (wr w)) (wrS wr w ([], (wr w).2.1, (wr w).2.2 + 1)) ([(s, t, ar)], t, (wr w).2.2 + 1) _ [] (fun _ => Int32.ofNat 0) ft _ _ f25 (R4.fb f5'.fb hx4 (by intro a i z w; omega)) (he4.fz f5' (by unfold SE; intro a i z w; omega)) ⟨by rw [f5'.gI (by omega)]; exact ew4.1, by rw [f5'.gI (by omega)]; exact ew4.2.1, by rw [f5'.gJ (by omega)]; exact ew4.2.2⟩ P5 (bk4.ag (f5'.fy.ag (by intro a i z w y; omega))) (xf4.fb f5'.fb hx4 (by intro a i z w; omega)) ((Bq3.upd f4'.fb hx3 (fun a i z => by omega) ⟨ft, bk4, fun z => absurd rfl z⟩).fb f5'.fb hx4 (by intro a i z w; omega)) ?_ ?_ ?_ rfl rfl (by rw [if_pos rfl]; rfl) (by rw [List.length_nil]; omega)
      · funext q
        unfold wrS
        split <;> rfl
      · show (pk1 ([], fun _ => Int32.ofNat 0, 0, true) (s, t, ar)).1 = _
        rfl
      · rfl
end
