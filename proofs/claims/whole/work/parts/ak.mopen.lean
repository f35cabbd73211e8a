/-! ===== the model: open ===== -/
theorem rFl_br {si : List (List Tok)} {fl : List Nat} {c : Nat} : ∀ n i acc br, rFl si fl n i acc (br + c) = ((rFl si fl n i acc br).1, (rFl si fl n i acc br).2 + c) := by
  intro n
  induction n with
  | zero => intro i acc br; rfl
  | succ n ih =>
    intro i acc br
    simp only [rFl]
    cases rB si fl acc i with
    | none => simp only; rw [← ih, show br + c + 1 = br + 1 + c by omega]
    | some es => simp only; rw [← ih]
theorem rB_short {si : List (List Tok)} {fl : List Nat} {acc : List Ev} {i : Nat} (h : fl.length < i + 256) : rB si fl acc i = none := if_neg (fun z => by have := z.1; omega)
theorem rFl_last {si : List (List Tok)} {fl : List Nat} : ∀ n i acc br, fl.length < i + 256 * n + 256 → rFl si fl (n + 1) i acc br = ((rFl si fl n i acc br).1, (rFl si fl n i acc br).2 + 1) := by
  intro n
  induction n with
  | zero => intro i acc br h; simp only [rFl, rB_short (si := si) (acc := acc) (show fl.length < i + 256 by omega)]
  | succ n ih =>
    intro i acc br h
    show (match rB si fl acc i with | some es => rFl si fl (n + 1) (i + 256) es br | none => rFl si fl (n + 1) (i + 256) acc (br + 1)) = _
    rw [show rFl si fl (n + 1) i acc br = (match rB si fl acc i with | some es => rFl si fl n (i + 256) es br | none => rFl si fl n (i + 256) acc (br + 1)) from rfl]
    cases rB si fl acc i with
    | none => exact ih (i + 256) acc (br + 1) (by omega)
    | some es => exact ih (i + 256) es br (by omega)
theorem rdA_eq {si : List (List Tok)} {fl : List Nat} : rdA si fl = rFl si fl (fl.length / 256) 0 [] (if 0 < fl.length % 256 then 1 else 0) := by
  unfold rdA
  by_cases h : 0 < fl.length % 256
  · rw [if_pos h, show (fl.length + 255) / 256 = fl.length / 256 + 1 by omega, rFl_last _ _ _ _ (by omega), ← rFl_br, Nat.zero_add]
  · rw [if_neg h, show (fl.length + 255) / 256 = fl.length / 256 by omega]
/-- fields and arrays that reading changes -/
def SOp (m : Nat) : Nat → Nat → Prop := fun a i => (a = m ∧ (i = 0 ∨ i = 27 ∨ i = 34 ∨ i = 43 ∨ i = 44 ∨ i = 45)) ∨ (m + 19 ≤ a ∧ a ≤ m + 25)
section
variable {h h' : MH_} {m : Nat} {fl : List Nat} {si : List (List Tok)} {P : Rs_ → MH_ → Prop}
theorem open_copy {du : Nat} {cu : Bool} (X0 : MS h m) (X6 : MD h m fl du cu)
    (cont : ∀ hh y, Fz (SOp m) h hh → Mc hh m fl → gI_ hh m 0 = gI_ h m 0 → Wp 176 33 [.ref m, .int y, .null] [] hh P) : Wp 176 7 [.ref m, .int (Int32.ofNat 0), .null] [] h P := by
  obtain ⟨a1, a2, a3, a4, a5, a6, a7⟩ := X6
  have key : ∀ n k hh, k + n = fl.length → Fz (fun a _ => a = m + 19) h hh → (∀ i, i < k → gI_ hh (m + 19) i = Int32.ofNat (fl.getD i 0)) → Wp 176 7 [.ref m, .int (Int32.ofNat k), .null] [] hh P := by
    intro n
    induction n with
    | zero =>
      intro k hh hk F hc
      have Y0 := X0.fz F
      have e22 : gI_ hh m 22 = Int32.ofNat fl.length := by rw [F.gI (by omega)]; exact a1
      rw [U176_7]
      simp (disch := omega) only [U176_8, U176_9, U176_12, U176_15, U176_16, U176_19, U176_20, U176_21, U176_24, U176_25, U176_26, U176_27, U176_30, Y0.1, e22, show ¬ k < fl.length by omega, i_add, i_mul, i_sub, i_addn, i_lt, i_eq, i_idx, i_vp, true_and, and_true, false_and, and_false, if_true, if_false, Nat.reduceAdd, Nat.reduceMul, Nat.reduceSub, Nat.reduceEqDiff, Option.some.injEq, exists_eq_left', true_or, or_true, false_or, or_false, not_true_eq_false, not_false_eq_true, eq_self, and_self, Nat.reduceLeDiff, decide_true, decide_false, ne_eq, Nat.left_eq_add, Nat.add_eq_left, Nat.add_left_cancel_iff, Nat.add_zero]
      exact cont hh _ (F.mono (by unfold SOp; intro a i z; omega)) ⟨fun i hi => hc i (by omega), a2, a4⟩ (F.gI (by omega))
    | succ n ih =>
      intro k hh hk F hc
      have Y0 := X0.fz F
      have e22 : gI_ hh m 22 = Int32.ofNat fl.length := by rw [F.gI (by omega)]; exact a1
      have e18 : gI_ hh (m + 18) k = Int32.ofNat (fl.getD k 0) := by rw [F.gI (by omega)]; exact a3 k (by omega)
      rw [U176_7]
      simp (disch := omega) only [U176_8, U176_9, U176_12, U176_15, U176_16, U176_19, U176_20, U176_21, U176_24, U176_25, U176_26, U176_27, U176_30, Y0.1, e22, e18, mp26 Y0, mk19 Y0, mn19 Y0, mp23 Y0, mk18 Y0, mn18 Y0, show k < fl.length by omega, show k < 6144 by omega, i_add, i_mul, i_sub, i_addn, i_lt, i_eq, i_idx, i_vp, true_and, and_true, false_and, and_false, if_true, if_false, Nat.reduceAdd, Nat.reduceMul, Nat.reduceSub, Nat.reduceEqDiff, Option.some.injEq, exists_eq_left', true_or, or_true, false_or, or_false, not_true_eq_false, not_false_eq_true, eq_self, and_self, Nat.reduceLeDiff, decide_true, decide_false, ne_eq, Nat.left_eq_add, Nat.add_eq_left, Nat.add_left_cancel_iff, Nat.add_zero]
      refine ih (k + 1) _ (by omega) (F.sI rfl) (fun i hi => ?_)
      rw [z_gI_sI]
      by_cases hik : i = k
      · rw [if_pos ⟨rfl, hik⟩, hik]
      · rw [if_neg (fun z => hik z.2)]; exact hc i (by omega)
  exact key fl.length 0 h (by omega) Fz.rfl' (fun i hi => absurd hi (Nat.not_lt_zero _))
/-- what stands while blocks are read -/
def Rb (h hh : MH_) (m : Nat) (fl : List Nat) (acc : List Ev) (br : Nat) : Prop := Fz (SOp m) h hh ∧ Mc hh m fl ∧ Mv hh m acc ∧ gI_ hh m 27 = Int32.ofNat acc.length ∧ gI_ hh m 34 = Int32.ofNat br ∧ gI_ hh m 0 = Int32.ofNat 0
theorem open_blocks {du : Nat} {cu : Bool} (X0 : MS h m) (X2 : MF h m si) (X6 : MD h m fl du cu) (res : List Ev × Nat)
    (cont : ∀ hh y, Rb h hh m fl res.1 res.2 → (∀ q ∈ res.1, okL si q) → res.1.length ≤ 2856 → Wp 176 111 [.ref m, .int (Int32.ofNat 0), y] [] hh P) :
    ∀ n b acc br hh y, b + n = fl.length / 256 → acc.length ≤ 119 * b → (∀ q ∈ acc, okL si q) → Rb h hh m fl acc br → rFl si fl n (256 * b) acc br = res → Wp 176 60 [.ref m, .int (Int32.ofNat (256 * b)), y] [] hh P := by
  have hl := X6.2.1
  intro n
  induction n with
  | zero =>
    intro b acc br hh y hb ha ok D hres
    have hres' : (acc, br) = res := hres
    subst hres'
    have Y0 := X0.fz D.1
    have e22 : gI_ hh m 22 = Int32.ofNat fl.length := by rw [D.1.gI (by unfold SOp; omega)]; exact X6.1
    rw [U176_60]
    simp (disch := omega) only [U176_61, U176_64, U176_65, U176_66, U176_69, U176_109, U176_110, Y0.1, e22, show fl.length < 256 * b + 256 by omega, i_add, i_mul, i_sub, i_addn, i_lt, i_eq, i_idx, i_vp, true_and, and_true, false_and, and_false, if_true, if_false, Nat.reduceAdd, Nat.reduceMul, Nat.reduceSub, Nat.reduceEqDiff, Option.some.injEq, exists_eq_left', true_or, or_true, false_or, or_false, not_true_eq_false, not_false_eq_true, eq_self, and_self, Nat.reduceLeDiff, decide_true, decide_false, ne_eq, Nat.left_eq_add, Nat.add_eq_left, Nat.add_left_cancel_iff, Nat.add_zero]
    exact cont hh _ D ok (by show acc.length ≤ 2856; omega)
  | succ n ih =>
    intro b acc br hh y hb ha ok D hres
    obtain ⟨F, C, V, e27, e34, e0⟩ := D
    have Y0 := X0.fz F
    have Y2 := X2.fz F (by unfold SOp; intro a i z; omega)
    have e22 : gI_ hh m 22 = Int32.ofNat fl.length := by rw [F.gI (by unfold SOp; omega)]; exact X6.1
    rw [U176_60]
    simp (disch := omega) only [U176_61, U176_64, U176_65, U176_66, U176_69, U176_72, U176_73, U176_76, U176_77, U176_78, U176_79, Y0.1, e22, e27, show ¬ fl.length < 256 * b + 256 by omega, i_add, i_mul, i_sub, i_addn, i_lt, i_eq, i_idx, i_vp, true_and, and_true, false_and, and_false, if_true, if_false, Nat.reduceAdd, Nat.reduceMul, Nat.reduceSub, Nat.reduceEqDiff, Option.some.injEq, exists_eq_left', true_or, or_true, false_or, or_false, not_true_eq_false, not_false_eq_true, eq_self, and_self, Nat.reduceLeDiff, decide_true, decide_false, ne_eq, Nat.left_eq_add, Nat.add_eq_left, Nat.add_left_cancel_iff, Nat.add_zero]
    refine Wp_use (M_readBlock Y0 Y2 (show acc.length ≤ 2737 by omega) C (show 256 * b + 256 ≤ fl.length by omega) V e27) ?_
    rintro v h1 ⟨f1, z⟩
    have ff : ∀ a i, SYb m acc.length a i → SOp m a i := by unfold SYb SY SOp; intro a i z; omega
    have F1 := F.trans (f1.mono ff)
    have Z0 := X0.fz F1
    have C1 := C.fz f1 (fun i z => by unfold SYb SY at z; omega)
    have e34' : gI_ h1 m 34 = Int32.ofNat br := by rw [f1.gI (by unfold SYb SY; omega)]; exact e34
    have e0' : gI_ h1 m 0 = Int32.ofNat 0 := by rw [f1.gI (by unfold SYb SY; omega)]; exact e0
    cases hB : rB si fl acc (256 * b) with
    | none =>
      rw [hB] at z
      have z' : v = .inl (.int (Int32.ofNat 0)) := z
      subst z'
      have V1 : Mv h1 m acc := by
        intro i y hy
        have hi := gI_len hy
        exact (V i y hy).fi f1 (fun a z w => by unfold SYb SY at w; omega) (fun a k hk z w => by unfold SYb SY at w; omega) (fun j w => by unfold SYb SY at w; omega)
      have f2 : Fz (fun a i => a = m ∧ (i = 34 ∨ i = 27)) h1 (sI_ (sI_ h1 m 34 (Int32.ofNat (br + 1))) m 27 (Int32.ofNat acc.length)) := (Fz.rfl'.sI ⟨rfl, Or.inl rfl⟩).sI ⟨rfl, Or.inr rfl⟩
      simp (disch := omega) only [V189, U176_82, U176_85, U176_86, U176_87, U176_90, U176_91, U176_92, U176_95, U176_96, U176_97, U176_100, U176_101, U176_104, U176_105, U176_106, z_kd_sI, z_ln_sI, z_gI_sI, z_gJ_sI, z_gP_sI, z_nx_sI, z_rc_sI, z_rs_sI, z_em_sI, z_mi_sI, z_kd_sJ, z_ln_sJ, z_gI_sJ, z_gJ_sJ, z_gP_sJ, z_nx_sJ, z_rc_sJ, z_rs_sJ, z_em_sJ, z_mi_sJ, z_kd_sP, z_ln_sP, z_gI_sP, z_gJ_sP, z_gP_sP, z_nx_sP, z_rc_sP, z_rs_sP, z_em_sP, z_mi_sP, z_kd_nw, z_ln_nw, z_gI_nw, z_gJ_nw, z_gP_nw, z_nx_nw, z_rc_nw, z_rs_nw, z_em_nw, z_mi_nw, z_kd_cI, z_ln_cI, z_gI_cI, z_gJ_cI, z_gP_cI, z_nx_cI, z_rc_cI, z_rs_cI, z_em_cI, z_mi_cI, z_kd_cP, z_ln_cP, z_gI_cP, z_gJ_cP, z_gP_cP, z_nx_cP, z_rc_cP, z_rs_cP, z_em_cP, z_mi_cP, z_kd_wI, z_ln_wI, z_gI_wI, z_gJ_wI, z_gP_wI, z_nx_wI, z_rc_wI, z_rs_wI, z_em_wI, z_mi_wI, z_kd_wJ, z_ln_wJ, z_gI_wJ, z_gJ_wJ, z_gP_wJ, z_nx_wJ, z_rc_wJ, z_rs_wJ, z_em_wJ, z_mi_wJ, Z0.1, e34', i_add, i_mul, i_sub, i_addn, i_lt, i_eq, i_idx, i_vp, true_and, and_true, false_and, and_false, if_true, if_false, Nat.reduceAdd, Nat.reduceMul, Nat.reduceSub, Nat.reduceEqDiff, Option.some.injEq, exists_eq_left', true_or, or_true, false_or, or_false, not_true_eq_false, not_false_eq_true, eq_self, and_self, Nat.reduceLeDiff, decide_true, decide_false, ne_eq, Nat.left_eq_add, Nat.add_eq_left, Nat.add_left_cancel_iff, Nat.add_zero]
      rw [show 256 * b + 256 = 256 * (b + 1) by omega]
      refine ih (b + 1) acc (br + 1) _ _ (by omega) (by omega) ok ⟨F1.trans (f2.mono (by unfold SOp; intro a i z; omega)), C1.fz f2 (fun i z => by omega), V1.fz f2 (fun a i z w => by omega), by rw [z_gI_sI, if_pos ⟨rfl, rfl⟩], by rw [z_gI_sI, if_neg (by omega), z_gI_sI, if_pos ⟨rfl, rfl⟩], by rw [f2.gI (by omega)]; exact e0'⟩ ?_
      rw [← hres]
      simp only [rFl, hB]
      rw [show 256 * b + 256 = 256 * (b + 1) by omega]
    | some es =>
      rw [hB] at z
      obtain ⟨rfl, V1, e27'⟩ := z
      obtain ⟨more, m1, m2, m3⟩ := rB_inv hB
      simp (disch := omega) only [V189, U176_82, U176_85, U176_86, U176_87, U176_90, U176_91, U176_92, U176_95, U176_96, U176_97, U176_100, U176_101, U176_104, U176_105, U176_106, z_kd_sI, z_ln_sI, z_gI_sI, z_gJ_sI, z_gP_sI, z_nx_sI, z_rc_sI, z_rs_sI, z_em_sI, z_mi_sI, z_kd_sJ, z_ln_sJ, z_gI_sJ, z_gJ_sJ, z_gP_sJ, z_nx_sJ, z_rc_sJ, z_rs_sJ, z_em_sJ, z_mi_sJ, z_kd_sP, z_ln_sP, z_gI_sP, z_gJ_sP, z_gP_sP, z_nx_sP, z_rc_sP, z_rs_sP, z_em_sP, z_mi_sP, z_kd_nw, z_ln_nw, z_gI_nw, z_gJ_nw, z_gP_nw, z_nx_nw, z_rc_nw, z_rs_nw, z_em_nw, z_mi_nw, z_kd_cI, z_ln_cI, z_gI_cI, z_gJ_cI, z_gP_cI, z_nx_cI, z_rc_cI, z_rs_cI, z_em_cI, z_mi_cI, z_kd_cP, z_ln_cP, z_gI_cP, z_gJ_cP, z_gP_cP, z_nx_cP, z_rc_cP, z_rs_cP, z_em_cP, z_mi_cP, z_kd_wI, z_ln_wI, z_gI_wI, z_gJ_wI, z_gP_wI, z_nx_wI, z_rc_wI, z_rs_wI, z_em_wI, z_mi_wI, z_kd_wJ, z_ln_wJ, z_gI_wJ, z_gJ_wJ, z_gP_wJ, z_nx_wJ, z_rc_wJ, z_rs_wJ, z_em_wJ, z_mi_wJ, Z0.1, show ¬ (1 : Nat) = 0 by omega, i_add, i_mul, i_sub, i_addn, i_lt, i_eq, i_idx, i_vp, true_and, and_true, false_and, and_false, if_true, if_false, Nat.reduceAdd, Nat.reduceMul, Nat.reduceSub, Nat.reduceEqDiff, Option.some.injEq, exists_eq_left', true_or, or_true, false_or, or_false, not_true_eq_false, not_false_eq_true, eq_self, and_self, Nat.reduceLeDiff, decide_true, decide_false, ne_eq, Nat.left_eq_add, Nat.add_eq_left, Nat.add_left_cancel_iff, Nat.add_zero]
      rw [show 256 * b + 256 = 256 * (b + 1) by omega]
      refine ih (b + 1) es br _ _ (by omega) (by rw [m1, List.length_append]; omega) (fun q hq => ?_) ⟨F1, C1, V1, e27', e34', e0'⟩ ?_
      · rw [m1] at hq
        exact (List.mem_append.mp hq).elim (ok q) (m3 q)
      · rw [← hres]
        simp only [rFl, hB]
        rw [show 256 * b + 256 = 256 * (b + 1) by omega]
theorem open_sort {hh : MH_} {es : List Ev} {br : Nat} (X0 : MS h m) (D : Rb h hh m fl es br) (ok : ∀ q ∈ es, okL si q) (hl : es.length ≤ 2856)
    (cont : ∀ h2 y1 y2, Rb h h2 m fl es br → (∀ k, k < es.length → gI_ h2 (m + 25) k = Int32.ofNat ((odA es).getD k 0)) → Wp 176 174 [.ref m, .int y1, y2] [] h2 P) (y : Value) : Wp 176 111 [.ref m, .int (Int32.ofNat 0), y] [] hh P := by
  have st : ∀ h2, Fz (fun a _ => a = m + 25) hh h2 → Rb h h2 m fl es br := by
    intro h2 f
    obtain ⟨F, C, V, e27, e34, e0⟩ := D
    exact ⟨F.trans (f.mono (by unfold SOp; intro a i z; omega)), C.fz f (fun i z => by omega), V.fz f (fun a i z w => by omega), by rw [f.gI (by omega)]; exact e27, by rw [f.gI (by omega)]; exact e34, by rw [f.gI (by omega)]; exact e0⟩
  have key : ∀ n e h2 y, e + n = es.length → Fz (fun a _ => a = m + 25) hh h2 → (∀ k, k < e → gI_ h2 (m + 25) k = Int32.ofNat ((odF es e 0 []).getD k 0)) → Wp 176 111 [.ref m, .int (Int32.ofNat e), y] [] h2 P := by
    intro n
    induction n with
    | zero =>
      intro e h2 y he f hL
      have R := st h2 f
      have Y0 := X0.fz R.1
      obtain rfl : e = es.length := by omega
      rw [U176_111]
      simp (disch := omega) only [U176_112, U176_113, U176_116, Y0.1, R.2.2.2.1, show ¬ es.length < es.length by omega, i_add, i_mul, i_sub, i_addn, i_lt, i_eq, i_idx, i_vp, true_and, and_true, false_and, and_false, if_true, if_false, Nat.reduceAdd, Nat.reduceMul, Nat.reduceSub, Nat.reduceEqDiff, Option.some.injEq, exists_eq_left', true_or, or_true, false_or, or_false, not_true_eq_false, not_false_eq_true, eq_self, and_self, Nat.reduceLeDiff, decide_true, decide_false, ne_eq, Nat.left_eq_add, Nat.add_eq_left, Nat.add_left_cancel_iff, Nat.add_zero]
      exact cont h2 _ _ R hL
    | succ n ih =>
      intro e h2 y he f hL
      obtain ⟨o1, o2, o3⟩ := odF_inv (es := es) e 0 [] rfl srt_nil (fun i hi => absurd hi List.not_mem_nil)
      rw [Nat.zero_add] at o1 o3
      have eo : odF es (e + 1) 0 [] = insO es (odF es e 0 []) e := by rw [odF_add, Nat.zero_add]; rfl
      generalize hod : odF es e 0 [] = od at *
      have fin : ∀ k h3, k ≤ e → Fz (fun a _ => a = m + 25) hh h3 → (∀ i, i < k → gI_ h3 (m + 25) i = Int32.ofNat (od.getD i 0)) → (∀ i, k < i → i ≤ e → gI_ h3 (m + 25) i = Int32.ofNat (od.getD (i - 1) 0)) → plc es od e od.length = k → Wp 176 161 [.ref m, .int (Int32.ofNat e), .int (Int32.ofNat k)] [] h3 P := by
        intro k h3 hk f3 A B hp
        have R3 := st h3 f3
        have Z0 := X0.fz R3.1
        simp (disch := omega) only [U176_161, U176_162, U176_165, U176_166, U176_167, U176_168, U176_171, z_kd_sI, z_ln_sI, z_gI_sI, z_gJ_sI, z_gP_sI, z_nx_sI, z_rc_sI, z_rs_sI, z_em_sI, z_mi_sI, z_kd_sJ, z_ln_sJ, z_gI_sJ, z_gJ_sJ, z_gP_sJ, z_nx_sJ, z_rc_sJ, z_rs_sJ, z_em_sJ, z_mi_sJ, z_kd_sP, z_ln_sP, z_gI_sP, z_gJ_sP, z_gP_sP, z_nx_sP, z_rc_sP, z_rs_sP, z_em_sP, z_mi_sP, z_kd_nw, z_ln_nw, z_gI_nw, z_gJ_nw, z_gP_nw, z_nx_nw, z_rc_nw, z_rs_nw, z_em_nw, z_mi_nw, z_kd_cI, z_ln_cI, z_gI_cI, z_gJ_cI, z_gP_cI, z_nx_cI, z_rc_cI, z_rs_cI, z_em_cI, z_mi_cI, z_kd_cP, z_ln_cP, z_gI_cP, z_gJ_cP, z_gP_cP, z_nx_cP, z_rc_cP, z_rs_cP, z_em_cP, z_mi_cP, z_kd_wI, z_ln_wI, z_gI_wI, z_gJ_wI, z_gP_wI, z_nx_wI, z_rc_wI, z_rs_wI, z_em_wI, z_mi_wI, z_kd_wJ, z_ln_wJ, z_gI_wJ, z_gJ_wJ, z_gP_wJ, z_nx_wJ, z_rc_wJ, z_rs_wJ, z_em_wJ, z_mi_wJ, Z0.1, mp33 Z0, mk25 Z0, mn25 Z0, show k < 2900 by omega, i_add, i_mul, i_sub, i_addn, i_lt, i_eq, i_idx, i_vp, true_and, and_true, false_and, and_false, if_true, if_false, Nat.reduceAdd, Nat.reduceMul, Nat.reduceSub, Nat.reduceEqDiff, Option.some.injEq, exists_eq_left', true_or, or_true, false_or, or_false, not_true_eq_false, not_false_eq_true, eq_self, and_self, Nat.reduceLeDiff, decide_true, decide_false, ne_eq, Nat.left_eq_add, Nat.add_eq_left, Nat.add_left_cancel_iff, Nat.add_zero]
        refine ih (e + 1) _ _ (by omega) (f3.sI rfl) (fun j hj => ?_)
        rw [eo]
        unfold insO
        rw [hp, ins_gD (by omega) (by omega), z_gI_sI]
        by_cases j1 : j < k
        · rw [if_neg (by omega), if_pos j1]; exact A j j1
        · rw [if_neg j1]
          by_cases j2 : j = k
          · rw [if_pos ⟨rfl, j2⟩, if_pos j2]
          · rw [if_neg (by omega), if_neg j2]; exact B j (by omega) (by omega)
      have inner : ∀ k h3, k ≤ e → Fz (fun a _ => a = m + 25) hh h3 → (∀ i, i < k → gI_ h3 (m + 25) i = Int32.ofNat (od.getD i 0)) → (∀ i, k < i → i ≤ e → gI_ h3 (m + 25) i = Int32.ofNat (od.getD (i - 1) 0)) → plc es od e od.length = plc es od e k → Wp 176 121 [.ref m, .int (Int32.ofNat e), .int (Int32.ofNat k)] [] h3 P := by
        intro k
        induction k with
        | zero =>
          intro h3 hk f3 A B hp
          rw [U176_121]
          simp (disch := omega) only [U176_122, show ¬ (0 : Nat) < 0 by omega, i_add, i_mul, i_sub, i_addn, i_lt, i_eq, i_idx, i_vp, true_and, and_true, false_and, and_false, if_true, if_false, Nat.reduceAdd, Nat.reduceMul, Nat.reduceSub, Nat.reduceEqDiff, Option.some.injEq, exists_eq_left', true_or, or_true, false_or, or_false, not_true_eq_false, not_false_eq_true, eq_self, and_self, Nat.reduceLeDiff, decide_true, decide_false, ne_eq, Nat.left_eq_add, Nat.add_eq_left, Nat.add_left_cancel_iff, Nat.add_zero]
          exact fin 0 h3 hk f3 A B hp
        | succ k ihk =>
          intro h3 hk f3 A B hp
          have R3 := st h3 f3
          have Z0 := X0.fz R3.1
          have hkl : k < od.length := by omega
          have hok := o3 _ (gD_mem hkl)
          have hx := gD_ev (es := es) (i := e) (by omega)
          have hy := gD_ev (es := es) (show od.getD k 0 < es.length by omega)
          have g := A k (by omega)
          have bf : ∀ Q : Rs_ → MH_ → Prop, _ := fun Q => M_isBefore (Q := Q) (si := si) Z0 (R3.2.2.1 _ _ hx) (R3.2.2.1 _ _ hy) (by omega) (by omega) (ok _ (List.mem_of_getElem? hx)) (ok _ (List.mem_of_getElem? hy))
          have pl : plc es od e (k + 1) = @ite _ (bef (es.getD e evD) (es.getD (od.getD k 0) evD)) (inferInstanceAs (Decidable (_ ∨ _))) (plc es od e k) (k + 1) := rfl
          rw [U176_121]
          by_cases c : bef (es.getD e evD) (es.getD (od.getD k 0) evD)
          · rw [if_pos c] at pl
            have c' : ¬ bz ((es.getD e evD).2.2.1 < (es.getD (od.getD k 0) evD).2.2.1 ∨ ((es.getD e evD).2.2.1 = (es.getD (od.getD k 0) evD).2.2.1 ∧ (es.getD e evD).1 < (es.getD (od.getD k 0) evD).1)) = Int32.ofNat 0 := by rw [bz_0]; exact fun z => z c
            simp (disch := omega) only [U176_122, U176_125, U176_126, U176_127, U176_128, U176_131, U176_132, U176_133, U176_134, U176_135, U176_138, U176_141, U176_142, U176_145, U176_146, U176_147, U176_150, U176_151, U176_152, U176_153, U176_154, U176_155, U176_158, z_kd_sI, z_ln_sI, z_gI_sI, z_gJ_sI, z_gP_sI, z_nx_sI, z_rc_sI, z_rs_sI, z_em_sI, z_mi_sI, z_kd_sJ, z_ln_sJ, z_gI_sJ, z_gJ_sJ, z_gP_sJ, z_nx_sJ, z_rc_sJ, z_rs_sJ, z_em_sJ, z_mi_sJ, z_kd_sP, z_ln_sP, z_gI_sP, z_gJ_sP, z_gP_sP, z_nx_sP, z_rc_sP, z_rs_sP, z_em_sP, z_mi_sP, z_kd_nw, z_ln_nw, z_gI_nw, z_gJ_nw, z_gP_nw, z_nx_nw, z_rc_nw, z_rs_nw, z_em_nw, z_mi_nw, z_kd_cI, z_ln_cI, z_gI_cI, z_gJ_cI, z_gP_cI, z_nx_cI, z_rc_cI, z_rs_cI, z_em_cI, z_mi_cI, z_kd_cP, z_ln_cP, z_gI_cP, z_gJ_cP, z_gP_cP, z_nx_cP, z_rc_cP, z_rs_cP, z_em_cP, z_mi_cP, z_kd_wI, z_ln_wI, z_gI_wI, z_gJ_wI, z_gP_wI, z_nx_wI, z_rc_wI, z_rs_wI, z_em_wI, z_mi_wI, z_kd_wJ, z_ln_wJ, z_gI_wJ, z_gJ_wJ, z_gP_wJ, z_nx_wJ, z_rc_wJ, z_rs_wJ, z_em_wJ, z_mi_wJ, Z0.1, mp33 Z0, mk25 Z0, mn25 Z0, show 0 < k + 1 by omega, Nat.add_sub_cancel, g, bf, V163, c', show k < 2900 by omega, show k + 1 < 2900 by omega, i_add, i_mul, i_sub, i_addn, i_lt, i_eq, i_idx, i_vp, true_and, and_true, false_and, and_false, if_true, if_false, Nat.reduceAdd, Nat.reduceMul, Nat.reduceSub, Nat.reduceEqDiff, Option.some.injEq, exists_eq_left', true_or, or_true, false_or, or_false, not_true_eq_false, not_false_eq_true, eq_self, and_self, Nat.reduceLeDiff, decide_true, decide_false, ne_eq, Nat.left_eq_add, Nat.add_eq_left, Nat.add_left_cancel_iff, Nat.add_zero]
            refine ihk _ (by omega) (f3.sI rfl) (fun i hi => ?_) (fun i h1 h2 => ?_) (hp.trans pl)
            · rw [z_gI_sI, if_neg (by omega)]; exact A i (by omega)
            · rw [z_gI_sI]
              by_cases hik : i = k + 1
              · rw [if_pos ⟨rfl, hik⟩, hik, Nat.add_sub_cancel]
              · rw [if_neg (by omega)]; exact B i (by omega) h2
          · rw [if_neg c] at pl
            have c' : bz ((es.getD e evD).2.2.1 < (es.getD (od.getD k 0) evD).2.2.1 ∨ ((es.getD e evD).2.2.1 = (es.getD (od.getD k 0) evD).2.2.1 ∧ (es.getD e evD).1 < (es.getD (od.getD k 0) evD).1)) = Int32.ofNat 0 := by rw [bz_0]; exact c
            simp (disch := omega) only [U176_122, U176_125, U176_126, U176_127, U176_128, U176_131, U176_132, U176_133, U176_134, U176_135, U176_138, Z0.1, mp33 Z0, mk25 Z0, mn25 Z0, show 0 < k + 1 by omega, Nat.add_sub_cancel, g, bf, V163, c', show k < 2900 by omega, i_add, i_mul, i_sub, i_addn, i_lt, i_eq, i_idx, i_vp, true_and, and_true, false_and, and_false, if_true, if_false, Nat.reduceAdd, Nat.reduceMul, Nat.reduceSub, Nat.reduceEqDiff, Option.some.injEq, exists_eq_left', true_or, or_true, false_or, or_false, not_true_eq_false, not_false_eq_true, eq_self, and_self, Nat.reduceLeDiff, decide_true, decide_false, ne_eq, Nat.left_eq_add, Nat.add_eq_left, Nat.add_left_cancel_iff, Nat.add_zero]
            exact fin (k + 1) h3 hk f3 A B (hp.trans pl)
      have R := st h2 f
      have Y0 := X0.fz R.1
      rw [U176_111]
      simp (disch := omega) only [U176_112, U176_113, U176_116, U176_119, U176_120, Y0.1, R.2.2.2.1, show e < es.length by omega, i_add, i_mul, i_sub, i_addn, i_lt, i_eq, i_idx, i_vp, true_and, and_true, false_and, and_false, if_true, if_false, Nat.reduceAdd, Nat.reduceMul, Nat.reduceSub, Nat.reduceEqDiff, Option.some.injEq, exists_eq_left', true_or, or_true, false_or, or_false, not_true_eq_false, not_false_eq_true, eq_self, and_self, Nat.reduceLeDiff, decide_true, decide_false, ne_eq, Nat.left_eq_add, Nat.add_eq_left, Nat.add_left_cancel_iff, Nat.add_zero]
      exact inner e h2 (Nat.le_refl _) f hL (fun i h1 h2 => by omega) (by rw [o1])
  exact key es.length 0 hh y (by omega) Fz.rfl' (fun k hk => absurd hk (Nat.not_lt_zero _))
end
