/-! ===== Lines: read ===== -/
theorem AL_clear_e {h : MH_} {a arr : Nat} (hl : Al h a arr []) : Wp 213 0 [.ref a, .null, .null, .null] [] h (fun v h' => v = .inl .null ∧ Al h' a arr [] ∧ Fy (fun b i => b = a ∧ (i = 0 ∨ i = 2)) h h') := by
  obtain ⟨a1, a2, a3, a4⟩ := hl
  rw [List.length_nil] at a3
  simp (disch := omega) only [U213_0, U213_1, U213_2, U213_5, U213_6, U213_7, U213_10, U213_11, U213_14, U213_15, U213_16, U213_19, U213_20, U213_21, U213_22, U213_23, U213_26, U213_28, U213_29, U213_32, U213_33, U213_34, U213_35, U213_36, U213_39, U213_42, z_kd_sI, z_ln_sI, z_gI_sI, z_gJ_sI, z_gP_sI, z_nx_sI, z_rc_sI, z_rs_sI, z_em_sI, z_mi_sI, z_kd_sJ, z_ln_sJ, z_gI_sJ, z_gJ_sJ, z_gP_sJ, z_nx_sJ, z_rc_sJ, z_rs_sJ, z_em_sJ, z_mi_sJ, z_kd_sP, z_ln_sP, z_gI_sP, z_gJ_sP, z_gP_sP, z_nx_sP, z_rc_sP, z_rs_sP, z_em_sP, z_mi_sP, z_kd_nw, z_ln_nw, z_gI_nw, z_gJ_nw, z_gP_nw, z_nx_nw, z_rc_nw, z_rs_nw, z_em_nw, z_mi_nw, z_kd_cI, z_ln_cI, z_gI_cI, z_gJ_cI, z_gP_cI, z_nx_cI, z_rc_cI, z_rs_cI, z_em_cI, z_mi_cI, z_kd_cP, z_ln_cP, z_gI_cP, z_gJ_cP, z_gP_cP, z_nx_cP, z_rc_cP, z_rs_cP, z_em_cP, z_mi_cP, z_kd_wI, z_ln_wI, z_gI_wI, z_gJ_wI, z_gP_wI, z_nx_wI, z_rc_wI, z_rs_wI, z_em_wI, z_mi_wI, z_kd_wJ, z_ln_wJ, z_gI_wJ, z_gJ_wJ, z_gP_wJ, z_nx_wJ, z_rc_wJ, z_rs_wJ, z_em_wJ, z_mi_wJ, a1, a2, a3, i_add, i_mul, i_sub, i_addn, i_lt, i_eq, i_idx, i_vp, true_and, and_true, false_and, and_false, if_true, if_false, Nat.reduceAdd, Nat.reduceMul, Nat.reduceSub, Nat.reduceEqDiff, Option.some.injEq, exists_eq_left', true_or, or_true, false_or, or_false, not_true_eq_false, not_false_eq_true, eq_self, and_self, Nat.reduceLeDiff, decide_true, decide_false, ne_eq, Nat.left_eq_add, Nat.add_eq_left, Nat.add_left_cancel_iff, Nat.add_zero]
  rw [U213_27]
  simp (disch := omega) only [U213_0, U213_1, U213_2, U213_5, U213_6, U213_7, U213_10, U213_11, U213_14, U213_15, U213_16, U213_19, U213_20, U213_21, U213_22, U213_23, U213_26, U213_28, U213_29, U213_32, U213_33, U213_34, U213_35, U213_36, U213_39, U213_42, show ¬ (0 : Nat) < 0 by omega, i_add, i_mul, i_sub, i_addn, i_lt, i_eq, i_idx, i_vp, true_and, and_true, false_and, and_false, if_true, if_false, Nat.reduceAdd, Nat.reduceMul, Nat.reduceSub, Nat.reduceEqDiff, Option.some.injEq, exists_eq_left', true_or, or_true, false_or, or_false, not_true_eq_false, not_false_eq_true, eq_self, and_self, Nat.reduceLeDiff, decide_true, decide_false, ne_eq, Nat.left_eq_add, Nat.add_eq_left, Nat.add_left_cancel_iff, Nat.add_zero]
  have f : Fz (fun b i => b = a ∧ (i = 0 ∨ i = 2)) h (sI_ (sI_ h a 0 (gI_ h a 0 + Int32.ofNat 1)) a 2 (Int32.ofNat 0)) := (Fz.rfl'.sI ⟨rfl, Or.inl rfl⟩).sI ⟨rfl, Or.inr rfl⟩
  exact ⟨⟨a1, a2, by rw [z_gI_sI, if_pos ⟨rfl, rfl⟩]; rfl, a4⟩, f.fy⟩
theorem AL_clear' {h : MH_} {a arr : Nat} {xs : List Nat} (hl : Al h a arr xs) : Wp 213 0 [.ref a, .null, .null, .null] [] h (fun v h' => v = .inl .null ∧ Al h' a arr [] ∧ Fy (fun b i => b = a ∨ (b = arr ∧ kd_ h arr = 34)) h h') := by
  rcases hl.2.2.2 with ⟨rfl, -⟩ | ⟨b1, -⟩
  · refine Wp_use (AL_clear_e hl) ?_
    rintro _ h1 ⟨rfl, x, f⟩
    exact ⟨rfl, x, f.mono (fun b i z => Or.inl z.1)⟩
  · refine Wp_use (AL_clear hl hl.ne) ?_
    rintro _ h1 ⟨rfl, x, f⟩
    exact ⟨rfl, x, f.mono (fun b i z => z.elim (fun y => Or.inl y.1) (fun y => Or.inr ⟨y, b1⟩))⟩
section
variable {h0 : MH_} {l fr sl sA pr0 sr0 B C : Nat} {fl fs pl0 : List Nat} {si : List (List Tok)}
theorem Rt.fy {h h' : MH_} {pl : List Nat} {pr sr : Nat} {S : Nat → Nat → Prop} (r : Rt h B C pl pr sr) (f : Fy S h h') : Rt h' B C pl pr sr := by
  unfold Rt
  rw [f.ln]
  exact ⟨r.1.fy f, r.2⟩
def PR (h0 : MH_) (l fr sl sA pr0 sr0 B C : Nat) (fl fs pl0 : List Nat) (si : List (List Tok)) (res : List Ev × Nat) : Rs_ → MH_ → Prop := fun v h' => v = .inl .null ∧ ∃ pl' pr' sr', Bd h0 h' l fr sl sA pr0 sr0 fl fs pl0 si pl' pr' (soO pl' (odA res.1)) sr' ∧ Rt h' B C pl' pr' sr' ∧ Pv h' pl' res.1 ∧ gI_ h' l 3 = Int32.ofNat res.1.length ∧ gI_ h' l 4 = Int32.ofNat res.2
theorem soO_app {pl mo od : List Nat} (h : ∀ i ∈ od, i < pl.length) : soO (pl ++ mo) od = soO pl od := by
  unfold soO
  apply List.map_congr_left
  intro i hi
  exact gD_app (h i hi)
theorem read_loop : ∀ n m acc br pl pr sr h y, m ≤ 24 → fl.length ≤ 256 * (m + n) → (n ≠ 0 → 256 * (m + n) < fl.length + 256) → acc.length ≤ 119 * m → (∀ x ∈ acc, okL si x) → Bd h0 h l fr sl sA pr0 sr0 fl fs pl0 si pl pr (soO pl (odA acc)) sr → Rt h B C pl pr sr → Pv h pl acc → gI_ h l 3 = Int32.ofNat acc.length → gI_ h l 4 = Int32.ofNat br →
    Wp 49 19 [.ref l, .ref fr, .ref sl, .int (Int32.ofNat (256 * m)), y] [] h (PR h0 l fr sl sA pr0 sr0 B C fl fs pl0 si (rFl si fl n (256 * m) acc br)) := by
  intro n
  induction n with
  | zero =>
    intro m acc br pl pr sr h y hm24 hn hn2 hlen hok b rt hP hu hbr
    have r1 := b.2.2.1.1
    have hfl := r1.2.2.2.2.2.1
    have hc := r1.2.2.2.2.1
    rw [U49_19]
    simp (disch := omega) only [U49_0, U49_1, U49_4, U49_7, U49_8, U49_9, U49_12, U49_13, U49_14, U49_17, U49_18, U49_20, U49_21, U49_24, U49_27, U49_28, U49_31, U49_33, U49_34, U49_35, U49_36, U49_37, U49_40, U49_43, U49_44, U49_46, U49_49, U49_52, U49_53, U49_55, U49_58, U49_59, U49_60, U49_63, U49_64, U49_65, U49_68, U49_74, U49_77, r1.1, Row_held r1, V89, show ¬ 256 * m < fl.length by omega, i_add, i_mul, i_sub, i_addn, i_lt, i_eq, i_idx, i_vp, true_and, and_true, false_and, and_false, if_true, if_false, Nat.reduceAdd, Nat.reduceMul, Nat.reduceSub, Nat.reduceEqDiff, Option.some.injEq, exists_eq_left', true_or, or_true, false_or, or_false, not_true_eq_false, not_false_eq_true, eq_self, and_self, Nat.reduceLeDiff, decide_true, decide_false, ne_eq, Nat.left_eq_add, Nat.add_eq_left, Nat.add_left_cancel_iff, Nat.add_zero]
    exact ⟨rfl, pl, pr, sr, b, rt, hP, hu, hbr⟩
  | succ n ih =>
    intro m acc br pl pr sr h y hm24 hn hn2 hlen hok b rt hP hu hbr
    have hn2 := hn2 (by omega)
    have b' := b
    obtain ⟨⟨⟨k1, k2, k3, k4⟩, u1, u2, u3, u4⟩, ⟨p1, p2, p3⟩, ⟨r1, r2⟩, ⟨e1, e2⟩, ⟨b1, b2, b3, b4, b5⟩, ⟨c1, c2, c3⟩, ⟨d1, d2, d3⟩, ⟨g1, g2, g3⟩, q1, q2⟩ := b
    have hfl := r1.2.2.2.2.2.1
    obtain ⟨o1, o2, o3⟩ := odA_inv acc
    rw [U49_19]
    simp (disch := omega) only [U49_0, U49_1, U49_4, U49_7, U49_8, U49_9, U49_12, U49_13, U49_14, U49_17, U49_18, U49_20, U49_21, U49_24, U49_27, U49_28, U49_31, U49_33, U49_34, U49_35, U49_36, U49_37, U49_40, U49_43, U49_44, U49_46, U49_49, U49_52, U49_53, U49_55, U49_58, U49_59, U49_60, U49_63, U49_64, U49_65, U49_68, U49_74, U49_77, k1, r1.1, Row_held r1, V89, hu, show 256 * m < fl.length by omega, i_add, i_mul, i_sub, i_addn, i_lt, i_eq, i_idx, i_vp, true_and, and_true, false_and, and_false, if_true, if_false, Nat.reduceAdd, Nat.reduceMul, Nat.reduceSub, Nat.reduceEqDiff, Option.some.injEq, exists_eq_left', true_or, or_true, false_or, or_false, not_true_eq_false, not_false_eq_true, eq_self, and_self, Nat.reduceLeDiff, decide_true, decide_false, ne_eq, Nat.left_eq_add, Nat.add_eq_left, Nat.add_left_cancel_iff, Nat.add_zero]
    refine Wp_use (Lines_readsBlock b' rt.1 hu hbr hP (by omega) (by omega)) ?_
    rintro v h1 ⟨pl1, pr1, bb, rm1, br1, ⟨L1, mo, hmo⟩, z⟩
    have hsub : ∀ i ∈ odA acc, i < pl.length := fun i hi => by have := o3 i hi; have := hP.1; omega
    have so1 : soO pl1 (odA acc) = soO pl (odA acc) := by rw [hmo]; exact soO_app hsub
    rw [← so1] at bb
    have rt1 : Rt h1 B C pl1 pr1 sr := by unfold Rt; rw [L1]; exact ⟨rm1, rt.2⟩
    have kl1 := bb.1.1.1
    cases hres : rB si fl acc (256 * m) with
    | none =>
      rw [hres] at z
      obtain ⟨rfl, P1⟩ := z
      rw [show rFl si fl (n + 1) (256 * m) acc br = rFl si fl n (256 * (m + 1)) acc (br + 1) by simp only [rFl, hres]; rw [show 256 * m + 256 = 256 * (m + 1) by omega]]
      have f2 : Fz (fun a i => a = l ∧ (i = 3 ∨ i = 4)) h1 (sI_ (sI_ h1 l 3 (Int32.ofNat acc.length)) l 4 (gI_ (sI_ h1 l 3 (Int32.ofNat acc.length)) l 4 + Int32.ofNat 1)) := (Fz.rfl'.sI ⟨rfl, Or.inl rfl⟩).sI ⟨rfl, Or.inr rfl⟩
      have e4 : gI_ (sI_ h1 l 3 (Int32.ofNat acc.length)) l 4 = Int32.ofNat br := by rw [z_gI_sI, if_neg (by omega), br1]
      rw [e4, i_add] at f2
      simp (disch := omega) only [V50, U49_0, U49_1, U49_4, U49_7, U49_8, U49_9, U49_12, U49_13, U49_14, U49_17, U49_18, U49_20, U49_21, U49_24, U49_27, U49_28, U49_31, U49_33, U49_34, U49_35, U49_36, U49_37, U49_40, U49_43, U49_44, U49_46, U49_49, U49_52, U49_53, U49_55, U49_58, U49_59, U49_60, U49_63, U49_64, U49_65, U49_68, U49_74, U49_77, z_kd_sI, kl1, e4, i_add, i_mul, i_sub, i_addn, i_lt, i_eq, i_idx, i_vp, true_and, and_true, false_and, and_false, if_true, if_false, Nat.reduceAdd, Nat.reduceMul, Nat.reduceSub, Nat.reduceEqDiff, Option.some.injEq, exists_eq_left', true_or, or_true, false_or, or_false, not_true_eq_false, not_false_eq_true, eq_self, and_self, Nat.reduceLeDiff, decide_true, decide_false, ne_eq, Nat.left_eq_add, Nat.add_eq_left, Nat.add_left_cancel_iff, Nat.add_zero]
      rw [show 256 * m + 256 = 256 * (m + 1) by omega]
      have bb2 := bb.fy f2.fy (fun a i z => Or.inl ⟨z.1, by omega⟩)
      refine ih (m + 1) acc (br + 1) pl1 pr1 sr _ _ (by omega) (by omega) (by omega) (by omega) hok bb2 (rt1.fy f2.fy) (P1.step f2.fb bb.2.2.2.2.2.1.2.2 ?_) ?_ ?_
      · intro i e hi he a j z1 z2 z
        have c := (bb.2.2.2.1.1 e (List.mem_of_getElem? he)).cell z1 z2
        rw [z.1] at c
        omega
      · rw [z_gI_sI, if_neg (by omega), z_gI_sI, if_pos ⟨rfl, rfl⟩]
      · rw [z_gI_sI, if_pos ⟨rfl, rfl⟩]
    | some es =>
      rw [hres] at z
      obtain ⟨rfl, P1, hu1⟩ := z
      obtain ⟨more, m1, m2, m3⟩ := rB_inv hres
      subst m1
      rw [show rFl si fl (n + 1) (256 * m) acc br = rFl si fl n (256 * (m + 1)) (acc ++ more) br by simp only [rFl, hres]; rw [show 256 * m + 256 = 256 * (m + 1) by omega]]
      have hok2 : ∀ x ∈ acc ++ more, okL si x := fun x hx => (List.mem_append.mp hx).elim (hok x) (m3 x)
      have hl2 : (acc ++ more).length = acc.length + more.length := List.length_append
      simp (disch := omega) only [V50, U49_0, U49_1, U49_4, U49_7, U49_8, U49_9, U49_12, U49_13, U49_14, U49_17, U49_18, U49_20, U49_21, U49_24, U49_27, U49_28, U49_31, U49_33, U49_34, U49_35, U49_36, U49_37, U49_40, U49_43, U49_44, U49_46, U49_49, U49_52, U49_53, U49_55, U49_58, U49_59, U49_60, U49_63, U49_64, U49_65, U49_68, U49_74, U49_77, kl1, show ¬ (1 : Nat) = 0 by omega, i_add, i_mul, i_sub, i_addn, i_lt, i_eq, i_idx, i_vp, true_and, and_true, false_and, and_false, if_true, if_false, Nat.reduceAdd, Nat.reduceMul, Nat.reduceSub, Nat.reduceEqDiff, Option.some.injEq, exists_eq_left', true_or, or_true, false_or, or_false, not_true_eq_false, not_false_eq_true, eq_self, and_self, Nat.reduceLeDiff, decide_true, decide_false, ne_eq, Nat.left_eq_add, Nat.add_eq_left, Nat.add_left_cancel_iff, Nat.add_zero]
      have S := sortIn_loop (h0 := h0) (l := l) (fr := fr) (sl := sl) (sA := sA) (pr0 := pr0) (sr0 := sr0) (B := B) (C := C) (fl := fl) (fs := fs) (pl0 := pl0) (pl := pl1) (si := si) (es := acc ++ more) (pr := pr1) (fun x hx => ⟨(hok2 x hx).1, (hok2 x hx).2.1⟩) (by omega) (fi := Int32.ofNat acc.length) (br := Int32.ofNat br) more.length acc.length (odA acc) h1 sr .null (by omega) o1 bb rt1 P1 hu1 br1 (srt_app o3 o2) (fun i hi => by have := o3 i hi; omega)
      rw [← odA_app] at S
      have S' : Wp 51 0 [.ref l, .int (Int32.ofNat acc.length), .null, .null] [] h1 (PO h0 l fr sl sA pr0 sr0 B C fl fs pl0 pl1 si (acc ++ more) pr1 (Int32.ofNat br) (odA (acc ++ more))) := by
        simp (disch := omega) only [U51_0, U51_1, U51_3, U51_4, U51_7, U51_10, U51_11, U51_14, U51_15, U51_18, U51_21, U51_22, U51_23, U51_26, U51_27, U51_28, U51_31, U51_32, U51_35, U51_38, U51_41, i_add, i_mul, i_sub, i_addn, i_lt, i_eq, i_idx, i_vp, true_and, and_true, false_and, and_false, if_true, if_false, Nat.reduceAdd, Nat.reduceMul, Nat.reduceSub, Nat.reduceEqDiff, Option.some.injEq, exists_eq_left', true_or, or_true, false_or, or_false, not_true_eq_false, not_false_eq_true, eq_self, and_self, Nat.reduceLeDiff, decide_true, decide_false, ne_eq, Nat.left_eq_add, Nat.add_eq_left, Nat.add_left_cancel_iff, Nat.add_zero]
        exact S
      refine Wp_use S' ?_
      rintro v h2 ⟨rfl, sr2, bb2, rt2, P2, hu2, br2⟩
      simp (disch := omega) only [V51, U49_0, U49_1, U49_4, U49_7, U49_8, U49_9, U49_12, U49_13, U49_14, U49_17, U49_18, U49_20, U49_21, U49_24, U49_27, U49_28, U49_31, U49_33, U49_34, U49_35, U49_36, U49_37, U49_40, U49_43, U49_44, U49_46, U49_49, U49_52, U49_53, U49_55, U49_58, U49_59, U49_60, U49_63, U49_64, U49_65, U49_68, U49_74, U49_77, i_add, i_mul, i_sub, i_addn, i_lt, i_eq, i_idx, i_vp, true_and, and_true, false_and, and_false, if_true, if_false, Nat.reduceAdd, Nat.reduceMul, Nat.reduceSub, Nat.reduceEqDiff, Option.some.injEq, exists_eq_left', true_or, or_true, false_or, or_false, not_true_eq_false, not_false_eq_true, eq_self, and_self, Nat.reduceLeDiff, decide_true, decide_false, ne_eq, Nat.left_eq_add, Nat.add_eq_left, Nat.add_left_cancel_iff, Nat.add_zero]
      rw [show 256 * m + 256 = 256 * (m + 1) by omega]
      exact ih (m + 1) (acc ++ more) br pl1 pr1 sr2 h2 _ (by omega) (by omega) (by omega) (by omega) hok2 bb2 rt2 P2 hu2 br2
theorem Bd.clear {h h1 : MH_} {pl so : List Nat} {pr sr : Nat} (b : Bd h0 h l fr sl sA pr0 sr0 fl fs pl0 si pl pr so sr) (F : Fy (fun b i => b = l + 2 ∨ (b = sr ∧ kd_ h sr = 34)) h h1) (hl : Al h1 (l + 2) sr []) : Bd h0 h1 l fr sl sA pr0 sr0 fl fs pl0 si pl pr [] sr := by
  obtain ⟨x1, x2, x3, x4, x5, x6⟩ := b.stat F.fb (fun a i z => by
    rcases z with z | z
    · exact Or.inr (Or.inr (Or.inl z))
    · exact Or.inr (Or.inr (Or.inr (Or.inr (Or.inr (Or.inr (Or.inl z)))))))
  obtain ⟨⟨⟨k1, k2, k3, k4⟩, u1, u2, u3, u4⟩, ⟨p1, p2, p3⟩, ⟨r1, r2⟩, ⟨e1, e2⟩, ⟨b1, b2, b3, b4, b5⟩, ⟨c1, c2, c3⟩, ⟨d1, d2, d3⟩, ⟨g1, g2, g3⟩, q1, q2⟩ := b
  have n0 := q2.1
  have j1 := p1.1
  have j2 := p2.1
  have kp := p1.kd
  have nF : ∀ (a i : Nat), (kd_ h a ≠ 14 ∧ kd_ h a ≠ 34) → ¬ (a = l + 2 ∨ (a = sr ∧ kd_ h sr = 34)) := by
    rintro a i hk (z | ⟨z, w⟩)
    · rw [z] at hk; omega
    · rw [z] at hk; omega
  have p1' : Al h1 (l + 1) pr pl := by
    refine p1.ag F.2.2.1.2.2.2.1 (F.ag ?_) (F.ag ?_)
    · rintro a i z1 z2 (z | ⟨z, w⟩)
      · omega
      · rw [← z, show a = l + 1 by omega] at w; omega
    · rintro a i z1 z2 (z | ⟨z, w⟩)
      · rw [← show a = pr by omega, z] at kp; omega
      · have := d1 (by omega); rw [show pr = sr by omega] at this; omega
  have nx1 := F.2.2.1.1
  exact ⟨⟨x1, x2⟩, ⟨p1', hl, x3⟩, ⟨x4, x5⟩, ⟨fun e he => (e1 e he).ag (F.ag (fun a i z1 z2 => nF a i (by have := (e1 e he).cell z1 z2; omega))), e2⟩, ⟨b1, b2, b3, b4, b5⟩, ⟨by omega, by omega, fun e he => by have := c3 e he; omega⟩, ⟨by rw [F.kd]; exact d1, by rw [F.kd]; exact d2, by rw [F.kd]; exact d3⟩, ⟨g1, g2, g3⟩, fun x hx => absurd hx List.not_mem_nil, x6⟩
def rdA (si : List (List Tok)) (fl : List Nat) : List Ev × Nat := rFl si fl ((fl.length + 255) / 256) 0 [] 0
theorem Lines_read {h : MH_} {pl so : List Nat} {pr sr : Nat} (b : Bd h0 h l fr sl sA pr0 sr0 fl fs pl0 si pl pr so sr) (rt : Rt h B C pl pr sr) : Wp 49 0 [.ref l, .ref fr, .ref sl, .null, .null] [] h (PR h0 l fr sl sA pr0 sr0 B C fl fs pl0 si (rdA si fl)) := by
  have k1 := b.1.1.1
  have k3 := b.1.1.2.2.1
  have p2 := b.2.1.2.1
  have hfl := b.2.2.1.1.2.2.2.2.2.1
  simp (disch := omega) only [U49_0, U49_1, U49_4, U49_7, U49_8, U49_9, U49_12, U49_13, U49_14, U49_17, U49_18, U49_20, U49_21, U49_24, U49_27, U49_28, U49_31, U49_33, U49_34, U49_35, U49_36, U49_37, U49_40, U49_43, U49_44, U49_46, U49_49, U49_52, U49_53, U49_55, U49_58, U49_59, U49_60, U49_63, U49_64, U49_65, U49_68, U49_74, U49_77, k1, k3, p2.1, i_add, i_mul, i_sub, i_addn, i_lt, i_eq, i_idx, i_vp, true_and, and_true, false_and, and_false, if_true, if_false, Nat.reduceAdd, Nat.reduceMul, Nat.reduceSub, Nat.reduceEqDiff, Option.some.injEq, exists_eq_left', true_or, or_true, false_or, or_false, not_true_eq_false, not_false_eq_true, eq_self, and_self, Nat.reduceLeDiff, decide_true, decide_false, ne_eq, Nat.left_eq_add, Nat.add_eq_left, Nat.add_left_cancel_iff, Nat.add_zero]
  refine Wp_use (AL_clear' p2) ?_
  rintro _ h1 ⟨rfl, p2', f1⟩
  have b1 := b.clear f1 p2'
  have rt1 := rt.fy f1
  have f2 : Fz (fun a i => a = l ∧ (i = 3 ∨ i = 4)) h1 (sI_ (sI_ h1 l 3 (Int32.ofNat 0)) l 4 (Int32.ofNat 0)) := (Fz.rfl'.sI ⟨rfl, Or.inl rfl⟩).sI ⟨rfl, Or.inr rfl⟩
  simp (disch := omega) only [V213, U49_0, U49_1, U49_4, U49_7, U49_8, U49_9, U49_12, U49_13, U49_14, U49_17, U49_18, U49_20, U49_21, U49_24, U49_27, U49_28, U49_31, U49_33, U49_34, U49_35, U49_36, U49_37, U49_40, U49_43, U49_44, U49_46, U49_49, U49_52, U49_53, U49_55, U49_58, U49_59, U49_60, U49_63, U49_64, U49_65, U49_68, U49_74, U49_77, z_kd_sI, b1.1.1.1, i_add, i_mul, i_sub, i_addn, i_lt, i_eq, i_idx, i_vp, true_and, and_true, false_and, and_false, if_true, if_false, Nat.reduceAdd, Nat.reduceMul, Nat.reduceSub, Nat.reduceEqDiff, Option.some.injEq, exists_eq_left', true_or, or_true, false_or, or_false, not_true_eq_false, not_false_eq_true, eq_self, and_self, Nat.reduceLeDiff, decide_true, decide_false, ne_eq, Nat.left_eq_add, Nat.add_eq_left, Nat.add_left_cancel_iff, Nat.add_zero]
  exact read_loop ((fl.length + 255) / 256) 0 [] 0 pl pr sr _ _ (by omega) (by omega) (by omega) (by simp) (fun x hx => absurd hx List.not_mem_nil) (b1.fy f2.fy (fun a i z => Or.inl ⟨z.1, by omega⟩)) (rt1.fy f2.fy) ⟨Nat.zero_le _, fun i e x h1 h2 => by cases h2⟩ (by rw [z_gI_sI, if_neg (by omega), z_gI_sI, if_pos ⟨rfl, rfl⟩]; rfl) (by rw [z_gI_sI, if_pos ⟨rfl, rfl⟩])
end
