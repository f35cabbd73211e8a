/-! ===== the class: site, all; open ===== -/
section
variable {h h' : MH_} {x B C n : Nat} {tx : List Nat} {si : List (List Tok)} {nm : Nat → List Nat} {ar : List Arg} {wr : Nat → Wr} {fl : List Nat} {du : Nat} {cu : Bool} {es : List Ev} {br : Nat} {tm : List Tm}
theorem EL_site (E : EL h x (B + 20) (C + 20000) tx si nm ar wr fl du cu es br tm) : Wp 134 0 [.ref x, .null, .null, .null] [] h (PS h x B C tx si nm ar wr fl du cu es br tm) := by
  have k1 : kd_ h x = 12 := by obtain ⟨t1, t2, a1, a2, d, sA, fs, pl, pr, sr, nA, H, -⟩ := E; exact H.1
  simp (disch := omega) only [U134_0, U134_1, U134_4, k1, i_add, i_mul, i_sub, i_addn, i_lt, i_eq, i_idx, i_vp, true_and, and_true, false_and, and_false, if_true, if_false, Nat.reduceAdd, Nat.reduceMul, Nat.reduceSub, Nat.reduceEqDiff, Option.some.injEq, exists_eq_left', true_or, or_true, false_or, or_false, not_true_eq_false, not_false_eq_true, eq_self, and_self, Nat.reduceLeDiff, decide_true, decide_false, ne_eq, Nat.left_eq_add, Nat.add_eq_left, Nat.add_left_cancel_iff, Nat.add_zero]
  refine Wp_use (EL_takeTyped E) ?_
  rintro v h1 ⟨u, rfl, hu, rt, f1, E1⟩
  have hx := E1.nx
  obtain ⟨t1, t2, a1, a2, d, sA, fs, pl, pr, sr, nA, H, Tt, R, P, F, Bq, I, Qq, N, L⟩ := E1
  have H' := H
  obtain ⟨k1', ⟨g0, g1, g2, g3, g4⟩, ⟨g5, g6, g7, g8, g9, g10, g11, g12⟩, ⟨g13, g14, g15⟩⟩ := H
  obtain ⟨v1, sp, v2⟩ := L.1.2.2.2.2
  have b3 := L.2.1.2.2.2.1.1
  have ht2 := rt.2.2.2.2.2.1
  simp (disch := omega) only [V137, U134_4, U134_5, U134_6, U134_9, U134_10, k1', g4, v1.1, i_add, i_mul, i_sub, i_addn, i_lt, i_eq, i_idx, i_vp, true_and, and_true, false_and, and_false, if_true, if_false, Nat.reduceAdd, Nat.reduceMul, Nat.reduceSub, Nat.reduceEqDiff, Option.some.injEq, exists_eq_left', true_or, or_true, false_or, or_false, not_true_eq_false, not_false_eq_true, eq_self, and_self, Nat.reduceLeDiff, decide_true, decide_false, ne_eq, Nat.left_eq_add, Nat.add_eq_left, Nat.add_left_cancel_iff, Nat.add_zero]
  refine Wp_use (Format_faultIn v1 v2 rt (by omega)) ?_
  rintro v h2 ⟨f2, ⟨sp2, r2⟩, z⟩
  have sa : ∀ a i, SA d a i → d ≤ a ∧ a < d + 6 := by unfold SA SF SR; intro a i z; omega
  have zz : ∀ a i, (a < x + 13 ∧ x ≤ a) ∨ (x + 19 ≤ a ∧ a < x + 104) → ¬ SA d a i := fun a i y w => by have := sa a i w; omega
  have g := f2.fb
  have L2 := L.dr f2 r2
  have hx2 : x + 104 ≤ nx_ h2 := by rw [f2.nx]; exact hx
  have H2 : XH h2 x t1 t2 a1 a2 d := H'.fb g hx (fun a i z => zz a i (by omega))
  have N2 : XN h2 x nA d fs pl := N.fb g hx (fun a i z => by
    rcases z with z | z
    · exact zz a i (by omega)
    · intro w
      have := sa a i w
      have := N.2.2.2.2.1
      omega)
  have rt2 : Rw h2 u 200 tx := rt.fz f2 (fun a i y => zz a i (by unfold SR at y; omega))
  have E2 : EL h2 x (B + 20) (C + 20000) [] si nm ar wr fl du cu es br tm := ⟨t1, t2, a1, a2, d, sA, fs, pl, pr, sr, nA, H2, Tt.fb g hx (fun a i z => zz a i (by omega)), R.fb g hx (fun a i z => zz a i (by omega)), P.fb g hx (fun a i z => zz a i (by omega)), F.fb g hx (fun a i z => zz a i (by omega)), Bq.fb g hx (fun a i z => zz a i (by omega)), I.fb g hx (fun a i z => zz a i (by omega)), Qq.fb g hx (fun a i z => zz a i (by omega)), N2, L2⟩
  have f12 : Fy (fun a _ => (x ≤ a ∧ a < x + 71) ∨ x + 104 ≤ a) h h2 := (f1.mono (fun a i z => by omega)).trans (f2.fy.mono (fun a i z => by have := sa a i z; omega))
  have hS : ∀ a i, (fun (a _ : Nat) => (x ≤ a ∧ a < x + 71) ∨ x + 104 ≤ a) a i → SX x a i := fun a i z => z
  have rm := E2.room
  unfold PS
  cases hfm : fm tx 0 0 with
  | inl q =>
    rw [hfm] at z
    subst z
    have hq := fm_lt tx.length tx (Nat.le_refl _) 0 0 q hfm
    simp (disch := omega) only [V29, U134_13, U134_14, U134_15, U134_18, U134_19, U134_20, U134_21, U134_22, show ¬ q < 0 by omega, i_add, i_mul, i_sub, i_addn, i_lt, i_eq, i_idx, i_vp, true_and, and_true, false_and, and_false, if_true, if_false, Nat.reduceAdd, Nat.reduceMul, Nat.reduceSub, Nat.reduceEqDiff, Option.some.injEq, exists_eq_left', true_or, or_true, false_or, or_false, not_true_eq_false, not_false_eq_true, eq_self, and_self, Nat.reduceLeDiff, decide_true, decide_false, ne_eq, Nat.left_eq_add, Nat.add_eq_left, Nat.add_left_cancel_iff, Nat.add_zero]
    exact PZ.tr f12 hS _ _ E2.ret
  | inr ts =>
    rw [hfm] at z
    obtain ⟨rfl, fc2, rw2⟩ := z
    rw [List.nil_append] at fc2
    obtain ⟨es1, es2⟩ := fm_ok tx.length tx (Nat.le_refl _) 0 0 ts hfm
    have fo2 : Fo h2 d ts := ⟨v1.fz f2, fc2, by rw [es1]; exact rw2⟩
    obtain ⟨k1'', ⟨g0', g1', g2', g3', g4'⟩, ⟨g5', g6', g7', g8', g9', g10', g11', g12'⟩, ⟨g13', g14', g15'⟩⟩ := H2
    have sl := L2.1.2.1.2.2
    have ss := L2.1.2.2.1
    have hl40 : fs.length ≤ 40 := by rw [ss.1]; exact ss.2.1
    have hs40 := ss.2.1
    have key : ∀ n k, k + n = si.length → Wp 134 25 [.ref x, .ref u, .int (-(Int32.ofNat 1)), .int (Int32.ofNat k)] [] h2 (match fdS tx (si.drop k) k with
        | some k => PZ h x B C (.inl (.int (Int32.ofNat k))) [] si nm ar wr fl du cu es br tm
        | none => if si.length = 40 then PZ h x B C (.inr 20) [] si nm ar wr fl du cu es br tm else PZ h x B C (.inl (.int (Int32.ofNat si.length))) [] (si ++ [ts]) nm ar wr fl du cu es br tm) := by
      intro n
      induction n with
      | zero =>
        intro k hk
        rw [List.drop_of_length_le (by omega)]
        simp only [fdS]
        rw [U134_25]
        by_cases h40 : si.length = 40
        · rw [if_pos h40]
          simp (disch := omega) only [U134_26, U134_27, U134_30, U134_33, U134_36, U134_37, U134_40, U134_41, U134_44, U134_47, U134_48, U134_51, U134_54, U134_55, U134_56, U134_59, U134_62, U134_63, U134_66, U134_69, U134_71, U134_74, U134_77, k1'', g5', sl.1, AL_size sl, V219, show ¬ k < fs.length by have := ss.1; omega, show ¬ fs.length < 40 by have := ss.1; omega, show 1 ≤ rc_ h2 by omega, show 6 ≤ rs_ h2 by omega, i_add, i_mul, i_sub, i_addn, i_lt, i_eq, i_idx, i_vp, true_and, and_true, false_and, and_false, if_true, if_false, Nat.reduceAdd, Nat.reduceMul, Nat.reduceSub, Nat.reduceEqDiff, Option.some.injEq, exists_eq_left', true_or, or_true, false_or, or_false, not_true_eq_false, not_false_eq_true, eq_self, and_self, Nat.reduceLeDiff, decide_true, decide_false, ne_eq, Nat.left_eq_add, Nat.add_eq_left, Nat.add_left_cancel_iff, Nat.add_zero]
          exact PZ.tr f12 hS _ _ E2.thr
        · rw [if_neg h40]
          simp (disch := omega) only [U134_26, U134_27, U134_30, U134_33, U134_36, U134_37, U134_40, U134_41, U134_44, U134_47, U134_48, U134_51, U134_54, U134_55, U134_56, U134_59, U134_62, U134_63, U134_66, U134_69, U134_71, U134_74, U134_77, k1'', g5', sl.1, AL_size sl, V219, show ¬ k < fs.length by have := ss.1; omega, show fs.length < 40 by have := ss.1; omega, i_add, i_mul, i_sub, i_addn, i_lt, i_eq, i_idx, i_vp, true_and, and_true, false_and, and_false, if_true, if_false, Nat.reduceAdd, Nat.reduceMul, Nat.reduceSub, Nat.reduceEqDiff, Option.some.injEq, exists_eq_left', true_or, or_true, false_or, or_false, not_true_eq_false, not_false_eq_true, eq_self, and_self, Nat.reduceLeDiff, decide_true, decide_false, ne_eq, Nat.left_eq_add, Nat.add_eq_left, Nat.add_left_cancel_iff, Nat.add_zero]
          refine Wp_use (site_new hx2 ⟨k1'', ⟨g0', g1', g2', g3', g4'⟩, ⟨g5', g6', g7', g8', g9', g10', g11', g12'⟩, ⟨g13', g14', g15'⟩⟩ (Tt.fb g hx (fun a i z => zz a i (by omega))) (R.fb g hx (fun a i z => zz a i (by omega))) (P.fb g hx (fun a i z => zz a i (by omega))) (F.fb g hx (fun a i z => zz a i (by omega))) (Bq.fb g hx (fun a i z => zz a i (by omega))) (I.fb g hx (fun a i z => zz a i (by omega))) (Qq.fb g hx (fun a i z => zz a i (by omega))) N2 L2 fo2 es2 (by have := ss.1; omega) (y1 := .null)) ?_
          intro v h3 z
          exact PZ.tr f12 hS _ _ z
      | succ n ih =>
        intro k hk
        have hkl : k < fs.length := by have := ss.1; omega
        have hks : k < si.length := by omega
        obtain ⟨fo, ok⟩ := ss.2.2 k fs[k] si[k] (List.getElem?_eq_getElem hkl) (List.getElem?_eq_getElem hks)
        rw [List.drop_eq_getElem_cons hks]
        simp only [fdS]
        rw [U134_25]
        by_cases hsp : spell si[k] = tx
        · rw [if_pos hsp]
          simp (disch := omega) only [U134_26, U134_27, U134_30, U134_33, U134_36, U134_37, U134_40, U134_41, U134_44, U134_47, U134_48, U134_51, U134_54, U134_55, U134_56, U134_59, k1'', g5', sl.1, AL_size sl, V219, hkl, AL_get sl hkl, V215, fo.1.1, Format_isSpelled fo rt2, V31, bz_0, hsp, i_add, i_mul, i_sub, i_addn, i_lt, i_eq, i_idx, i_vp, true_and, and_true, false_and, and_false, if_true, if_false, Nat.reduceAdd, Nat.reduceMul, Nat.reduceSub, Nat.reduceEqDiff, Option.some.injEq, exists_eq_left', true_or, or_true, false_or, or_false, not_true_eq_false, not_false_eq_true, eq_self, and_self, Nat.reduceLeDiff, decide_true, decide_false, ne_eq, Nat.left_eq_add, Nat.add_eq_left, Nat.add_left_cancel_iff, Nat.add_zero]
          exact PZ.tr f12 hS _ _ E2.ret
        · rw [if_neg hsp]
          simp (disch := omega) only [U134_26, U134_27, U134_30, U134_33, U134_36, U134_37, U134_40, U134_41, U134_44, U134_47, U134_48, U134_51, U134_54, U134_55, U134_56, U134_59, k1'', g5', sl.1, AL_size sl, V219, hkl, AL_get sl hkl, V215, fo.1.1, Format_isSpelled fo rt2, V31, bz_0, hsp, i_add, i_mul, i_sub, i_addn, i_lt, i_eq, i_idx, i_vp, true_and, and_true, false_and, and_false, if_true, if_false, Nat.reduceAdd, Nat.reduceMul, Nat.reduceSub, Nat.reduceEqDiff, Option.some.injEq, exists_eq_left', true_or, or_true, false_or, or_false, not_true_eq_false, not_false_eq_true, eq_self, and_self, Nat.reduceLeDiff, decide_true, decide_false, ne_eq, Nat.left_eq_add, Nat.add_eq_left, Nat.add_left_cancel_iff, Nat.add_zero]
          exact ih (k + 1) (by omega)
    have hneg : -(Int32.ofNat 1) < Int32.ofNat 0 := by decide
    simp (disch := omega) only [V29, U134_13, U134_14, U134_15, U134_18, U134_19, U134_20, U134_21, U134_22, U134_23, U134_24, hneg, i_add, i_mul, i_sub, i_addn, i_lt, i_eq, i_idx, i_vp, true_and, and_true, false_and, and_false, if_true, if_false, Nat.reduceAdd, Nat.reduceMul, Nat.reduceSub, Nat.reduceEqDiff, Option.some.injEq, exists_eq_left', true_or, or_true, false_or, or_false, not_true_eq_false, not_false_eq_true, eq_self, and_self, Nat.reduceLeDiff, decide_true, decide_false, ne_eq, Nat.left_eq_add, Nat.add_eq_left, Nat.add_left_cancel_iff, Nat.add_zero]
    exact key si.length 0 (by omega)
theorem open_zone {sA d pr sr : Nat} {fs pl : List Nat} (L : XL h x sA d fs si pl pr sr es br B C) : ∀ a i, (x ≤ a ∧ a < x + 26) ∨ (x + 31 ≤ a ∧ a < x + 104) → ¬ RX h (x + 26) pr sr pl a i := by
  obtain ⟨-, ⟨-, b1, -, -, ⟨b6, b7, -⟩⟩, -⟩ := L
  rintro a i z (w | w | w | ⟨e, he, w⟩)
  · omega
  · rcases b6 with y | y <;> omega
  · rcases b7 with y | y <;> omega
  · have := (b1 e he).1; omega
theorem open_nk {pr sr : Nat} {pl : List Nat} : ∀ a i, ¬ (x + 26 ≤ a ∧ a < x + 31) → kd_ h a ≠ 34 → (∀ e ∈ pl, a < e ∨ e + 4 ≤ a) → ¬ RX h (x + 26) pr sr pl a i := by
  rintro a i z1 z2 z3 (w | w | w | ⟨e, he, w⟩)
  · exact z1 w
  · exact z2 w.2
  · exact z2 w.2
  · have := z3 e he; omega
theorem open_dr {sA d pr sr : Nat} {fs pl : List Nat} (L : XL h x sA d fs si pl pr sr es br B C) (g : Fb (RX h (x + 26) pr sr pl) h h') : Ag d 6 h h' := by
  obtain ⟨⟨-, -, -, ⟨e1, -⟩, ⟨v1, sp, v2⟩⟩, ⟨-, -, -, ⟨b3, b4, -⟩, -⟩, -⟩ := L
  refine Fb.ag g b4 (fun a i z w => ?_)
  have c := dr_cell v1 v2 z w
  refine open_nk a i ?_ ?_ (fun e he => ?_)
  · clear c; omega
  · clear b3; omega
  · have := (e1 e he).dr v1 v2; clear c b3; omega
theorem open_XN {sA d pr sr nA : Nat} {fs pl pl' : List Nat} (hx : x + 104 ≤ nx_ h) (N : XN h x nA d fs pl) (L : XL h x sA d fs si pl pr sr es br B C) (g : Fb (RX h (x + 26) pr sr pl) h h') (o1 : ∀ e ∈ pl', e ∈ pl ∨ nx_ h ≤ e) : XN h' x nA d fs pl' := by
  have Z := open_zone L
  obtain ⟨⟨S, ns⟩, y1, y2, y3, y4, y5⟩ := N
  have knA := ns.1.2.2.1
  have nx1 := g.1
  have g1 : Ag (x + 53) 1 h h' := g.ag (by omega) (fun a i z w => Z a i (by omega))
  have g2 : Ag nA 1 h h' := by
    refine g.ag (by omega) (fun a i z w => ?_)
    obtain rfl : a = nA := by omega
    refine open_nk a i (by omega) (by omega) (fun e he => by have := y2 e he; omega)
  refine ⟨⟨S, ns.ag g1 g2⟩, y1, fun e he => ?_, y3, y4, by omega⟩
  rcases o1 e he with w | w
  · exact y2 e w
  · omega
theorem open_XL {sA d pr sr pr' sr' br' : Nat} {fs pl pl' : List Nat} {es' : List Ev} (L : XL h x sA d fs si pl pr sr es br (B + 20) (C + 20000)) (bd' : Bd h h' (x + 26) (x + 23 + 1) (x + 19) sA pr sr fl fs pl si pl' pr' (soO pl' (odA es')) sr') (rt' : Rt h' (B + 20) (C + 20000) pl' pr' sr') (P' : Pv h' pl' es') (u' : gI_ h' (x + 26) 3 = Int32.ofNat es'.length) (b' : gI_ h' (x + 26) 4 = Int32.ofNat br') : XL h' x sA d fs si pl' pr' sr' es' br' B C := by
  have gd := open_dr L bd'.2.2.2.2.2.2.2.2.2
  obtain ⟨⟨⟨l1', l2', l3', l4'⟩, u1', u2', u3', u4'⟩, ⟨p1', p2', p3'⟩, ⟨F2', r2'⟩, ⟨e1', e2'⟩, -, ⟨c1, c2, c3⟩, ⟨d1', d2', d3'⟩, ⟨o1, o2, o3⟩, q1', g⟩ := bd'
  obtain ⟨⟨-, -, -, -, ⟨v1, sp, v2⟩⟩, ⟨⟨n1, n2, n3, n4⟩, b1, b2, ⟨b3, b4, b5⟩, ⟨b6, b7, b8⟩⟩, -, -, -, -, q3⟩ := L
  have nx1 := g.1
  have kd : ∀ a, a < nx_ h → kd_ h' a = kd_ h a := fun a ha => (g.2.1 a ha).1
  refine ⟨⟨⟨⟨l1', l2', l3', l4'⟩, ⟨u1', u2', u3', u4'⟩⟩, ⟨p1', p2', p3'⟩, r2', ⟨e1', e2'⟩, ⟨v1.ag gd, sp, v2.ag (gd.sub (by omega) (by omega))⟩⟩, ⟨⟨Nat.le_trans n1 nx1, Nat.lt_of_lt_of_le n2 nx1, c1, c2⟩, fun e he => ⟨?_, c3 e he⟩, fun f hf => ⟨(b2 f hf).1, Nat.le_trans (b2 f hf).2 nx1⟩, ⟨b3, Nat.le_trans b4 nx1, b5⟩, ⟨?_, ?_, by rw [kd sA n2]; exact b8⟩⟩, ⟨d1', d2', d3'⟩, P', ⟨u', b'⟩, ?_, by rw [(g.2.1 sA n2).2]; exact q3⟩
  · rcases o1 e he with w | w
    · exact (b1 e w).1
    · exact Nat.le_trans n1 w
  · rcases o2 with rfl | w
    · rw [kd pr' n3]; exact b6
    · exact Or.inr (Nat.le_trans n1 w)
  · rcases o3 with rfl | w
    · rw [kd sr' n4]; exact b7
    · exact Or.inr (Nat.le_trans n1 w)
  · obtain ⟨⟨w1, w2, w3⟩, w4⟩ := rt'
    clear b3 b6 b7 b8 b5
    exact ⟨⟨by omega, by omega, w3⟩, w4⟩
theorem open_Bd {sA d pr sr : Nat} {fs pl : List Nat} (L : XL h x sA d fs si pl pr sr es br B C) (F2 : Rw h (x + 23 + 1) 6144 fl) : Bd h h (x + 26) (x + 23 + 1) (x + 19) sA pr sr fl fs pl si pl pr (soO pl (odA es)) sr := by
  obtain ⟨⟨⟨⟨l1, l2, l3, l4⟩, u1, u2, u3, u4⟩, ⟨p1, p2, p3⟩, r2, ⟨e1, e2⟩, ⟨v1, sp, v2⟩⟩, ⟨⟨n1, n2, n3, n4⟩, b1, b2, -, -⟩, ⟨d1, d2, d3⟩, Pq, ⟨q1, q2⟩, rt, q3⟩ := L
  refine ⟨⟨⟨l1, l2, l3, l4⟩, u1, u2, u3, u4⟩, ⟨p1, p2, p3⟩, ⟨F2, r2⟩, ⟨e1, e2⟩, ⟨by omega, by omega, by omega, n2, fun f hf => (b2 f hf).2⟩, ⟨n3, n4, fun e he => (b1 e he).2⟩, ⟨d1, d2, d3⟩, ⟨fun e he => Or.inl he, Or.inl rfl, Or.inl rfl⟩, fun y hy => ?_, Fb.rfl'⟩
  unfold soO at hy
  obtain ⟨i, hi, rfl⟩ := List.mem_map.mp hy
  have := (odA_inv es).2.2 i hi
  rw [gD_in (by have := Pq.1; omega)]
  exact List.getElem_mem _
theorem open_SX {sA d pr sr : Nat} {fs pl : List Nat} (L : XL h x sA d fs si pl pr sr es br B C) : ∀ a i, RX h (x + 26) pr sr pl a i → SX x a i := by
  obtain ⟨-, ⟨-, b1, -, -, ⟨b6, b7, -⟩⟩, -⟩ := L
  rintro a i (w | w | w | ⟨e, he, w⟩)
  · exact Or.inl (by omega)
  · rcases b6 with y | y
    · have q := w.2; rw [w.1] at q; omega
    · exact Or.inr (by omega)
  · rcases b7 with y | y
    · have q := w.2; rw [w.1] at q; omega
    · exact Or.inr (by omega)
  · exact Or.inr (by have := (b1 e he).1; omega)
theorem EL_open (E : EL h x (B + 20) (C + 20000) tx si nm ar wr fl du cu es br tm) : Wp 131 0 [.ref x] [] h (PZ h x B C (.inl (.int (Int32.ofNat (rdA si fl).1.length))) tx si nm ar wr fl du cu (rdA si fl).1 (rdA si fl).2 tm) := by
  have hx := E.nx
  obtain ⟨t1, t2, a1, a2, d, sA, fs, pl, pr, sr, nA, H, Tt, R, P, F, Bq, I, Qq, N, L⟩ := E
  have H' := H
  have F' := F
  obtain ⟨k1, -, ⟨g5, g6, g7, g8, g9, g10, g11, g12⟩, -⟩ := H
  obtain ⟨F1, F2, -⟩ := F
  have l1 := L.1.1.1.1
  have Z := open_zone L
  simp (disch := omega) only [U131_0, U131_1, U131_4, U131_5, U131_8, U131_11, U131_12, U131_15, k1, g5, g8, g9, F1.1, F1.2, l1, U60_0, U60_1, U60_4, V60, i_add, i_mul, i_sub, i_addn, i_lt, i_eq, i_idx, i_vp, true_and, and_true, false_and, and_false, if_true, if_false, Nat.reduceAdd, Nat.reduceMul, Nat.reduceSub, Nat.reduceEqDiff, Option.some.injEq, exists_eq_left', true_or, or_true, false_or, or_false, not_true_eq_false, not_false_eq_true, eq_self, and_self, Nat.reduceLeDiff, decide_true, decide_false, ne_eq, Nat.left_eq_add, Nat.add_eq_left, Nat.add_left_cancel_iff, Nat.add_zero]
  refine Wp_use (Lines_read (B := B + 20) (C := C + 20000) (open_Bd L F2) L.2.2.2.2.2.1) ?_
  rintro v h1 ⟨rfl, pl', pr', sr', bd', rt', P', u', br'⟩
  have g := bd'.2.2.2.2.2.2.2.2.2
  have p2' := bd'.2.1.2.1
  have l1' := bd'.1.1.1
  have l3' := bd'.1.1.2.2.1
  have len1 : (soO pl' (odA (rdA si fl).1)).length = (rdA si fl).1.length := by unfold soO; rw [List.length_map]; exact (odA_inv _).1
  have kx1 : kd_ h1 x = 12 := by rw [(g.2.1 x (by omega)).1, k1]
  have gx9 : gP_ h1 x 9 = some (x + 26) := by rw [(g.2.2.2 x 9 (by omega) (Z _ _ (by omega))).2.2, g9]
  simp (disch := omega) only [V49, U131_18, U131_19, U131_22, U131_25, kx1, gx9, l1', l3', p2'.1, U46_0, U46_1, U46_4, U46_7, V46, AL_size p2', V219, len1, i_add, i_mul, i_sub, i_addn, i_lt, i_eq, i_idx, i_vp, true_and, and_true, false_and, and_false, if_true, if_false, Nat.reduceAdd, Nat.reduceMul, Nat.reduceSub, Nat.reduceEqDiff, Option.some.injEq, exists_eq_left', true_or, or_true, false_or, or_false, not_true_eq_false, not_false_eq_true, eq_self, and_self, Nat.reduceLeDiff, decide_true, decide_false, ne_eq, Nat.left_eq_add, Nat.add_eq_left, Nat.add_left_cancel_iff, Nat.add_zero]
  exact ⟨rfl, g.mono (fun a i _ => open_SX L a i), t1, t2, a1, a2, d, sA, fs, pl', pr', sr', nA, H'.fb g hx (fun a i z => Z a i (by omega)), Tt.fb g hx (fun a i z => Z a i (by omega)), R.fb g hx (fun a i z => Z a i (by omega)), P.fb g hx (fun a i z => Z a i (by omega)), F'.fb g hx (fun a i z => Z a i (by omega)), Bq.fb g hx (fun a i z => Z a i (by omega)), I.fb g hx (fun a i z => Z a i (by omega)), Qq.fb g hx (fun a i z => Z a i (by omega)), open_XN hx N L g bd'.2.2.2.2.2.2.2.1.1, open_XL L bd' rt' P' u' br'⟩
end
