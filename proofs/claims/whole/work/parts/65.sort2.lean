/-! ===== Lines: sortIn ===== -/
def odF (es : List Ev) : Nat → Nat → List Nat → List Nat
  | 0, _, od => od
  | n + 1, k, od => odF es n (k + 1) (insO es od k)
/-- room for pool and sorted list -/
def Rt (h : MH_) (B C : Nat) (pl : List Nat) (pr sr : Nat) : Prop := Rm h (B + (10000 - ln_ h sr)) (C + 4 * (10000 - ln_ h sr)) pl pr ∧ ln_ h sr ≤ 9000
theorem ins_mem {xs : List Nat} {i x y : Nat} (h : y ∈ ins xs i x) : y = x ∨ y ∈ xs := by
  unfold ins at h
  rcases List.mem_append.mp h with h | h
  · exact Or.inr (List.mem_of_mem_take h)
  · rcases List.mem_cons.mp h with h | h
    · exact Or.inl h
    · exact Or.inr (List.mem_of_mem_drop h)
theorem soO_ins {pl od : List Nat} {i x : Nat} : soO pl (ins od i x) = ins (soO pl od) i (pl.getD x 0) := by
  unfold soO ins
  rw [List.map_append, List.map_cons, List.map_take, List.map_drop]
section
variable {h0 : MH_} {l fr sl sA pr0 sr0 B C : Nat} {fl fs pl0 pl : List Nat} {si : List (List Tok)} {es : List Ev} {pr : Nat}
def PO (h0 : MH_) (l fr sl sA pr0 sr0 B C : Nat) (fl fs pl0 pl : List Nat) (si : List (List Tok)) (es : List Ev) (pr : Nat) (br : Int32) (od : List Nat) : Rs_ → MH_ → Prop := fun v h' => v = .inl .null ∧ ∃ sr', Bd h0 h' l fr sl sA pr0 sr0 fl fs pl0 si pl pr (soO pl od) sr' ∧ Rt h' B C pl pr sr' ∧ Pv h' pl es ∧ gI_ h' l 3 = Int32.ofNat es.length ∧ gI_ h' l 4 = br
theorem sortIn_loop (ok : okEs es) (hmax : es.length < 6000) {fi br : Int32} : ∀ n k od h sr y, k + n = es.length → od.length = k → Bd h0 h l fr sl sA pr0 sr0 fl fs pl0 si pl pr (soO pl od) sr → Rt h B C pl pr sr → Pv h pl es → gI_ h l 3 = Int32.ofNat es.length → gI_ h l 4 = br → srt es od → (∀ i ∈ od, i < es.length) →
    Wp 51 2 [.ref l, .int fi, .int (Int32.ofNat k), y] [] h (PO h0 l fr sl sA pr0 sr0 B C fl fs pl0 pl si es pr br (odF es n k od)) := by
  intro n
  induction n with
  | zero =>
    intro k od h sr y hk hod b rt hP hu hbr hs ho
    have k1 := b.1.1.1
    rw [U51_2]
    simp (disch := omega) only [U51_0, U51_1, U51_3, U51_4, U51_7, U51_10, U51_11, U51_14, U51_15, U51_18, U51_21, U51_22, U51_23, U51_26, U51_27, U51_28, U51_31, U51_32, U51_35, U51_38, U51_41, k1, hu, show ¬ k < es.length by omega, i_add, i_mul, i_sub, i_addn, i_lt, i_eq, i_idx, i_vp, true_and, and_true, false_and, and_false, if_true, if_false, Nat.reduceAdd, Nat.reduceMul, Nat.reduceSub, Nat.reduceEqDiff, Option.some.injEq, exists_eq_left', true_or, or_true, false_or, or_false, not_true_eq_false, not_false_eq_true, eq_self, and_self, Nat.reduceLeDiff, decide_true, decide_false, ne_eq, Nat.left_eq_add, Nat.add_eq_left, Nat.add_left_cancel_iff, Nat.add_zero]
    exact ⟨rfl, sr, b, rt, hP, hu, hbr⟩
  | succ n ih =>
    intro k od h sr y hk hod b rt hP hu hbr hs ho
    have b' := b
    obtain ⟨⟨⟨k1, k2, k3, k4⟩, u1, u2, u3, u4⟩, ⟨p1, p2, p3⟩, ⟨r1, r2⟩, ⟨e1, e2⟩, ⟨b1, b2, b3, b4, b5⟩, ⟨c1, c2, c3⟩, ⟨d1, d2, d3⟩, ⟨g1, g2, g3⟩, q1, q2⟩ := b
    have n0 := q2.1
    have hlen : (soO pl od).length = od.length := by unfold soO; rw [List.length_map]
    have hkl : k < pl.length := by have := hP.1; omega
    have eg : pl[k] = pl.getD k 0 := (gD_in hkl).symm
    have hm : pl.getD k 0 ∈ pl := by rw [← eg]; exact List.getElem_mem hkl
    have es1 := e1 _ hm
    have cb := c3 _ hm
    obtain ⟨s1, s2, s3⟩ := plc_spec (e := k) hs od.length (Nat.le_refl _)
    rw [U51_2]
    simp (disch := omega) only [U51_0, U51_1, U51_3, U51_4, U51_7, U51_10, U51_11, U51_14, U51_15, U51_18, U51_21, U51_22, U51_23, U51_26, U51_27, U51_28, U51_31, U51_32, U51_35, U51_38, U51_41, k1, k2, k3, hu, show k < es.length by omega, p1.1, p2.1, AL_get p1 hkl, V215, eg, es1.1, i_add, i_mul, i_sub, i_addn, i_lt, i_eq, i_idx, i_vp, true_and, and_true, false_and, and_false, if_true, if_false, Nat.reduceAdd, Nat.reduceMul, Nat.reduceSub, Nat.reduceEqDiff, Option.some.injEq, exists_eq_left', true_or, or_true, false_or, or_false, not_true_eq_false, not_false_eq_true, eq_self, and_self, Nat.reduceLeDiff, decide_true, decide_false, ne_eq, Nat.left_eq_add, Nat.add_eq_left, Nat.add_left_cancel_iff, Nat.add_zero]
    refine Lines_placeOf b' hP ok hs ho (by omega) ?_
    simp (disch := omega) only [V48, U51_0, U51_1, U51_3, U51_4, U51_7, U51_10, U51_11, U51_14, U51_15, U51_18, U51_21, U51_22, U51_23, U51_26, U51_27, U51_28, U51_31, U51_32, U51_35, U51_38, U51_41, p2.1, i_add, i_mul, i_sub, i_addn, i_lt, i_eq, i_idx, i_vp, true_and, and_true, false_and, and_false, if_true, if_false, Nat.reduceAdd, Nat.reduceMul, Nat.reduceSub, Nat.reduceEqDiff, Option.some.injEq, exists_eq_left', true_or, or_true, false_or, or_false, not_true_eq_false, not_false_eq_true, eq_self, and_self, Nat.reduceLeDiff, decide_true, decide_false, ne_eq, Nat.left_eq_add, Nat.add_eq_left, Nat.add_left_cancel_iff, Nat.add_zero]
    have gr : grw (ln_ h sr) ≤ 13500 := by have := rt.2; unfold grw; split <;> omega
    have plo := p_lo (n := pl.length) (l := ln_ h pr)
    obtain ⟨⟨m1, m2, m3⟩, m4⟩ := rt
    refine Wp_use (AL_addAt p2 (i := plc es od k od.length) (x := pl.getD k 0) (by omega) ⟨by rw [es1.1]; omega, by rw [es1.1]; omega, by omega⟩ (fun x hx => ⟨by have := c3 x (q1 x hx); omega, by rw [(e1 x (q1 x hx)).1]; omega, by rw [(e1 x (q1 x hx)).1]; omega⟩) (by omega) (by omega) (by omega) (by omega) (by omega)) ?_
    rintro _ h1 ⟨rfl, sr', hl1, hc⟩
    have j1 := p1.1
    have j2 := p2.1
    have ks := p2.kd
    have kp := p1.kd
    have X : Fb (fun b i => b = l + 2 ∨ (b = sr ∧ kd_ h sr = 34)) h h1 ∧ sr' < nx_ h1 ∧ Rt h1 B C pl pr sr' ∧ (sr' = sr ∨ nx_ h ≤ sr') := by
      rcases hc with ⟨rfl, x2, x3⟩ | ⟨rfl, x2, x3, x4, x5⟩
      · have r1 := x3.2.2.1.2.1
        have r2 := x3.2.2.1.2.2.1
        have r0 := x3.2.2.1.1
        refine ⟨x3.fb.mono (fun a i _ z => ?_), by omega, ?_, Or.inl rfl⟩
        · rcases z with z | z
          · exact Or.inl z.1
          · exact Or.inr ⟨z, x2⟩
        · unfold Rt Rm
          rw [x3.2.1, x3.2.1, r1, r2]
          exact ⟨⟨m1, m2, m3⟩, m4⟩
      · have r1 := x5.2.2.2.1
        have r2 := x5.2.2.2.2.1
        have lp : ln_ h1 pr = ln_ h pr := x5.2.2.1 pr c1
        have q := grw_le (n := ln_ h sr) (by omega)
        have hln := p2.ln
        refine ⟨x5.fb.mono (fun a i _ z => Or.inl z), by omega, ?_, Or.inr (by omega)⟩
        unfold Rt Rm
        rw [x4, lp]
        generalize pC pl.length (ln_ h pr) = P1 at *
        generalize pS pl.length (ln_ h pr) = P2 at *
        generalize grw (ln_ h sr) = G at *
        omega
    clear hc
    obtain ⟨F, X1, X2, X3⟩ := X
    obtain ⟨x1, x2, x3, x4, x5, x6⟩ := b'.stat F (fun a i z => by
      rcases z with z | z
      · exact Or.inr (Or.inr (Or.inl z))
      · exact Or.inr (Or.inr (Or.inr (Or.inr (Or.inr (Or.inr (Or.inl z)))))))
    have nF : ∀ (a i : Nat), (kd_ h a ≠ 14 ∧ kd_ h a ≠ 34) → ¬ (a = l + 2 ∨ (a = sr ∧ kd_ h sr = 34)) := by
      rintro a i hk (z | ⟨z, w⟩)
      · rw [z] at hk; omega
      · rw [z] at hk; omega
    have nx1 := F.1
    have E1 : ∀ e ∈ pl, Ag e 4 h h1 := fun e he => F.ag (c3 e he) (fun a i z1 z2 => nF a i (by have := (e1 e he).cell z1 z2; omega))
    have kl : kd_ h l = 4 := k1
    have gl : ∀ i, gI_ h1 l i = gI_ h l i := fun i => (F.2.2.2 l i (by omega) (nF l i (by omega))).1
    have D : ∀ x, x < nx_ h → (sr = x → kd_ h sr = 38) → sr' = x → kd_ h1 sr' = 38 := by
      intro x hx hd hx2
      rcases X3 with rfl | X3
      · rw [(F.2.1 sr' c2).1]; exact hd hx2
      · omega
    have p1' : Al h1 (l + 1) pr pl := by
      refine p1.ag F.2.2.1.1 (F.ag (by omega) ?_) (F.ag (by omega) ?_)
      · rintro a i z1 z2 (z | ⟨z, w⟩)
        · omega
        · rw [← z, show a = l + 1 by omega] at w; omega
      · rintro a i z1 z2 (z | ⟨z, w⟩)
        · rw [← show a = pr by omega, z] at kp; omega
        · have := d1 (by omega); rw [show pr = sr by omega] at this; omega
    have B1 : Bd h0 h1 l fr sl sA pr0 sr0 fl fs pl0 si pl pr (soO pl (insO es od k)) sr' := by
      refine ⟨⟨x1, x2⟩, ⟨p1', by unfold insO; rw [soO_ins]; exact hl1, x3⟩, ⟨x4, x5⟩, ⟨fun e he => (e1 e he).ag (E1 e he), e2⟩, ⟨b1, b2, b3, b4, b5⟩, ⟨by omega, X1, fun e he => by have := c3 e he; omega⟩, ⟨fun z => ?_, fun z => by rw [(F.2.1 pr c1).1]; exact d2 z, D sA (by omega) d3⟩, ⟨g1, g2, ?_⟩, ?_, x6⟩
      · rw [z]
        exact D pr c1 (fun y => by rw [y]; exact d1 y.symm) z.symm
      · rcases X3 with rfl | X3
        · exact g3
        · right; omega
      · intro x hx
        unfold insO at hx
        rw [soO_ins] at hx
        rcases ins_mem hx with rfl | hx
        · exact hm
        · exact q1 x hx
    have P1 : Pv h1 pl es := hP.step F c3 (fun i e hi he a j z1 z2 => nF a j (by have := (e1 e (List.mem_of_getElem? he)).cell z1 z2; omega))
    simp (disch := omega) only [V210, U51_0, U51_1, U51_3, U51_4, U51_7, U51_10, U51_11, U51_14, U51_15, U51_18, U51_21, U51_22, U51_23, U51_26, U51_27, U51_28, U51_31, U51_32, U51_35, U51_38, U51_41, i_add, i_mul, i_sub, i_addn, i_lt, i_eq, i_idx, i_vp, true_and, and_true, false_and, and_false, if_true, if_false, Nat.reduceAdd, Nat.reduceMul, Nat.reduceSub, Nat.reduceEqDiff, Option.some.injEq, exists_eq_left', true_or, or_true, false_or, or_false, not_true_eq_false, not_false_eq_true, eq_self, and_self, Nat.reduceLeDiff, decide_true, decide_false, ne_eq, Nat.left_eq_add, Nat.add_eq_left, Nat.add_left_cancel_iff, Nat.add_zero]
    exact ih (k + 1) (insO es od k) h1 sr' _ (by omega) (by unfold insO; rw [ins_len s1]; omega) B1 X2 P1 (by rw [gl, hu]) (by rw [gl, hbr]) (srt_ins hs) (fun i hi => by
      rcases ins_mem hi with rfl | hi
      · omega
      · exact ho i hi)
end
