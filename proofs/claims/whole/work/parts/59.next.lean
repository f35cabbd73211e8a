/-! ===== Lines: the next event ===== -/
def LH (h : MH_) (l : Nat) : Prop := kd_ h l = 4 ∧ gP_ h l 0 = some (l + 1) ∧ gP_ h l 1 = some (l + 2) ∧ gP_ h l 2 = some (l + 3)
/-- room that the pool needs: cells, slots -/
def pC (n ln : Nat) : Nat := 4 * (6000 - n) + (10000 - ln) + 10
def pS (n ln : Nat) : Nat := 115 * (6000 - n) + 4 * (10000 - ln) + 20000
theorem grw_le {n : Nat} (h : n ≤ 6000) : grw n ≤ 9000 ∧ n < grw n ∧ grw n + 4 * (10000 - grw n) ≤ 4 * (10000 - n) ∨ (0 < n ∧ n < 10) := by
  unfold grw
  split
  · omega
  · by_cases h10 : n < 10
    · right; omega
    · left
      have : max 1 (n / 2) = n / 2 := by omega
      rw [this]
      omega
theorem p_same {n l : Nat} (h : n < 6000) : pC (n + 1) l + 4 ≤ pC n l ∧ pS (n + 1) l + 115 ≤ pS n l := by
  obtain ⟨m, hm⟩ : ∃ m, 6000 - n = m + 1 := ⟨6000 - n - 1, by omega⟩
  have h2 : 6000 - (n + 1) = m := by omega
  unfold pC pS
  rw [hm, h2]
  omega
theorem p_grow {n l : Nat} (h : n < 6000) (hl : l = 0 ∨ 10 ≤ l) (h6 : l ≤ 6000) : pC (n + 1) (grw l) + 5 ≤ pC n l ∧ pS (n + 1) (grw l) + 115 + grw l ≤ pS n l ∧ grw l ≤ 9000 := by
  obtain ⟨m, hm⟩ : ∃ m, 6000 - n = m + 1 := ⟨6000 - n - 1, by omega⟩
  have h2 : 6000 - (n + 1) = m := by omega
  have q := grw_le h6
  unfold pC pS
  rw [hm, h2]
  generalize grw l = g at *
  omega
theorem p_lo {n l : Nat} : 10 ≤ pC n l ∧ 20000 ≤ pS n l := by unfold pC pS; omega
theorem Al.ln {h : MH_} {a arr : Nat} {xs : List Nat} (hl : Al h a arr xs) : ln_ h arr = 0 ∨ 10 ≤ ln_ h arr := by
  rcases hl.2.2.2 with ⟨-, -, -, b4⟩ | ⟨-, b2, -⟩
  · exact Or.inl b4
  · exact Or.inr b2
def PX (h : MH_) (l pr n B C : Nat) (pl : List Nat) : Rs_ → MH_ → Prop := fun v h' => ∃ (e : Nat) (pl' : List Nat) (pr' : Nat), v = .inl (.ref e) ∧ pl'[n]? = some e ∧ Al h' (l + 1) pr' pl' ∧ gI_ h' l 3 = Int32.ofNat (n + 1) ∧ (∀ e ∈ pl', Es h' e) ∧ (∀ e ∈ pl', e + 4 ≤ nx_ h') ∧ pr' < nx_ h' ∧ B + pC pl'.length (ln_ h' pr') ≤ rc_ h' ∧ C + pS pl'.length (ln_ h' pr') ≤ rs_ h' ∧ ln_ h' pr' ≤ 9000 ∧ (pr' = pr ∨ nx_ h ≤ pr') ∧ Fb (fun b i => (b = l ∧ i = 3) ∨ b = l + 1 ∨ (b = pr ∧ kd_ h pr = 34)) h h' ∧
      (pl' = pl ∨ (n = pl.length ∧ pl' = pl ++ [e] ∧ nx_ h ≤ e))
theorem Lines_nextEvent {h : MH_} {l pr n B C : Nat} {pl : List Nat} (hl : LH h l) (hp : Al h (l + 1) pr pl) (hE : ∀ e ∈ pl, Es h e) (hu : gI_ h l 3 = Int32.ofNat n) (hn : n ≤ pl.length) (hn2 : n < 6000) (hb : l + 3 ≤ nx_ h) (hpr : pr < nx_ h) (hpb : ∀ e ∈ pl, e + 4 ≤ nx_ h) (hr : B + pC pl.length (ln_ h pr) ≤ rc_ h) (hs : C + pS pl.length (ln_ h pr) ≤ rs_ h) (hll : ln_ h pr ≤ 9000) :
    Wp 47 0 [.ref l] [] h (PX h l pr n B C pl) := by
  obtain ⟨k1, k2, k3, k4⟩ := hl
  have hpl := hp.len
  by_cases hlt : n < pl.length
  · have f1 : Fz (fun b i => b = l ∧ i = 3) h (sI_ h l 3 (Int32.ofNat (n + 1))) := Fz.rfl'.sI ⟨rfl, rfl⟩
    have hp1 := hp.fz f1 (by omega)
    have hm : pl[n] ∈ pl := List.getElem_mem hlt
    have g3 : gI_ (sI_ h l 3 (Int32.ofNat (n + 1))) l 3 = Int32.ofNat (n + 1) := by rw [z_gI_sI, if_pos ⟨rfl, rfl⟩]
    simp (disch := omega) only [U47_0, U47_1, U47_4, U47_5, U47_8, U47_11, U47_14, U47_15, U47_18, U47_21, U47_22, U47_25, U47_28, U47_29, U47_30, U47_31, U47_34, U47_35, U47_36, U47_39, U47_40, U47_43, U47_44, U47_47, U47_48, U47_49, U47_52, U47_55, k1, k2, hp.1, AL_size hp, V219, hlt, hu, i_add, i_mul, i_sub, i_addn, i_lt, i_eq, i_idx, i_vp, true_and, and_true, false_and, and_false, if_true, if_false, Nat.reduceAdd, Nat.reduceMul, Nat.reduceSub, Nat.reduceEqDiff, Option.some.injEq, exists_eq_left', true_or, or_true, false_or, or_false, not_true_eq_false, not_false_eq_true, eq_self, and_self, Nat.reduceLeDiff, decide_true, decide_false, ne_eq, Nat.left_eq_add, Nat.add_eq_left, Nat.add_left_cancel_iff, Nat.add_zero]
    simp (disch := omega) only [U47_0, U47_1, U47_4, U47_5, U47_8, U47_11, U47_14, U47_15, U47_18, U47_21, U47_22, U47_25, U47_28, U47_29, U47_30, U47_31, U47_34, U47_35, U47_36, U47_39, U47_40, U47_43, U47_44, U47_47, U47_48, U47_49, U47_52, U47_55, k1, k2, hp.1, g3, z_kd_sI, z_gP_sI, Nat.add_sub_cancel, AL_get hp1 hlt, V215, (hE _ hm).1, i_add, i_mul, i_sub, i_addn, i_lt, i_eq, i_idx, i_vp, true_and, and_true, false_and, and_false, if_true, if_false, Nat.reduceAdd, Nat.reduceMul, Nat.reduceSub, Nat.reduceEqDiff, Option.some.injEq, exists_eq_left', true_or, or_true, false_or, or_false, not_true_eq_false, not_false_eq_true, eq_self, and_self, Nat.reduceLeDiff, decide_true, decide_false, ne_eq, Nat.left_eq_add, Nat.add_eq_left, Nat.add_left_cancel_iff, Nat.add_zero]
    refine ⟨pl[n], pl, pr, rfl, List.getElem?_eq_getElem hlt, hp1, g3, fun e he => (hE e he).fz f1, hpb, hpr, hr, hs, hll, Or.inl rfl, (f1.fb).mono (fun a i _ z => Or.inl z), Or.inl rfl⟩
  · have hnl : n = pl.length := by omega
    have hln := hp.ln
    have hroom : 115 ≤ rs_ h ∧ 4 ≤ rc_ h := by have := p_lo (n := pl.length) (l := ln_ h pr); omega
    have plo := p_lo (n := pl.length) (l := ln_ h pr)
    have psm := p_same (n := pl.length) (l := ln_ h pr) (by omega)
    have f0 : Fa (fun _ _ => False) 1 7 h (nw_ h 2 0 7) := Fa.nw (by omega) (by omega)
    simp (disch := omega) only [U47_0, U47_1, U47_4, U47_5, U47_8, U47_11, U47_14, U47_15, U47_18, U47_21, U47_22, k1, k2, hp.1, AL_size hp, V219, hlt, hu, show 1 ≤ rc_ h by omega, show 7 ≤ rs_ h by omega, z_kd_nw, z_gP_nw, show ¬ l = nx_ h by omega, i_add, i_mul, i_sub, i_addn, i_lt, i_eq, i_idx, i_vp, true_and, and_true, false_and, and_false, if_true, if_false, Nat.reduceAdd, Nat.reduceMul, Nat.reduceSub, Nat.reduceEqDiff, Option.some.injEq, exists_eq_left', true_or, or_true, false_or, or_false, not_true_eq_false, not_false_eq_true, eq_self, and_self, Nat.reduceLeDiff, decide_true, decide_false, ne_eq, Nat.left_eq_add, Nat.add_eq_left, Nat.add_left_cancel_iff, Nat.add_zero]
    refine Wp_use (Event_init (h := nw_ h 2 0 7) (e := nx_ h) (by rw [z_kd_nw, if_pos rfl]) rfl (by rw [z_rc_nw]; omega) (by rw [z_rs_nw]; omega)) ?_
    rintro _ h1 ⟨rfl, he1, n1, f1⟩
    have F1 : Fa (fun _ _ => False) 4 115 h h1 := by
      obtain ⟨x1, x2, x3, x4, x5, x6, x7, x8⟩ := f0
      obtain ⟨y1, y2, y3, y4, y5, y6, y7, y8⟩ := f1
      rw [z_nx_nw] at y1 y2 y3 y8
      refine ⟨by omega, fun a ha => (y2 a (by omega)).trans (x2 a ha), fun a ha => (y3 a (by omega)).trans (x3 a ha), by omega, by omega, y6.trans x6, y7.trans x7, fun a i ha hn => ?_⟩
      obtain ⟨u1, u2, u3⟩ := x8 a i ha hn
      obtain ⟨v1, v2, v3⟩ := y8 a i (by omega) (by omega)
      exact ⟨v1.trans u1, v2.trans u2, v3.trans u3⟩
    have A1 : Ag 0 (nx_ h) h h1 := F1.ag (by omega) (fun _ _ _ _ z => z)
    have hp1 := hp.ag F1.2.2.2.2.2.1 (A1.sub (by omega) (by omega)) (A1.sub (by omega) (by omega))
    have lp1 : ln_ h1 pr = ln_ h pr := A1.ln pr (by omega) (by omega)
    have kp1 : kd_ h1 pr = kd_ h pr := A1.kd pr (by omega) (by omega)
    have rc1 := F1.2.2.2.1
    have rs1 := F1.2.2.2.2.1
    have kl1 : kd_ h1 l = 4 := by rw [A1.kd l (by omega) (by omega), k1]
    have gr : grw (ln_ h pr) ≤ 13500 := by unfold grw; split <;> omega
    simp (disch := omega) only [V10, U47_0, U47_1, U47_4, U47_5, U47_8, U47_11, U47_14, U47_15, U47_18, U47_21, U47_22, U47_25, hp1.1, i_add, i_mul, i_sub, i_addn, i_lt, i_eq, i_idx, i_vp, true_and, and_true, false_and, and_false, if_true, if_false, Nat.reduceAdd, Nat.reduceMul, Nat.reduceSub, Nat.reduceEqDiff, Option.some.injEq, exists_eq_left', true_or, or_true, false_or, or_false, not_true_eq_false, not_false_eq_true, eq_self, and_self, Nat.reduceLeDiff, decide_true, decide_false, ne_eq, Nat.left_eq_add, Nat.add_eq_left, Nat.add_left_cancel_iff, Nat.add_zero]
    refine Wp_use (AL_add hp1 (x := nx_ h) ⟨by rw [he1.1]; omega, by rw [he1.1]; omega, by omega⟩ (fun x hx => ⟨by have := hpb x hx; omega, by rw [A1.kd x (by omega) (by have := hpb x hx; omega), (hE x hx).1]; omega, by rw [A1.kd x (by omega) (by have := hpb x hx; omega), (hE x hx).1]; omega⟩) (by omega) (by omega) hp1.ne (by omega) (by omega) (by rw [lp1]; omega)) ?_
    rintro _ h2 ⟨rfl, pr', hl2, hc⟩
    rw [lp1, kp1] at hc
    have X : Fb (fun b i => b = l + 1 ∨ (b = pr ∧ kd_ h pr = 34)) h1 h2 ∧ pr' < nx_ h2 ∧ B + pC (pl.length + 1) (ln_ h2 pr') ≤ rc_ h2 ∧ C + pS (pl.length + 1) (ln_ h2 pr') ≤ rs_ h2 ∧ ln_ h2 pr' ≤ 9000 ∧ (pr' = pr ∨ nx_ h ≤ pr') := by
      rcases hc with ⟨rfl, c2, c3⟩ | ⟨rfl, c2, c3, c4, c5⟩
      · have r1 := c3.2.2.1.2.1
        have r2 := c3.2.2.1.2.2.1
        have r0 := c3.2.2.1.1
        have r3 := c3.2.1 pr'
        refine ⟨c3.fb.mono (fun a i _ z => ?_), by omega, ?_, ?_, by omega, Or.inl rfl⟩
        · rcases z with z | z
          · exact Or.inl z.1
          · exact Or.inr ⟨z.1, c2⟩
        · rw [r3, lp1]; omega
        · rw [r3, lp1]; omega
      · have r1 := c5.2.2.2.1
        have r2 := c5.2.2.2.2.1
        have q := p_grow (n := pl.length) (l := ln_ h pr) (by omega) hln (by omega)
        refine ⟨c5.fb.mono (fun a i _ z => Or.inl z), by omega, ?_, ?_, ?_, Or.inr (by omega)⟩
        · rw [c4]; omega
        · rw [c4]; omega
        · rw [c4]; omega
    clear hc
    obtain ⟨F2, X1, X2, X3, X4, X5⟩ := X
    have nx2 := F2.1
    have kl2 : kd_ h2 l = 4 := by rw [(F2.2.1 l (by omega)).1, kl1]
    have kp : kd_ h (l + 1) = 14 := hp.1
    have gl : ∀ i, gI_ h2 l i = gI_ h l i ∧ gP_ h2 l i = gP_ h l i := fun i => by
      have z := F2.2.2.2 l i (by omega) (by rintro (z | ⟨rfl, z⟩); omega; omega)
      exact ⟨by rw [z.1, A1.gI l i (by omega) (by omega)], by rw [z.2.2, A1.gP l i (by omega) (by omega)]⟩
    have f3 : Fz (fun b i => b = l ∧ i = 3) h2 (sI_ h2 l 3 (Int32.ofNat (n + 1))) := Fz.rfl'.sI ⟨rfl, rfl⟩
    have hp3 := hl2.fz f3 (by omega)
    have hlt3 : n < (pl ++ [nx_ h]).length := by rw [List.length_append, List.length_singleton]; omega
    have e3 : (pl ++ [nx_ h])[n] = nx_ h := by simp only [hnl, List.getElem_append_right (Nat.le_refl _), Nat.sub_self, List.getElem_cons_zero]
    have E2 : ∀ e ∈ pl ++ [nx_ h], Es h2 e ∧ e + 4 ≤ nx_ h2 := by
      intro e he
      rcases List.mem_append.mp he with he | he
      · have hb1 := hpb e he
        have E1 := (hE e he).ag (A1.sub (Nat.zero_le _) (by omega))
        refine ⟨E1.ag (F2.ag (by omega) ?_), by omega⟩
        obtain ⟨s1, s2, s3, s4, s5, s6, s7, s8, s9, s10⟩ := hE e he
        rintro a i h1 h2 (rfl | ⟨rfl, z⟩)
        · rcases (show l + 1 = e ∨ l + 1 = e + 1 ∨ l + 1 = e + 2 ∨ l + 1 = e + 3 by omega) with z | z | z | z <;> rw [z] at kp <;> omega
        · rcases (show a = e ∨ a = e + 1 ∨ a = e + 2 ∨ a = e + 3 by omega) with y | y | y | y <;> rw [y] at z <;> omega
      · rw [List.mem_singleton.mp he]
        exact ⟨he1.ag (F2.ag (by omega) (by rintro a i h1 h2 (rfl | ⟨rfl, z⟩) <;> omega)), by omega⟩
    have g3 : gI_ (sI_ h2 l 3 (Int32.ofNat (n + 1))) l 3 = Int32.ofNat (n + 1) := by rw [z_gI_sI, if_pos ⟨rfl, rfl⟩]
    have hm : nx_ h ∈ pl ++ [nx_ h] := List.mem_append.mpr (Or.inr (List.mem_singleton.mpr rfl))
    simp (disch := omega) only [V211, U47_28, U47_29, U47_30, U47_31, U47_34, U47_35, U47_36, U47_39, U47_40, kl2, gl, hu, k2, i_add, i_mul, i_sub, i_addn, i_lt, i_eq, i_idx, i_vp, true_and, and_true, false_and, and_false, if_true, if_false, Nat.reduceAdd, Nat.reduceMul, Nat.reduceSub, Nat.reduceEqDiff, Option.some.injEq, exists_eq_left', true_or, or_true, false_or, or_false, not_true_eq_false, not_false_eq_true, eq_self, and_self, Nat.reduceLeDiff, decide_true, decide_false, ne_eq, Nat.left_eq_add, Nat.add_eq_left, Nat.add_left_cancel_iff, Nat.add_zero]
    simp (disch := omega) only [U47_28, U47_29, U47_30, U47_31, U47_34, U47_35, U47_36, U47_39, U47_40, U47_43, U47_44, U47_47, U47_48, U47_49, U47_52, U47_55, kl2, gl, k2, hl2.1, g3, z_kd_sI, z_gP_sI, Nat.add_sub_cancel, AL_get hp3 hlt3, e3, V215, (E2 _ hm).1.1, i_add, i_mul, i_sub, i_addn, i_lt, i_eq, i_idx, i_vp, true_and, and_true, false_and, and_false, if_true, if_false, Nat.reduceAdd, Nat.reduceMul, Nat.reduceSub, Nat.reduceEqDiff, Option.some.injEq, exists_eq_left', true_or, or_true, false_or, or_false, not_true_eq_false, not_false_eq_true, eq_self, and_self, Nat.reduceLeDiff, decide_true, decide_false, ne_eq, Nat.left_eq_add, Nat.add_eq_left, Nat.add_left_cancel_iff, Nat.add_zero]
    refine ⟨nx_ h, _, pr', rfl, by rw [List.getElem?_eq_getElem hlt3, e3], hp3, g3, fun e he => (E2 e he).1.fz f3, fun e he => (E2 e he).2, X1, by rw [List.length_append]; exact X2, by rw [List.length_append]; exact X3, X4, X5, ?_, Or.inr ⟨hnl, rfl, Nat.le_refl _⟩⟩
    refine Fb.trans (Fb.trans (F1.fb.mono (fun a i _ z => z.elim)) F2 (fun a i _ z => Or.inr z)) f3.fb (fun a i _ z => Or.inl z)
