/-! ===== frames without room; ArrayList.add at a place; a new event ===== -/
def Fb (S : Nat → Nat → Prop) (h h' : MH_) : Prop := nx_ h ≤ nx_ h' ∧ (∀ a, a < nx_ h → kd_ h' a = kd_ h a ∧ ln_ h' a = ln_ h a) ∧ (em_ h' = em_ h ∧ mi_ h' = mi_ h) ∧ ∀ a i, a < nx_ h → ¬ S a i → gI_ h' a i = gI_ h a i ∧ gJ_ h' a i = gJ_ h a i ∧ gP_ h' a i = gP_ h a i
theorem Fa.fb {S : Nat → Nat → Prop} {n w : Nat} {h h' : MH_} (f : Fa S n w h h') : Fb S h h' := ⟨f.1, fun a ha => ⟨f.2.1 a ha, f.2.2.1 a ha⟩, ⟨f.2.2.2.2.2.1, f.2.2.2.2.2.2.1⟩, f.2.2.2.2.2.2.2⟩
theorem Fy.fb {S : Nat → Nat → Prop} {h h' : MH_} (f : Fy S h h') : Fb S h h' := f.fa.fb
theorem Fz.fb {S : Nat → Nat → Prop} {h h' : MH_} (f : Fz S h h') : Fb S h h' := f.fa.fb
theorem Fb.rfl' {S : Nat → Nat → Prop} {h : MH_} : Fb S h h := (Fz.rfl' (S := S)).fb
theorem Fb.trans {S T : Nat → Nat → Prop} {h h1 h2 : MH_} (f : Fb S h h1) (g : Fb T h1 h2) (hs : ∀ a i, a < nx_ h → T a i → S a i) : Fb S h h2 := by
  obtain ⟨f1, f2, ⟨f3, f4⟩, f5⟩ := f
  obtain ⟨g1, g2, ⟨g3, g4⟩, g5⟩ := g
  refine ⟨by omega, fun a ha => ⟨((g2 a (by omega)).1).trans (f2 a ha).1, ((g2 a (by omega)).2).trans (f2 a ha).2⟩, ⟨g3.trans f3, g4.trans f4⟩, fun a i ha hn => ?_⟩
  obtain ⟨u1, u2, u3⟩ := f5 a i ha hn
  obtain ⟨v1, v2, v3⟩ := g5 a i (by omega) (fun z => hn (hs a i ha z))
  exact ⟨v1.trans u1, v2.trans u2, v3.trans u3⟩
theorem Fb.mono {S T : Nat → Nat → Prop} {h h1 : MH_} (f : Fb S h h1) (hs : ∀ a i, a < nx_ h → S a i → T a i) : Fb T h h1 :=
  ⟨f.1, f.2.1, f.2.2.1, fun a i ha hn => f.2.2.2 a i ha (fun z => hn (hs a i ha z))⟩
theorem Fb.ag {S : Nat → Nat → Prop} {h h' : MH_} {lo n : Nat} (f : Fb S h h') (hn : lo + n ≤ nx_ h) (hs : ∀ a i, lo ≤ a → a < lo + n → ¬ S a i) : Ag lo n h h' :=
  fun a h1 h2 => ⟨(f.2.1 a (by omega)).1, (f.2.1 a (by omega)).2, fun i => f.2.2.2 a i (by omega) (hs a i h1 h2)⟩
theorem Fa.fy {S T : Nat → Nat → Prop} {n w : Nat} {h h1 h2 : MH_} (f : Fa S n w h h1) (g : Fy T h1 h2) (hs : ∀ a i, a < nx_ h → T a i → S a i) : Fa S n w h h2 := by
  obtain ⟨f1, f2, f3, f4, f5, f6, f7, f8⟩ := f
  obtain ⟨g1, g2, ⟨g3, g4, g5, g6, g7⟩, g8⟩ := g
  refine ⟨by omega, fun a ha => (g1 a).trans (f2 a ha), fun a ha => (g2 a).trans (f3 a ha), by omega, by omega, g6.trans f6, g7.trans f7, fun a i ha hn => ?_⟩
  obtain ⟨u1, u2, u3⟩ := f8 a i ha hn
  obtain ⟨v1, v2, v3⟩ := g8 a i (fun z => hn (hs a i ha z))
  exact ⟨v1.trans u1, v2.trans u2, v3.trans u3⟩
theorem Al.ne {h : MH_} {a arr : Nat} {xs : List Nat} (hl : Al h a arr xs) : ¬ a = arr := by
  rintro rfl
  have h1 := hl.1
  rcases hl.2.2.2 with ⟨-, -, b3, -⟩ | ⟨b1, -⟩
  · omega
  · omega
theorem Al.kd {h : MH_} {a arr : Nat} {xs : List Nat} (hl : Al h a arr xs) : kd_ h arr = 34 ∨ kd_ h arr = 38 := by
  rcases hl.2.2.2 with ⟨-, -, b3, -⟩ | ⟨b1, -⟩
  · exact Or.inr b3
  · exact Or.inl b1
theorem AL_addAt {h : MH_} {a arr x i : Nat} {xs : List Nat} (hl : Al h a arr xs) (hi : i ≤ xs.length) (hk : 1 ≤ kd_ h x ∧ kd_ h x ≤ 14 ∧ x < nx_ h) (hx : ∀ x ∈ xs, x < nx_ h ∧ 1 ≤ kd_ h x ∧ kd_ h x ≤ 14) (ha : a < nx_ h) (har : arr < nx_ h) (hc : ln_ h arr ≤ 300000) (hr : 1 ≤ rc_ h) (hs : grw (ln_ h arr) ≤ rs_ h) : Wp 210 0 [.ref a, .int (Int32.ofNat i), .ref x, .null, .null] [] h (fun v h' => v = .inl .null ∧ ∃ arr', Al h' a arr' (ins xs i x) ∧ ((arr' = arr ∧ kd_ h arr = 34 ∧ Fy (SL a arr) h h') ∨ (arr' = nx_ h ∧ nx_ h' = nx_ h + 1 ∧ xs.length = ln_ h arr ∧ ln_ h' arr' = grw (ln_ h arr) ∧ Fa (fun b _ => b = a) 1 (grw (ln_ h arr)) h h'))) := by
  have hn := hl.len
  have ne := hl.ne
  have hl' := hl
  obtain ⟨a1, a2, a3, a4⟩ := hl
  have hmod : Fz (fun b i => b = a ∧ i = 0) h (sI_ h a 0 (gI_ h a 0 + Int32.ofNat 1)) := Fz.rfl'.sI ⟨rfl, rfl⟩
  have hl1 := hl'.fz hmod (by omega)
  by_cases hroom : kd_ h arr = 34 ∧ xs.length < ln_ h arr
  · simp (disch := omega) only [U210_0, U210_1, U210_2, U210_5, U210_6, U210_7, U210_10, U210_11, U210_12, U210_15, U210_16, U210_19, U210_20, U210_21, U210_22, U210_25, U210_26, U210_28, U210_29, U210_32, U210_33, U210_36, U218_0, U218_1, U218_2, U218_5, U218_8, U218_9, U218_15, U218_16, U218_17, U218_25, V218, z_kd_sI, z_ln_sI, z_gI_sI, z_gJ_sI, z_gP_sI, z_nx_sI, z_rc_sI, z_rs_sI, z_em_sI, z_mi_sI, z_kd_sJ, z_ln_sJ, z_gI_sJ, z_gJ_sJ, z_gP_sJ, z_nx_sJ, z_rc_sJ, z_rs_sJ, z_em_sJ, z_mi_sJ, z_kd_sP, z_ln_sP, z_gI_sP, z_gJ_sP, z_gP_sP, z_nx_sP, z_rc_sP, z_rs_sP, z_em_sP, z_mi_sP, z_kd_nw, z_ln_nw, z_gI_nw, z_gJ_nw, z_gP_nw, z_nx_nw, z_rc_nw, z_rs_nw, z_em_nw, z_mi_nw, z_kd_cI, z_ln_cI, z_gI_cI, z_gJ_cI, z_gP_cI, z_nx_cI, z_rc_cI, z_rs_cI, z_em_cI, z_mi_cI, z_kd_cP, z_ln_cP, z_gI_cP, z_gJ_cP, z_gP_cP, z_nx_cP, z_rc_cP, z_rs_cP, z_em_cP, z_mi_cP, z_kd_wI, z_ln_wI, z_gI_wI, z_gJ_wI, z_gP_wI, z_nx_wI, z_rc_wI, z_rs_wI, z_em_wI, z_mi_wI, z_kd_wJ, z_ln_wJ, z_gI_wJ, z_gJ_wJ, z_gP_wJ, z_nx_wJ, z_rc_wJ, z_rs_wJ, z_em_wJ, z_mi_wJ, a1, a2, a3, hroom.1, show ¬ i < 0 by omega, show ¬ xs.length < i by omega, show ¬ xs.length = ln_ h arr by omega, show ¬ (2 : Nat) = 0 by decide, show (30 : Nat) ≤ 34 by decide, show (34 : Nat) ≤ 38 by decide, i_add, i_mul, i_sub, i_addn, i_lt, i_eq, i_idx, i_vp, true_and, and_true, false_and, and_false, if_true, if_false, Nat.reduceAdd, Nat.reduceMul, Nat.reduceSub, Nat.reduceEqDiff, Option.some.injEq, exists_eq_left', true_or, or_true, false_or, or_false, not_true_eq_false, not_false_eq_true, eq_self, and_self, Nat.reduceLeDiff, decide_true, decide_false, ne_eq, Nat.left_eq_add, Nat.add_eq_left, Nat.add_left_cancel_iff, Nat.add_zero]
    refine Wp_use (addAt_fin hl1 hroom.2 ⟨hk.1, hk.2.1⟩ (fun x hm => (hx x hm).2) hi ne) ?_
    rintro _ h2 ⟨rfl, hl2, f2⟩
    exact ⟨rfl, arr, hl2, rfl, (hmod.fy.mono (fun b j z => Or.inl ⟨z.1, Or.inl z.2⟩)).trans f2⟩
  · have hfull : xs.length = ln_ h arr := by
      rcases a4 with ⟨b1, b2, b3, b4⟩ | ⟨b1, b2, b3, b4, b5⟩
      · rw [b1, b4]; rfl
      · rcases Nat.lt_or_ge xs.length (ln_ h arr) with y | y
        · exact absurd ⟨b1, y⟩ hroom
        · omega
    have h3038 : 30 ≤ kd_ h arr ∧ kd_ h arr ≤ 38 := by have := hl'.kd; omega
    have G : Wp 216 0 [.ref a] [] (sI_ h a 0 (gI_ h a 0 + Int32.ofNat 1)) (fun v h' => v = .inl (.ref (nx_ h)) ∧ Al h' a (nx_ h) xs ∧ ln_ h' (nx_ h) = grw (ln_ h arr) ∧ nx_ h' = nx_ h + 1 ∧ Fa (fun b i => b = a ∧ i = 1) 1 (grw (ln_ h arr)) (sI_ h a 0 (gI_ h a 0 + Int32.ofNat 1)) h') := by
      rcases a4 with ⟨b1, b2, b3, b4⟩ | ⟨b1, b2, b3, b4, b5⟩
      · have eg : grw (ln_ h arr) = 10 := by rw [b4]; rfl
        rw [eg] at hs ⊢
        subst b1
        exact AL_grow_e hl1 ⟨b2, b3, b4⟩ ha ne hr hs
      · have eg : grw (ln_ h arr) = ln_ h arr + max 1 (ln_ h arr / 2) := by unfold grw; rw [if_neg (by omega)]
        rw [eg] at hs ⊢
        exact AL_grow hl1 hfull b1 hc hx ha har ne hr hs
    simp (disch := omega) only [U210_0, U210_1, U210_2, U210_5, U210_6, U210_7, U210_10, U210_11, U210_12, U210_15, U210_16, U210_19, U210_20, U210_21, U210_22, U210_25, U210_26, U210_28, U210_29, U210_32, U210_33, U210_36, U218_0, U218_1, U218_2, U218_5, U218_8, U218_9, U218_15, U218_16, U218_17, U218_25, V218, z_kd_sI, z_ln_sI, z_gI_sI, z_gJ_sI, z_gP_sI, z_nx_sI, z_rc_sI, z_rs_sI, z_em_sI, z_mi_sI, z_kd_sJ, z_ln_sJ, z_gI_sJ, z_gJ_sJ, z_gP_sJ, z_nx_sJ, z_rc_sJ, z_rs_sJ, z_em_sJ, z_mi_sJ, z_kd_sP, z_ln_sP, z_gI_sP, z_gJ_sP, z_gP_sP, z_nx_sP, z_rc_sP, z_rs_sP, z_em_sP, z_mi_sP, z_kd_nw, z_ln_nw, z_gI_nw, z_gJ_nw, z_gP_nw, z_nx_nw, z_rc_nw, z_rs_nw, z_em_nw, z_mi_nw, z_kd_cI, z_ln_cI, z_gI_cI, z_gJ_cI, z_gP_cI, z_nx_cI, z_rc_cI, z_rs_cI, z_em_cI, z_mi_cI, z_kd_cP, z_ln_cP, z_gI_cP, z_gJ_cP, z_gP_cP, z_nx_cP, z_rc_cP, z_rs_cP, z_em_cP, z_mi_cP, z_kd_wI, z_ln_wI, z_gI_wI, z_gJ_wI, z_gP_wI, z_nx_wI, z_rc_wI, z_rs_wI, z_em_wI, z_mi_wI, z_kd_wJ, z_ln_wJ, z_gI_wJ, z_gJ_wJ, z_gP_wJ, z_nx_wJ, z_rc_wJ, z_rs_wJ, z_em_wJ, z_mi_wJ, a1, a2, a3, hfull, h3038, show ¬ i < 0 by omega, show ¬ ln_ h arr < i by omega, show ¬ (2 : Nat) = 0 by decide, i_add, i_mul, i_sub, i_addn, i_lt, i_eq, i_idx, i_vp, true_and, and_true, false_and, and_false, if_true, if_false, Nat.reduceAdd, Nat.reduceMul, Nat.reduceSub, Nat.reduceEqDiff, Option.some.injEq, exists_eq_left', true_or, or_true, false_or, or_false, not_true_eq_false, not_false_eq_true, eq_self, and_self, Nat.reduceLeDiff, decide_true, decide_false, ne_eq, Nat.left_eq_add, Nat.add_eq_left, Nat.add_left_cancel_iff, Nat.add_zero]
    refine Wp_use G ?_
    rintro _ h1 ⟨rfl, hl2, e1, e2, f1⟩
    have hlt : xs.length < ln_ h1 (nx_ h) := by rw [e1, hfull]; unfold grw; split <;> omega
    have T : Fa (fun b _ => b = a) (0 + 1) (0 + grw (ln_ h arr)) h h1 := (hmod.fa.mono (fun b i _ y => y.1) (Nat.le_refl _) (Nat.le_refl _)).trans (f1.mono (fun b i _ y => y.1) (Nat.le_refl _) (Nat.le_refl _))
    rw [Nat.zero_add, Nat.zero_add] at T
    simp (disch := omega) only [V216, U210_0, U210_1, U210_2, U210_5, U210_6, U210_7, U210_10, U210_11, U210_12, U210_15, U210_16, U210_19, U210_20, U210_21, U210_22, U210_25, U210_26, U210_28, U210_29, U210_32, U210_33, U210_36, i_add, i_mul, i_sub, i_addn, i_lt, i_eq, i_idx, i_vp, true_and, and_true, false_and, and_false, if_true, if_false, Nat.reduceAdd, Nat.reduceMul, Nat.reduceSub, Nat.reduceEqDiff, Option.some.injEq, exists_eq_left', true_or, or_true, false_or, or_false, not_true_eq_false, not_false_eq_true, eq_self, and_self, Nat.reduceLeDiff, decide_true, decide_false, ne_eq, Nat.left_eq_add, Nat.add_eq_left, Nat.add_left_cancel_iff, Nat.add_zero]
    rw [← hfull]
    refine Wp_use (addAt_fin hl2 hlt ⟨by rw [T.2.1 x hk.2.2]; exact hk.1, by rw [T.2.1 x hk.2.2]; exact hk.2.1⟩ (fun y hm => by rw [T.2.1 y (hx y hm).1]; exact (hx y hm).2) hi (by omega)) ?_
    rintro _ h2 ⟨rfl, hl3, f3⟩
    rw [hfull]
    refine ⟨rfl, nx_ h, hl3, Or.inr ⟨rfl, by rw [f3.2.2.1.1, e2], by rw [f3.2.1, e1], T.fy f3 ?_⟩⟩
    rintro b j hb (⟨rfl, -⟩ | rfl)
    · rfl
    · omega
theorem Fa.rfl' {S : Nat → Nat → Prop} {h : MH_} : Fa S 0 0 h h := (Fz.rfl' (S := S)).fa
theorem Fa.nw' {S : Nat → Nat → Prop} {n w k m w' : Nat} {h h' : MH_} (f : Fa S n w h h') (hr : 1 ≤ rc_ h') (hs : w' ≤ rs_ h') : Fa S (n + 1) (w + w') h (nw_ h' k m w') := f.trans (Fa.nw hr hs)
theorem Fa.sP {S : Nat → Nat → Prop} {n w a j : Nat} {x : Option Nat} {h h' : MH_} (f : Fa S n w h h') (hs : nx_ h ≤ a ∨ S a j) : Fa S n w h (sP_ h' a j x) :=
  f.fy (T := fun b i => b = a ∧ i = j) (Fy.sP Fy.rfl' ⟨rfl, rfl⟩) (fun b i hb z => by obtain ⟨rfl, rfl⟩ := z; rcases hs with y | y; omega; exact y)
theorem Fa.sI {S : Nat → Nat → Prop} {n w a j : Nat} {x : Int32} {h h' : MH_} (f : Fa S n w h h') (hs : nx_ h ≤ a ∨ S a j) : Fa S n w h (sI_ h' a j x) :=
  f.fy (T := fun b i => b = a ∧ i = j) (Fy.sI Fy.rfl' ⟨rfl, rfl⟩) (fun b i hb z => by obtain ⟨rfl, rfl⟩ := z; rcases hs with y | y; omega; exact y)
theorem Event_init {h : MH_} {e : Nat} (hk : kd_ h e = 2) (hn : nx_ h = e + 1) (hr : 3 ≤ rc_ h) (hs : 108 ≤ rs_ h) : Wp 10 0 [.ref e] [] h (fun v h' => v = .inl .null ∧ Es h' e ∧ nx_ h' = e + 4 ∧ Fa (fun b _ => b = e) 3 108 h h') := by
  simp (disch := omega) only [U10_0, U10_1, U10_4, U10_5, U10_7, U10_9, U10_12, U10_13, U10_15, U10_17, U10_20, U10_21, U10_23, U10_25, U10_28, z_kd_sI, z_ln_sI, z_gI_sI, z_gJ_sI, z_gP_sI, z_nx_sI, z_rc_sI, z_rs_sI, z_em_sI, z_mi_sI, z_kd_sJ, z_ln_sJ, z_gI_sJ, z_gJ_sJ, z_gP_sJ, z_nx_sJ, z_rc_sJ, z_rs_sJ, z_em_sJ, z_mi_sJ, z_kd_sP, z_ln_sP, z_gI_sP, z_gJ_sP, z_gP_sP, z_nx_sP, z_rc_sP, z_rs_sP, z_em_sP, z_mi_sP, z_kd_nw, z_ln_nw, z_gI_nw, z_gJ_nw, z_gP_nw, z_nx_nw, z_rc_nw, z_rs_nw, z_em_nw, z_mi_nw, z_kd_cI, z_ln_cI, z_gI_cI, z_gJ_cI, z_gP_cI, z_nx_cI, z_rc_cI, z_rs_cI, z_em_cI, z_mi_cI, z_kd_cP, z_ln_cP, z_gI_cP, z_gJ_cP, z_gP_cP, z_nx_cP, z_rc_cP, z_rs_cP, z_em_cP, z_mi_cP, z_kd_wI, z_ln_wI, z_gI_wI, z_gJ_wI, z_gP_wI, z_nx_wI, z_rc_wI, z_rs_wI, z_em_wI, z_mi_wI, z_kd_wJ, z_ln_wJ, z_gI_wJ, z_gJ_wJ, z_gP_wJ, z_nx_wJ, z_rc_wJ, z_rs_wJ, z_em_wJ, z_mi_wJ, hk, hn, hr, hs, show ¬ (6 : Nat) < 0 by omega, show ¬ (96 : Nat) < 0 by omega, show (6 : Nat) ≤ 1000000 by decide, show (96 : Nat) ≤ 1000000 by decide, show 1 ≤ rc_ h by omega, show 1 ≤ rc_ h - 1 by omega, show 1 ≤ rc_ h - 1 - 1 by omega, show 6 ≤ rs_ h by omega, show 6 ≤ rs_ h - 6 by omega, show 96 ≤ rs_ h - 6 - 6 by omega, show ¬ e = e + 1 by omega, show ¬ e = e + 1 + 1 by omega, show ¬ e = e + 1 + 1 + 1 by omega, i_add, i_mul, i_sub, i_addn, i_lt, i_eq, i_idx, i_vp, true_and, and_true, false_and, and_false, if_true, if_false, Nat.reduceAdd, Nat.reduceMul, Nat.reduceSub, Nat.reduceEqDiff, Option.some.injEq, exists_eq_left', true_or, or_true, false_or, or_false, not_true_eq_false, not_false_eq_true, eq_self, and_self, Nat.reduceLeDiff, decide_true, decide_false, ne_eq, Nat.left_eq_add, Nat.add_eq_left, Nat.add_left_cancel_iff, Nat.add_zero]
  refine ⟨?_, ?_⟩
  · unfold Es
    simp [z_kd_sI, z_ln_sI, z_gI_sI, z_gJ_sI, z_gP_sI, z_nx_sI, z_rc_sI, z_rs_sI, z_em_sI, z_mi_sI, z_kd_sJ, z_ln_sJ, z_gI_sJ, z_gJ_sJ, z_gP_sJ, z_nx_sJ, z_rc_sJ, z_rs_sJ, z_em_sJ, z_mi_sJ, z_kd_sP, z_ln_sP, z_gI_sP, z_gJ_sP, z_gP_sP, z_nx_sP, z_rc_sP, z_rs_sP, z_em_sP, z_mi_sP, z_kd_nw, z_ln_nw, z_gI_nw, z_gJ_nw, z_gP_nw, z_nx_nw, z_rc_nw, z_rs_nw, z_em_nw, z_mi_nw, z_kd_cI, z_ln_cI, z_gI_cI, z_gJ_cI, z_gP_cI, z_nx_cI, z_rc_cI, z_rs_cI, z_em_cI, z_mi_cI, z_kd_cP, z_ln_cP, z_gI_cP, z_gJ_cP, z_gP_cP, z_nx_cP, z_rc_cP, z_rs_cP, z_em_cP, z_mi_cP, z_kd_wI, z_ln_wI, z_gI_wI, z_gJ_wI, z_gP_wI, z_nx_wI, z_rc_wI, z_rs_wI, z_em_wI, z_mi_wI, z_kd_wJ, z_ln_wJ, z_gI_wJ, z_gJ_wJ, z_gP_wJ, z_nx_wJ, z_rc_wJ, z_rs_wJ, z_em_wJ, z_mi_wJ, hn, hk]
    exact ⟨by rw [if_neg (by omega), if_neg (by omega)], by omega, by omega⟩
  · have f1 := ((Fa.rfl' (S := fun b _ => b = e) (h := h)).nw' (k := 32) (m := 6) (w' := 6) (by omega) (by omega)).sP (a := e) (j := 0) (x := some (e + 1)) (Or.inr rfl)
    have f2 := (f1.nw' (k := 30) (m := 6) (w' := 6) (by simp only [z_kd_sI, z_ln_sI, z_gI_sI, z_gJ_sI, z_gP_sI, z_nx_sI, z_rc_sI, z_rs_sI, z_em_sI, z_mi_sI, z_kd_sJ, z_ln_sJ, z_gI_sJ, z_gJ_sJ, z_gP_sJ, z_nx_sJ, z_rc_sJ, z_rs_sJ, z_em_sJ, z_mi_sJ, z_kd_sP, z_ln_sP, z_gI_sP, z_gJ_sP, z_gP_sP, z_nx_sP, z_rc_sP, z_rs_sP, z_em_sP, z_mi_sP, z_kd_nw, z_ln_nw, z_gI_nw, z_gJ_nw, z_gP_nw, z_nx_nw, z_rc_nw, z_rs_nw, z_em_nw, z_mi_nw, z_kd_cI, z_ln_cI, z_gI_cI, z_gJ_cI, z_gP_cI, z_nx_cI, z_rc_cI, z_rs_cI, z_em_cI, z_mi_cI, z_kd_cP, z_ln_cP, z_gI_cP, z_gJ_cP, z_gP_cP, z_nx_cP, z_rc_cP, z_rs_cP, z_em_cP, z_mi_cP, z_kd_wI, z_ln_wI, z_gI_wI, z_gJ_wI, z_gP_wI, z_nx_wI, z_rc_wI, z_rs_wI, z_em_wI, z_mi_wI, z_kd_wJ, z_ln_wJ, z_gI_wJ, z_gJ_wJ, z_gP_wJ, z_nx_wJ, z_rc_wJ, z_rs_wJ, z_em_wJ, z_mi_wJ]; omega) (by simp only [z_kd_sI, z_ln_sI, z_gI_sI, z_gJ_sI, z_gP_sI, z_nx_sI, z_rc_sI, z_rs_sI, z_em_sI, z_mi_sI, z_kd_sJ, z_ln_sJ, z_gI_sJ, z_gJ_sJ, z_gP_sJ, z_nx_sJ, z_rc_sJ, z_rs_sJ, z_em_sJ, z_mi_sJ, z_kd_sP, z_ln_sP, z_gI_sP, z_gJ_sP, z_gP_sP, z_nx_sP, z_rc_sP, z_rs_sP, z_em_sP, z_mi_sP, z_kd_nw, z_ln_nw, z_gI_nw, z_gJ_nw, z_gP_nw, z_nx_nw, z_rc_nw, z_rs_nw, z_em_nw, z_mi_nw, z_kd_cI, z_ln_cI, z_gI_cI, z_gJ_cI, z_gP_cI, z_nx_cI, z_rc_cI, z_rs_cI, z_em_cI, z_mi_cI, z_kd_cP, z_ln_cP, z_gI_cP, z_gJ_cP, z_gP_cP, z_nx_cP, z_rc_cP, z_rs_cP, z_em_cP, z_mi_cP, z_kd_wI, z_ln_wI, z_gI_wI, z_gJ_wI, z_gP_wI, z_nx_wI, z_rc_wI, z_rs_wI, z_em_wI, z_mi_wI, z_kd_wJ, z_ln_wJ, z_gI_wJ, z_gJ_wJ, z_gP_wJ, z_nx_wJ, z_rc_wJ, z_rs_wJ, z_em_wJ, z_mi_wJ]; omega)).sP (a := e) (j := 1) (x := some (e + 1 + 1)) (Or.inr rfl)
    have f3 := (f2.nw' (k := 31) (m := 96) (w' := 96) (by simp only [z_kd_sI, z_ln_sI, z_gI_sI, z_gJ_sI, z_gP_sI, z_nx_sI, z_rc_sI, z_rs_sI, z_em_sI, z_mi_sI, z_kd_sJ, z_ln_sJ, z_gI_sJ, z_gJ_sJ, z_gP_sJ, z_nx_sJ, z_rc_sJ, z_rs_sJ, z_em_sJ, z_mi_sJ, z_kd_sP, z_ln_sP, z_gI_sP, z_gJ_sP, z_gP_sP, z_nx_sP, z_rc_sP, z_rs_sP, z_em_sP, z_mi_sP, z_kd_nw, z_ln_nw, z_gI_nw, z_gJ_nw, z_gP_nw, z_nx_nw, z_rc_nw, z_rs_nw, z_em_nw, z_mi_nw, z_kd_cI, z_ln_cI, z_gI_cI, z_gJ_cI, z_gP_cI, z_nx_cI, z_rc_cI, z_rs_cI, z_em_cI, z_mi_cI, z_kd_cP, z_ln_cP, z_gI_cP, z_gJ_cP, z_gP_cP, z_nx_cP, z_rc_cP, z_rs_cP, z_em_cP, z_mi_cP, z_kd_wI, z_ln_wI, z_gI_wI, z_gJ_wI, z_gP_wI, z_nx_wI, z_rc_wI, z_rs_wI, z_em_wI, z_mi_wI, z_kd_wJ, z_ln_wJ, z_gI_wJ, z_gJ_wJ, z_gP_wJ, z_nx_wJ, z_rc_wJ, z_rs_wJ, z_em_wJ, z_mi_wJ]; omega) (by simp only [z_kd_sI, z_ln_sI, z_gI_sI, z_gJ_sI, z_gP_sI, z_nx_sI, z_rc_sI, z_rs_sI, z_em_sI, z_mi_sI, z_kd_sJ, z_ln_sJ, z_gI_sJ, z_gJ_sJ, z_gP_sJ, z_nx_sJ, z_rc_sJ, z_rs_sJ, z_em_sJ, z_mi_sJ, z_kd_sP, z_ln_sP, z_gI_sP, z_gJ_sP, z_gP_sP, z_nx_sP, z_rc_sP, z_rs_sP, z_em_sP, z_mi_sP, z_kd_nw, z_ln_nw, z_gI_nw, z_gJ_nw, z_gP_nw, z_nx_nw, z_rc_nw, z_rs_nw, z_em_nw, z_mi_nw, z_kd_cI, z_ln_cI, z_gI_cI, z_gJ_cI, z_gP_cI, z_nx_cI, z_rc_cI, z_rs_cI, z_em_cI, z_mi_cI, z_kd_cP, z_ln_cP, z_gI_cP, z_gJ_cP, z_gP_cP, z_nx_cP, z_rc_cP, z_rs_cP, z_em_cP, z_mi_cP, z_kd_wI, z_ln_wI, z_gI_wI, z_gJ_wI, z_gP_wI, z_nx_wI, z_rc_wI, z_rs_wI, z_em_wI, z_mi_wI, z_kd_wJ, z_ln_wJ, z_gI_wJ, z_gJ_wJ, z_gP_wJ, z_nx_wJ, z_rc_wJ, z_rs_wJ, z_em_wJ, z_mi_wJ]; omega)).sP (a := e) (j := 2) (x := some (e + 1 + 1 + 1)) (Or.inr rfl)
    exact f3.mono (fun _ _ _ z => z) (by omega) (by omega)
