/-! ===== Lines: readsBlock ===== -/
section
variable {h0 : MH_} {l fr sl sA pr0 sr0 sr B C : Nat} {fl fs pl0 so : List Nat} {si : List (List Tok)}
def PB (h0 : MH_) (l fr sl sA pr0 sr0 sr B C : Nat) (fl fs pl0 so : List Nat) (si : List (List Tok)) (L : Nat) (plB : List Nat) (br : Int32) (acc0 : List Ev) (res : Option (List Ev)) : Rs_ → MH_ → Prop := fun v h' => ∃ pl' pr', Bd h0 h' l fr sl sA pr0 sr0 fl fs pl0 si pl' pr' so sr ∧ Rm h' B C pl' pr' ∧ gI_ h' l 4 = br ∧ (ln_ h' sr = L ∧ ∃ mo, pl' = plB ++ mo) ∧ match res with
  | some es => v = .inl (.int (Int32.ofNat 1)) ∧ Pv h' pl' es ∧ gI_ h' l 3 = Int32.ofNat es.length
  | none => v = .inl (.int (Int32.ofNat 0)) ∧ Pv h' pl' acc0
theorem Pv.pre {h : MH_} {pl : List Nat} {es more : List Ev} (p : Pv h pl (es ++ more)) : Pv h pl es := by
  refine ⟨by have := p.1; rw [List.length_append] at this; omega, fun i e x h1 h2 => p.2 i e x h1 ?_⟩
  have hi : i < es.length := by
    rcases Nat.lt_or_ge i es.length with z | z
    · exact z
    · rw [List.getElem?_eq_none z] at h2; cases h2
  rw [List.getElem?_append_left hi, h2]
theorem Rw.cell {h : MH_} {r c a : Nat} {l : List Nat} (hr : Rw h r c l) (h1 : r ≤ a) (h2 : a < r + 2) : kd_ h a = 10 ∨ (kd_ h a = 31 ∧ ln_ h a = c) := by
  rcases (show a = r ∨ a = r + 1 by omega) with rfl | rfl
  · exact Or.inl hr.1
  · exact Or.inr ⟨hr.2.2.1, hr.2.2.2.1⟩
theorem Bd.agu {h h' : MH_} {pl : List Nat} {pr : Nat} (b : Bd h0 h l fr sl sA pr0 sr0 fl fs pl0 si pl pr so sr) (f : Fb (fun b i => (b = l ∧ i = 3) ∨ b = l + 1 ∨ (b = pr ∧ kd_ h pr = 34)) h h') : Ag (l + 3) 2 h h' ∧ Ag fr 2 h h' := by
  obtain ⟨⟨⟨k1, k2, k3, k4⟩, u1, u2, u3, u4⟩, ⟨p1, p2, p3⟩, ⟨r1, r2⟩, ⟨e1, e2⟩, ⟨b1, b2, b3, b4, b5⟩, ⟨c1, c2, c3⟩, ⟨d1, d2, d3⟩, ⟨g1, g2, g3⟩, q1, q2⟩ := b
  have n0 := q2.1
  have j1 := p1.1
  have kr := r1.1
  have kr2 := r1.2.2.1
  have u3' : kd_ h (l + 4) = 30 := u3
  refine ⟨f.ag (by omega) ?_, f.ag (by omega) ?_⟩
  · rintro a i h1 h2 (z | z | ⟨z, w⟩)
    · omega
    · omega
    · rcases (show a = l + 3 ∨ a = l + 4 by omega) with y | y <;> rw [← z, y] at w <;> omega
  · rintro a i h1 h2 (z | z | ⟨z, w⟩)
    · have ka := r1.cell h1 h2; rw [z.1] at ka; omega
    · have ka := r1.cell h1 h2; rw [z] at ka; omega
    · have ka := r1.cell h1 h2; rw [z] at ka; omega
theorem readsBlock_loop {w from' : Nat} {e L : Nat} {plB : List Nat} {br : Int32} {acc0 : List Ev} : ∀ n k la t acc more r h pl pr, k + n = 238 → r.length ≤ n → Bd h0 h l fr sl sA pr0 sr0 fl fs pl0 si pl pr so sr → Rm h B C pl pr → gI_ h l 3 = Int32.ofNat acc.length → gI_ h l 4 = br → (ln_ h sr = L ∧ ∃ mo, pl = plB ++ mo) → Pv h pl acc → acc = acc0 ++ more → acc.length + r.length ≤ 5950 → UO h (l + 3) fr e fl (some r) → gI_ h (l + 3) 4 = Int32.ofNat w → gJ_ h (l + 3) 5 = Int64.ofNat t → t < 9223372036854775808 → (∀ i, i < 240 → gI_ h (l + 4) i = la i) →
    Wp 50 17 [.ref l, .ref fr, .int (Int32.ofNat from'), .ref sl, .int (Int32.ofNat k)] [] h (PB h0 l fr sl sA pr0 sr0 sr B C fl fs pl0 so si L plB br acc0 (rEs si w n la t acc r)) := by
  intro n
  induction n with
  | zero =>
    intro k la t acc more r h pl pr hk hr b rm hu hbr hL hP hacc hlen uo hw ht ht2 hla
    have hr0 : r = [] := List.length_eq_zero_iff.mp (by omega)
    subst hr0
    rw [U50_17]
    simp (disch := omega) only [U50_0, U50_1, U50_4, U50_5, U50_6, U50_9, U50_12, U50_13, U50_14, U50_15, U50_19, U50_22, U50_25, U50_26, U50_29, U50_32, U50_35, U50_36, U50_39, U50_40, U50_43, U50_44, U50_47, U50_50, U50_51, U50_52, U50_55, U50_58, U50_59, show ¬ k < 238 by omega, i_add, i_mul, i_sub, i_addn, i_lt, i_eq, i_idx, i_vp, true_and, and_true, false_and, and_false, if_true, if_false, Nat.reduceAdd, Nat.reduceMul, Nat.reduceSub, Nat.reduceEqDiff, Option.some.injEq, exists_eq_left', true_or, or_true, false_or, or_false, not_true_eq_false, not_false_eq_true, eq_self, and_self, Nat.reduceLeDiff, decide_true, decide_false, ne_eq, Nat.left_eq_add, Nat.add_eq_left, Nat.add_left_cancel_iff, Nat.add_zero]
    rw [show rEs si w 0 la t acc [] = some acc by simp [rEs]]
    exact ⟨pl, pr, b, rm, hbr, hL, rfl, hP, hu⟩
  | succ n ih =>
    intro k la t acc more r h pl pr hk hr b rm hu hbr hL hP hacc hlen uo hw ht ht2 hla
    have b' := b
    obtain ⟨⟨⟨k1, k2, k3, k4⟩, u1, u2, u3, u4⟩, ⟨p1, p2, p3⟩, ⟨r1, r2⟩, ⟨e1, e2⟩, ⟨b1, b2, b3, b4, b5⟩, ⟨c1, c2, c3⟩, ⟨d1, d2, d3⟩, ⟨g1, g2, g3⟩, q1, q2⟩ := b
    have n0 := q2.1
    cases r with
    | nil =>
      rw [U50_17]
      simp (disch := omega) only [U50_0, U50_1, U50_4, U50_5, U50_6, U50_9, U50_12, U50_13, U50_14, U50_15, U50_19, U50_22, U50_25, U50_26, U50_29, U50_32, U50_35, U50_36, U50_39, U50_40, U50_43, U50_44, U50_47, U50_50, U50_51, U50_52, U50_55, U50_58, U50_59, k1, k4, u1, Unp_hasMore uo, V105, bz_0, show k < 238 by omega, i_add, i_mul, i_sub, i_addn, i_lt, i_eq, i_idx, i_vp, true_and, and_true, false_and, and_false, if_true, if_false, Nat.reduceAdd, Nat.reduceMul, Nat.reduceSub, Nat.reduceEqDiff, Option.some.injEq, exists_eq_left', true_or, or_true, false_or, or_false, not_true_eq_false, not_false_eq_true, eq_self, and_self, Nat.reduceLeDiff, decide_true, decide_false, ne_eq, Nat.left_eq_add, Nat.add_eq_left, Nat.add_left_cancel_iff, Nat.add_zero]
      rw [show rEs si w (n + 1) la t acc [] = some acc by simp [rEs]]
      exact ⟨pl, pr, b', rm, hbr, hL, rfl, hP, hu⟩
    | cons b0 r =>
      rw [U50_17]
      simp (disch := omega) only [U50_0, U50_1, U50_4, U50_5, U50_6, U50_9, U50_12, U50_13, U50_14, U50_15, U50_19, U50_22, U50_25, U50_26, U50_29, U50_32, U50_35, U50_36, U50_39, U50_40, U50_43, U50_44, U50_47, U50_50, U50_51, U50_52, U50_55, U50_58, U50_59, k1, k4, u1, Unp_hasMore uo, V105, bz_0, show k < 238 by omega, reduceCtorEq, i_add, i_mul, i_sub, i_addn, i_lt, i_eq, i_idx, i_vp, true_and, and_true, false_and, and_false, if_true, if_false, Nat.reduceAdd, Nat.reduceMul, Nat.reduceSub, Nat.reduceEqDiff, Option.some.injEq, exists_eq_left', true_or, or_true, false_or, or_false, not_true_eq_false, not_false_eq_true, eq_self, and_self, Nat.reduceLeDiff, decide_true, decide_false, ne_eq, Nat.left_eq_add, Nat.add_eq_left, Nat.add_left_cancel_iff, Nat.add_zero]
      rw [List.length_cons] at hlen hr
      refine Wp_use (Lines_nextEvent (n := acc.length) (B := B) (C := C) ⟨k1, k2, k3, k4⟩ p1 e1 hu hP.1 (by omega) (by omega) c1 c3 rm.1 rm.2.1 rm.2.2) ?_
      intro v h1 x
      obtain ⟨ev, pl1, pr1, rfl, y1, bb, rm1, y3, y4, f1⟩ := next_Bd b' hP.1 x
      obtain ⟨ag1, ag2⟩ := b'.agu f1
      have hP1 := hP.next b' f1 y4
      have uo1 := uo.ag ag1 ag2
      have w1 : gI_ h1 (l + 3) 4 = Int32.ofNat w := by rw [ag1.gI _ _ (by omega) (by omega), hw]
      have t1 : gJ_ h1 (l + 3) 5 = Int64.ofNat t := by rw [ag1.gJ _ _ (by omega) (by omega), ht]
      have la1 : ∀ i, i < 240 → gI_ h1 (l + 4) i = la i := fun i hi => by rw [ag1.gI _ _ (by omega) (by omega), hla i hi]
      have br1 : gI_ h1 l 4 = br := by
        rw [(f1.2.2.2 l 4 (by omega) (by
          rintro (z | z | ⟨z, w⟩)
          · omega
          · omega
          · rw [← z] at w; omega)).1, hbr]
      have bb' := bb
      obtain ⟨⟨⟨k1', k2', k3', k4'⟩, u1', u2', u3', u4'⟩, ⟨p1', p2', p3'⟩, ⟨r1', r2'⟩, ⟨e1', e2'⟩, -, ⟨c1', c2', c3'⟩, ⟨d1', d2', d3'⟩, ⟨g1', g2', g3'⟩, q1', q2'⟩ := bb
      have hev := List.mem_of_getElem? y1
      have es := e1' ev hev
      have hS : kd_ h1 sl = 14 := p3'.1
      have hK : kd_ h1 (l + 4) = 30 := u3'
      have hK3 : kd_ h1 (l + 3) = 11 := u1'
      have ke := es.1
      have apU : ev + 4 ≤ l + 3 ∨ l + 3 + 2 ≤ ev := by
        rcases Nat.lt_or_ge (l + 3) (ev + 4) with z | z
        · rcases Nat.lt_or_ge ev (l + 5) with y | y
          · rcases Nat.lt_or_ge (l + 3) ev with x | x
            · have : ev = l + 4 := by omega
              rw [this] at ke; omega
            · have := es.cell (a := l + 3) x z; omega
          · exact Or.inr (by omega)
        · exact Or.inl z
      have kr := r1'.1
      have kr2 := r1'.2.2.1
      have apF : fr + 2 ≤ l + 3 ∨ l + 3 + 2 ≤ fr := by
        rcases Nat.lt_or_ge (l + 3) (fr + 2) with z | z
        · rcases Nat.lt_or_ge fr (l + 5) with y | y
          · rcases (show fr = l + 4 ∨ fr = l + 3 ∨ fr + 1 = l + 3 by omega) with y | y | y
            · rw [y] at kr; omega
            · rw [y] at kr; omega
            · rw [y] at kr2; omega
          · exact Or.inr (by omega)
        · exact Or.inl z
      have afs : ∀ f ∈ fs, ∀ a i, SA f a i → ¬ SV (l + 3) ev a i := by
        intro f hf a i z1 z2
        obtain ⟨ts, fo, ok⟩ := r2'.mem hf
        have ap := es.fo fo
        have hfa : f ≤ a ∧ a < f + 6 := by unfold SA SF SR at z1; omega
        have c := fo.cell hfa.1 hfa.2
        have hl240 : ln_ h1 (l + 4) = 240 := u4'
        unfold SV at z2
        rcases z2 with ⟨rfl, -⟩ | rfl | z2
        · omega
        · rw [show l + 3 + 1 = l + 4 by omega] at c; omega
        · omega
      have asl : ¬ SV (l + 3) ev sl 2 := by
        unfold SV
        rintro (z | z | z | z | z | z)
        · omega
        · omega
        · omega
        · have := es.cell (a := sl) (by omega) (by omega); omega
        · have := es.cell (a := sl) (by omega) (by omega); omega
        · have := es.cell (a := sl) (by omega) (by omega); omega
      simp (disch := omega) only [V47, U50_0, U50_1, U50_4, U50_5, U50_6, U50_9, U50_12, U50_13, U50_14, U50_15, U50_19, U50_22, U50_25, U50_26, U50_29, U50_32, U50_35, U50_36, U50_39, U50_40, U50_43, U50_44, U50_47, U50_50, U50_51, U50_52, U50_55, U50_58, U50_59, u1', i_add, i_mul, i_sub, i_addn, i_lt, i_eq, i_idx, i_vp, true_and, and_true, false_and, and_false, if_true, if_false, Nat.reduceAdd, Nat.reduceMul, Nat.reduceSub, Nat.reduceEqDiff, Option.some.injEq, exists_eq_left', true_or, or_true, false_or, or_false, not_true_eq_false, not_false_eq_true, eq_self, and_self, Nat.reduceLeDiff, decide_true, decide_false, ne_eq, Nat.left_eq_add, Nat.add_eq_left, Nat.add_left_cancel_iff, Nat.add_zero]
      refine Wp_use (Unp_unpacks uo1 es p3' r2' w1 t1 ht2 la1 apU (by have := es.rw r1'; omega) apF afs asl) ?_
      rintro v h2 ⟨f2, z⟩
      have bb2 := bb'.fy f2.fy (by
        unfold SV
        rintro a i (z | z | z | z | z | z)
        · exact Or.inr (Or.inl ⟨z.1, by omega⟩)
        · exact Or.inr (Or.inr (Or.inl z))
        · exact Or.inr (Or.inr (Or.inr ⟨ev, hev, Or.inl ⟨z.1.symm, z.2.1⟩⟩))
        · exact Or.inr (Or.inr (Or.inr ⟨ev, hev, Or.inr (by omega)⟩))
        · exact Or.inr (Or.inr (Or.inr ⟨ev, hev, Or.inr (by omega)⟩))
        · exact Or.inr (Or.inr (Or.inr ⟨ev, hev, Or.inr (by omega)⟩)))
      have rm2 := rm1.fy f2.fy
      have kl := k1'
      have nl : ∀ i, ¬ SV (l + 3) ev l i := by
        unfold SV
        rintro i (z | z | z | z | z | z)
        · omega
        · omega
        · rw [z.1] at kl; omega
        · have := es.cell (a := l) (by omega) (by omega); omega
        · have := es.cell (a := l) (by omega) (by omega); omega
        · have := es.cell (a := l) (by omega) (by omega); omega
      have hL2 : ln_ h2 sr = L ∧ ∃ mo, pl1 = plB ++ mo := by
        refine ⟨by rw [f2.ln, (f1.2.1 sr c2).2]; exact hL.1, ?_⟩
        obtain ⟨mo, hmo⟩ := hL.2
        rcases y4 with y4 | y4
        · exact ⟨mo, by rw [y4, hmo]⟩
        · exact ⟨mo ++ [ev], by rw [y4, hmo, List.append_assoc]⟩
      have br2 : gI_ h2 l 4 = br := by rw [f2.gI (nl 4), br1]
      have hP2 : Pv h2 pl1 acc := hP1.step f2.fb c3' (by
        intro i e hi he a j z1 z2 z
        have hem := List.mem_of_getElem? he
        have hne : e ≠ ev := by
          rintro rfl
          have := (List.getElem?_inj (by have := hP1.1; omega) e2').mp (he.trans y1.symm)
          omega
        have ap := (e1' e hem).es es
        have c := (e1' e hem).cell z1 z2
        have hl240 : ln_ h1 (l + 4) = 240 := u4'
        unfold SV at z
        rcases z with ⟨rfl, -⟩ | rfl | z
        · omega
        · rw [show l + 3 + 1 = l + 4 by omega] at c; omega
        · omega)
      cases hres : rE si la t (b0 :: r) with
      | none =>
        rw [hres] at z
        subst z
        rw [show rEs si w (n + 1) la t acc (b0 :: r) = none by simp only [rEs, hres, Option.bind_none]]
        simp (disch := omega) only [V111, U50_0, U50_1, U50_4, U50_5, U50_6, U50_9, U50_12, U50_13, U50_14, U50_15, U50_19, U50_22, U50_25, U50_26, U50_29, U50_32, U50_35, U50_36, U50_39, U50_40, U50_43, U50_44, U50_47, U50_50, U50_51, U50_52, U50_55, U50_58, U50_59, i_add, i_mul, i_sub, i_addn, i_lt, i_eq, i_idx, i_vp, true_and, and_true, false_and, and_false, if_true, if_false, Nat.reduceAdd, Nat.reduceMul, Nat.reduceSub, Nat.reduceEqDiff, Option.some.injEq, exists_eq_left', true_or, or_true, false_or, or_false, not_true_eq_false, not_false_eq_true, eq_self, and_self, Nat.reduceLeDiff, decide_true, decide_false, ne_eq, Nat.left_eq_add, Nat.add_eq_left, Nat.add_left_cancel_iff, Nat.add_zero]
        exact ⟨pl1, pr1, bb2, rm2, br2, hL2, rfl, (hacc ▸ hP2 : Pv h2 pl1 (acc0 ++ more)).pre⟩
      | some q =>
        obtain ⟨s, t', as, r'⟩ := q
        rw [hres] at z
        obtain ⟨rfl, uo2, ea2, ew2, t2, la2⟩ := z
        obtain ⟨i1, i2, -⟩ := rE_inv hres
        simp only [List.length_cons] at i1
        simp only at i2
        simp (disch := omega) only [V111, U50_0, U50_1, U50_4, U50_5, U50_6, U50_9, U50_12, U50_13, U50_14, U50_15, U50_19, U50_22, U50_25, U50_26, U50_29, U50_32, U50_35, U50_36, U50_39, U50_40, U50_43, U50_44, U50_47, U50_50, U50_51, U50_52, U50_55, U50_58, U50_59, show ¬ (1 : Nat) = 0 by omega, i_add, i_mul, i_sub, i_addn, i_lt, i_eq, i_idx, i_vp, true_and, and_true, false_and, and_false, if_true, if_false, Nat.reduceAdd, Nat.reduceMul, Nat.reduceSub, Nat.reduceEqDiff, Option.some.injEq, exists_eq_left', true_or, or_true, false_or, or_false, not_true_eq_false, not_false_eq_true, eq_self, and_self, Nat.reduceLeDiff, decide_true, decide_false, ne_eq, Nat.left_eq_add, Nat.add_eq_left, Nat.add_left_cancel_iff, Nat.add_zero]
        rw [show rEs si w (n + 1) la t acc (b0 :: r) = rEs si w n (laU la s as) t' (acc ++ [(w, s, t', as)]) r' by simp only [rEs, hres, Option.bind_some]]
        have hlt : acc.length < pl1.length := by
          rcases Nat.lt_or_ge acc.length pl1.length with z | z
          · exact z
          · rw [List.getElem?_eq_none z] at y1; cases y1
        refine ih (k + 1) _ t' _ (more ++ [(w, s, t', as)]) r' h2 pl1 pr1 (by omega) (by omega) bb2 rm2 ?_ br2 hL2 ⟨?_, ?_⟩ (by rw [hacc, List.append_assoc]) ?_ uo2 ?_ t2 i2 la2
        · rw [f2.gI (nl 3), y3, List.length_append, List.length_singleton]
        · rw [List.length_append, List.length_singleton]; omega
        · intro i e x h1 h2
          rcases Nat.lt_or_ge i acc.length with z | z
          · rw [List.getElem?_append_left z] at h2
            exact hP2.2 i e x h1 h2
          · have hi : i = acc.length := by
              rcases Nat.lt_or_ge i (acc.length + 1) with y | y
              · omega
              · rw [List.getElem?_eq_none (by rw [List.length_append, List.length_singleton]; omega)] at h2; cases h2
            subst hi
            rw [List.getElem?_append_right (Nat.le_refl _), Nat.sub_self] at h2
            have := Option.some.inj h2
            subst this
            rw [y1] at h1
            have := Option.some.inj h1
            subst this
            exact ⟨ea2, ew2⟩
        · rw [List.length_append, List.length_singleton]; omega
        · rw [f2.gI (by unfold SV; omega), w1]
end
