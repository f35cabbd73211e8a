/-! ===== the model: count, distinct ===== -/
theorem isNI_of {as : List Arg} {q : Nat} (hq : q < 2147483648) : isNI as (Int32.ofNat q) = isN as q := by
  unfold isNI
  rw [decide_eq_false (by rw [i_lt hq (by omega)]; omega), i_idx hq]
  simp
theorem vlF_snoc {p : Nat → Bool} {v : Nat → Int32} : ∀ n k acc, vlF p v (n + 1) k acc = if p (k + n) = true then v (k + n) :: vlF p v n k acc else vlF p v n k acc := by
  intro n
  induction n with
  | zero => intro k acc; rfl
  | succ n ih =>
    intro k acc
    rw [show vlF p v (n + 1 + 1) k acc = vlF p v (n + 1) (k + 1) (if p k = true then v k :: acc else acc) from rfl, ih, show k + 1 + n = k + (n + 1) by omega]
    rfl
theorem vlF_mem {p : Nat → Bool} {v : Nat → Int32} {x : Int32} : ∀ n, x ∈ vlF p v n 0 [] ↔ ∃ f, f < n ∧ p f = true ∧ v f = x := by
  intro n
  induction n with
  | zero => exact ⟨fun z => absurd z List.not_mem_nil, fun ⟨f, hf, _⟩ => absurd hf (Nat.not_lt_zero _)⟩
  | succ n ih =>
    rw [vlF_snoc, Nat.zero_add]
    by_cases c : p n = true
    · rw [if_pos c, List.mem_cons, ih]
      constructor
      · rintro (z | ⟨f, h1, h2, h3⟩)
        · exact ⟨n, by omega, c, z.symm⟩
        · exact ⟨f, by omega, h2, h3⟩
      · rintro ⟨f, h1, h2, h3⟩
        rcases Nat.lt_or_ge f n with z | z
        · exact Or.inr ⟨f, z, h2, h3⟩
        · obtain rfl : f = n := by omega
          exact Or.inl h3.symm
    · rw [if_neg c, ih]
      constructor
      · rintro ⟨f, h1, h2, h3⟩; exact ⟨f, by omega, h2, h3⟩
      · rintro ⟨f, h1, h2, h3⟩
        rcases Nat.lt_or_ge f n with z | z
        · exact ⟨f, z, h2, h3⟩
        · obtain rfl : f = n := by omega
          exact absurd h2 c
section
variable {h h' : MH_} {m k e : Nat} {tx : List Nat} {si : List (List Tok)} {nm : Nat → List Nat} {ar : List Arg} {wr : Nat → Wr} {fl : List Nat} {du : Nat} {cu : Bool} {es : List Ev} {br : Nat} {tm : List Tm}
theorem PM.sj {r : Value} {h1 : MH_} {k : Nat} (e0 : gI_ (sI_ h m 0 (Int32.ofNat k)) m 0 = Int32.ofNat k) (f0 : Fz (fun a i => a = m ∧ i = 0) h (sI_ h m 0 (Int32.ofNat k))) (f1 : Fz (SJ m) (sI_ h m 0 (Int32.ofNat k)) h1) (Z : MM h1 m tx si nm ar wr fl du cu es br tm) : PM h m r k tx si nm ar wr fl du cu es br tm (.inl r) h1 :=
  ⟨rfl, by rw [f1.gI (by unfold SJ; omega)]; exact e0, (f0.mono (fun a i z => by omega)).trans (f1.mono (fun a i z => by unfold SJ at z; omega)), Z⟩
theorem M_count (ok : ∀ y ∈ es, okL si y) (b1 : ∀ y ∈ es, ∀ i, (prE nm si y).getD i 0 < 256) (b2 : ∀ u, .inr u ∈ tm → ∀ i, u.getD i 0 < 256) (X : MM h m tx si nm ar wr fl du cu es br tm) : Wp 150 0 [.ref m, .null, .null] [] h (PM h m (.int (Int32.ofNat (ctF (fun e => hld nm si tm (es.getD e evD)) es.length 0))) 0 tx si nm ar wr fl du cu es br tm) := by
  obtain ⟨Y, e0, f0⟩ := X.th (k := 0)
  have X0 := X.1
  have key : ∀ n k c h1, k + n = es.length → Fz (SJ m) (sI_ h m 0 (Int32.ofNat 0)) h1 → Wp 150 9 [.ref m, .int (Int32.ofNat c), .int (Int32.ofNat k)] [] h1 (PM h m (.int (Int32.ofNat (c + ctF (fun e => hld nm si tm (es.getD e evD)) n k))) 0 tx si nm ar wr fl du cu es br tm) := by
    intro n
    induction n with
    | zero =>
      intro k c h1 hn f1
      have Z := Y.pj f1
      have Z7 := Z.2.2.2.2.2.2.2.1
      have hl := Z7.2.1
      rw [U150_9]
      simp (disch := omega) only [U150_10, U150_11, U150_14, U150_17, U150_18, U150_19, U150_22, U150_25, U150_26, U150_27, U150_28, U150_31, U150_32, U150_33, U150_36, U150_39, U150_40, Z.1.1, Z7.1, show ¬ k < es.length by omega, ctF, i_add, i_mul, i_sub, i_addn, i_lt, i_eq, i_idx, i_vp, true_and, and_true, false_and, and_false, if_true, if_false, Nat.reduceAdd, Nat.reduceMul, Nat.reduceSub, Nat.reduceEqDiff, Option.some.injEq, exists_eq_left', true_or, or_true, false_or, or_false, not_true_eq_false, not_false_eq_true, eq_self, and_self, Nat.reduceLeDiff, decide_true, decide_false, ne_eq, Nat.left_eq_add, Nat.add_eq_left, Nat.add_left_cancel_iff, Nat.add_zero]
      exact PM.sj e0 f0 f1 Z
    | succ n ih =>
      intro k c h1 hn f1
      have Z := Y.pj f1
      have Z7 := Z.2.2.2.2.2.2.2.1
      have hl := Z7.2.1
      have hy := gD_ev (es := es) (i := k) (by omega)
      rw [U150_9]
      simp (disch := omega) only [U150_10, U150_11, U150_14, U150_17, U150_18, U150_19, Z.1.1, Z7.1, show k < es.length by omega, i_add, i_mul, i_sub, i_addn, i_lt, i_eq, i_idx, i_vp, true_and, and_true, false_and, and_false, if_true, if_false, Nat.reduceAdd, Nat.reduceMul, Nat.reduceSub, Nat.reduceEqDiff, Option.some.injEq, exists_eq_left', true_or, or_true, false_or, or_false, not_true_eq_false, not_false_eq_true, eq_self, and_self, Nat.reduceLeDiff, decide_true, decide_false, ne_eq, Nat.left_eq_add, Nat.add_eq_left, Nat.add_left_cancel_iff, Nat.add_zero]
      refine Wp_use (M_holdAll Z hy ok (b1 _ (List.mem_of_getElem? hy)) b2) ?_
      rintro _ h2 ⟨rfl, f2⟩
      have f12 := f1.trans f2
      unfold ctF
      by_cases c1 : hld nm si tm (es.getD k evD) = true
      · have e1 : bz (hld nm si tm (es.getD k evD) = true) = Int32.ofNat 1 := (bz_t c1).symm
        have := ih (k + 1) (c + 1) h2 (by omega) f12
        rw [if_pos c1, ← Nat.add_assoc]
        simp (disch := omega) only [V161, U150_22, U150_25, U150_26, U150_27, U150_28, U150_31, U150_32, U150_33, U150_36, e1, show ¬ (1 : Nat) = 0 by omega, i_add, i_mul, i_sub, i_addn, i_lt, i_eq, i_idx, i_vp, true_and, and_true, false_and, and_false, if_true, if_false, Nat.reduceAdd, Nat.reduceMul, Nat.reduceSub, Nat.reduceEqDiff, Option.some.injEq, exists_eq_left', true_or, or_true, false_or, or_false, not_true_eq_false, not_false_eq_true, eq_self, and_self, Nat.reduceLeDiff, decide_true, decide_false, ne_eq, Nat.left_eq_add, Nat.add_eq_left, Nat.add_left_cancel_iff, Nat.add_zero]
        exact this
      · have e1 : bz (hld nm si tm (es.getD k evD) = true) = Int32.ofNat 0 := (bz_f c1).symm
        have := ih (k + 1) c h2 (by omega) f12
        rw [if_neg c1, Nat.zero_add]
        simp (disch := omega) only [V161, U150_22, U150_25, U150_26, U150_27, U150_28, U150_31, U150_32, U150_33, U150_36, e1, i_add, i_mul, i_sub, i_addn, i_lt, i_eq, i_idx, i_vp, true_and, and_true, false_and, and_false, if_true, if_false, Nat.reduceAdd, Nat.reduceMul, Nat.reduceSub, Nat.reduceEqDiff, Option.some.injEq, exists_eq_left', true_or, or_true, false_or, or_false, not_true_eq_false, not_false_eq_true, eq_self, and_self, Nat.reduceLeDiff, decide_true, decide_false, ne_eq, Nat.left_eq_add, Nat.add_eq_left, Nat.add_left_cancel_iff, Nat.add_zero]
        exact this
  have k0 := key es.length 0 0 _ (by omega) Fz.rfl'
  rw [Nat.zero_add] at k0
  simp (disch := omega) only [U150_0, U150_1, U150_2, U150_5, U150_6, U150_7, U150_8, X0.1, i_add, i_mul, i_sub, i_addn, i_lt, i_eq, i_idx, i_vp, true_and, and_true, false_and, and_false, if_true, if_false, Nat.reduceAdd, Nat.reduceMul, Nat.reduceSub, Nat.reduceEqDiff, Option.some.injEq, exists_eq_left', true_or, or_true, false_or, or_false, not_true_eq_false, not_false_eq_true, eq_self, and_self, Nat.reduceLeDiff, decide_true, decide_false, ne_eq, Nat.left_eq_add, Nat.add_eq_left, Nat.add_left_cancel_iff, Nat.add_zero]
  exact k0
theorem M_distinct {s : Int32} (ok : ∀ y ∈ es, okL si y) (b1 : ∀ y ∈ es, ∀ i, (prE nm si y).getD i 0 < 256) (b2 : ∀ u, .inr u ∈ tm → ∀ i, u.getD i 0 < 256) (X : MM h m tx si nm ar wr fl du cu es br tm) : Wp 154 0 [.ref m, .int s, .null, .null, .null, .null] [] h (@ite _ (dsK s) (dsD s) (PM h m (.int (Int32.ofNat 0)) 1 tx si nm ar wr fl du cu es br tm) (PM h m (.int (Int32.ofNat (dst (vlF (fun e => cnt nm si tm s.toNatClampNeg (es.getD e evD)) (fun e => numA (es.getD e evD).2.2.2 s.toNatClampNeg) es.length 0 [])))) 0 tx si nm ar wr fl du cu es br tm)) := by
  have X0 := X.1
  by_cases c : dsK s
  · rw [if_pos c]
    have hb : bz (¬ s < Int32.ofNat 0 ∧ ¬ Int32.ofNat 5 < s) = Int32.ofNat 0 := by
      rw [bz_0]
      rintro ⟨z1, z2⟩
      exact c.elim z1 (fun y => z2 (five_six.mpr y))
    obtain ⟨Y, e0, f0⟩ := X.th (k := 1)
    have Z7 := Y.2.2.2.2.2.2.2.1
    have hl := Z7.2.1
    have Y0 := Y.1
    have fin : ∀ r, PM h m r 1 tx si nm ar wr fl du cu es br tm (.inl r) (sI_ h m 0 (Int32.ofNat 1)) := fun r => X.pm
    simp (disch := omega) only [U154_0, U154_1, U154_2, U154_3, U154_4, U154_7, U154_10, U154_11, U154_14, U154_15, U154_18, U154_19, U154_20, U154_21, X0.1, M_within, V207, hb, i_add, i_mul, i_sub, i_addn, i_lt, i_eq, i_idx, i_vp, true_and, and_true, false_and, and_false, if_true, if_false, Nat.reduceAdd, Nat.reduceMul, Nat.reduceSub, Nat.reduceEqDiff, Option.some.injEq, exists_eq_left', true_or, or_true, false_or, or_false, not_true_eq_false, not_false_eq_true, eq_self, and_self, Nat.reduceLeDiff, decide_true, decide_false, ne_eq, Nat.left_eq_add, Nat.add_eq_left, Nat.add_left_cancel_iff, Nat.add_zero]
    generalize sI_ h m 0 (Int32.ofNat 1) = h1 at *
    rw [U154_22]
    by_cases c2 : 0 < es.length
    · simp (disch := omega) only [U154_23, U154_24, U154_27, U154_30, U154_31, U154_34, U154_127, U154_128, Y0.1, Z7.1, e0, c2, show ¬ (1 : Nat) = 0 by omega, i_add, i_mul, i_sub, i_addn, i_lt, i_eq, i_idx, i_vp, true_and, and_true, false_and, and_false, if_true, if_false, Nat.reduceAdd, Nat.reduceMul, Nat.reduceSub, Nat.reduceEqDiff, Option.some.injEq, exists_eq_left', true_or, or_true, false_or, or_false, not_true_eq_false, not_false_eq_true, eq_self, and_self, Nat.reduceLeDiff, decide_true, decide_false, ne_eq, Nat.left_eq_add, Nat.add_eq_left, Nat.add_left_cancel_iff, Nat.add_zero]
      exact fin _
    · simp (disch := omega) only [U154_23, U154_24, U154_27, U154_30, U154_31, U154_34, U154_127, U154_128, Y0.1, Z7.1, e0, c2, i_add, i_mul, i_sub, i_addn, i_lt, i_eq, i_idx, i_vp, true_and, and_true, false_and, and_false, if_true, if_false, Nat.reduceAdd, Nat.reduceMul, Nat.reduceSub, Nat.reduceEqDiff, Option.some.injEq, exists_eq_left', true_or, or_true, false_or, or_false, not_true_eq_false, not_false_eq_true, eq_self, and_self, Nat.reduceLeDiff, decide_true, decide_false, ne_eq, Nat.left_eq_add, Nat.add_eq_left, Nat.add_left_cancel_iff, Nat.add_zero]
      exact fin _
  · rw [if_neg c]
    have c0 : ¬ s < Int32.ofNat 0 := fun z => c (Or.inl z)
    have c6 : s < Int32.ofNat 6 := Classical.byContradiction (fun z => c (Or.inr z))
    have hb : ¬ bz (¬ s < Int32.ofNat 0 ∧ ¬ Int32.ofNat 5 < s) = Int32.ofNat 0 := by
      rw [bz_0]
      exact fun z => z ⟨c0, fun y => five_six.mp y c6⟩
    obtain ⟨Y, e0, f0⟩ := X.th (k := 0)
    simp (disch := omega) only [U154_0, U154_1, U154_2, U154_3, U154_4, U154_7, U154_10, U154_11, U154_14, U154_15, U154_18, U154_19, U154_20, U154_21, X0.1, M_within, V207, hb, i_add, i_mul, i_sub, i_addn, i_lt, i_eq, i_idx, i_vp, true_and, and_true, false_and, and_false, if_true, if_false, Nat.reduceAdd, Nat.reduceMul, Nat.reduceSub, Nat.reduceEqDiff, Option.some.injEq, exists_eq_left', true_or, or_true, false_or, or_false, not_true_eq_false, not_false_eq_true, eq_self, and_self, Nat.reduceLeDiff, decide_true, decide_false, ne_eq, Nat.left_eq_add, Nat.add_eq_left, Nat.add_left_cancel_iff, Nat.add_zero]
    obtain ⟨q, hq, rfl⟩ := i_nat c0
    rw [i_lt hq (by omega)] at c6
    rw [i_idx hq]
    have cn : ∀ y : Ev, (isNI y.2.2.2 (Int32.ofNat q) && hld nm si tm y) = cnt nm si tm q y := fun y => by unfold cnt; rw [isNI_of hq]
    /- what the slots hold where an event counts -/
    have sv : ∀ h1 f, MM h1 m tx si nm ar wr fl du cu es br tm → f < es.length → cnt nm si tm q (es.getD f evD) = true → gI_ h1 (m + 23) (6 * f + q) = numA (es.getD f evD).2.2.2 q := by
      intro h1 f Z hf hc
      have hy := gD_ev (es := es) hf
      have hM := Z.2.2.2.2.2.2.2.1.2.2.2.1 f _ hy
      have hn : isN (es.getD f evD).2.2.2 q = true := by unfold cnt at hc; rw [Bool.and_eq_true] at hc; exact hc.1
      unfold isN at hn
      unfold numA
      cases hg : (es.getD f evD).2.2.2[q]? with
      | none => rw [hg] at hn; simp at hn
      | some g => exact (hM.2.2.2.2 q g hg).1
    generalize hv : (fun e => numA (es.getD e evD).2.2.2 q) = v at *
    generalize hp : (fun e => cnt nm si tm q (es.getD e evD)) = p at *
    have ep : ∀ e, cnt nm si tm q (es.getD e evD) = p e := fun e => by rw [← hp]
    have ev : ∀ e, numA (es.getD e evD).2.2.2 q = v e := fun e => by rw [← hv]
    have key : ∀ n e h1 y4 y5, e + n = es.length → Fz (SJ m) (sI_ h m 0 (Int32.ofNat 0)) h1 → Wp 154 22 [.ref m, .int (Int32.ofNat q), .int (Int32.ofNat (dst (vlF p v e 0 []))), .int (Int32.ofNat e), y4, y5] [] h1 (PM h m (.int (Int32.ofNat (dst (vlF p v es.length 0 [])))) 0 tx si nm ar wr fl du cu es br tm) := by
      intro n
      induction n with
      | zero =>
        intro e h1 y4 y5 he f1
        have Z := Y.pj f1
        have Z7 := Z.2.2.2.2.2.2.2.1
        have hl := Z7.2.1
        obtain rfl : e = es.length := by omega
        rw [U154_22]
        simp (disch := omega) only [U154_23, U154_24, U154_27, U154_30, U154_31, U154_34, U154_127, U154_128, Z.1.1, Z7.1, show ¬ es.length < es.length by omega, i_add, i_mul, i_sub, i_addn, i_lt, i_eq, i_idx, i_vp, true_and, and_true, false_and, and_false, if_true, if_false, Nat.reduceAdd, Nat.reduceMul, Nat.reduceSub, Nat.reduceEqDiff, Option.some.injEq, exists_eq_left', true_or, or_true, false_or, or_false, not_true_eq_false, not_false_eq_true, eq_self, and_self, Nat.reduceLeDiff, decide_true, decide_false, ne_eq, Nat.left_eq_add, Nat.add_eq_left, Nat.add_left_cancel_iff, Nat.add_zero]
        exact PM.sj e0 f0 f1 Z
      | succ n ih =>
        intro e h1 y4 y5 he f1
        have Z := Y.pj f1
        have Z7 := Z.2.2.2.2.2.2.2.1
        have hl := Z7.2.1
        have hel : e < es.length := by omega
        have hy := gD_ev (es := es) hel
        have g0 : gI_ h1 m 0 = Int32.ofNat 0 := by rw [f1.gI (by unfold SJ; omega)]; exact e0
        have vs := vlF_snoc (p := p) (v := v) e 0 []
        rw [Nat.zero_add] at vs
        /- behind the inner loop -/
        have out : ∀ h2 b y5, Fz (SJ m) (sI_ h m 0 (Int32.ofNat 0)) h2 → dst (vlF p v (e + 1) 0 []) = dst (vlF p v e 0 []) + b → (b = 0 ∨ b = 1) → Wp 154 108 [.ref m, .int (Int32.ofNat q), .int (Int32.ofNat (dst (vlF p v e 0 []))), .int (Int32.ofNat e), .int (Int32.ofNat b), .int y5] [] h2 (PM h m (.int (Int32.ofNat (dst (vlF p v es.length 0 [])))) 0 tx si nm ar wr fl du cu es br tm) := by
          intro h2 b y5 f2 hd hb
          have go := ih (e + 1) h2 (.int (Int32.ofNat b)) (.int y5) (by omega) f2
          rw [hd] at go
          generalize dst (vlF p v e 0 []) = D at *
          generalize dst (vlF p v es.length 0 []) = D2 at *
          rcases hb with rfl | rfl
          · simp (disch := omega) only [U154_108, U154_110, U154_113, U154_114, U154_115, U154_116, U154_119, U154_120, U154_121, U154_124, i_add, i_mul, i_sub, i_addn, i_lt, i_eq, i_idx, i_vp, true_and, and_true, false_and, and_false, if_true, if_false, Nat.reduceAdd, Nat.reduceMul, Nat.reduceSub, Nat.reduceEqDiff, Option.some.injEq, exists_eq_left', true_or, or_true, false_or, or_false, not_true_eq_false, not_false_eq_true, eq_self, and_self, Nat.reduceLeDiff, decide_true, decide_false, ne_eq, Nat.left_eq_add, Nat.add_eq_left, Nat.add_left_cancel_iff, Nat.add_zero]
            exact go
          · simp (disch := omega) only [U154_108, U154_110, U154_113, U154_114, U154_115, U154_116, U154_119, U154_120, U154_121, U154_124, show ¬ (1 : Nat) = 0 by omega, i_add, i_mul, i_sub, i_addn, i_lt, i_eq, i_idx, i_vp, true_and, and_true, false_and, and_false, if_true, if_false, Nat.reduceAdd, Nat.reduceMul, Nat.reduceSub, Nat.reduceEqDiff, Option.some.injEq, exists_eq_left', true_or, or_true, false_or, or_false, not_true_eq_false, not_false_eq_true, eq_self, and_self, Nat.reduceLeDiff, decide_true, decide_false, ne_eq, Nat.left_eq_add, Nat.add_eq_left, Nat.add_left_cancel_iff, Nat.add_zero]
            exact go
        have inner : ∀ n f h2, f + n = e → Fz (SJ m) (sI_ h m 0 (Int32.ofNat 0)) h2 → p e = true → (∀ g, g < f → ¬ (p g = true ∧ v g = v e)) → Wp 154 48 [.ref m, .int (Int32.ofNat q), .int (Int32.ofNat (dst (vlF p v e 0 []))), .int (Int32.ofNat e), .int (Int32.ofNat 1), .int (Int32.ofNat f)] [] h2 (PM h m (.int (Int32.ofNat (dst (vlF p v es.length 0 [])))) 0 tx si nm ar wr fl du cu es br tm) := by
          intro n
          induction n with
          | zero =>
            intro f h2 hf f2 hpe hno
            obtain rfl : f = e := by omega
            have o := out h2 1 (Int32.ofNat f) f2 (by
              rw [vs, if_pos hpe]
              simp only [dst]
              rw [if_neg (fun z => by
                obtain ⟨g, g1, g2, g3⟩ := (vlF_mem f).mp z
                exact hno g g1 ⟨g2, g3⟩), Nat.add_comm]) (Or.inr rfl)
            rw [U154_48]
            generalize dst (vlF p v f 0 []) = D at *
            generalize dst (vlF p v es.length 0 []) = D2 at *
            simp (disch := omega) only [U154_50, U154_51, U154_54, U154_56, show ¬ f < f by omega, i_add, i_mul, i_sub, i_addn, i_lt, i_eq, i_idx, i_vp, true_and, and_true, false_and, and_false, if_true, if_false, Nat.reduceAdd, Nat.reduceMul, Nat.reduceSub, Nat.reduceEqDiff, Option.some.injEq, exists_eq_left', true_or, or_true, false_or, or_false, not_true_eq_false, not_false_eq_true, eq_self, and_self, Nat.reduceLeDiff, decide_true, decide_false, ne_eq, Nat.left_eq_add, Nat.add_eq_left, Nat.add_left_cancel_iff, Nat.add_zero]
            exact o
          | succ n ihn =>
            intro f h2 hf f2 hpe hno
            have V := Y.pj f2
            have hfl : f < es.length := by omega
            have hyf := gD_ev (es := es) hfl
            have se := sv h2 e V hel (by rw [ep]; exact hpe)
            rw [ev] at se
            have V0 := V.1
            have go : ∀ h3, Fz (SJ m) (sI_ h m 0 (Int32.ofNat 0)) h3 → ¬ (p f = true ∧ v f = v e) → Wp 154 48 [.ref m, .int (Int32.ofNat q), .int (Int32.ofNat (dst (vlF p v e 0 []))), .int (Int32.ofNat e), .int (Int32.ofNat 1), .int (Int32.ofNat (f + 1))] [] h3 (PM h m (.int (Int32.ofNat (dst (vlF p v es.length 0 [])))) 0 tx si nm ar wr fl du cu es br tm) := fun h3 f3 hn => ihn (f + 1) h3 (by omega) f3 hpe (fun g hg z => by
              rcases Nat.lt_or_ge g f with y | y
              · exact hno g y z
              · obtain rfl : g = f := by omega
                exact hn z)
            rw [U154_48]
            by_cases d : gI_ h2 (m + 23) (6 * f + q) = v e
            · have o : ∀ h3 y, Fz (SJ m) (sI_ h m 0 (Int32.ofNat 0)) h3 → p f = true → Wp 154 108 [.ref m, .int (Int32.ofNat q), .int (Int32.ofNat (dst (vlF p v e 0 []))), .int (Int32.ofNat e), .int (Int32.ofNat 0), .int y] [] h3 (PM h m (.int (Int32.ofNat (dst (vlF p v es.length 0 [])))) 0 tx si nm ar wr fl du cu es br tm) := fun h3 y f3 hpf => out h3 0 y f3 (by
                rw [vs, if_pos hpe]
                simp only [dst]
                rw [if_pos ((vlF_mem e).mpr ⟨f, by omega, hpf, by rw [← ev f, ← sv h2 f V hfl (by rw [ep]; exact hpf)]; exact d⟩), Nat.zero_add, Nat.add_zero]) (Or.inl rfl)
              generalize dst (vlF p v e 0 []) = D at *
              generalize dst (vlF p v es.length 0 []) = D2 at *
              simp (disch := omega) only [U154_50, U154_51, U154_54, U154_56, U154_59, U154_60, U154_63, U154_65, U154_67, U154_68, U154_69, U154_70, U154_71, U154_72, U154_75, U154_77, U154_78, U154_79, U154_80, U154_81, U154_82, U154_85, U154_86, U154_88, U154_89, V0.1, mp31 V0, mk23 V0, mn23 V0, d, se, show f < e by omega, show 6 * f + q < 17400 by omega, show 6 * e + q < 17400 by omega, show ¬ (1 : Nat) = 0 by omega, i_add, i_mul, i_sub, i_addn, i_lt, i_eq, i_idx, i_vp, true_and, and_true, false_and, and_false, if_true, if_false, Nat.reduceAdd, Nat.reduceMul, Nat.reduceSub, Nat.reduceEqDiff, Option.some.injEq, exists_eq_left', true_or, or_true, false_or, or_false, not_true_eq_false, not_false_eq_true, eq_self, and_self, Nat.reduceLeDiff, decide_true, decide_false, ne_eq, Nat.left_eq_add, Nat.add_eq_left, Nat.add_left_cancel_iff, Nat.add_zero]
              refine Wp_use (M_counts V hyf ok (b1 _ (List.mem_of_getElem? hyf)) b2) ?_
              rintro _ h3 ⟨rfl, f3⟩
              rw [cn, ep]
              by_cases pf : p f = true
              · have e1 : bz (p f = true) = Int32.ofNat 1 := (bz_t pf).symm
                simp (disch := omega) only [V151, U154_92, U154_95, U154_96, U154_99, U154_100, U154_102, U154_105, e1, show ¬ (1 : Nat) = 0 by omega, i_add, i_mul, i_sub, i_addn, i_lt, i_eq, i_idx, i_vp, true_and, and_true, false_and, and_false, if_true, if_false, Nat.reduceAdd, Nat.reduceMul, Nat.reduceSub, Nat.reduceEqDiff, Option.some.injEq, exists_eq_left', true_or, or_true, false_or, or_false, not_true_eq_false, not_false_eq_true, eq_self, and_self, Nat.reduceLeDiff, decide_true, decide_false, ne_eq, Nat.left_eq_add, Nat.add_eq_left, Nat.add_left_cancel_iff, Nat.add_zero]
                rw [U154_48]
                by_cases d2 : f + 1 < e
                · simp (disch := omega) only [U154_50, U154_51, U154_54, U154_56, d2, i_add, i_mul, i_sub, i_addn, i_lt, i_eq, i_idx, i_vp, true_and, and_true, false_and, and_false, if_true, if_false, Nat.reduceAdd, Nat.reduceMul, Nat.reduceSub, Nat.reduceEqDiff, Option.some.injEq, exists_eq_left', true_or, or_true, false_or, or_false, not_true_eq_false, not_false_eq_true, eq_self, and_self, Nat.reduceLeDiff, decide_true, decide_false, ne_eq, Nat.left_eq_add, Nat.add_eq_left, Nat.add_left_cancel_iff, Nat.add_zero]
                  exact o h3 _ (f2.trans f3) pf
                · simp (disch := omega) only [U154_50, U154_51, U154_54, U154_56, d2, i_add, i_mul, i_sub, i_addn, i_lt, i_eq, i_idx, i_vp, true_and, and_true, false_and, and_false, if_true, if_false, Nat.reduceAdd, Nat.reduceMul, Nat.reduceSub, Nat.reduceEqDiff, Option.some.injEq, exists_eq_left', true_or, or_true, false_or, or_false, not_true_eq_false, not_false_eq_true, eq_self, and_self, Nat.reduceLeDiff, decide_true, decide_false, ne_eq, Nat.left_eq_add, Nat.add_eq_left, Nat.add_left_cancel_iff, Nat.add_zero]
                  exact o h3 _ (f2.trans f3) pf
              · have e1 : bz (p f = true) = Int32.ofNat 0 := (bz_f pf).symm
                simp (disch := omega) only [V151, U154_92, U154_95, U154_96, U154_99, U154_100, U154_102, U154_105, e1, i_add, i_mul, i_sub, i_addn, i_lt, i_eq, i_idx, i_vp, true_and, and_true, false_and, and_false, if_true, if_false, Nat.reduceAdd, Nat.reduceMul, Nat.reduceSub, Nat.reduceEqDiff, Option.some.injEq, exists_eq_left', true_or, or_true, false_or, or_false, not_true_eq_false, not_false_eq_true, eq_self, and_self, Nat.reduceLeDiff, decide_true, decide_false, ne_eq, Nat.left_eq_add, Nat.add_eq_left, Nat.add_left_cancel_iff, Nat.add_zero]
                exact go h3 (f2.trans f3) (fun z => pf z.1)
            · have g := go h2 f2 (fun z => d (by rw [← z.2, ← ev f]; exact sv h2 f V hfl (by rw [ep]; exact z.1)))
              generalize dst (vlF p v e 0 []) = D at *
              generalize dst (vlF p v es.length 0 []) = D2 at *
              simp (disch := omega) only [U154_50, U154_51, U154_54, U154_56, U154_59, U154_60, U154_63, U154_65, U154_67, U154_68, U154_69, U154_70, U154_71, U154_72, U154_75, U154_77, U154_78, U154_79, U154_80, U154_81, U154_82, U154_85, U154_86, U154_88, U154_89, U154_92, U154_95, U154_96, U154_99, U154_100, U154_102, U154_105, V0.1, mp31 V0, mk23 V0, mn23 V0, d, se, show f < e by omega, show 6 * f + q < 17400 by omega, show 6 * e + q < 17400 by omega, show ¬ (1 : Nat) = 0 by omega, i_add, i_mul, i_sub, i_addn, i_lt, i_eq, i_idx, i_vp, true_and, and_true, false_and, and_false, if_true, if_false, Nat.reduceAdd, Nat.reduceMul, Nat.reduceSub, Nat.reduceEqDiff, Option.some.injEq, exists_eq_left', true_or, or_true, false_or, or_false, not_true_eq_false, not_false_eq_true, eq_self, and_self, Nat.reduceLeDiff, decide_true, decide_false, ne_eq, Nat.left_eq_add, Nat.add_eq_left, Nat.add_left_cancel_iff, Nat.add_zero]
              exact g
        rw [U154_22]
        have i0 := inner e 0
        generalize hD : dst (vlF p v e 0 []) = D at *
        generalize hD2 : dst (vlF p v es.length 0 []) = D2 at *
        simp (disch := omega) only [U154_23, U154_24, U154_27, U154_30, U154_31, U154_34, U154_37, U154_38, U154_39, U154_40, Z.1.1, Z7.1, g0, hel, i_add, i_mul, i_sub, i_addn, i_lt, i_eq, i_idx, i_vp, true_and, and_true, false_and, and_false, if_true, if_false, Nat.reduceAdd, Nat.reduceMul, Nat.reduceSub, Nat.reduceEqDiff, Option.some.injEq, exists_eq_left', true_or, or_true, false_or, or_false, not_true_eq_false, not_false_eq_true, eq_self, and_self, Nat.reduceLeDiff, decide_true, decide_false, ne_eq, Nat.left_eq_add, Nat.add_eq_left, Nat.add_left_cancel_iff, Nat.add_zero]
        refine Wp_use (M_counts Z hy ok (b1 _ (List.mem_of_getElem? hy)) b2) ?_
        rintro _ h3 ⟨rfl, f3⟩
        rw [cn, ep]
        by_cases pe : p e = true
        · have e1 : bz (p e = true) = Int32.ofNat 1 := (bz_t pe).symm
          simp (disch := omega) only [V151, U154_43, U154_45, U154_46, e1, i_add, i_mul, i_sub, i_addn, i_lt, i_eq, i_idx, i_vp, true_and, and_true, false_and, and_false, if_true, if_false, Nat.reduceAdd, Nat.reduceMul, Nat.reduceSub, Nat.reduceEqDiff, Option.some.injEq, exists_eq_left', true_or, or_true, false_or, or_false, not_true_eq_false, not_false_eq_true, eq_self, and_self, Nat.reduceLeDiff, decide_true, decide_false, ne_eq, Nat.left_eq_add, Nat.add_eq_left, Nat.add_left_cancel_iff, Nat.add_zero]
          exact i0 h3 (by omega) (f1.trans f3) pe (fun g hg => absurd hg (Nat.not_lt_zero _))
        · have e1 : bz (p e = true) = Int32.ofNat 0 := (bz_f pe).symm
          have o := out h3 0 (Int32.ofNat 0) (f1.trans f3) (by rw [vs, if_neg pe, hD, Nat.add_zero]) (Or.inl rfl)
          simp (disch := omega) only [V151, U154_43, U154_45, U154_46, e1, i_add, i_mul, i_sub, i_addn, i_lt, i_eq, i_idx, i_vp, true_and, and_true, false_and, and_false, if_true, if_false, Nat.reduceAdd, Nat.reduceMul, Nat.reduceSub, Nat.reduceEqDiff, Option.some.injEq, exists_eq_left', true_or, or_true, false_or, or_false, not_true_eq_false, not_false_eq_true, eq_self, and_self, Nat.reduceLeDiff, decide_true, decide_false, ne_eq, Nat.left_eq_add, Nat.add_eq_left, Nat.add_left_cancel_iff, Nat.add_zero]
          rw [U154_48]
          by_cases d2 : 0 < e
          · simp (disch := omega) only [U154_50, U154_51, U154_54, U154_56, d2, i_add, i_mul, i_sub, i_addn, i_lt, i_eq, i_idx, i_vp, true_and, and_true, false_and, and_false, if_true, if_false, Nat.reduceAdd, Nat.reduceMul, Nat.reduceSub, Nat.reduceEqDiff, Option.some.injEq, exists_eq_left', true_or, or_true, false_or, or_false, not_true_eq_false, not_false_eq_true, eq_self, and_self, Nat.reduceLeDiff, decide_true, decide_false, ne_eq, Nat.left_eq_add, Nat.add_eq_left, Nat.add_left_cancel_iff, Nat.add_zero]
            exact o
          · simp (disch := omega) only [U154_50, U154_51, U154_54, U154_56, d2, i_add, i_mul, i_sub, i_addn, i_lt, i_eq, i_idx, i_vp, true_and, and_true, false_and, and_false, if_true, if_false, Nat.reduceAdd, Nat.reduceMul, Nat.reduceSub, Nat.reduceEqDiff, Option.some.injEq, exists_eq_left', true_or, or_true, false_or, or_false, not_true_eq_false, not_false_eq_true, eq_self, and_self, Nat.reduceLeDiff, decide_true, decide_false, ne_eq, Nat.left_eq_add, Nat.add_eq_left, Nat.add_left_cancel_iff, Nat.add_zero]
            exact o
    have k0 := key es.length 0 _ .null .null (by omega) Fz.rfl'
    rw [show dst (vlF p v 0 0 []) = 0 from rfl] at k0
    exact k0
end
