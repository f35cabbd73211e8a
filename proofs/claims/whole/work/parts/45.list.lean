/-! ===== ArrayList ===== -/
/-- a list's array: the empty one, or one of its own -/
def Aa (h : MH_) (arr : Nat) (xs : List Nat) : Prop := (xs = [] ∧ arr = em_ h ∧ kd_ h arr = 38 ∧ ln_ h arr = 0) ∨ (kd_ h arr = 34 ∧ 10 ≤ ln_ h arr ∧ ln_ h arr ≤ 500000 ∧ xs.length ≤ ln_ h arr ∧ ∀ i (hi : i < xs.length), gP_ h arr i = some xs[i])
def Al (h : MH_) (a arr : Nat) (xs : List Nat) : Prop := kd_ h a = 14 ∧ gP_ h a 1 = some arr ∧ gI_ h a 2 = Int32.ofNat xs.length ∧ Aa h arr xs
theorem Al.len {h : MH_} {a arr : Nat} {xs : List Nat} (hl : Al h a arr xs) : xs.length ≤ 500000 := by
  rcases hl.2.2.2 with ⟨rfl, -⟩ | ⟨-, -, h1, h2, -⟩
  · exact Nat.zero_le _
  · omega
theorem Al.fz {S : Nat → Nat → Prop} {h h' : MH_} {a arr : Nat} {xs : List Nat} (hl : Al h a arr xs) (z : Fz S h h') (h2 : ¬ S a 2) : Al h' a arr xs := by
  obtain ⟨a1, a2, a3, a4⟩ := hl
  refine ⟨by rw [z.kd, a1], by rw [z.gP, a2], by rw [z.gI h2, a3], ?_⟩
  rcases a4 with ⟨b1, b2, b3, b4⟩ | ⟨b1, b2, b3, b4, b5⟩
  · exact Or.inl ⟨b1, by rw [z.em, b2], by rw [z.kd, b3], by rw [z.ln, b4]⟩
  · exact Or.inr ⟨by rw [z.kd, b1], by rw [z.ln]; exact b2, by rw [z.ln]; exact b3, by rw [z.ln]; exact b4, fun i hi => by rw [z.gP, b5 i hi]⟩
theorem AL_size {h : MH_} {a arr : Nat} {xs : List Nat} {Q : Rs_ → MH_ → Prop} (hl : Al h a arr xs) : Wp 219 0 [.ref a] [] h Q ↔ Q (.inl (.int (Int32.ofNat xs.length))) h := by
  simp (disch := omega) only [U219_0, U219_1, U219_4, hl.1, hl.2.2.1, true_and, and_true, false_and, and_false, if_true, if_false, Nat.reduceAdd, Nat.reduceMul, Nat.reduceSub, Nat.reduceEqDiff, Option.some.injEq, exists_eq_left', true_or, or_true, false_or, or_false, not_true_eq_false, not_false_eq_true, eq_self, and_self, Nat.reduceLeDiff, decide_true, decide_false, ne_eq, Nat.left_eq_add, Nat.add_eq_left, Nat.add_left_cancel_iff, Nat.add_zero]
theorem AL_get {h : MH_} {a arr i : Nat} {xs : List Nat} {Q : Rs_ → MH_ → Prop} (hl : Al h a arr xs) (hi : i < xs.length) : Wp 215 0 [.ref a, .int (Int32.ofNat i)] [] h Q ↔ Q (.inl (.ref xs[i])) h := by
  have hn := hl.len
  obtain ⟨a1, a2, a3, a4⟩ := hl
  rcases a4 with ⟨b1, b2, b3, b4⟩ | ⟨b1, b2, b3, b4, b5⟩
  · rw [b1] at hi; exact absurd hi (Nat.not_lt_zero _)
  · simp (disch := omega) only [U215_0, U215_1, U215_2, U215_5, U215_8, U215_9, U215_10, U215_11, U215_14, U228_0, U228_1, U228_2, U228_3, U228_6, V228, U229_0, U229_1, U229_4, U229_5, U229_6, U229_10, U229_11, U229_16, U229_17, V229, U214_0, U214_1, U214_4, U214_5, U214_6, V214, a1, a2, a3, b1, b5 i hi, show ¬ i < 0 by omega, hi, show i < ln_ h arr by omega, show (34 : Nat) ≤ 34 by decide, show (34 : Nat) ≤ 36 by decide, i_add, i_mul, i_sub, i_addn, i_lt, i_eq, i_idx, i_vp, true_and, and_true, false_and, and_false, if_true, if_false, Nat.reduceAdd, Nat.reduceMul, Nat.reduceSub, Nat.reduceEqDiff, Option.some.injEq, exists_eq_left', true_or, or_true, false_or, or_false, not_true_eq_false, not_false_eq_true, eq_self, and_self, Nat.reduceLeDiff, decide_true, decide_false, ne_eq, Nat.left_eq_add, Nat.add_eq_left, Nat.add_left_cancel_iff, Nat.add_zero]
/-- no new cell; all that may change is at S -/
def Fy (S : Nat → Nat → Prop) (h h' : MH_) : Prop := (∀ a, kd_ h' a = kd_ h a) ∧ (∀ a, ln_ h' a = ln_ h a) ∧ (nx_ h' = nx_ h ∧ rc_ h' = rc_ h ∧ rs_ h' = rs_ h ∧ em_ h' = em_ h ∧ mi_ h' = mi_ h) ∧ ∀ a i, ¬ S a i → gI_ h' a i = gI_ h a i ∧ gJ_ h' a i = gJ_ h a i ∧ gP_ h' a i = gP_ h a i
theorem Fy.rfl' {S : Nat → Nat → Prop} {h : MH_} : Fy S h h := ⟨fun _ => rfl, fun _ => rfl, ⟨rfl, rfl, rfl, rfl, rfl⟩, fun _ _ _ => ⟨rfl, rfl, rfl⟩⟩
theorem Fy.trans {S : Nat → Nat → Prop} {h h' h'' : MH_} (f : Fy S h h') (g : Fy S h' h'') : Fy S h h'' := by
  obtain ⟨f1, f2, ⟨f4, f5, f6, f7, f8⟩, f9⟩ := f
  obtain ⟨g1, g2, ⟨g4, g5, g6, g7, g8⟩, g9⟩ := g
  exact ⟨fun a => (g1 a).trans (f1 a), fun a => (g2 a).trans (f2 a), ⟨g4.trans f4, g5.trans f5, g6.trans f6, g7.trans f7, g8.trans f8⟩,
    fun a i ha => ⟨((g9 a i ha).1).trans (f9 a i ha).1, ((g9 a i ha).2.1).trans (f9 a i ha).2.1, ((g9 a i ha).2.2).trans (f9 a i ha).2.2⟩⟩
theorem Fy.mono {S T : Nat → Nat → Prop} {h h' : MH_} (f : Fy S h h') (hs : ∀ a i, S a i → T a i) : Fy T h h' := ⟨f.1, f.2.1, f.2.2.1, fun a i ha => f.2.2.2 a i (fun z => ha (hs a i z))⟩
theorem Fz.fy {S : Nat → Nat → Prop} {h h' : MH_} (f : Fz S h h') : Fy S h h' := ⟨f.1, f.2.1, f.2.2.2.1, fun a i ha => ⟨(f.2.2.2.2 a i ha).1, (f.2.2.2.2 a i ha).2, f.2.2.1 a i⟩⟩
theorem Fy.sI {S : Nat → Nat → Prop} {h h' : MH_} (f : Fy S h h') {a j : Nat} {x : Int32} (ha : S a j) : Fy S h (sI_ h' a j x) := f.trans (Fz.rfl'.sI ha).fy
theorem Fy.sJ {S : Nat → Nat → Prop} {h h' : MH_} (f : Fy S h h') {a j : Nat} {x : Int64} (ha : S a j) : Fy S h (sJ_ h' a j x) := f.trans (Fz.rfl'.sJ ha).fy
theorem Fy.sP {S : Nat → Nat → Prop} {h h' : MH_} (f : Fy S h h') {a j : Nat} {x : Option Nat} (ha : S a j) : Fy S h (sP_ h' a j x) := by
  refine f.trans ⟨fun _ => rfl, fun _ => rfl, ⟨rfl, rfl, rfl, rfl, rfl⟩, fun b i hb => ⟨rfl, rfl, ?_⟩⟩
  rw [z_gP_sP]
  split
  · rename_i z; obtain ⟨rfl, rfl⟩ := z; exact (hb ha).elim
  · rfl
theorem Fy.fa {S : Nat → Nat → Prop} {h h' : MH_} (f : Fy S h h') : Fa S 0 0 h h' := by
  obtain ⟨f1, f2, ⟨f4, f5, f6, f7, f8⟩, f9⟩ := f
  exact ⟨by omega, fun a _ => f1 a, fun a _ => f2 a, by omega, by omega, f7, f8, fun a i _ ha => f9 a i ha⟩
def SL (a arr : Nat) : Nat → Nat → Prop := fun b i => (b = a ∧ (i = 0 ∨ i = 2)) ∨ b = arr
theorem AL_clear {h : MH_} {a arr : Nat} {xs : List Nat} (hl : Al h a arr xs) (ne : ¬ a = arr) : Wp 213 0 [.ref a, .null, .null, .null] [] h (fun v h' => v = .inl .null ∧ Al h' a arr [] ∧ Fy (SL a arr) h h') := by
  have hn := hl.len
  obtain ⟨a1, a2, a3, a4⟩ := hl
  have key : ∀ n k u, k + n = xs.length → Fy (SL a arr) h u → gP_ u a 1 = some arr → gI_ u a 2 = Int32.ofNat 0 → Wp 213 27 [.ref a, .ref arr, .int (Int32.ofNat xs.length), .int (Int32.ofNat k)] [] u (fun v h' => v = .inl .null ∧ Al h' a arr [] ∧ Fy (SL a arr) h h') := by
    intro n
    induction n with
    | zero =>
      intro k u hk z g1 g2
      rw [U213_27]
      simp (disch := omega) only [U213_0, U213_1, U213_2, U213_5, U213_6, U213_7, U213_10, U213_11, U213_14, U213_15, U213_16, U213_19, U213_20, U213_21, U213_22, U213_23, U213_26, U213_28, U213_29, U213_32, U213_33, U213_34, U213_35, U213_36, U213_39, U213_42, show ¬ k < xs.length by omega, i_add, i_mul, i_sub, i_addn, i_lt, i_eq, i_idx, i_vp, true_and, and_true, false_and, and_false, if_true, if_false, Nat.reduceAdd, Nat.reduceMul, Nat.reduceSub, Nat.reduceEqDiff, Option.some.injEq, exists_eq_left', true_or, or_true, false_or, or_false, not_true_eq_false, not_false_eq_true, eq_self, and_self, Nat.reduceLeDiff, decide_true, decide_false, ne_eq, Nat.left_eq_add, Nat.add_eq_left, Nat.add_left_cancel_iff, Nat.add_zero]
      refine ⟨⟨by rw [z.1, a1], g1, g2, ?_⟩, z⟩
      rcases a4 with ⟨b1, b2, b3, b4⟩ | ⟨b1, b2, b3, b4, b5⟩
      · exact Or.inl ⟨rfl, by rw [z.2.2.1.2.2.2.1, b2], by rw [z.1, b3], by rw [z.2.1, b4]⟩
      · exact Or.inr ⟨by rw [z.1, b1], by rw [z.2.1]; exact b2, by rw [z.2.1]; exact b3, Nat.zero_le _, fun i hi => absurd hi (Nat.not_lt_zero _)⟩
    | succ n ih =>
      intro k u hk z g1 g2
      rcases a4 with ⟨b1, b2, b3, b4⟩ | ⟨b1, b2, b3, b4, b5⟩
      · rw [b1] at hk; exact absurd hk (by simp)
      · have c1 : kd_ u arr = 34 := by rw [z.1, b1]
        have c2 : ln_ u arr = ln_ h arr := z.2.1 arr
        rw [U213_27]
        simp (disch := omega) only [U213_0, U213_1, U213_2, U213_5, U213_6, U213_7, U213_10, U213_11, U213_14, U213_15, U213_16, U213_19, U213_20, U213_21, U213_22, U213_23, U213_26, U213_28, U213_29, U213_32, U213_33, U213_34, U213_35, U213_36, U213_39, U213_42, c1, c2, show k < xs.length by omega, show k < ln_ h arr by omega, i_add, i_mul, i_sub, i_addn, i_lt, i_eq, i_idx, i_vp, true_and, and_true, false_and, and_false, if_true, if_false, Nat.reduceAdd, Nat.reduceMul, Nat.reduceSub, Nat.reduceEqDiff, Option.some.injEq, exists_eq_left', true_or, or_true, false_or, or_false, not_true_eq_false, not_false_eq_true, eq_self, and_self, Nat.reduceLeDiff, decide_true, decide_false, ne_eq, Nat.left_eq_add, Nat.add_eq_left, Nat.add_left_cancel_iff, Nat.add_zero]
        refine ih (k + 1) _ (by omega) (z.sP (Or.inr rfl)) ?_ ?_
        · rw [z_gP_sP, if_neg (fun y => ne y.1), g1]
        · exact g2
  simp (disch := omega) only [U213_0, U213_1, U213_2, U213_5, U213_6, U213_7, U213_10, U213_11, U213_14, U213_15, U213_16, U213_19, U213_20, U213_21, U213_22, U213_23, U213_26, U213_28, U213_29, U213_32, U213_33, U213_34, U213_35, U213_36, U213_39, U213_42, z_kd_sI, z_ln_sI, z_gI_sI, z_gJ_sI, z_gP_sI, z_nx_sI, z_rc_sI, z_rs_sI, z_em_sI, z_mi_sI, z_kd_sJ, z_ln_sJ, z_gI_sJ, z_gJ_sJ, z_gP_sJ, z_nx_sJ, z_rc_sJ, z_rs_sJ, z_em_sJ, z_mi_sJ, z_kd_sP, z_ln_sP, z_gI_sP, z_gJ_sP, z_gP_sP, z_nx_sP, z_rc_sP, z_rs_sP, z_em_sP, z_mi_sP, z_kd_nw, z_ln_nw, z_gI_nw, z_gJ_nw, z_gP_nw, z_nx_nw, z_rc_nw, z_rs_nw, z_em_nw, z_mi_nw, z_kd_cI, z_ln_cI, z_gI_cI, z_gJ_cI, z_gP_cI, z_nx_cI, z_rc_cI, z_rs_cI, z_em_cI, z_mi_cI, z_kd_cP, z_ln_cP, z_gI_cP, z_gJ_cP, z_gP_cP, z_nx_cP, z_rc_cP, z_rs_cP, z_em_cP, z_mi_cP, z_kd_wI, z_ln_wI, z_gI_wI, z_gJ_wI, z_gP_wI, z_nx_wI, z_rc_wI, z_rs_wI, z_em_wI, z_mi_wI, z_kd_wJ, z_ln_wJ, z_gI_wJ, z_gJ_wJ, z_gP_wJ, z_nx_wJ, z_rc_wJ, z_rs_wJ, z_em_wJ, z_mi_wJ, a1, a2, a3, i_add, i_mul, i_sub, i_addn, i_lt, i_eq, i_idx, i_vp, true_and, and_true, false_and, and_false, if_true, if_false, Nat.reduceAdd, Nat.reduceMul, Nat.reduceSub, Nat.reduceEqDiff, Option.some.injEq, exists_eq_left', true_or, or_true, false_or, or_false, not_true_eq_false, not_false_eq_true, eq_self, and_self, Nat.reduceLeDiff, decide_true, decide_false, ne_eq, Nat.left_eq_add, Nat.add_eq_left, Nat.add_left_cancel_iff, Nat.add_zero]
  refine key xs.length 0 _ (by omega) ((Fy.rfl'.sI (Or.inl ⟨rfl, Or.inl rfl⟩)).sI (Or.inl ⟨rfl, Or.inr rfl⟩)) ?_ ?_
  · exact a2
  · rw [z_gI_sI, if_pos ⟨rfl, rfl⟩]
