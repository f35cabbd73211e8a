/-! ===== the class: flush, rotate, crash ===== -/
theorem vrF_ne : ∀ n v, vrF n v ≠ []
  | 0, v => by simp [vrF]
  | n + 1, v => by unfold vrF; split <;> simp
theorem pkE_ne {s dt : Nat} {la : Nat → Int32} {as : List Arg} : pkE s dt la as ≠ [] := by
  unfold pkE
  intro h
  have := List.append_eq_nil_iff.mp h
  exact vrF_ne _ _ (List.append_eq_nil_iff.mp this.1).1
theorem pkP_inv : ∀ l : List Pd, ((pkP l).1 = [] ↔ l = []) ∧ ((pkP l).2.2.2 = true ↔ l = []) := by
  intro l
  rcases List.eq_nil_or_concat l with rfl | ⟨m, p, rfl⟩
  · exact ⟨⟨fun _ => rfl, fun _ => rfl⟩, ⟨fun _ => rfl, fun _ => rfl⟩⟩
  · rw [List.concat_eq_append, pkP_snoc]
    refine ⟨⟨fun h => ?_, fun h => by simp at h⟩, ⟨fun h => by simp [pk1] at h, fun h => by simp at h⟩⟩
    exact absurd (List.append_eq_nil_iff.mp h).2 pkE_ne
def wrS (wr : Nat → Wr) (w : Nat) (v : Wr) : Nat → Wr := fun q => if q = w then v else wr q
def bkW (w : Nat) (q : Wr) : List Nat := blk w q.2.2 (Int64.ofNat (hdT q.1)) (pkP q.1).1
section
variable {h h' : MH_} {x B C n w : Nat} {T : Nat → Nat → Prop} {tx : List Nat} {si : List (List Tok)} {nm : Nat → List Nat} {ar : List Arg} {wr : Nat → Wr} {fl : List Nat} {du : Nat} {cu : Bool} {es : List Ev} {br : Nat} {tm : List Tm}
theorem XB.upd {v : Wr} (X : XB h x wr) (f : Fb T h h') (hx : x + 104 ≤ nx_ h) (hT : ∀ a i, T a i → (x + 55 + 4 * w ≤ a ∧ a < x + 59 + 4 * w) ∨ a < x + 55 ∨ x + 71 ≤ a) (hb : ∃ ft, Bk h' (x + 55 + 4 * w) w v.2.2 ft (Int64.ofNat v.2.1) (pkP v.1).1 (pkP v.1).2.1 ∧ (v.1 ≠ [] → ft = Int64.ofNat (hdT v.1))) : XB h' x (wrS wr w v) := by
  intro q hq
  unfold wrS
  by_cases hqw : q = w
  · subst hqw
    rw [if_pos rfl]
    exact hb
  · rw [if_neg hqw]
    obtain ⟨ft, b, e⟩ := X q hq
    exact ⟨ft, b.ag (f.ag (by omega) (fun a i z w y => by have := hT a i y; omega)), e⟩
theorem Block_moveTo' {b f w o : Nat} {ft lt : Int64} {fl ev : List Nat} {la : Nat → Int32} (hb : Bk h b w o ft lt ev la) (hf : Fi h f) (hfl : Rw h (f + 1) 6144 fl) (hw : w < 256) (hl : fl.length + 256 ≤ 6144) (ap : b + 4 ≤ f ∨ f + 3 ≤ b) : Wp 6 0 [.ref b, .ref f] [] h (fun v h' => v = .inl .null ∧ Rw h' (f + 1) 6144 (fl ++ blk w o ft ev) ∧ Bk h' b w (o + 1) ft lt [] (fun _ => Int32.ofNat 0) ∧ Fz (fun a i => SR (f + 1) a i ∨ (b ≤ a ∧ a < b + 4)) h h') := by
  obtain ⟨b1, b2, b3, b4, b5, b6, b7⟩ := hb
  refine Wp_use (Block_moveTo b1 b2 hf hfl b3 b4 b5 hw hl ap) ?_
  rintro _ h1 ⟨rfl, c1, c2, c3, c4, f1⟩
  exact ⟨rfl, c1, ⟨b1.fz f1, c2, by rw [f1.gI (by unfold SR; omega)]; exact b3, c4, by rw [f1.gJ (by unfold SR; omega)]; exact b5, by rw [f1.gJ (by unfold SR; omega)]; exact b6, c3⟩, f1.mono (fun a i z => by unfold SR at z ⊢; omega)⟩
def wrI (w : Int32) : Prop := ¬ w < Int32.ofNat 0 ∧ w.toNatClampNeg < 4
def wrD (w : Int32) : Decidable (wrI w) := inferInstanceAs (Decidable (_ ∧ _))
theorem EL_isWI {w : Int32} {Q : Rs_ → MH_ → Prop} : Wp 125 0 [.int w] [] h Q ↔ Q (.inl (.int (@bz (wrI w) (wrD w)))) h := by
  by_cases hw : w < Int32.ofNat 0
  · rw [EL_isWriter_n hw, @bz_f _ (wrD w) (fun z => z.1 hw)]
  · obtain ⟨m, hm, rfl⟩ := i_nat hw
    rw [EL_isWriter hm]
    by_cases h4 : m < 4
    · rw [← bz_t h4, @bz_t _ (wrD _) ⟨hw, by rw [i_idx hm]; exact h4⟩]
    · rw [← bz_f h4, @bz_f _ (wrD _) (fun z => h4 (by have := z.2; rw [i_idx hm] at this; exact this))]
/-- what a flush writes, and what it leaves -/
def flF (fl : List Nat) (w : Nat) (q : Wr) : List Nat := if q.1.length = 0 then fl else fl ++ bkW w q
def wrF (q : Wr) : Wr := if q.1.length = 0 then q else ([], q.2.1, q.2.2 + 1)
theorem wrS_id {wr : Nat → Wr} {w : Nat} {X : XB h x wr} (hh : XB h' x wr) : XB h' x (wrS wr w (wr w)) := by
  have : wrS wr w (wr w) = wr := by
    funext q
    unfold wrS
    split
    · rename_i e; rw [e]
    · rfl
  rw [this]; exact hh
theorem EL_flush {w : Int32} (E : EL h x (B + 20) (C + 20000) tx si nm ar wr fl du cu es br tm) : Wp 123 0 [.ref x, .int w, .null] [] h (@ite _ (wrI w) (wrD w) (if cu = true then PZ h x B C (.inr 23) tx si nm ar wr fl du cu es br tm else if ¬ (wr w.toNatClampNeg).1.length = 0 ∧ 6144 < fl.length + 256 then PZ h x B C (.inr 20) tx si nm ar wr fl du cu es br tm else PZ h x B C (.inl (.int (Int32.ofNat ((flF fl w.toNatClampNeg (wr w.toNatClampNeg)).length / 256)))) tx si nm ar (wrS wr w.toNatClampNeg (wrF (wr w.toNatClampNeg))) (flF fl w.toNatClampNeg (wr w.toNatClampNeg)) (flF fl w.toNatClampNeg (wr w.toNatClampNeg)).length cu es br tm) (PZ h x B C (.inr 21) tx si nm ar wr fl du cu es br tm)) := by
  have E' := E
  have hx := E.nx
  obtain ⟨rm1, rm2⟩ := E.room
  obtain ⟨t1, t2, a1, a2, d, sA, fs, pl, pr, sr, nA, H, Tt, R, P, F, Bq, I, Qq, N, L⟩ := E
  have H' := H
  obtain ⟨k1, ⟨g0, g1, g2, g3, g4⟩, ⟨g5, g6, g7, g8, g9, g10, g11, g12⟩, ⟨g13, g14, g15⟩⟩ := H
  obtain ⟨F1, F2, F3, F4, F5⟩ := F
  have hl := F2.2.2.2.2.2.1
  by_cases c1 : wrI w
  · rw [if_pos c1]
    have b1 : ¬ (@bz (wrI w) (wrD w)) = Int32.ofNat 0 := by rw [@bz_0 _ (wrD w)]; exact fun z => z c1
    obtain ⟨m, hm, rfl⟩ := i_nat c1.1
    have ei := i_idx hm
    have hm4 : m < 4 := by have := c1.2; rw [ei] at this; exact this
    rw [ei]
    by_cases c2 : cu = true
    · rw [if_pos c2]
      have F4' : gI_ h (x + 23) 2 = Int32.ofNat 1 := by rw [F4]; exact (bz_t c2).symm
      simp (disch := omega) only [U123_0, U123_1, U123_4, U123_7, U123_10, U123_15, U123_16, U123_19, U123_22, U123_25, U123_28, U123_33, U123_34, U123_37, U123_38, U123_39, U123_40, U123_41, U123_44, U123_47, U123_48, U123_51, U123_54, U123_57, U123_60, U123_65, U123_66, U123_67, U123_70, U123_73, U123_74, U123_77, U123_80, U123_81, U123_84, U123_87, U123_90, U123_91, EL_isWI, V125, b1, k1, g8, F1.1, U57_0, U57_1, U57_4, V57, F4', show ¬ (1 : Nat) = 0 by omega, show 1 ≤ rc_ h by omega, show 6 ≤ rs_ h by omega, i_add, i_mul, i_sub, i_addn, i_lt, i_eq, i_idx, i_vp, true_and, and_true, false_and, and_false, if_true, if_false, Nat.reduceAdd, Nat.reduceMul, Nat.reduceSub, Nat.reduceEqDiff, Option.some.injEq, exists_eq_left', true_or, or_true, false_or, or_false, not_true_eq_false, not_false_eq_true, eq_self, and_self, Nat.reduceLeDiff, decide_true, decide_false, ne_eq, Nat.left_eq_add, Nat.add_eq_left, Nat.add_left_cancel_iff, Nat.add_zero]
      exact E'.thr
    · rw [if_neg c2]
      have F4' : gI_ h (x + 23) 2 = Int32.ofNat 0 := by rw [F4]; exact (bz_f c2).symm
      obtain ⟨ft, bk, hft⟩ := Bq m hm4
      have hev := (pkP_inv (wr m).1).1
      have hel := bk.2.1.2.2.2.2.2.1
      -- the end, with what was written
      have fin : ∀ h1 fl' v, Fz (fun a i => (x + 23 ≤ a ∧ a < x + 26) ∨ (x + 55 + 4 * m ≤ a ∧ a < x + 59 + 4 * m)) h h1 → Rw h1 (x + 23 + 1) 6144 fl' → gI_ h1 (x + 23) 2 = gI_ h (x + 23) 2 → XB h1 x (wrS wr m v) → Wp 123 73 [.ref x, .int (Int32.ofNat m), .ref (x + 55 + 4 * m)] [] h1 (PZ h x B C (.inl (.int (Int32.ofNat (fl'.length / 256)))) tx si nm ar (wrS wr m v) fl' fl'.length cu es br tm) := by
        intro h1 fl' v f1 r1 e2 xb
        have hl1 := r1.2.2.2.2.2.1
        have F1' := F1.fz f1
        have f2 : Fz (fun a i => a = x + 23 ∧ i = 1) h1 (sI_ h1 (x + 23) 1 (Int32.ofNat fl'.length)) := Fz.rfl'.sI ⟨rfl, rfl⟩
        have r2 := r1.fz f2 (by unfold SR; intro a i z w; omega)
        have F1'' := F1'.fz f2
        have hd : Int32.ofNat fl'.length / Int32.ofNat 256 = Int32.ofNat (fl'.length / 256) := (Int32.ofNat_div (by omega) (by omega)).symm
        simp (disch := omega) only [U123_73, U123_74, U123_77, f1.kd, f1.gP, k1, g8, F1'.1, F1.1, F1.2, F2.1, U59_0, U59_1, U59_2, U59_5, U59_8, U59_11, Row_held r1, V89, V59, i_add, i_mul, i_sub, i_addn, i_lt, i_eq, i_idx, i_vp, true_and, and_true, false_and, and_false, if_true, if_false, Nat.reduceAdd, Nat.reduceMul, Nat.reduceSub, Nat.reduceEqDiff, Option.some.injEq, exists_eq_left', true_or, or_true, false_or, or_false, not_true_eq_false, not_false_eq_true, eq_self, and_self, Nat.reduceLeDiff, decide_true, decide_false, ne_eq, Nat.left_eq_add, Nat.add_eq_left, Nat.add_left_cancel_iff, Nat.add_zero]
        simp (disch := omega) only [U123_80, U123_81, U123_84, U123_87, U123_90, U123_91, f2.kd, f2.gP, f1.kd, f1.gP, k1, g8, F1.1, File_held F1'' r2, V56, hd, show ¬ (256 : Nat) = 0 by omega, i_add, i_mul, i_sub, i_addn, i_lt, i_eq, i_idx, i_vp, true_and, and_true, false_and, and_false, if_true, if_false, Nat.reduceAdd, Nat.reduceMul, Nat.reduceSub, Nat.reduceEqDiff, Option.some.injEq, exists_eq_left', true_or, or_true, false_or, or_false, not_true_eq_false, not_false_eq_true, eq_self, and_self, Nat.reduceLeDiff, decide_true, decide_false, ne_eq, Nat.left_eq_add, Nat.add_eq_left, Nat.add_left_cancel_iff, Nat.add_zero]
        have f3 : Fa (fun a _ => (x + 23 ≤ a ∧ a < x + 26) ∨ (x + 55 ≤ a ∧ a < x + 71)) 20 20000 h (sI_ h1 (x + 23) 1 (Int32.ofNat fl'.length)) := ((f1.mono (fun a i z => by omega)).trans (f2.mono (fun a i z => by omega))).fa.mono (fun _ _ _ z => z) (Nat.zero_le _) (Nat.zero_le _)
        have g := f3.fb
        exact ⟨rfl, f3.fb.mono (fun a i _ z => Or.inl (by omega)), t1, t2, a1, a2, d, sA, fs, pl, pr, sr, nA, H'.fb g hx (by intro a i z w; omega), Tt.fb g hx (by intro a i z w; omega), R.fb g hx (by intro a i z w; omega), P.fb g hx (by intro a i z w; omega), ⟨F1'', r2, by rw [z_gI_sI, if_pos ⟨rfl, rfl⟩], by rw [z_gI_sI, if_neg (by omega), e2]; exact F4, Nat.le_refl _⟩, xb.fb f2.fb (by rw [f1.nx]; exact hx) (by intro a i z w; omega), I.fb g hx (by intro a i z w; omega), Qq.fb g hx (by intro a i z w; omega), N.fb' g hx (by intro a i z w; omega), L.fa f3 (by intro a i z w; omega)⟩
      by_cases c3 : (wr m).1.length = 0
      · have c3' : (wr m).1 = [] := List.length_eq_zero_iff.mp c3
        rw [if_neg (fun z => z.1 c3)]
        have e1 : flF fl m (wr m) = fl := if_pos c3
        have e2 : wrF (wr m) = wr m := if_pos c3
        rw [e1, e2]
        have hp0 : (pkP (wr m).1).1 = [] := hev.mpr c3'
        have bk2 := bk.2.1
        rw [hp0] at bk2
        simp (disch := omega) only [U123_0, U123_1, U123_4, U123_7, U123_10, U123_15, U123_16, U123_19, U123_22, U123_25, U123_28, U123_33, U123_34, U123_37, U123_38, U123_39, U123_40, U123_41, U123_44, U123_47, U123_48, U123_51, U123_54, U123_57, U123_60, U123_65, U123_66, U123_67, U123_70, EL_isWI, V125, b1, k1, g8, F1.1, U57_0, U57_1, U57_4, V57, F4', bz_0, g6, g13, g14, g15 m hm4, hm4, bk.1.1, bk.1.2.1, bk2.1, U4_0, U4_1, U4_4, U4_7, V4, Row_held bk2, V89, List.length_nil, show ¬ (0 : Nat) < 0 by omega, show (34 : Nat) ≤ 35 by omega, show (35 : Nat) ≤ 36 by omega, i_add, i_mul, i_sub, i_addn, i_lt, i_eq, i_idx, i_vp, true_and, and_true, false_and, and_false, if_true, if_false, Nat.reduceAdd, Nat.reduceMul, Nat.reduceSub, Nat.reduceEqDiff, Option.some.injEq, exists_eq_left', true_or, or_true, false_or, or_false, not_true_eq_false, not_false_eq_true, eq_self, and_self, Nat.reduceLeDiff, decide_true, decide_false, ne_eq, Nat.left_eq_add, Nat.add_eq_left, Nat.add_left_cancel_iff, Nat.add_zero]
        exact fin h fl (wr m) Fz.rfl' F2 rfl (wrS_id (X := Bq) Bq)
      · have c3' : ¬ (wr m).1 = [] := fun z => c3 (by rw [z]; rfl)
        have hp0 : ¬ (pkP (wr m).1).1 = [] := fun z => c3' (hev.mp z)
        have hp1 : 0 < (pkP (wr m).1).1.length := List.length_pos_iff.mpr hp0
        have e1 : flF fl m (wr m) = fl ++ bkW m (wr m) := if_neg c3
        have e2 : wrF (wr m) = ([], (wr m).2.1, (wr m).2.2 + 1) := if_neg c3
        rw [e1, e2]
        by_cases c4 : 6144 < fl.length + 256
        · rw [if_pos ⟨c3, c4⟩]
          simp (disch := omega) only [U123_0, U123_1, U123_4, U123_7, U123_10, U123_15, U123_16, U123_19, U123_22, U123_25, U123_28, U123_33, U123_34, U123_37, U123_38, U123_39, U123_40, U123_41, U123_44, U123_47, U123_48, U123_51, U123_54, U123_57, U123_60, U123_65, U123_66, U123_67, U123_70, U123_73, U123_74, U123_77, U123_80, U123_81, U123_84, U123_87, U123_90, U123_91, EL_isWI, V125, b1, k1, g8, F1.1, U57_0, U57_1, U57_4, V57, F4', bz_0, bz_01, g6, g13, g14, g15 m hm4, hm4, bk.1.1, bk.1.2.1, bk.2.1.1, U4_0, U4_1, U4_4, U4_7, V4, Row_held bk.2.1, V89, hp1, File_isFull F1 F2, V58, c4, show (34 : Nat) ≤ 35 by omega, show (35 : Nat) ≤ 36 by omega, show 1 ≤ rc_ h by omega, show 6 ≤ rs_ h by omega, i_add, i_mul, i_sub, i_addn, i_lt, i_eq, i_idx, i_vp, true_and, and_true, false_and, and_false, if_true, if_false, Nat.reduceAdd, Nat.reduceMul, Nat.reduceSub, Nat.reduceEqDiff, Option.some.injEq, exists_eq_left', true_or, or_true, false_or, or_false, not_true_eq_false, not_false_eq_true, eq_self, and_self, Nat.reduceLeDiff, decide_true, decide_false, ne_eq, Nat.left_eq_add, Nat.add_eq_left, Nat.add_left_cancel_iff, Nat.add_zero]
          exact E'.thr
        · rw [if_neg (fun z => c4 z.2)]
          simp (disch := omega) only [U123_0, U123_1, U123_4, U123_7, U123_10, U123_15, U123_16, U123_19, U123_22, U123_25, U123_28, U123_33, U123_34, U123_37, U123_38, U123_39, U123_40, U123_41, U123_44, U123_47, U123_48, U123_51, U123_54, U123_57, U123_60, U123_65, U123_66, U123_67, U123_70, EL_isWI, V125, b1, k1, g8, F1.1, U57_0, U57_1, U57_4, V57, F4', bz_0, bz_01, g6, g13, g14, g15 m hm4, hm4, bk.1.1, bk.1.2.1, bk.2.1.1, U4_0, U4_1, U4_4, U4_7, V4, Row_held bk.2.1, V89, hp1, File_isFull F1 F2, V58, c4, show (34 : Nat) ≤ 35 by omega, show (35 : Nat) ≤ 36 by omega, i_add, i_mul, i_sub, i_addn, i_lt, i_eq, i_idx, i_vp, true_and, and_true, false_and, and_false, if_true, if_false, Nat.reduceAdd, Nat.reduceMul, Nat.reduceSub, Nat.reduceEqDiff, Option.some.injEq, exists_eq_left', true_or, or_true, false_or, or_false, not_true_eq_false, not_false_eq_true, eq_self, and_self, Nat.reduceLeDiff, decide_true, decide_false, ne_eq, Nat.left_eq_add, Nat.add_eq_left, Nat.add_left_cancel_iff, Nat.add_zero]
          refine Wp_use (Block_moveTo' bk F1 F2 (by omega) (by omega) (by omega)) ?_
          rintro _ h1 ⟨rfl, r1, bk1, f1⟩
          simp (disch := omega) only [V6, U123_0, U123_1, U123_4, U123_7, U123_10, U123_15, U123_16, U123_19, U123_22, U123_25, U123_28, U123_33, U123_34, U123_37, U123_38, U123_39, U123_40, U123_41, U123_44, U123_47, U123_48, U123_51, U123_54, U123_57, U123_60, U123_65, U123_66, U123_67, U123_70, i_add, i_mul, i_sub, i_addn, i_lt, i_eq, i_idx, i_vp, true_and, and_true, false_and, and_false, if_true, if_false, Nat.reduceAdd, Nat.reduceMul, Nat.reduceSub, Nat.reduceEqDiff, Option.some.injEq, exists_eq_left', true_or, or_true, false_or, or_false, not_true_eq_false, not_false_eq_true, eq_self, and_self, Nat.reduceLeDiff, decide_true, decide_false, ne_eq, Nat.left_eq_add, Nat.add_eq_left, Nat.add_left_cancel_iff, Nat.add_zero]
          have f1' : Fz (fun a i => (x + 23 ≤ a ∧ a < x + 26) ∨ (x + 55 + 4 * m ≤ a ∧ a < x + 59 + 4 * m)) h h1 := f1.mono (fun a i z => by unfold SR at z; omega)
          rw [hft c3'] at r1
          exact fin h1 _ _ f1' r1 (by rw [f1.gI (by unfold SR; omega)]) (Bq.upd f1'.fb hx (fun a i z => by omega) ⟨ft, bk1, fun z => absurd rfl z⟩)
  · rw [if_neg c1]
    have b1 : (@bz (wrI w) (wrD w)) = Int32.ofNat 0 := by rw [@bz_0 _ (wrD w)]; exact c1
    simp (disch := omega) only [U123_0, U123_1, U123_4, U123_7, U123_10, U123_15, U123_16, U123_19, U123_22, U123_25, U123_28, U123_33, U123_34, U123_37, U123_38, U123_39, U123_40, U123_41, U123_44, U123_47, U123_48, U123_51, U123_54, U123_57, U123_60, U123_65, U123_66, U123_67, U123_70, U123_73, U123_74, U123_77, U123_80, U123_81, U123_84, U123_87, U123_90, U123_91, EL_isWI, V125, b1, show 1 ≤ rc_ h by omega, show 6 ≤ rs_ h by omega, i_add, i_mul, i_sub, i_addn, i_lt, i_eq, i_idx, i_vp, true_and, and_true, false_and, and_false, if_true, if_false, Nat.reduceAdd, Nat.reduceMul, Nat.reduceSub, Nat.reduceEqDiff, Option.some.injEq, exists_eq_left', true_or, or_true, false_or, or_false, not_true_eq_false, not_false_eq_true, eq_self, and_self, Nat.reduceLeDiff, decide_true, decide_false, ne_eq, Nat.left_eq_add, Nat.add_eq_left, Nat.add_left_cancel_iff, Nat.add_zero]
    exact E'.thr
end
