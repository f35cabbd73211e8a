/-! ===== the model: packAll ===== -/
def mono (l : List Pd) : Prop := ∀ (e : Nat) (p q : Pd), l[e]? = some p → l[e + 1]? = some q → p.2.1 ≤ q.2.1
theorem fit_same {ts : List Tok} {as bs : List Arg} {k : Nat} {y : Int32} (ha : fit ts as = true) (hb : fit ts bs = true) (hk : as[k]? = some (.inl y)) : ∃ z, bs[k]? = some (.inl z) := by
  have hka : k < as.length := by
    rcases Nat.lt_or_ge k as.length with z | z
    · exact z
    · rw [List.getElem?_eq_none z] at hk; cases hk
  have la := fit_len ha
  have lb := fit_len hb
  have i1 := fit_at ha (j := k) (by omega)
  have i2 := fit_at hb (j := k) (by omega)
  exact (isN_at (by omega)).mp (i2.mpr (i1.mp ((isN_at hka).mpr ⟨y, hk⟩)))
theorem pkP_time {l : List Pd} {e : Nat} {p : Pd} (h : l[e]? = some p) : (pkP (l.take (e + 1))).2.2.1 = p.2.1 := by
  have he : e < l.length := by
    rcases Nat.lt_or_ge e l.length with z | z
    · exact z
    · rw [List.getElem?_eq_none z] at h; cases h
  rw [List.take_succ_eq_append_getElem he, pkP_snoc]
  rw [List.getElem?_eq_getElem he] at h
  rw [Option.some.inj h]
  rfl
theorem pkN_le {x la : Int32} : (pkN x la).length ≤ 5 := pkN_len
section
variable {h h' : MH_} {m s : Nat} {si : List (List Tok)} {Q : Rs_ → MH_ → Prop} {wr : Nat → Wr}
theorem M_packAll {w : Nat} {l0 : List Nat} (X0 : MS h m) (X2 : MF h m si) (X5 : MW h m wr) (hw : w < 4) (ok : WkOk si (wr w).1) (mo : mono (wr w).1) (hpre : ∀ e, e < (wr w).1.length → (pkP ((wr w).1.take e)).1.length ≤ 238) : Wp 178 0 [.ref m, .int (Int32.ofNat w), .null, .null, .null, .null] [] h (fun v h' => v = .inl .null ∧ Mk h' m (pkP (wr w).1).1 ∧ Fz (SK m) h h') := by
  obtain ⟨w1, w2, w3, w4, w5⟩ := X5 w hw
  have h40 : ∀ q ∈ (wr w).1, q.1 < 40 := by
    intro q hq
    obtain ⟨-, ts, hts, -⟩ := ok q hq
    exact (si_lt X2 hts).1
  have ext : ∀ {h1}, Fz (SK m) h h1 → MS h1 m ∧ MF h1 m si ∧ MW h1 m wr := fun f => ⟨X0.fz f, X2.fz f (by unfold SK; intro a i z w; omega), X5.fz f SK_W⟩
  -- the slots of an event
  have inner : ∀ (e : Nat) (p : Pd), (wr w).1[e]? = some p → ∀ n k h1 l1 y3 (Q : Rs_ → MH_ → Prop), k + n = p.2.2.length → Fz (SK m) h h1 → Mk h1 m l1 → l1.length + 17 * n ≤ 400 → (∀ h2, Fz (SK m) h h2 → Mk h2 m (l1 ++ pkL (fun j => (pkP ((wr w).1.take e)).2.1 (p.1 * 6 + j)) (p.2.2.drop k) k) → Wp 178 108 [.ref m, .int (Int32.ofNat w), .int (Int32.ofNat e), .int y3, .int (Int32.ofNat p.2.2.length), .int (Int32.ofNat p.2.2.length)] [] h2 Q) → Wp 178 87 [.ref m, .int (Int32.ofNat w), .int (Int32.ofNat e), .int y3, .int (Int32.ofNat p.2.2.length), .int (Int32.ofNat k)] [] h1 Q := by
    intro e p he n
    obtain ⟨y1, y2, y3', y4⟩ := w5 e p he
    have hel : e < (wr w).1.length := by
      rcases Nat.lt_or_ge e (wr w).1.length with z | z
      · exact z
      · rw [List.getElem?_eq_none z] at he; cases he
    obtain ⟨-, ts, hts, hfit⟩ := ok p (List.mem_of_getElem? he)
    induction n with
    | zero =>
      intro k h1 l1 y3 Q hk f1 K1 hl1 go
      obtain rfl : k = p.2.2.length := by omega
      rw [U178_87]
      simp (disch := omega) only [U178_89, U178_91, U178_94, U178_95, U178_96, U178_97, U178_99, U178_102, U178_105, show ¬ p.2.2.length < p.2.2.length by omega, i_add, i_mul, i_sub, i_addn, i_lt, i_eq, i_idx, i_vp, true_and, and_true, false_and, and_false, if_true, if_false, Nat.reduceAdd, Nat.reduceMul, Nat.reduceSub, Nat.reduceEqDiff, Option.some.injEq, exists_eq_left', true_or, or_true, false_or, or_false, not_true_eq_false, not_false_eq_true, eq_self, and_self, Nat.reduceLeDiff, decide_true, decide_false, ne_eq, Nat.left_eq_add, Nat.add_eq_left, Nat.add_left_cancel_iff, Nat.add_zero]
      refine go h1 f1 ?_
      rw [List.drop_of_length_le (Nat.le_refl _)]
      show Mk h1 m (l1 ++ [])
      rw [List.append_nil]
      exact K1
    | succ n ih =>
      intro k h1 l1 y3 Q hk f1 K1 hl1 go
      have hkl : k < p.2.2.length := by omega
      obtain ⟨Y0, Y2, Y5⟩ := ext f1
      rw [U178_87]
      simp (disch := omega) only [U178_89, U178_91, U178_94, U178_95, U178_96, U178_97, U178_99, U178_102, U178_105, Y0.1, hkl, i_add, i_mul, i_sub, i_addn, i_lt, i_eq, i_idx, i_vp, true_and, and_true, false_and, and_false, if_true, if_false, Nat.reduceAdd, Nat.reduceMul, Nat.reduceSub, Nat.reduceEqDiff, Option.some.injEq, exists_eq_left', true_or, or_true, false_or, or_false, not_true_eq_false, not_false_eq_true, eq_self, and_self, Nat.reduceLeDiff, decide_true, decide_false, ne_eq, Nat.left_eq_add, Nat.add_eq_left, Nat.add_left_cancel_iff, Nat.add_zero]
      refine Wp_use (M_packSlot Y0 Y5 K1 hw he (List.getElem?_eq_getElem hkl) h40 (fun hy q hq hs => ?_) (by omega)) ?_
      · obtain ⟨y, hy⟩ := hy
        obtain ⟨-, ts2, hts2, hfit2⟩ := ok q hq
        rw [hs, hts] at hts2
        have := Option.some.inj hts2
        subst this
        exact fit_same hfit hfit2 (y := y) (by rw [List.getElem?_eq_getElem hkl, hy])
      · rintro _ h2 ⟨rfl, K2, f2⟩
        have hal : (pkA (fun j => (pkP ((wr w).1.take e)).2.1 (p.1 * 6 + j)) k p.2.2[k]).length ≤ 17 := by
          cases hg : p.2.2[k] with
          | inl y => have := pkN_le (x := y) (la := (pkP ((wr w).1.take e)).2.1 (p.1 * 6 + k)); show (pkN y ((pkP ((wr w).1.take e)).2.1 (p.1 * 6 + k))).length ≤ 17; omega
          | inr t =>
            have mc := y4 k _ (List.getElem?_eq_getElem hkl)
            rw [hg] at mc
            have := mc.2.1
            unfold pkA
            rw [List.length_cons]
            omega
        simp (disch := omega) only [V179, U178_89, U178_91, U178_94, U178_95, U178_96, U178_97, U178_99, U178_102, U178_105, i_add, i_mul, i_sub, i_addn, i_lt, i_eq, i_idx, i_vp, true_and, and_true, false_and, and_false, if_true, if_false, Nat.reduceAdd, Nat.reduceMul, Nat.reduceSub, Nat.reduceEqDiff, Option.some.injEq, exists_eq_left', true_or, or_true, false_or, or_false, not_true_eq_false, not_false_eq_true, eq_self, and_self, Nat.reduceLeDiff, decide_true, decide_false, ne_eq, Nat.left_eq_add, Nat.add_eq_left, Nat.add_left_cancel_iff, Nat.add_zero]
        refine ih (k + 1) h2 _ y3 Q (by omega) (f1.trans f2) K2 (by rw [List.length_append]; omega) (fun h3 f3 K3 => go h3 f3 ?_)
        rw [List.drop_eq_getElem_cons hkl]
        rw [List.append_assoc] at K3
        exact K3
  have key : ∀ n e h1 y3 y4 y5, e + n = (wr w).1.length → Fz (SK m) h h1 → Mk h1 m (pkP ((wr w).1.take e)).1 → Wp 178 7 [.ref m, .int (Int32.ofNat w), .int (Int32.ofNat e), y3, y4, y5] [] h1 (fun v h' => v = .inl .null ∧ Mk h' m (pkP (wr w).1).1 ∧ Fz (SK m) h h') := by
    intro n
    induction n with
    | zero =>
      intro e h1 y3 y4 y5 he f1 K1
      obtain ⟨Y0, Y2, Y5⟩ := ext f1
      obtain ⟨v1, -⟩ := Y5 w hw
      rw [U178_7]
      simp (disch := omega) only [U178_0, U178_1, U178_2, U178_5, U178_6, U178_8, U178_9, U178_12, U178_13, U178_14, U178_17, U178_18, U178_21, U178_24, U178_27, U178_29, U178_30, U178_31, U178_32, U178_33, U178_34, U178_35, U178_36, U178_39, U178_40, U178_41, U178_42, U178_45, U178_46, U178_47, U178_50, U178_51, U178_54, U178_55, U178_58, U178_59, U178_60, U178_61, U178_64, U178_65, U178_66, U178_67, U178_68, U178_69, U178_72, U178_73, U178_74, U178_77, U178_78, U178_79, U178_82, U178_84, U178_85, U178_89, U178_91, U178_94, U178_95, U178_96, U178_97, U178_99, U178_102, U178_105, U178_108, U178_111, U178_114, Y0.1, mp12 Y0, mk9 Y0, mn9 Y0, v1, hw, show ¬ e < (wr w).1.length by omega, i_add, i_mul, i_sub, i_addn, i_lt, i_eq, i_idx, i_vp, true_and, and_true, false_and, and_false, if_true, if_false, Nat.reduceAdd, Nat.reduceMul, Nat.reduceSub, Nat.reduceEqDiff, Option.some.injEq, exists_eq_left', true_or, or_true, false_or, or_false, not_true_eq_false, not_false_eq_true, eq_self, and_self, Nat.reduceLeDiff, decide_true, decide_false, ne_eq, Nat.left_eq_add, Nat.add_eq_left, Nat.add_left_cancel_iff, Nat.add_zero]
      rw [List.take_of_length_le (by omega)] at K1
      exact ⟨K1, f1⟩
    | succ n ih =>
      intro e h1 y3 y4 y5 he f1 K1
      have hel : e < (wr w).1.length := by omega
      have hg := List.getElem?_eq_getElem hel
      generalize hp : (wr w).1[e] = p at hg
      obtain ⟨Y0, Y2, Y5⟩ := ext f1
      obtain ⟨v1, -, -, -, v5⟩ := Y5 w hw
      obtain ⟨z1, z2, z3, z4⟩ := v5 e p hg
      obtain ⟨pt, ts, hts, hfit⟩ := ok p (List.mem_of_getElem? hg)
      have p40 := h40 p (List.mem_of_getElem? hg)
      have hle := hpre e hel
      have fl := fit_len hfit
      have e5 : (Y2.2.2 p.1 ts hts) = (Y2.2.2 p.1 ts hts) := rfl
      have a5 := (Y2.2.2 p.1 ts hts).2.2.2.2
      rw [U178_7]
      simp (disch := omega) only [U178_8, U178_9, U178_12, U178_13, U178_14, U178_17, U178_18, U178_21, U178_24, U178_27, U178_29, U178_30, U178_31, U178_32, U178_33, U178_34, U178_35, U178_36, U178_39, U178_40, U178_41, U178_42, Y0.1, K1.1, mp12 Y0, mk9 Y0, mn9 Y0, mp13 Y0, mk10 Y0, mn10 Y0, v1, z1, hw, hel, show ¬ 238 < (pkP ((wr w).1.take e)).1.length by omega, show 120 * w + e < 480 by omega, i64, i_add, i_mul, i_sub, i_addn, i_lt, i_eq, i_idx, i_vp, true_and, and_true, false_and, and_false, if_true, if_false, Nat.reduceAdd, Nat.reduceMul, Nat.reduceSub, Nat.reduceEqDiff, Option.some.injEq, exists_eq_left', true_or, or_true, false_or, or_false, not_true_eq_false, not_false_eq_true, eq_self, and_self, Nat.reduceLeDiff, decide_true, decide_false, ne_eq, Nat.left_eq_add, Nat.add_eq_left, Nat.add_left_cancel_iff, Nat.add_zero]
      refine Wp_use (M_packVar Y0 K1 (by omega) (by omega)) ?_
      rintro _ h2 ⟨rfl, K2, f2⟩
      have F2 := f1.trans f2
      obtain ⟨Z0, Z2, Z5⟩ := ext F2
      obtain ⟨-, -, -, -, u5⟩ := Z5 w hw
      obtain ⟨t1, t2, t3, t4⟩ := u5 e p hg
      have vl := vrF_len 8 p.1
      -- the time behind the last
      have hdt : ∃ dt, dt < 9223372036854775808 ∧ dt = (if (pkP ((wr w).1.take e)).2.2.2 = true then 0 else p.2.1 - (pkP ((wr w).1.take e)).2.2.1) ∧ ∀ Q : Rs_ → MH_ → Prop, Wp 180 0 [.ref m, .long (Int64.ofNat dt), .null, .null, .null] [] h2 (bk_ Wp 178 69 0 180 [.ref m, .int (Int32.ofNat w), .int (Int32.ofNat e), .int (Int32.ofNat (120 * w + e)), y4, y5] [] Q) → Wp 178 45 [.ref m, .int (Int32.ofNat w), .int (Int32.ofNat e), .int (Int32.ofNat (120 * w + e)), y4, y5] [] h2 Q := by
        cases e with
        | zero =>
          refine ⟨0, by omega, ?_, fun Q go => ?_⟩
          · rw [if_pos]; rfl
          · simp (disch := omega) only [U178_45, U178_46, U178_47, U178_50, U178_51, U178_54, U178_55, U178_58, U178_59, U178_60, U178_61, U178_64, U178_65, U178_66, U178_67, U178_68, U178_69, Z0.1, i_add, i_mul, i_sub, i_addn, i_lt, i_eq, i_idx, i_vp, true_and, and_true, false_and, and_false, if_true, if_false, Nat.reduceAdd, Nat.reduceMul, Nat.reduceSub, Nat.reduceEqDiff, Option.some.injEq, exists_eq_left', true_or, or_true, false_or, or_false, not_true_eq_false, not_false_eq_true, eq_self, and_self, Nat.reduceLeDiff, decide_true, decide_false, ne_eq, Nat.left_eq_add, Nat.add_eq_left, Nat.add_left_cancel_iff, Nat.add_zero]
            exact go
        | succ d =>
          have hd : d < (wr w).1.length := by omega
          have hgd := List.getElem?_eq_getElem hd
          have md := mo d _ p hgd hg
          obtain ⟨r1, r2, -, -⟩ := u5 d _ hgd
          have tt := pkP_time hgd
          have ne : ¬ (pkP ((wr w).1.take (d + 1))).2.2.2 = true := by
            rw [(pkP_inv _).2]
            intro z
            have := congrArg List.length z
            rw [List.length_take, List.length_nil] at this
            omega
          generalize hq : (wr w).1[d] = q at *
          refine ⟨p.2.1 - q.2.1, by omega, by rw [if_neg ne, tt], fun Q go => ?_⟩
          have r2' : gJ_ h2 (m + 11) (120 * w + (d + 1) - 1) = Int64.ofNat q.2.1 := by rw [show 120 * w + (d + 1) - 1 = 120 * w + d by omega]; exact r2
          simp (disch := omega) only [U178_45, U178_46, U178_47, U178_50, U178_51, U178_54, U178_55, U178_58, U178_59, U178_60, U178_61, U178_64, U178_65, U178_66, U178_67, U178_68, U178_69, Z0.1, mp14 Z0, mk11 Z0, mn11 Z0, t2, r2', show ¬ d + 1 = 0 by omega, show 120 * w + (d + 1) < 480 by omega, show 120 * w + (d + 1) - 1 < 480 by omega, j_sub md, i_add, i_mul, i_sub, i_addn, i_lt, i_eq, i_idx, i_vp, true_and, and_true, false_and, and_false, if_true, if_false, Nat.reduceAdd, Nat.reduceMul, Nat.reduceSub, Nat.reduceEqDiff, Option.some.injEq, exists_eq_left', true_or, or_true, false_or, or_false, not_true_eq_false, not_false_eq_true, eq_self, and_self, Nat.reduceLeDiff, decide_true, decide_false, ne_eq, Nat.left_eq_add, Nat.add_eq_left, Nat.add_left_cancel_iff, Nat.add_zero]
          exact go
      obtain ⟨dt, dt1, dt2, dt3⟩ := hdt
      simp (disch := omega) only [V180, true_and, and_true, false_and, and_false, if_true, if_false, Nat.reduceAdd, Nat.reduceMul, Nat.reduceSub, Nat.reduceEqDiff, Option.some.injEq, exists_eq_left', true_or, or_true, false_or, or_false, not_true_eq_false, not_false_eq_true, eq_self, and_self, Nat.reduceLeDiff, decide_true, decide_false, ne_eq, Nat.left_eq_add, Nat.add_eq_left, Nat.add_left_cancel_iff, Nat.add_zero]
      refine dt3 _ ?_
      refine Wp_use (M_packVar Z0 K2 dt1 (by rw [List.length_append]; omega)) ?_
      rintro _ h3 ⟨rfl, K3, f3⟩
      have F3 := F2.trans f3
      obtain ⟨V0, V2, V5⟩ := ext F3
      obtain ⟨-, -, -, -, q5⟩ := V5 w hw
      obtain ⟨s1, -, -, -⟩ := q5 e p hg
      have vl2 := vrF_len 8 dt
      simp (disch := omega) only [V180, U178_72, U178_73, U178_74, U178_77, U178_78, U178_79, U178_82, U178_84, U178_85, V0.1, mp13 V0, mk10 V0, mn10 V0, s1, show 120 * w + e < 480 by omega, M_slotCount V0 V2 hts, V198, ← fl, i_add, i_mul, i_sub, i_addn, i_lt, i_eq, i_idx, i_vp, true_and, and_true, false_and, and_false, if_true, if_false, Nat.reduceAdd, Nat.reduceMul, Nat.reduceSub, Nat.reduceEqDiff, Option.some.injEq, exists_eq_left', true_or, or_true, false_or, or_false, not_true_eq_false, not_false_eq_true, eq_self, and_self, Nat.reduceLeDiff, decide_true, decide_false, ne_eq, Nat.left_eq_add, Nat.add_eq_left, Nat.add_left_cancel_iff, Nat.add_zero]
      refine inner e p hg p.2.2.length 0 h3 _ _ _ (by omega) F3 K3 (by rw [List.length_append, List.length_append]; omega) (fun h4 F4 K4 => ?_)
      simp (disch := omega) only [U178_108, U178_111, i_add, i_mul, i_sub, i_addn, i_lt, i_eq, i_idx, i_vp, true_and, and_true, false_and, and_false, if_true, if_false, Nat.reduceAdd, Nat.reduceMul, Nat.reduceSub, Nat.reduceEqDiff, Option.some.injEq, exists_eq_left', true_or, or_true, false_or, or_false, not_true_eq_false, not_false_eq_true, eq_self, and_self, Nat.reduceLeDiff, decide_true, decide_false, ne_eq, Nat.left_eq_add, Nat.add_eq_left, Nat.add_left_cancel_iff, Nat.add_zero]
      refine ih (e + 1) h4 _ _ _ (by omega) F4 ?_
      have ep : (pkP ((wr w).1.take (e + 1))).1 = (pkP ((wr w).1.take e)).1 ++ pkE p.1 dt (fun j => (pkP ((wr w).1.take e)).2.1 (p.1 * 6 + j)) p.2.2 := by
        rw [List.take_succ_eq_append_getElem hel, pkP_snoc, hp, dt2]
        rfl
      rw [ep]
      unfold pkE
      rw [List.drop_zero] at K4
      rw [← List.append_assoc, ← List.append_assoc]
      exact K4
  have f0 : Fz (SK m) h (sI_ h m 20 (Int32.ofNat 0)) := Fz.rfl'.sI (Or.inl ⟨rfl, rfl⟩)
  simp (disch := omega) only [U178_0, U178_1, U178_2, U178_5, U178_6, X0.1, i_add, i_mul, i_sub, i_addn, i_lt, i_eq, i_idx, i_vp, true_and, and_true, false_and, and_false, if_true, if_false, Nat.reduceAdd, Nat.reduceMul, Nat.reduceSub, Nat.reduceEqDiff, Option.some.injEq, exists_eq_left', true_or, or_true, false_or, or_false, not_true_eq_false, not_false_eq_true, eq_self, and_self, Nat.reduceLeDiff, decide_true, decide_false, ne_eq, Nat.left_eq_add, Nat.add_eq_left, Nat.add_left_cancel_iff, Nat.add_zero]
  exact key (wr w).1.length 0 _ _ _ _ (by omega) f0 ⟨by rw [z_gI_sI, if_pos ⟨rfl, rfl⟩]; rfl, fun i hi => absurd hi (Nat.not_lt_zero _)⟩
end
