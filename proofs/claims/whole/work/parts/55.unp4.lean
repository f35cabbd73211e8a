/-! ===== the unpacker: an event ===== -/
def rS (la : Nat → Int32) : List (Nat × Nat) → Nat → List Arg → List Nat → Option (List Arg × List Nat)
  | [], _, acc, r => some (acc, r)
  | q :: qs, j, acc, r => if q.1 = 116 then (rT r).bind (fun x => rS la qs (j + 1) (acc ++ [.inr x.1]) x.2) else (rN (la j) r).bind (fun x => rS la qs (j + 1) (acc ++ [.inl x.1]) x.2)
def rE (si : List (List Tok)) (la : Nat → Int32) (t : Nat) (r : List Nat) : Option (Nat × Nat × List Arg × List Nat) :=
  (rV 9 0 0 r).bind fun x => (rV 9 0 0 x.2).bind fun y => (si[x.1]?).bind fun ts => if t + y.1 < 9223372036854775808 then (rS (fun j => la (x.1 * 6 + j)) (slts ts) 0 [] y.2).bind fun z => some (x.1, t + y.1, z.1, z.2) else none
def Ss (h : MH_) (fs : List Nat) (si : List (List Tok)) : Prop := fs.length = si.length ∧ si.length ≤ 40 ∧ ∀ (i f : Nat) (ts : List Tok), fs[i]? = some f → si[i]? = some ts → Fo h f ts ∧ okS ts
def SV (u ev : Nat) : Nat → Nat → Prop := fun a i => (a = u ∧ (i = 2 ∨ i = 5 ∨ i = 6)) ∨ a = u + 1 ∨ (a = ev ∧ 3 ≤ i ∧ i ≤ 6) ∨ a = ev + 1 ∨ a = ev + 2 ∨ a = ev + 3
def PE (h : MH_) (u fr e ev w : Nat) (fl : List Nat) (la : Nat → Int32) (res : Option (Nat × Nat × List Arg × List Nat)) : Rs_ → MH_ → Prop := fun v h' => Fz (SV u ev) h h' ∧ match res with
  | some (s, t, as, r) => v = .inl (.int (Int32.ofNat 1)) ∧ UO h' u fr e fl (some r) ∧ Ea h' ev as ∧ Ew h' ev w s (Int64.ofNat t) ∧ gJ_ h' u 5 = Int64.ofNat t ∧ ∀ i, i < 240 → gI_ h' (u + 1) i = laU la s as i
  | none => v = .inl (.int (Int32.ofNat 0))
theorem UO.kd {h : MH_} {u fr e : Nat} {fl : List Nat} {o : Option (List Nat)} (hu : UO h u fr e fl o) : kd_ h u = 11 ∧ gP_ h u 0 = some (u + 1) ∧ kd_ h (u + 1) = 30 ∧ ln_ h (u + 1) = 240 := by
  obtain ⟨p, hu, ho⟩ := hu; exact ⟨hu.1.1, hu.1.2.1, hu.1.2.2.2.1, hu.1.2.2.2.2⟩
theorem UO.whole {h : MH_} {u fr e : Nat} {fl : List Nat} {o : Option (List Nat)} (hu : UO h u fr e fl o) : gI_ h u 6 = bz (o.isSome = true) := by
  obtain ⟨p, hu, ho⟩ := hu
  cases o with
  | none => rw [← bz_f (by simp)]; exact ho
  | some r => rw [← bz_t (by simp)]; exact ho.2
/-- the slots -/
theorem unp_slots {h0 : MH_} {u fr e ev sl arr f s w t : Nat} {x0 : Int64} {fl : List Nat} {ts : List Tok} {la : Nat → Int32} (hs : s < 40) (ok : okS ts) (ae : ev + 4 ≤ u ∨ u + 2 ≤ ev) (ar : fr + 2 ≤ ev ∨ ev + 4 ≤ fr) (ac : fr + 2 ≤ u ∨ u + 2 ≤ fr) (af : ∀ a i, SA f a i → ¬ SV u ev a i) (hx : x0 = Int64.ofNat s) :
    ∀ q j o as h, q = (slts ts).drop j → j ≤ (slts ts).length → Fz (SV u ev) h0 h → UO h u fr e fl o → Ea h ev as → as.length ≤ j → (gI_ h ev 4 = Int32.ofNat w ∧ gI_ h ev 5 = Int32.ofNat s ∧ gJ_ h ev 6 = Int64.ofNat t) → gJ_ h u 5 = Int64.ofNat t → (∀ i, i < 240 → gI_ h (u + 1) i = la i) → Fs h f → Fc h f ts →
    Wp 111 89 [.ref u, .ref ev, .ref sl, .long x0, .null, .ref f, .int (Int32.ofNat j)] [] h (PE h0 u fr e ev w fl la ((o.bind (rS (fun j => la (s * 6 + j)) q j as)).bind fun z => some (s, t, z.1, z.2))) := by
  subst hx
  intro q
  have SUV : ∀ a i, SU u a i → SV u ev a i := by unfold SU SV; intro a i z; omega
  have SEV : ∀ a i, SE ev a i → SV u ev a i := by unfold SE SV; intro a i z; omega
  induction q with
  | nil =>
    intro j o as h hq hj F hu he hl hw ht hla hf hc
    obtain ⟨k1, k2, k3, k4⟩ := hu.kd
    have hj' : j = (slts ts).length := by have := congrArg List.length hq; rw [List.length_drop] at this; simp at this; omega
    have h6 := he.2.1
    have c4 := hc.2.2.2.1
    rw [U111_89]
    simp (disch := omega) only [U111_0, U111_1, U111_4, U111_5, U111_8, U111_9, U111_10, U111_11, U111_14, U111_15, U111_18, U111_19, U111_22, U111_23, U111_26, U111_29, U111_30, U111_31, U111_32, U111_35, U111_36, U111_37, U111_40, U111_41, U111_42, U111_45, U111_46, U111_49, U111_50, U111_51, U111_54, U111_55, U111_56, U111_59, U111_60, U111_61, U111_62, U111_63, U111_66, U111_67, U111_68, U111_69, U111_72, U111_75, U111_76, U111_77, U111_78, U111_81, U111_84, U111_86, U111_87, U111_91, U111_93, U111_96, U111_99, U111_101, U111_103, U111_106, U111_109, U111_110, U111_111, U111_114, U111_117, U111_118, U111_119, U111_120, U111_123, U111_124, U111_125, U111_127, U111_130, U111_133, U111_136, U111_139, U111_142, U111_143, U111_144, U111_147, U111_150, U111_151, U111_154, hf.1, he.1.1, k1, k2, k3, k4, Format_slots hf hc, V37, show ¬ j < (slts ts).length by omega, i_add, i_mul, i_sub, i_addn, i_lt, i_eq, i_idx, i_vp, true_and, and_true, false_and, and_false, if_true, if_false, Nat.reduceAdd, Nat.reduceMul, Nat.reduceSub, Nat.reduceEqDiff, Option.some.injEq, exists_eq_left', true_or, or_true, false_or, or_false, not_true_eq_false, not_false_eq_true, eq_self, and_self, Nat.reduceLeDiff, decide_true, decide_false, ne_eq, Nat.left_eq_add, Nat.add_eq_left, Nat.add_left_cancel_iff, Nat.add_zero]
    refine Wp_use (Event_rememberIn (x := Int32.ofNat 0) he hw.2.1 k3 k4 hs (by omega)) ?_
    rintro _ h1 ⟨rfl, hr, f1⟩
    have hu1 := hu.fz f1 (by omega) (by omega) (by omega) (by unfold SR; intro a i z; omega)
    simp (disch := omega) only [V23, U111_0, U111_1, U111_4, U111_5, U111_8, U111_9, U111_10, U111_11, U111_14, U111_15, U111_18, U111_19, U111_22, U111_23, U111_26, U111_29, U111_30, U111_31, U111_32, U111_35, U111_36, U111_37, U111_40, U111_41, U111_42, U111_45, U111_46, U111_49, U111_50, U111_51, U111_54, U111_55, U111_56, U111_59, U111_60, U111_61, U111_62, U111_63, U111_66, U111_67, U111_68, U111_69, U111_72, U111_75, U111_76, U111_77, U111_78, U111_81, U111_84, U111_86, U111_87, U111_91, U111_93, U111_96, U111_99, U111_101, U111_103, U111_106, U111_109, U111_110, U111_111, U111_114, U111_117, U111_118, U111_119, U111_120, U111_123, U111_124, U111_125, U111_127, U111_130, U111_133, U111_136, U111_139, U111_142, U111_143, U111_144, U111_147, U111_150, U111_151, U111_154, hu1.kd.1, hu1.whole, bz_01, i_add, i_mul, i_sub, i_addn, i_lt, i_eq, i_idx, i_vp, true_and, and_true, false_and, and_false, if_true, if_false, Nat.reduceAdd, Nat.reduceMul, Nat.reduceSub, Nat.reduceEqDiff, Option.some.injEq, exists_eq_left', true_or, or_true, false_or, or_false, not_true_eq_false, not_false_eq_true, eq_self, and_self, Nat.reduceLeDiff, decide_true, decide_false, ne_eq, Nat.left_eq_add, Nat.add_eq_left, Nat.add_left_cancel_iff, Nat.add_zero]
    refine ⟨F.trans (f1.mono (by unfold SV; intro a i z; omega)), ?_⟩
    cases o with
    | none => exact congrArg (fun z => Sum.inl (Value.int z)) (bz_f (by simp)).symm
    | some r =>
      refine ⟨congrArg (fun z => Sum.inl (Value.int z)) (bz_t (by simp)).symm, hu1, he.fz f1 (by unfold SE; intro a i z; omega), ⟨by rw [f1.gI (by omega)]; exact hw.1, by rw [f1.gI (by omega)]; exact hw.2.1, by rw [f1.gJ (by omega)]; exact hw.2.2⟩, by rw [f1.gJ (by omega)]; exact ht, fun i hi => ?_⟩
      rw [hr i]
      unfold laU
      split
      · rfl
      · exact hla i hi
  | cons q qs ih =>
    intro j o as h hq hj F hu he hl hw ht hla hf hc
    obtain ⟨k1, k2, k3, k4⟩ := hu.kd
    have hjl : j < (slts ts).length := by have := congrArg List.length hq; rw [List.length_drop] at this; simp at this; omega
    have hq1 : (slts ts)[j]? = some q := by
      have := congrArg (fun l => l[0]?) hq
      simp only [List.getElem?_drop, Nat.add_zero, List.getElem?_cons_zero] at this
      exact this.symm
    have hq2 : qs = (slts ts).drop (j + 1) := by
      have := congrArg (List.drop 1) hq
      rw [List.drop_drop] at this
      exact this
    have ek : kdS ts j = q.1 := by unfold kdS; rw [hq1]
    have c4 := hc.2.2.2.1
    rw [U111_89]
    by_cases h116 : q.1 = 116
    · simp (disch := omega) only [U111_0, U111_1, U111_4, U111_5, U111_8, U111_9, U111_10, U111_11, U111_14, U111_15, U111_18, U111_19, U111_22, U111_23, U111_26, U111_29, U111_30, U111_31, U111_32, U111_35, U111_36, U111_37, U111_40, U111_41, U111_42, U111_45, U111_46, U111_49, U111_50, U111_51, U111_54, U111_55, U111_56, U111_59, U111_60, U111_61, U111_62, U111_63, U111_66, U111_67, U111_68, U111_69, U111_72, U111_75, U111_76, U111_77, U111_78, U111_81, U111_84, U111_86, U111_87, U111_91, U111_93, U111_96, U111_99, U111_101, U111_103, U111_106, U111_109, U111_110, U111_111, U111_114, U111_117, U111_118, U111_119, U111_120, U111_123, U111_124, U111_125, U111_127, U111_130, U111_133, U111_136, U111_139, U111_142, U111_143, U111_144, U111_147, U111_150, U111_151, U111_154, hf.1, he.1.1, k1, k2, k3, k4, Format_slots hf hc, V37, Format_isTextAt hf hc ok, V32, ek, h116, bz_0, hjl, i_add, i_mul, i_sub, i_addn, i_lt, i_eq, i_idx, i_vp, true_and, and_true, false_and, and_false, if_true, if_false, Nat.reduceAdd, Nat.reduceMul, Nat.reduceSub, Nat.reduceEqDiff, Option.some.injEq, exists_eq_left', true_or, or_true, false_or, or_false, not_true_eq_false, not_false_eq_true, eq_self, and_self, Nat.reduceLeDiff, decide_true, decide_false, ne_eq, Nat.left_eq_add, Nat.add_eq_left, Nat.add_left_cancel_iff, Nat.add_zero]
      refine Wp_use (Unp_takeText hu he (by omega) ae ar) ?_
      rintro v h1 ⟨rfl, f1, z⟩
      have F1 := F.trans (f1.mono (fun a i z => z.elim (SUV a i) (SEV a i)))
      have nf : ∀ a i, (SU u a i ∨ SE ev a i) → ¬ (a = ev ∧ (i = 4 ∨ i = 5 ∨ i = 6)) ∧ ¬ (a = u ∧ i = 5) ∧ ¬ a = u + 1 := by unfold SU SE; intro a i z; omega
      have hw1 : gI_ h1 ev 4 = Int32.ofNat w ∧ gI_ h1 ev 5 = Int32.ofNat s ∧ gJ_ h1 ev 6 = Int64.ofNat t := ⟨by rw [f1.gI (fun z => (nf _ _ z).1 (by omega))]; exact hw.1, by rw [f1.gI (fun z => (nf _ _ z).1 (by omega))]; exact hw.2.1, by rw [f1.gJ (fun z => (nf _ _ z).1 (by omega))]; exact hw.2.2⟩
      have ht1 : gJ_ h1 u 5 = Int64.ofNat t := by rw [f1.gJ (fun z => (nf _ _ z).2.1 (by omega))]; exact ht
      have hla1 : ∀ i, i < 240 → gI_ h1 (u + 1) i = la i := fun i hi => by rw [f1.gI (fun z => (nf _ _ z).2.2 rfl)]; exact hla i hi
      have hf1 := hf.fz f1
      have hc1 := hc.fz f1 (fun a i y z => af a i (Or.inl y) (z.elim (SUV a i) (SEV a i)))
      simp (disch := omega) only [V109, U111_0, U111_1, U111_4, U111_5, U111_8, U111_9, U111_10, U111_11, U111_14, U111_15, U111_18, U111_19, U111_22, U111_23, U111_26, U111_29, U111_30, U111_31, U111_32, U111_35, U111_36, U111_37, U111_40, U111_41, U111_42, U111_45, U111_46, U111_49, U111_50, U111_51, U111_54, U111_55, U111_56, U111_59, U111_60, U111_61, U111_62, U111_63, U111_66, U111_67, U111_68, U111_69, U111_72, U111_75, U111_76, U111_77, U111_78, U111_81, U111_84, U111_86, U111_87, U111_91, U111_93, U111_96, U111_99, U111_101, U111_103, U111_106, U111_109, U111_110, U111_111, U111_114, U111_117, U111_118, U111_119, U111_120, U111_123, U111_124, U111_125, U111_127, U111_130, U111_133, U111_136, U111_139, U111_142, U111_143, U111_144, U111_147, U111_150, U111_151, U111_154, i_add, i_mul, i_sub, i_addn, i_lt, i_eq, i_idx, i_vp, true_and, and_true, false_and, and_false, if_true, if_false, Nat.reduceAdd, Nat.reduceMul, Nat.reduceSub, Nat.reduceEqDiff, Option.some.injEq, exists_eq_left', true_or, or_true, false_or, or_false, not_true_eq_false, not_false_eq_true, eq_self, and_self, Nat.reduceLeDiff, decide_true, decide_false, ne_eq, Nat.left_eq_add, Nat.add_eq_left, Nat.add_left_cancel_iff, Nat.add_zero]
      cases hr : o.bind rT with
      | none =>
        rw [hr] at z
        obtain ⟨⟨as', he1, hl1⟩, hu1⟩ := z
        have e1 : o.bind (rS (fun j => la (s * 6 + j)) (q :: qs) j as) = (none : Option (List Nat)).bind (rS (fun j => la (s * 6 + j)) qs (j + 1) as') := by
          cases o with
          | none => rfl
          | some r =>
            simp only [Option.bind_some] at hr
            simp only [Option.bind_some, rS, h116, if_true, hr, Option.bind_none]
        rw [e1]
        exact ih (j + 1) none as' h1 hq2 (by omega) F1 hu1 he1 (by omega) hw1 ht1 hla1 hf1 hc1
      | some x =>
        obtain ⟨tx, r1⟩ := x
        rw [hr] at z
        obtain ⟨he1, hu1⟩ := z
        have e1 : o.bind (rS (fun j => la (s * 6 + j)) (q :: qs) j as) = (some r1).bind (rS (fun j => la (s * 6 + j)) qs (j + 1) (as ++ [.inr tx])) := by
          cases o with
          | none => cases hr
          | some r =>
            simp only [Option.bind_some] at hr
            simp only [Option.bind_some, rS, h116, if_true, hr]
        rw [e1]
        exact ih (j + 1) (some r1) _ h1 hq2 (by omega) F1 hu1 he1 (by rw [List.length_append, List.length_singleton]; omega) hw1 ht1 hla1 hf1 hc1
    · simp (disch := omega) only [U111_0, U111_1, U111_4, U111_5, U111_8, U111_9, U111_10, U111_11, U111_14, U111_15, U111_18, U111_19, U111_22, U111_23, U111_26, U111_29, U111_30, U111_31, U111_32, U111_35, U111_36, U111_37, U111_40, U111_41, U111_42, U111_45, U111_46, U111_49, U111_50, U111_51, U111_54, U111_55, U111_56, U111_59, U111_60, U111_61, U111_62, U111_63, U111_66, U111_67, U111_68, U111_69, U111_72, U111_75, U111_76, U111_77, U111_78, U111_81, U111_84, U111_86, U111_87, U111_91, U111_93, U111_96, U111_99, U111_101, U111_103, U111_106, U111_109, U111_110, U111_111, U111_114, U111_117, U111_118, U111_119, U111_120, U111_123, U111_124, U111_125, U111_127, U111_130, U111_133, U111_136, U111_139, U111_142, U111_143, U111_144, U111_147, U111_150, U111_151, U111_154, hf.1, he.1.1, k1, k2, k3, k4, Format_slots hf hc, V37, Format_isTextAt hf hc ok, V32, ek, h116, bz_0, hjl, j_i, Event_lastIn k3 k4 hs, V19, hla (s * 6 + j) (by omega), i_add, i_mul, i_sub, i_addn, i_lt, i_eq, i_idx, i_vp, true_and, and_true, false_and, and_false, if_true, if_false, Nat.reduceAdd, Nat.reduceMul, Nat.reduceSub, Nat.reduceEqDiff, Option.some.injEq, exists_eq_left', true_or, or_true, false_or, or_false, not_true_eq_false, not_false_eq_true, eq_self, and_self, Nat.reduceLeDiff, decide_true, decide_false, ne_eq, Nat.left_eq_add, Nat.add_eq_left, Nat.add_left_cancel_iff, Nat.add_zero]
      refine Wp_use (Unp_takeNumber hu) ?_
      rintro v h1 ⟨f1, z⟩
      have he1 := he.fz f1 (by unfold SE SU; intro a i z; omega)
      have fin : ∀ (x : Int32) (o1 : Option (List Nat)), UO h1 u fr e fl o1 → (o.bind (rS (fun j => la (s * 6 + j)) (q :: qs) j as) = o1.bind (rS (fun j => la (s * 6 + j)) qs (j + 1) (as ++ [.inl x]))) → v = .inl (.int x) → bk_ Wp 111 130 0 107 [.ref u, .ref ev, .ref sl, .long (Int64.ofNat s), .null, .ref f, .int (Int32.ofNat j)] [.ref ev] (PE h0 u fr e ev w fl la ((o.bind (rS (fun j => la (s * 6 + j)) (q :: qs) j as)).bind fun z => some (s, t, z.1, z.2))) v h1 := by
        rintro x o1 hu1 e1 rfl
        rw [e1]
        simp (disch := omega) only [V107, U111_0, U111_1, U111_4, U111_5, U111_8, U111_9, U111_10, U111_11, U111_14, U111_15, U111_18, U111_19, U111_22, U111_23, U111_26, U111_29, U111_30, U111_31, U111_32, U111_35, U111_36, U111_37, U111_40, U111_41, U111_42, U111_45, U111_46, U111_49, U111_50, U111_51, U111_54, U111_55, U111_56, U111_59, U111_60, U111_61, U111_62, U111_63, U111_66, U111_67, U111_68, U111_69, U111_72, U111_75, U111_76, U111_77, U111_78, U111_81, U111_84, U111_86, U111_87, U111_91, U111_93, U111_96, U111_99, U111_101, U111_103, U111_106, U111_109, U111_110, U111_111, U111_114, U111_117, U111_118, U111_119, U111_120, U111_123, U111_124, U111_125, U111_127, U111_130, U111_133, U111_136, U111_139, U111_142, U111_143, U111_144, U111_147, U111_150, U111_151, U111_154, he1.1.1, i_add, i_mul, i_sub, i_addn, i_lt, i_eq, i_idx, i_vp, true_and, and_true, false_and, and_false, if_true, if_false, Nat.reduceAdd, Nat.reduceMul, Nat.reduceSub, Nat.reduceEqDiff, Option.some.injEq, exists_eq_left', true_or, or_true, false_or, or_false, not_true_eq_false, not_false_eq_true, eq_self, and_self, Nat.reduceLeDiff, decide_true, decide_false, ne_eq, Nat.left_eq_add, Nat.add_eq_left, Nat.add_left_cancel_iff, Nat.add_zero]
        refine Wp_use (Event_addNumber he1 (by omega)) ?_
        rintro _ h2 ⟨rfl, he2, f2⟩
        simp (disch := omega) only [V11, U111_0, U111_1, U111_4, U111_5, U111_8, U111_9, U111_10, U111_11, U111_14, U111_15, U111_18, U111_19, U111_22, U111_23, U111_26, U111_29, U111_30, U111_31, U111_32, U111_35, U111_36, U111_37, U111_40, U111_41, U111_42, U111_45, U111_46, U111_49, U111_50, U111_51, U111_54, U111_55, U111_56, U111_59, U111_60, U111_61, U111_62, U111_63, U111_66, U111_67, U111_68, U111_69, U111_72, U111_75, U111_76, U111_77, U111_78, U111_81, U111_84, U111_86, U111_87, U111_91, U111_93, U111_96, U111_99, U111_101, U111_103, U111_106, U111_109, U111_110, U111_111, U111_114, U111_117, U111_118, U111_119, U111_120, U111_123, U111_124, U111_125, U111_127, U111_130, U111_133, U111_136, U111_139, U111_142, U111_143, U111_144, U111_147, U111_150, U111_151, U111_154, i_add, i_mul, i_sub, i_addn, i_lt, i_eq, i_idx, i_vp, true_and, and_true, false_and, and_false, if_true, if_false, Nat.reduceAdd, Nat.reduceMul, Nat.reduceSub, Nat.reduceEqDiff, Option.some.injEq, exists_eq_left', true_or, or_true, false_or, or_false, not_true_eq_false, not_false_eq_true, eq_self, and_self, Nat.reduceLeDiff, decide_true, decide_false, ne_eq, Nat.left_eq_add, Nat.add_eq_left, Nat.add_left_cancel_iff, Nat.add_zero]
        have f12 : Fz (fun a i => SU u a i ∨ SE ev a i) h h2 := (f1.mono (fun _ _ z => Or.inl z)).trans (f2.mono (fun _ _ z => Or.inr z))
        have F1 := F.trans (f12.mono (fun a i z => z.elim (SUV a i) (SEV a i)))
        have nf : ∀ a i, (SU u a i ∨ SE ev a i) → ¬ (a = ev ∧ (i = 4 ∨ i = 5 ∨ i = 6)) ∧ ¬ (a = u ∧ i = 5) ∧ ¬ a = u + 1 := by unfold SU SE; intro a i z; omega
        exact ih (j + 1) o1 _ h2 hq2 (by omega) F1 (hu1.fz f2 (by unfold SE; omega) (by unfold SE; omega) (by unfold SE; omega) (by unfold SE SR; intro a i z; omega)) he2 (by rw [List.length_append, List.length_singleton]; omega)
          ⟨by rw [f12.gI (fun z => (nf _ _ z).1 (by omega))]; exact hw.1, by rw [f12.gI (fun z => (nf _ _ z).1 (by omega))]; exact hw.2.1, by rw [f12.gJ (fun z => (nf _ _ z).1 (by omega))]; exact hw.2.2⟩
          (by rw [f12.gJ (fun z => (nf _ _ z).2.1 (by omega))]; exact ht) (fun i hi => by rw [f12.gI (fun z => (nf _ _ z).2.2 rfl)]; exact hla i hi) (hf.fz f12) (hc.fz f12 (fun a i y z => af a i (Or.inl y) (z.elim (SUV a i) (SEV a i))))
      cases hr : o.bind (rN (la (s * 6 + j))) with
      | none =>
        rw [hr] at z
        obtain ⟨⟨x, rfl⟩, hu1⟩ := z
        refine fin x none hu1 ?_ rfl
        cases o with
        | none => rfl
        | some r =>
          simp only [Option.bind_some] at hr
          simp only [Option.bind_some, rS, h116, if_false, hr, Option.bind_none]
      | some y =>
        obtain ⟨x, r1⟩ := y
        rw [hr] at z
        obtain ⟨rfl, hu1⟩ := z
        refine fin x (some r1) hu1 ?_ rfl
        cases o with
        | none => cases hr
        | some r =>
          simp only [Option.bind_some] at hr
          simp only [Option.bind_some, rS, h116, if_false, hr]
