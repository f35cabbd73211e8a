/-! ===== Format ===== -/
def Fs (h : MH_) (f : Nat) : Prop := kd_ h f = 3 ∧ gP_ h f 0 = some (f + 1) ∧ gP_ h f 1 = some (f + 3) ∧ gP_ h f 2 = some (f + 4) ∧ gP_ h f 3 = some (f + 5) ∧ kd_ h (f + 3) = 30 ∧ ln_ h (f + 3) = 80 ∧ kd_ h (f + 4) = 30 ∧ ln_ h (f + 4) = 6 ∧ kd_ h (f + 5) = 30 ∧ ln_ h (f + 5) = 6
/-- what is printed for piece i -/
def pcv (ts : List Tok) (i : Nat) : Int32 := match ts[i]? with
  | some (.inl b) => Int32.ofNat b
  | some (.inr _) => -(Int32.ofNat 1) - Int32.ofNat (slts (ts.take i)).length
  | none => Int32.ofNat 0
def Fc (h : MH_) (f : Nat) (ts : List Tok) : Prop := gI_ h f 4 = Int32.ofNat ts.length ∧ ts.length ≤ 80 ∧ gI_ h f 5 = Int32.ofNat (slts ts).length ∧ (slts ts).length ≤ 6 ∧ (∀ i, i < ts.length → gI_ h (f + 3) i = pcv ts i) ∧ ∀ j (hj : j < (slts ts).length), gI_ h (f + 4) j = Int32.ofNat (slts ts)[j].1 ∧ gI_ h (f + 5) j = Int32.ofNat (slts ts)[j].2
/-- what reading a format may change, but for the spelling -/
def SF (f : Nat) : Nat → Nat → Prop := fun a i => (a = f ∧ (i = 4 ∨ i = 5 ∨ i = 6)) ∨ a = f + 3 ∨ a = f + 4 ∨ a = f + 5
theorem Fs.fz {S : Nat → Nat → Prop} {h h' : MH_} {f : Nat} (hf : Fs h f) (z : Fz S h h') : Fs h' f := by
  obtain ⟨a1, a2, a3, a4, a5, a6, a7, a8, a9, a10, a11⟩ := hf
  exact ⟨by rw [z.kd, a1], by rw [z.gP, a2], by rw [z.gP, a3], by rw [z.gP, a4], by rw [z.gP, a5], by rw [z.kd, a6], by rw [z.ln, a7], by rw [z.kd, a8], by rw [z.ln, a9], by rw [z.kd, a10], by rw [z.ln, a11]⟩
theorem Fc.fz {S : Nat → Nat → Prop} {h h' : MH_} {f : Nat} {ts : List Tok} (hf : Fc h f ts) (z : Fz S h h') (hs : ∀ a i, SF f a i → ¬ S a i) : Fc h' f ts := by
  obtain ⟨c1, c2, c3, c4, c5, c6⟩ := hf
  exact ⟨by rw [z.gI (hs _ _ (Or.inl ⟨rfl, Or.inl rfl⟩)), c1], c2, by rw [z.gI (hs _ _ (Or.inl ⟨rfl, Or.inr (Or.inl rfl)⟩)), c3], c4, fun i hi => by rw [z.gI (hs _ _ (Or.inr (Or.inl rfl))), c5 i hi],
    fun j hj => ⟨by rw [z.gI (hs _ _ (Or.inr (Or.inr (Or.inl rfl)))), (c6 j hj).1], by rw [z.gI (hs _ _ (Or.inr (Or.inr (Or.inr rfl)))), (c6 j hj).2]⟩⟩
/-- a format under way: its pieces, its state, the letter and digit of a slot that is not closed -/
def FR (h : MH_) (f : Nat) (ts : List Tok) (md k d : Nat) : Prop := Fs h f ∧ Fc h f ts ∧ gI_ h f 6 = Int32.ofNat md ∧ (md = 2 ∨ md = 3 → (slts ts).length < 6 ∧ gI_ h (f + 4) (slts ts).length = Int32.ofNat k) ∧ (md = 3 → gI_ h (f + 5) (slts ts).length = Int32.ofNat d)
theorem FR.fz {S : Nat → Nat → Prop} {h h' : MH_} {f md k d : Nat} {ts : List Tok} (hf : FR h f ts md k d) (z : Fz S h h') (hs : ∀ a i, SF f a i → ¬ S a i) : FR h' f ts md k d := by
  obtain ⟨c1, c2, c3, c4, c5⟩ := hf
  exact ⟨c1.fz z, c2.fz z hs, by rw [z.gI (hs _ _ (Or.inl ⟨rfl, Or.inr (Or.inr rfl)⟩)), c3], fun m => ⟨(c4 m).1, by rw [z.gI (hs _ _ (Or.inr (Or.inr (Or.inl rfl)))), (c4 m).2]⟩, fun m => by rw [z.gI (hs _ _ (Or.inr (Or.inr (Or.inr rfl)))), c5 m]⟩
theorem slts_app {ts us : List Tok} : slts (ts ++ us) = slts ts ++ slts us := by unfold slts; rw [List.filterMap_append]
theorem pcv_app {ts : List Tok} {t : Tok} {i : Nat} (hi : i < ts.length) : pcv (ts ++ [t]) i = pcv ts i := by
  unfold pcv
  rw [List.getElem?_append_left hi, List.take_append_of_le_length (by omega)]
theorem pcv_last {ts : List Tok} {t : Tok} : pcv (ts ++ [t]) ts.length = match t with | .inl b => Int32.ofNat b | .inr _ => -(Int32.ofNat 1) - Int32.ofNat (slts ts).length := by
  unfold pcv
  rw [List.getElem?_append_right (Nat.le_refl _), Nat.sub_self, List.take_left']
  · cases t <;> rfl
  · rfl
/-- a sign more -/
theorem Fc.sign {h h' : MH_} {f b : Nat} {ts : List Tok} (hc : Fc h f ts) (hl : ts.length < 80) (e1 : gI_ h' f 4 = Int32.ofNat (ts.length + 1)) (e2 : gI_ h' f 5 = gI_ h f 5) (e3 : ∀ i, gI_ h' (f + 3) i = if i = ts.length then Int32.ofNat b else gI_ h (f + 3) i) (e4 : ∀ i, gI_ h' (f + 4) i = gI_ h (f + 4) i) (e5 : ∀ i, gI_ h' (f + 5) i = gI_ h (f + 5) i) : Fc h' f (ts ++ [.inl b]) := by
  obtain ⟨c1, c2, c3, c4, c5, c6⟩ := hc
  have es : slts (ts ++ [.inl b]) = slts ts := by rw [slts_app]; exact List.append_nil _
  refine ⟨by rw [e1, List.length_append]; rfl, by rw [List.length_append]; exact hl, by rw [e2, c3, es], by rw [es]; exact c4, fun i hi => ?_, ?_⟩
  · rw [List.length_append, List.length_singleton] at hi
    rw [e3]
    by_cases h1 : i = ts.length
    · subst h1; rw [if_pos rfl, pcv_last]
    · rw [if_neg h1, c5 i (by omega), pcv_app (by omega)]
  · rw [es]
    intro j hj
    exact ⟨by rw [e4, (c6 j hj).1], by rw [e5, (c6 j hj).2]⟩
/-- a slot more -/
theorem Fc.slot {h h' : MH_} {f k d : Nat} {ts : List Tok} (hc : Fc h f ts) (hl : ts.length < 80) (hn : (slts ts).length < 6) (hk : gI_ h (f + 4) (slts ts).length = Int32.ofNat k) (hd : gI_ h (f + 5) (slts ts).length = Int32.ofNat d) (e1 : gI_ h' f 4 = Int32.ofNat (ts.length + 1)) (e2 : gI_ h' f 5 = Int32.ofNat ((slts ts).length + 1)) (e3 : ∀ i, gI_ h' (f + 3) i = if i = ts.length then -(Int32.ofNat 1) - Int32.ofNat (slts ts).length else gI_ h (f + 3) i) (e4 : ∀ i, gI_ h' (f + 4) i = gI_ h (f + 4) i) (e5 : ∀ i, gI_ h' (f + 5) i = gI_ h (f + 5) i) : Fc h' f (ts ++ [.inr (k, d)]) := by
  obtain ⟨c1, c2, c3, c4, c5, c6⟩ := hc
  have es : slts (ts ++ [.inr (k, d)]) = slts ts ++ [(k, d)] := by rw [slts_app]; rfl
  refine ⟨by rw [e1, List.length_append]; rfl, by rw [List.length_append]; exact hl, by rw [e2, es, List.length_append]; rfl, by rw [es, List.length_append]; exact hn, fun i hi => ?_, ?_⟩
  · rw [List.length_append, List.length_singleton] at hi
    rw [e3]
    by_cases h1 : i = ts.length
    · subst h1; rw [if_pos rfl, pcv_last]
    · rw [if_neg h1, c5 i (by omega), pcv_app (by omega)]
  · rw [es]
    intro j hj
    rw [List.length_append, List.length_singleton] at hj
    rw [e4, e5]
    by_cases h1 : j < (slts ts).length
    · rw [List.getElem_append_left h1]; exact c6 j h1
    · have : j = (slts ts).length := by omega
      subst this
      rw [List.getElem_append_right (Nat.le_refl _)]
      simp only [Nat.sub_self, List.getElem_cons_zero]
      exact ⟨hk, hd⟩
theorem Format_opens {h : MH_} {f r c i md k d : Nat} {ts : List Tok} {t : List Nat} {Q : Rs_ → MH_ → Prop} (hf : FR h f ts md k d) (hr : Rw h r c t) (hm : md ≤ 4) (hi : i < 1000000) : Wp 34 0 [.ref f, .ref r, .int (Int32.ofNat i)] [] h Q ↔ Q (.inl (.int (bz (md = 0 ∧ (slts ts).length = 6 ∧ t.getD i 0 = 123 ∧ ¬ t.getD (i + 1) 0 = 123)))) h := by
  obtain ⟨⟨a1, a2, a3, a4, a5, a6, a7, a8, a9, a10, a11⟩, ⟨c1, c2, c3, c4, c5, c6⟩, d1, d2, d3⟩ := hf
  have l1 := hr.lt i
  have l2 := hr.lt (i + 1)
  simp (disch := omega) only [U34_0, U34_1, U34_4, U34_7, U34_8, U34_11, U34_13, U34_16, U34_17, U34_18, U34_21, U34_23, U34_26, U34_27, U34_28, U34_29, U34_30, U34_33, U34_35, U34_38, U34_39, U34_42, U34_43, a1, d1, c3, hr.1, Row_at hr, V85, i_add, i_mul, i_sub, i_addn, i_lt, i_eq, i_idx, i_vp, true_and, and_true, false_and, and_false, if_true, if_false, Nat.reduceAdd, Nat.reduceMul, Nat.reduceSub, Nat.reduceEqDiff, Option.some.injEq, exists_eq_left', true_or, or_true, false_or, or_false, not_true_eq_false, not_false_eq_true, eq_self, and_self, Nat.reduceLeDiff, decide_true, decide_false, ne_eq, Nat.left_eq_add, Nat.add_eq_left, Nat.add_left_cancel_iff, Nat.add_zero]
  by_cases h1 : md = 0
  · by_cases h2 : (slts ts).length = 6
    · by_cases h3 : t.getD i 0 = 123
      · by_cases h4 : t.getD (i + 1) 0 = 123
        · rw [if_pos h1, if_pos h2, if_pos h3, if_pos h4, bz_f (p := md = 0 ∧ (slts ts).length = 6 ∧ t.getD i 0 = 123 ∧ ¬ t.getD (i + 1) 0 = 123) (fun z => z.2.2.2 h4)]
        · rw [if_pos h1, if_pos h2, if_pos h3, if_neg h4, bz_t (p := md = 0 ∧ (slts ts).length = 6 ∧ t.getD i 0 = 123 ∧ ¬ t.getD (i + 1) 0 = 123) ⟨h1, h2, h3, h4⟩]
      · rw [if_pos h1, if_pos h2, if_neg h3, bz_f (p := md = 0 ∧ (slts ts).length = 6 ∧ t.getD i 0 = 123 ∧ ¬ t.getD (i + 1) 0 = 123) (fun z => h3 z.2.2.1)]
    · rw [if_pos h1, if_neg h2, bz_f (p := md = 0 ∧ (slts ts).length = 6 ∧ t.getD i 0 = 123 ∧ ¬ t.getD (i + 1) 0 = 123) (fun z => h2 z.2.1)]
  · rw [if_neg h1, bz_f (p := md = 0 ∧ (slts ts).length = 6 ∧ t.getD i 0 = 123 ∧ ¬ t.getD (i + 1) 0 = 123) (fun z => h1 z.1)]
