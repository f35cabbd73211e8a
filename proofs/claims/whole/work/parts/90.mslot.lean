/-! ===== the model: slots of a site ===== -/
def tkS : Tok → Nat
  | .inl _ => 0
  | .inr q => (sp1 (.inr q)).length
def fb1 : Tok → Nat
  | .inl b => b
  | .inr _ => 123
theorem sp1_len (t : Tok) : 1 ≤ (sp1 t).length ∧ (sp1 t).length ≤ 4 := by
  cases t with
  | inl b => simp only [sp1]; split <;> simp
  | inr q => obtain ⟨k, d⟩ := q; simp only [sp1]; split <;> simp
theorem sp1_hd (t : Tok) : (sp1 t).getD 0 0 = fb1 t := by
  cases t with
  | inl b => simp only [sp1, fb1]; split <;> rfl
  | inr q => obtain ⟨k, d⟩ := q; simp only [sp1, fb1]; split <;> rfl
theorem spell_app {a b : List Tok} : spell (a ++ b) = spell a ++ spell b := by unfold spell; rw [List.flatMap_append]
/-- where the letter of slot k is -/
def slA : List Tok → Nat → Nat → Option Nat
  | [], _, _ => none
  | .inl b :: us, k, o => slA us k (o + (sp1 (.inl b)).length)
  | .inr q :: us, k, o => if k = 0 then some (o + 1) else slA us (k - 1) (o + (sp1 (.inr q)).length)
theorem slA_inv : ∀ us k o, (slA us k o = none ↔ (slts us).length ≤ k) ∧ ∀ z, slA us k o = some z → o < z ∧ (spell us).getD (z - o) 0 = kdS us k ∧ z - o < (spell us).length ∧ ((kdS us k = 102 ∨ kdS us k = 101) → (spell us).getD (z - o + 1) 0 = 48 + dgS us k ∧ z - o + 1 < (spell us).length)
  | [], k, o => ⟨⟨fun _ => Nat.zero_le _, fun _ => rfl⟩, fun z hz => by cases hz⟩
  | .inl b :: us, k, o => by
    obtain ⟨i1, i2⟩ := slA_inv us k (o + (sp1 (.inl b)).length)
    have hl := sp1_len (.inl b)
    refine ⟨i1, fun z hz => ?_⟩
    obtain ⟨j1, j2, j3, j4⟩ := i2 z hz
    have ek : kdS (.inl b :: us) k = kdS us k := rfl
    have ed : dgS (.inl b :: us) k = dgS us k := rfl
    rw [spell_cons, ek, ed]
    refine ⟨by omega, ?_, ?_, fun hk => ?_⟩
    · rw [gD_app' (by omega), show z - o - (sp1 (.inl b)).length = z - (o + (sp1 (.inl b)).length) by omega]; exact j2
    · rw [List.length_append]; omega
    · obtain ⟨l1, l2⟩ := j4 hk
      refine ⟨?_, by rw [List.length_append]; omega⟩
      rw [gD_app' (by omega), show z - o + 1 - (sp1 (.inl b)).length = z - (o + (sp1 (.inl b)).length) + 1 by omega]; exact l1
  | .inr q :: us, k, o => by
    have hl := sp1_len (.inr q)
    have es : slts (.inr q :: us) = q :: slts us := rfl
    by_cases hk : k = 0
    · subst hk
      have e1 : slA (.inr q :: us) 0 o = some (o + 1) := rfl
      rw [e1]
      refine ⟨⟨fun z => (by cases z), fun z => by rw [es, List.length_cons] at z; omega⟩, fun z hz => ?_⟩
      have := Option.some.inj hz
      subst this
      obtain ⟨u, v⟩ := q
      have ek : kdS (.inr (u, v) :: us) 0 = u := rfl
      have ed : dgS (.inr (u, v) :: us) 0 = v := rfl
      rw [ek, ed, spell_cons, show o + 1 - o = 1 by omega]
      simp only [sp1]
      by_cases hfe : u = 102 ∨ u = 101
      · rw [if_pos hfe]
        exact ⟨by omega, rfl, by simp, fun _ => ⟨rfl, by simp⟩⟩
      · rw [if_neg hfe]
        exact ⟨by omega, rfl, by simp, fun z => absurd z hfe⟩
    · obtain ⟨i1, i2⟩ := slA_inv us (k - 1) (o + (sp1 (.inr q)).length)
      have e1 : slA (.inr q :: us) k o = slA us (k - 1) (o + (sp1 (.inr q)).length) := if_neg hk
      rw [e1]
      have ek : kdS (.inr q :: us) k = kdS us (k - 1) := by unfold kdS; rw [es, show k = (k - 1) + 1 by omega, List.getElem?_cons_succ]; rfl
      have ed : dgS (.inr q :: us) k = dgS us (k - 1) := by unfold dgS; rw [es, show k = (k - 1) + 1 by omega, List.getElem?_cons_succ]; rfl
      refine ⟨by rw [i1, es, List.length_cons]; omega, fun z hz => ?_⟩
      obtain ⟨j1, j2, j3, j4⟩ := i2 z hz
      rw [spell_cons, ek, ed]
      refine ⟨by omega, ?_, ?_, fun hk => ?_⟩
      · rw [gD_app' (by omega), show z - o - (sp1 (.inr q)).length = z - (o + (sp1 (.inr q)).length) by omega]; exact j2
      · rw [List.length_append]; omega
      · obtain ⟨l1, l2⟩ := j4 hk
        refine ⟨?_, by rw [List.length_append]; omega⟩
        rw [gD_app' (by omega), show z - o + 1 - (sp1 (.inr q)).length = z - (o + (sp1 (.inr q)).length) + 1 by omega]; exact l1
section
variable {h h' : MH_} {m s : Nat} {si : List (List Tok)} {ts : List Tok} {Q : Rs_ → MH_ → Prop}
theorem gD_le {l : List Nat} (hb : ∀ q ∈ l, q < 256) (i : Nat) : l.getD i 0 < 256 := gD_lt hb i
theorem spell_256 (ok : okS ts) : ∀ q ∈ spell ts, q < 256 := by
  intro q hq
  unfold spell at hq
  obtain ⟨t, ht, hq⟩ := List.mem_flatMap.mp hq
  have := ok t ht
  cases t with
  | inl b =>
    simp only [sp1] at hq
    have hsb : sg b := this
    unfold sg at hsb
    split at hq
    · simp at hq; omega
    · simp at hq; omega
  | inr z =>
    obtain ⟨u, v⟩ := z
    simp only [sp1] at hq
    simp only [okT] at this
    split at hq
    · simp at hq; omega
    · simp at hq; omega
/-- a piece's first byte in the formats' row, and its size -/
theorem M_tok {pre us : List Tok} {t : Tok} (X0 : MS h m) (X2 : MF h m si) (hs : si[s]? = some ts) (hp : ts = pre ++ t :: us) : gI_ h (m + 3) (80 * s + (spell pre).length) = Int32.ofNat (fb1 t) ∧ fb1 t < 256 ∧ (Wp 200 0 [.ref (m + 3), .int (Int32.ofNat (80 * s + (spell pre).length)), .int (Int32.ofNat (80 * s + (spell ts).length))] [] h Q ↔ Q (.inl (.int (Int32.ofNat (tkS t)))) h) := by
  obtain ⟨a1, a2, a3, a4, a5⟩ := X2.2.2 s ts hs
  have h40 := X2.2.1
  have hs40 : s < 40 := by
    rcases Nat.lt_or_ge s si.length with z | z
    · omega
    · rw [List.getElem?_eq_none z] at hs; cases hs
  have hl := sp1_len t
  have hsp : spell ts = spell pre ++ (sp1 t ++ spell us) := by rw [hp, spell_app, spell_cons]
  have hlen : (spell ts).length = (spell pre).length + ((sp1 t).length + (spell us).length) := by rw [hsp, List.length_append, List.length_append]
  have h256 := spell_256 a4
  have b0 : (spell ts).getD (spell pre).length 0 = fb1 t := by rw [hsp, gD_app' (Nat.le_refl _), Nat.sub_self, gD_app (by omega), sp1_hd]
  have e0 : gI_ h (m + 3) (80 * s + (spell pre).length) = Int32.ofNat (fb1 t) := by rw [a3 _ (by omega), b0]
  have hf : fb1 t < 256 := by rw [← b0]; exact gD_lt h256 _
  refine ⟨e0, hf, ?_⟩
  have okt : okT t := a4 t (by rw [hp]; exact List.mem_append.mpr (Or.inr (List.mem_cons.mpr (Or.inl rfl))))
  have two : 2 ≤ (sp1 t).length → gI_ h (m + 3) (80 * s + (spell pre).length + 1) = Int32.ofNat ((sp1 t).getD 1 0) := by
    intro h2
    rw [Nat.add_assoc, a3 _ (by omega), hsp, gD_app' (by omega), Nat.add_sub_cancel_left, gD_app (by omega)]
  have c256 : (sp1 t).getD 1 0 < 256 := by
    refine gD_lt (fun q hq => h256 q ?_) 1
    rw [hsp]
    exact List.mem_append.mpr (Or.inr (List.mem_append.mpr (Or.inl hq)))
  cases t with
  | inl b =>
    by_cases hb : b = 123
    · subst hb
      have z := M_ss1 (h := h) (a := m + 3) (p := 80 * s + (spell pre).length) (e := 80 * s + (spell ts).length) (c := 123) (Q := Q) (mk3 X0) (by rw [mn3 X0]; have : (sp1 (.inl 123)).length = 2 := rfl; omega) (by omega) (by have : (sp1 (.inl 123)).length = 2 := rfl; omega) (by omega) e0 (two (by decide)) (by omega)
      rw [z]
      rfl
    · exact M_ss0 (mk3 X0) (by rw [mn3 X0]; omega) (by omega) e0 hf hb
  | inr q =>
    obtain ⟨u, v⟩ := q
    have hlu : 2 ≤ (sp1 (.inr (u, v))).length := by simp only [sp1]; split <;> simp
    have e1 : (sp1 (.inr (u, v))).getD 1 0 = u := by simp only [sp1]; split <;> rfl
    have tw := two hlu
    rw [e1] at tw c256
    have z := M_ss1 (h := h) (a := m + 3) (p := 80 * s + (spell pre).length) (e := 80 * s + (spell ts).length) (c := u) (Q := Q) (mk3 X0) (by rw [mn3 X0]; omega) (by omega) (by omega) (by omega) e0 tw c256
    rw [z]
    have hne : ¬ u = 123 := by simp only [okT] at okt; omega
    rw [if_neg hne]
    simp only [tkS, sp1]
    split <;> rfl
theorem M_end (X0 : MS h m) (X2 : MF h m si) (hs : si[s]? = some ts) : Wp 155 0 [.ref m, .int (Int32.ofNat s)] [] h Q ↔ Q (.inl (.int (Int32.ofNat (80 * s + (spell ts).length)))) h := by
  obtain ⟨a1, a2, a3, a4, a5⟩ := X2.2.2 s ts hs
  have h40 := X2.2.1
  have hs40 : s < 40 := by
    rcases Nat.lt_or_ge s si.length with z | z
    · omega
    · rw [List.getElem?_eq_none z] at hs; cases hs
  simp (disch := omega) only [U155_0, U155_2, U155_3, U155_4, U155_5, U155_8, U155_9, U155_10, U155_11, X0.1, mp4 X0, mk2 X0, mn2 X0, a1, show s < 41 by omega, i_add, i_mul, i_sub, i_addn, i_lt, i_eq, i_idx, i_vp, true_and, and_true, false_and, and_false, if_true, if_false, Nat.reduceAdd, Nat.reduceMul, Nat.reduceSub, Nat.reduceEqDiff, Option.some.injEq, exists_eq_left', true_or, or_true, false_or, or_false, not_true_eq_false, not_false_eq_true, eq_self, and_self, Nat.reduceLeDiff, decide_true, decide_false, ne_eq, Nat.left_eq_add, Nat.add_eq_left, Nat.add_left_cancel_iff, Nat.add_zero]
end
