/-! ===== reading the file: pure ===== -/
def rFl (si : List (List Tok)) (fl : List Nat) : Nat → Nat → List Ev → Nat → List Ev × Nat
  | 0, _, acc, br => (acc, br)
  | n + 1, i, acc, br => match rB si fl acc i with
    | some es => rFl si fl n (i + 256) es br
    | none => rFl si fl n (i + 256) acc (br + 1)
def okL (si : List (List Tok)) (x : Ev) : Prop := x.1 < 4 ∧ x.2.2.1 < 9223372036854775808 ∧ ∃ ts, si[x.2.1]? = some ts ∧ fit ts x.2.2.2 = true
theorem rS_inv {la : Nat → Int32} : ∀ q j acc r x, rS la q j acc r = some x → ∃ nw, x.1 = acc ++ nw ∧ nw.length = q.length ∧ ∀ k, k < q.length → (isN nw k = true ↔ ¬ (q.map Prod.fst).getD k 0 = 116)
  | [], j, acc, r, x => by
    intro h
    rw [← Option.some.inj h]
    exact ⟨[], by simp, rfl, fun k hk => absurd hk (Nat.not_lt_zero _)⟩
  | q :: qs, j, acc, r, x => by
    intro h
    simp only [rS] at h
    have fin : ∀ (a : Arg) (nw : List Arg), x.1 = acc ++ [a] ++ nw → nw.length = qs.length → (∀ k, k < qs.length → (isN nw k = true ↔ ¬ (qs.map Prod.fst).getD k 0 = 116)) → (isN [a] 0 = true ↔ ¬ q.1 = 116) → ∃ nw, x.1 = acc ++ nw ∧ nw.length = (q :: qs).length ∧ ∀ k, k < (q :: qs).length → (isN nw k = true ↔ ¬ ((q :: qs).map Prod.fst).getD k 0 = 116) := by
      intro a nw h1 h2 h3 h4
      refine ⟨a :: nw, by rw [h1, List.append_assoc]; rfl, by rw [List.length_cons, List.length_cons, h2], fun k hk => ?_⟩
      cases k with
      | zero => exact h4
      | succ k =>
        rw [List.length_cons] at hk
        have := h3 k (by omega)
        unfold isN at this ⊢
        rw [List.getElem?_cons_succ, List.map_cons, List.getD_cons_succ]
        exact this
    split at h
    · rename_i h116
      cases hr : rT r with
      | none => rw [hr] at h; cases h
      | some y =>
        rw [hr] at h
        obtain ⟨nw, h1, h2, h3⟩ := rS_inv qs _ _ _ x h
        exact fin _ nw h1 h2 h3 (by simp [isN, h116])
    · rename_i h116
      cases hr : rN (la j) r with
      | none => rw [hr] at h; cases h
      | some y =>
        rw [hr] at h
        obtain ⟨nw, h1, h2, h3⟩ := rS_inv qs _ _ _ x h
        exact fin _ nw h1 h2 h3 (by simp [isN, h116])
theorem kdS_map {ts : List Tok} {k : Nat} : ((slts ts).map Prod.fst).getD k 0 = kdS ts k := by
  unfold kdS
  rw [List.getD_eq_getElem?_getD, List.getElem?_map]
  cases (slts ts)[k]? <;> rfl
theorem rE_fit {si : List (List Tok)} {la : Nat → Int32} {t : Nat} {r : List Nat} {x : Nat × Nat × List Arg × List Nat} (h : rE si la t r = some x) : ∃ ts, si[x.1]? = some ts ∧ fit ts x.2.2.1 = true := by
  obtain ⟨-, -, ts, r2, h1, h2⟩ := rE_inv h
  obtain ⟨nw, h3, h4, h5⟩ := rS_inv _ _ _ _ _ h2
  refine ⟨ts, h1, ?_⟩
  simp only [List.nil_append] at h3
  unfold fit
  rw [Bool.and_eq_true, decide_eq_true_iff, decide_eq_true_iff, h3]
  refine ⟨h4, fun k hk => ?_⟩
  rw [h5 k hk, kdS_map]
theorem rEs_inv {si : List (List Tok)} {w : Nat} (hw : w < 4) : ∀ n la t acc r es, rEs si w n la t acc r = some es → ∃ more, es = acc ++ more ∧ 2 * more.length ≤ r.length ∧ ∀ x ∈ more, okL si x := by
  intro n
  induction n with
  | zero =>
    intro la t acc r es h
    cases r with
    | nil => simp only [rEs] at h; exact ⟨[], by rw [← Option.some.inj h, List.append_nil], by simp, fun x hx => absurd hx List.not_mem_nil⟩
    | cons b r => simp only [rEs] at h; cases h
  | succ n ih =>
    intro la t acc r es h
    cases r with
    | nil => simp only [rEs] at h; exact ⟨[], by rw [← Option.some.inj h, List.append_nil], by simp, fun x hx => absurd hx List.not_mem_nil⟩
    | cons b r =>
      simp only [rEs] at h
      cases hr : rE si la t (b :: r) with
      | none => rw [hr] at h; cases h
      | some x =>
        rw [hr] at h
        simp only [Option.bind_some] at h
        obtain ⟨more, m1, m2, m3⟩ := ih _ _ _ _ _ h
        obtain ⟨i1, i2, -⟩ := rE_inv hr
        refine ⟨(w, x.1, x.2.1, x.2.2.1) :: more, by rw [m1, List.append_assoc]; rfl, by rw [List.length_cons]; omega, fun y hy => ?_⟩
        rcases List.mem_cons.mp hy with rfl | hy
        · exact ⟨hw, i2, rE_fit hr⟩
        · exact m3 y hy
theorem rB_inv {si : List (List Tok)} {fl : List Nat} {acc es : List Ev} {i : Nat} (h : rB si fl acc i = some es) : ∃ more, es = acc ++ more ∧ more.length ≤ 119 ∧ ∀ x ∈ more, okL si x := by
  unfold rB at h
  by_cases hk : hdOk fl i
  · rw [if_pos hk] at h
    obtain ⟨more, m1, m2, m3⟩ := rEs_inv hk.2.2.1 _ _ _ _ _ _ h
    rw [List.length_drop, List.length_take] at m2
    have := hk.2.2.2.2.1
    exact ⟨more, m1, by omega, m3⟩
  · rw [if_neg hk] at h; cases h
/-! the order, when events come behind -/
theorem gD_evapp {es more : List Ev} {i : Nat} (h : i < es.length) : (es ++ more).getD i evD = es.getD i evD := by
  rw [List.getD_eq_getElem?_getD, List.getD_eq_getElem?_getD, List.getElem?_append_left h]
theorem gD_mem {od : List Nat} {k : Nat} (h : k < od.length) : od.getD k 0 ∈ od := by rw [gD_in h]; exact List.getElem_mem h
theorem plc_app {es more : List Ev} {od : List Nat} {e : Nat} (ho : ∀ i ∈ od, i < es.length) (he : e < es.length) : ∀ k, k ≤ od.length → plc (es ++ more) od e k = plc es od e k := by
  intro k
  induction k with
  | zero => intro _; rfl
  | succ k ih =>
    intro hk
    have := ih (by omega)
    have g1 : (es ++ more).getD e evD = es.getD e evD := gD_evapp he
    have g2 : (es ++ more).getD (od.getD k 0) evD = es.getD (od.getD k 0) evD := gD_evapp (ho _ (gD_mem (show k < od.length by omega)))
    unfold plc
    by_cases h1 : bef (es.getD e evD) (es.getD (od.getD k 0) evD)
    · rw [if_pos h1, if_pos (by rw [g1, g2]; exact h1), this]
    · rw [if_neg h1, if_neg (by rw [g1, g2]; exact h1)]
theorem insO_app {es more : List Ev} {od : List Nat} {e : Nat} (ho : ∀ i ∈ od, i < es.length) (he : e < es.length) : insO (es ++ more) od e = insO es od e := by
  unfold insO
  rw [plc_app ho he _ (Nat.le_refl _)]
theorem srt_app {es more : List Ev} {od : List Nat} (ho : ∀ i ∈ od, i < es.length) (hs : srt es od) : srt (es ++ more) od := by
  intro i j hij hj
  rw [gD_evapp (ho _ (gD_mem hj)), gD_evapp (ho _ (gD_mem (by omega)))]
  exact hs i j hij hj
theorem insO_mem {es : List Ev} {od : List Nat} {e m : Nat} (ho : ∀ i ∈ od, i < m) (he : e < m) : ∀ i ∈ insO es od e, i < m := by
  intro i hi
  rcases ins_mem hi with rfl | hi
  · exact he
  · exact ho i hi
theorem odF_inv {es : List Ev} : ∀ n k od, od.length = k → srt es od → (∀ i ∈ od, i < k) → (odF es n k od).length = k + n ∧ srt es (odF es n k od) ∧ ∀ i ∈ odF es n k od, i < k + n := by
  intro n
  induction n with
  | zero => intro k od h1 h2 h3; exact ⟨h1, h2, h3⟩
  | succ n ih =>
    intro k od h1 h2 h3
    obtain ⟨s1, s2, s3⟩ := plc_spec (e := k) h2 od.length (Nat.le_refl _)
    have q := ih (k + 1) (insO es od k) (by unfold insO; rw [ins_len s1, h1]) (srt_ins h2) (insO_mem (fun i hi => by have := h3 i hi; omega) (by omega))
    rw [show k + 1 + n = k + (n + 1) by omega] at q
    exact q
theorem odF_app {es more : List Ev} : ∀ n k od, (∀ i ∈ od, i < es.length) → k + n ≤ es.length → odF (es ++ more) n k od = odF es n k od := by
  intro n
  induction n with
  | zero => intro k od _ _; rfl
  | succ n ih =>
    intro k od ho hk
    unfold odF
    rw [insO_app ho (by omega)]
    exact ih (k + 1) _ (insO_mem ho (by omega)) (by omega)
theorem odF_add {es : List Ev} : ∀ a b k od, odF es (a + b) k od = odF es b (k + a) (odF es a k od) := by
  intro a
  induction a with
  | zero => intro b k od; rw [Nat.zero_add]; rfl
  | succ a ih =>
    intro b k od
    rw [show a + 1 + b = (a + b) + 1 by omega]
    show odF es (a + b) (k + 1) (insO es od k) = odF es b (k + (a + 1)) (odF es a (k + 1) (insO es od k))
    rw [ih b (k + 1), show k + 1 + a = k + (a + 1) by omega]
/-- the lines' order -/
def odA (es : List Ev) : List Nat := odF es es.length 0 []
theorem srt_nil {es : List Ev} : srt es [] := fun i j _ hj => absurd hj (Nat.not_lt_zero _)
theorem odA_inv (es : List Ev) : (odA es).length = es.length ∧ srt es (odA es) ∧ ∀ i ∈ odA es, i < es.length := by
  have := odF_inv (es := es) es.length 0 [] rfl srt_nil (fun i hi => absurd hi List.not_mem_nil)
  rw [Nat.zero_add] at this
  exact this
theorem odA_app {es more : List Ev} : odA (es ++ more) = odF (es ++ more) more.length es.length (odA es) := by
  unfold odA
  rw [List.length_append, odF_add, Nat.zero_add, odF_app _ _ _ (fun i hi => absurd hi List.not_mem_nil) (by omega)]
