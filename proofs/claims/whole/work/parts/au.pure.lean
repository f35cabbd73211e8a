/-! ===== what stays of the state, operation by operation ===== -/
theorem WkOk.ext {si : List (List Tok)} {ts : List Tok} {l : List Pd} (h : WkOk si l) : WkOk (si ++ [ts]) l := by
  intro p hp
  obtain ⟨a, us, b, c⟩ := h p hp
  exact ⟨a, us, by rw [List.getElem?_append_left (by rcases Nat.lt_or_ge p.1 si.length with z | z; exact z; rw [List.getElem?_eq_none z] at b; cases b)]; exact b, c⟩
theorem okL.ext {si : List (List Tok)} {ts : List Tok} {y : Ev} (h : okL si y) : okL (si ++ [ts]) y := by
  obtain ⟨a, a2, us, b, c⟩ := h
  exact ⟨a, a2, us, by rw [List.getElem?_append_left (by rcases Nat.lt_or_ge y.2.1 si.length with z | z; exact z; rw [List.getElem?_eq_none z] at b; cases b)]; exact b, c⟩
theorem JW.nil {si : List (List Tok)} {a b : Nat} (h : a < 9223372036854775808) : JW si ([], a, b) :=
  ⟨h, fun z => absurd rfl z, fun p hp => absurd hp List.not_mem_nil, (fun e p q hp => by cases hp), fun e he => by
    show (pkP (([] : List Pd).take e)).1.length ≤ 238
    rw [List.take_nil]
    decide⟩
theorem last_time {l : List Pd} {p : Pd} : (pkP (l ++ [p])).2.2.1 = p.2.1 := by rw [pkP_snoc]; rfl
theorem JW.log {si : List (List Tok)} {q : Wr} {s t c : Nat} {ar : List Arg} {ts : List Tok} (J : JW si q) (hs : si[s]? = some ts) (hf : fit ts ar = true) (ht : t < 9223372036854775808) (hle : q.2.1 ≤ t) (hlen : (pkP (wrN q s t ar)).1.length ≤ 238) : JW si (wrN q s t ar, t, c) := by
  obtain ⟨a1, a2, a3, a4, a5⟩ := J
  refine ⟨ht, fun _ => last_time, fun p hp => ?_, fun e p p' hp hp' => ?_, fun e he => ?_⟩
  · rcases List.mem_append.mp hp with hp | hp
    · exact a3 p hp
    · rw [List.mem_singleton.mp hp]; exact ⟨ht, ts, hs, hf⟩
  · unfold wrN at hp hp'
    simp only at hp hp'
    by_cases h1 : e + 1 < q.1.length
    · rw [List.getElem?_append_left (by omega)] at hp hp'
      exact a4 e p p' hp hp'
    · have h2 : e + 1 = q.1.length := by
        rcases Nat.lt_or_ge (e + 1) (q.1.length + 1) with z | z
        · omega
        · rw [List.getElem?_eq_none (by rw [List.length_append, List.length_singleton]; omega)] at hp'; cases hp'
      rw [List.getElem?_append_left (by omega)] at hp
      rw [List.getElem?_append_right (by omega), h2, Nat.sub_self] at hp'
      have e1 := Option.some.inj hp'
      have hne : q.1 ≠ [] := by intro z; rw [z, List.length_nil] at h2; omega
      have e2 := a2 hne
      have e3 : q.1 = q.1.dropLast ++ [p] := by
        have g := List.dropLast_concat_getLast hne
        have gl : q.1.getLast hne = p := by
          rw [List.getLast_eq_getElem]
          rw [List.getElem?_eq_getElem (by omega)] at hp
          have := Option.some.inj hp
          rw [← this]
          congr 1
          omega
        rw [gl] at g
        exact g.symm
      rw [e3, last_time] at e2
      rw [← e1]
      show p.2.1 ≤ t
      omega
  · show (pkP ((wrN q s t ar).take e)).1.length ≤ 238
    have hl : (wrN q s t ar).length = q.1.length + 1 := by unfold wrN; rw [List.length_append, List.length_singleton]
    have he' : e ≤ (wrN q s t ar).length := he
    by_cases h1 : e ≤ q.1.length
    · unfold wrN
      rw [List.take_append_of_le_length h1]
      exact a5 e h1
    · rw [List.take_of_length_le (by omega)]
      exact hlen
theorem JW.one {si : List (List Tok)} {s t c : Nat} {ar : List Arg} {ts : List Tok} (hs : si[s]? = some ts) (hf : fit ts ar = true) (ht : t < 9223372036854775808) (hlen : (pkP [(s, t, ar)]).1.length ≤ 238) : JW si ([(s, t, ar)], t, c) := by
  have := JW.log (si := si) (q := ([], 0, 0)) (s := s) (t := t) (c := c) (ar := ar) (JW.nil (by omega)) hs hf ht (Nat.zero_le _) hlen
  exact this
section
variable {si : List (List Tok)} {wr : Nat → Wr} {fl : List Nat} {cu : Bool} {es : List Ev}
theorem Jv.site {ts : List Tok} (J : Jv si wr fl cu es) : Jv (si ++ [ts]) wr fl cu es := by
  refine ⟨fun w hw => ?_, J.2.1, fun y hy => (J.2.2 y hy).ext⟩
  obtain ⟨a1, a2, a3, a4, a5⟩ := J.1 w hw
  exact ⟨a1, a2, a3.ext, a4, a5⟩
theorem Jv.rot (J : Jv si wr fl cu es) : Jv si (fun _ => ([], 0, 0)) [] false es := ⟨fun w hw => JW.nil (by omega), fun _ => rfl, J.2.2⟩
theorem Jv.crash {fl' : List Nat} (J : Jv si wr fl cu es) : Jv si (wrC wr) fl' true es := ⟨fun w hw => JW.nil (J.1 w hw).1, fun z => absurd rfl z, J.2.2⟩
theorem Jv.set {i b : Nat} (J : Jv si wr fl cu es) : Jv si wr (fl.set i b) cu es := ⟨J.1, fun z => by rw [List.length_set]; exact J.2.1 z, J.2.2⟩
theorem Jv.upd {w : Nat} {v : Wr} {fl' : List Nat} (J : Jv si wr fl cu es) (hv : w < 4 → JW si v) (hf : ¬ cu = true → fl'.length % 256 = 0) : Jv si (wrS wr w v) fl' cu es := by
  refine ⟨fun q hq => ?_, hf, J.2.2⟩
  unfold wrS
  by_cases e : q = w
  · rw [if_pos e]; exact hv (by omega)
  · rw [if_neg e]; exact J.1 q hq
theorem rFl_ok : ∀ n i acc br, (∀ y ∈ acc, okL si y) → ∀ y ∈ (rFl si fl n i acc br).1, okL si y := by
  intro n
  induction n with
  | zero => intro i acc br h; exact h
  | succ n ih =>
    intro i acc br h
    simp only [rFl]
    cases hB : rB si fl acc i with
    | none => exact ih _ _ _ h
    | some es =>
      obtain ⟨more, m1, m2, m3⟩ := rB_inv hB
      refine ih _ _ _ (fun y hy => ?_)
      rw [m1] at hy
      exact (List.mem_append.mp hy).elim (h y) (m3 y)
theorem Jv.op (J : Jv si wr fl cu es) : Jv si wr fl cu (rdA si fl).1 := ⟨J.1, J.2.1, rFl_ok _ _ _ _ (fun y hy => absurd hy List.not_mem_nil)⟩
end
/-! the bytes of a printed line -/
theorem chr_256 {x : Nat} (h : x < 16) : chr x < 256 := by unfold chr; split <;> omega
theorem dgF_16 {base : Nat} (hb : 0 < base) (hb2 : base ≤ 16) : ∀ f v m, ∀ d ∈ dgF base f v m, d < 16 := by
  intro f
  induction f with
  | zero => intro v m d hd; exact absurd hd List.not_mem_nil
  | succ f ih =>
    intro v m d hd
    unfold dgF at hd
    split at hd
    · rcases List.mem_cons.mp hd with rfl | hd
      · have := Nat.mod_lt v hb; omega
      · exact ih _ _ d hd
    · exact absurd hd List.not_mem_nil
theorem otF_lt {ds : List Nat} {p : Nat} (h : ∀ d ∈ ds, d < 16) : ∀ n, ∀ b ∈ otF ds p n, b < 256 := by
  intro n
  induction n with
  | zero => intro b hb; simp [otF] at hb
  | succ n ih =>
    intro b hb
    have hd : ds.getD n 0 < 16 := by
      by_cases hi : n < ds.length
      · rw [gD_in hi]; exact h _ (List.getElem_mem hi)
      · rw [gD_out (by omega)]; omega
    have hc := chr_256 hd
    simp only [otF, List.mem_cons, List.mem_append] at hb
    rcases hb with hb | hb | hb
    · rw [hb]; exact hc
    · split at hb
      · rw [List.mem_singleton.mp hb]; omega
      · exact absurd hb List.not_mem_nil
    · exact ih b hb
theorem prD_lt {v p base : Nat} (hb : 0 < base) (hb2 : base ≤ 16) : ∀ b ∈ prD v p base, b < 256 := otF_lt (dgF_16 hb hb2 _ _ _) _
theorem prS_lt {x : Int32} {bp : Nat} : ∀ b ∈ prS x bp, b < 256 := by
  intro b hb
  unfold prS at hb
  rcases List.mem_append.mp hb with hb | hb
  · split at hb
    · rw [List.mem_singleton.mp hb]; omega
    · exact absurd hb List.not_mem_nil
  · exact prD_lt (by omega) (by omega) b hb
theorem slT_lt {nm : Nat → List Nat} {k d : Nat} {a : Arg} (hn : ∀ q, q < 256 → ∀ b ∈ nm q, b < 256) (ok : okT (.inr (k, d))) (ha : ∀ t, a = .inr t → ∀ b ∈ t, b < 256) : ∀ b ∈ slT nm k d a, b < 256 := by
  intro b hb
  unfold slT at hb
  split at hb
  · exact prD_lt (by omega) (by omega) b hb
  · split at hb
    · exact prD_lt (by omega) (by omega) b hb
    · split at hb
      · rename_i h101
        split at hb
        · exact prS_lt b hb
        · rename_i hq
          have h0 : ¬ nv a < Int32.ofNat 0 := fun z => hq (Or.inl z)
          have h32 : nv a < Int32.ofNat 32 := Classical.byContradiction (fun z => hq (Or.inr (Or.inl z)))
          obtain ⟨q, q1, q2⟩ := i_nat h0
          rw [q2, i_lt q1 (by omega)] at h32
          rw [q2, i_idx q1] at hb
          have hd : d ≤ 7 := by unfold okT at ok; omega
          exact hn _ (by omega) b hb
      · split at hb
        · cases a with
          | inl x => exact absurd hb List.not_mem_nil
          | inr t => exact ha t rfl b hb
        · exact prS_lt b hb
theorem prF_lt {nm : Nat → List Nat} {as : List Arg} (hn : ∀ q, q < 256 → ∀ b ∈ nm q, b < 256) (ha : ∀ t, .inr t ∈ as → ∀ b ∈ t, b < 256) : ∀ ts j, okS ts → ∀ b ∈ prF nm as ts j, b < 256 := by
  intro ts
  induction ts with
  | nil => intro j ok b hb; exact absurd hb List.not_mem_nil
  | cons t ts ih =>
    intro j ok b hb
    have ok1 := ok t (List.mem_cons_self ..)
    have ok2 : okS ts := fun y hy => ok y (List.mem_cons_of_mem _ hy)
    cases t with
    | inl c =>
      simp only [prF] at hb
      rcases List.mem_cons.mp hb with rfl | hb
      · unfold okT at ok1; simp only at ok1; omega
      · exact ih j ok2 b hb
    | inr q =>
      obtain ⟨k, d⟩ := q
      simp only [prF] at hb
      rcases List.mem_append.mp hb with hb | hb
      · refine slT_lt hn ok1 (fun t ht => ?_) b hb
        rw [List.getD_eq_getElem?_getD] at ht
        cases hg : as[j]? with
        | none => rw [hg] at ht; cases ht
        | some g => rw [hg] at ht; exact ha t (by have : g = .inr t := ht; rw [← this]; exact List.mem_of_getElem? hg)
      · exact ih (j + 1) ok2 b hb
section
variable {h : MH_} {m : Nat} {tx : List Nat} {si : List (List Tok)} {nm : Nat → List Nat} {ar : List Arg} {wr : Nat → Wr} {fl : List Nat} {du : Nat} {cu : Bool} {es : List Ev} {br : Nat} {tm : List Tm}
theorem MM.pr (X : MM h m tx si nm ar wr fl du cu es br tm) (ok : ∀ y ∈ es, okL si y) : ∀ y ∈ es, ∀ i, (prE nm si y).getD i 0 < 256 := by
  obtain ⟨X0, X1, X2, X3, X4, X5, X6, X7, X8⟩ := X
  intro y hy i
  obtain ⟨j, hj, e⟩ := List.getElem_of_mem hy
  have hM := X7.2.2.2.1 j y (by rw [List.getElem?_eq_getElem hj, e])
  obtain ⟨-, -, ts, hts, -⟩ := ok y hy
  have okt := (X2.2.2 _ ts hts).2.2.2.1
  have es : si.getD y.2.1 [] = ts := by rw [List.getD_eq_getElem?_getD, hts]; rfl
  unfold prE
  rw [es]
  refine gD_lt (prF_lt (fun q hq => (X3 q hq).2.2.2) (fun t ht b hb => ?_) ts 0 okt) i
  obtain ⟨k, hk, e2⟩ := List.getElem_of_mem ht
  exact ((hM.2.2.2.2 k _ (by rw [List.getElem?_eq_getElem hk, e2])).2 t rfl).2.2 b hb
end
