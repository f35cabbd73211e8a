/-! ===== the model reads: lastNumber, readSlot ===== -/
/-- a value that was read, at a place of the slots -/
def MG (h : MH_) (m c : Nat) (g : Arg) : Prop := gI_ h (m + 23) c = nv g ∧ ∀ t, g = .inr t → t.length ≤ 16 ∧ (∃ p, gI_ h (m + 24) c = Int32.ofNat p ∧ p + t.length ≤ 6144 ∧ ∀ j, j < t.length → gI_ h (m + 19) (p + j) = Int32.ofNat (t.getD j 0)) ∧ ∀ q ∈ t, q < 256
/-- the events that were read -/
def Mv (h : MH_) (m : Nat) (es : List Ev) : Prop := ∀ (i : Nat) (y : Ev), es[i]? = some y → M1 h m i y
/-- the last numbers behind some events -/
def laF (l : List Ev) : Nat → Int32 := l.foldl (fun la y => laU la y.2.1 y.2.2.2) (fun _ => Int32.ofNat 0)
theorem laF_snoc {l : List Ev} {y : Ev} : laF (l ++ [y]) = laU (laF l) y.2.1 y.2.2.2 := by unfold laF; rw [List.foldl_append]; rfl
theorem laF_at {l : List Ev} {y : Ev} {s k : Nat} (hk : k < 6) (hp : y.2.2.2.length ≤ 6) (hs : y.2.1 = s → k < y.2.2.2.length) : laF (l ++ [y]) (s * 6 + k) = if y.2.1 = s then numA y.2.2.2 k else laF l (s * 6 + k) := by
  rw [laF_snoc]
  unfold laU
  by_cases h1 : y.2.1 = s
  · rw [if_pos h1, if_pos (by have := hs h1; rw [h1]; omega), h1, Nat.add_sub_cancel_left]
  · rw [if_neg h1, if_neg (by omega)]
def rG (la : Int32) (kd : Nat) (r : List Nat) : Option (Arg × List Nat) := if kd = 116 then (rT r).map (fun x => (.inr x.1, x.2)) else (rN la r).map (fun x => (.inl x.1, x.2))
theorem rS_G {la : Nat → Int32} {q : Nat × Nat} {qs : List (Nat × Nat)} {j : Nat} {acc : List Arg} {r : List Nat} : rS la (q :: qs) j acc r = (rG (la j) q.1 r).bind fun x => rS la qs (j + 1) (acc ++ [x.1]) x.2 := by
  simp only [rS, rG]
  split
  · cases rT r <;> rfl
  · cases rN (la j) r <;> rfl
/-- four bytes as an int -/
theorem rI_big : ∀ n p (x : Int64) (fl r : List Nat), (∀ k, k < n → r.getD k 0 = fl.getD (p + k) 0) → n ≤ r.length → rI n x.toInt32 r = some ((bgF (fun k => fl.getD k 0) n p x).toInt32, r.drop n) := by
  intro n
  induction n with
  | zero => intro p x fl r _ _; rfl
  | succ n ih =>
    intro p x fl r hr hl
    cases r with
    | nil => simp at hl
    | cons b r =>
      have h0 := hr 0 (by omega)
      rw [Nat.add_zero] at h0
      have hb : b = fl.getD p 0 := h0
      have e1 : Int32.ofNat 256 * x.toInt32 + Int32.ofNat b = (Int64.ofNat 256 * x + Int64.ofNat (fl.getD p 0)).toInt32 := by
        rw [Int64.toInt32_add, Int64.toInt32_mul, j_i, j_i, hb]
      simp only [rI, bgF]
      rw [e1, ih (p + 1) _ fl r (fun k hk => by
        have := hr (k + 1) (by omega)
        rw [show p + 1 + k = p + (k + 1) by omega, ← this]
        rfl) (by rw [List.length_cons] at hl; omega)]
      rfl
theorem rI_short : ∀ n (x : Int32) (r : List Nat), r.length < n → rI n x r = none := by
  intro n
  induction n with
  | zero => intro x r h; omega
  | succ n ih =>
    intro x r h
    cases r with
    | nil => rfl
    | cons b r => rw [List.length_cons] at h; exact ih _ r (by omega)
def SLt (m c : Nat) : Nat → Nat → Prop := fun a i => (a = m ∧ (i = 43 ∨ i = 45)) ∨ ((a = m + 23 ∨ a = m + 24) ∧ i = c)
theorem sb_lt {n : Nat} (hn : n < 2147483648) : Int32.ofNat n + -(Int32.ofNat 1) < Int32.ofNat n := by
  cases n with
  | zero => decide
  | succ n => rw [i_addn (by omega), i_lt (by omega) (by omega)]; omega
section
variable {h h' : MH_} {m e s k : Nat} {fl : List Nat} {o : Option (List Nat)} {S : Nat → Nat → Prop} {Q : Rs_ → MH_ → Prop} {si : List (List Tok)} {ts : List Tok} {old cur : List Ev}
theorem M_lastNumber (X0 : MS h m) (hv : Mv h m (old ++ cur)) (h27 : gI_ h m 27 = Int32.ofNat (old.length + cur.length)) (hk : k < 6) (hs : s < 40) (h40 : ∀ q ∈ cur, q.2.1 < 40) (hn : ∀ q ∈ cur, q.2.1 = s → k < q.2.2.2.length) (hl : old.length + cur.length ≤ 2856) : Wp 168 0 [.ref m, .int (Int32.ofNat old.length), .int (Int32.ofNat s), .int (Int32.ofNat k), .null] [] h Q ↔ Q (.inl (.int (laF cur (s * 6 + k)))) h := by
  have key : ∀ j, j ≤ cur.length → (Wp 168 8 [.ref m, .int (Int32.ofNat old.length), .int (Int32.ofNat s), .int (Int32.ofNat k), .int (Int32.ofNat (old.length + j) + -(Int32.ofNat 1))] [] h Q ↔ Q (.inl (.int (laF (cur.take j) (s * 6 + k)))) h) := by
    intro j
    induction j with
    | zero =>
      intro hj
      have := sb_lt (n := old.length) (by omega)
      rw [U168_8, Nat.add_zero]
      simp (disch := omega) only [U168_0, U168_1, U168_4, U168_5, U168_6, U168_10, U168_11, U168_14, U168_15, U168_18, U168_20, U168_21, U168_22, U168_25, U168_26, U168_29, U168_31, U168_33, U168_34, U168_35, U168_36, U168_37, U168_38, U168_41, U168_44, U168_45, this, true_and, and_true, false_and, and_false, if_true, if_false, Nat.reduceAdd, Nat.reduceMul, Nat.reduceSub, Nat.reduceEqDiff, Option.some.injEq, exists_eq_left', true_or, or_true, false_or, or_false, not_true_eq_false, not_false_eq_true, eq_self, and_self, Nat.reduceLeDiff, decide_true, decide_false, ne_eq, Nat.left_eq_add, Nat.add_eq_left, Nat.add_left_cancel_iff, Nat.add_zero]
      rfl
    | succ j ih =>
      intro hj
      have hj' : j < cur.length := by omega
      have hg : cur[j]? = some cur[j] := List.getElem?_eq_getElem hj'
      have hm := List.mem_of_getElem? hg
      have hy := hv (old.length + j) cur[j] (by rw [List.getElem?_append_right (by omega), Nat.add_sub_cancel_left]; exact hg)
      have q40 := h40 _ hm
      have qn := hn _ hm
      obtain ⟨y1, y2, y3, y4, y5⟩ := hy
      have go := ih (by omega)
      rw [List.take_succ_eq_append_getElem hj', laF_at hk y4 qn]
      rw [show Int32.ofNat (old.length + (j + 1)) + -(Int32.ofNat 1) = Int32.ofNat (old.length + j) by rw [i_addn (by omega)]; congr 1]
      generalize cur[j] = y at *
      rw [U168_8]
      by_cases hsite : y.2.1 = s
      · have hlt := qn hsite
        have e23 := (y5 k _ (List.getElem?_eq_getElem hlt)).1
        have en : numA y.2.2.2 k = nv y.2.2.2[k] := by unfold numA; rw [List.getElem?_eq_getElem hlt]
        rw [if_pos hsite, en]
        simp (disch := omega) only [U168_0, U168_1, U168_4, U168_5, U168_6, U168_10, U168_11, U168_14, U168_15, U168_18, U168_20, U168_21, U168_22, U168_25, U168_26, U168_29, U168_31, U168_33, U168_34, U168_35, U168_36, U168_37, U168_38, U168_41, U168_44, U168_45, X0.1, mp28 X0, mk20 X0, mn20 X0, mp31 X0, mk23 X0, mn23 X0, y1, hsite, e23, show ¬ old.length + j < old.length by omega, show old.length + j < 2900 by omega, show 6 * (old.length + j) + k < 17400 by omega, i_add, i_mul, i_lt, i_eq, i_idx, i_vp, true_and, and_true, false_and, and_false, if_true, if_false, Nat.reduceAdd, Nat.reduceMul, Nat.reduceSub, Nat.reduceEqDiff, Option.some.injEq, exists_eq_left', true_or, or_true, false_or, or_false, not_true_eq_false, not_false_eq_true, eq_self, and_self, Nat.reduceLeDiff, decide_true, decide_false, ne_eq, Nat.left_eq_add, Nat.add_eq_left, Nat.add_left_cancel_iff, Nat.add_zero]
      · rw [if_neg hsite, ← go]
        simp (disch := omega) only [U168_0, U168_1, U168_4, U168_5, U168_6, U168_10, U168_11, U168_14, U168_15, U168_18, U168_20, U168_21, U168_22, U168_25, U168_26, U168_29, U168_31, U168_33, U168_34, U168_35, U168_36, U168_37, U168_38, U168_41, U168_44, U168_45, X0.1, mp28 X0, mk20 X0, mn20 X0, y1, hsite, show ¬ old.length + j < old.length by omega, show old.length + j < 2900 by omega, i_add, i_mul, i_lt, i_eq, i_idx, i_vp, true_and, and_true, false_and, and_false, if_true, if_false, Nat.reduceAdd, Nat.reduceMul, Nat.reduceSub, Nat.reduceEqDiff, Option.some.injEq, exists_eq_left', true_or, or_true, false_or, or_false, not_true_eq_false, not_false_eq_true, eq_self, and_self, Nat.reduceLeDiff, decide_true, decide_false, ne_eq, Nat.left_eq_add, Nat.add_eq_left, Nat.add_left_cancel_iff, Nat.add_zero]
  have k1 := key cur.length (Nat.le_refl _)
  rw [List.take_length, ← Int32.sub_eq_add_neg] at k1
  simp (disch := omega) only [U168_0, U168_1, U168_4, U168_5, U168_6, X0.1, h27, true_and, and_true, false_and, and_false, if_true, if_false, Nat.reduceAdd, Nat.reduceMul, Nat.reduceSub, Nat.reduceEqDiff, Option.some.injEq, exists_eq_left', true_or, or_true, false_or, or_false, not_true_eq_false, not_false_eq_true, eq_self, and_self, Nat.reduceLeDiff, decide_true, decide_false, ne_eq, Nat.left_eq_add, Nat.add_eq_left, Nat.add_left_cancel_iff, Nat.add_zero]
  exact k1
def PSl (h : MH_) (m e c : Nat) (fl : List Nat) (res : Option (Arg × List Nat)) : Rs_ → MH_ → Prop := fun v h' => v = .inl .null ∧ Fz (SLt m c) h h' ∧ match res with
  | some (g, r) => MO h' m e fl (some r) ∧ MG h' m c g
  | none => MO h' m e fl none
theorem SLt_n {m c : Nat} : ∀ a i, a = m + 19 ∨ (a = m ∧ i = 44) → ¬ SLt m c a i := by unfold SLt; intro a i z w; omega
theorem PSl.bad {h1 h2 : MH_} {c : Nat} (K : MO h1 m e fl o) (f1 : Fz (SRd m) h h1) (f2 : Fz (SLt m c) h1 h2) (h45 : gI_ h2 m 45 = Int32.ofNat 0) : PSl h m e c fl none (.inl .null) h2 :=
  ⟨rfl, (f1.mono (fun a i z => Or.inl z)).trans f2, K.nn f2 SLt_n h45⟩
theorem PSl.num {h1 h2 : MH_} {c p : Nat} {x : Int32} {r : List Nat} (K : MO h1 m e fl o) (f1 : Fz (SRd m) h h1) (f2 : Fz (SLt m c) h1 h2) (h45 : gI_ h2 m 45 = Int32.ofNat 1) (h43 : gI_ h2 m 43 = Int32.ofNat p) (hp : p ≤ e) (hr : (fl.take e).drop p = r) (h23 : gI_ h2 (m + 23) c = x) : PSl h m e c fl (some (.inl x, r)) (.inl .null) h2 :=
  ⟨rfl, (f1.mono (fun a i z => Or.inl z)).trans f2, K.mk f2 SLt_n hp h43 hr h45, h23, fun t z => by cases z⟩
end
