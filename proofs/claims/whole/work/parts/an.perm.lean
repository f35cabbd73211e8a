/-! ===== the lines' order is a permutation of the events ===== -/
theorem ins_perm {xs : List Nat} {i x : Nat} : (ins xs i x).Perm (x :: xs) := by
  unfold ins
  have := List.perm_middle (a := x) (l₁ := xs.take i) (l₂ := xs.drop i)
  rw [List.take_append_drop] at this
  exact this
theorem odF_perm {es : List Ev} : ∀ n k od, od.Perm (List.range k) → (odF es n k od).Perm (List.range (k + n)) := by
  intro n
  induction n with
  | zero => intro k od h; exact h
  | succ n ih =>
    intro k od h
    have h1 : (insO es od k).Perm (List.range (k + 1)) := by
      unfold insO
      refine ins_perm.trans ?_
      rw [List.range_succ]
      exact (h.cons k).trans (List.perm_append_singleton k (List.range k)).symm
    have := ih (k + 1) (insO es od k) h1
    rw [show k + 1 + n = k + (n + 1) by omega] at this
    exact this
theorem odA_perm (es : List Ev) : (odA es).Perm (List.range es.length) := by
  have := odF_perm (es := es) es.length 0 [] (List.Perm.refl _)
  rw [Nat.zero_add] at this
  exact this
theorem vlF_list {p : Nat → Bool} {v : Nat → Int32} : ∀ n, (vlF p v n 0 []).Perm (((List.range n).filter p).map v) := by
  intro n
  induction n with
  | zero => exact List.Perm.refl _
  | succ n ih =>
    rw [vlF_snoc, Nat.zero_add, List.range_succ, List.filter_append, List.map_append]
    by_cases c : p n = true
    · rw [if_pos c, List.filter_cons_of_pos c, List.filter_nil, List.map_singleton]
      exact (ih.cons (v n)).trans (List.perm_append_singleton _ _).symm
    · rw [if_neg c, List.filter_cons_of_neg c, List.filter_nil, List.map_nil, List.append_nil]
      exact ih
theorem range_gD {od : List Nat} : (List.range od.length).map (fun k => od.getD k 0) = od := by
  apply List.ext_getElem
  · rw [List.length_map, List.length_range]
  · intro i h1 h2
    rw [List.getElem_map, List.getElem_range, gD_in h2]
theorem vlF_comp {p : Nat → Bool} {v : Nat → Int32} {od : List Nat} : (vlF (fun k => p (od.getD k 0)) (fun k => v (od.getD k 0)) od.length 0 []).Perm ((od.filter p).map v) := by
  refine (vlF_list od.length).trans ?_
  have h1 : ∀ l : List Nat, ((l.filter (fun k => p (od.getD k 0))).map (fun k => v (od.getD k 0))) = (((l.map (fun k => od.getD k 0)).filter p).map v) := by
    intro l
    rw [List.filter_map, List.map_map]
    rfl
  rw [h1, range_gD]
/-- how many different numbers: in the lines' order or in the file's -/
theorem dst_lines {es : List Ev} {p : Ev → Bool} {v : Ev → Int32} : dst (vlF (fun k => p (lnE es k)) (fun k => v (lnE es k)) es.length 0 []) = dst (vlF (fun e => p (es.getD e evD)) (fun e => v (es.getD e evD)) es.length 0 []) := by
  have a := vlF_comp (p := fun e => p (es.getD e evD)) (v := fun e => v (es.getD e evD)) (od := odA es)
  rw [(odA_inv es).1] at a
  have b := vlF_list (p := fun e => p (es.getD e evD)) (v := fun e => v (es.getD e evD)) es.length
  exact dst_perm (a.trans ((((odA_perm es).filter _).map _).trans b.symm))
theorem ctF_len {p : Nat → Bool} : ∀ n k, ctF p n k = (vlF p (fun _ => Int32.ofNat 0) n k []).length := by
  have g : ∀ n k acc, (vlF p (fun _ => Int32.ofNat 0) n k acc).length = ctF p n k + acc.length := by
    intro n
    induction n with
    | zero => intro k acc; show acc.length = 0 + acc.length; omega
    | succ n ih =>
      intro k acc
      show (vlF p (fun _ => Int32.ofNat 0) n (k + 1) (if p k = true then Int32.ofNat 0 :: acc else acc)).length = _
      rw [ih, show ctF p (n + 1) k = (if p k = true then 1 else 0) + ctF p n (k + 1) from rfl]
      by_cases c : p k = true
      · rw [if_pos c, if_pos c, List.length_cons]; omega
      · rw [if_neg c, if_neg c]; omega
  intro n k
  rw [g, List.length_nil, Nat.add_zero]
theorem ctF_lines {es : List Ev} {p : Ev → Bool} : ctF (fun k => p (lnE es k)) es.length 0 = ctF (fun e => p (es.getD e evD)) es.length 0 := by
  rw [ctF_len, ctF_len]
  have a := vlF_comp (p := fun e => p (es.getD e evD)) (v := fun _ => Int32.ofNat 0) (od := odA es)
  rw [(odA_inv es).1] at a
  have b := vlF_list (p := fun e => p (es.getD e evD)) (v := fun _ => Int32.ofNat 0) es.length
  exact (a.trans ((((odA_perm es).filter _).map _).trans b.symm)).length_eq
