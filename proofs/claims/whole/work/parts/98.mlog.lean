/-! ===== the model: comes ===== -/
theorem pkP_two : ∀ (n : Nat) (l : List Pd), l.length = n → 2 * l.length ≤ (pkP l).1.length := by
  intro n
  induction n with
  | zero => intro l hl; omega
  | succ n ih =>
    intro l hl
    rcases List.eq_nil_or_concat l with rfl | ⟨k, p, rfl⟩
    · simp at hl
    · rw [List.concat_eq_append] at hl ⊢
      rw [List.length_append, List.length_singleton] at hl
      have := ih k (by omega)
      rw [pkP_snoc, List.length_append, List.length_singleton]
      have e : ∀ q : List Nat × (Nat → Int32) × Nat × Bool, q.1.length + 2 ≤ (pk1 q p).1.length := by
        intro q
        unfold pk1 pkE
        have a := List.length_pos_iff.mpr (vrF_ne 8 p.1)
        have b := List.length_pos_iff.mpr (vrF_ne 8 (if q.2.2.2 = true then 0 else p.2.1 - q.2.2.1))
        simp only [List.length_append]
        omega
      have := e (pkP k)
      omega
theorem pkL_le {la : Nat → Int32} : ∀ (as : List Arg) j, (∀ t, Sum.inr t ∈ as → t.length ≤ 16) → (pkL la as j).length ≤ 17 * as.length
  | [], _ => fun _ => by unfold pkL; simp
  | a :: r, j => by
    intro h
    have ih := pkL_le r (j + 1) (fun t ht => h t (List.mem_cons_of_mem _ ht)) (la := la)
    unfold pkL
    rw [List.length_append, List.length_cons]
    cases a with
    | inl y =>
      have := pkN_len (x := y) (la := la j)
      show (pkN y (la j)).length + _ ≤ _
      omega
    | inr t =>
      have := h t List.mem_cons_self
      unfold pkA
      rw [List.length_cons]
      omega
theorem pkE_le {s dt : Nat} {la : Nat → Int32} {as : List Arg} (h : ∀ t, Sum.inr t ∈ as → t.length ≤ 16) : (pkE s dt la as).length ≤ 18 + 17 * as.length := by
  have a := vrF_len 8 s
  have b := vrF_len 8 dt
  have c := pkL_le as 0 h (la := la)
  unfold pkE
  rw [List.length_append, List.length_append]
  omega
theorem pk1_le {q : Pq} {s t : Nat} {as : List Arg} (h : ∀ t, Sum.inr t ∈ as → t.length ≤ 16) : (pk1 q (s, t, as)).1.length ≤ q.1.length + 18 + 17 * as.length := by
  unfold pk1
  rw [List.length_append]
  have := pkE_le (s := s) (dt := if q.2.2.2 = true then 0 else t - q.2.2.1) (la := fun j => q.2.1 (s * 6 + j)) h
  show q.1.length + (pkE s (if q.2.2.2 = true then 0 else t - q.2.2.1) (fun j => q.2.1 (s * 6 + j)) as).length ≤ _
  omega
theorem MA.t16 {h : MH_} {m : Nat} {ar : List Arg} (X : MA h m ar) : ∀ t, Sum.inr t ∈ ar → t.length ≤ 16 := by
  intro t ht
  obtain ⟨i, hi⟩ := List.getElem?_of_mem ht
  exact (X.2.2 i _ hi).2.1
section
variable {h h' : MH_} {m : Nat} {S : Nat → Nat → Prop} {tx : List Nat} {si : List (List Tok)} {nm : Nat → List Nat} {ar : List Arg} {wr : Nat → Wr} {fl : List Nat} {du : Nat} {cu : Bool} {es : List Ev} {br : Nat} {tm : List Tm}
theorem wrS_at {w : Nat} {v : Wr} : wrS wr w v w = v := if_pos rfl
theorem wrS_wrS {w : Nat} {v v' : Wr} : wrS (wrS wr w v) w v' = wrS wr w v' := by
  funext q
  unfold wrS
  split <;> rfl
theorem WB.add {q : Wr} {s t : Nat} {ts : List Tok} (o : WB si q) (hs : si[s]? = some ts) (hf : fit ts ar = true) (ht : t < 9223372036854775808) (hla : q.2.1 ≤ t) (hq : q.1 ≠ [] → (pkP q.1).2.2.1 = q.2.1) : WkOk si (q.1 ++ [(s, t, ar)]) ∧ mono (q.1 ++ [(s, t, ar)]) ∧ ∀ e, e < (q.1 ++ [(s, t, ar)]).length → (pkP ((q.1 ++ [(s, t, ar)]).take e)).1.length ≤ 238 := by
  obtain ⟨o1, o2, o3, o4, o5⟩ := o
  refine ⟨fun p hp => ?_, fun e p r he hr => ?_, fun e he => ?_⟩
  · rcases List.mem_append.mp hp with z | z
    · exact o1 p z
    · rw [List.mem_singleton.mp z]; exact ⟨ht, ts, hs, hf⟩
  · by_cases hel : e + 1 < q.1.length
    · rw [List.getElem?_append_left (by omega)] at he hr
      exact o2 e p r he hr
    · have he1 : e + 1 = q.1.length := by
        rcases Nat.lt_or_ge (e + 1) (q.1.length + 1) with z | z
        · omega
        · rw [List.getElem?_eq_none (by rw [List.length_append, List.length_singleton]; omega)] at hr; cases hr
      rw [List.getElem?_append_left (by omega)] at he
      rw [he1, List.getElem?_append_right (Nat.le_refl _), Nat.sub_self] at hr
      have := Option.some.inj hr
      subst this
      have tt := pkP_time he
      rw [List.take_of_length_le (by omega), hq (by intro z; rw [z] at he1; simp at he1)] at tt
      show p.2.1 ≤ t
      omega
  · rw [List.length_append, List.length_singleton] at he
    rw [List.take_append_of_le_length (by omega)]
    by_cases hel : e < q.1.length
    · exact o3 e hel
    · rw [List.take_of_length_le (by omega)]; exact o4
theorem MW.lat {w t : Nat} (X : MW h m wr) (f : Fz (fun a i => a = m + 15 ∧ i = w) h h') (h15 : gJ_ h' (m + 15) w = Int64.ofNat t) : MW h' m (wrS wr w ((wr w).1, t, (wr w).2.2)) := by
  intro q hq
  obtain ⟨a, b, c, d, e⟩ := X q hq
  have e' : ∀ (e : Nat) (p : Pd), (wr q).1[e]? = some p → gI_ h' (m + 10) (120 * q + e) = Int32.ofNat p.1 ∧ gJ_ h' (m + 11) (120 * q + e) = Int64.ofNat p.2.1 ∧ p.2.2.length ≤ 6 ∧ ∀ (k : Nat) (g : Arg), p.2.2[k]? = some g → MC h' (m + 12) (m + 13) (m + 14) (6 * (120 * q + e) + k) g := by
    intro i p hp
    obtain ⟨p1, p2, p3, p4⟩ := e i p hp
    exact ⟨by rw [f.gI (by omega)]; exact p1, by rw [f.gJ (by omega)]; exact p2, p3, fun k g hg => (p4 k g hg).fz f (fun j => by omega) (fun j => by omega) (fun j => by omega)⟩
  unfold wrS
  by_cases hqw : q = w
  · subst hqw
    rw [if_pos rfl]
    exact ⟨by rw [f.gI (by omega)]; exact a, b, h15, by rw [f.gI (by omega)]; exact d, e'⟩
  · rw [if_neg hqw]
    exact ⟨by rw [f.gI (by omega)]; exact a, b, by rw [f.gJ (by omega)]; exact c, by rw [f.gI (by omega)]; exact d, e'⟩
theorem MW.pop {w a b : Nat} {l : List Pd} {p : Pd} (X : MW h m (wrS wr w (l ++ [p], a, b))) (f : Fz (fun a i => a = m + 9 ∧ i = w) h h') (h9 : gI_ h' (m + 9) w = Int32.ofNat l.length) : MW h' m (wrS wr w (l, a, b)) := by
  intro q hq
  have X := X q hq
  unfold wrS at X ⊢
  by_cases hqw : q = w
  · subst hqw
    rw [if_pos rfl] at X ⊢
    obtain ⟨x1, x2, x3, x4, x5⟩ := X
    rw [List.length_append] at x2
    refine ⟨h9, by show l.length ≤ 120; omega, by rw [f.gJ (by omega)]; exact x3, by rw [f.gI (by omega)]; exact x4, fun i p hp => ?_⟩
    have hp' : l[i]? = some p := hp
    have hi : i < l.length := by
      rcases Nat.lt_or_ge i l.length with z | z
      · exact z
      · rw [List.getElem?_eq_none z] at hp'; cases hp'
    obtain ⟨p1, p2, p3, p4⟩ := x5 i p (by rw [List.getElem?_append_left hi]; exact hp')
    exact ⟨by rw [f.gI (by omega)]; exact p1, by rw [f.gJ (by omega)]; exact p2, p3, fun k g hg => (p4 k g hg).fz f (fun j => by omega) (fun j => by omega) (fun j => by omega)⟩
  · rw [if_neg hqw] at X ⊢
    obtain ⟨x1, x2, x3, x4, x5⟩ := X
    refine ⟨by rw [f.gI (by omega)]; exact x1, x2, by rw [f.gJ (by omega)]; exact x3, by rw [f.gI (by omega)]; exact x4, fun i p hp => ?_⟩
    obtain ⟨p1, p2, p3, p4⟩ := x5 i p hp
    exact ⟨by rw [f.gI (by omega)]; exact p1, by rw [f.gJ (by omega)]; exact p2, p3, fun k g hg => (p4 k g hg).fz f (fun j => by omega) (fun j => by omega) (fun j => by omega)⟩
def SWr (m : Nat) : Nat → Nat → Prop := fun a i => (a = m ∧ (i = 0 ∨ i = 20 ∨ i = 22)) ∨ (m + 9 ≤ a ∧ a ≤ m + 18)
theorem MM.wf {wr' : Nat → Wr} {fl' : List Nat} (X : MM h m tx si nm ar wr fl du cu es br tm) (f : Fz (SWr m) h h') (W : MW h' m wr') (K : Mf h' m fl') (hl : fl'.length ≤ 6144) (hd : du ≤ fl'.length) : MM h' m tx si nm ar wr' fl' du cu es br tm := by
  obtain ⟨X0, X1, X2, X3, X4, X5, X6, X7, X8⟩ := X
  have g := f.mono (T := fun a i => (a = m ∧ (i = 0 ∨ i = 20 ∨ i = 22)) ∨ (m + 9 ≤ a ∧ a ≤ m + 18)) (fun a i z => z)
  exact ⟨X0.fz g, X1.fz g (by intro a i z w; omega), X2.fz g (by intro a i z w; omega), X3.fz g (by intro a i z w; omega), X4.fz g (by intro a i z w; omega), W, ⟨K.1, hl, K.2.1, K.2.2, by rw [g.gI (by omega)]; exact X6.2.2.2.2.1, hd, by rw [g.gI (by omega)]; exact X6.2.2.2.2.2.2⟩, X7.fz g (by intro a i z w; omega), X8.fz g (by intro a i z w; omega)⟩
/-- what a coming event leaves -/
def PC (h : MH_) (m k : Nat) (pk : List Nat) (tx : List Nat) (si : List (List Tok)) (nm : Nat → List Nat) (ar : List Arg) (wr : Nat → Wr) (fl : List Nat) (du : Nat) (cu : Bool) (es : List Ev) (br : Nat) (tm : List Tm) : Rs_ → MH_ → Prop := fun v h' => v = .inl .null ∧ gI_ h' m 0 = Int32.ofNat k ∧ (k = 0 → Mk h' m pk) ∧ Fz (SWr m) h h' ∧ MM h' m tx si nm ar wr fl du cu es br tm
end
