/-! ===== the model's state ===== -/
/-- an argument in the model's rows: sizes at a, numbers at b, texts at c, place p -/
def MC (h : MH_) (a b c p : Nat) (g : Arg) : Prop := match g with
  | .inl y => gI_ h a p = -(Int32.ofNat 1) ∧ gI_ h b p = y
  | .inr t => gI_ h a p = Int32.ofNat t.length ∧ t.length ≤ 16 ∧ (∀ k, k < t.length → gI_ h c (16 * p + k) = Int32.ofNat (t.getD k 0)) ∧ ∀ q ∈ t, q < 256
def MT (h : MH_) (m : Nat) (tx : List Nat) : Prop := gI_ h m 1 = Int32.ofNat tx.length ∧ tx.length ≤ 200 ∧ (∀ i, i < tx.length → gI_ h (m + 1) i = Int32.ofNat (tx.getD i 0)) ∧ ∀ q ∈ tx, q < 256
def MF (h : MH_) (m : Nat) (si : List (List Tok)) : Prop := gI_ h m 3 = Int32.ofNat si.length ∧ si.length ≤ 40 ∧ ∀ (s : Nat) (ts : List Tok), si[s]? = some ts → gI_ h (m + 2) s = Int32.ofNat (spell ts).length ∧ (spell ts).length ≤ 80 ∧ (∀ i, i < (spell ts).length → gI_ h (m + 3) (80 * s + i) = Int32.ofNat ((spell ts).getD i 0)) ∧ okS ts ∧ (slts ts).length ≤ 6
def MN (h : MH_) (m : Nat) (nm : Nat → List Nat) : Prop := ∀ q, q < 256 → gI_ h (m + 4) q = Int32.ofNat (nm q).length ∧ (nm q).length ≤ 12 ∧ (∀ k, k < (nm q).length → gI_ h (m + 5) (12 * q + k) = Int32.ofNat ((nm q).getD k 0)) ∧ ∀ b ∈ nm q, b < 256
def MA (h : MH_) (m : Nat) (ar : List Arg) : Prop := gI_ h m 8 = Int32.ofNat ar.length ∧ ar.length ≤ 6 ∧ ∀ (i : Nat) (g : Arg), ar[i]? = some g → MC h (m + 6) (m + 7) (m + 8) i g
def MW (h : MH_) (m : Nat) (wr : Nat → Wr) : Prop := ∀ w, w < 4 → gI_ h (m + 9) w = Int32.ofNat (wr w).1.length ∧ (wr w).1.length ≤ 120 ∧ gJ_ h (m + 15) w = Int64.ofNat (wr w).2.1 ∧ gI_ h (m + 16) w = Int32.ofNat (wr w).2.2 ∧ ∀ (e : Nat) (p : Pd), (wr w).1[e]? = some p → gI_ h (m + 10) (120 * w + e) = Int32.ofNat p.1 ∧ gJ_ h (m + 11) (120 * w + e) = Int64.ofNat p.2.1 ∧ p.2.2.length ≤ 6 ∧ ∀ (k : Nat) (g : Arg), p.2.2[k]? = some g → MC h (m + 12) (m + 13) (m + 14) (6 * (120 * w + e) + k) g
def MD (h : MH_) (m : Nat) (fl : List Nat) (du : Nat) (cu : Bool) : Prop := gI_ h m 22 = Int32.ofNat fl.length ∧ fl.length ≤ 6144 ∧ (∀ i, i < fl.length → gI_ h (m + 18) i = Int32.ofNat (fl.getD i 0)) ∧ (∀ q ∈ fl, q < 256) ∧ gI_ h m 24 = Int32.ofNat du ∧ du ≤ fl.length ∧ gI_ h m 25 = bz (cu = true)
/-- an event that was read -/
def M1 (h : MH_) (m i : Nat) (y : Ev) : Prop := gI_ h (m + 20) i = Int32.ofNat y.2.1 ∧ gI_ h (m + 21) i = Int32.ofNat y.1 ∧ gJ_ h (m + 22) i = Int64.ofNat y.2.2.1 ∧ y.2.2.2.length ≤ 6 ∧ ∀ (k : Nat) (g : Arg), y.2.2.2[k]? = some g → gI_ h (m + 23) (6 * i + k) = nv g ∧ ∀ t, g = .inr t → t.length ≤ 16 ∧ (∃ p, gI_ h (m + 24) (6 * i + k) = Int32.ofNat p ∧ p + t.length ≤ 6144 ∧ ∀ j, j < t.length → gI_ h (m + 19) (p + j) = Int32.ofNat (t.getD j 0)) ∧ ∀ q ∈ t, q < 256
def ME (h : MH_) (m : Nat) (es : List Ev) (br : Nat) : Prop := gI_ h m 27 = Int32.ofNat es.length ∧ es.length ≤ 2856 ∧ gI_ h m 34 = Int32.ofNat br ∧ (∀ (i : Nat) (y : Ev), es[i]? = some y → M1 h m i y) ∧ ∀ k, k < es.length → gI_ h (m + 25) k = Int32.ofNat ((odA es).getD k 0)
def Mq1 (h : MH_) (m i : Nat) (t : Tm) : Prop := match t with
  | .inl (k, a, b) => k < 4 ∧ gI_ h (m + 26) i = Int32.ofNat k ∧ gI_ h (m + 27) i = a ∧ gI_ h (m + 28) i = b
  | .inr t => gI_ h (m + 26) i = Int32.ofNat 4 ∧ gI_ h (m + 29) i = Int32.ofNat t.length ∧ t.length ≤ 24 ∧ ∀ k, k < t.length → gI_ h (m + 30) (24 * i + k) = Int32.ofNat (t.getD k 0)
def Mqs (h : MH_) (m : Nat) (tm : List Tm) : Prop := gI_ h m 35 = Int32.ofNat tm.length ∧ tm.length ≤ 4 ∧ ∀ (i : Nat) (t : Tm), tm[i]? = some t → Mq1 h m i t
section
variable {h h' : MH_} {m : Nat} {S : Nat → Nat → Prop} {tx : List Nat} {si : List (List Tok)} {nm : Nat → List Nat} {ar : List Arg} {wr : Nat → Wr} {fl : List Nat} {du : Nat} {cu : Bool} {es : List Ev} {br : Nat} {tm : List Tm}
theorem MC.fz {a b c p : Nat} {g : Arg} (X : MC h a b c p g) (f : Fz S h h') (h1 : ∀ i, ¬ S a i) (h2 : ∀ i, ¬ S b i) (h3 : ∀ i, ¬ S c i) : MC h' a b c p g := by
  cases g with
  | inl y => exact ⟨by rw [f.gI (h1 _)]; exact X.1, by rw [f.gI (h2 _)]; exact X.2⟩
  | inr t => exact ⟨by rw [f.gI (h1 _)]; exact X.1, X.2.1, fun k hk => by rw [f.gI (h3 _)]; exact X.2.2.1 k hk, X.2.2.2⟩
theorem MT.fz (X : MT h m tx) (f : Fz S h h') (hS : ∀ a i, (a = m ∧ i = 1) ∨ a = m + 1 → ¬ S a i) : MT h' m tx :=
  ⟨by rw [f.gI (hS _ _ (Or.inl ⟨rfl, rfl⟩))]; exact X.1, X.2.1, fun i hi => by rw [f.gI (hS _ _ (Or.inr rfl))]; exact X.2.2.1 i hi, X.2.2.2⟩
theorem MF.fz (X : MF h m si) (f : Fz S h h') (hS : ∀ a i, (a = m ∧ i = 3) ∨ a = m + 2 ∨ a = m + 3 → ¬ S a i) : MF h' m si := by
  refine ⟨by rw [f.gI (hS _ _ (Or.inl ⟨rfl, rfl⟩))]; exact X.1, X.2.1, fun s ts hs => ?_⟩
  obtain ⟨a, b, c, d⟩ := X.2.2 s ts hs
  exact ⟨by rw [f.gI (hS _ _ (Or.inr (Or.inl rfl)))]; exact a, b, fun i hi => by rw [f.gI (hS _ _ (Or.inr (Or.inr rfl)))]; exact c i hi, d⟩
theorem MN.fz (X : MN h m nm) (f : Fz S h h') (hS : ∀ a i, a = m + 4 ∨ a = m + 5 → ¬ S a i) : MN h' m nm := by
  intro q hq
  obtain ⟨a, b, c, d⟩ := X q hq
  exact ⟨by rw [f.gI (hS _ _ (Or.inl rfl))]; exact a, b, fun i hi => by rw [f.gI (hS _ _ (Or.inr rfl))]; exact c i hi, d⟩
theorem MA.fz (X : MA h m ar) (f : Fz S h h') (hS : ∀ a i, (a = m ∧ i = 8) ∨ (m + 6 ≤ a ∧ a ≤ m + 8) → ¬ S a i) : MA h' m ar :=
  ⟨by rw [f.gI (hS _ _ (Or.inl ⟨rfl, rfl⟩))]; exact X.1, X.2.1, fun i g hg => (X.2.2 i g hg).fz f (fun j => hS _ _ (Or.inr (by omega))) (fun j => hS _ _ (Or.inr (by omega))) (fun j => hS _ _ (Or.inr (by omega)))⟩
theorem MW.fz (X : MW h m wr) (f : Fz S h h') (hS : ∀ a i, (m + 9 ≤ a ∧ a ≤ m + 16) → ¬ S a i) : MW h' m wr := by
  intro w hw
  obtain ⟨a, b, c, d, e⟩ := X w hw
  refine ⟨by rw [f.gI (hS _ _ (by omega))]; exact a, b, by rw [f.gJ (hS _ _ (by omega))]; exact c, by rw [f.gI (hS _ _ (by omega))]; exact d, fun i p hp => ?_⟩
  obtain ⟨p1, p2, p3, p4⟩ := e i p hp
  exact ⟨by rw [f.gI (hS _ _ (by omega))]; exact p1, by rw [f.gJ (hS _ _ (by omega))]; exact p2, p3, fun k g hg => (p4 k g hg).fz f (fun j => hS _ _ (by omega)) (fun j => hS _ _ (by omega)) (fun j => hS _ _ (by omega))⟩
theorem MD.fz (X : MD h m fl du cu) (f : Fz S h h') (hS : ∀ a i, (a = m ∧ (i = 22 ∨ i = 24 ∨ i = 25)) ∨ a = m + 18 → ¬ S a i) : MD h' m fl du cu := by
  obtain ⟨a, b, c, d, e, g, i⟩ := X
  exact ⟨by rw [f.gI (hS _ _ (by omega))]; exact a, b, fun i hi => by rw [f.gI (hS _ _ (by omega))]; exact c i hi, d, by rw [f.gI (hS _ _ (by omega))]; exact e, g, by rw [f.gI (hS _ _ (by omega))]; exact i⟩
theorem M1.fz {i : Nat} {y : Ev} (X : M1 h m i y) (f : Fz S h h') (hS : ∀ a i, (m + 19 ≤ a ∧ a ≤ m + 24) → ¬ S a i) : M1 h' m i y := by
  obtain ⟨a, b, c, d, e⟩ := X
  refine ⟨by rw [f.gI (hS _ _ (by omega))]; exact a, by rw [f.gI (hS _ _ (by omega))]; exact b, by rw [f.gJ (hS _ _ (by omega))]; exact c, d, fun k g hg => ?_⟩
  obtain ⟨e1, e2⟩ := e k g hg
  refine ⟨by rw [f.gI (hS _ _ (by omega))]; exact e1, fun t ht => ?_⟩
  obtain ⟨t1, ⟨p, p1, p2, p3⟩, t3⟩ := e2 t ht
  exact ⟨t1, ⟨p, by rw [f.gI (hS _ _ (by omega))]; exact p1, p2, fun j hj => by rw [f.gI (hS _ _ (by omega))]; exact p3 j hj⟩, t3⟩
theorem ME.fz (X : ME h m es br) (f : Fz S h h') (hS : ∀ a i, (a = m ∧ (i = 27 ∨ i = 34)) ∨ (m + 19 ≤ a ∧ a ≤ m + 25) → ¬ S a i) : ME h' m es br := by
  obtain ⟨a, b, c, d, e⟩ := X
  exact ⟨by rw [f.gI (hS _ _ (by omega))]; exact a, b, by rw [f.gI (hS _ _ (by omega))]; exact c, fun i y hy => (d i y hy).fz f (fun a i z => hS a i (by omega)), fun k hk => by rw [f.gI (hS _ _ (by omega))]; exact e k hk⟩
theorem Mqs.fz (X : Mqs h m tm) (f : Fz S h h') (hS : ∀ a i, (a = m ∧ i = 35) ∨ (m + 26 ≤ a ∧ a ≤ m + 30) → ¬ S a i) : Mqs h' m tm := by
  obtain ⟨a, b, c⟩ := X
  refine ⟨by rw [f.gI (hS _ _ (by omega))]; exact a, b, fun i t ht => ?_⟩
  have q := c i t ht
  cases t with
  | inl y => obtain ⟨k, u, v⟩ := y; exact ⟨q.1, by rw [f.gI (hS _ _ (by omega))]; exact q.2.1, by rw [f.gI (hS _ _ (by omega))]; exact q.2.2.1, by rw [f.gI (hS _ _ (by omega))]; exact q.2.2.2⟩
  | inr t => exact ⟨by rw [f.gI (hS _ _ (by omega))]; exact q.1, by rw [f.gI (hS _ _ (by omega))]; exact q.2.1, q.2.2.1, fun k hk => by rw [f.gI (hS _ _ (by omega))]; exact q.2.2.2 k hk⟩
def MM (h : MH_) (m : Nat) (tx : List Nat) (si : List (List Tok)) (nm : Nat → List Nat) (ar : List Arg) (wr : Nat → Wr) (fl : List Nat) (du : Nat) (cu : Bool) (es : List Ev) (br : Nat) (tm : List Tm) : Prop := MS h m ∧ MT h m tx ∧ MF h m si ∧ MN h m nm ∧ MA h m ar ∧ MW h m wr ∧ MD h m fl du cu ∧ ME h m es br ∧ Mqs h m tm
/-- what a method of the model answers and leaves: the value, the exception's number, the state -/
def PM (h : MH_) (m : Nat) (r : Value) (k : Nat) (tx : List Nat) (si : List (List Tok)) (nm : Nat → List Nat) (ar : List Arg) (wr : Nat → Wr) (fl : List Nat) (du : Nat) (cu : Bool) (es : List Ev) (br : Nat) (tm : List Tm) : Rs_ → MH_ → Prop := fun v h' => v = .inl r ∧ gI_ h' m 0 = Int32.ofNat k ∧ Fz (fun a _ => m ≤ a ∧ a < m + 32) h h' ∧ MM h' m tx si nm ar wr fl du cu es br tm
theorem M_within {x a b : Int32} {Q : Rs_ → MH_ → Prop} : Wp 207 0 [.int x, .int a, .int b] [] h Q ↔ Q (.inl (.int (bz (¬ x < a ∧ ¬ b < x)))) h := by
  by_cases c1 : x < a
  · simp (disch := omega) only [U207_0, U207_1, U207_2, U207_5, U207_6, U207_7, U207_10, U207_11, U207_14, U207_15, c1, true_and, and_true, false_and, and_false, if_true, if_false, Nat.reduceAdd, Nat.reduceMul, Nat.reduceSub, Nat.reduceEqDiff, Option.some.injEq, exists_eq_left', true_or, or_true, false_or, or_false, not_true_eq_false, not_false_eq_true, eq_self, and_self, Nat.reduceLeDiff, decide_true, decide_false, ne_eq, Nat.left_eq_add, Nat.add_eq_left, Nat.add_left_cancel_iff, Nat.add_zero, bz]
  · by_cases c2 : b < x
    · simp (disch := omega) only [U207_0, U207_1, U207_2, U207_5, U207_6, U207_7, U207_10, U207_11, U207_14, U207_15, c1, c2, true_and, and_true, false_and, and_false, if_true, if_false, Nat.reduceAdd, Nat.reduceMul, Nat.reduceSub, Nat.reduceEqDiff, Option.some.injEq, exists_eq_left', true_or, or_true, false_or, or_false, not_true_eq_false, not_false_eq_true, eq_self, and_self, Nat.reduceLeDiff, decide_true, decide_false, ne_eq, Nat.left_eq_add, Nat.add_eq_left, Nat.add_left_cancel_iff, Nat.add_zero, bz]
    · simp (disch := omega) only [U207_0, U207_1, U207_2, U207_5, U207_6, U207_7, U207_10, U207_11, U207_14, U207_15, c1, c2, true_and, and_true, false_and, and_false, if_true, if_false, Nat.reduceAdd, Nat.reduceMul, Nat.reduceSub, Nat.reduceEqDiff, Option.some.injEq, exists_eq_left', true_or, or_true, false_or, or_false, not_true_eq_false, not_false_eq_true, eq_self, and_self, Nat.reduceLeDiff, decide_true, decide_false, ne_eq, Nat.left_eq_add, Nat.add_eq_left, Nat.add_left_cancel_iff, Nat.add_zero, bz]
theorem MA.snoc {g : Arg} (X : MA h m ar) (f : Fz S h h') (hl : ar.length < 6) (hS : ∀ a i, S a i → a = m ∨ ((a = m + 6 ∨ a = m + 7) ∧ i = ar.length) ∨ (a = m + 8 ∧ 16 * ar.length ≤ i)) (h8 : gI_ h' m 8 = Int32.ofNat (ar.length + 1)) (hc : MC h' (m + 6) (m + 7) (m + 8) ar.length g) : MA h' m (ar ++ [g]) := by
  refine ⟨by rw [List.length_append]; exact h8, by rw [List.length_append, List.length_singleton]; omega, fun i g' hg => ?_⟩
  by_cases hi : i < ar.length
  · rw [List.getElem?_append_left hi] at hg
    have q := X.2.2 i g' hg
    have n6 : ∀ a, a = m + 6 ∨ a = m + 7 → ¬ S a i := fun a z w => by have := hS a i w; omega
    cases g' with
    | inl y => exact ⟨by rw [f.gI (n6 _ (Or.inl rfl))]; exact q.1, by rw [f.gI (n6 _ (Or.inr rfl))]; exact q.2⟩
    | inr t => exact ⟨by rw [f.gI (n6 _ (Or.inl rfl))]; exact q.1, q.2.1, fun k hk => by rw [f.gI (fun w => by have := hS _ _ w; have := q.2.1; omega)]; exact q.2.2.1 k hk, q.2.2.2⟩
  · have hi' : i = ar.length := by
      rcases Nat.lt_or_ge i (ar.length + 1) with z | z
      · omega
      · rw [List.getElem?_eq_none (by rw [List.length_append, List.length_singleton]; omega)] at hg; cases hg
    subst hi'
    rw [List.getElem?_append_right (Nat.le_refl _), Nat.sub_self] at hg
    have := Option.some.inj hg
    subst this
    exact hc
/-- only numbers of the model itself changed that no part of the state holds -/
theorem MM.th {k : Nat} (X : MM h m tx si nm ar wr fl du cu es br tm) : MM (sI_ h m 0 (Int32.ofNat k)) m tx si nm ar wr fl du cu es br tm ∧ gI_ (sI_ h m 0 (Int32.ofNat k)) m 0 = Int32.ofNat k ∧ Fz (fun a i => a = m ∧ i = 0) h (sI_ h m 0 (Int32.ofNat k)) := by
  obtain ⟨X0, X1, X2, X3, X4, X5, X6, X7, X8⟩ := X
  have f : Fz (fun a i => a = m ∧ i = 0) h (sI_ h m 0 (Int32.ofNat k)) := Fz.rfl'.sI ⟨rfl, rfl⟩
  exact ⟨⟨X0.fz f, X1.fz f (by intro a i z w; omega), X2.fz f (by intro a i z w; omega), X3.fz f (by intro a i z w; omega), X4.fz f (by intro a i z w; omega), X5.fz f (by intro a i z w; omega), X6.fz f (by intro a i z w; omega), X7.fz f (by intro a i z w; omega), X8.fz f (by intro a i z w; omega)⟩, by rw [z_gI_sI, if_pos ⟨rfl, rfl⟩], f⟩
theorem MM.pm {k : Nat} {r : Value} (X : MM h m tx si nm ar wr fl du cu es br tm) : PM h m r k tx si nm ar wr fl du cu es br tm (.inl r) (sI_ h m 0 (Int32.ofNat k)) := by
  obtain ⟨a, b, c⟩ := X.th (k := k)
  exact ⟨rfl, b, c.mono (fun a i z => by omega), a⟩
theorem M_arg {n : Int32} (X : MM h m tx si nm ar wr fl du cu es br tm) : Wp 145 0 [.ref m, .int n] [] h (if ar.length = 6 then PM h m (.int (Int32.ofNat 0)) 1 tx si nm ar wr fl du cu es br tm else PM h m (.int (Int32.ofNat (ar.length + 1))) 0 tx si nm (ar ++ [.inl n]) wr fl du cu es br tm) := by
  have X' := X
  obtain ⟨X0, X1, X2, X3, X4, X5, X6, X7, X8⟩ := X
  have h6 := X4.2.1
  by_cases hl : ar.length = 6
  · rw [if_pos hl]
    simp (disch := omega) only [U145_0, U145_1, U145_2, U145_5, U145_7, U145_10, U145_11, U145_14, U145_15, U145_18, U145_19, U145_22, U145_25, U145_26, U145_27, U145_28, U145_31, U145_32, U145_35, U145_36, U145_37, U145_38, U145_41, U145_42, U145_45, U145_46, U145_47, U145_48, U145_49, U145_52, U145_53, U145_54, U145_57, U145_58, U145_61, z_kd_sI, z_ln_sI, z_gI_sI, z_gJ_sI, z_gP_sI, z_nx_sI, z_rc_sI, z_rs_sI, z_em_sI, z_mi_sI, z_kd_sJ, z_ln_sJ, z_gI_sJ, z_gJ_sJ, z_gP_sJ, z_nx_sJ, z_rc_sJ, z_rs_sJ, z_em_sJ, z_mi_sJ, z_kd_sP, z_ln_sP, z_gI_sP, z_gJ_sP, z_gP_sP, z_nx_sP, z_rc_sP, z_rs_sP, z_em_sP, z_mi_sP, z_kd_nw, z_ln_nw, z_gI_nw, z_gJ_nw, z_gP_nw, z_nx_nw, z_rc_nw, z_rs_nw, z_em_nw, z_mi_nw, z_kd_cI, z_ln_cI, z_gI_cI, z_gJ_cI, z_gP_cI, z_nx_cI, z_rc_cI, z_rs_cI, z_em_cI, z_mi_cI, z_kd_cP, z_ln_cP, z_gI_cP, z_gJ_cP, z_gP_cP, z_nx_cP, z_rc_cP, z_rs_cP, z_em_cP, z_mi_cP, z_kd_wI, z_ln_wI, z_gI_wI, z_gJ_wI, z_gP_wI, z_nx_wI, z_rc_wI, z_rs_wI, z_em_wI, z_mi_wI, z_kd_wJ, z_ln_wJ, z_gI_wJ, z_gJ_wJ, z_gP_wJ, z_nx_wJ, z_rc_wJ, z_rs_wJ, z_em_wJ, z_mi_wJ, X0.1, X4.1, hl, show ¬ (0 : Nat) = 8 by omega, show (0 : Nat) < 1 by omega, i_add, i_mul, i_sub, i_addn, i_lt, i_eq, i_idx, i_vp, true_and, and_true, false_and, and_false, if_true, if_false, Nat.reduceAdd, Nat.reduceMul, Nat.reduceSub, Nat.reduceEqDiff, Option.some.injEq, exists_eq_left', true_or, or_true, false_or, or_false, not_true_eq_false, not_false_eq_true, eq_self, and_self, Nat.reduceLeDiff, decide_true, decide_false, ne_eq, Nat.left_eq_add, Nat.add_eq_left, Nat.add_left_cancel_iff, Nat.add_zero]
    exact X'.pm
  · rw [if_neg hl]
    simp (disch := omega) only [U145_0, U145_1, U145_2, U145_5, U145_7, U145_10, U145_11, U145_14, U145_15, U145_18, U145_19, U145_22, U145_25, U145_26, U145_27, U145_28, U145_31, U145_32, U145_35, U145_36, U145_37, U145_38, U145_41, U145_42, U145_45, U145_46, U145_47, U145_48, U145_49, U145_52, U145_53, U145_54, U145_57, U145_58, U145_61, z_kd_sI, z_ln_sI, z_gI_sI, z_gJ_sI, z_gP_sI, z_nx_sI, z_rc_sI, z_rs_sI, z_em_sI, z_mi_sI, z_kd_sJ, z_ln_sJ, z_gI_sJ, z_gJ_sJ, z_gP_sJ, z_nx_sJ, z_rc_sJ, z_rs_sJ, z_em_sJ, z_mi_sJ, z_kd_sP, z_ln_sP, z_gI_sP, z_gJ_sP, z_gP_sP, z_nx_sP, z_rc_sP, z_rs_sP, z_em_sP, z_mi_sP, z_kd_nw, z_ln_nw, z_gI_nw, z_gJ_nw, z_gP_nw, z_nx_nw, z_rc_nw, z_rs_nw, z_em_nw, z_mi_nw, z_kd_cI, z_ln_cI, z_gI_cI, z_gJ_cI, z_gP_cI, z_nx_cI, z_rc_cI, z_rs_cI, z_em_cI, z_mi_cI, z_kd_cP, z_ln_cP, z_gI_cP, z_gJ_cP, z_gP_cP, z_nx_cP, z_rc_cP, z_rs_cP, z_em_cP, z_mi_cP, z_kd_wI, z_ln_wI, z_gI_wI, z_gJ_wI, z_gP_wI, z_nx_wI, z_rc_wI, z_rs_wI, z_em_wI, z_mi_wI, z_kd_wJ, z_ln_wJ, z_gI_wJ, z_gJ_wJ, z_gP_wJ, z_nx_wJ, z_rc_wJ, z_rs_wJ, z_em_wJ, z_mi_wJ, X0.1, X4.1, mp9 X0, mp10 X0, mk6 X0, mn6 X0, mk7 X0, mn7 X0, hl, show ar.length < 6 by omega, show ¬ (0 : Nat) < 0 by omega, Nat.reduceEqDiff, i_add, i_mul, i_sub, i_addn, i_lt, i_eq, i_idx, i_vp, true_and, and_true, false_and, and_false, if_true, if_false, Nat.reduceAdd, Nat.reduceMul, Nat.reduceSub, Nat.reduceEqDiff, Option.some.injEq, exists_eq_left', true_or, or_true, false_or, or_false, not_true_eq_false, not_false_eq_true, eq_self, and_self, Nat.reduceLeDiff, decide_true, decide_false, ne_eq, Nat.left_eq_add, Nat.add_eq_left, Nat.add_left_cancel_iff, Nat.add_zero]
    have f : Fz (fun a i => (a = m ∧ (i = 0 ∨ i = 8)) ∨ ((a = m + 6 ∨ a = m + 7) ∧ i = ar.length)) h (sI_ (sI_ (sI_ (sI_ h m 0 (Int32.ofNat 0)) (m + 6) ar.length (-Int32.ofNat 1)) (m + 7) ar.length n) m 8 (Int32.ofNat (ar.length + 1))) := (((Fz.rfl'.sI (Or.inl ⟨rfl, Or.inl rfl⟩)).sI (Or.inr ⟨Or.inl rfl, rfl⟩)).sI (Or.inr ⟨Or.inr rfl, rfl⟩)).sI (Or.inl ⟨rfl, Or.inr rfl⟩)
    refine ⟨rfl, ?_, f.mono (fun a i z => by omega), X0.fz f, X1.fz f (by intro a i z w; omega), X2.fz f (by intro a i z w; omega), X3.fz f (by intro a i z w; omega), X4.snoc f (by omega) (fun a i z => by omega) ?_ ⟨?_, ?_⟩, X5.fz f (by intro a i z w; omega), X6.fz f (by intro a i z w; omega), X7.fz f (by intro a i z w; omega), X8.fz f (by intro a i z w; omega)⟩
    · rw [z_gI_sI, if_neg (by omega), z_gI_sI, if_neg (by omega), z_gI_sI, if_neg (by omega), z_gI_sI, if_pos ⟨rfl, rfl⟩]
    · rw [z_gI_sI, if_pos ⟨rfl, rfl⟩]
    · rw [z_gI_sI, if_neg (by omega), z_gI_sI, if_neg (by omega), z_gI_sI, if_pos ⟨rfl, rfl⟩]
    · rw [z_gI_sI, if_neg (by omega), z_gI_sI, if_pos ⟨rfl, rfl⟩]
theorem M_clear (X : MM h m tx si nm ar wr fl du cu es br tm) : Wp 148 0 [.ref m, .null] [] h (PM h m (.int (Int32.ofNat tm.length)) 0 tx si nm ar wr fl du cu es br []) := by
  obtain ⟨X0, X1, X2, X3, X4, X5, X6, X7, X8⟩ := X
  simp (disch := omega) only [U148_0, U148_1, U148_2, U148_5, U148_6, U148_9, U148_10, U148_11, U148_12, U148_15, U148_16, z_kd_sI, z_ln_sI, z_gI_sI, z_gJ_sI, z_gP_sI, z_nx_sI, z_rc_sI, z_rs_sI, z_em_sI, z_mi_sI, z_kd_sJ, z_ln_sJ, z_gI_sJ, z_gJ_sJ, z_gP_sJ, z_nx_sJ, z_rc_sJ, z_rs_sJ, z_em_sJ, z_mi_sJ, z_kd_sP, z_ln_sP, z_gI_sP, z_gJ_sP, z_gP_sP, z_nx_sP, z_rc_sP, z_rs_sP, z_em_sP, z_mi_sP, z_kd_nw, z_ln_nw, z_gI_nw, z_gJ_nw, z_gP_nw, z_nx_nw, z_rc_nw, z_rs_nw, z_em_nw, z_mi_nw, z_kd_cI, z_ln_cI, z_gI_cI, z_gJ_cI, z_gP_cI, z_nx_cI, z_rc_cI, z_rs_cI, z_em_cI, z_mi_cI, z_kd_cP, z_ln_cP, z_gI_cP, z_gJ_cP, z_gP_cP, z_nx_cP, z_rc_cP, z_rs_cP, z_em_cP, z_mi_cP, z_kd_wI, z_ln_wI, z_gI_wI, z_gJ_wI, z_gP_wI, z_nx_wI, z_rc_wI, z_rs_wI, z_em_wI, z_mi_wI, z_kd_wJ, z_ln_wJ, z_gI_wJ, z_gJ_wJ, z_gP_wJ, z_nx_wJ, z_rc_wJ, z_rs_wJ, z_em_wJ, z_mi_wJ, X0.1, X8.1, Nat.reduceEqDiff, i_add, i_mul, i_sub, i_addn, i_lt, i_eq, i_idx, i_vp, true_and, and_true, false_and, and_false, if_true, if_false, Nat.reduceAdd, Nat.reduceMul, Nat.reduceSub, Nat.reduceEqDiff, Option.some.injEq, exists_eq_left', true_or, or_true, false_or, or_false, not_true_eq_false, not_false_eq_true, eq_self, and_self, Nat.reduceLeDiff, decide_true, decide_false, ne_eq, Nat.left_eq_add, Nat.add_eq_left, Nat.add_left_cancel_iff, Nat.add_zero]
  have f : Fz (fun a i => a = m ∧ (i = 0 ∨ i = 35)) h (sI_ (sI_ h m 0 (Int32.ofNat 0)) m 35 (Int32.ofNat 0)) := (Fz.rfl'.sI ⟨rfl, Or.inl rfl⟩).sI ⟨rfl, Or.inr rfl⟩
  exact ⟨rfl, by rw [z_gI_sI, if_neg (by omega), z_gI_sI, if_pos ⟨rfl, rfl⟩], f.mono (fun a i z => by omega), X0.fz f, X1.fz f (by intro a i z w; omega), X2.fz f (by intro a i z w; omega), X3.fz f (by intro a i z w; omega), X4.fz f (by intro a i z w; omega), X5.fz f (by intro a i z w; omega), X6.fz f (by intro a i z w; omega), X7.fz f (by intro a i z w; omega), ⟨by rw [z_gI_sI, if_pos ⟨rfl, rfl⟩]; rfl, Nat.zero_le _, fun i t ht => by cases ht⟩⟩
theorem M_size (X : MM h m tx si nm ar wr fl du cu es br tm) : Wp 196 0 [.ref m] [] h (PM h m (.int (Int32.ofNat fl.length)) 0 tx si nm ar wr fl du cu es br tm) := by
  have X' := X
  obtain ⟨X0, X1, X2, X3, X4, X5, X6, X7, X8⟩ := X
  simp (disch := omega) only [U196_0, U196_1, U196_2, U196_5, U196_6, U196_9, z_kd_sI, z_ln_sI, z_gI_sI, z_gJ_sI, z_gP_sI, z_nx_sI, z_rc_sI, z_rs_sI, z_em_sI, z_mi_sI, z_kd_sJ, z_ln_sJ, z_gI_sJ, z_gJ_sJ, z_gP_sJ, z_nx_sJ, z_rc_sJ, z_rs_sJ, z_em_sJ, z_mi_sJ, z_kd_sP, z_ln_sP, z_gI_sP, z_gJ_sP, z_gP_sP, z_nx_sP, z_rc_sP, z_rs_sP, z_em_sP, z_mi_sP, z_kd_nw, z_ln_nw, z_gI_nw, z_gJ_nw, z_gP_nw, z_nx_nw, z_rc_nw, z_rs_nw, z_em_nw, z_mi_nw, z_kd_cI, z_ln_cI, z_gI_cI, z_gJ_cI, z_gP_cI, z_nx_cI, z_rc_cI, z_rs_cI, z_em_cI, z_mi_cI, z_kd_cP, z_ln_cP, z_gI_cP, z_gJ_cP, z_gP_cP, z_nx_cP, z_rc_cP, z_rs_cP, z_em_cP, z_mi_cP, z_kd_wI, z_ln_wI, z_gI_wI, z_gJ_wI, z_gP_wI, z_nx_wI, z_rc_wI, z_rs_wI, z_em_wI, z_mi_wI, z_kd_wJ, z_ln_wJ, z_gI_wJ, z_gJ_wJ, z_gP_wJ, z_nx_wJ, z_rc_wJ, z_rs_wJ, z_em_wJ, z_mi_wJ, X0.1, X6.1, Nat.reduceEqDiff, i_add, i_mul, i_sub, i_addn, i_lt, i_eq, i_idx, i_vp, true_and, and_true, false_and, and_false, if_true, if_false, Nat.reduceAdd, Nat.reduceMul, Nat.reduceSub, Nat.reduceEqDiff, Option.some.injEq, exists_eq_left', true_or, or_true, false_or, or_false, not_true_eq_false, not_false_eq_true, eq_self, and_self, Nat.reduceLeDiff, decide_true, decide_false, ne_eq, Nat.left_eq_add, Nat.add_eq_left, Nat.add_left_cancel_iff, Nat.add_zero]
  exact X'.pm
theorem M_broken (X : MM h m tx si nm ar wr fl du cu es br tm) : Wp 146 0 [.ref m] [] h (PM h m (.int (Int32.ofNat br)) 0 tx si nm ar wr fl du cu es br tm) := by
  have X' := X
  obtain ⟨X0, X1, X2, X3, X4, X5, X6, X7, X8⟩ := X
  simp (disch := omega) only [U146_0, U146_1, U146_2, U146_5, U146_6, U146_9, z_kd_sI, z_ln_sI, z_gI_sI, z_gJ_sI, z_gP_sI, z_nx_sI, z_rc_sI, z_rs_sI, z_em_sI, z_mi_sI, z_kd_sJ, z_ln_sJ, z_gI_sJ, z_gJ_sJ, z_gP_sJ, z_nx_sJ, z_rc_sJ, z_rs_sJ, z_em_sJ, z_mi_sJ, z_kd_sP, z_ln_sP, z_gI_sP, z_gJ_sP, z_gP_sP, z_nx_sP, z_rc_sP, z_rs_sP, z_em_sP, z_mi_sP, z_kd_nw, z_ln_nw, z_gI_nw, z_gJ_nw, z_gP_nw, z_nx_nw, z_rc_nw, z_rs_nw, z_em_nw, z_mi_nw, z_kd_cI, z_ln_cI, z_gI_cI, z_gJ_cI, z_gP_cI, z_nx_cI, z_rc_cI, z_rs_cI, z_em_cI, z_mi_cI, z_kd_cP, z_ln_cP, z_gI_cP, z_gJ_cP, z_gP_cP, z_nx_cP, z_rc_cP, z_rs_cP, z_em_cP, z_mi_cP, z_kd_wI, z_ln_wI, z_gI_wI, z_gJ_wI, z_gP_wI, z_nx_wI, z_rc_wI, z_rs_wI, z_em_wI, z_mi_wI, z_kd_wJ, z_ln_wJ, z_gI_wJ, z_gJ_wJ, z_gP_wJ, z_nx_wJ, z_rc_wJ, z_rs_wJ, z_em_wJ, z_mi_wJ, X0.1, X7.2.2.1, Nat.reduceEqDiff, i_add, i_mul, i_sub, i_addn, i_lt, i_eq, i_idx, i_vp, true_and, and_true, false_and, and_false, if_true, if_false, Nat.reduceAdd, Nat.reduceMul, Nat.reduceSub, Nat.reduceEqDiff, Option.some.injEq, exists_eq_left', true_or, or_true, false_or, or_false, not_true_eq_false, not_false_eq_true, eq_self, and_self, Nat.reduceLeDiff, decide_true, decide_false, ne_eq, Nat.left_eq_add, Nat.add_eq_left, Nat.add_left_cancel_iff, Nat.add_zero]
  exact X'.pm
theorem M_byteOf {i : Int32} (X : MM h m tx si nm ar wr fl du cu es br tm) : Wp 147 0 [.ref m, .int i] [] h (@ite _ (flI i fl) (flD i fl) (PM h m (.int (Int32.ofNat (fl.getD i.toNatClampNeg 0))) 0 tx si nm ar wr fl du cu es br tm) (PM h m (.int (Int32.ofNat 0)) 1 tx si nm ar wr fl du cu es br tm)) := by
  have X' := X
  obtain ⟨X0, X1, X2, X3, X4, X5, X6, X7, X8⟩ := X
  have hl := X6.2.1
  by_cases c1 : i < Int32.ofNat 0
  · rw [if_neg (fun z => z.1 c1)]
    simp (disch := omega) only [U147_0, U147_1, U147_2, U147_5, U147_6, U147_7, U147_10, U147_13, U147_14, U147_17, U147_18, U147_21, U147_22, U147_25, U147_28, U147_29, U147_32, U147_33, U147_36, U147_37, U147_38, z_kd_sI, z_ln_sI, z_gI_sI, z_gJ_sI, z_gP_sI, z_nx_sI, z_rc_sI, z_rs_sI, z_em_sI, z_mi_sI, z_kd_sJ, z_ln_sJ, z_gI_sJ, z_gJ_sJ, z_gP_sJ, z_nx_sJ, z_rc_sJ, z_rs_sJ, z_em_sJ, z_mi_sJ, z_kd_sP, z_ln_sP, z_gI_sP, z_gJ_sP, z_gP_sP, z_nx_sP, z_rc_sP, z_rs_sP, z_em_sP, z_mi_sP, z_kd_nw, z_ln_nw, z_gI_nw, z_gJ_nw, z_gP_nw, z_nx_nw, z_rc_nw, z_rs_nw, z_em_nw, z_mi_nw, z_kd_cI, z_ln_cI, z_gI_cI, z_gJ_cI, z_gP_cI, z_nx_cI, z_rc_cI, z_rs_cI, z_em_cI, z_mi_cI, z_kd_cP, z_ln_cP, z_gI_cP, z_gJ_cP, z_gP_cP, z_nx_cP, z_rc_cP, z_rs_cP, z_em_cP, z_mi_cP, z_kd_wI, z_ln_wI, z_gI_wI, z_gJ_wI, z_gP_wI, z_nx_wI, z_rc_wI, z_rs_wI, z_em_wI, z_mi_wI, z_kd_wJ, z_ln_wJ, z_gI_wJ, z_gJ_wJ, z_gP_wJ, z_nx_wJ, z_rc_wJ, z_rs_wJ, z_em_wJ, z_mi_wJ, X0.1, c1, show (0 : Nat) < 1 by omega, i_add, i_mul, i_sub, i_addn, i_lt, i_eq, i_idx, i_vp, true_and, and_true, false_and, and_false, if_true, if_false, Nat.reduceAdd, Nat.reduceMul, Nat.reduceSub, Nat.reduceEqDiff, Option.some.injEq, exists_eq_left', true_or, or_true, false_or, or_false, not_true_eq_false, not_false_eq_true, eq_self, and_self, Nat.reduceLeDiff, decide_true, decide_false, ne_eq, Nat.left_eq_add, Nat.add_eq_left, Nat.add_left_cancel_iff, Nat.add_zero]
    exact X'.pm
  · obtain ⟨q, hq, rfl⟩ := i_nat c1
    have ei := i_idx hq
    by_cases c2 : q < fl.length
    · rw [if_pos ⟨c1, by rw [ei]; exact c2⟩, ei]
      simp (disch := omega) only [U147_0, U147_1, U147_2, U147_5, U147_6, U147_7, U147_10, U147_13, U147_14, U147_17, U147_18, U147_21, U147_22, U147_25, U147_28, U147_29, U147_32, U147_33, U147_36, U147_37, U147_38, z_kd_sI, z_ln_sI, z_gI_sI, z_gJ_sI, z_gP_sI, z_nx_sI, z_rc_sI, z_rs_sI, z_em_sI, z_mi_sI, z_kd_sJ, z_ln_sJ, z_gI_sJ, z_gJ_sJ, z_gP_sJ, z_nx_sJ, z_rc_sJ, z_rs_sJ, z_em_sJ, z_mi_sJ, z_kd_sP, z_ln_sP, z_gI_sP, z_gJ_sP, z_gP_sP, z_nx_sP, z_rc_sP, z_rs_sP, z_em_sP, z_mi_sP, z_kd_nw, z_ln_nw, z_gI_nw, z_gJ_nw, z_gP_nw, z_nx_nw, z_rc_nw, z_rs_nw, z_em_nw, z_mi_nw, z_kd_cI, z_ln_cI, z_gI_cI, z_gJ_cI, z_gP_cI, z_nx_cI, z_rc_cI, z_rs_cI, z_em_cI, z_mi_cI, z_kd_cP, z_ln_cP, z_gI_cP, z_gJ_cP, z_gP_cP, z_nx_cP, z_rc_cP, z_rs_cP, z_em_cP, z_mi_cP, z_kd_wI, z_ln_wI, z_gI_wI, z_gJ_wI, z_gP_wI, z_nx_wI, z_rc_wI, z_rs_wI, z_em_wI, z_mi_wI, z_kd_wJ, z_ln_wJ, z_gI_wJ, z_gJ_wJ, z_gP_wJ, z_nx_wJ, z_rc_wJ, z_rs_wJ, z_em_wJ, z_mi_wJ, X0.1, X6.1, mp23 X0, mk18 X0, mn18 X0, show ¬ q < 0 by omega, c2, show q < 6144 by omega, X6.2.2.1 q c2, show ¬ (0 : Nat) < 0 by omega, Nat.reduceEqDiff, i_add, i_mul, i_sub, i_addn, i_lt, i_eq, i_idx, i_vp, true_and, and_true, false_and, and_false, if_true, if_false, Nat.reduceAdd, Nat.reduceMul, Nat.reduceSub, Nat.reduceEqDiff, Option.some.injEq, exists_eq_left', true_or, or_true, false_or, or_false, not_true_eq_false, not_false_eq_true, eq_self, and_self, Nat.reduceLeDiff, decide_true, decide_false, ne_eq, Nat.left_eq_add, Nat.add_eq_left, Nat.add_left_cancel_iff, Nat.add_zero]
      exact X'.pm
    · rw [if_neg (fun z => by have := z.2; rw [ei] at this; omega)]
      simp (disch := omega) only [U147_0, U147_1, U147_2, U147_5, U147_6, U147_7, U147_10, U147_13, U147_14, U147_17, U147_18, U147_21, U147_22, U147_25, U147_28, U147_29, U147_32, U147_33, U147_36, U147_37, U147_38, z_kd_sI, z_ln_sI, z_gI_sI, z_gJ_sI, z_gP_sI, z_nx_sI, z_rc_sI, z_rs_sI, z_em_sI, z_mi_sI, z_kd_sJ, z_ln_sJ, z_gI_sJ, z_gJ_sJ, z_gP_sJ, z_nx_sJ, z_rc_sJ, z_rs_sJ, z_em_sJ, z_mi_sJ, z_kd_sP, z_ln_sP, z_gI_sP, z_gJ_sP, z_gP_sP, z_nx_sP, z_rc_sP, z_rs_sP, z_em_sP, z_mi_sP, z_kd_nw, z_ln_nw, z_gI_nw, z_gJ_nw, z_gP_nw, z_nx_nw, z_rc_nw, z_rs_nw, z_em_nw, z_mi_nw, z_kd_cI, z_ln_cI, z_gI_cI, z_gJ_cI, z_gP_cI, z_nx_cI, z_rc_cI, z_rs_cI, z_em_cI, z_mi_cI, z_kd_cP, z_ln_cP, z_gI_cP, z_gJ_cP, z_gP_cP, z_nx_cP, z_rc_cP, z_rs_cP, z_em_cP, z_mi_cP, z_kd_wI, z_ln_wI, z_gI_wI, z_gJ_wI, z_gP_wI, z_nx_wI, z_rc_wI, z_rs_wI, z_em_wI, z_mi_wI, z_kd_wJ, z_ln_wJ, z_gI_wJ, z_gJ_wJ, z_gP_wJ, z_nx_wJ, z_rc_wJ, z_rs_wJ, z_em_wJ, z_mi_wJ, X0.1, X6.1, show ¬ q < 0 by omega, c2, show (0 : Nat) < 1 by omega, i_add, i_mul, i_sub, i_addn, i_lt, i_eq, i_idx, i_vp, true_and, and_true, false_and, and_false, if_true, if_false, Nat.reduceAdd, Nat.reduceMul, Nat.reduceSub, Nat.reduceEqDiff, Option.some.injEq, exists_eq_left', true_or, or_true, false_or, or_false, not_true_eq_false, not_false_eq_true, eq_self, and_self, Nat.reduceLeDiff, decide_true, decide_false, ne_eq, Nat.left_eq_add, Nat.add_eq_left, Nat.add_left_cancel_iff, Nat.add_zero]
      exact X'.pm
theorem M_damage {i b : Int32} (X : MM h m tx si nm ar wr fl du cu es br tm) : Wp 153 0 [.ref m, .int i, .int b] [] h (@ite _ (flI i fl) (flD i fl) (PM h m .null 0 tx si nm ar wr (fl.set i.toNatClampNeg (lo8 b)) du cu es br tm) (PM h m .null 1 tx si nm ar wr fl du cu es br tm)) := by
  have X' := X
  obtain ⟨X0, X1, X2, X3, X4, X5, X6, X7, X8⟩ := X
  have hl := X6.2.1
  by_cases c1 : i < Int32.ofNat 0
  · rw [if_neg (fun z => z.1 c1)]
    simp (disch := omega) only [U153_0, U153_1, U153_2, U153_5, U153_6, U153_7, U153_10, U153_13, U153_14, U153_17, U153_18, U153_21, U153_22, U153_25, U153_28, U153_29, U153_32, U153_33, U153_34, U153_37, U153_38, U153_39, z_kd_sI, z_ln_sI, z_gI_sI, z_gJ_sI, z_gP_sI, z_nx_sI, z_rc_sI, z_rs_sI, z_em_sI, z_mi_sI, z_kd_sJ, z_ln_sJ, z_gI_sJ, z_gJ_sJ, z_gP_sJ, z_nx_sJ, z_rc_sJ, z_rs_sJ, z_em_sJ, z_mi_sJ, z_kd_sP, z_ln_sP, z_gI_sP, z_gJ_sP, z_gP_sP, z_nx_sP, z_rc_sP, z_rs_sP, z_em_sP, z_mi_sP, z_kd_nw, z_ln_nw, z_gI_nw, z_gJ_nw, z_gP_nw, z_nx_nw, z_rc_nw, z_rs_nw, z_em_nw, z_mi_nw, z_kd_cI, z_ln_cI, z_gI_cI, z_gJ_cI, z_gP_cI, z_nx_cI, z_rc_cI, z_rs_cI, z_em_cI, z_mi_cI, z_kd_cP, z_ln_cP, z_gI_cP, z_gJ_cP, z_gP_cP, z_nx_cP, z_rc_cP, z_rs_cP, z_em_cP, z_mi_cP, z_kd_wI, z_ln_wI, z_gI_wI, z_gJ_wI, z_gP_wI, z_nx_wI, z_rc_wI, z_rs_wI, z_em_wI, z_mi_wI, z_kd_wJ, z_ln_wJ, z_gI_wJ, z_gJ_wJ, z_gP_wJ, z_nx_wJ, z_rc_wJ, z_rs_wJ, z_em_wJ, z_mi_wJ, X0.1, c1, show ¬ (1 : Nat) = 0 by omega, i_add, i_mul, i_sub, i_addn, i_lt, i_eq, i_idx, i_vp, true_and, and_true, false_and, and_false, if_true, if_false, Nat.reduceAdd, Nat.reduceMul, Nat.reduceSub, Nat.reduceEqDiff, Option.some.injEq, exists_eq_left', true_or, or_true, false_or, or_false, not_true_eq_false, not_false_eq_true, eq_self, and_self, Nat.reduceLeDiff, decide_true, decide_false, ne_eq, Nat.left_eq_add, Nat.add_eq_left, Nat.add_left_cancel_iff, Nat.add_zero]
    exact X'.pm
  · obtain ⟨q, hq, rfl⟩ := i_nat c1
    have ei := i_idx hq
    by_cases c2 : q < fl.length
    · rw [if_pos ⟨c1, by rw [ei]; exact c2⟩, ei]
      simp (disch := omega) only [U153_0, U153_1, U153_2, U153_5, U153_6, U153_7, U153_10, U153_13, U153_14, U153_17, U153_18, U153_21, U153_22, U153_25, U153_28, U153_29, U153_32, U153_33, U153_34, U153_37, U153_38, U153_39, z_kd_sI, z_ln_sI, z_gI_sI, z_gJ_sI, z_gP_sI, z_nx_sI, z_rc_sI, z_rs_sI, z_em_sI, z_mi_sI, z_kd_sJ, z_ln_sJ, z_gI_sJ, z_gJ_sJ, z_gP_sJ, z_nx_sJ, z_rc_sJ, z_rs_sJ, z_em_sJ, z_mi_sJ, z_kd_sP, z_ln_sP, z_gI_sP, z_gJ_sP, z_gP_sP, z_nx_sP, z_rc_sP, z_rs_sP, z_em_sP, z_mi_sP, z_kd_nw, z_ln_nw, z_gI_nw, z_gJ_nw, z_gP_nw, z_nx_nw, z_rc_nw, z_rs_nw, z_em_nw, z_mi_nw, z_kd_cI, z_ln_cI, z_gI_cI, z_gJ_cI, z_gP_cI, z_nx_cI, z_rc_cI, z_rs_cI, z_em_cI, z_mi_cI, z_kd_cP, z_ln_cP, z_gI_cP, z_gJ_cP, z_gP_cP, z_nx_cP, z_rc_cP, z_rs_cP, z_em_cP, z_mi_cP, z_kd_wI, z_ln_wI, z_gI_wI, z_gJ_wI, z_gP_wI, z_nx_wI, z_rc_wI, z_rs_wI, z_em_wI, z_mi_wI, z_kd_wJ, z_ln_wJ, z_gI_wJ, z_gJ_wJ, z_gP_wJ, z_nx_wJ, z_rc_wJ, z_rs_wJ, z_em_wJ, z_mi_wJ, X0.1, X6.1, mp23 X0, mk18 X0, mn18 X0, show ¬ q < 0 by omega, c2, show q < 6144 by omega, (lo8_b8 b).2.2, Nat.reduceEqDiff, i_add, i_mul, i_sub, i_addn, i_lt, i_eq, i_idx, i_vp, true_and, and_true, false_and, and_false, if_true, if_false, Nat.reduceAdd, Nat.reduceMul, Nat.reduceSub, Nat.reduceEqDiff, Option.some.injEq, exists_eq_left', true_or, or_true, false_or, or_false, not_true_eq_false, not_false_eq_true, eq_self, and_self, Nat.reduceLeDiff, decide_true, decide_false, ne_eq, Nat.left_eq_add, Nat.add_eq_left, Nat.add_left_cancel_iff, Nat.add_zero]
      have f : Fz (fun a i => (a = m ∧ i = 0) ∨ (a = m + 18 ∧ i = q)) h (sI_ (sI_ h m 0 (Int32.ofNat 0)) (m + 18) q (Int32.ofNat (lo8 b))) := (Fz.rfl'.sI (Or.inl ⟨rfl, rfl⟩)).sI (Or.inr ⟨rfl, rfl⟩)
      obtain ⟨a1, a2, a3, a4, a5, a6, a7⟩ := X6
      refine ⟨rfl, ?_, f.mono (fun a i z => by omega), X0.fz f, X1.fz f (by intro a i z w; omega), X2.fz f (by intro a i z w; omega), X3.fz f (by intro a i z w; omega), X4.fz f (by intro a i z w; omega), X5.fz f (by intro a i z w; omega), ⟨by rw [f.gI (by omega), List.length_set, a1], by rw [List.length_set]; exact a2, fun j hj => ?_, fun y hy => ?_, by rw [f.gI (by omega), a5], by rw [List.length_set]; exact a6, by rw [f.gI (by omega), a7]⟩, X7.fz f (by intro a i z w; omega), X8.fz f (by intro a i z w; omega)⟩
      · rw [z_gI_sI, if_neg (by omega), z_gI_sI, if_pos ⟨rfl, rfl⟩]
      · have hj' := hj
        rw [List.length_set] at hj
        rw [z_gI_sI, gD_in hj', List.getElem_set]
        by_cases hqj : q = j
        · rw [if_pos ⟨rfl, hqj.symm⟩, if_pos hqj]
        · rw [if_neg (by omega), if_neg hqj, z_gI_sI, if_neg (by omega), a3 j hj, gD_in hj]
      · rcases List.mem_or_eq_of_mem_set hy with hy | hy
        · exact a4 y hy
        · rw [hy]; exact (lo8_b8 b).2.1
    · rw [if_neg (fun z => by have := z.2; rw [ei] at this; omega)]
      simp (disch := omega) only [U153_0, U153_1, U153_2, U153_5, U153_6, U153_7, U153_10, U153_13, U153_14, U153_17, U153_18, U153_21, U153_22, U153_25, U153_28, U153_29, U153_32, U153_33, U153_34, U153_37, U153_38, U153_39, z_kd_sI, z_ln_sI, z_gI_sI, z_gJ_sI, z_gP_sI, z_nx_sI, z_rc_sI, z_rs_sI, z_em_sI, z_mi_sI, z_kd_sJ, z_ln_sJ, z_gI_sJ, z_gJ_sJ, z_gP_sJ, z_nx_sJ, z_rc_sJ, z_rs_sJ, z_em_sJ, z_mi_sJ, z_kd_sP, z_ln_sP, z_gI_sP, z_gJ_sP, z_gP_sP, z_nx_sP, z_rc_sP, z_rs_sP, z_em_sP, z_mi_sP, z_kd_nw, z_ln_nw, z_gI_nw, z_gJ_nw, z_gP_nw, z_nx_nw, z_rc_nw, z_rs_nw, z_em_nw, z_mi_nw, z_kd_cI, z_ln_cI, z_gI_cI, z_gJ_cI, z_gP_cI, z_nx_cI, z_rc_cI, z_rs_cI, z_em_cI, z_mi_cI, z_kd_cP, z_ln_cP, z_gI_cP, z_gJ_cP, z_gP_cP, z_nx_cP, z_rc_cP, z_rs_cP, z_em_cP, z_mi_cP, z_kd_wI, z_ln_wI, z_gI_wI, z_gJ_wI, z_gP_wI, z_nx_wI, z_rc_wI, z_rs_wI, z_em_wI, z_mi_wI, z_kd_wJ, z_ln_wJ, z_gI_wJ, z_gJ_wJ, z_gP_wJ, z_nx_wJ, z_rc_wJ, z_rs_wJ, z_em_wJ, z_mi_wJ, X0.1, X6.1, show ¬ q < 0 by omega, c2, show ¬ (1 : Nat) = 0 by omega, i_add, i_mul, i_sub, i_addn, i_lt, i_eq, i_idx, i_vp, true_and, and_true, false_and, and_false, if_true, if_false, Nat.reduceAdd, Nat.reduceMul, Nat.reduceSub, Nat.reduceEqDiff, Option.some.injEq, exists_eq_left', true_or, or_true, false_or, or_false, not_true_eq_false, not_false_eq_true, eq_self, and_self, Nat.reduceLeDiff, decide_true, decide_false, ne_eq, Nat.left_eq_add, Nat.add_eq_left, Nat.add_left_cancel_iff, Nat.add_zero]
      exact X'.pm
theorem Mqs.snoc {t : Tm} (X : Mqs h m tm) (f : Fz S h h') (hl : tm.length < 4) (hS : ∀ a i, S a i → a = m ∨ a = m + 1 ∨ ((m + 26 ≤ a ∧ a ≤ m + 29) ∧ i = tm.length) ∨ (a = m + 30 ∧ 24 * tm.length ≤ i)) (h8 : gI_ h' m 35 = Int32.ofNat (tm.length + 1)) (hc : Mq1 h' m tm.length t) : Mqs h' m (tm ++ [t]) := by
  refine ⟨by rw [List.length_append]; exact h8, by rw [List.length_append, List.length_singleton]; omega, fun i t' ht => ?_⟩
  by_cases hi : i < tm.length
  · rw [List.getElem?_append_left hi] at ht
    have q := X.2.2 i t' ht
    have n6 : ∀ a, m + 26 ≤ a ∧ a ≤ m + 29 → ¬ S a i := fun a z w => by have := hS a i w; omega
    cases t' with
    | inl y => obtain ⟨k, u, v⟩ := y; exact ⟨q.1, by rw [f.gI (n6 _ (by omega))]; exact q.2.1, by rw [f.gI (n6 _ (by omega))]; exact q.2.2.1, by rw [f.gI (n6 _ (by omega))]; exact q.2.2.2⟩
    | inr t => exact ⟨by rw [f.gI (n6 _ (by omega))]; exact q.1, by rw [f.gI (n6 _ (by omega))]; exact q.2.1, q.2.2.1, fun k hk => by rw [f.gI (fun w => by have := hS _ _ w; have := q.2.2.1; omega)]; exact q.2.2.2 k hk⟩
  · have hi' : i = tm.length := by
      rcases Nat.lt_or_ge i (tm.length + 1) with z | z
      · omega
      · rw [List.getElem?_eq_none (by rw [List.length_append, List.length_singleton]; omega)] at ht; cases ht
    subst hi'
    rw [List.getElem?_append_right (Nat.le_refl _), Nat.sub_self] at ht
    have := Option.some.inj ht
    subst this
    exact hc
theorem M_where {k a b : Int32} (X : MM h m tx si nm ar wr fl du cu es br tm) : Wp 206 0 [.ref m, .int k, .int a, .int b] [] h (@ite _ (whK k) (whD k) (PM h m (.int (Int32.ofNat 0)) 1 tx si nm ar wr fl du cu es br tm) (if tm.length = 4 then PM h m (.int (Int32.ofNat 0)) 2 tx si nm ar wr fl du cu es br tm else PM h m (.int (Int32.ofNat (tm.length + 1))) 0 tx si nm ar wr fl du cu es br (tm ++ [.inl (k.toNatClampNeg, a, b)]))) := by
  have X' := X
  obtain ⟨X0, X1, X2, X3, X4, X5, X6, X7, X8⟩ := X
  have h4 := X8.2.1
  by_cases c1 : whK k
  · rw [if_pos c1]
    have hb : bz (¬ k < Int32.ofNat 0 ∧ ¬ Int32.ofNat 3 < k) = Int32.ofNat 0 := by rw [bz_0]; intro z; exact c1.elim z.1 z.2
    simp (disch := omega) only [U206_0, U206_1, U206_2, U206_3, U206_4, U206_7, U206_10, U206_11, U206_14, U206_15, U206_18, U206_19, U206_22, U206_23, U206_26, U206_27, U206_30, U206_31, U206_34, U206_37, U206_38, U206_39, U206_40, U206_43, U206_44, U206_47, U206_48, U206_49, U206_50, U206_53, U206_54, U206_57, U206_58, U206_59, U206_60, U206_63, U206_64, U206_67, U206_68, U206_69, U206_70, U206_71, U206_74, U206_75, U206_76, U206_79, U206_80, U206_83, M_within, V207, hb, z_kd_sI, z_ln_sI, z_gI_sI, z_gJ_sI, z_gP_sI, z_nx_sI, z_rc_sI, z_rs_sI, z_em_sI, z_mi_sI, z_kd_sJ, z_ln_sJ, z_gI_sJ, z_gJ_sJ, z_gP_sJ, z_nx_sJ, z_rc_sJ, z_rs_sJ, z_em_sJ, z_mi_sJ, z_kd_sP, z_ln_sP, z_gI_sP, z_gJ_sP, z_gP_sP, z_nx_sP, z_rc_sP, z_rs_sP, z_em_sP, z_mi_sP, z_kd_nw, z_ln_nw, z_gI_nw, z_gJ_nw, z_gP_nw, z_nx_nw, z_rc_nw, z_rs_nw, z_em_nw, z_mi_nw, z_kd_cI, z_ln_cI, z_gI_cI, z_gJ_cI, z_gP_cI, z_nx_cI, z_rc_cI, z_rs_cI, z_em_cI, z_mi_cI, z_kd_cP, z_ln_cP, z_gI_cP, z_gJ_cP, z_gP_cP, z_nx_cP, z_rc_cP, z_rs_cP, z_em_cP, z_mi_cP, z_kd_wI, z_ln_wI, z_gI_wI, z_gJ_wI, z_gP_wI, z_nx_wI, z_rc_wI, z_rs_wI, z_em_wI, z_mi_wI, z_kd_wJ, z_ln_wJ, z_gI_wJ, z_gJ_wJ, z_gP_wJ, z_nx_wJ, z_rc_wJ, z_rs_wJ, z_em_wJ, z_mi_wJ, X0.1, show (0 : Nat) < 1 by omega, i_add, i_mul, i_sub, i_addn, i_lt, i_eq, i_idx, i_vp, true_and, and_true, false_and, and_false, if_true, if_false, Nat.reduceAdd, Nat.reduceMul, Nat.reduceSub, Nat.reduceEqDiff, Option.some.injEq, exists_eq_left', true_or, or_true, false_or, or_false, not_true_eq_false, not_false_eq_true, eq_self, and_self, Nat.reduceLeDiff, decide_true, decide_false, ne_eq, Nat.left_eq_add, Nat.add_eq_left, Nat.add_left_cancel_iff, Nat.add_zero]
    exact X'.pm
  · rw [if_neg c1]
    have hk0 : ¬ k < Int32.ofNat 0 := fun z => c1 (Or.inl z)
    have hk3 : ¬ Int32.ofNat 3 < k := fun z => c1 (Or.inr z)
    have hb : ¬ bz (¬ k < Int32.ofNat 0 ∧ ¬ Int32.ofNat 3 < k) = Int32.ofNat 0 := by rw [bz_0]; exact fun z => z ⟨hk0, hk3⟩
    by_cases c2 : tm.length = 4
    · rw [if_pos c2]
      simp (disch := omega) only [U206_0, U206_1, U206_2, U206_3, U206_4, U206_7, U206_10, U206_11, U206_14, U206_15, U206_18, U206_19, U206_22, U206_23, U206_26, U206_27, U206_30, U206_31, U206_34, U206_37, U206_38, U206_39, U206_40, U206_43, U206_44, U206_47, U206_48, U206_49, U206_50, U206_53, U206_54, U206_57, U206_58, U206_59, U206_60, U206_63, U206_64, U206_67, U206_68, U206_69, U206_70, U206_71, U206_74, U206_75, U206_76, U206_79, U206_80, U206_83, M_within, V207, hb, z_kd_sI, z_ln_sI, z_gI_sI, z_gJ_sI, z_gP_sI, z_nx_sI, z_rc_sI, z_rs_sI, z_em_sI, z_mi_sI, z_kd_sJ, z_ln_sJ, z_gI_sJ, z_gJ_sJ, z_gP_sJ, z_nx_sJ, z_rc_sJ, z_rs_sJ, z_em_sJ, z_mi_sJ, z_kd_sP, z_ln_sP, z_gI_sP, z_gJ_sP, z_gP_sP, z_nx_sP, z_rc_sP, z_rs_sP, z_em_sP, z_mi_sP, z_kd_nw, z_ln_nw, z_gI_nw, z_gJ_nw, z_gP_nw, z_nx_nw, z_rc_nw, z_rs_nw, z_em_nw, z_mi_nw, z_kd_cI, z_ln_cI, z_gI_cI, z_gJ_cI, z_gP_cI, z_nx_cI, z_rc_cI, z_rs_cI, z_em_cI, z_mi_cI, z_kd_cP, z_ln_cP, z_gI_cP, z_gJ_cP, z_gP_cP, z_nx_cP, z_rc_cP, z_rs_cP, z_em_cP, z_mi_cP, z_kd_wI, z_ln_wI, z_gI_wI, z_gJ_wI, z_gP_wI, z_nx_wI, z_rc_wI, z_rs_wI, z_em_wI, z_mi_wI, z_kd_wJ, z_ln_wJ, z_gI_wJ, z_gJ_wJ, z_gP_wJ, z_nx_wJ, z_rc_wJ, z_rs_wJ, z_em_wJ, z_mi_wJ, X0.1, X8.1, c2, show (0 : Nat) < 2 by omega, Nat.reduceEqDiff, i_add, i_mul, i_sub, i_addn, i_lt, i_eq, i_idx, i_vp, true_and, and_true, false_and, and_false, if_true, if_false, Nat.reduceAdd, Nat.reduceMul, Nat.reduceSub, Nat.reduceEqDiff, Option.some.injEq, exists_eq_left', true_or, or_true, false_or, or_false, not_true_eq_false, not_false_eq_true, eq_self, and_self, Nat.reduceLeDiff, decide_true, decide_false, ne_eq, Nat.left_eq_add, Nat.add_eq_left, Nat.add_left_cancel_iff, Nat.add_zero]
      exact X'.pm
    · rw [if_neg c2]
      simp (disch := omega) only [U206_0, U206_1, U206_2, U206_3, U206_4, U206_7, U206_10, U206_11, U206_14, U206_15, U206_18, U206_19, U206_22, U206_23, U206_26, U206_27, U206_30, U206_31, U206_34, U206_37, U206_38, U206_39, U206_40, U206_43, U206_44, U206_47, U206_48, U206_49, U206_50, U206_53, U206_54, U206_57, U206_58, U206_59, U206_60, U206_63, U206_64, U206_67, U206_68, U206_69, U206_70, U206_71, U206_74, U206_75, U206_76, U206_79, U206_80, U206_83, M_within, V207, hb, z_kd_sI, z_ln_sI, z_gI_sI, z_gJ_sI, z_gP_sI, z_nx_sI, z_rc_sI, z_rs_sI, z_em_sI, z_mi_sI, z_kd_sJ, z_ln_sJ, z_gI_sJ, z_gJ_sJ, z_gP_sJ, z_nx_sJ, z_rc_sJ, z_rs_sJ, z_em_sJ, z_mi_sJ, z_kd_sP, z_ln_sP, z_gI_sP, z_gJ_sP, z_gP_sP, z_nx_sP, z_rc_sP, z_rs_sP, z_em_sP, z_mi_sP, z_kd_nw, z_ln_nw, z_gI_nw, z_gJ_nw, z_gP_nw, z_nx_nw, z_rc_nw, z_rs_nw, z_em_nw, z_mi_nw, z_kd_cI, z_ln_cI, z_gI_cI, z_gJ_cI, z_gP_cI, z_nx_cI, z_rc_cI, z_rs_cI, z_em_cI, z_mi_cI, z_kd_cP, z_ln_cP, z_gI_cP, z_gJ_cP, z_gP_cP, z_nx_cP, z_rc_cP, z_rs_cP, z_em_cP, z_mi_cP, z_kd_wI, z_ln_wI, z_gI_wI, z_gJ_wI, z_gP_wI, z_nx_wI, z_rc_wI, z_rs_wI, z_em_wI, z_mi_wI, z_kd_wJ, z_ln_wJ, z_gI_wJ, z_gJ_wJ, z_gP_wJ, z_nx_wJ, z_rc_wJ, z_rs_wJ, z_em_wJ, z_mi_wJ, X0.1, X8.1, c2, mp36 X0, mp37 X0, mp38 X0, mk26 X0, mn26 X0, mk27 X0, mn27 X0, mk28 X0, mn28 X0, show tm.length < 4 by omega, show ¬ (0 : Nat) < 0 by omega, Nat.reduceEqDiff, i_add, i_mul, i_sub, i_addn, i_lt, i_eq, i_idx, i_vp, true_and, and_true, false_and, and_false, if_true, if_false, Nat.reduceAdd, Nat.reduceMul, Nat.reduceSub, Nat.reduceEqDiff, Option.some.injEq, exists_eq_left', true_or, or_true, false_or, or_false, not_true_eq_false, not_false_eq_true, eq_self, and_self, Nat.reduceLeDiff, decide_true, decide_false, ne_eq, Nat.left_eq_add, Nat.add_eq_left, Nat.add_left_cancel_iff, Nat.add_zero]
      obtain ⟨q, hq, rfl⟩ := i_nat hk0
      rw [i_idx hq]
      have hq3 : q < 4 := by rw [i_lt (by omega) hq] at hk3; omega
      have f : Fz (fun a i => (a = m ∧ (i = 0 ∨ i = 35)) ∨ ((m + 26 ≤ a ∧ a ≤ m + 28) ∧ i = tm.length)) h (sI_ (sI_ (sI_ (sI_ (sI_ h m 0 (Int32.ofNat 0)) (m + 26) tm.length (Int32.ofNat q)) (m + 27) tm.length a) (m + 28) tm.length b) m 35 (Int32.ofNat (tm.length + 1))) := ((((Fz.rfl'.sI (Or.inl ⟨rfl, Or.inl rfl⟩)).sI (Or.inr ⟨by omega, rfl⟩)).sI (Or.inr ⟨by omega, rfl⟩)).sI (Or.inr ⟨by omega, rfl⟩)).sI (Or.inl ⟨rfl, Or.inr rfl⟩)
      refine ⟨rfl, ?_, f.mono (fun a i z => by omega), X0.fz f, X1.fz f (by intro a i z w; omega), X2.fz f (by intro a i z w; omega), X3.fz f (by intro a i z w; omega), X4.fz f (by intro a i z w; omega), X5.fz f (by intro a i z w; omega), X6.fz f (by intro a i z w; omega), X7.fz f (by intro a i z w; omega), X8.snoc f (by omega) (fun a i z => by omega) ?_ ⟨hq3, ?_, ?_, ?_⟩⟩
      · rw [z_gI_sI, if_neg (by omega), z_gI_sI, if_neg (by omega), z_gI_sI, if_neg (by omega), z_gI_sI, if_neg (by omega), z_gI_sI, if_pos ⟨rfl, rfl⟩]
      · rw [z_gI_sI, if_pos ⟨rfl, rfl⟩]
      · rw [z_gI_sI, if_neg (by omega), z_gI_sI, if_neg (by omega), z_gI_sI, if_neg (by omega), z_gI_sI, if_pos ⟨rfl, rfl⟩]
      · rw [z_gI_sI, if_neg (by omega), z_gI_sI, if_neg (by omega), z_gI_sI, if_pos ⟨rfl, rfl⟩]
      · rw [z_gI_sI, if_neg (by omega), z_gI_sI, if_pos ⟨rfl, rfl⟩]
end
