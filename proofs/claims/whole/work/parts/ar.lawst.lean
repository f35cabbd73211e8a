/-! ===== the law: the state of both, and what stays ===== -/
/-- what a writer's state keeps -/
def JW (si : List (List Tok)) (q : Wr) : Prop := q.2.1 < 9223372036854775808 ∧ (q.1 ≠ [] → (pkP q.1).2.2.1 = q.2.1) ∧ WkOk si q.1 ∧ mono q.1 ∧ ∀ e, e ≤ q.1.length → (pkP (q.1.take e)).1.length ≤ 238
def Jv (si : List (List Tok)) (wr : Nat → Wr) (fl : List Nat) (cu : Bool) (es : List Ev) : Prop := (∀ w, w < 4 → JW si (wr w)) ∧ (¬ cu = true → fl.length % 256 = 0) ∧ ∀ y ∈ es, okL si y
/-- a heap with the numbers of another -/
def mx (h h' : MH_) : MH_ := (kd_ h, ln_ h, gI_ h', gJ_ h', gP_ h, nx_ h, rc_ h, rs_ h, em_ h, mi_ h)
section
variable {h h' : MH_} {x m B C n w : Nat} {T : Nat → Nat → Prop} {tx : List Nat} {si : List (List Tok)} {nm : Nat → List Nat} {ar : List Arg} {wr : Nat → Wr} {fl : List Nat} {du : Nat} {cu : Bool} {es : List Ev} {br : Nat} {tm : List Tm}
theorem MS.ag (X : MS h m) (g : Ag m 32 h h') : MS h' m := by
  refine ⟨by rw [g.kd m (by omega) (by omega)]; exact X.1, fun q hq => ?_⟩
  have hb : ∀ q ∈ ma_, q.2.1 < 32 := by decide
  have := hb q hq
  obtain ⟨a, b, c⟩ := X.2 q hq
  exact ⟨by rw [g.gP m _ (by omega) (by omega)]; exact a, by rw [g.kd _ (by omega) (by omega)]; exact b, by rw [g.ln _ (by omega) (by omega)]; exact c⟩
theorem MM.ag (X : MM h m tx si nm ar wr fl du cu es br tm) (g : Ag m 32 h h') : MM h' m tx si nm ar wr fl du cu es br tm := by
  have f : Fz (fun a _ => ¬ (m ≤ a ∧ a < m + 32)) h (mx h h') := ⟨fun _ => rfl, fun _ => rfl, fun _ _ => rfl, ⟨rfl, rfl, rfl, rfl, rfl⟩, fun a i hs => by
    have ha : m ≤ a ∧ a < m + 32 := Classical.byContradiction (fun z => hs z)
    exact ⟨g.gI a i ha.1 ha.2, g.gJ a i ha.1 ha.2⟩⟩
  obtain ⟨X0, X1, X2, X3, X4, X5, X6, X7, X8⟩ := X
  have Y1 := X1.fz f (by intro a i z w; omega)
  have Y2 := X2.fz f (by intro a i z w; omega)
  have Y3 := X3.fz f (by intro a i z w; omega)
  have Y4 := X4.fz f (by intro a i z w; omega)
  have Y5 := X5.fz f (by intro a i z w; omega)
  have Y6 := X6.fz f (by intro a i z w; omega)
  have Y7 := X7.fz f (by intro a i z w; omega)
  have Y8 := X8.fz f (by intro a i z w; omega)
  exact ⟨X0.ag g, Y1, Y2, Y3, Y4, Y5, Y6, Y7, Y8⟩
theorem EL.k (E : EL h x B C tx si nm ar wr fl du cu es br tm) : kd_ h x = 12 := by
  obtain ⟨t1, t2, a1, a2, d, sA, fs, pl, pr, sr, nA, H, -⟩ := E
  exact H.1
/-- what the class's blocks say of their bytes -/
theorem EL.pk (E : EL h x B C tx si nm ar wr fl du cu es br tm) {w : Nat} (hw : w < 4) : (pkP (wr w).1).1.length ≤ 238 ∧ ∀ b ∈ (pkP (wr w).1).1, b < 256 := by
  obtain ⟨t1, t2, a1, a2, d, sA, fs, pl, pr, sr, nA, H, Tt, R, P, F, Bq, -⟩ := E
  obtain ⟨ft, b, -⟩ := Bq w hw
  exact ⟨b.2.1.2.2.2.2.2.1, b.2.1.2.2.2.2.2.2.2.2⟩
theorem EL.tmB (E : EL h x B C tx si nm ar wr fl du cu es br tm) : ∀ u, .inr u ∈ tm → ∀ i, u.getD i 0 < 256 := by
  obtain ⟨t1, t2, a1, a2, d, sA, fs, pl, pr, sr, nA, H, Tt, R, P, F, Bq, I, Qq, -⟩ := E
  intro u hu i
  obtain ⟨j, hj, e⟩ := List.getElem_of_mem hu
  have q := Qq.2.2.2.2 j hj
  rw [e] at q
  exact q.2.lt i
theorem Jv.wrOk (J : Jv si wr fl cu es) : WrOk si wr := by
  intro w hw
  obtain ⟨a, b, c, d, e⟩ := J.1 w hw
  exact ⟨a, b, by have := e _ (Nat.le_refl _); rw [List.take_length] at this; exact this, c⟩
theorem Jv.wb (J : Jv si wr fl cu es) (E : EL h x B C tx si nm ar wr fl du cu es br tm) : ∀ w, w < 4 → WB si (wr w) := by
  intro w hw
  obtain ⟨a, b, c, d, e⟩ := J.1 w hw
  obtain ⟨p1, p2⟩ := E.pk hw
  exact ⟨c, d, fun i hi => e i (by omega), p1, p2⟩
end
/-! ===== the state of the law ===== -/
def Ls (h : MH_) (x B C sc n : Nat) (sg : Nat → Int32) (tx : List Nat) (si : List (List Tok)) (nm : Nat → List Nat) (ar : List Arg) (wr : Nat → Wr) (fl : List Nat) (du : Nat) (cu : Bool) (es : List Ev) (br : Nat) (tm : List Tm) : Prop :=
  EL h x B C tx si nm ar wr fl du cu es br tm ∧ MM h (x + 71) tx si nm ar wr fl du cu es br tm ∧ (kd_ h (x + 103) = 33 ∧ ln_ h (x + 103) = 1) ∧ (sc < x ∧ kd_ h sc = 37 ∧ ln_ h sc = n ∧ ∀ i, gI_ h sc i = sg i)
/-- what a wrapper answers and leaves: a value in the row out, none, or the number of an exception -/
def Rw_ (r : Option Int64 ⊕ Nat) (v : Rs_) (h' : MH_) (x : Nat) : Prop := match r with
  | .inl (some y) => v = .inl (.int (Int32.ofNat 0)) ∧ gJ_ h' (x + 103) 0 = y
  | .inl none => v = .inl (.int (Int32.ofNat 0))
  | .inr c => v = .inl (.int (Int32.ofNat c))
def PW (h : MH_) (x B C : Nat) (r : Option Int64 ⊕ Nat) (tx : List Nat) (si : List (List Tok)) (nm : Nat → List Nat) (ar : List Arg) (wr : Nat → Wr) (fl : List Nat) (du : Nat) (cu : Bool) (es : List Ev) (br : Nat) (tm : List Tm) : Rs_ → MH_ → Prop := fun v h' => Rw_ r v h' x ∧ Fb (fun a i => SX x a i ∨ a = x + 103) h h' ∧ EL h' x B C tx si nm ar wr fl du cu es br tm
section
variable {h h' : MH_} {x B C sc n : Nat} {sg : Nat → Int32} {T : Nat → Nat → Prop} {tx : List Nat} {si : List (List Tok)} {nm : Nat → List Nat} {ar : List Arg} {wr : Nat → Wr} {fl : List Nat} {du : Nat} {cu : Bool} {es : List Ev} {br : Nat} {tm : List Tm}
theorem PZ.val {y : Int64} {h1 : MH_} (hx : x + 104 ≤ nx_ h) (f1 : Fb (SX x) h h1) (E1 : EL h1 x B C tx si nm ar wr fl du cu es br tm) : PW h x B C (.inl (some y)) tx si nm ar wr fl du cu es br tm (.inl (.int (Int32.ofNat 0))) (sJ_ h1 (x + 103) 0 y) := by
  have f2 : Fz (fun a _ => a = x + 103) h1 (sJ_ h1 (x + 103) 0 y) := Fz.rfl'.sJ rfl
  refine ⟨⟨rfl, by rw [z_gJ_sJ, if_pos ⟨rfl, rfl⟩]⟩, (f1.mono (fun a i _ z => Or.inl z)).trans f2.fb (fun a i _ z => Or.inr z), EL.fa (n := 0) (w := 0) E1 f2.fa (fun a i z => by omega)⟩
theorem PZ.non {h1 : MH_} {r : Option Int64 ⊕ Nat} {v : Rs_} (f1 : Fb (SX x) h h1) (E1 : EL h1 x B C tx si nm ar wr fl du cu es br tm) (hr : Rw_ r v h1 x) : PW h x B C r tx si nm ar wr fl du cu es br tm v h1 :=
  ⟨hr, f1.mono (fun a i _ z => Or.inl z), E1⟩
/-- a step of the class: the model, the row out and the script stay -/
theorem Fb.out {h1 : MH_} (f : Fb (fun a i => SX x a i ∨ a = x + 103) h h1) (hx : x + 104 ≤ nx_ h) (ho : kd_ h (x + 103) = 33 ∧ ln_ h (x + 103) = 1) (hs : sc < x ∧ kd_ h sc = 37 ∧ ln_ h sc = n ∧ ∀ i, gI_ h sc i = sg i) : Ag (x + 71) 32 h h1 ∧ (kd_ h1 (x + 103) = 33 ∧ ln_ h1 (x + 103) = 1) ∧ (sc < x ∧ kd_ h1 sc = 37 ∧ ln_ h1 sc = n ∧ ∀ i, gI_ h1 sc i = sg i) := by
  obtain ⟨o1, o2⟩ := f.2.1 (x + 103) (by omega)
  obtain ⟨s1, s2, s3, s4⟩ := hs
  obtain ⟨p1, p2⟩ := f.2.1 sc (by omega)
  exact ⟨f.ag (by omega) (fun a i z w y => by unfold SX at y; omega), ⟨by rw [o1]; exact ho.1, by rw [o2]; exact ho.2⟩, s1, by rw [p1]; exact s2, by rw [p2]; exact s3, fun i => by rw [(f.2.2.2 sc i (by omega) (by unfold SX; omega)).1]; exact s4 i⟩
/-- a step of the model: the class, the row out and the script stay -/
theorem Fz.out {h1 : MH_} (f : Fz (fun a _ => x + 71 ≤ a ∧ a < x + 71 + 32) h h1) (E : EL h x B C tx si nm ar wr fl du cu es br tm) (ho : kd_ h (x + 103) = 33 ∧ ln_ h (x + 103) = 1) (hs : sc < x ∧ kd_ h sc = 37 ∧ ln_ h sc = n ∧ ∀ i, gI_ h sc i = sg i) : EL h1 x B C tx si nm ar wr fl du cu es br tm ∧ (kd_ h1 (x + 103) = 33 ∧ ln_ h1 (x + 103) = 1) ∧ (sc < x ∧ kd_ h1 sc = 37 ∧ ln_ h1 sc = n ∧ ∀ i, gI_ h1 sc i = sg i) ∧ gJ_ h1 (x + 103) 0 = gJ_ h (x + 103) 0 := by
  obtain ⟨s1, s2, s3, s4⟩ := hs
  exact ⟨EL.fa (n := 0) (w := 0) E f.fa (fun a i z => by omega), ⟨by rw [f.kd]; exact ho.1, by rw [f.ln]; exact ho.2⟩, ⟨s1, by rw [f.kd]; exact s2, by rw [f.ln]; exact s3, fun i => by rw [f.gI (by omega)]; exact s4 i⟩, f.gJ (by omega)⟩
theorem PZ.out {h1 : MH_} (f : Fb (SX x) h h1) : Fb (fun a i => SX x a i ∨ a = x + 103) h h1 := f.mono (fun a i _ z => Or.inl z)
end
