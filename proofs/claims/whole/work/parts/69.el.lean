/-! ===== the class's state ===== -/
/-- an event in a writer's block: site, time, arguments; a writer: its events, the latest time, how many blocks -/
abbrev Pd : Type := Nat × Nat × List Arg
abbrev Wr : Type := List Pd × Nat × Nat
/-- bytes, last numbers, the last time, whether there was none -/
abbrev Pq : Type := List Nat × (Nat → Int32) × Nat × Bool
def pk1 (q : Pq) (p : Pd) : Pq := (q.1 ++ pkE p.1 (if q.2.2.2 = true then 0 else p.2.1 - q.2.2.1) (fun j => q.2.1 (p.1 * 6 + j)) p.2.2, laU q.2.1 p.1 p.2.2, p.2.1, false)
def pkP (l : List Pd) : Pq := l.foldl pk1 ([], fun _ => Int32.ofNat 0, 0, true)
theorem pkP_snoc {l : List Pd} {p : Pd} : pkP (l ++ [p]) = pk1 (pkP l) p := by unfold pkP; rw [List.foldl_append]; rfl
def hdT (l : List Pd) : Nat := match l with | [] => 0 | p :: _ => p.2.1
def XH (h : MH_) (x t1 t2 a1 a2 d : Nat) : Prop := kd_ h x = 12 ∧ (gP_ h x 0 = some t1 ∧ gP_ h x 1 = some t2 ∧ gP_ h x 2 = some a1 ∧ gP_ h x 3 = some a2 ∧ gP_ h x 4 = some d) ∧ (gP_ h x 5 = some (x + 19) ∧ gP_ h x 6 = some (x + 20) ∧ gP_ h x 7 = some (x + 21) ∧ gP_ h x 8 = some (x + 23) ∧ gP_ h x 9 = some (x + 26) ∧ gP_ h x 10 = some (x + 33) ∧ gP_ h x 11 = some (x + 40) ∧ gP_ h x 12 = some (x + 53)) ∧ (kd_ h (x + 20) = 35 ∧ ln_ h (x + 20) = 4 ∧ ∀ w, w < 4 → gP_ h (x + 20) w = some (x + 55 + 4 * w))
def XT (h : MH_) (x t1 t2 : Nat) (tx : List Nat) : Prop := ((t1 = x + 1 ∧ t2 = x + 3) ∨ (t1 = x + 3 ∧ t2 = x + 1)) ∧ Rw h t1 200 tx ∧ ∃ l, Rw h t2 200 l
def XR (h : MH_) (x a1 a2 : Nat) (ar : List Arg) : Prop := ((a1 = x + 5 ∧ a2 = x + 9) ∨ (a1 = x + 9 ∧ a2 = x + 5)) ∧ Ea h a1 ar ∧ Es h a2
def XP (h : MH_) (x : Nat) : Prop := ∃ l, Rw h (x + 21) 120 l
def XF (h : MH_) (x : Nat) (fl : List Nat) (du : Nat) (cu : Bool) : Prop := Fi h (x + 23) ∧ Rw h (x + 23 + 1) 6144 fl ∧ gI_ h (x + 23) 1 = Int32.ofNat du ∧ gI_ h (x + 23) 2 = bz (cu = true) ∧ du ≤ fl.length
def XB (h : MH_) (x : Nat) (wr : Nat → Wr) : Prop := ∀ w, w < 4 → ∃ ft, Bk h (x + 55 + 4 * w) w (wr w).2.2 ft (Int64.ofNat (wr w).2.1) (pkP (wr w).1).1 (pkP (wr w).1).2.1 ∧ ((wr w).1 ≠ [] → ft = Int64.ofNat (hdT (wr w).1))
def XI (h : MH_) (x : Nat) (nm : Nat → List Nat) : Prop := Pr h (x + 33) ∧ Nm h (x + 33 + 1) nm ∧ ∃ l, Rw h (x + 33 + 4) 176 l
def XN (h : MH_) (x nA d : Nat) (fs pl : List Nat) : Prop := (∃ S, Ns h (x + 53) nA S) ∧ (nA = x + 54 ∨ x + 104 ≤ nA) ∧ (∀ e ∈ pl, nA < e ∨ e + 4 ≤ nA) ∧ (∀ f ∈ fs, nA < f ∨ f + 6 ≤ nA) ∧ (nA < d ∨ d + 6 ≤ nA) ∧ nA < nx_ h
def XL (h : MH_) (x sA d : Nat) (fs : List Nat) (si : List (List Tok)) (pl : List Nat) (pr sr : Nat) (es : List Ev) (br B C : Nat) : Prop :=
  ((LH h (x + 26) ∧ UH h (x + 26 + 3)) ∧ (Al h (x + 26 + 1) pr pl ∧ Al h (x + 26 + 2) sr (soO pl (odA es)) ∧ Al h (x + 19) sA fs) ∧ Ss h fs si ∧ ((∀ e ∈ pl, Es h e) ∧ pl.Nodup) ∧ (Fs h d ∧ ∃ sp, Rw h (d + 1) 80 sp)) ∧
  ((x + 104 ≤ nx_ h ∧ sA < nx_ h ∧ pr < nx_ h ∧ sr < nx_ h) ∧ (∀ e ∈ pl, x + 104 ≤ e ∧ e + 4 ≤ nx_ h) ∧ (∀ f ∈ fs, (f = x + 13 ∨ x + 104 ≤ f) ∧ f + 6 ≤ nx_ h) ∧ ((d = x + 13 ∨ x + 104 ≤ d) ∧ d + 6 ≤ nx_ h ∧ ∀ f ∈ fs, f + 6 ≤ d ∨ d + 6 ≤ f) ∧ (((pr < x ∧ kd_ h pr = 38) ∨ x + 104 ≤ pr) ∧ ((sr < x ∧ kd_ h sr = 38) ∨ x + 104 ≤ sr) ∧ ((sA < x ∧ kd_ h sA = 38) ∨ x + 104 ≤ sA))) ∧
  ((pr = sr → kd_ h pr = 38) ∧ (pr = sA → kd_ h pr = 38) ∧ (sr = sA → kd_ h sr = 38)) ∧
  Pv h pl es ∧ (gI_ h (x + 26) 3 = Int32.ofNat es.length ∧ gI_ h (x + 26) 4 = Int32.ofNat br) ∧ Rt h B C pl pr sr ∧ ln_ h sA ≤ 100
section
variable {h h' : MH_} {x t1 t2 a1 a2 d sA pr sr nA br B C : Nat} {fs pl : List Nat} {si : List (List Tok)} {es : List Ev} {T : Nat → Nat → Prop} {tx : List Nat} {ar : List Arg} {fl : List Nat} {du : Nat} {cu : Bool} {wr : Nat → Wr} {nm : Nat → List Nat} {tm : List Tm}
theorem XH.fb (X : XH h x t1 t2 a1 a2 d) (f : Fb T h h') (hx : x + 104 ≤ nx_ h) (hT : ∀ a i, a = x ∨ a = x + 20 → ¬ T a i) : XH h' x t1 t2 a1 a2 d := by
  have g0 : Ag x 1 h h' := f.ag (by omega) (fun a i z w => hT a i (by omega))
  have g1 : Ag (x + 20) 1 h h' := f.ag (by omega) (fun a i z w => hT a i (by omega))
  have gp : ∀ i, gP_ h' x i = gP_ h x i := fun i => g0.gP x i (by omega) (by omega)
  have gq : ∀ i, gP_ h' (x + 20) i = gP_ h (x + 20) i := fun i => g1.gP (x + 20) i (by omega) (by omega)
  unfold XH
  simp only [gp, gq, g0.kd x (by omega) (by omega), g1.kd (x + 20) (by omega) (by omega), g1.ln (x + 20) (by omega) (by omega)]
  exact X
theorem XT.fb (X : XT h x t1 t2 tx) (f : Fb T h h') (hx : x + 104 ≤ nx_ h) (hT : ∀ a i, x + 1 ≤ a ∧ a < x + 5 → ¬ T a i) : XT h' x t1 t2 tx := by
  obtain ⟨z, r1, l, r2⟩ := X
  exact ⟨z, r1.ag (f.ag (by omega) (fun a i z w => hT a i (by omega))), l, r2.ag (f.ag (by omega) (fun a i z w => hT a i (by omega)))⟩
theorem XR.fb (X : XR h x a1 a2 ar) (f : Fb T h h') (hx : x + 104 ≤ nx_ h) (hT : ∀ a i, x + 5 ≤ a ∧ a < x + 13 → ¬ T a i) : XR h' x a1 a2 ar := by
  obtain ⟨z, r1, r2⟩ := X
  exact ⟨z, r1.ag (f.ag (by omega) (fun a i z w => hT a i (by omega))), r2.ag (f.ag (by omega) (fun a i z w => hT a i (by omega)))⟩
theorem XP.fb (X : XP h x) (f : Fb T h h') (hx : x + 104 ≤ nx_ h) (hT : ∀ a i, x + 21 ≤ a ∧ a < x + 23 → ¬ T a i) : XP h' x := by
  obtain ⟨l, r⟩ := X
  exact ⟨l, r.ag (f.ag (by omega) (fun a i z w => hT a i (by omega)))⟩
theorem XF.fb (X : XF h x fl du cu) (f : Fb T h h') (hx : x + 104 ≤ nx_ h) (hT : ∀ a i, x + 23 ≤ a ∧ a < x + 26 → ¬ T a i) : XF h' x fl du cu := by
  obtain ⟨r1, r2, r3, r4, r5⟩ := X
  have g : Ag (x + 23) 3 h h' := f.ag (by omega) (fun a i z w => hT a i (by omega))
  exact ⟨r1.ag g, r2.ag (g.sub (by omega) (by omega)), by rw [g.gI _ _ (by omega) (by omega), r3], by rw [g.gI _ _ (by omega) (by omega), r4], r5⟩
theorem XB.fb (X : XB h x wr) (f : Fb T h h') (hx : x + 104 ≤ nx_ h) (hT : ∀ a i, x + 55 ≤ a ∧ a < x + 71 → ¬ T a i) : XB h' x wr := by
  intro w hw
  obtain ⟨ft, b, e⟩ := X w hw
  exact ⟨ft, b.ag (f.ag (by omega) (fun a i z w => hT a i (by omega))), e⟩
theorem XI.fb (X : XI h x nm) (f : Fb T h h') (hx : x + 104 ≤ nx_ h) (hT : ∀ a i, x + 33 ≤ a ∧ a < x + 40 → ¬ T a i) : XI h' x nm := by
  obtain ⟨r1, r2, l, r3⟩ := X
  have g : Ag (x + 33) 7 h h' := f.ag (by omega) (fun a i z w => hT a i (by omega))
  exact ⟨r1.ag g, r2.ag (g.sub (by omega) (by omega)), l, r3.ag (g.sub (by omega) (by omega))⟩
theorem Qr.fb (X : Qr h (x + 40) tm) (f : Fb T h h') (hx : x + 104 ≤ nx_ h) (hT : ∀ a i, x + 40 ≤ a ∧ a < x + 53 → ¬ T a i) : Qr h' (x + 40) tm :=
  X.ag (f.ag (by omega) (fun a i z w => hT a i (by omega)))
theorem Ns.ag {S : List Int32} {ns nA : Nat} (X : Ns h ns nA S) (g : Ag ns 1 h h') (g2 : Ag nA 1 h h') : Ns h' ns nA S := by
  obtain ⟨⟨b1, b2, b3, b4⟩, ⟨b5, b6⟩, b7, b8⟩ := X
  exact ⟨⟨by rw [g.kd ns (by omega) (by omega), b1], by rw [g.gP ns _ (by omega) (by omega), b2], by rw [g2.kd nA (by omega) (by omega), b3], by rw [g.gI ns _ (by omega) (by omega), b4]⟩, ⟨by rw [g2.ln nA (by omega) (by omega)]; exact b5, by rw [g2.ln nA (by omega) (by omega)]; exact b6⟩, fun i hi => by rw [g2.gI nA _ (by omega) (by omega), b7 i hi], b8⟩
theorem XN.fb (X : XN h x nA d fs pl) (f : Fb T h h') (hx : x + 104 ≤ nx_ h) (hT : ∀ a i, (a = x + 53 ∨ a = nA) → ¬ T a i) : XN h' x nA d fs pl := by
  obtain ⟨⟨S, r⟩, c1, c2, c3, c4, c5⟩ := X
  exact ⟨⟨S, r.ag (f.ag (by omega) (fun a i z w => hT a i (by omega))) (f.ag (by omega) (fun a i z w => hT a i (by omega)))⟩, c1, c2, c3, c4, by have := f.1; omega⟩
theorem XN.fb' (X : XN h x nA d fs pl) (f : Fb T h h') (hx : x + 104 ≤ nx_ h) (hT : ∀ a i, (a = x + 53 ∨ a = x + 54 ∨ x + 104 ≤ a) → ¬ T a i) : XN h' x nA d fs pl :=
  X.fb f hx (fun a i z => hT a i (by have := X.2.1; omega))
theorem Rt.fa {n w : Nat} (r : Rt h (B + n) (C + w) pl pr sr) (f : Fa T n w h h') (h1 : pr < nx_ h) (h2 : sr < nx_ h) : Rt h' B C pl pr sr := by
  obtain ⟨f1, f2, f3, f4, f5, f6, f7, f8⟩ := f
  obtain ⟨⟨m1, m2, m3⟩, m4⟩ := r
  unfold Rt Rm
  rw [f3 pr h1, f3 sr h2]
  exact ⟨⟨by omega, by omega, m3⟩, m4⟩
theorem XL.fa {n w : Nat} (X : XL h x sA d fs si pl pr sr es br (B + n) (C + w)) (f : Fa T n w h h') (hT : ∀ a i, (x + 13 ≤ a ∧ a < x + 20) ∨ (x + 26 ≤ a ∧ a < x + 31) ∨ a < x ∨ x + 104 ≤ a → ¬ T a i) : XL h' x sA d fs si pl pr sr es br B C := by
  obtain ⟨⟨⟨⟨k1, k2, k3, k4⟩, u1, u2, u3, u4⟩, ⟨p1, p2, p3⟩, r2, ⟨e1, e2⟩, ⟨v1, sp, v2⟩⟩, ⟨⟨n1, n2, n3, n4⟩, b1, b2, ⟨b3, b4, b5⟩, ⟨b6, b7, b8⟩⟩, ⟨d1, d2, d3⟩, P, ⟨q1, q2⟩, rt, q3⟩ := X
  have F := f.fb
  have nx := F.1
  have em := F.2.2.1.1
  have ag : ∀ lo n, lo + n ≤ nx_ h → (∀ a, lo ≤ a → a < lo + n → (x + 13 ≤ a ∧ a < x + 20) ∨ (x + 26 ≤ a ∧ a < x + 31) ∨ a < x ∨ x + 104 ≤ a) → Ag lo n h h' := fun lo n h1 h2 => F.ag h1 (fun a i z w => hT a i (h2 a z w))
  have gl := ag (x + 26) 5 (by omega) (by omega)
  have kd : ∀ a, a < nx_ h → kd_ h' a = kd_ h a := fun a ha => (F.2.1 a ha).1
  refine ⟨⟨⟨⟨by rw [gl.kd _ (by omega) (by omega), k1], by rw [gl.gP _ _ (by omega) (by omega), k2], by rw [gl.gP _ _ (by omega) (by omega), k3], by rw [gl.gP _ _ (by omega) (by omega), k4]⟩, ⟨by rw [gl.kd _ (by omega) (by omega), u1], by rw [gl.gP _ _ (by omega) (by omega), u2], by rw [gl.kd _ (by omega) (by omega), u3], by rw [gl.ln _ (by omega) (by omega), u4]⟩⟩, ⟨p1.ag em (gl.sub (by omega) (by omega)) (ag pr 1 (by omega) (by omega)), p2.ag em (gl.sub (by omega) (by omega)) (ag sr 1 (by omega) (by omega)), p3.ag em (ag (x + 19) 1 (by omega) (by omega)) (ag sA 1 (by omega) (by omega))⟩, ⟨r2.1, r2.2.1, fun i g ts hg hts => ?_⟩, ⟨fun e he => ?_, e2⟩, ⟨v1.ag (ag d 6 (by omega) (by omega)), sp, v2.ag (ag (d + 1) 2 (by omega) (by omega))⟩⟩, ⟨⟨by omega, by omega, by omega, by omega⟩, fun e he => ⟨(b1 e he).1, by have := (b1 e he).2; omega⟩, fun f hf => ⟨(b2 f hf).1, by have := (b2 f hf).2; omega⟩, ⟨b3, by omega, b5⟩, ⟨by rw [kd pr n3]; exact b6, by rw [kd sr n4]; exact b7, by rw [kd sA n2]; exact b8⟩⟩, ⟨by rw [kd pr n3]; exact d1, by rw [kd pr n3]; exact d2, by rw [kd sr n4]; exact d3⟩, ?_, ⟨by rw [gl.gI _ _ (by omega) (by omega), q1], by rw [gl.gI _ _ (by omega) (by omega), q2]⟩, rt.fa f n3 n4, by rw [(F.2.1 sA n2).2]; exact q3⟩
  · obtain ⟨fo, ok⟩ := r2.2.2 i g ts hg hts
    have := b2 g (List.mem_of_getElem? hg)
    exact ⟨fo.ag (ag g 6 (by omega) (by omega)), ok⟩
  · have := b1 e he
    exact (e1 e he).ag (ag e 4 (by omega) (by omega))
  · exact P.step F (fun e he => (b1 e he).2) (fun i e hi he a j z w => hT a j (by have := b1 e (List.mem_of_getElem? he); omega))
end
def EL (h : MH_) (x B C : Nat) (tx : List Nat) (si : List (List Tok)) (nm : Nat → List Nat) (ar : List Arg) (wr : Nat → Wr) (fl : List Nat) (du : Nat) (cu : Bool) (es : List Ev) (br : Nat) (tm : List Tm) : Prop := ∃ t1 t2 a1 a2 d sA fs pl pr sr nA,
  XH h x t1 t2 a1 a2 d ∧ XT h x t1 t2 tx ∧ XR h x a1 a2 ar ∧ XP h x ∧ XF h x fl du cu ∧ XB h x wr ∧ XI h x nm ∧ Qr h (x + 40) tm ∧ XN h x nA d fs pl ∧ XL h x sA d fs si pl pr sr es br B C
