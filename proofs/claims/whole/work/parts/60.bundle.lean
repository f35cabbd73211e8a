/-! ===== what stays while the file is read ===== -/
abbrev Ev : Type := Nat × Nat × Nat × List Arg
def Pv (h : MH_) (pl : List Nat) (es : List Ev) : Prop := es.length ≤ pl.length ∧ ∀ (i e : Nat) (x : Ev), pl[i]? = some e → es[i]? = some x → Ea h e x.2.2.2 ∧ Ew h e x.1 x.2.1 (Int64.ofNat x.2.2.1)
theorem Es.cell {h : MH_} {e a : Nat} (he : Es h e) (h1 : e ≤ a) (h2 : a < e + 4) : kd_ h a = 2 ∨ kd_ h a = 32 ∨ (kd_ h a = 30 ∧ ln_ h a = 6) ∨ (kd_ h a = 31 ∧ ln_ h a = 96) := by
  obtain ⟨s1, s2, s3, s4, s5, s6, s7, s8, s9, s10⟩ := he
  rcases (show a = e ∨ a = e + 1 ∨ a = e + 2 ∨ a = e + 3 by omega) with rfl | rfl | rfl | rfl
  · exact Or.inl s1
  · exact Or.inr (Or.inl s5)
  · exact Or.inr (Or.inr (Or.inl ⟨s7, s8⟩))
  · exact Or.inr (Or.inr (Or.inr ⟨s9, s10⟩))
theorem Fo.cell {h : MH_} {f a : Nat} {ts : List Tok} (hf : Fo h f ts) (h1 : f ≤ a) (h2 : a < f + 6) : kd_ h a = 3 ∨ kd_ h a = 10 ∨ (kd_ h a = 30 ∧ ln_ h a ≤ 80) ∨ (kd_ h a = 31 ∧ ln_ h a = 80) := by
  obtain ⟨s1, s2, s3, s4, s5, s6, s7, s8, s9, s10, s11⟩ := hf.1
  obtain ⟨r1, r2, r3, r4, r5⟩ := hf.2.2
  rcases (show a = f ∨ a = f + 1 ∨ a = f + 1 + 1 ∨ a = f + 3 ∨ a = f + 4 ∨ a = f + 5 by omega) with rfl | rfl | rfl | rfl | rfl | rfl
  · exact Or.inl s1
  · exact Or.inr (Or.inl r1)
  · exact Or.inr (Or.inr (Or.inr ⟨r3, r4⟩))
  · exact Or.inr (Or.inr (Or.inl ⟨s6, by omega⟩))
  · exact Or.inr (Or.inr (Or.inl ⟨s8, by omega⟩))
  · exact Or.inr (Or.inr (Or.inl ⟨s10, by omega⟩))
theorem Es.es {h : MH_} {e f : Nat} (he : Es h e) (hf : Es h f) : e = f ∨ e + 4 ≤ f ∨ f + 4 ≤ e := by
  by_cases h1 : e = f
  · exact Or.inl h1
  · right
    rcases Nat.lt_or_ge f e with z | z
    · rcases Nat.lt_or_ge e (f + 4) with y | y
      · have c := hf.cell (a := e) (by omega) y
        have k := he.1
        obtain ⟨s1, s2, s3, s4, s5, s6, s7, s8, s9, s10⟩ := hf
        rcases (show e = f + 1 ∨ e = f + 2 ∨ e = f + 3 by omega) with rfl | rfl | rfl <;> omega
      · exact Or.inr y
    · rcases Nat.lt_or_ge f (e + 4) with y | y
      · have k := hf.1
        obtain ⟨s1, s2, s3, s4, s5, s6, s7, s8, s9, s10⟩ := he
        rcases (show f = e + 1 ∨ f = e + 2 ∨ f = e + 3 by omega) with rfl | rfl | rfl <;> omega
      · exact Or.inl y
theorem Es.fo {h : MH_} {e f : Nat} {ts : List Tok} (he : Es h e) (hf : Fo h f ts) : e + 4 ≤ f ∨ f + 6 ≤ e := by
  rcases Nat.lt_or_ge e f with z | z
  · rcases Nat.lt_or_ge f (e + 4) with y | y
    · have c := he.cell (a := f) (by omega) y
      have k := hf.1.1
      omega
    · exact Or.inl y
  · rcases Nat.lt_or_ge e (f + 6) with y | y
    · have c := hf.cell (a := e) z y
      have k := he.1
      omega
    · exact Or.inr y
theorem Es.rw {h : MH_} {e r c : Nat} {l : List Nat} (he : Es h e) (hr : Rw h r c l) : e + 4 ≤ r ∨ r + 2 ≤ e := by
  have k1 := hr.1
  have k2 := hr.2.2.1
  have k3 := he.1
  rcases Nat.lt_or_ge e r with z | z
  · rcases Nat.lt_or_ge r (e + 4) with y | y
    · have c := he.cell (a := r) (by omega) y
      omega
    · exact Or.inl y
  · rcases Nat.lt_or_ge e (r + 2) with y | y
    · rcases (show e = r ∨ e = r + 1 by omega) with rfl | rfl <;> omega
    · exact Or.inr y
def RX (h0 : MH_) (l pr0 sr0 : Nat) (pl0 : List Nat) : Nat → Nat → Prop := fun b _ => (l ≤ b ∧ b < l + 5) ∨ (b = pr0 ∧ kd_ h0 b = 34) ∨ (b = sr0 ∧ kd_ h0 b = 34) ∨ ∃ e ∈ pl0, e ≤ b ∧ b < e + 4
def Bd (h0 h : MH_) (l fr sl sA pr0 sr0 : Nat) (fl fs pl0 : List Nat) (si : List (List Tok)) (pl : List Nat) (pr : Nat) (so : List Nat) (sr : Nat) : Prop :=
  (LH h l ∧ UH h (l + 3)) ∧ (Al h (l + 1) pr pl ∧ Al h (l + 2) sr so ∧ Al h sl sA fs) ∧ (Rw h fr 6144 fl ∧ Ss h fs si) ∧
  ((∀ e ∈ pl, Es h e) ∧ pl.Nodup) ∧ (l + 5 ≤ nx_ h0 ∧ fr + 2 ≤ nx_ h0 ∧ sl < l ∧ sA < nx_ h0 ∧ (∀ f ∈ fs, f + 6 ≤ nx_ h0)) ∧
  (pr < nx_ h ∧ sr < nx_ h ∧ ∀ e ∈ pl, e + 4 ≤ nx_ h) ∧
  ((pr = sr → kd_ h pr = 38) ∧ (pr = sA → kd_ h pr = 38) ∧ (sr = sA → kd_ h sr = 38)) ∧
  ((∀ e ∈ pl, e ∈ pl0 ∨ nx_ h0 ≤ e) ∧ (pr = pr0 ∨ nx_ h0 ≤ pr) ∧ (sr = sr0 ∨ nx_ h0 ≤ sr)) ∧
  (∀ x ∈ so, x ∈ pl) ∧ Fb (RX h0 l pr0 sr0 pl0) h0 h
/-- what a step may change -/
def TX (h : MH_) (l pr sr : Nat) (pl : List Nat) : Nat → Nat → Prop := fun a i => (a = l ∧ 3 ≤ i) ∨ a = l + 1 ∨ a = l + 2 ∨ (a = l + 3 ∧ 1 ≤ i) ∨ a = l + 4 ∨ (a = pr ∧ kd_ h pr = 34) ∨ (a = sr ∧ kd_ h sr = 34) ∨ ∃ e ∈ pl, e ≤ a ∧ a < e + 4
section
variable {h0 h h' : MH_} {l fr sl sA pr0 sr0 pr sr : Nat} {fl fs pl0 pl so : List Nat} {si : List (List Tok)} {T : Nat → Nat → Prop}
theorem Ss.mem {h : MH_} {fs : List Nat} {si : List (List Tok)} (hs : Ss h fs si) {f : Nat} (hf : f ∈ fs) : ∃ ts, Fo h f ts ∧ okS ts := by
  obtain ⟨i, hi, rfl⟩ := List.getElem_of_mem hf
  exact ⟨_, hs.2.2 i fs[i] (si[i]'(by rw [← hs.1]; exact hi)) (List.getElem?_eq_getElem hi) (List.getElem?_eq_getElem _)⟩
theorem Bd.stat (b : Bd h0 h l fr sl sA pr0 sr0 fl fs pl0 si pl pr so sr) (f : Fb T h h') (hT : ∀ a i, T a i → TX h l pr sr pl a i) : LH h' l ∧ UH h' (l + 3) ∧ Al h' sl sA fs ∧ Rw h' fr 6144 fl ∧ Ss h' fs si ∧ Fb (RX h0 l pr0 sr0 pl0) h0 h' := by
  obtain ⟨⟨⟨k1, k2, k3, k4⟩, u1, u2, u3, u4⟩, ⟨p1, p2, p3⟩, ⟨r1, r2⟩, ⟨e1, e2⟩, ⟨b1, b2, b3, b4, b5⟩, ⟨c1, c2, c3⟩, ⟨d1, d2, d3⟩, ⟨g1, g2, g3⟩, q1, q2⟩ := b
  have n0 := q2.1
  have u3' : kd_ h (l + 4) = 30 := u3
  have u4' : ln_ h (l + 4) = 240 := u4
  have j1 := p1.1
  have j2 := p2.1
  have j3 := p3.1
  have ksl : kd_ h sl = 14 := p3.1
  have kA := p3.kd
  have kr := r1.1
  have kr2 := r1.2.2.1
  have lr2 := r1.2.2.2.1
  have gP : ∀ a i, a < nx_ h → ¬ T a i → gP_ h' a i = gP_ h a i := fun a i z w => (f.2.2.2 a i z w).2.2
  refine ⟨⟨by rw [(f.2.1 l (by omega)).1, k1], ?_, ?_, ?_⟩, ⟨by rw [(f.2.1 _ (by omega)).1, u1], ?_, by rw [(f.2.1 _ (by omega)).1, u3], by rw [(f.2.1 _ (by omega)).2, u4]⟩, ?_, ?_, ?_, ?_⟩
  · rw [gP l 0 (by omega) (fun z => ?_), k2]
    rcases hT _ _ z with z | z | z | z | z | ⟨z, y⟩ | ⟨z, y⟩ | ⟨e, he, y1, y2⟩
    all_goals try omega
    · subst z; omega
    · subst z; omega
    · have := (e1 e he).cell y1 y2; omega
  · rw [gP l 1 (by omega) (fun z => ?_), k3]
    rcases hT _ _ z with z | z | z | z | z | ⟨z, y⟩ | ⟨z, y⟩ | ⟨e, he, y1, y2⟩
    all_goals try omega
    · subst z; omega
    · subst z; omega
    · have := (e1 e he).cell y1 y2; omega
  · rw [gP l 2 (by omega) (fun z => ?_), k4]
    rcases hT _ _ z with z | z | z | z | z | ⟨z, y⟩ | ⟨z, y⟩ | ⟨e, he, y1, y2⟩
    all_goals try omega
    · subst z; omega
    · subst z; omega
    · have := (e1 e he).cell y1 y2; omega
  · rw [gP (l + 3) 0 (by omega) (fun z => ?_), u2]
    rcases hT _ _ z with z | z | z | z | z | ⟨z, y⟩ | ⟨z, y⟩ | ⟨e, he, y1, y2⟩
    all_goals try omega
    · rw [z] at u1; omega
    · rw [z] at u1; omega
    · have := (e1 e he).cell y1 y2; omega
  · refine p3.ag f.2.2.1.1 (f.ag (by omega) ?_) (f.ag (by omega) ?_)
    · intro a i h1 h2 z
      have ea : a = sl := by omega
      subst ea
      rcases hT _ _ z with z | z | z | z | z | ⟨z, y⟩ | ⟨z, y⟩ | ⟨e, he, y1, y2⟩
      all_goals try omega
      · rw [z] at ksl; omega
      · rw [z] at ksl; omega
      · have := (e1 e he).cell y1 y2; omega
    · intro a i h1 h2 z
      have ea : a = sA := by omega
      subst ea
      rcases hT _ _ z with z | z | z | z | z | ⟨z, y⟩ | ⟨z, y⟩ | ⟨e, he, y1, y2⟩
      · rw [z.1] at kA; omega
      · rw [z] at kA; omega
      · rw [z] at kA; omega
      · rw [z.1] at kA; omega
      · rw [z] at kA; omega
      · have := d2 z.symm; omega
      · have := d3 z.symm; omega
      · have := (e1 e he).cell y1 y2; omega
  · refine r1.ag (f.ag (by omega) ?_)
    intro a i h1 h2 z
    have ka : kd_ h a = 10 ∨ (kd_ h a = 31 ∧ ln_ h a = 6144) := by
      rcases (show a = fr ∨ a = fr + 1 by omega) with rfl | rfl
      · exact Or.inl kr
      · exact Or.inr ⟨kr2, lr2⟩
    rcases hT _ _ z with z | z | z | z | z | ⟨z, y⟩ | ⟨z, y⟩ | ⟨e, he, y1, y2⟩
    · rw [z.1] at ka; omega
    · rw [z] at ka; omega
    · rw [z] at ka; omega
    · rw [z.1] at ka; omega
    · rw [z] at ka; omega
    · rw [z] at ka; omega
    · rw [z] at ka; omega
    · have := (e1 e he).cell y1 y2; omega
  · refine ⟨r2.1, r2.2.1, fun i g ts hg hts => ?_⟩
    obtain ⟨fo, ok⟩ := r2.2.2 i g ts hg hts
    refine ⟨fo.ag (f.ag (by have := b5 g (List.mem_of_getElem? hg); omega) ?_), ok⟩
    intro a i h1 h2 z
    have ka := fo.cell h1 h2
    rcases hT _ _ z with z | z | z | z | z | ⟨z, y⟩ | ⟨z, y⟩ | ⟨e, he, y1, y2⟩
    · rw [z.1] at ka; omega
    · rw [z] at ka; omega
    · rw [z] at ka; omega
    · rw [z.1] at ka; omega
    · rw [z] at ka; omega
    · rw [z] at ka; omega
    · rw [z] at ka; omega
    · have := (e1 e he).fo fo; omega
  · refine q2.trans f (fun a i ha z => ?_)
    rcases hT _ _ z with z | z | z | z | z | ⟨z, y⟩ | ⟨z, y⟩ | ⟨e, he, y1, y2⟩
    · exact Or.inl (by omega)
    · exact Or.inl (by omega)
    · exact Or.inl (by omega)
    · exact Or.inl (by omega)
    · exact Or.inl (by omega)
    · exact Or.inr (Or.inl ⟨by omega, by rw [← (q2.2.1 a ha).1, z]; exact y⟩)
    · exact Or.inr (Or.inr (Or.inl ⟨by omega, by rw [← (q2.2.1 a ha).1, z]; exact y⟩))
    · rcases g1 e he with w | w
      · exact Or.inr (Or.inr (Or.inr ⟨e, w, y1, y2⟩))
      · omega
/-- a step without new cells that leaves both lists -/
theorem Bd.fy (b : Bd h0 h l fr sl sA pr0 sr0 fl fs pl0 si pl pr so sr) (f : Fy T h h') (hT : ∀ a i, T a i → (a = l ∧ 3 ≤ i) ∨ (a = l + 3 ∧ 1 ≤ i) ∨ a = l + 4 ∨ ∃ e ∈ pl, (e = a ∧ 3 ≤ i) ∨ (e < a ∧ a < e + 4)) : Bd h0 h' l fr sl sA pr0 sr0 fl fs pl0 si pl pr so sr := by
  obtain ⟨x1, x2, x3, x4, x5, x6⟩ := b.stat f.fb (fun a i z => by
    rcases hT a i z with z | z | z | ⟨e, he, z⟩
    · exact Or.inl z
    · exact Or.inr (Or.inr (Or.inr (Or.inl z)))
    · exact Or.inr (Or.inr (Or.inr (Or.inr (Or.inl z))))
    · exact Or.inr (Or.inr (Or.inr (Or.inr (Or.inr (Or.inr (Or.inr ⟨e, he, by omega⟩)))))))
  obtain ⟨⟨⟨k1, k2, k3, k4⟩, u1, u2, u3, u4⟩, ⟨p1, p2, p3⟩, ⟨r1, r2⟩, ⟨e1, e2⟩, ⟨b1, b2, b3, b4, b5⟩, ⟨c1, c2, c3⟩, ⟨d1, d2, d3⟩, ⟨g1, g2, g3⟩, q1, q2⟩ := b
  have n0 := q2.1
  have u3' : kd_ h (l + 4) = 30 := u3
  have u4' : ln_ h (l + 4) = 240 := u4
  have j1 := p1.1
  have j2 := p2.1
  have kp := p1.kd
  have ks := p2.kd
  have nl : ∀ a, kd_ h a = 14 ∨ kd_ h a = 34 ∨ kd_ h a = 38 → ∀ i, ¬ T a i := by
    intro a ka i z
    rcases hT a i z with z | z | z | ⟨e, he, z⟩
    · rw [z.1] at ka; omega
    · rw [z.1] at ka; omega
    · rw [z] at ka; omega
    · have := (e1 e he).cell (a := a) (by omega) (by omega); omega
  have ag1 : ∀ a, kd_ h a = 14 ∨ kd_ h a = 34 ∨ kd_ h a = 38 → Ag a 1 h h' := fun a ka => f.ag (fun b i y z => by rw [show b = a by omega]; exact nl a ka i)
  have em := f.2.2.1.2.2.2.1
  refine ⟨⟨x1, x2⟩, ⟨p1.ag em (ag1 _ (Or.inl j1)) (ag1 _ (Or.inr kp)), p2.ag em (ag1 _ (Or.inl j2)) (ag1 _ (Or.inr ks)), x3⟩, ⟨x4, x5⟩, ⟨fun e he => ?_, e2⟩, ⟨b1, b2, b3, b4, b5⟩, ⟨by rw [f.2.2.1.1]; exact c1, by rw [f.2.2.1.1]; exact c2, fun e he => by rw [f.2.2.1.1]; exact c3 e he⟩, ⟨by rw [f.kd]; exact d1, by rw [f.kd]; exact d2, by rw [f.kd]; exact d3⟩, ⟨g1, g2, g3⟩, q1, x6⟩
  obtain ⟨s1, s2, s3, s4, s5, s6, s7, s8, s9, s10⟩ := e1 e he
  have np : ∀ i, i < 3 → ¬ T e i := by
    intro i hi z
    rcases hT e i z with z | z | z | ⟨e', he', z⟩
    · omega
    · rw [z.1] at s1; omega
    · rw [z] at s1; omega
    · have := (e1 e' he').es (e1 e he)
      omega
  exact ⟨by rw [f.kd, s1], by rw [f.gP (np 0 (by omega)), s2], by rw [f.gP (np 1 (by omega)), s3], by rw [f.gP (np 2 (by omega)), s4], by rw [f.kd, s5], by rw [f.ln, s6], by rw [f.kd, s7], by rw [f.ln, s8], by rw [f.kd, s9], by rw [f.ln, s10]⟩
theorem Pv.step {es : List Ev} (p : Pv h pl es) (f : Fb T h h') (hb : ∀ e ∈ pl, e + 4 ≤ nx_ h) (hT : ∀ i e, i < es.length → pl[i]? = some e → ∀ a j, e ≤ a → a < e + 4 → ¬ T a j) : Pv h' pl es := by
  refine ⟨p.1, fun i e x h1 h2 => ?_⟩
  have hi : i < es.length := by
    rcases Nat.lt_or_ge i es.length with z | z
    · exact z
    · rw [List.getElem?_eq_none z] at h2; cases h2
  have g := f.ag (lo := e) (n := 4) (by have := hb e (List.mem_of_getElem? h1); omega) (fun a j y z => hT i e hi h1 a j y z)
  obtain ⟨q1, q2⟩ := p.2 i e x h1 h2
  exact ⟨q1.ag g, q2.ag g⟩
end
