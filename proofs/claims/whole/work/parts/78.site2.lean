/-! ===== the class: site ===== -/
section
variable {h h' : MH_} {x B C n : Nat} {tx : List Nat} {si : List (List Tok)} {nm : Nat → List Nat} {ar : List Arg} {wr : Nat → Wr} {fl : List Nat} {du : Nat} {cu : Bool} {es : List Ev} {br : Nat} {tm : List Tm}
theorem dr_cell {d a : Nat} {sp : List Nat} (v1 : Fs h d) (v2 : Rw h (d + 1) 80 sp) (h1 : d ≤ a) (h2 : a < d + 6) : kd_ h a = 3 ∨ kd_ h a = 10 ∨ (kd_ h a = 30 ∧ ln_ h a ≤ 80) ∨ (kd_ h a = 31 ∧ ln_ h a = 80) := by
  obtain ⟨s1, s2, s3, s4, s5, s6, s7, s8, s9, s10, s11⟩ := v1
  obtain ⟨r1, r2, r3, r4, r5⟩ := v2
  rcases (show a = d ∨ a = d + 1 ∨ a = d + 1 + 1 ∨ a = d + 3 ∨ a = d + 4 ∨ a = d + 5 by omega) with rfl | rfl | rfl | rfl | rfl | rfl
  · exact Or.inl s1
  · exact Or.inr (Or.inl r1)
  · exact Or.inr (Or.inr (Or.inr ⟨r3, r4⟩))
  · exact Or.inr (Or.inr (Or.inl ⟨s6, by omega⟩))
  · exact Or.inr (Or.inr (Or.inl ⟨s8, by omega⟩))
  · exact Or.inr (Or.inr (Or.inl ⟨s10, by omega⟩))
theorem Es.dr {e d : Nat} {sp : List Nat} (he : Es h e) (v1 : Fs h d) (v2 : Rw h (d + 1) 80 sp) : e + 4 ≤ d ∨ d + 6 ≤ e := by
  rcases Nat.lt_or_ge e d with z | z
  · rcases Nat.lt_or_ge d (e + 4) with y | y
    · have c := he.cell (a := d) (by omega) y
      have k := v1.1
      omega
    · exact Or.inl y
  · rcases Nat.lt_or_ge e (d + 6) with y | y
    · have c := dr_cell v1 v2 z y
      have k := he.1
      omega
    · exact Or.inr y
/-- the draft has changed -/
theorem XL.dr {sA d pr sr : Nat} {fs pl sp' : List Nat} (X : XL h x sA d fs si pl pr sr es br B C) (f : Fz (SA d) h h') (hr : Rw h' (d + 1) 80 sp') : XL h' x sA d fs si pl pr sr es br B C := by
  obtain ⟨⟨⟨⟨k1, k2, k3, k4⟩, u1, u2, u3, u4⟩, ⟨p1, p2, p3⟩, r2, ⟨e1, e2⟩, ⟨v1, sp, v2⟩⟩, ⟨⟨n1, n2, n3, n4⟩, b1, b2, ⟨b3, b4, b5⟩, ⟨b6, b7, b8⟩⟩, ⟨d1, d2, d3⟩, P, ⟨q1, q2⟩, rt, q3⟩ := X
  have sa : ∀ a i, SA d a i → d ≤ a ∧ a < d + 6 := by unfold SA SF SR; intro a i z; omega
  have z : ∀ a i, (x + 19 ≤ a ∧ a < x + 71) → ¬ SA d a i := fun a i y w => by have := sa a i w; omega
  have gl : Ag (x + 26) 5 h h' := f.fy.ag (fun a i y w => z a i (by omega))
  have ka : ∀ a, (kd_ h a = 34 ∨ kd_ h a = 38) → Ag a 1 h h' := fun a k => f.fy.ag (fun b i y w v => by
    have := sa b i v
    have c := dr_cell v1 v2 this.1 this.2
    rw [show b = a by omega] at c
    omega)
  have ge : ∀ e ∈ pl, Ag e 4 h h' := fun e he => f.fy.ag (fun b i y w v => by
    have := sa b i v
    have := (e1 e he).dr v1 v2
    omega)
  refine ⟨⟨⟨⟨by rw [f.kd, k1], by rw [f.gP, k2], by rw [f.gP, k3], by rw [f.gP, k4]⟩, ⟨by rw [f.kd, u1], by rw [f.gP, u2], by rw [f.kd, u3], by rw [f.ln, u4]⟩⟩, ⟨p1.ag f.em (gl.sub (by omega) (by omega)) (ka pr p1.kd), p2.ag f.em (gl.sub (by omega) (by omega)) (ka sr p2.kd), p3.ag f.em (f.fy.ag (fun a i y w => z a i (by omega))) (ka sA p3.kd)⟩, ⟨r2.1, r2.2.1, fun i g ts hg hts => ?_⟩, ⟨fun e he => (e1 e he).fz f, e2⟩, ⟨v1.fz f, sp', hr⟩⟩, ⟨⟨by rw [f.nx]; exact n1, by rw [f.nx]; exact n2, by rw [f.nx]; exact n3, by rw [f.nx]; exact n4⟩, by rw [f.nx]; exact b1, by rw [f.nx]; exact b2, ⟨b3, by rw [f.nx]; exact b4, b5⟩, ⟨by rw [f.kd]; exact b6, by rw [f.kd]; exact b7, by rw [f.kd]; exact b8⟩⟩, ⟨by rw [f.kd]; exact d1, by rw [f.kd]; exact d2, by rw [f.kd]; exact d3⟩, ?_, ⟨by rw [gl.gI _ _ (by omega) (by omega), q1], by rw [gl.gI _ _ (by omega) (by omega), q2]⟩, rt.fy f.fy, by rw [f.ln]; exact q3⟩
  · obtain ⟨fo, ok⟩ := r2.2.2 i g ts hg hts
    refine ⟨fo.fz f (fun a i y w => ?_), ok⟩
    have h1 := sa a i w
    have h2 : g ≤ a ∧ a < g + 6 := by unfold SA SF SR at y; omega
    have := b5 g (List.mem_of_getElem? hg)
    omega
  · exact P.step f.fb (fun e he => (b1 e he).2) (fun i e hi he a j y w v => by
      have := sa a j v
      have := (e1 e (List.mem_of_getElem? he)).dr v1 v2
      omega)
def fdS (tx : List Nat) : List (List Tok) → Nat → Option Nat
  | [], _ => none
  | ts :: r, k => if spell ts = tx then some k else fdS tx r (k + 1)
def PS (h : MH_) (x B C : Nat) (tx : List Nat) (si : List (List Tok)) (nm : Nat → List Nat) (ar : List Arg) (wr : Nat → Wr) (fl : List Nat) (du : Nat) (cu : Bool) (es : List Ev) (br : Nat) (tm : List Tm) : Rs_ → MH_ → Prop :=
  match fm tx 0 0 with
  | .inl q => PZ h x B C (.inl (.int (-(Int32.ofNat q) - Int32.ofNat 1))) [] si nm ar wr fl du cu es br tm
  | .inr ts => match fdS tx si 0 with
    | some k => PZ h x B C (.inl (.int (Int32.ofNat k))) [] si nm ar wr fl du cu es br tm
    | none => if si.length = 40 then PZ h x B C (.inr 20) [] si nm ar wr fl du cu es br tm else PZ h x B C (.inl (.int (Int32.ofNat si.length))) [] (si ++ [ts]) nm ar wr fl du cu es br tm
theorem tcons_l {t : Tok} {res : Nat ⊕ List Tok} {q : Nat} (h : tcons t res = .inl q) : res = .inl q := by
  cases res with
  | inl p => exact h
  | inr us => cases h
theorem fm_lt : ∀ N r, r.length ≤ N → ∀ p n q, fm r p n = .inl q → q ≤ p + r.length := by
  intro N
  induction N with
  | zero =>
    intro r hr p n q h
    have : r = [] := List.length_eq_zero_iff.mp (by omega)
    subst this
    unfold fm at h
    cases h
  | succ N ih =>
    intro r hr p n q h
    cases r with
    | nil => unfold fm at h; cases h
    | cons b r =>
      rw [List.length_cons] at hr ⊢
      unfold fm at h
      split at h
      · have := Sum.inl.inj h; omega
      · split at h
        · cases r with
          | nil => have := Sum.inl.inj h; omega
          | cons c r' =>
            simp only at h
            rw [List.length_cons] at hr ⊢
            split at h
            · have := ih r' (by omega) _ _ _ (tcons_l h); omega
            · have := Sum.inl.inj h; omega
        · split at h
          · have := ih r (by omega) _ _ _ (tcons_l h); omega
          · cases r with
            | nil =>
              simp only at h
              split at h
              · have := Sum.inl.inj h; omega
              · have := Sum.inl.inj h; rw [List.length_nil]; omega
            | cons c r' =>
              simp only at h
              rw [List.length_cons] at hr ⊢
              split at h
              · split at h
                · have := ih r' (by omega) _ _ _ (tcons_l h); omega
                · have := Sum.inl.inj h; omega
              · split at h
                · have := Sum.inl.inj h; omega
                · split at h
                  · have := Sum.inl.inj h; omega
                  · split at h
                    · cases r' with
                      | nil => have := Sum.inl.inj h; rw [List.length_nil]; omega
                      | cons d r'' =>
                        simp only at h
                        rw [List.length_cons] at hr ⊢
                        split at h
                        · cases r'' with
                          | nil => have := Sum.inl.inj h; rw [List.length_nil]; omega
                          | cons e r3 =>
                            simp only at h
                            rw [List.length_cons] at hr ⊢
                            split at h
                            · have := ih r3 (by omega) _ _ _ (tcons_l h); omega
                            · have := Sum.inl.inj h; omega
                        · have := Sum.inl.inj h; omega
                    · split at h
                      · cases r' with
                        | nil => have := Sum.inl.inj h; rw [List.length_nil]; omega
                        | cons e r'' =>
                          simp only at h
                          rw [List.length_cons] at hr ⊢
                          split at h
                          · have := ih r'' (by omega) _ _ _ (tcons_l h); omega
                          · have := Sum.inl.inj h; omega
                      · have := Sum.inl.inj h; omega
/-- a new site -/
theorem site_new {t : Nat} {ts : List Tok} {y1 : Value} {d sA pr sr nA t1 t2 a1 a2 : Nat} {fs pl : List Nat} (hx : x + 104 ≤ nx_ h) (H : XH h x t1 t2 a1 a2 d) (Tt : XT h x t1 t2 []) (R : XR h x a1 a2 ar) (P : XP h x) (F : XF h x fl du cu) (Bq : XB h x wr) (I : XI h x nm) (Qq : Qr h (x + 40) tm) (N : XN h x nA d fs pl) (L : XL h x sA d fs si pl pr sr es br (B + 20) (C + 20000)) (hfo : Fo h d ts) (hok : okS ts) (h40 : si.length < 40) {i1 i2 : Int32} :
    Wp 134 82 [.ref x, .ref t, .int i1, .int i2] [] h (PZ h x B C (.inl (.int (Int32.ofNat si.length))) [] (si ++ [ts]) nm ar wr fl du cu es br tm) := by
  have H' := H
  obtain ⟨k1, ⟨g0, g1, g2, g3, g4⟩, ⟨g5, g6, g7, g8, g9, g10, g11, g12⟩, ⟨g13, g14, g15⟩⟩ := H
  obtain ⟨⟨⟨⟨l1, l2, l3, l4⟩, u1, u2, u3, u4⟩, ⟨p1, p2, p3⟩, r2, ⟨e1, e2⟩, ⟨v1, sp, v2⟩⟩, ⟨⟨n1, n2, n3, n4⟩, b1, b2, ⟨b3, b4, b5⟩, ⟨b6, b7, b8⟩⟩, ⟨d1, d2, d3⟩, Pq, ⟨q1, q2⟩, rt, q3⟩ := L
  obtain ⟨⟨m1, m2, m3⟩, m4⟩ := rt
  have kdd := hfo.1.1
  have hfl : fs.length = si.length := r2.1
  have gr : grw (ln_ h sA) ≤ 150 := by unfold grw; split <;> omega
  simp (disch := omega) only [U134_82, U134_83, U134_86, U134_87, U134_90, k1, g4, g5, p3.1, i_add, i_mul, i_sub, i_addn, i_lt, i_eq, i_idx, i_vp, true_and, and_true, false_and, and_false, if_true, if_false, Nat.reduceAdd, Nat.reduceMul, Nat.reduceSub, Nat.reduceEqDiff, Option.some.injEq, exists_eq_left', true_or, or_true, false_or, or_false, not_true_eq_false, not_false_eq_true, eq_self, and_self, Nat.reduceLeDiff, decide_true, decide_false, ne_eq, Nat.left_eq_add, Nat.add_eq_left, Nat.add_left_cancel_iff, Nat.add_zero]
  refine Wp_use (AL_add p3 (x := d) ⟨by omega, by omega, by omega⟩ (fun f hf => by obtain ⟨ts', fo', -⟩ := r2.mem hf; have := b2 f hf; have := fo'.1.1; omega) (by omega) n2 p3.ne (by omega) (by omega) (by omega)) ?_
  rintro _ h3 ⟨rfl, sA', hl3, hc⟩
  have X : Fa (fun b i => b = x + 19 ∨ (b = sA ∧ kd_ h sA = 34)) 1 200 h h3 ∧ sA' < nx_ h3 ∧ ln_ h3 sA' ≤ 100 ∧ (sA' = sA ∨ nx_ h ≤ sA') := by
    rcases hc with ⟨rfl, x2, x3⟩ | ⟨rfl, x2, x3, x4, x5⟩
    · refine ⟨(x3.fa.mono (T := fun b i => b = x + 19 ∨ (b = sA' ∧ kd_ h sA' = 34)) (fun a i _ z => ?_) (Nat.zero_le _) (Nat.zero_le _)), by rw [x3.2.2.1.1]; exact n2, by rw [x3.2.1]; exact q3, Or.inl rfl⟩
      rcases z with z | z
      · exact Or.inl z.1
      · exact Or.inr ⟨z.1, x2⟩
    · refine ⟨x5.mono (fun a i _ z => Or.inl z) (by omega) (by omega), by omega, ?_, Or.inr (Nat.le_refl _)⟩
      rw [x4]
      unfold grw
      split <;> omega
  clear hc
  obtain ⟨F3, X1, X2, X3⟩ := X
  have nx3 := F3.1
  have rc3 := F3.2.2.2.1
  have rs3 := F3.2.2.2.2.1
  have kx3 : kd_ h3 x = 12 := by rw [F3.2.1 x (by omega), k1]
  simp (disch := omega) only [V211, U134_93, U134_94, U134_95, U134_98, U134_99, show 1 ≤ rc_ h3 by omega, show 7 ≤ rs_ h3 by omega, i_add, i_mul, i_sub, i_addn, i_lt, i_eq, i_idx, i_vp, true_and, and_true, false_and, and_false, if_true, if_false, Nat.reduceAdd, Nat.reduceMul, Nat.reduceSub, Nat.reduceEqDiff, Option.some.injEq, exists_eq_left', true_or, or_true, false_or, or_false, not_true_eq_false, not_false_eq_true, eq_self, and_self, Nat.reduceLeDiff, decide_true, decide_false, ne_eq, Nat.left_eq_add, Nat.add_eq_left, Nat.add_left_cancel_iff, Nat.add_zero]
  have f0 : Fa (fun _ _ => False) 1 7 h3 (nw_ h3 3 0 7) := Fa.nw (by omega) (by omega)
  refine Wp_use (Format_init (h := nw_ h3 3 0 7) (f := nx_ h3) (by rw [z_kd_nw, if_pos rfl]) rfl (by rw [z_rc_nw]; omega) (by rw [z_rs_nw]; omega)) ?_
  rintro _ h4 ⟨rfl, fs4, rw4, n4', f4⟩
  have F4 : Fa (fun _ _ => False) 6 181 h3 h4 := by
    obtain ⟨x1, x2, x3, x4, x5, x6, x7, x8⟩ := f0
    obtain ⟨y1, y2, y3, y4, y5, y6, y7, y8⟩ := f4
    rw [z_nx_nw] at y1 y2 y3 y8
    refine ⟨by omega, fun a ha => (y2 a (by omega)).trans (x2 a ha), fun a ha => (y3 a (by omega)).trans (x3 a ha), by omega, by omega, y6.trans x6, y7.trans x7, fun a i ha hn => ?_⟩
    obtain ⟨u1, u2, u3⟩ := x8 a i ha hn
    obtain ⟨v1, v2, v3⟩ := y8 a i (by omega) (by omega)
    exact ⟨v1.trans u1, v2.trans u2, v3.trans u3⟩
  have kx4 : kd_ h4 x = 12 := by rw [F4.2.1 x (by omega), kx3]
  have f5 : Fy (fun a i => a = x ∧ i = 4) h4 (sP_ h4 x 4 (some (nx_ h3))) := Fy.rfl'.sP ⟨rfl, rfl⟩
  have F35 : Fa (fun a i => a = x ∧ i = 4) 6 181 h3 (sP_ h4 x 4 (some (nx_ h3))) := (F4.mono (T := fun a i => a = x ∧ i = 4) (fun a i _ z => z.elim) (Nat.le_refl _) (Nat.le_refl _)).fy f5 (fun a i _ z => z)
  simp (disch := omega) only [V26, U134_102, U134_105, kx4, i_add, i_mul, i_sub, i_addn, i_lt, i_eq, i_idx, i_vp, true_and, and_true, false_and, and_false, if_true, if_false, Nat.reduceAdd, Nat.reduceMul, Nat.reduceSub, Nat.reduceEqDiff, Option.some.injEq, exists_eq_left', true_or, or_true, false_or, or_false, not_true_eq_false, not_false_eq_true, eq_self, and_self, Nat.reduceLeDiff, decide_true, decide_false, ne_eq, Nat.left_eq_add, Nat.add_eq_left, Nat.add_left_cancel_iff, Nat.add_zero]
  generalize hh5 : sP_ h4 x 4 (some (nx_ h3)) = h5 at f5 F35
  have e54 : gP_ h5 x 4 = some (nx_ h3) := by rw [← hh5, z_gP_sP, if_pos ⟨rfl, rfl⟩]
  have FA : Fa (fun a i => (a = x ∧ i = 4) ∨ a = x + 19 ∨ (a = sA ∧ kd_ h sA = 34)) 20 20000 h h5 := by
    have z1 := F3.mono (T := fun a i => (a = x ∧ i = 4) ∨ a = x + 19 ∨ (a = sA ∧ kd_ h sA = 34)) (fun a i _ z => Or.inr z) (Nat.le_refl _) (Nat.le_refl _)
    obtain ⟨x1, x2, x3, x4, x5, x6, x7, x8⟩ := z1
    obtain ⟨y1, y2, y3, y4, y5, y6, y7, y8⟩ := F35
    refine ⟨by omega, fun a ha => (y2 a (by omega)).trans (x2 a ha), fun a ha => (y3 a (by omega)).trans (x3 a ha), by omega, by omega, y6.trans x6, y7.trans x7, fun a i ha hn => ?_⟩
    obtain ⟨u1, u2, u3⟩ := x8 a i ha hn
    obtain ⟨v1, v2, v3⟩ := y8 a i (by omega) (fun z => hn (Or.inl z))
    exact ⟨v1.trans u1, v2.trans u2, v3.trans u3⟩
  have nx5 : nx_ h5 = nx_ h3 + 6 := by rw [f5.2.2.1.1, n4']
  have g := FA.fb
  have em5 : em_ h5 = em_ h := g.2.2.1.1
  have hl5 : Al h5 (x + 19) sA' (fs ++ [d]) := by
    refine hl3.ag F35.fb.2.2.1.1 (F35.fb.ag (by omega) (by intro a i z w y; omega)) (F35.fb.ag (by omega) ?_)
    intro a i z w y
    have := hl3.kd
    rw [show sA' = x by omega, kx3] at this
    omega
  have kx5 : kd_ h5 x = 12 := by rw [f5.kd, kx4]
  have gx : ∀ i, i ≠ 4 → gP_ h5 x i = gP_ h x i := fun i hi => (g.2.2.2 x i (by omega) (by
    rintro (z | z | ⟨z, w⟩)
    · exact hi z.2
    · omega
    · omega)).2.2
  have lfs : (fs ++ [d]).length = fs.length + 1 := by rw [List.length_append]; rfl
  simp (disch := omega) only [U134_105, U134_106, U134_109, U134_112, U134_113, U134_114, kx5, gx 5 (by omega), g5, hl5.1, AL_size hl5, V219, lfs, Nat.add_sub_cancel, i_add, i_mul, i_sub, i_addn, i_lt, i_eq, i_idx, i_vp, true_and, and_true, false_and, and_false, if_true, if_false, Nat.reduceAdd, Nat.reduceMul, Nat.reduceSub, Nat.reduceEqDiff, Option.some.injEq, exists_eq_left', true_or, or_true, false_or, or_false, not_true_eq_false, not_false_eq_true, eq_self, and_self, Nat.reduceLeDiff, decide_true, decide_false, ne_eq, Nat.left_eq_add, Nat.add_eq_left, Nat.add_left_cancel_iff, Nat.add_zero]
  have N' : ∀ a i, (x + 1 ≤ a ∧ a < x + 19) ∨ (x + 20 ≤ a ∧ a < x + 104) → ¬ ((a = x ∧ i = 4) ∨ a = x + 19 ∨ (a = sA ∧ kd_ h sA = 34)) := by intro a i z w; omega
  have nk : ∀ a i, (kd_ h a ≠ 12 ∧ kd_ h a ≠ 14 ∧ kd_ h a ≠ 34) → ¬ ((a = x ∧ i = 4) ∨ a = x + 19 ∨ (a = sA ∧ kd_ h sA = 34)) := by
    rintro a i hk (z | z | z)
    · rw [z.1] at hk; omega
    · rw [z] at hk; have := p3.1; omega
    · rw [z.1] at hk; omega
  have gl : Ag (x + 26) 5 h h5 := g.ag (by omega) (fun a i z w => N' a i (by omega))
  have kd : ∀ a, a < nx_ h → kd_ h5 a = kd_ h a := fun a ha => (g.2.1 a ha).1
  have gpr : Ag pr 1 h h5 := g.ag (by omega) (by
    rintro a i z w (y | y | y)
    · have := p1.kd; rw [show pr = x by omega] at this; omega
    · have := p1.kd; rw [show pr = x + 19 by omega] at this; have := p3.1; omega
    · have := d2 (by omega); rw [show pr = sA by omega] at this; omega)
  have gsr : Ag sr 1 h h5 := g.ag (by omega) (by
    rintro a i z w (y | y | y)
    · have := p2.kd; rw [show sr = x by omega] at this; omega
    · have := p2.kd; rw [show sr = x + 19 by omega] at this; have := p3.1; omega
    · have := d3 (by omega); rw [show sr = sA by omega] at this; omega)
  have gfo : ∀ f ts', Fo h f ts' → f + 6 ≤ nx_ h → Fo h5 f ts' := fun f ts' fo hf => fo.ag (g.ag hf (fun a i z w => nk a i (by have := fo.cell z w; omega)))
  have ges : ∀ e ∈ pl, Ag e 4 h h5 := fun e he => g.ag (b1 e he).2 (fun a i z w => nk a i (by have := (e1 e he).cell z w; omega))
  obtain ⟨⟨S, ns⟩, c1, c2, c3, c4, c5⟩ := N
  refine ⟨by show _ = _; rw [hfl], FA.fb.mono (fun a i ha z => ?_), t1, t2, a1, a2, nx_ h3, sA', fs ++ [d], pl, pr, sr, nA, ⟨kx5, ⟨by rw [gx 0 (by omega), g0], by rw [gx 1 (by omega), g1], by rw [gx 2 (by omega), g2], by rw [gx 3 (by omega), g3], e54⟩, ⟨by rw [gx 5 (by omega), g5], by rw [gx 6 (by omega), g6], by rw [gx 7 (by omega), g7], by rw [gx 8 (by omega), g8], by rw [gx 9 (by omega), g9], by rw [gx 10 (by omega), g10], by rw [gx 11 (by omega), g11], by rw [gx 12 (by omega), g12]⟩, ⟨by rw [kd _ (by omega), g13], by rw [(g.2.1 _ (by omega)).2, g14], fun w hw => by rw [(g.2.2.2 (x + 20) w (by omega) (N' _ _ (by omega))).2.2]; exact g15 w hw⟩⟩, Tt.fb g hx (fun a i z => N' a i (by omega)), R.fb g hx (fun a i z => N' a i (by omega)), P.fb g hx (fun a i z => N' a i (by omega)), F.fb g hx (fun a i z => N' a i (by omega)), Bq.fb g hx (fun a i z => N' a i (by omega)), I.fb g hx (fun a i z => N' a i (by omega)), Qq.fb g hx (fun a i z => N' a i (by omega)), ⟨⟨S, ns.ag (g.ag (by omega) (fun a i z w => N' a i (by omega))) (g.ag (by omega) (fun a i z w => nk a i (by rw [show a = nA by omega, ns.1.2.2.1]; omega)))⟩, c1, c2, fun f hf => ?_, by omega, by omega⟩, ?_⟩
  · rcases z with z | z | z
    · exact Or.inl (by omega)
    · exact Or.inl (by omega)
    · rcases b8 with w | w
      · omega
      · exact Or.inr (by omega)
  · rcases List.mem_append.mp hf with hf | hf
    · exact c3 f hf
    · rw [List.mem_singleton.mp hf]; exact c4
  · refine ⟨⟨⟨⟨by rw [gl.kd _ (by omega) (by omega), l1], by rw [gl.gP _ _ (by omega) (by omega), l2], by rw [gl.gP _ _ (by omega) (by omega), l3], by rw [gl.gP _ _ (by omega) (by omega), l4]⟩, ⟨by rw [gl.kd _ (by omega) (by omega), u1], by rw [gl.gP _ _ (by omega) (by omega), u2], by rw [gl.kd _ (by omega) (by omega), u3], by rw [gl.ln _ (by omega) (by omega), u4]⟩⟩, ⟨p1.ag em5 (gl.sub (by omega) (by omega)) gpr, p2.ag em5 (gl.sub (by omega) (by omega)) gsr, hl5⟩, ⟨by rw [lfs, List.length_append, hfl]; rfl, by rw [List.length_append, List.length_singleton]; omega, fun i f ts' hf hts => ?_⟩, ⟨fun e he => (e1 e he).ag (ges e he), e2⟩, ⟨?_, [], ?_⟩⟩, ⟨⟨by omega, by omega, by omega, by omega⟩, fun e he => ⟨(b1 e he).1, by have := (b1 e he).2; omega⟩, fun f hf => ?_, ⟨Or.inr (by omega), by omega, fun f hf => ?_⟩, ⟨by rw [kd pr n3]; exact b6, by rw [kd sr n4]; exact b7, ?_⟩⟩, ⟨fun z => by rw [kd pr n3]; exact d1 z, fun z => ?_, fun z => ?_⟩, ?_, ⟨by rw [gl.gI _ _ (by omega) (by omega), q1], by rw [gl.gI _ _ (by omega) (by omega), q2]⟩, Rt.fa ⟨⟨m1, m2, m3⟩, m4⟩ FA n3 n4, ?_⟩
    · by_cases hi : i < fs.length
      · rw [List.getElem?_append_left hi] at hf
        rw [List.getElem?_append_left (by omega)] at hts
        obtain ⟨fo, ok⟩ := r2.2.2 i f ts' hf hts
        exact ⟨gfo f ts' fo (b2 f (List.mem_of_getElem? hf)).2, ok⟩
      · rw [List.getElem?_append_right (by omega)] at hf hts
        have hi0 : i - fs.length = 0 := by
          rcases Nat.lt_or_ge (i - fs.length) 1 with z | z
          · omega
          · rw [List.getElem?_eq_none (by simpa using z)] at hf; cases hf
        rw [hi0] at hf
        rw [show i - si.length = 0 by omega] at hts
        have e1 := Option.some.inj hf
        have e2 := Option.some.inj hts
        subst e1 e2
        exact ⟨gfo d ts hfo b4, hok⟩
    · exact fs4.ag (f5.ag (by intro a i z w y; omega))
    · exact rw4.ag (f5.ag (by intro a i z w y; omega))
    · rcases List.mem_append.mp hf with hf | hf
      · exact ⟨(b2 f hf).1, by have := (b2 f hf).2; omega⟩
      · rw [List.mem_singleton.mp hf]; exact ⟨b3, by omega⟩
    · rcases List.mem_append.mp hf with hf | hf
      · have := (b2 f hf).2; omega
      · rw [List.mem_singleton.mp hf]; omega
    · rcases X3 with rfl | X3
      · rw [kd sA' n2]; exact b8
      · right; omega
    · rcases X3 with rfl | X3
      · rw [kd pr n3]; exact d2 z
      · omega
    · rcases X3 with rfl | X3
      · rw [kd sr n4]; exact d3 z
      · omega
    · exact Pq.step g (fun e he => (b1 e he).2) (fun i e hi he a j z w => nk a j (by have := (e1 e (List.mem_of_getElem? he)).cell z w; omega))
    · rw [(F35.2.2.1 sA' X1)]; exact X2
end
