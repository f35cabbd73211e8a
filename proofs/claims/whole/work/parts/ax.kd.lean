/-! ===== the start: what the tables and the premises say of it ===== -/
theorem tw_mem {w : Cond} (h : tw_ w = true) : w ∈ lw_tbl := (List.mem_filter.mp (tw_in h)).1
theorem lw_cls {s : State} {A : Array Value} (hts : ∀ w ∈ lw_tbl, w.before A s = true) : ∃ f : Nat → ClassId × (Nat → Nat), ∀ (c : Nat) (q : vw_C), cl_[c]? = some q → u_Kn s q.1 q.2.1 q.2.2 (f c).1 (f c).2 := by
  have h : ∀ c : Nat, ∃ r : ClassId × (Nat → Nat), ∀ q : vw_C, cl_[c]? = some q → u_Kn s q.1 q.2.1 q.2.2 r.1 r.2 := by
    intro c
    cases hq : cl_[c]? with
    | none => exact ⟨(0, fun _ => 0), fun q z => by cases z⟩
    | some q =>
      have ok := List.all_eq_true.mp cl_ok q (List.mem_of_getElem? hq)
      simp only [Bool.and_eq_true] at ok
      obtain ⟨⟨o1, o2⟩, o3⟩ := ok
      obtain ⟨cC, iS, k⟩ := u_known hts (fun w hw => tw_mem (List.all_eq_true.mp o1 w hw)) (hts _ (tw_mem o2))
      exact ⟨(cC, iS), fun q' z => by cases z; exact k⟩
  exact ⟨fun c => Classical.choose (h c), fun c q hq => Classical.choose_spec (h c) q hq⟩
theorem lw_prim {s : State} {A : Array Value} {ty : FieldType} (h : (Cond.arrayClass ty).before A s = true) : ∃ cA : ClassId, ArrOfT s cA ty ∧ s.vm.findClass ("[" ++ ty.toString) = some cA := by
  obtain ⟨cA, k, comp, h1, h2, h3⟩ := Cond.arrayClass_spec h
  exact ⟨cA, fun n z => ⟨fun k h => (by cases h), k, h2, comp, h3⟩, h1⟩
theorem lw_refs {s : State} {A : Array Value} {C : String} (h : (Cond.arrayOver (.object C)).before A s = true) : ∃ cA : ClassId, ArrOfT s cA (.object C) ∧ va_RA s cA (.object C) := by
  obtain ⟨comp, cA, k, h1, h2, h3, h4, h5⟩ := Cond.arrayOver_spec h
  exact ⟨cA, fun n z => ⟨fun k h => (by cases h), k, h3, comp, h4⟩, k, comp, h3, h4, h1, h5⟩
theorem lw_arr {s : State} {A : Array Value} (hts : ∀ w ∈ lw_tbl, w.before A s = true) : ∃ f : Nat → ClassId, ∀ t, 30 ≤ t → t ≤ 36 → ArrOfT s (f t) (aty_ t) ∧ va_RA s (f t) (aty_ t) := by
  obtain ⟨a0, p0, q0⟩ := lw_prim (hts (.arrayClass .int) (by decide +kernel))
  obtain ⟨a1, p1, q1⟩ := lw_prim (hts (.arrayClass .byte) (by decide +kernel))
  obtain ⟨a2, p2, q2⟩ := lw_prim (hts (.arrayClass .boolean) (by decide +kernel))
  obtain ⟨a3, p3, q3⟩ := lw_prim (hts (.arrayClass .long) (by decide +kernel))
  obtain ⟨a4, p4, q4⟩ := lw_refs (hts (.arrayOver (.object "java/lang/Object")) (by decide +kernel))
  obtain ⟨a5, p5, q5⟩ := lw_refs (hts (.arrayOver (.object "EventLog$Block")) (by decide +kernel))
  obtain ⟨a6, p6, q6⟩ := lw_refs (hts (.arrayOver (.object "EventLog$Row")) (by decide +kernel))
  refine ⟨fun t => if t = 30 then a0 else if t = 31 then a1 else if t = 32 then a2 else if t = 33 then a3 else if t = 34 then a4 else if t = 35 then a5 else a6, fun t h1 h2 => ?_⟩
  rcases (show t = 30 ∨ t = 31 ∨ t = 32 ∨ t = 33 ∨ t = 34 ∨ t = 35 ∨ t = 36 by omega) with rfl | rfl | rfl | rfl | rfl | rfl | rfl
  · exact ⟨p0, q0⟩
  · exact ⟨p1, q1⟩
  · exact ⟨p2, q2⟩
  · exact ⟨p3, q3⟩
  · exact ⟨p4, q4⟩
  · exact ⟨p5, q5⟩
  · exact ⟨p6, q6⟩
theorem lw_nc_mem : ∀ x, x < 5 → ∀ y, y < 5 → x ≠ y → Cond.not (.castable (xn_.getD x "") (xn_.getD y "")) ∈ flatC (Jvm.Cond.and given_1 narrow_1) := by decide +kernel
theorem lw_nc {s : State} {A : Array Value} (hg : (Jvm.Cond.and given_1 narrow_1).before A s = true) : ∀ x y, x < 5 → y < 5 → x ≠ y → va_Nc (xn_.getD x "") (xn_.getD y "") s :=
  fun x y hx hy hn => va_Nc.of (flat_of_before _ hg _ (lw_nc_mem x hx y hy hn))
theorem lw_exc {s : State} {A : Array Value} (hg : (Jvm.Cond.and given_1 narrow_1).before A s = true) : ∃ f : Nat → ClassId, ∀ x, x < 5 → s.vm.findClass (xn_.getD x "") = some (f x) := by
  have h : ∀ x, ∃ c : ClassId, x < 5 → s.vm.findClass (xn_.getD x "") = some c := by
    intro x
    by_cases hx : x < 5
    · obtain ⟨c, t, h1, -, -⟩ := lw_nc hg x (if x = 0 then 1 else 0) hx (by split <;> omega) (by split <;> omega)
      exact ⟨c, fun _ => h1⟩
    · exact ⟨0, fun z => absurd z hx⟩
  exact ⟨fun x => Classical.choose (h x), fun x hx => Classical.choose_spec (h x) hx⟩
theorem lw_nw {s : State} {A : Array Value} (hts : ∀ w ∈ lw_tbl, w.before A s = true) : ∀ w ∈ wn_, va_Nw w s := by
  intro w hw
  obtain ⟨h1, h2⟩ := List.mem_filter.mp hw
  cases w <;> first | exact va_Nw.of rfl (hts _ h1) | (simp [nl_] at h2; done) | (rename_i y; cases y <;> first | exact va_AO.of (hts _ h1) | (simp [nl_] at h2; done))
theorem len0 {tm : Term} {A : Array Value} {s : State} (h : (Term.length tm).eval A s none [] s = some (.int 0)) : ∃ (t : Nat) (cell : Cell), tm.eval A s none [] s = some (.ref t) ∧ s.arrayAt? t = some cell ∧ cell.slots.size = 0 := by
  obtain ⟨t, cell, ht, hat, hv⟩ := Term.length_spec h
  refine ⟨t, cell, ht, hat, ?_⟩
  have hsz : cell.slots.size < 2147483648 := by
    simp only [Term.eval, ht, hat, Option.bind_eq_bind, Option.bind_some] at h
    by_cases hlt : cell.slots.size < 2147483648
    · exact hlt
    · simp [hlt] at h
  have e : Int32.ofNat cell.slots.size = Int32.ofNat 0 := (Value.int.inj hv).symm
  exact (i_eq hsz (by omega)).mp e
theorem lw_em {s : State} {A : Array Value} (hts : ∀ w ∈ lw_tbl, w.before A s = true) (hg : (Jvm.Cond.and given_1 narrow_1).before A s = true) :
    ∃ E : Nat, va_Z "java/util/ArrayList" "DEFAULTCAPACITY_EMPTY_ELEMENTDATA" "[Ljava/lang/Object;" (.ref E) (fun q => s.heap.size ≤ q) s s.heap ∧ ∃ cell : Cell, s.heap[E]? = some cell ∧ s.isArrayOf cell (.object "java/lang/Object") ∧ cell.vm ≠ .unknown ∧ cell.slots.size = 0 := by
  have harr : (Cond.arrayOf (.static "java/util/ArrayList" "DEFAULTCAPACITY_EMPTY_ELEMENTDATA" "[Ljava/lang/Object;") (.object "java/lang/Object")).before A s = true := flat_of_before _ hg _ (by decide +kernel)
  have hlen : (Cond.eq (.length (.static "java/util/ArrayList" "DEFAULTCAPACITY_EMPTY_ELEMENTDATA" "[Ljava/lang/Object;")) (.int 0)).before A s = true := flat_of_before _ hg _ (by decide +kernel)
  obtain ⟨t, cell, ht, hat, hz⟩ := len0 (va_eqt hlen)
  obtain ⟨hcell, hkn, -, -⟩ := State.arrayAt?_spec hat
  obtain ⟨hof, -⟩ := Cond.arrayOf_spec harr ht hcell
  exact ⟨t, va_Zref (hts _ (by decide +kernel)) (hts _ (by decide +kernel)) ht (fun a ha z => by omega), cell, hcell, hof, hkn, hz⟩
theorem lw_KD {s : State} {b L : Nat} {xs : Nat → Int32} (hts : ∀ w ∈ lw_tbl, w.before #[Value.ref b] s = true) (hX : va_X b L xs s s.heap) (hg : (Jvm.Cond.and given_1 narrow_1).before #[Value.ref b] s = true) :
    ∃ D : Dg_, KD_ D s ∧ dH_ D = s.heap ∧ dB_ D = b ∧ dL_ D = L ∧ dZ_ D = xs ∧ b ≠ dE_ D ∧ dE_ D < s.heap.size := by
  obtain ⟨f, hf⟩ := lw_cls hts
  obtain ⟨fa, ha⟩ := lw_arr hts
  obtain ⟨fx, hx⟩ := lw_exc hg
  obtain ⟨E, hE, cell, c1, c2, c3, c4⟩ := lw_em hts hg
  obtain ⟨M, hM⟩ := va_Mi.of (flat_of_before _ hg (.isRef (.mirror "[Ljava/lang/Object;")) (by decide +kernel))
  have z1 : vx_Zq Bundle.tN "UNASSIGNED_STACK" Bundle.steD (fun q => s.heap.size ≤ q) s s.heap := vx_Zqof (hts _ (by decide +kernel)) (hts _ (by decide +kernel)) (flat_of_before _ hg _ (by decide +kernel)) (fun a ha z => by omega)
  have z2 : vx_Zq Bundle.tN "SUPPRESSED_SENTINEL" Bundle.listD (fun q => s.heap.size ≤ q) s s.heap := vx_Zqof (hts _ (by decide +kernel)) (hts _ (by decide +kernel)) (flat_of_before _ hg _ (by decide +kernel)) (fun a ha z => by omega)
  refine ⟨(fun c => (f c).1, fun c => (f c).2, fa, fx, s.heap, E, b, L, xs, M), ⟨hf, ha, hx, lw_nw hts, fun x y a b n => lw_nc hg x y a b n, z1, z2, hE, ⟨cell, c1, c2, c3, c4⟩, hX, hM, Nat.le_refl _, fun q _ => rfl⟩, rfl, rfl, rfl, rfl, ?_, (Array.getElem?_eq_some_iff.mp c1).1⟩
  intro e
  have e' : b = E := e
  obtain ⟨scr, x1, x2, -⟩ := hX
  rw [e', c1] at x1
  have := Option.some.inj x1
  subst this
  obtain ⟨-, k, k1, comp, k2⟩ := c2
  obtain ⟨-, k', k1', comp', k2'⟩ := x2
  rw [k1] at k1'
  have := Option.some.inj k1'
  subst this
  rw [k2] at k2'
  cases k2'
