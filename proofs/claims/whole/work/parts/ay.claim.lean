/-! THE CLAIM OUT OF ONE WALK OF THE LAW'S BODY. Your part is whole_start (and what it stands on); all else here is the same for every law, but numbers. -/
def R_law : String := "EventLogLaw"
def lw_P (b : Addr) (xs : List Int32) (args : Array Value) (s : State) : Prop := args = #[.ref b] ∧ s.IntsAt b xs ∧ xs.length ≤ 240 ∧ (Jvm.Cond.and given_1 narrow_1).before args s = true
def lw_Q (_ : Array Value) (s : State) (o : Outcome) (t : State) : Prop := o = .returned (some (.int 1)) ∧ Framed s o t [] 600096 7301386
def lw_Z (below : List Frame) (a : Array Value) (s : State) : State → Prop := fun t => ∃ o, t.status = .running ∧ Ended t below o ∧ lw_Q a s o t
/-- what holds at the law's entry: the machine, the code, the tables' words (any of lw_tbl by 'hts w (by decide +kernel)'), the script of L ints xs at the cell b, what the Statement gives of the start (any of its parts by flat_of_before) -/
def lw_At (p : Program) (s : State) (m : MethodId) (meth : Method) (c : Code) (b L : Nat) (xs : Nat → Int32) : Prop :=
  p.tables.exec = Jvm.exec ∧ c.code = code ∧ meth.sig.returnType = ret ∧ c.maxLocals = 8 ∧ s.vm.findClass R_law = some m.cls ∧ (∀ w ∈ lw_tbl, w.before #[Value.ref b] s = true) ∧ va_X b L xs s s.heap ∧ b < s.heap.size ∧ meth.locks = false ∧ (Jvm.Cond.and given_1 narrow_1).before #[Value.ref b] s = true ∧ meth.name = "law" ∧ c.exceptionTable.toList = []
/-- the small heap at the start: the script and the empty row -/
def h00 (D : Dg_) : MH_ := (fun a => if a = dB_ D then 37 else if a = dE_ D then 38 else 0, fun a => if a = dB_ D then dL_ D else 0, fun a j => if a = dB_ D then dZ_ D j else 0, fun _ _ => 0, fun _ _ => none, (dH_ D).size, 600096, 7301386, dE_ D, dM_ D)
theorem h00_R {D : Dg_} (hne : dB_ D ≠ dE_ D) : RH_ D (h00 D) (dH_ D) := by
  refine ⟨rfl, Nat.le_refl _, fun q _ => rfl, ⟨rfl, rfl⟩, fun a ha => ?_⟩
  by_cases h1 : a = dB_ D
  · have k : kd_ (h00 D) a = 37 := if_pos h1
    have l : ln_ (h00 D) a = dL_ D := if_pos h1
    exact Or.inr (Or.inr (Or.inr (Or.inl ⟨k, h1, l, fun j _ => if_pos h1⟩)))
  · by_cases h2 : a = dE_ D
    · have k : kd_ (h00 D) a = 38 := (if_neg h1).trans (if_pos h2)
      have l : ln_ (h00 D) a = 0 := if_neg h1
      exact Or.inr (Or.inr (Or.inr (Or.inr ⟨k, h2, l⟩)))
    · exact absurd ((if_neg h1).trans (if_neg h2)) ha
theorem law_row : mc_ 238 = code ∧ ml_ 238 = 8 ∧ mr_ 238 = ret ∧ (my_ 238).name = "law" ∧ ow_ (mo_ 238) = R_law ∧ mh_ 238 = [] ∧ mp_ 238 ≤ 1000 := by
  refine ⟨rfl, rfl, rfl, rfl, rfl, rfl, by decide +kernel⟩
theorem whole_start {p : Program} {e : Env} {s : State} {m : MethodId} {below : List Frame} {meth : Method} {c : Code} (l : Launch) (hl : l.stackTraces = false) {b L : Nat} {xs : Nat → Int32} (hL : L ≤ 240) (C0 : lw_At p s m meth c b L xs) : W p l e room_1 s m #[Value.ref b] below meth c s.heap [] 0 0 (lw_Z below #[Value.ref b] s) (entryFrame m ([Value.ref b] : List Value).toArray 8) := by
  obtain ⟨c1, c2, c3, c4, c5, c6, c7, c8, c9, c10, c11, c12⟩ := C0
  obtain ⟨D, hK, d1, d2, d3, d4, d5, d6⟩ := lw_KD c6 c7 c10
  obtain ⟨r1, r2, r3, r4, r5, r6, r7⟩ := law_row
  have hR : RH_ D (h00 D) s.heap := by rw [← d1]; exact h00_R (by rw [d2]; exact d5)
  have hk : kd_ (h00 D) b = 37 := if_pos d2.symm
  have hln : ln_ (h00 D) b = L := (if_pos d2.symm).trans d3
  have hne : ¬ dE_ D = dB_ D := fun z => d5 (by rw [← d2, z])
  have hek : kd_ (h00 D) (em_ (h00 D)) = 38 := (if_neg hne).trans (if_pos rfl)
  have hel : ln_ (h00 D) (em_ (h00 D)) = 0 := if_neg hne
  have K := Wp_sound (law_ok (h0 := h00 D) (sc := b) (n := L) (by show b < (dH_ D).size; rw [d1]; exact c8) hk hln hL (by show dE_ D < (dH_ D).size; rw [d1]; exact d6) hek hel (by show 100000 ≤ 600096; decide) (by show 3000000 ≤ 7301386; decide))
  have hw := K D p l e room_1 s m #[Value.ref b] below meth c ⟨c1, by rw [r1]; exact c2, hl, by rw [r2]; exact c4, by rw [r3]; exact c3, c9, by rw [r4]; exact c11, by rw [r5]; exact c5, fun w hw => c6 w (List.mem_filter.mp hw).1, by show mp_ 238 ≤ 2048; omega, by show 80 * mp_ 238 ≤ 84000; omega, by rw [r6]; exact c12, by decide⟩ hK s.heap [] 0 0 _ hR (by show 0 + 600096 ≤ 600096; omega) (by show 0 + 7301386 ≤ 7301386; omega) (fun z hz => nomatch hz) (en_LR (c := 238) (as := [.ref b]) (by show 1 ≤ ml_ 238; rw [r2]; decide))
  rw [r2] at hw
  rw [lg_entry_eq]
  refine W_mono (fun t ht => ?_) hw
  obtain ⟨o, r, u, Lc, kk, nn, t1, t2, t3, t4, t5, t6, t7, t8, t9, t10⟩ := ht
  have t4' : r = .inl (.int (Int32.ofNat 1)) := t4
  subst t4'
  rw [r3] at t3
  rcases t3 with ⟨z, -⟩ | ⟨-, rfl⟩
  · cases z
  · obtain ⟨q1, q2, q3, q4, q5, q6⟩ := t7
    have t8' : kk + rc_ u ≤ 600096 := t8
    have t9' : nn + rs_ u ≤ 7301386 := t9
    refine ⟨_, t1, t2, rfl, ⟨_, rfl⟩, t6, q1, q2, by omega, q4, by omega, fun a c' ha => ?_⟩
    obtain ⟨c'', v1, v2, v3, v4⟩ := q6 a c' ha
    refine ⟨c'', v1, v2, v3, fun i _ => v4 i (fun z => ?_)⟩
    have h1 := t10 _ z
    have h2 := (Array.getElem?_eq_some_iff.mp ha).1
    rw [d1] at h1
    have h1' : s.heap.size ≤ a := h1
    omega
set_option maxHeartbeats 4000000 in
theorem lw_walk (l : Launch) (hlt : l.stackTraces = false) (b : Addr) (xs : List Int32) : MetFree l x (headSpec (Jvm.Cond.code x code maxLocals ret :: tables_1) room_1) (lw_P b xs) (fun _ _ _ _ _ => True) lw_Q := by
  refine MetFree.of_bodyS (code := code) (maxLocals := maxLocals) (ret := ret) (by decide) ?_ ?_
  · intro args s m h hn
    obtain ⟨meth, c, h1, h2, h3, h4, h5, h6, -, -⟩ := Cond.code_spec hn (atoms_spec (ws := Jvm.Cond.code x code maxLocals ret :: tables_1) h _ List.mem_cons_self)
    exact ⟨meth, c, h1, h2, h3, h4, h5, h6⟩
  · intro p e s m args below meth c s₁ B hml0 hP _
    obtain ⟨rfl, hx, hbd, hgv⟩ := hP
    obtain ⟨scr, harrAt, hlist, hof, hsmall⟩ := hx
    obtain ⟨hcb, hkn, -, -⟩ := State.arrayAt?_spec harrAt
    have hown : s.vm.findClass R_law = some m.cls := findClass_of_methodNamed B.named
    have hts0 : ∀ c ∈ (Jvm.Cond.code x code maxLocals ret :: tables_1), c.before #[Value.ref b] s = true := atoms_spec (ws := Jvm.Cond.code x code maxLocals ret :: tables_1) B.pre
    have hts : ∀ w ∈ lw_tbl, w.before #[Value.ref b] s = true := k2_hts_sels lw_privs (fun w hw => hts0 w (List.mem_cons_of_mem _ hw)) lw_privs_ok
    have hml : c.maxLocals = 8 := B.maxLocals_eq (hts0 _ List.mem_cons_self)
    have X₀ : Stand p l e room_1 s m #[Value.ref b] below meth c s₁ [] 0 0 := Stand.of_body B
    have hh0 : s₁.heap = s.heap := by rw [B.state]; rfl
    have hsz : scr.slots.size = xs.length := by rw [← Array.length_toList, hlist, List.length_map]
    have hval : ∀ j : Nat, j < xs.length → scr.slots[j]? = some (.int (xs.getD j 0)) := fun j hj => by
      rw [← Array.getElem?_toList, hlist]
      simp [hj]
    have hbl : b < s.heap.size := (Array.getElem?_eq_some_iff.mp hcb).1
    have hX : va_X b xs.length (fun j => xs.getD j 0) s s.heap := ⟨scr, hcb, hof, hkn, hsz, hval⟩
    have K : W p l e room_1 s m #[Value.ref b] below meth c s₁.heap [] 0 0 (lw_Z below #[Value.ref b] s) (entryFrame m ([Value.ref b] : List Value).toArray 8) := by
      rw [hh0]
      obtain ⟨meth9, cd9, h1, h2, -, -, -, -, h7, -⟩ := Cond.code_spec B.named (hts0 _ List.mem_cons_self)
      cases Option.some.inj (h1.symm.trans B.method)
      cases Option.some.inj (h2.symm.trans X₀.code)
      exact whole_start l hlt hbd ⟨B.exec, B.bytes, B.returns, hml, hown, hts, hX, hbl, B.notSynchronized, hgv, (name_of_methodNamed B.named B.method).1, by rw [Array.isEmpty_iff.mp h7]⟩
    obtain ⟨t, a1, o, b1, b2, b3⟩ := K s₁ rfl X₀
    exact ⟨t, o, a1, b1, b2, b3⟩
theorem lw_pre_spec {args : Array Value} {s : State} (h : (Jvm.Cond.and given_1 narrow_1).before args s = true) (hr : rest_1_c.before args s = true) : ∃ (b : Addr) (xs : List Int32), lw_P b xs args s := by
  have hs := flat_of_before _ h
  have hq := flat_of_before _ hr
  have hc : (Cond.count 1).before args s = true := hs _ (by decide +kernel)
  have harr : (Cond.arrayOf (.arg 0) .int).before args s = true := hs _ (by decide +kernel)
  have hle : (Cond.le (.length (.arg 0)) (.int 240)).before args s = true := hs _ (by decide +kernel)
  have hlen : (Cond.isInt (.length (.arg 0))).before args s = true := hq _ (by decide +kernel)
  have hall : (Cond.all (.arg 0) (.isInt (.elem (.arg 0) (.index 0)))).before args s = true := hq _ (by decide +kernel)
  obtain ⟨b, xs, hb, hx⟩ := State.ints_of_pre rfl harr hlen hall
  have hsm : xs.length < 2 ^ 31 := hx.choose_spec.2.2.2
  have hev : (Term.length (.arg 0)).eval args s none [] s = some (.int xs.length.toInt32) := hx.length_eval hb
  have hv := Cond.le_ints hev (show (Term.int 240).eval args s none [] s = some (.int 240) from rfl)
  have hd : xs.length.toInt32 ≤ 240 := by
    simpa [Cond.before, Cond.holds, hv] using hle
  have hN : xs.length ≤ 240 := (Int32.ofNat_le_ofNat hsm (by decide)).mp (show Int32.ofNat xs.length ≤ Int32.ofNat 240 from hd)
  exact ⟨b, xs, Cond.one_arg hc (show args[0]? = some (.ref b) from hb), hx, hN, h⟩
theorem lw_comes (l : Launch) (hlt : l.stackTraces = false) : Comes l x (Jvm.Cond.code x code maxLocals ret :: tables_1) room_1 (fun tb e args s => Calls_1 tb e args s ∧ rest_1 tb e args s ∧ Pre_1 tb e args s)
    (fun _ _ args s o t => lw_Q args s o t) := by
  intro p e ha hc hk s m args below hf hfit hheap happ hpre
  obtain ⟨b, xs, hP⟩ := lw_pre_spec hpre.2.2 hpre.2.1
  obtain ⟨k, o, h1, h2, h3, hQ⟩ := lw_walk l hlt b xs p e ha hc hk s m args below hf ((Spec.applies_iff_loose hf).mp happ).1 hP trivial
  exact ⟨k, o, h1, h2, h3, hQ⟩
theorem lw_frame {s t : State} {o : Outcome} {args : Array Value} (h : Framed s o t [] 600096 7301386) :
    Framed s o t (fieldLocs frame_1_writes args s ++ arrayLocs frame_1_arrays args s ++ staticLocs frame_1_statics s) 600096 7301386 := h
theorem lw_limb (L : Cond) (hL : ∀ (args : Array Value) (s t : State), L.after args s (.returned (some (.int 1))) t = true) :
    ArmFor flags0 classFile x code maxLocals ret World_1 tables_1 room_1 Calls_1 rest_1 Pre_1
      (fun tb e a s o t => postC L tb e a s o t ∧ Framed s o t (fieldLocs frame_1_writes a s ++ arrayLocs frame_1_arrays a s ++ staticLocs frame_1_statics s) 600096 7301386) := by
  intro l hflags _ _ p e ha hc hk s m args below hf hfit hheap happ hpre
  have hlt : l.stackTraces = false := by
    unfold Launch.stackTraces
    rw [hflags]
    decide +kernel
  obtain ⟨k, o, h1, h2, h3, rfl, hF⟩ := lw_comes l hlt p e ha hc hk s m args below hf hfit hheap happ hpre
  exact ⟨k, _, h1, h2, h3, hL args s _, lw_frame hF⟩
theorem i_vc : Claimed_1_1 ∧ Claimed_1_2 := ⟨lw_limb limb_1_1 (fun args s t => by simp [limb_1_1, Cond.after, Cond.holds, Cond.value]), lw_limb limb_1_2 (fun args s t => Cond.after_iff.mpr (by
  first | (rw [show limb_1_2 = Cond.eq .result (.int 1) from rfl, Cond.eq_ints (x := 1) (y := 1) rfl rfl]; simp; done) | (simp [limb_1_2, Cond.value, Term.eval]; done)))⟩
