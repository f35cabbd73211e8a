/-! ===== calls ===== -/
def ws_ (k : Nat) : List Cond := cw_ k :: wg_
def rm_ (k : Nat) (h : MH_) : Room := { frames := mp_ k, cells := rc_ h, slots := rs_ h, locals := 80 * mp_ k }
def qq_ (c : Nat) (D : Dg_) (h : MH_) (Q : Rs_ → MH_ → Prop) : Array Value → State → Outcome → State → Prop := fun _ st o t =>
  ∃ (r : Rs_) (u : MH_) (Lc : List Loc) (kk nn : Nat), OM_ (mr_ c) u o r ∧ Q r u ∧ RH_ D u t.heap ∧ st.WarmedH t.vm ∧ st.sameButNew ({ t with vm := st.vm } : State) Lc kk nn ∧ kk + rc_ u ≤ rc_ h ∧ nn + rs_ u ≤ rs_ h ∧ ∀ z ∈ Lc, (dH_ D).size ≤ z.base
theorem fl_len : ∀ as : List Value, (fl_ as).length = (lg_sl as).length
  | [] => rfl
  | v :: r => by
    have := fl_len r
    simp only [fl_, lg_sl, List.flatMap_cons] at this ⊢
    split <;> simp_all
theorem fl_has : ∀ (as : List Value) (i0 : Nat) (i : Nat) (v : Value), (fl_ as)[i]? = some v → v ≠ .null → (i0 + i, v) ∈ lv_args i0 as
  | [], _, i, v, h, _ => by simp [fl_] at h
  | a :: r, i0, i, v, h, hv => by
    have ih := fl_has r
    simp only [fl_] at h
    by_cases hc : a.category = 2
    · rw [if_pos hc] at h
      simp only [lv_args, hc, if_true]
      match i, h with
      | 0, h => cases h; exact List.mem_cons_self
      | 1, h => simp at h; exact absurd h.symm hv
      | j + 2, h =>
        refine List.mem_cons_of_mem _ ?_
        have := ih (i0 + 2) j v (by simpa using h) hv
        rw [show i0 + (j + 2) = i0 + 2 + j by omega]
        exact this
    · rw [if_neg hc] at h
      simp only [lv_args, hc, if_false]
      match i, h with
      | 0, h => cases h; exact List.mem_cons_self
      | j + 1, h =>
        refine List.mem_cons_of_mem _ ?_
        have := ih (i0 + 1) j v (by simpa using h) hv
        rw [show i0 + (j + 1) = i0 + 1 + j by omega]
        exact this
theorem en_LR {c : Nat} {as : List Value} (hlen : (fl_ as).length ≤ ml_ c) : LR_ ((lg_sl as ++ List.replicate (ml_ c - (lg_sl as).length) Slot.unset).toArray) (ml_ c) (en_ c as) := by
  rw [fl_len] at hlen
  refine LR_.of (lv_entry as hlen) (fun i v hi hv => ?_)
  unfold en_ at hi
  by_cases hl : i < (fl_ as).length
  · rw [List.getElem?_append_left hl] at hi
    have := fl_has as 0 i v hi hv
    rw [Nat.zero_add] at this
    exact this
  · rw [List.getElem?_append_right (by omega), List.getElem?_replicate] at hi
    split at hi
    · cases hi; exact absurd rfl hv
    · cases hi
theorem cw_spec {c : Nat} {a : Array Value} {U : State} {m : MethodId} (hn : U.methodNamed? (my_ c) = some m) (h : (cw_ c).before a U = true) :
    ∃ meth cd, U.vm.method? m = some meth ∧ meth.code = some cd ∧ cd.code = mc_ c ∧ cd.maxLocals = ml_ c ∧ meth.sig.returnType = mr_ c ∧ meth.locks = false ∧ cd.exceptionTable.toList = tableOf (mh_ c) ∧ parseMethodDescriptor (my_ c).desc = some meth.sig := by
  unfold cw_ at h
  split at h
  · rename_i hm
    obtain ⟨meth, cd, h1, h2, h3, h4, h5, h6, h7, h8⟩ := Cond.code_spec hn h
    refine ⟨meth, cd, h1, h2, h3, h4, h5, h6, ?_, h8⟩
    rw [hm, Array.isEmpty_iff.mp h7]
    rfl
  · obtain ⟨m9, meth, cd, hn9, h1, h2, h3, h4, h5, h6, h7, h8⟩ := Cond.codeWith_spec h
    cases hn.symm.trans hn9
    exact ⟨meth, cd, h1, h2, h3, h4, h6, h7, by rw [← h5, table_eq], h8⟩
/-- a method's contract out of its walk -/
theorem ev_met {c : Nat} (hc : c < 248) {as : List Value} {h : MH_} {Q : Rs_ → MH_ → Prop} (K : Ev_ c 0 (en_ c as) [] h Q) (hlen : (fl_ as).length ≤ ml_ c) (D : Dg_) {l : Launch} (hl : l.stackTraces = false) :
    MetFree l (my_ c) (headSpec (ws_ c) (rm_ c h)) (fun v U => v = as.toArray ∧ KD_ D U ∧ RH_ D h U.heap) (fun _ _ _ _ _ => True) (qq_ c D h Q) := by
  obtain ⟨m1, m2, m3, m4, m5, m6⟩ := mt_facts hc
  refine MetFree.of_bodySF (code := mc_ c) (maxLocals := ml_ c) (ret := mr_ c) m1 ?_ ?_
  · intro args s m h hn
    obtain ⟨meth, cd, h1, h2, h3, h4, h5, h6, -⟩ := cw_spec hn (atoms_spec (ws := ws_ c) h _ List.mem_cons_self)
    exact ⟨meth, cd, h1, h2, h3, h4, h5, h6⟩
  · intro p e s m args below meth cd s₁ B hml hP _
    obtain ⟨rfl, hK, hH⟩ := hP
    have hts := atoms_spec (ws := ws_ c) B.pre
    have hh0 : s₁.heap = s.heap := by rw [B.state]; rfl
    obtain ⟨meth9, cd9, h1, h2, -, -, -, -, h7, -⟩ := cw_spec B.named (hts _ List.mem_cons_self)
    cases Option.some.inj (h1.symm.trans B.method)
    cases Option.some.inj (h2.symm.trans (Stand.of_body B).code)
    have hw := K D p l e (rm_ c h) s m as.toArray below meth cd ⟨B.exec, B.bytes, hl, hml, B.returns, B.notSynchronized, (name_of_methodNamed B.named B.method).1, by rw [← m2]; exact findClass_of_methodNamed B.named, fun w hw => hts w (List.mem_cons_of_mem _ hw), Nat.le_refl _, Nat.le_refl _, h7, hc⟩ hK s.heap [] 0 0 _ hH (by show 0 + rc_ h ≤ rc_ h; omega) (by show 0 + rs_ h ≤ rs_ h; omega) (fun z hz => nomatch hz) (en_LR hlen)
    rw [lg_entry_eq]
    obtain ⟨t, a1, o, r, u, Lc, kk, nn, b1, b2, b3, b4, b5, b6, b7, b8, b9, b10⟩ := hw s₁ hh0 (Stand.of_body B)
    exact ⟨t, o, a1, b1, b2, r, u, Lc, kk, nn, b3, b4, b5, b6, b7, b8, b9, b10⟩
def PrC_ (D : Dg_) (R : Room) (h : MH_) (as : List Value) : Pt → Array Value → Prop := fun A a => a = as.toArray ∧ RH_ D h A.U.heap ∧ A.cells + rc_ h ≤ R.cells ∧ A.slots + rs_ h ≤ R.slots ∧ ∀ z ∈ A.locs, (dH_ D).size ≤ z.base
def PoC_ (c : Nat) (D : Dg_) (R : Room) (Q : Rs_ → MH_ → Prop) : Pt → Array Value → Option Value → Pt → Prop := fun _ _ v B =>
  ∃ (w : Value) (u : MH_), ((mr_ c = none ∧ v = none) ∨ (mr_ c ≠ none ∧ v = some w)) ∧ Q (.inl w) u ∧ RH_ D u B.U.heap ∧ B.cells + rc_ u ≤ R.cells ∧ B.slots + rs_ u ≤ R.slots ∧ ∀ z ∈ B.locs, (dH_ D).size ≤ z.base
def PxC_ (D : Dg_) (R : Room) (Q : Rs_ → MH_ → Prop) : Pt → Array Value → Addr → Pt → Prop := fun _ _ q B =>
  ∃ (u : MH_), (20 ≤ kd_ u q ∧ kd_ u q ≤ 24) ∧ Q (.inr q) u ∧ RH_ D u B.U.heap ∧ B.cells + rc_ u ≤ R.cells ∧ B.slots + rs_ u ≤ R.slots ∧ ∀ z ∈ B.locs, (dH_ D).size ≤ z.base
section Pay
variable {l : Launch} {R : Room} {p : Program} {e : Env} {below : List Frame} {s : State} {sargs : Array Value} {len W9 : Nat}
theorem ev_back {c : Nat} (hc : c < 248) {as : List Value} {h : MH_} {Q : Rs_ → MH_ → Prop} {D : Dg_} (hM : MetFree l (my_ c) (headSpec (ws_ c) (rm_ c h)) (fun v U => v = as.toArray ∧ KD_ D U ∧ RH_ D h U.heap) (fun _ _ _ _ _ => True) (qq_ c D h Q)) (hK : KD_ D s)
    (hframes : mp_ c + 1 ≤ R.frames) (hlocals : W9 + (ml_ c + 11) + 80 * mp_ c ≤ R.locals)
    (hts : ∀ w ∈ wg_, w.before sargs s = true) (hcw : (cw_ c).before sargs s = true) (hgw : goodWord (cw_ c) = true) :
    vx_Back l R p e below s sargs (my_ c) len W9 (PrC_ D R h as) (PoC_ c D R Q) (PxC_ D R Q) := by
  obtain ⟨m1, m2, m3, m4, m5, m6⟩ := mt_facts hc
  have hws : ∀ w ∈ ws_ c, ∀ (a' : Array Value) (U : State), s.WarmedH U.vm → w.before a' U = true := by
    intro w hw a' U hW
    rcases List.mem_cons.mp hw with rfl | hw
    · exact word_at hW (good_of_word hgw) hcw
    · exact word_at hW (good_of_word (List.mem_filter.mp hw).2) (hts w hw)
  intro m meth cd A g ig mk a X hg hsize hdg hW hn hp
  obtain ⟨rfl, hp1, hp2, hp3, hp4⟩ := hp
  obtain ⟨U, Ls, c0, s0⟩ := A
  dsimp only [Pt.U, Pt.locs, Pt.cells, Pt.slots] at hp1 hp2 hp3 hp4 X hn ⊢
  have h1 : (headSpec (ws_ c) (rm_ c h)).pre.before as.toArray U = true := atoms_intro fun w hw => hws w hw _ _ X.warmed
  have h2 : (cw_ c).before as.toArray U = true := hws _ List.mem_cons_self _ _ X.warmed
  have h3 : (Cond.initialized (my_ c).cls).before as.toArray U = true := hws _ (List.mem_cons_of_mem _ m4) _ _ X.warmed
  obtain ⟨methY, cY, hmY, hcY, -, hlY, -, -, -, -⟩ := cw_spec hn h2
  obtain ⟨kY, hkY, -⟩ := className_of_methodNamed hn
  have hinitY : kY.init = .initialized := Cond.initialized_spec (findClass_of_methodNamed hn) hkY h3
  have hh : At U g.method cd below := by rw [hg]; exact X.here
  have hlocals9 : W9 + (ml_ c + 11) + (headSpec (ws_ c) (rm_ c h)).room.locals ≤ R.locals := hlocals
  have happ : (headSpec (ws_ c) (rm_ c h)).appliesLoose (my_ c) e.platform (U.calling g mk as.toArray) = true :=
    Spec.appliesLoose_calling (g := g) hh hdg hn hkY hinitY
      (X.room_calling (g := g) (R' := (headSpec (ws_ c) (rm_ c h)).room) hsize hmY hcY hframes (by rw [hlY]; omega) hp2 hp3) h1
  have hPc : KD_ D (U.calling g mk as.toArray) := KD_.moved (s := s) X.warmed ⟨hp1.2.1, hp1.2.2.1⟩ hK
  obtain ⟨mid, hmid⟩ := hh.above
  have hfr : (U.setTop g).frames = (.java g :: mid) ++ below := by rw [State.frames_setTop' g hh.top, hmid]; rfl
  obtain ⟨o, s₂, hsteps, -, hend, hq⟩ := Steps.callFree hM p X.admits X.cas X.clock (acts := []) hfr happ ⟨rfl, hPc, hp1⟩ trivial
  have hq' : qq_ c D h Q as.toArray (U.calling g mk as.toArray) o s₂ := hq
  rw [State.frames_setTop' g hh.top] at hend
  obtain ⟨g₀, hg0⟩ := Option.isSome_iff_exists.mp hh.top
  obtain ⟨r, hr⟩ := State.topJava?_eq_some.mp hg0
  have hr' : (({ U with heap := s₂.heap, slotsUsed := s₂.slotsUsed } : State).setVm s₂.vm).frames = .java g₀ :: r := hr
  obtain ⟨rr, u, L, kk, nn, hom, hqu, hrh, hW₂, hsm, hk1, hn1, hL⟩ := hq'
  have hW' : U.WarmedH s₂.vm := hW₂
  obtain ⟨e2, q2, q3, q4, q5, q6⟩ := id hsm
  have e3 : s₂ = ({ (U.calling g mk as.toArray).setFrames s₂.frames with heap := s₂.heap, slotsUsed := s₂.slotsUsed } : State).setVm s₂.vm := by
    have : s₂ = ({ s₂ with vm := (U.calling g mk as.toArray).vm } : State).setVm s₂.vm := rfl
    rw [e2] at this
    exact this
  have hsame : U.sameButNew ({ U with heap := s₂.heap, slotsUsed := s₂.slotsUsed } : State) L kk nn := by
    refine ⟨?_, q2, q3, q4, q5, q6⟩
    obtain ⟨t, ht, -⟩ := State.frames_cons hr
    show ({ U with heap := s₂.heap, slotsUsed := s₂.slotsUsed } : State) = { U.setFrames U.frames with heap := s₂.heap, slotsUsed := s₂.slotsUsed }
    rw [State.setFrames_self ht]
  have hall : ∀ z ∈ Ls ++ L, (dH_ D).size ≤ z.base := fun z hz => by
    rcases List.mem_append.mp hz with hz | hz
    · exact hp4 z hz
    · exact hL z hz
  cases rr with
  | inl w =>
    obtain ⟨v, rfl, hv⟩ : ∃ v, o = .returned v ∧ ((mr_ c = none ∧ v = none) ∨ (mr_ c ≠ none ∧ v = some w)) := by
      rcases hom with ⟨a1, a2⟩ | ⟨a1, a2⟩
      · exact ⟨_, a2, Or.inl ⟨a1, rfl⟩⟩
      · exact ⟨_, a2, Or.inr ⟨a1, rfl⟩⟩
    obtain ⟨c₂, i₂, len₂, hc₂, hd₂, hf₂⟩ := hend
    have hcc : c₂ = cd := by
      have h1 : s₂.code? g.method = U.code? g.method := by
        rw [State.code?_eq, State.code?_eq, hW'.alike.method?]
      exact Option.some.inj (hc₂.symm.trans (h1.trans hh.code))
    subst hcc
    have hlen : len₂ = len := by rw [hdg] at hd₂; cases hd₂; rfl
    subst hlen
    have hs₂ : s₂ = (({ U with heap := s₂.heap, slotsUsed := s₂.slotsUsed } : State).setVm s₂.vm).setTop { g with pc := g.pc + len₂, stack := v.toList ++ g.stack } := by
      refine e3.trans ?_
      rw [hf₂, State.calling_eq hh.top, State.setFrames_setFrames, State.setTop_of_frames _ hr', hr]
      rfl
    subst hg
    refine Or.inl ⟨v, ⟨(({ U with heap := s₂.heap, slotsUsed := s₂.slotsUsed } : State).setVm s₂.vm), Ls ++ L, c0 + kk, s0 + nn⟩,
      ⟨X.admits, X.cas, X.clock, X.frames, X.room, X.hears, X.method, X.code, (X.here.setHeapUsed s₂.heap s₂.slotsUsed).setVm hW'.alike, X.tail, State.WarmedH.trans X.warmed hW', X.limits, X.bytes, X.same.trans (hsame.setVm s.vm)⟩,
      ⟨w, u, hv, hqu, hrh, by show c0 + kk + rc_ u ≤ _; omega, by show s0 + nn + rs_ u ≤ _; omega, hall⟩, ?_⟩
    show Steps p.tables e below _ ((({ U with heap := s₂.heap, slotsUsed := s₂.slotsUsed } : State).setVm s₂.vm).setTop { g with pc := g.pc + len₂, stack := v.toList ++ g.stack })
    rw [← hs₂]
    exact hsteps
  | inr q =>
    obtain ⟨rfl, hkq⟩ := hom
    have hf₂ : s₂.frames = .throwing q :: .java g :: U.frames.tail := hend
    have hs₂ : s₂ = ((({ U with heap := s₂.heap, slotsUsed := s₂.slotsUsed } : State).setVm s₂.vm).setTop g).pushFrame (.throwing q) := by
      refine e3.trans ?_
      rw [hf₂, State.calling_eq hh.top, State.setFrames_setFrames, State.pushFrame, State.frames_setTop _ hr', State.setTop_of_frames _ hr', State.setFrames_setFrames, hr]
      rfl
    subst hg
    refine Or.inr ⟨q, ⟨(({ U with heap := s₂.heap, slotsUsed := s₂.slotsUsed } : State).setVm s₂.vm), Ls ++ L, c0 + kk, s0 + nn⟩,
      ⟨X.admits, X.cas, X.clock, X.frames, X.room, X.hears, X.method, X.code, (X.here.setHeapUsed s₂.heap s₂.slotsUsed).setVm hW'.alike, X.tail, State.WarmedH.trans X.warmed hW', X.limits, X.bytes, X.same.trans (hsame.setVm s.vm)⟩,
      ⟨u, hkq, hqu, hrh, by show c0 + kk + rc_ u ≤ _; omega, by show s0 + nn + rs_ u ≤ _; omega, hall⟩, ?_⟩
    show Steps p.tables e below _ (((({ U with heap := s₂.heap, slotsUsed := s₂.slotsUsed } : State).setVm s₂.vm).setTop g).pushFrame (.throwing q))
    rw [← hs₂]
    exact hsteps
/-- a callee that throws nothing -/
theorem ev_backR {y : MethodName} {Pre : Pt → Array Value → Prop} {Post : Pt → Array Value → Option Value → Pt → Prop} {PostX : Pt → Array Value → Addr → Pt → Prop} (h : vx_Back l R p e below s sargs y len W9 Pre Post PostX) (hx : ∀ A a q B, ¬ PostX A a q B) : Back l R p e below s sargs y len W9 Pre Post := by
  intro m meth c A g ig mk a X hg hsize hdg hW hn hp
  rcases h m meth c A g ig mk a X hg hsize hdg hW hn hp with q | ⟨q, B, -, hz, -⟩
  · exact q
  · exact (hx _ _ _ _ hz).elim
end Pay
