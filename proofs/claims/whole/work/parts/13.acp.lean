/-! ===== arraycopy; an exception that is made and thrown ===== -/
section Ec
variable {p : Program} {l : Launch} {e : Env} {R : Room} {s : State} {m : MethodId} {args : Array Value} {below : List Frame} {meth : Method} {c : Code} {H : Heap} {locs : List Loc} {cells slots : Nat} {Q : State → Prop}
variable {cc : ByteArray} {pc : Nat} {ls : Array Slot} {rest : List Value}
theorem nnI {z : Int32} (hz : ¬ z < 0) : z.toInt = (z.toNatClampNeg : Int) := by
  have hz0 : (0 : Int) ≤ z.toInt := by
    have := Int32.not_lt.mp hz
    simpa using Int32.le_iff_toInt_le.mp this
  show z.toInt = ((z.toInt.toNat : Nat) : Int)
  omega
theorem W_acp {α : Type} (mk : α → Value) (hexec : p.tables.exec = Jvm.exec) (hb : c.code = cc) (hml : c.maxLocals = ls.size) {own : String} {index : Nat} (hown : s.vm.findClass own = some m.cls) (hlink : (Cond.methodLink own index arraycopyName).before args s = true) (hnat : (Cond.native arraycopyName).before args s = true) (hstat : (Cond.static arraycopyName).before args s = true) (hini : (Cond.initialized "java/lang/System").before args s = true)
    {a0 a : Nat} {cA : ClassId} {n0 n1 : Nat} {f g : Nat → α} {ty : FieldType} (hc0 : H[a0]? = some (arrV cA n0 (fun j => mk (f j)))) (hc1 : H[a]? = some (arrV cA n1 (fun j => mk (g j)))) (hA : ArrOfT s cA ty)
    {sp dp n : Int32} (h1 : ¬ sp < 0) (h2 : ¬ dp < 0) (h3 : ¬ n < 0) (h4 : sp.toNatClampNeg + n.toNatClampNeg ≤ n0) (h5 : dp.toNatClampNeg + n.toNatClampNeg ≤ n1)
    (hfit : refKind ty = false ∧ (∀ x, fits ty (mk x) = true) ∨ refKind ty = true ∧ (∀ i : Nat, i < n.toNatClampNeg → mk (f (sp.toNatClampNeg + i)) = .null ∨ ∃ y : Nat, mk (f (sp.toNatClampNeg + i)) = .ref y ∧ ∃ cellV : Cell, H[y]? = some cellV ∧ cellV.vm.isStatics = false ∧ (∃ kC : Class, s.vm.classes[cellV.cls]? = some kC) ∧ ∀ kA comp, s.vm.classes[cA]? = some kA → kA.kind = .array comp ty → (∃ kE : Class, s.vm.classes[comp]? = some kE) ∧ s.vm.assignable cellV.cls comp = true))
    (hframes : 1 ≤ R.frames) (hlocals : (rest.map fun v => v.category).sum + (nativeFrameWords "java/lang/System" "arraycopy" 5 + 11) ≤ R.locals) (hdg : decode cc pc = .ok (.invokestatic index, 3))
    (kk : ∀ H1 : Heap, H1.size = H.size → (∀ q : Nat, q ≠ a → H1[q]? = H[q]?) → H1[a]? = some (arrV cA n1 (fun j => mk (va_cpy f g sp.toNatClampNeg dp.toNatClampNeg n.toNatClampNeg j))) → ∀ L2 : List Loc, (∀ z ∈ L2, z.base = a) → W p l e R s m args below meth c H1 (locs ++ L2) cells slots Q (F0 m (pc + 3) ls rest)) : W p l e R s m args below meth c H locs cells slots Q (F0 m pc ls (.int n :: .int dp :: .ref a :: .int sp :: .ref a0 :: rest)) := by
  intro T hT X
  obtain ⟨-, k0, hk0, cm0, hkk0⟩ := hA n0 (fun j => mk (f j))
  obtain ⟨vm', X', step⟩ := X.arraycopy hexec hown hlink hnat hstat hini (src := a0) (dst := a) (cs := arrV cA n0 (fun j => mk (f j))) (cd := arrV cA n1 (fun j => mk (g j))) (srcPos := sp) (destPos := dp) (n := n) (by rw [hT]; exact hc0) (by rw [hT]; exact hc1)
    (fun _ h => by cases h) (fun _ h => by cases h) (fun h => by cases h) (fun h => by cases h) hk0 hk0 hkk0 hkk0 (by rcases hfit with ⟨q, -⟩ | ⟨q, -⟩ <;> simp [q]) h1 h2 h3
    (by rw [nnI h1, nnI h3, arrV_size]; omega)
    (by rw [nnI h2, nnI h3, arrV_size]; omega)
    (fun vm₁ hal i hi => by
      have e : (arrV cA n0 (fun j => mk (f j))).slots.getD (sp.toNatClampNeg + i) .null = mk (f (sp.toNatClampNeg + i)) := by
        rw [Array.getD_eq_getD_getElem?, arrV_read _ _ (by omega)]
        rfl
      rw [e]
      rcases hfit with ⟨q1, q2⟩ | ⟨q1, q2⟩
      · refine ⟨q2 _, ?_⟩
        have := q2 (f (sp.toNatClampNeg + i))
        cases hm : mk (f (sp.toNatClampNeg + i)) with
        | ref y =>
          rw [hm] at this
          cases ty <;> simp [fits] at this <;> simp [refKind] at q1
        | _ => trivial
      · have hk : ∃ z, ty = .object z ∨ ∃ z, ty = .array z := by cases ty <;> simp [refKind] at q1 ⊢
        rcases q2 i hi with q3 | ⟨y, q3, cellV, g1, g2, ⟨kC, hkC⟩, hasg⟩
        · rw [q3]
          exact ⟨by cases ty <;> simp [refKind] at q1 <;> rfl, trivial⟩
        · rw [q3]
          obtain ⟨⟨kE, hkE⟩, has⟩ := hasg _ _ hk0 hkk0
          obtain ⟨kC', hkC', -⟩ := hal.2.2 _ _ hkC
          obtain ⟨kE', hkE', -⟩ := hal.2.2 _ _ hkE
          refine ⟨by cases ty <;> simp [refKind] at q1 <;> rfl, cellV, (show T.heap[y]? = some cellV by rw [hT]; exact g1), (fun q h => by rw [h] at g2; cases g2), ⟨kC', hkC'⟩, ⟨kE', hkE'⟩, ?_⟩
          show vm₁.assignable _ _ = true
          rw [hal.assignable]
          exact has)
    (g := F0 m pc ls (.int n :: .int dp :: .ref a :: .int sp :: .ref a0 :: rest)) rfl (by rw [hml]) (rest := rest) rfl (by rw [hb]; exact hdg) hframes (by show 2 * 0 + _ + _ ≤ _; omega)
  have e1 : copied (arrV cA n0 (fun j => mk (f j))) (arrV cA n1 (fun j => mk (g j))) sp dp n = arrV cA n1 (fun j => mk (va_cpy f g sp.toNatClampNeg dp.toNatClampNeg n.toNatClampNeg j)) := va_copied mk cA cA f g h4
  rw [e1] at X' step
  have hl : a < H.size := (Array.getElem?_eq_some_iff.mp hc1).1
  have hheap : ((T.setVm vm').setCell a (arrV cA n1 (fun j => mk (va_cpy f g sp.toNatClampNeg dp.toNatClampNeg n.toNatClampNeg j)))).heap = H.setIfInBounds a (arrV cA n1 (fun j => mk (va_cpy f g sp.toNatClampNeg dp.toNatClampNeg n.toNatClampNeg j))) := by rw [← hT]; rfl
  obtain ⟨t, a1, b1⟩ := kk _ (by simp) (fun q hq => by simp [Array.getElem?_setIfInBounds, Ne.symm hq]) (by simp [Array.getElem?_setIfInBounds, hl]) _ (fun z hz => by
    obtain ⟨y, -, hy⟩ := List.mem_map.mp hz
    rw [← hy]) _ hheap X'
  exact ⟨t, step t a1, b1⟩
end Ec
theorem W_throw {p : Program} {l : Launch} {e : Env} {R : Room} {s : State} {m : MethodId} {args : Array Value} {below : List Frame} {meth : Method} {c : Code} {H : Heap} {locs : List Loc} {cells slots : Nat} {Q : State → Prop} {ls : Array Slot} {rest : List Value} {cc : ByteArray} {pc : Nat} (hexec : p.tables.exec = Jvm.exec) (hb : c.code = cc) (hl : l.stackTraces = false) {own cls : String} {names : List String} {ik ic : Nat} {A : Nat → Prop}
    (hown : s.vm.findClass own = some m.cls) (hcls : Bundle.fit cls = true) (hnames : ∀ n ∈ names, Bundle.fit n = true)
    (hk : (Cond.classLink own ik cls).before args s = true) (hini : (Cond.initialized cls).before args s = true) (hat : ∀ w ∈ vx_at0 own ic cls names, w.before args s = true)
    (hgood : ∀ w ∈ Cond.classLink own ik cls :: Cond.initialized cls :: vx_at0 own ic cls names, vx_ot w = true)
    (hU : vx_Zq Bundle.tN "UNASSIGNED_STACK" Bundle.steD A s s.heap) (hN : vx_Zq Bundle.tN "SUPPRESSED_SENTINEL" Bundle.listD A s s.heap) (hS : va_S A s.heap H locs) (hsize : ls.size = c.maxLocals)
    (d0 : decode cc pc = .ok (.new ik, 3)) (d3 : decode cc (pc + 3) = .ok (.dup, 1)) (d4 : decode cc (pc + 4) = .ok (.invokespecial ic, 3)) (d7 : decode cc (pc + 7) = .ok (.athrow, 1))
    (hout : ∀ x ∈ c.exceptionTable.toList, covers x (pc + 7) = false)
    (hRframes : names.length + 3 < R.frames) (hRlocals : (rest.map fun v => v.category).sum + (13 * (names.length + 1) + 42) ≤ R.locals) (hRcells : cells + 1 ≤ R.cells) (hRslots : slots + 6 ≤ R.slots) (hlocks : meth.locks = false)
    (kk : ∀ (U : State) (ce : Cell), U.status = .running → Ended U below (.threw H.size) → U.heap.size = H.size + 1 → (∀ q : Nat, q < H.size → U.heap[q]? = H[q]?) → U.heap[H.size]? = some ce → ce.vm = .none → s.vm.findClass cls = some ce.cls → s.WarmedH U.vm → s.sameButNew ({ U with vm := s.vm } : State) locs (cells + 1) (slots + 6) → Q U) :
    W p l e R s m args below meth c H locs cells slots Q (F0 m pc ls rest) := by
  intro T hT X
  have htr : e.platform.stackTraces = false := (show e.platform.stackTraces = l.stackTraces by rw [X.admits.platform]).trans hl
  have Y := vx_rebase X (R' := { frames := R.frames, locals := R.locals, cells := 1, slots := 6 }) (Nat.le_refl _) (Nat.le_refl _) hRcells hRslots
  obtain ⟨s', hA⟩ : ∃ z, z = (T.setVm s.vm).setFrames (.invoking m args :: below) := ⟨_, rfl⟩
  rw [← hA] at Y
  have hvm : s'.vm = s.vm := by rw [hA]; rfl
  have hhp : s'.heap = H := by rw [hA]; exact hT
  have hW0 : s.WarmedH s'.vm := by rw [hvm]; exact State.WarmedH.refl s
  have hat' : ∀ w ∈ vx_at0 own ic cls names, w.before args s' = true := fun w hw => vx_ot_at hW0 hvm.symm (hgood w (List.mem_cons_of_mem _ (List.mem_cons_of_mem _ hw))) (hat w hw)
  have hk' : (Cond.classLink own ik cls).before args s' = true := vx_ot_at hW0 hvm.symm (hgood _ List.mem_cons_self) hk
  have hini' : (Cond.initialized cls).before args s' = true := vx_ot_at hW0 hvm.symm (hgood _ (List.mem_cons_of_mem _ List.mem_cons_self)) hini
  have hU' : vx_Zq Bundle.tN "UNASSIGNED_STACK" Bundle.steD A s' s'.heap := by rw [hhp]; exact vx_Zq.moved hW0.alike (hU.kept hS.2.1)
  have hN' : vx_Zq Bundle.tN "SUPPRESSED_SENTINEL" Bundle.listD A s' s'.heap := by rw [hhp]; exact vx_Zq.moved hW0.alike (hN.kept hS.2.1)
  have h : ∀ w ∈ Bundle.ownAtoms0 own ic cls names, w.before args s' = true := vx_own hat' (vx_isRefq hU'.1) (vx_isRefq hN'.1) hU'.2.word hN'.2.word
  have hown' : s'.vm.findClass own = some m.cls := by rw [hvm]; exact hown
  have hins : (Cond.instantiable cls 6).before args s' = true := h _ (by simp [Bundle.ownAtoms0])
  obtain ⟨vm₁, cX, kX, hfX, hkX, -, -, X₁, st1⟩ := Y.newCold hexec (own := own) (C := cls) (index := ik) (n := 6) hown' hk' hins hini'
    (g := F0 m pc ls rest) rfl (by rw [hb]; exact d0) (Nat.le_refl _) (Nat.le_refl _)
  generalize hT1 : (T.setVm vm₁).pushCell { cls := cX, slots := kX.instanceTypes.map defaultValue, vm := .none } = T1 at X₁ st1
  have hcat : (Value.ref T.heap.size).category = 1 := rfl
  have hcellA : T1.heap[T.heap.size]? = some (freshCell cX kX) := by rw [← hT1]; exact State.heap_pushCell_size _ _
  have d3' : decode c.code (pc + 3) = .ok (.dup, 1) := by rw [hb]; exact d3
  obtain ⟨U, hsteps, hrun, hend, hW, hsame, ce, hce, hO⟩ := X₁.ctorThrow0 hexec htr (own := own) (cls := cls) (names := names) (ic := ic) hown' hcls hnames h (fun x hx => nomatch hx) hfX hkX hcellA (by rw [hhp, hT]; exact Nat.le_refl _)
    (g := { method := m, pc := pc + 4, locals := ls, stack := .ref T.heap.size :: .ref T.heap.size :: rest, locked := none }) rfl hsize rfl rfl (rest := rest) rfl
    (by rw [hb]; exact d4) (by rw [hb]; exact d7) hout hRframes (by simp only [List.map_cons, List.sum_cons, hcat]; omega) hlocks
  obtain ⟨f1, f2⟩ := vx_frame hsame
  rw [hhp] at f1 f2
  have hWs : s.WarmedH U.vm := State.WarmedH.trans hW0 hW
  have hcl : s.vm.findClass cls = some ce.cls := by
    have h9 := hO.cls
    rw [hvm] at h9
    exact h9
  have hall : s.sameButNew ({ U with vm := s.vm } : State) locs (cells + 1) (slots + 6) := by
    subst hA
    obtain ⟨e1, e2⟩ := hsame
    rw [State.setFrames_setFrames] at e1
    have h2 : (T.setVm s.vm).sameButNew ({ U with vm := s.vm } : State) [] (0 + 1) (0 + 6) := ⟨e1, e2⟩
    have h3 := X.same.trans h2
    rw [List.append_nil] at h3
    exact h3
  have hs1 : U.heap.size = H.size + 1 := by
    have g1 : U.heap.size ≤ H.size + 1 := by
      have g2 : ({ U with vm := s'.vm } : State).heap.size ≤ s'.heap.size + (0 + 1) := hsame.2.2.1
      rw [hhp] at g2
      exact g2
    have g3 := (Array.getElem?_eq_some_iff.mp hce).1
    rw [hT] at g3
    omega
  rw [hT] at hend hce
  refine ⟨U, ?_, kk U ce hrun hend hs1 (fun q hq => f2 q hq (fun z hz => nomatch hz)) hce hO.vm hcl hWs hall⟩
  refine st1 _ ?_
  show Steps p.tables e below (T1.setTop { method := m, pc := pc + 3, locals := ls, stack := .ref T.heap.size :: rest, locked := none }) _
  jvm_step X₁.here [X₁.here.top, hexec, d3', Value.category]
  exact hsteps
section Ed
variable {k pc : Nat} {L r : List Value} {h : MH_} {Q : Rs_ → MH_ → Prop}
theorem e_acp {x s d t : Nat} {sp dp n : Int32} {h1 : MH_} {α : Type} (mk : α → Value) (fn : Nat → Nat → α) (hd : decode (mc_ k) pc = .ok (.invokestatic x, 3)) {cq : Nat} (hx : lk_ lT_ (mo_ k) x = some (7, cq)) (hr : r.length ≤ 20) (hsp : ¬ sp < 0) (hdp : ¬ dp < 0) (hn : ¬ n < 0) (h4 : sp.toNatClampNeg + n.toNatClampNeg ≤ ln_ h s) (h5 : dp.toNatClampNeg + n.toNatClampNeg ≤ ln_ h d)
    (hks : kd_ h s = t) (hkd : kd_ h d = t) (t1 : 30 ≤ t) (t2 : t ≤ 36) (hav : ∀ a j, av_ t h a j = mk (fn a j))
    (hfit : ∀ (D : Dg_) (st : State) (H : Heap), KD_ D st → RH_ D h H → (refKind (aty_ t) = false ∧ (∀ x, fits (aty_ t) (mk x) = true) ∨ refKind (aty_ t) = true ∧ (∀ i : Nat, i < n.toNatClampNeg → mk (fn s (sp.toNatClampNeg + i)) = .null ∨ ∃ y : Nat, mk (fn s (sp.toNatClampNeg + i)) = .ref y ∧ ∃ cellV : Cell, H[y]? = some cellV ∧ cellV.vm.isStatics = false ∧ (∃ kC : Class, st.vm.classes[cellV.cls]? = some kC) ∧ ∀ kA comp, st.vm.classes[dA_ D t]? = some kA → kA.kind = .array comp (aty_ t) → (∃ kE : Class, st.vm.classes[comp]? = some kE) ∧ st.vm.assignable cellV.cls comp = true)))
    (e1 : kd_ h1 = kd_ h) (e2 : ln_ h1 = ln_ h) (e3 : nx_ h1 = nx_ h) (e4 : em_ h1 = em_ h ∧ mi_ h1 = mi_ h) (e5 : rc_ h1 = rc_ h) (e6 : rs_ h1 = rs_ h) (o1 : ∀ b i, b ≠ d → gI_ h1 b i = gI_ h b i) (o2 : ∀ b i, b ≠ d → gJ_ h1 b i = gJ_ h b i) (o3 : ∀ b i, b ≠ d → gP_ h1 b i = gP_ h b i)
    (ev : ∀ j, av_ t h1 d j = mk (va_cpy (fn s) (fn d) sp.toNatClampNeg dp.toNatClampNeg n.toNatClampNeg j)) (K : Ev_ k (pc + 3) L r h1 Q) : Ev_ k pc L (.int n :: .int dp :: .ref d :: .int sp :: .ref s :: r) h Q := by
  intro D p l e R st m args below meth c hC hK H locs cells slots ls hH hc hs hl hL
  have hts := hC.2.2.2.2.2.2.2.2.1
  obtain ⟨p9, hp9⟩ := lT_ok _ (lk_mem hx)
  have hlk : Cond.methodLink (ow_ (mo_ k)) x arraycopyName ∈ wg_ := at_in hp9
  have hm9 := (mt_facts hC.2.2.2.2.2.2.2.2.2.2.2.2).2.2.2.2.1
  have hfr := hC.2.2.2.2.2.2.2.2.2.1
  have hlc := hC.2.2.2.2.2.2.2.2.2.2.1
  have hsum := cat_sum r
  have hw : nativeFrameWords "java/lang/System" "arraycopy" 5 ≤ 100 := by decide
  have ha0 := hH.arr hks t1 t2
  have ha1 := hH.arr hkd t1 t2
  rw [show av_ t h s = fun j => mk (fn s j) from funext (hav s)] at ha0
  rw [show av_ t h d = fun j => mk (fn d j) from funext (hav d)] at ha1
  have hlo := hH.lo (a := d) (by rw [hkd]; omega) (by rw [hkd]; omega)
  refine W_acp mk hC.1 hC.2.1 (by rw [hC.2.2.2.1]; exact hL.1.symm) hC.2.2.2.2.2.2.2.1 (hts _ hlk) (hts _ (at_in x_acn)) (hts _ (at_in x_acs)) (hts _ (at_in x_aci)) ha0 ha1 (hK.2.1 t t1 t2).1 hsp hdp hn h4 h5 (hfit D st H hK hH) (by omega) (by omega) hd ?_
  intro H1 z oq hce L2 hL2
  refine K D p l e R st m args below meth c hC hK H1 _ cells slots ls (hH.put (by rw [hkd]; omega) (by rw [hkd]; omega) z oq e1 e2 e3 e4 o1 o2 o3 ?_) (by rw [e5]; exact hc) (by rw [e6]; exact hs) ?_ hL
  · right; right; left
    rw [e1, e2, hkd]
    refine ⟨t1, t2, hlo, ?_⟩
    rw [hce, show av_ t h1 d = fun j => mk (va_cpy (fn s) (fn d) sp.toNatClampNeg dp.toNatClampNeg n.toNatClampNeg j) from funext ev]
  · intro y hy
    rcases List.mem_append.mp hy with hy | hy
    · exact hl y hy
    · rw [hL2 y hy]; exact hlo
theorem e_acpI {x s d : Nat} {sp dp n : Int32} (hd : decode (mc_ k) pc = .ok (.invokestatic x, 3)) {cq : Nat} (hx : lk_ lT_ (mo_ k) x = some (7, cq)) (hr : r.length ≤ 20) (hsp : ¬ sp < 0) (hdp : ¬ dp < 0) (hn : ¬ n < 0) (h4 : sp.toNatClampNeg + n.toNatClampNeg ≤ ln_ h s) (h5 : dp.toNatClampNeg + n.toNatClampNeg ≤ ln_ h d) (hks : kd_ h s = 30) (hkd : kd_ h d = 30)
    (K : Ev_ k (pc + 3) L r (cI_ h s sp.toNatClampNeg d dp.toNatClampNeg n.toNatClampNeg) Q) : Ev_ k pc L (.int n :: .int dp :: .ref d :: .int sp :: .ref s :: r) h Q := by
  refine e_acp (t := 30) (h1 := cI_ h s sp.toNatClampNeg d dp.toNatClampNeg n.toNatClampNeg) (fun z : Int32 => .int z) (fun a j => gI_ h a j) hd hx hr hsp hdp hn h4 h5 hks hkd (by omega) (by omega) (fun a j => by simp [av_]) (fun _ _ _ _ _ => Or.inl ⟨rfl, fun _ => rfl⟩) rfl rfl rfl ⟨rfl, rfl⟩ rfl rfl (fun b i hb => by simp [cI_, gI_, hb]) (fun _ _ _ => rfl) (fun _ _ _ => rfl) (fun j => ?_) K
  simp [av_, cI_, gI_, va_cpy]
theorem e_acpP {x s d : Nat} {sp dp n : Int32} (hd : decode (mc_ k) pc = .ok (.invokestatic x, 3)) {cq : Nat} (hx : lk_ lT_ (mo_ k) x = some (7, cq)) (hr : r.length ≤ 20) (hsp : ¬ sp < 0) (hdp : ¬ dp < 0) (hn : ¬ n < 0) (h4 : sp.toNatClampNeg + n.toNatClampNeg ≤ ln_ h s) (h5 : dp.toNatClampNeg + n.toNatClampNeg ≤ ln_ h d) (hks : kd_ h s = 34) (hkd : kd_ h d = 34)
    (hel : ∀ i y, i < n.toNatClampNeg → gP_ h s (sp.toNatClampNeg + i) = some y → 1 ≤ kd_ h y ∧ kd_ h y ≤ 14)
    (K : Ev_ k (pc + 3) L r (cP_ h s sp.toNatClampNeg d dp.toNatClampNeg n.toNatClampNeg) Q) : Ev_ k pc L (.int n :: .int dp :: .ref d :: .int sp :: .ref s :: r) h Q := by
  refine e_acp (t := 34) (h1 := cP_ h s sp.toNatClampNeg d dp.toNatClampNeg n.toNatClampNeg) (fun z : Option Nat => va_rf z) (fun a j => gP_ h a j) hd hx hr hsp hdp hn h4 h5 hks hkd (by omega) (by omega) (fun a j => by simp [av_]) (fun D st H hK hH => Or.inr ⟨rfl, fun i hi => ?_⟩) rfl rfl rfl ⟨rfl, rfl⟩ rfl rfl (fun _ _ _ => rfl) (fun _ _ _ => rfl) (fun b i hb => by simp [cP_, gP_, hb]) (fun j => ?_) K
  · cases hy : gP_ h s (sp.toNatClampNeg + i) with
    | none => exact Or.inl rfl
    | some y =>
      right
      obtain ⟨v1, v2⟩ := hel i y hi hy
      obtain ⟨cellV, g1, g2, g3, -⟩ := hH.obj (a := y) rfl v1 v2
      obtain ⟨CV, TV, NV, hcl, -, hkn, -, -⟩ := cl_spec v1 v2
      have hcls := (hK.1 (kd_ h y - 1) _ hcl).2
      obtain ⟨kC, hkC, -⟩ := hcls.2
      refine ⟨y, rfl, cellV, g1, by rw [g3]; rfl, ⟨kC, by rw [g2]; exact hkC⟩, fun kA comp q1 q2 => ?_⟩
      obtain ⟨kA', comp', k1, k2, k3, -⟩ := (hK.2.1 34 (by omega) (by omega)).2
      cases k1.symm.trans q1
      cases k2.symm.trans q2
      obtain ⟨kE, hkE, -⟩ := Vm.findClass_spec k3
      have hw := hK.2.2.2.1 _ (tn_in (List.all_eq_true.mp ob_cast (kd_ h y - 1) (List.mem_range.mpr (by omega))))
      rw [show kd_ h y - 1 + 1 = kd_ h y by omega, hkn] at hw
      obtain ⟨c0, t0, f1, f2, f3⟩ := Cond.castable_spec (va_Nw.use (A := #[]) rfl hw)
      cases hcls.1.symm.trans f1
      cases k3.symm.trans f2
      exact ⟨⟨kE, hkE⟩, by rw [g2]; exact f3⟩
  · simp [av_, cP_, gP_, va_cpy]
theorem xT_ok2 : xT_.all (fun q => (vx_at0 (ow_ q.1) q.2.1 (kn_ q.2.2) ex_).all vx_ot) = true := by decide +kernel
theorem xT_spec {o x t : Nat} (hl : lk_ xT_ o x = some t) : ∀ w ∈ vx_at0 (ow_ o) x (kn_ t) ex_, w ∈ wg_ ∨ (w ∈ wn_ ∧ w.onTables = true) := by
  intro w hw
  have h1 := List.all_eq_true.mp (List.all_eq_true.mp xT_ok _ (lk_mem hl)) w hw
  have h2 := List.all_eq_true.mp (List.all_eq_true.mp xT_ok2 _ (lk_mem hl)) w hw
  simp only [Bool.or_eq_true] at h1
  rcases h1 with h1 | h1
  · exact Or.inl (tw_in h1)
  · simp only [vx_ot, Bool.or_eq_true] at h2
    rcases h2 with h2 | h2
    · exact Or.inr ⟨tn_in h1, h2⟩
    · simp only [tn_, Bool.and_eq_true, decide_eq_true_eq] at h1
      exact Or.inl (List.mem_filter.mpr ⟨h1.1, h2⟩)
theorem wg_tab {w : Cond} (h : w ∈ wg_) : vx_ot w = true := by
  have hn := (List.mem_filter.mp h).2
  simp [vx_ot, hn]
theorem kn_exc {t : Nat} (h1 : 20 ≤ t) (h2 : t ≤ 24) : kn_ t = xn_.getD (t - 20) "" ∧ Bundle.fit (kn_ t) = true ∧ Cond.initialized (kn_ t) ∈ wg_ := by
  rcases (show t = 20 ∨ t = 21 ∨ t = 22 ∨ t = 23 ∨ t = 24 by omega) with rfl | rfl | rfl | rfl | rfl
  all_goals exact ⟨rfl, by decide +kernel, tw_in (by decide +kernel)⟩
theorem e_throw {x ic t : Nat} (hl : lk_ cT_ (mo_ k) x = some t) (hic : lk_ xT_ (mo_ k) ic = some t) (t1 : 20 ≤ t) (t2 : t ≤ 24) (hm : mh_ k = []) (hr : r.length ≤ 20) (hrc : 1 ≤ rc_ h) (hrs : 6 ≤ rs_ h) (d0 : decode (mc_ k) pc = .ok (.new x, 3)) (d3 : decode (mc_ k) (pc + 3) = .ok (.dup, 1)) (d4 : decode (mc_ k) (pc + 4) = .ok (.invokespecial ic, 3)) (d7 : decode (mc_ k) (pc + 7) = .ok (.athrow, 1))
    (hQ : Q (.inr (nx_ h)) (nw_ h t 0 6)) : Ev_ k pc L r h Q := by
  intro D p l e R s m args below meth c hC hK H locs cells slots ls hH hc hs hlo hL
  have hts := hC.2.2.2.2.2.2.2.2.1
  have hlk := cT_spec hl
  obtain ⟨kn1, kn2, kn3⟩ := kn_exc t1 t2
  have hm9 := (mt_facts hC.2.2.2.2.2.2.2.2.2.2.2.2).2.2.2.2.1
  have hfr := hC.2.2.2.2.2.2.2.2.2.1
  have hlc := hC.2.2.2.2.2.2.2.2.2.2.1
  have hsum := cat_sum r
  obtain ⟨hd1, hd2⟩ := hK.2.2.2.2.2.2.2.2.2.2.2
  intro T hT X
  have hsz : s.heap.size ≤ H.size := by rw [← hT]; exact X.same.2.1
  have hS : va_S (ol_ D) s.heap H locs := ⟨hsz, fun q hq hn => by
    have hq2 : q < (dH_ D).size := Nat.not_le.mp hn
    rw [hH.2.2.1 q hq2, hd2 q hq2], hlo⟩
  have hU : vx_Zq Bundle.tN "UNASSIGNED_STACK" Bundle.steD (ol_ D) s s.heap := hK.2.2.2.2.2.1.kept (fun a ha _ => hd2 a ha)
  have hN : vx_Zq Bundle.tN "SUPPRESSED_SENTINEL" Bundle.listD (ol_ D) s s.heap := hK.2.2.2.2.2.2.1.kept (fun a ha _ => hd2 a ha)
  have hex : ∀ n ∈ ex_, Bundle.fit n = true := by decide +kernel
  have hat : ∀ w ∈ vx_at0 (ow_ (mo_ k)) ic (kn_ t) ex_, w.before args s = true := fun w hw => by
    rcases xT_spec hic w hw with q | q
    · exact hts w q
    · exact va_Nw.use q.2 (hK.2.2.2.1 w q.1)
  have hgood : ∀ w ∈ Cond.classLink (ow_ (mo_ k)) x (kn_ t) :: Cond.initialized (kn_ t) :: vx_at0 (ow_ (mo_ k)) ic (kn_ t) ex_, vx_ot w = true := by
    intro w hw
    rcases List.mem_cons.mp hw with rfl | hw
    · exact wg_tab hlk
    · rcases List.mem_cons.mp hw with rfl | hw
      · exact wg_tab kn3
      · rcases xT_spec hic w hw with q | q
        · exact wg_tab q
        · simp [vx_ot, q.2]
  have hout : ∀ x ∈ c.exceptionTable.toList, covers x (pc + 7) = false := by
    rw [hC.2.2.2.2.2.2.2.2.2.2.2.1, hm]
    intro x hx
    cases hx
  have hxn := hK.2.2.1 (t - 20) (by omega)
  rw [← kn1] at hxn
  refine W_throw hC.1 hC.2.1 hC.2.2.1 hC.2.2.2.2.2.2.2.1 kn2 hex (hts _ hlk) (hts _ kn3) hat hgood hU hN hS (by rw [hC.2.2.2.1]; exact hL.1) d0 d3 d4 d7 hout (by show 2 + 3 < _; omega) (by show _ + (13 * 3 + 42) ≤ _; omega) (by omega) (by omega) hC.2.2.2.2.2.1 ?_ T hT X
  intro U ce u1 u2 u3 u4 u5 u6 u7 u8 u9
  have hlow : (dH_ D).size ≤ nx_ h := by rw [← hH.1]; exact hH.2.1
  refine ⟨.threw H.size, .inr (nx_ h), nw_ h t 0 6, locs, cells + 1, slots + 6, u1, u2, ?_, hQ, hH.new u3 u4 ?_, u8, u9, ?_, ?_, hlo⟩
  · have ek : kd_ (nw_ h t 0 6) (nx_ h) = t := by simp [nw_, kd_]
    rw [hH.1]
    exact ⟨rfl, by rw [ek]; exact t1, by rw [ek]; exact t2⟩
  · right; left
    have ek : kd_ (nw_ h t 0 6) (nx_ h) = t := by simp [nw_, kd_]
    rw [ek]
    refine ⟨t1, t2, hlow, ce, by rw [← hH.1]; exact u5, u6, ?_⟩
    exact Option.some.inj (u7.symm.trans hxn)
  · show cells + 1 + (rc_ h - 1) ≤ _
    omega
  · show slots + 6 + (rs_ h - 6) ≤ _
    omega
end Ed
