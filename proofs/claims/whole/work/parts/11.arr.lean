/-! ===== arrays, new cells, casts ===== -/
theorem fl_no : ∀ t, 1 ≤ t → t ≤ 14 → ∀ j, j < nf_ t → ¬ (fty_ t j = .float ∨ fty_ t j = .double) := by
  have h : ∀ t, t < 14 → ∀ j, j < 46 → j < nf_ (t + 1) → ¬ (fty_ (t + 1) j = .float ∨ fty_ (t + 1) j = .double) := by decide +kernel
  have hb : ∀ t, t < 14 → nf_ (t + 1) ≤ 46 := by decide +kernel
  intro t h1 h2 j hj
  have e : t - 1 + 1 = t := by omega
  have h3 := hb (t - 1) (by omega)
  rw [e] at h3
  have h4 := h (t - 1) (by omega) j (by omega)
  rw [e] at h4
  exact h4 hj
section Ea
variable {k pc : Nat} {L r : List Value} {h : MH_} {Q : Rs_ → MH_ → Prop}
theorem ar_of {D : Dg_} {s : State} (hK : KD_ D s) {t : Nat} (h1 : 30 ≤ t) (h2 : t ≤ 36) (n : Nat) (f : Nat → Value) : s.isArrayOf (arrV (dA_ D t) n f) (aty_ t) := (hK.2.1 t h1 h2).1 n f
theorem ix_lt {i : Int32} {n : Nat} (hi : vp_in i n) : i.toNatClampNeg < n := Nat.not_le.mp fun q => hi (Or.inr q)
theorem e_len {a : Nat} (hd : decode (mc_ k) pc = .ok (.arraylength, 1)) (ha : 30 ≤ kd_ h a ∧ kd_ h a ≤ 38) (K : Ev_ k (pc + 1) L (.int (Int32.ofNat (ln_ h a)) :: r) h Q) : Ev_ k pc L (.ref a :: r) h Q := by
  intro D p l e R s m args below meth c hC hK H locs cells slots ls hH hc hs hl hL
  have K := K D p l e R s m args below meth c hC hK H locs cells slots ls hH hc hs hl hL
  rcases hH.2.2.2.2 a (by omega) with q | q | ⟨q1, q2, q3, q4⟩ | ⟨q1, q2, q3, q4⟩ | ⟨q1, q2, q3⟩
  · omega
  · omega
  · exact W.alen hC.1 hC.2.1 q4 (ar_of hK q1 q2 _ _) (by rw [arrV_size]) rfl rfl hd K
  · obtain ⟨scr, x1, x2, x3, x4, x5⟩ := hK.2.2.2.2.2.2.2.2.2.1
    subst q2
    have hb : dB_ D < (dH_ D).size := (Array.getElem?_eq_some_iff.mp x1).1
    exact W.alen hC.1 hC.2.1 (by rw [hH.2.2.1 _ hb]; exact x1) x2 (by rw [x4, q3]) rfl rfl hd K
  · obtain ⟨cell, x1, x2, x3, x4⟩ := hK.2.2.2.2.2.2.2.2.1
    subst q2
    have hb : dE_ D < (dH_ D).size := (Array.getElem?_eq_some_iff.mp x1).1
    exact W.alen hC.1 hC.2.1 (by rw [hH.2.2.1 _ hb]; exact x1) x2 (by rw [x4, q3]) rfl rfl hd K
theorem e_iald {a : Nat} {i : Int32} (hd : decode (mc_ k) pc = .ok (.iaload, 1)) (hi : vp_in i (ln_ h a)) (ha : kd_ h a = 30 ∨ kd_ h a = 37) (K : Ev_ k (pc + 1) L (.int (gI_ h a i.toNatClampNeg) :: r) h Q) : Ev_ k pc L (.int i :: .ref a :: r) h Q := by
  intro D p l e R s m args below meth c hC hK H locs cells slots ls hH hc hs hl hL
  have K := K D p l e R s m args below meth c hC hK H locs cells slots ls hH hc hs hl hL
  rcases ha with ha | ha
  · exact W.iald hC.1 hC.2.1 (hH.arr ha (by omega) (by omega)) (ar_of hK (t := 30) (by omega) (by omega) _ _) (fun q => by cases q) (by rw [arrV_size]; exact hi) (by rw [arrV_read _ _ (ix_lt hi)]; rfl) rfl rfl hd K
  · rcases hH.2.2.2.2 a (by omega) with q | q | q | ⟨q1, q2, q3, q4⟩ | q
    · omega
    · omega
    · omega
    · obtain ⟨scr, x1, x2, x3, x4, x5⟩ := hK.2.2.2.2.2.2.2.2.2.1
      subst q2
      rw [q3] at hi
      have hb : dB_ D < (dH_ D).size := (Array.getElem?_eq_some_iff.mp x1).1
      rw [q4 _ (ix_lt hi)] at K
      exact W.iald hC.1 hC.2.1 (by rw [hH.2.2.1 _ hb]; exact x1) x2 x3 (by rw [x4]; exact hi) (x5 _ (ix_lt hi)) rfl rfl hd K
    · omega
theorem e_bald {a : Nat} {i : Int32} (hd : decode (mc_ k) pc = .ok (.baload, 1)) (hi : vp_in i (ln_ h a)) (ha : kd_ h a = 31 ∨ kd_ h a = 32) (K : Ev_ k (pc + 1) L (.int (gI_ h a i.toNatClampNeg) :: r) h Q) : Ev_ k pc L (.int i :: .ref a :: r) h Q := by
  intro D p l e R s m args below meth c hC hK H locs cells slots ls hH hc hs hl hL
  have K := K D p l e R s m args below meth c hC hK H locs cells slots ls hH hc hs hl hL
  rcases ha with ha | ha
  · exact W.bald hC.1 hC.2.1 (hH.arr ha (by omega) (by omega)) (ar_of hK (t := 31) (by omega) (by omega) _ _) (fun q => by cases q) (by rw [arrV_size]; exact hi) (by rw [arrV_read _ _ (ix_lt hi)]; rfl) rfl rfl hd K
  · exact W.zald hC.1 hC.2.1 (hH.arr ha (by omega) (by omega)) (ar_of hK (t := 32) (by omega) (by omega) _ _) (fun q => by cases q) (by rw [arrV_size]; exact hi) (by rw [arrV_read _ _ (ix_lt hi)]; rfl) rfl rfl hd K
theorem e_lald {a : Nat} {i : Int32} (hd : decode (mc_ k) pc = .ok (.laload, 1)) (hi : vp_in i (ln_ h a)) (ha : kd_ h a = 33) (K : Ev_ k (pc + 1) L (.long (gJ_ h a i.toNatClampNeg) :: r) h Q) : Ev_ k pc L (.int i :: .ref a :: r) h Q := by
  intro D p l e R s m args below meth c hC hK H locs cells slots ls hH hc hs hl hL
  have K := K D p l e R s m args below meth c hC hK H locs cells slots ls hH hc hs hl hL
  exact W.lald hC.1 hC.2.1 (hH.arr ha (by omega) (by omega)) (ar_of hK (t := 33) (by omega) (by omega) _ _) (fun q => by cases q) (by rw [arrV_size]; exact hi) (by rw [arrV_read _ _ (ix_lt hi)]; rfl) rfl rfl hd K
theorem aty_ref {t : Nat} (h1 : 34 ≤ t) (h2 : t ≤ 36) : ∃ C, aty_ t = .object C := by
  rcases (show t = 34 ∨ t = 35 ∨ t = 36 by omega) with rfl | rfl | rfl <;> exact ⟨_, rfl⟩
theorem e_aald {a b : Nat} {i : Int32} (hd : decode (mc_ k) pc = .ok (.aaload, 1)) (hi : vp_in i (ln_ h a)) (ha : 34 ≤ kd_ h a ∧ kd_ h a ≤ 36) (hb : gP_ h a i.toNatClampNeg = some b) (K : Ev_ k (pc + 1) L (.ref b :: r) h Q) : Ev_ k pc L (.int i :: .ref a :: r) h Q := by
  intro D p l e R s m args below meth c hC hK H locs cells slots ls hH hc hs hl hL
  have K := K D p l e R s m args below meth c hC hK H locs cells slots ls hH hc hs hl hL
  obtain ⟨C, hC2⟩ := aty_ref ha.1 ha.2
  refine W.aald hC.1 hC.2.1 (hH.arr rfl (by omega) ha.2) (ar_of hK (t := kd_ h a) (by omega) ha.2 _ _) (by rw [hC2]; rfl) (fun q => by cases q) (by rw [arrV_size]; exact hi) (v := .ref b) (by
    rw [arrV_read _ _ (ix_lt hi)]
    have e1 : ¬ kd_ h a ≤ 32 := by omega
    have e2 : ¬ kd_ h a = 33 := by omega
    simp [av_, e1, e2, hb, va_rf]) rfl rfl hd K
/-- a store into a row -/
theorem e_ast {a t i : Nat} {v : Value} {h1 : MH_} (ha : kd_ h a = t) (t1 : 30 ≤ t) (t2 : t ≤ 36)
    (e1 : kd_ h1 = kd_ h) (e2 : ln_ h1 = ln_ h) (e3 : nx_ h1 = nx_ h) (e4 : em_ h1 = em_ h ∧ mi_ h1 = mi_ h) (e5 : rc_ h1 = rc_ h) (e6 : rs_ h1 = rs_ h) (o1 : ∀ b i, b ≠ a → gI_ h1 b i = gI_ h b i) (o2 : ∀ b i, b ≠ a → gJ_ h1 b i = gJ_ h b i) (o3 : ∀ b i, b ≠ a → gP_ h1 b i = gP_ h b i)
    (ev : av_ t h1 a = updV (av_ t h a) i v) {pc' : Nat} (K : Ev_ k pc' L r h1 Q) (D : Dg_) (p : Program) (l : Launch) (e : Env) (R : Room) (s : State) (m : MethodId) (args : Array Value) (below : List Frame) (meth : Method) (c : Code) (hC : Cx_ k p l R s m args meth c) (hK : KD_ D s) (H : Heap) (locs : List Loc) (cells slots : Nat) (ls : Array Slot) (hH : RH_ D h H) (hc : cells + rc_ h ≤ R.cells) (hs : slots + rs_ h ≤ R.slots) (hl : ∀ z ∈ locs, (dH_ D).size ≤ z.base) (hL : LR_ ls (ml_ k) L)
    (H' : Heap) (z1 : H'[a]? = some ((arrV (dA_ D t) (ln_ h a) (av_ t h a)).setSlot i v)) (z2 : H'.size = H.size) (z3 : ∀ q, q ≠ a → H'[q]? = H[q]?) : W p l e R s m args below meth c H' (locs ++ [⟨a, i⟩]) cells slots (EP_ (mr_ k) D R s below Q) (F0 m pc' ls r) := by
  have hlo := hH.lo (a := a) (by rw [ha]; omega) (by rw [ha]; omega)
  refine K D p l e R s m args below meth c hC hK H' _ cells slots ls (hH.put (by rw [ha]; omega) (by rw [ha]; omega) z2 z3 e1 e2 e3 e4 o1 o2 o3 ?_) (by rw [e5]; exact hc) (by rw [e6]; exact hs) ?_ hL
  · right; right; left
    rw [e1, e2, ha]
    refine ⟨t1, t2, hlo, ?_⟩
    rw [z1, arrV_store, ev]
  · intro z hz
    rcases List.mem_append.mp hz with hz | hz
    · exact hl z hz
    · rw [List.mem_singleton.mp hz]; exact hlo
theorem avI {t a i : Nat} {x : Int32} (ht : t ≤ 32) : av_ t (sI_ h a i x) a = updV (av_ t h a) i (.int x) := by
  funext q
  by_cases hq : q = i
  · subst hq; simp [av_, ht, sI_, gI_, updV]
  · simp [av_, ht, sI_, gI_, updV, hq]
theorem avJ {a i : Nat} {x : Int64} : av_ 33 (sJ_ h a i x) a = updV (av_ 33 h a) i (.long x) := by
  funext q
  by_cases hq : q = i
  · subst hq; simp [av_, sJ_, gJ_, updV]
  · simp [av_, sJ_, gJ_, updV, hq]
theorem avP {t a i : Nat} {x : Option Nat} (ht : 34 ≤ t) : av_ t (sP_ h a i x) a = updV (av_ t h a) i (va_rf x) := by
  have e1 : ¬ t ≤ 32 := by omega
  have e2 : ¬ t = 33 := by omega
  funext q
  by_cases hq : q = i
  · subst hq; simp [av_, e1, e2, sP_, gP_, updV]
  · simp [av_, e1, e2, sP_, gP_, updV, hq]
theorem e_iast {a : Nat} {i x : Int32} (hd : decode (mc_ k) pc = .ok (.iastore, 1)) (hi : vp_in i (ln_ h a)) (ha : kd_ h a = 30) (K : Ev_ k (pc + 1) L r (sI_ h a i.toNatClampNeg x) Q) : Ev_ k pc L (.int x :: .int i :: .ref a :: r) h Q := by
  intro D p l e R s m args below meth c hC hK H locs cells slots ls hH hc hs hl hL
  exact W.iast hC.1 hC.2.1 (hH.arr ha (by omega) (by omega)) (ar_of hK (t := 30) (by omega) (by omega) _ _) (fun q => by cases q) (by rw [arrV_size]; exact hi) rfl rfl hd
    (e_ast (h1 := sI_ h a i.toNatClampNeg x) ha (by omega) (by omega) rfl rfl rfl ⟨rfl, rfl⟩ rfl rfl (fun b q hb => by simp [sI_, gI_, hb]) (fun _ _ _ => rfl) (fun _ _ _ => rfl) (avI (by omega)) K D p l e R s m args below meth c hC hK H locs cells slots ls hH hc hs hl hL)
theorem e_bast {a : Nat} {i x : Int32} (hd : decode (mc_ k) pc = .ok (.bastore, 1)) (hi : vp_in i (ln_ h a)) (ha : kd_ h a = 31) (K : Ev_ k (pc + 1) L r (sI_ h a i.toNatClampNeg x.toInt8.toInt32) Q) : Ev_ k pc L (.int x :: .int i :: .ref a :: r) h Q := by
  intro D p l e R s m args below meth c hC hK H locs cells slots ls hH hc hs hl hL
  refine W.bast hC.1 hC.2.1 (hH.arr ha (by omega) (by omega)) (ar_of hK (t := 31) (by omega) (by omega) _ _) (fun q => by cases q) (by rw [arrV_size]; exact hi) rfl rfl hd ?_
  exact (e_ast (v := narrow .byte (.int x)) (h1 := sI_ h a i.toNatClampNeg x.toInt8.toInt32) ha (by omega) (by omega) rfl rfl rfl ⟨rfl, rfl⟩ rfl rfl (fun b q hb => by simp [sI_, gI_, hb]) (fun _ _ _ => rfl) (fun _ _ _ => rfl) (avI (by omega)) K D p l e R s m args below meth c hC hK H locs cells slots ls hH hc hs hl hL)
theorem e_zast {a : Nat} {i x : Int32} (hd : decode (mc_ k) pc = .ok (.bastore, 1)) (hi : vp_in i (ln_ h a)) (ha : kd_ h a = 32) (hx : x = 0 ∨ x = 1) (K : Ev_ k (pc + 1) L r (sI_ h a i.toNatClampNeg x) Q) : Ev_ k pc L (.int x :: .int i :: .ref a :: r) h Q := by
  intro D p l e R s m args below meth c hC hK H locs cells slots ls hH hc hs hl hL
  refine W.zast hC.1 hC.2.1 (hH.arr ha (by omega) (by omega)) (ar_of hK (t := 32) (by omega) (by omega) _ _) (fun q => by cases q) (by rw [arrV_size]; exact hi) rfl rfl hd ?_
  have hn : narrow .boolean (.int x) = .int x := by rcases hx with rfl | rfl <;> decide
  rw [hn]
  exact (e_ast (h1 := sI_ h a i.toNatClampNeg x) ha (by omega) (by omega) rfl rfl rfl ⟨rfl, rfl⟩ rfl rfl (fun b q hb => by simp [sI_, gI_, hb]) (fun _ _ _ => rfl) (fun _ _ _ => rfl) (avI (by omega)) K D p l e R s m args below meth c hC hK H locs cells slots ls hH hc hs hl hL)
theorem e_last {a : Nat} {i : Int32} {x : Int64} (hd : decode (mc_ k) pc = .ok (.lastore, 1)) (hi : vp_in i (ln_ h a)) (ha : kd_ h a = 33) (K : Ev_ k (pc + 1) L r (sJ_ h a i.toNatClampNeg x) Q) : Ev_ k pc L (.long x :: .int i :: .ref a :: r) h Q := by
  intro D p l e R s m args below meth c hC hK H locs cells slots ls hH hc hs hl hL
  exact W.last hC.1 hC.2.1 (hH.arr ha (by omega) (by omega)) (ar_of hK (t := 33) (by omega) (by omega) _ _) (fun q => by cases q) (by rw [arrV_size]; exact hi) rfl rfl hd
    (e_ast (h1 := sJ_ h a i.toNatClampNeg x) ha (by omega) (by omega) rfl rfl rfl ⟨rfl, rfl⟩ rfl rfl (fun _ _ _ => rfl) (fun b q hb => by simp [sJ_, gJ_, hb]) (fun _ _ _ => rfl) avJ K D p l e R s m args below meth c hC hK H locs cells slots ls hH hc hs hl hL)
theorem e_aastN {a : Nat} {i : Int32} (hd : decode (mc_ k) pc = .ok (.aastore, 1)) (hi : vp_in i (ln_ h a)) (ha : kd_ h a = 34) (K : Ev_ k (pc + 1) L r (sP_ h a i.toNatClampNeg none) Q) : Ev_ k pc L (.null :: .int i :: .ref a :: r) h Q := by
  intro D p l e R s m args below meth c hC hK H locs cells slots ls hH hc hs hl hL
  exact va_WaastN (C := "java/lang/Object") hC.1 hC.2.1 (hH.arr ha (by omega) (by omega)) (ar_of hK (t := 34) (by omega) (by omega) _ _) (fun q => by cases q) (by rw [arrV_size]; exact hi) rfl rfl hd
    (e_ast (v := .null) (h1 := sP_ h a i.toNatClampNeg none) ha (by omega) (by omega) rfl rfl rfl ⟨rfl, rfl⟩ rfl rfl (fun _ _ _ => rfl) (fun _ _ _ => rfl) (fun b q hb => by simp [sP_, gP_, hb]) (avP (x := none) (by omega)) K D p l e R s m args below meth c hC hK H locs cells slots ls hH hc hs hl hL)
theorem ob_cast : (List.range 14).all (fun t => tn_ (.castable (kn_ (t + 1)) "java/lang/Object")) = true := by decide +kernel
theorem e_aast {a x : Nat} {i : Int32} (hd : decode (mc_ k) pc = .ok (.aastore, 1)) (hi : vp_in i (ln_ h a)) (hx : (kd_ h a = 34 ∧ 1 ≤ kd_ h x ∧ kd_ h x ≤ 14) ∨ (kd_ h a = 35 ∧ kd_ h x = 1) ∨ (kd_ h a = 36 ∧ kd_ h x = 10)) (K : Ev_ k (pc + 1) L r (sP_ h a i.toNatClampNeg (some x)) Q) : Ev_ k pc L (.ref x :: .int i :: .ref a :: r) h Q := by
  intro D p l e R s m args below meth c hC hK H locs cells slots ls hH hc hs hl hL
  have ha : 34 ≤ kd_ h a ∧ kd_ h a ≤ 36 := by omega
  have hv : 1 ≤ kd_ h x ∧ kd_ h x ≤ 14 := by omega
  obtain ⟨cellV, g1, g2, g3, -⟩ := hH.obj (a := x) rfl hv.1 hv.2
  obtain ⟨CV, TV, NV, hcl, -, hkn, -, -⟩ := cl_spec hv.1 hv.2
  have hcls := (hK.1 (kd_ h x - 1) _ hcl).2
  obtain ⟨kC, hkC, -⟩ := hcls.2
  have hRA := (hK.2.1 (kd_ h a) (by omega) ha.2).2
  obtain ⟨E, hE⟩ := aty_ref ha.1 ha.2
  rw [hE] at hRA
  obtain ⟨kA, comp, k1, k2, k3, -⟩ := hRA
  obtain ⟨kE, hkE, -⟩ := Vm.findClass_spec k3
  have hasg : s.vm.assignable cellV.cls comp = true := by
    rw [g2]
    rcases hx with ⟨q1, q2, q3⟩ | ⟨q1, q2⟩ | ⟨q1, q2⟩
    · rw [q1] at hE
      cases hE
      have hw := hK.2.2.2.1 _ (tn_in (List.all_eq_true.mp ob_cast (kd_ h x - 1) (List.mem_range.mpr (by omega))))
      rw [show kd_ h x - 1 + 1 = kd_ h x by omega, hkn] at hw
      obtain ⟨c0, t0, f1, f2, f3⟩ := Cond.castable_spec (va_Nw.use (A := args) rfl hw)
      cases hcls.1.symm.trans f1
      cases k3.symm.trans f2
      exact f3
    · rw [q1] at hE
      cases hE
      rw [q2] at hcl hcls ⊢
      cases hcl
      cases hcls.1.symm.trans k3
      exact va_assign hcls
    · rw [q1] at hE
      cases hE
      rw [q2] at hcl hcls ⊢
      cases hcl
      cases hcls.1.symm.trans k3
      exact va_assign hcls
  exact W.aast hC.1 hC.2.1 (hH.arr rfl (by omega) ha.2) (fun q h => by cases h) (fun h => by cases h) k1 k2 rfl hkE ⟨fun q => hi (Or.inl q), by rw [arrV_size]; exact ix_lt hi⟩ g1 (fun q h => by rw [g3] at h; cases h) (by rw [g2]; exact hkC) hasg rfl rfl hd
    (e_ast (v := .ref x) (h1 := sP_ h a i.toNatClampNeg (some x)) rfl (by omega) ha.2 rfl rfl rfl ⟨rfl, rfl⟩ rfl rfl (fun _ _ _ => rfl) (fun _ _ _ => rfl) (fun b q hb => by simp [sP_, gP_, hb]) (avP (x := some x) ha.1) K D p l e R s m args below meth c hC hK H locs cells slots ls hH hc hs hl hL)
theorem cT_spec {o x t : Nat} (hl : lk_ cT_ o x = some t) : Cond.classLink (ow_ o) x (kn_ t) ∈ wg_ := tw_in (List.all_eq_true.mp cT_ok _ (lk_mem hl))
theorem e_new {x t : Nat} (hd : decode (mc_ k) pc = .ok (.new x, 3)) (hx : lk_ cT_ (mo_ k) x = some t) (t1 : 1 ≤ t) (t2 : t ≤ 14) (hr : 1 ≤ rc_ h) (hn : nf_ t ≤ rs_ h) (K : Ev_ k (pc + 3) L (.ref (nx_ h) :: r) (nw_ h t 0 (nf_ t)) Q) : Ev_ k pc L r h Q := by
  intro D p l e R s m args below meth c hC hK H locs cells slots ls hH hc hs hl hL
  obtain ⟨C, T, N, hcl, hN, hkn, -, hty, -⟩ := cl_spec t1 t2
  have hts := hC.2.2.2.2.2.2.2.2.1
  obtain ⟨hin, hins, hini⟩ := cl_words hcl
  have hKn := hK.1 (t - 1) _ hcl
  have hlk := cT_spec hx
  rw [hkn] at hlk
  rw [← hN] at hins
  refine W.newcK hC.1 hC.2.1 hC.2.2.2.2.2.2.2.1 (hts _ hlk) (hts _ hins) (hts _ hini) rfl hd (by omega) (by omega) hKn.2.1 hH.1 fun H1 kC hkC e1 z1 o1 => ?_
  have hlo : (dH_ D).size ≤ nx_ h := by rw [← hH.1]; exact hH.2.1
  refine K D p l e R s m args below meth c hC hK H1 locs (cells + 1) (slots + nf_ t) ls (hH.new (by rw [z1, hH.1]) (fun q hq => o1 q (by rw [← hH.1]; exact hq)) ?_) ?_ ?_ hl hL
  · left
    have ek : kd_ (nw_ h t 0 (nf_ t)) (nx_ h) = t := by simp [nw_, kd_]
    rw [ek]
    refine ⟨t1, t2, hlo, ?_⟩
    have hb := u_born (fty_ t) hts hin hKn hkC e1 hty
    rw [hN]
    refine hb.to (fun j _ => ?_)
    simp only [fv_, nw_, gI_, gJ_, gP_, if_true]
    have : ∀ y : FieldType, y ≠ .float → y ≠ .double → defaultValue y = (match y with | .long => .long 0 | .object _ => va_rf none | .array _ => va_rf none | _ => .int 0) := by
      intro y h1 h2
      cases y <;> first | rfl | exact absurd rfl h1 | exact absurd rfl h2
    refine this _ ?_ ?_
    · intro hz
      exact fl_no t t1 t2 j (by rw [hN]; assumption) (Or.inl hz)
    · intro hz
      exact fl_no t t1 t2 j (by rw [hN]; assumption) (Or.inr hz)
  · show cells + 1 + (rc_ h - 1) ≤ _
    omega
  · show slots + nf_ t + (rs_ h - nf_ t) ≤ _
    omega
end Ea
