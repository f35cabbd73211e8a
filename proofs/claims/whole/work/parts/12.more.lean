/-! ===== new arrays, casts, natives, ends ===== -/
theorem cat_le (v : Value) : v.category ≤ 2 := by cases v <;> simp [Value.category]
theorem cat_sum : ∀ st : List Value, (st.map fun v => v.category).sum ≤ 2 * st.length
  | [] => by simp
  | v :: r => by
    have := cat_sum r
    have := cat_le v
    simp only [List.map_cons, List.sum_cons, List.length_cons]
    omega
theorem mt_facts {k : Nat} (hk : k < 248) : plainFor (my_ k) = true ∧ (my_ k).cls = ow_ (mo_ k) ∧ ((my_ k).cls ≠ "java/lang/invoke/MethodHandle" ∧ (my_ k).cls ≠ "java/lang/invoke/VarHandle") ∧ Cond.initialized (my_ k).cls ∈ wg_ ∧ 9 ≤ mp_ k ∧ ml_ k ≤ 20 := by
  obtain ⟨p, hp⟩ := mt_ok k hk
  simp only [mk_, Bool.and_eq_true, decide_eq_true_eq] at hp
  obtain ⟨⟨⟨⟨h1, h2⟩, h3⟩, h4⟩, h5⟩ := hp
  exact ⟨h1, h2, h3, at_in h4, h5⟩
section Em
variable {k pc : Nat} {L r : List Value} {h : MH_} {Q : Rs_ → MH_ → Prop}
theorem av_new {t n w : Nat} (h1 : 30 ≤ t) (h2 : t ≤ 36) : av_ t (nw_ h t n w) (nx_ h) = fun _ => defaultValue (aty_ t) := by
  funext i
  rcases (show t = 30 ∨ t = 31 ∨ t = 32 ∨ t = 33 ∨ t = 34 ∨ t = 35 ∨ t = 36 by omega) with rfl | rfl | rfl | rfl | rfl | rfl | rfl <;> simp [av_, nw_, gI_, gJ_, gP_, aty_, defaultValue, va_rf]
theorem co_new {D : Dg_} {H1 : Heap} {t n w : Nat} (h1 : 30 ≤ t) (h2 : t ≤ 36) (hlo : (dH_ D).size ≤ nx_ h) (he : H1[nx_ h]? = some (arrV (dA_ D t) n (fun _ => defaultValue (aty_ t)))) : CO_ D (nw_ h t n w) H1 (nx_ h) := by
  right; right; left
  have ek : kd_ (nw_ h t n w) (nx_ h) = t := by simp [nw_, kd_]
  have el : ln_ (nw_ h t n w) (nx_ h) = n := by simp [nw_, ln_]
  rw [ek, el, av_new h1 h2]
  exact ⟨h1, h2, hlo, he⟩
theorem e_newa {t : ArrayType} {x : Int32} (hd : decode (mc_ k) pc = .ok (.newarray t, 2)) (ht : 30 ≤ ak_ t) (hx : ¬ x < 0) (hb : x.toNatClampNeg ≤ 1000000) (hr : 1 ≤ rc_ h) (hn : x.toNatClampNeg ≤ rs_ h) (K : Ev_ k (pc + 2) L (.ref (nx_ h) :: r) (nw_ h (ak_ t) x.toNatClampNeg x.toNatClampNeg) Q) : Ev_ k pc L (.int x :: r) h Q := by
  intro D p l e R s m args below meth c hC hK H locs cells slots ls hH hc hs hl hL
  have hts := hC.2.2.2.2.2.2.2.2.1
  have ht2 : ak_ t ≤ 33 := by cases t <;> simp [ak_]
  have hty : newarray.typeOf t = aty_ (ak_ t) := by cases t <;> first | rfl | (simp [ak_] at ht)
  have harr : (Cond.arrayClass (newarray.typeOf t)).before args s = true := by
    cases t
    case int => exact hts (.arrayClass .int) (at_in x_acint)
    case byte => exact hts (.arrayClass .byte) (at_in x_acbyte)
    case boolean => exact hts (.arrayClass .boolean) (at_in x_acboolean)
    case long => exact hts (.arrayClass .long) (at_in x_aclong)
    all_goals (simp [ak_] at ht)
  have hcb : componentBytes (newarray.typeOf t) ≤ 8 := by cases t <;> simp [newarray.typeOf, componentBytes]
  refine va_newaK (g := F0 m pc ls (.int x :: r)) hC.1 hC.2.1 harr rfl hd rfl hx rfl (by
    have h1 := Nat.mul_le_mul hb hcb
    omega) (by omega) (by omega) hH.1 fun H1 cA e1 z1 o1 hAr hNm => ?_
  have hRA := (hK.2.1 (ak_ t) ht (by omega)).2
  have hcA : cA = dA_ D (ak_ t) := by
    rw [hty] at hNm
    have h2 : s.vm.findClass ("[" ++ (aty_ (ak_ t)).toString) = some (dA_ D (ak_ t)) := by
      rcases (show ak_ t = 30 ∨ ak_ t = 31 ∨ ak_ t = 32 ∨ ak_ t = 33 by omega) with q | q | q | q <;> rw [q] at hRA ⊢ <;> exact hRA
    exact Option.some.inj (hNm.symm.trans h2)
  subst hcA
  rw [hty] at e1
  have hlo : (dH_ D).size ≤ nx_ h := by rw [← hH.1]; exact hH.2.1
  refine K D p l e R s m args below meth c hC hK H1 locs (cells + 1) (slots + x.toNatClampNeg) ls (hH.new (by rw [z1, hH.1]) (fun q hq => o1 q (by rw [← hH.1]; exact hq)) (co_new ht (by omega) hlo e1)) ?_ ?_ hl hL
  · show cells + 1 + (rc_ h - 1) ≤ _
    omega
  · show slots + x.toNatClampNeg + (rs_ h - x.toNatClampNeg) ≤ _
    omega
theorem aT_spec {o x t : Nat} (hl : lk_ aT_ o x = some t) : Cond.classLink (ow_ o) x (kn_ t) ∈ wg_ := tw_in (List.all_eq_true.mp aT_ok _ (lk_mem hl))
theorem e_anew {y t : Nat} {x : Int32} (hd : decode (mc_ k) pc = .ok (.anewarray y, 3)) (hy : lk_ aT_ (mo_ k) y = some t) (t1 : 34 ≤ t) (t2 : t ≤ 36) (hx : ¬ x < 0) (hb : x.toNatClampNeg ≤ 1000000) (hr : 1 ≤ rc_ h) (hn : x.toNatClampNeg ≤ rs_ h) (K : Ev_ k (pc + 3) L (.ref (nx_ h) :: r) (nw_ h t x.toNatClampNeg x.toNatClampNeg) Q) : Ev_ k pc L (.int x :: r) h Q := by
  intro D p l e R s m args below meth c hC hK H locs cells slots ls hH hc hs hl hL
  have hts := hC.2.2.2.2.2.2.2.2.1
  have hlk := aT_spec hy
  obtain ⟨C, hty⟩ := aty_ref t1 t2
  have hkn : kn_ t = C := by
    rcases (show t = 34 ∨ t = 35 ∨ t = 36 by omega) with rfl | rfl | rfl <;> cases hty <;> rfl
  rw [hkn] at hlk
  have hover : (Cond.arrayOver (.object C)).before args s = true := by
    have hw : va_Nw (.arrayOver (.object C)) s := by
      rcases (show t = 34 ∨ t = 35 ∨ t = 36 by omega) with rfl | rfl | rfl <;> cases hty
      · exact hK.2.2.2.1 _ (an_in x_ao34)
      · exact hK.2.2.2.1 _ (an_in x_ao35)
      · exact hK.2.2.2.1 _ (an_in x_ao36)
    exact va_AO.use hw
  refine W.anew (g := F0 m pc ls (.int x :: r)) hC.1 hC.2.1 hC.2.2.2.2.2.2.2.1 (hts _ hlk) hover rfl hd rfl hx (by omega) (by omega) (by omega) fun cA kA comp f1 f2 f3 f4 => ?_
  have hRA := (hK.2.1 t (by omega) t2).2
  rw [hty] at hRA
  obtain ⟨-, -, -, -, -, h4⟩ := hRA
  cases f1.symm.trans h4
  have hlo : (dH_ D).size ≤ nx_ h := by rw [← hH.1]; exact hH.2.1
  rw [hH.1]
  refine K D p l e R s m args below meth c hC hK _ locs (cells + 1) (slots + x.toNatClampNeg) ls (hH.new (by rw [Array.size_push]) (fun q hq => by rw [Array.getElem?_push, if_neg (Nat.ne_of_lt hq)]) (co_new (by omega) t2 hlo ?_)) ?_ ?_ hl hL
  · rw [← hH.1, Array.getElem?_push_size, ← arrV_new, hty]
    rfl
  · show cells + 1 + (rc_ h - 1) ≤ _
    omega
  · show slots + x.toNatClampNeg + (rs_ h - x.toNatClampNeg) ≤ _
    omega
theorem e_cast {x t a : Nat} (hd : decode (mc_ k) pc = .ok (.checkcast x, 3)) (hx : lk_ cT_ (mo_ k) x = some t) (t1 : 1 ≤ t) (t2 : t ≤ 14) (ha : kd_ h a = t) (K : Ev_ k (pc + 3) L (.ref a :: r) h Q) : Ev_ k pc L (.ref a :: r) h Q := by
  intro D p l e R s m args below meth c hC hK H locs cells slots ls hH hc hs hl hL
  have hts := hC.2.2.2.2.2.2.2.2.1
  have hlk := cT_spec hx
  obtain ⟨C, T, N, hcl, hN, hkn, -, hty, -⟩ := cl_spec t1 t2
  rw [hkn] at hlk
  have hcls := (hK.1 (t - 1) _ hcl).2
  obtain ⟨cell, q1, q2, q3, q4⟩ := hH.obj ha t1 t2
  exact va_castS hC.1 hC.2.1 hC.2.2.2.2.2.2.2.1 (hts _ hlk) hcls ⟨cell, q1, by rw [q3]; rfl, by rw [q2]; exact hcls.1⟩ hd (K D p l e R s m args below meth c hC hK H locs cells slots ls hH hc hs hl hL)
theorem e_obj {x a : Nat} (hd : decode (mc_ k) pc = .ok (.invokespecial x, 3)) (hx : (lk_ lT_ (mo_ k) x).map Prod.fst = some 6) (hr : r.length ≤ 20) (K : Ev_ k (pc + 3) L r h Q) : Ev_ k pc L (.ref a :: r) h Q := by
  intro D p l e R s m args below meth c hC hK H locs cells slots ls hH hc hs hl hL
  have hts := hC.2.2.2.2.2.2.2.2.1
  obtain ⟨e0, he, h6⟩ := Option.map_eq_some_iff.mp hx
  obtain ⟨md, c9⟩ := e0
  simp only at h6
  subst h6
  obtain ⟨p9, hp9⟩ := lT_ok _ (lk_mem he)
  have hlk : Cond.methodLink (ow_ (mo_ k)) x Lib.objectInit ∈ wg_ := at_in hp9
  have hm9 := (mt_facts hC.2.2.2.2.2.2.2.2.2.2.2.2).2.2.2.2.1
  have hfr := hC.2.2.2.2.2.2.2.2.2.1
  have hlc := hC.2.2.2.2.2.2.2.2.2.2.1
  have hsum := cat_sum r
  refine W.objInit (g := F0 m pc ls (.ref a :: r)) hC.1 hC.2.1 hC.2.2.2.2.2.2.2.1 (hts _ hlk) (hts _ (at_in x_obj)) (hts _ (at_in x_objc)) rfl (by rw [hC.2.2.2.1]; exact hL.1) rfl hd (by omega) ?_ (K D p l e R s m args below meth c hC hK H locs cells slots ls hH hc hs hl hL)
  show 2 * 0 + _ + 12 ≤ _
  omega
theorem e_getC {x a : Nat} (hd : decode (mc_ k) pc = .ok (.invokevirtual x, 3)) (hx : (lk_ lT_ (mo_ k) x).map Prod.fst = some 9) (ha : kd_ h a = 34) (hr : r.length ≤ 20) (K : Ev_ k (pc + 3) L (.ref (mi_ h) :: r) h Q) : Ev_ k pc L (.ref a :: r) h Q := by
  intro D p l e R s m args below meth c hC hK H locs cells slots ls hH hc hs hl hL
  have hts := hC.2.2.2.2.2.2.2.2.1
  obtain ⟨e0, he, h6⟩ := Option.map_eq_some_iff.mp hx
  obtain ⟨md, c9⟩ := e0
  simp only at h6
  subst h6
  obtain ⟨p9, hp9⟩ := lT_ok _ (lk_mem he)
  have hlk : Cond.methodLink (ow_ (mo_ k)) x gcN_ ∈ wg_ := at_in hp9
  have hm9 := (mt_facts hC.2.2.2.2.2.2.2.2.2.2.2.2).2.2.2.2.1
  have hfr := hC.2.2.2.2.2.2.2.2.2.1
  have hlc := hC.2.2.2.2.2.2.2.2.2.2.1
  have hsum := cat_sum r
  have hRA := (hK.2.1 34 (by omega) (by omega)).2
  have K := K D p l e R s m args below meth c hC hK H locs cells slots ls hH hc hs hl hL
  rw [hH.2.2.2.1.2] at K
  exact va_getC (C := "[Ljava/lang/Object;") hC.1 hC.2.1 (by rw [hC.2.2.2.1]; exact hL.1.symm) hC.2.2.2.2.2.2.2.1 (hts _ hlk) (va_Nw.use rfl (hK.2.2.2.1 _ (an_in x_gcd))) (hts _ (at_in x_gcs)) (hts _ (at_in x_gci)) (hts _ (at_in x_gcn)) hK.2.2.2.2.2.2.2.2.2.2.1 ⟨_, hH.arr ha (by omega) (by omega), rfl, va_nmO hRA rfl⟩ (by omega) (by omega) hd K
theorem e_ldcM (hd : decode (mc_ k) pc = .ok (.ldc 110, 2)) (hk : mo_ k = 16) (K : Ev_ k (pc + 2) L (.ref (mi_ h) :: r) h Q) : Ev_ k pc L r h Q := by
  intro D p l e R s m args below meth c hC hK H locs cells slots ls hH hc hs hl hL
  have hts := hC.2.2.2.2.2.2.2.2.1
  have hown := hC.2.2.2.2.2.2.2.1
  rw [hk] at hown
  have K := K D p l e R s m args below meth c hC hK H locs cells slots ls hH hc hs hl hL
  rw [hH.2.2.2.1.2] at K
  exact va_ldcM (own := "java/util/Arrays") hC.1 hC.2.1 hown (hts _ (at_in x_gcl)) hK.2.2.2.2.2.2.2.2.2.2.1 hd K
/-- the ends -/
theorem W_end {p : Program} {l : Launch} {e : Env} {R : Room} {s : State} {m : MethodId} {args : Array Value} {below : List Frame} {meth : Method} {c : Code} {H : Heap} {locs : List Loc} {cells slots : Nat} {D : Dg_} {rt : Option FieldType} {v : Option Value} {u : Value} {g : JFrame}
    (k1 : W p l e R s m args below meth c H locs cells slots (MQ below (fun _ _ o t => o = .returned v ∧ t.heap = H) args s cells slots (fun q => (dH_ D).size ≤ q)) g) (hv : (rt = none ∧ v = none) ∨ (rt ≠ none ∧ v = some u)) (hH : RH_ D h H) (hc : cells + rc_ h ≤ R.cells) (hs : slots + rs_ h ≤ R.slots) (hQ : Q (.inl u) h) : W p l e R s m args below meth c H locs cells slots (EP_ rt D R s below Q) g := by
  refine W_mono ?_ k1
  rintro t ⟨o, h1, h2, ⟨h3, h4⟩, Lc, ⟨-, h6, h7⟩, h8⟩
  refine ⟨o, .inl u, h, Lc, cells, slots, h1, h2, ?_, hQ, by rw [h4]; exact hH, h6, h7, hc, hs, h8⟩
  rcases hv with ⟨a, b⟩ | ⟨a, b⟩
  · exact Or.inl ⟨a, by rw [h3, b]⟩
  · exact Or.inr ⟨a, by rw [h3, b]⟩
theorem e_iret {x : Int32} (hd : decode (mc_ k) pc = .ok (.ireturn, 1)) (hr : mr_ k = some .int ∨ (mr_ k = some .boolean ∧ (x = 0 ∨ x = 1))) (hQ : Q (.inl (.int x)) h) : Ev_ k pc L [.int x] h Q := by
  intro D p l e R s m args below meth c hC hK H locs cells slots ls hH hc hs hl hL
  have hret := hC.2.2.2.2.1
  have hlocks := hC.2.2.2.2.2.1
  rcases hr with hr | ⟨hr, hx⟩
  · exact W_end (W.iret (v := x) (Qc := fun _ _ o t => o = .returned (some (.int x)) ∧ t.heap = H) hC.1 hC.2.1 (by rw [hret, hr]) (fun t ht _ => ⟨rfl, ht⟩) hl hd) (Or.inr ⟨by rw [hr]; simp, rfl⟩) hH hc hs hQ
  · exact W_end (W.zret (v := x) (ty := .boolean) (Qc := fun _ _ o t => o = .returned (some (.int x)) ∧ t.heap = H) hC.1 hC.2.1 (by rw [hret, hr]) (by rcases hx with rfl | rfl <;> decide) (fun t ht _ => ⟨rfl, ht⟩) hl hd) (Or.inr ⟨by rw [hr]; simp, rfl⟩) hH hc hs hQ
theorem e_lret {x : Int64} (hd : decode (mc_ k) pc = .ok (.lreturn, 1)) (hr : mr_ k = some .long) (hQ : Q (.inl (.long x)) h) : Ev_ k pc L [.long x] h Q := by
  intro D p l e R s m args below meth c hC hK H locs cells slots ls hH hc hs hl hL
  have hret := hC.2.2.2.2.1
  have hlocks := hC.2.2.2.2.2.1
  exact W_end (W.lret (v := x) (Qc := fun _ _ o t => o = .returned (some (.long x)) ∧ t.heap = H) hC.1 hC.2.1 (by rw [hret, hr]) (fun t ht _ => ⟨rfl, ht⟩) hl hd) (Or.inr ⟨by rw [hr]; simp, rfl⟩) hH hc hs hQ
theorem e_aret {x : Nat} (hd : decode (mc_ k) pc = .ok (.areturn, 1)) (hr : (∃ C, mr_ k = some (.object C)) ∨ ∃ C, mr_ k = some (.array C)) (hQ : Q (.inl (.ref x)) h) : Ev_ k pc L [.ref x] h Q := by
  intro D p l e R s m args below meth c hC hK H locs cells slots ls hH hc hs hl hL
  have hret := hC.2.2.2.2.1
  have hlocks := hC.2.2.2.2.2.1
  rcases hr with ⟨C, hr⟩ | ⟨C, hr⟩
  · exact W_end (W.aret (v := .ref x) (Qc := fun _ _ o t => o = .returned (some (.ref x)) ∧ t.heap = H) hC.1 hC.2.1 (by rw [hret, hr]) (Or.inl ⟨_, rfl⟩) (Or.inr ⟨_, rfl⟩) (fun t ht _ => ⟨rfl, ht⟩) hl hd) (Or.inr ⟨by rw [hr]; simp, rfl⟩) hH hc hs hQ
  · exact W_end (W.aret (v := .ref x) (Qc := fun _ _ o t => o = .returned (some (.ref x)) ∧ t.heap = H) hC.1 hC.2.1 (by rw [hret, hr]) (Or.inr ⟨_, rfl⟩) (Or.inr ⟨_, rfl⟩) (fun t ht _ => ⟨rfl, ht⟩) hl hd) (Or.inr ⟨by rw [hr]; simp, rfl⟩) hH hc hs hQ
theorem e_vret (hd : decode (mc_ k) pc = .ok (.return_, 1)) (hr : mr_ k = none) (hQ : Q (.inl .null) h) : Ev_ k pc L [] h Q := by
  intro D p l e R s m args below meth c hC hK H locs cells slots ls hH hc hs hl hL
  have hret := hC.2.2.2.2.1
  have hlocks := hC.2.2.2.2.2.1
  exact W_end (W.vret (Qc := fun _ _ o t => o = .returned none ∧ t.heap = H) hC.1 hC.2.1 (by rw [hret, hr]) (fun t ht _ => ⟨rfl, ht⟩) hl hd) (Or.inl ⟨hr, rfl⟩) hH hc hs hQ
end Em
