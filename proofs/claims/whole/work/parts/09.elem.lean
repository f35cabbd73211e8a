/-! ===== the steps, one by one: locals, stack, numbers, branches ===== -/
def asc_ (L : List Value) : List (Nat × Value) := L.zipIdx.filterMap (fun q => if q.1 = .null then none else some (q.2, q.1))
theorem asc_mem {L : List Value} {i : Nat} {v : Value} : (i, v) ∈ asc_ L ↔ L[i]? = some v ∧ v ≠ .null := by
  unfold asc_
  rw [List.mem_filterMap]
  constructor
  · rintro ⟨⟨w, j⟩, hq, hw⟩
    simp only at hw
    split at hw
    · cases hw
    · rename_i hn
      cases hw
      exact ⟨List.mem_zipIdx_iff_getElem?.mp hq, hn⟩
  · rintro ⟨h1, h2⟩
    exact ⟨(v, i), List.mem_zipIdx_iff_getElem?.mpr h1, by simp [h2]⟩
theorem LR_.has {ls : Array Slot} {n : Nat} {L : List Value} (h : LR_ ls n L) : lv_has ls n (asc_ L) := ⟨h.1, h.2.1, fun q hq => by
  obtain ⟨i, v⟩ := q
  obtain ⟨h1, h2⟩ := asc_mem.mp hq
  exact h.2.2 i v h1 h2⟩
theorem LR_.of {ls : Array Slot} {n : Nat} {l : List (Nat × Value)} {L : List Value} (h : lv_has ls n l) (hm : ∀ i v, L[i]? = some v → v ≠ .null → (i, v) ∈ l) : LR_ ls n L := ⟨h.1, h.2.1, fun i v h1 h2 => h.2.2 (i, v) (hm i v h1 h2)⟩
theorem c1_get {L : List Value} {i j : Nat} {w : Value} (h : (c1_ L i)[j]? = some w) (hw : w ≠ .null) : L[j]? = some w ∧ ¬ (j + 1 = i ∧ w.category = 2) := by
  cases i with
  | zero => exact ⟨h, fun q => by omega⟩
  | succ i =>
    simp only [c1_] at h
    cases hL : L[i]? with
    | none =>
      rw [hL] at h
      exact ⟨h, fun q => by have e : j = i := by omega
                            subst e
                            rw [hL] at h; cases h⟩
    | some x =>
      rw [hL] at h
      simp only at h
      split at h
      · by_cases hji : i = j
        · subst hji
          rw [List.getElem?_set] at h
          simp only [if_true] at h
          split at h
          · cases h; exact absurd rfl hw
          · cases h
        · rw [List.getElem?_set_ne hji] at h
          exact ⟨h, fun q => hji (by omega)⟩
      · rename_i hx
        exact ⟨h, fun q => by
          have e : j = i := by omega
          subst e
          rw [hL] at h
          cases h
          exact hx q.2⟩
theorem s1_mem {L : List Value} {i : Nat} {v : Value} : ∀ j w, (s1_ L i v)[j]? = some w → w ≠ .null → (j, w) ∈ (i, v) :: (asc_ L).filter (fun q => !(q.1 == i) && !(q.1 + 1 == i && q.2.category == 2)) := by
  intro j w hj hw
  unfold s1_ at hj
  by_cases hji : i = j
  · subst hji
    rw [List.getElem?_set] at hj
    simp only [if_true] at hj
    split at hj
    · cases hj; exact List.mem_cons_self
    · cases hj
  · rw [List.getElem?_set_ne hji] at hj
    obtain ⟨h1, h2⟩ := c1_get hj hw
    refine List.mem_cons_of_mem _ (List.mem_filter.mpr ⟨asc_mem.mpr ⟨h1, hw⟩, ?_⟩)
    simp only [Bool.and_eq_true, Bool.not_eq_true', beq_eq_false_iff_ne, Bool.and_eq_false_iff]
    refine ⟨fun q => hji q.symm, ?_⟩
    by_cases hc : j + 1 = i
    · exact Or.inr (fun q => h2 ⟨hc, q⟩)
    · exact Or.inl hc
theorem s2_mem {L : List Value} {i : Nat} {v : Value} : ∀ j w, (s2_ L i v)[j]? = some w → w ≠ .null → (j, w) ∈ (i, v) :: (asc_ L).filter (fun q => !(q.1 == i) && (!(q.1 == i + 1) && !(q.1 + 1 == i && q.2.category == 2))) := by
  intro j w hj hw
  unfold s2_ at hj
  by_cases hj1 : i + 1 = j
  · subst hj1
    rw [List.getElem?_set] at hj
    simp only [if_true] at hj
    split at hj
    · cases hj; exact absurd rfl hw
    · cases hj
  rw [List.getElem?_set_ne hj1] at hj
  by_cases hji : i = j
  · subst hji
    rw [List.getElem?_set] at hj
    simp only [if_true] at hj
    split at hj
    · cases hj; exact List.mem_cons_self
    · cases hj
  · rw [List.getElem?_set_ne hji] at hj
    obtain ⟨h1, h2⟩ := c1_get hj hw
    refine List.mem_cons_of_mem _ (List.mem_filter.mpr ⟨asc_mem.mpr ⟨h1, hw⟩, ?_⟩)
    simp only [Bool.and_eq_true, Bool.not_eq_true', beq_eq_false_iff_ne, Bool.and_eq_false_iff]
    refine ⟨fun q => hji q.symm, fun q => hj1 q.symm, ?_⟩
    by_cases hc : j + 1 = i
    · exact Or.inr (fun q => h2 ⟨hc, q⟩)
    · exact Or.inl hc
section Es
variable {k pc : Nat} {L r : List Value} {h : MH_} {Q : Rs_ → MH_ → Prop}
theorem e_null  (hd : decode (mc_ k) pc = .ok (.aconst_null, 1)) (K : Ev_ k (pc + 1) L (.null :: r) h Q) : Ev_ k pc L r h Q := by
  intro D p l e R s m args below meth c hC hK H locs cells slots ls hH hc hs hl hL
  exact lv_null hC.1 hC.2.1 hd (K D p l e R s m args below meth c hC hK H locs cells slots ls hH hc hs hl hL)
theorem e_iconst {x : Int} (hd : decode (mc_ k) pc = .ok (.iconst x, 1)) (K : Ev_ k (pc + 1) L (.int (Int32.ofInt x) :: r) h Q) : Ev_ k pc L r h Q := by
  intro D p l e R s m args below meth c hC hK H locs cells slots ls hH hc hs hl hL
  exact lv_iconst hC.1 hC.2.1 hd rfl (K D p l e R s m args below meth c hC hK H locs cells slots ls hH hc hs hl hL)
theorem e_lconst {x : Fin 2} (hd : decode (mc_ k) pc = .ok (.lconst x, 1)) (K : Ev_ k (pc + 1) L (.long (Int64.ofNat (x : Nat)) :: r) h Q) : Ev_ k pc L r h Q := by
  intro D p l e R s m args below meth c hC hK H locs cells slots ls hH hc hs hl hL
  exact lv_lconst hC.1 hC.2.1 hd rfl (K D p l e R s m args below meth c hC hK H locs cells slots ls hH hc hs hl hL)
theorem e_bipush {x : Int} (hd : decode (mc_ k) pc = .ok (.bipush x, 2)) (K : Ev_ k (pc + 2) L (.int (Int8.ofInt x).toInt32 :: r) h Q) : Ev_ k pc L r h Q := by
  intro D p l e R s m args below meth c hC hK H locs cells slots ls hH hc hs hl hL
  exact lv_bipush hC.1 hC.2.1 hd rfl (K D p l e R s m args below meth c hC hK H locs cells slots ls hH hc hs hl hL)
theorem e_sipush {x : Int} (hd : decode (mc_ k) pc = .ok (.sipush x, 3)) (K : Ev_ k (pc + 3) L (.int (Int16.ofInt x).toInt32 :: r) h Q) : Ev_ k pc L r h Q := by
  intro D p l e R s m args below meth c hC hK H locs cells slots ls hH hc hs hl hL
  exact lv_sipush hC.1 hC.2.1 hd rfl (K D p l e R s m args below meth c hC hK H locs cells slots ls hH hc hs hl hL)
theorem e_iadd {x y : Int32} (hd : decode (mc_ k) pc = .ok (.iadd, 1)) (K : Ev_ k (pc + 1) L (.int (x + y) :: r) h Q) : Ev_ k pc L (.int y :: .int x :: r) h Q := by
  intro D p l e R s m args below meth c hC hK H locs cells slots ls hH hc hs hl hL
  exact lv_iadd hC.1 hC.2.1 hd (K D p l e R s m args below meth c hC hK H locs cells slots ls hH hc hs hl hL)
theorem e_isub {x y : Int32} (hd : decode (mc_ k) pc = .ok (.isub, 1)) (K : Ev_ k (pc + 1) L (.int (x - y) :: r) h Q) : Ev_ k pc L (.int y :: .int x :: r) h Q := by
  intro D p l e R s m args below meth c hC hK H locs cells slots ls hH hc hs hl hL
  exact lv_isub hC.1 hC.2.1 hd (K D p l e R s m args below meth c hC hK H locs cells slots ls hH hc hs hl hL)
theorem e_imul {x y : Int32} (hd : decode (mc_ k) pc = .ok (.imul, 1)) (K : Ev_ k (pc + 1) L (.int (x * y) :: r) h Q) : Ev_ k pc L (.int y :: .int x :: r) h Q := by
  intro D p l e R s m args below meth c hC hK H locs cells slots ls hH hc hs hl hL
  exact lv_imul hC.1 hC.2.1 hd (K D p l e R s m args below meth c hC hK H locs cells slots ls hH hc hs hl hL)
theorem e_iand {x y : Int32} (hd : decode (mc_ k) pc = .ok (.iand, 1)) (K : Ev_ k (pc + 1) L (.int (x &&& y) :: r) h Q) : Ev_ k pc L (.int y :: .int x :: r) h Q := by
  intro D p l e R s m args below meth c hC hK H locs cells slots ls hH hc hs hl hL
  exact lv_iand hC.1 hC.2.1 hd (K D p l e R s m args below meth c hC hK H locs cells slots ls hH hc hs hl hL)
theorem e_ior {x y : Int32} (hd : decode (mc_ k) pc = .ok (.ior, 1)) (K : Ev_ k (pc + 1) L (.int (x ||| y) :: r) h Q) : Ev_ k pc L (.int y :: .int x :: r) h Q := by
  intro D p l e R s m args below meth c hC hK H locs cells slots ls hH hc hs hl hL
  exact lv_ior hC.1 hC.2.1 hd (K D p l e R s m args below meth c hC hK H locs cells slots ls hH hc hs hl hL)
theorem e_ishl {x y : Int32} (hd : decode (mc_ k) pc = .ok (.ishl, 1)) (K : Ev_ k (pc + 1) L (.int (x <<< (y &&& 31)) :: r) h Q) : Ev_ k pc L (.int y :: .int x :: r) h Q := by
  intro D p l e R s m args below meth c hC hK H locs cells slots ls hH hc hs hl hL
  exact lv_ishl hC.1 hC.2.1 hd (K D p l e R s m args below meth c hC hK H locs cells slots ls hH hc hs hl hL)
theorem e_ishr {x y : Int32} (hd : decode (mc_ k) pc = .ok (.ishr, 1)) (K : Ev_ k (pc + 1) L (.int (x >>> (y &&& 31)) :: r) h Q) : Ev_ k pc L (.int y :: .int x :: r) h Q := by
  intro D p l e R s m args below meth c hC hK H locs cells slots ls hH hc hs hl hL
  exact lv_ishr hC.1 hC.2.1 hd (K D p l e R s m args below meth c hC hK H locs cells slots ls hH hc hs hl hL)
theorem e_idiv {x y : Int32} (hd : decode (mc_ k) pc = .ok (.idiv, 1)) (hy : ¬ y = 0) (K : Ev_ k (pc + 1) L (.int (x / y) :: r) h Q) : Ev_ k pc L (.int y :: .int x :: r) h Q := by
  intro D p l e R s m args below meth c hC hK H locs cells slots ls hH hc hs hl hL
  exact lv_idiv hC.1 hC.2.1 hd hy (K D p l e R s m args below meth c hC hK H locs cells slots ls hH hc hs hl hL)
theorem e_irem {x y : Int32} (hd : decode (mc_ k) pc = .ok (.irem, 1)) (hy : ¬ y = 0) (K : Ev_ k (pc + 1) L (.int (x - x / y * y) :: r) h Q) : Ev_ k pc L (.int y :: .int x :: r) h Q := by
  intro D p l e R s m args below meth c hC hK H locs cells slots ls hH hc hs hl hL
  exact lv_irem hC.1 hC.2.1 hd hy (K D p l e R s m args below meth c hC hK H locs cells slots ls hH hc hs hl hL)
theorem e_ladd {x y : Int64} (hd : decode (mc_ k) pc = .ok (.ladd, 1)) (K : Ev_ k (pc + 1) L (.long (x + y) :: r) h Q) : Ev_ k pc L (.long y :: .long x :: r) h Q := by
  intro D p l e R s m args below meth c hC hK H locs cells slots ls hH hc hs hl hL
  exact lv_ladd hC.1 hC.2.1 hd (K D p l e R s m args below meth c hC hK H locs cells slots ls hH hc hs hl hL)
theorem e_lsub {x y : Int64} (hd : decode (mc_ k) pc = .ok (.lsub, 1)) (K : Ev_ k (pc + 1) L (.long (x - y) :: r) h Q) : Ev_ k pc L (.long y :: .long x :: r) h Q := by
  intro D p l e R s m args below meth c hC hK H locs cells slots ls hH hc hs hl hL
  exact lv_lsub hC.1 hC.2.1 hd (K D p l e R s m args below meth c hC hK H locs cells slots ls hH hc hs hl hL)
theorem e_lmul {x y : Int64} (hd : decode (mc_ k) pc = .ok (.lmul, 1)) (K : Ev_ k (pc + 1) L (.long (x * y) :: r) h Q) : Ev_ k pc L (.long y :: .long x :: r) h Q := by
  intro D p l e R s m args below meth c hC hK H locs cells slots ls hH hc hs hl hL
  exact lv_lmul hC.1 hC.2.1 hd (K D p l e R s m args below meth c hC hK H locs cells slots ls hH hc hs hl hL)
theorem e_land {x y : Int64} (hd : decode (mc_ k) pc = .ok (.land, 1)) (K : Ev_ k (pc + 1) L (.long (x &&& y) :: r) h Q) : Ev_ k pc L (.long y :: .long x :: r) h Q := by
  intro D p l e R s m args below meth c hC hK H locs cells slots ls hH hc hs hl hL
  exact lv_land hC.1 hC.2.1 hd (K D p l e R s m args below meth c hC hK H locs cells slots ls hH hc hs hl hL)
theorem e_lor {x y : Int64} (hd : decode (mc_ k) pc = .ok (.lor, 1)) (K : Ev_ k (pc + 1) L (.long (x ||| y) :: r) h Q) : Ev_ k pc L (.long y :: .long x :: r) h Q := by
  intro D p l e R s m args below meth c hC hK H locs cells slots ls hH hc hs hl hL
  exact lv_lor hC.1 hC.2.1 hd (K D p l e R s m args below meth c hC hK H locs cells slots ls hH hc hs hl hL)
theorem e_ldiv {x y : Int64} (hd : decode (mc_ k) pc = .ok (.ldiv, 1)) (hy : ¬ y = 0) (K : Ev_ k (pc + 1) L (.long (x / y) :: r) h Q) : Ev_ k pc L (.long y :: .long x :: r) h Q := by
  intro D p l e R s m args below meth c hC hK H locs cells slots ls hH hc hs hl hL
  exact lv_ldiv hC.1 hC.2.1 hd hy (K D p l e R s m args below meth c hC hK H locs cells slots ls hH hc hs hl hL)
theorem e_lrem {x y : Int64} (hd : decode (mc_ k) pc = .ok (.lrem, 1)) (hy : ¬ y = 0) (K : Ev_ k (pc + 1) L (.long (x - x / y * y) :: r) h Q) : Ev_ k pc L (.long y :: .long x :: r) h Q := by
  intro D p l e R s m args below meth c hC hK H locs cells slots ls hH hc hs hl hL
  exact lv_lrem hC.1 hC.2.1 hd hy (K D p l e R s m args below meth c hC hK H locs cells slots ls hH hc hs hl hL)
theorem e_lcmp {x y : Int64} (hd : decode (mc_ k) pc = .ok (.lcmp, 1)) (K : Ev_ k (pc + 1) L (.int (lg_cmp x y) :: r) h Q) : Ev_ k pc L (.long y :: .long x :: r) h Q := by
  intro D p l e R s m args below meth c hC hK H locs cells slots ls hH hc hs hl hL
  exact W.lcmp hC.1 hC.2.1 hd (K D p l e R s m args below meth c hC hK H locs cells slots ls hH hc hs hl hL)
theorem e_ineg {x : Int32} (hd : decode (mc_ k) pc = .ok (.ineg, 1)) (K : Ev_ k (pc + 1) L (.int (-x) :: r) h Q) : Ev_ k pc L (.int x :: r) h Q := by
  intro D p l e R s m args below meth c hC hK H locs cells slots ls hH hc hs hl hL
  exact lv_ineg hC.1 hC.2.1 hd (K D p l e R s m args below meth c hC hK H locs cells slots ls hH hc hs hl hL)
theorem e_lneg {x : Int64} (hd : decode (mc_ k) pc = .ok (.lneg, 1)) (K : Ev_ k (pc + 1) L (.long (-x) :: r) h Q) : Ev_ k pc L (.long x :: r) h Q := by
  intro D p l e R s m args below meth c hC hK H locs cells slots ls hH hc hs hl hL
  exact lv_lneg hC.1 hC.2.1 hd (K D p l e R s m args below meth c hC hK H locs cells slots ls hH hc hs hl hL)
theorem e_lshl {x : Int64} {y : Int32} (hd : decode (mc_ k) pc = .ok (.lshl, 1)) (K : Ev_ k (pc + 1) L (.long (x <<< (y.toInt64 &&& 63)) :: r) h Q) : Ev_ k pc L (.int y :: .long x :: r) h Q := by
  intro D p l e R s m args below meth c hC hK H locs cells slots ls hH hc hs hl hL
  exact lv_lshl hC.1 hC.2.1 hd rfl (K D p l e R s m args below meth c hC hK H locs cells slots ls hH hc hs hl hL)
theorem e_lshr {x : Int64} {y : Int32} (hd : decode (mc_ k) pc = .ok (.lshr, 1)) (K : Ev_ k (pc + 1) L (.long (x >>> (y.toInt64 &&& 63)) :: r) h Q) : Ev_ k pc L (.int y :: .long x :: r) h Q := by
  intro D p l e R s m args below meth c hC hK H locs cells slots ls hH hc hs hl hL
  exact lv_lshr hC.1 hC.2.1 hd rfl (K D p l e R s m args below meth c hC hK H locs cells slots ls hH hc hs hl hL)
theorem e_lushr {x : Int64} {y : Int32} (hd : decode (mc_ k) pc = .ok (.lushr, 1)) (K : Ev_ k (pc + 1) L (.long (x.toUInt64 >>> (y.toInt64.toUInt64 &&& Int64.toUInt64 63)).toInt64 :: r) h Q) : Ev_ k pc L (.int y :: .long x :: r) h Q := by
  intro D p l e R s m args below meth c hC hK H locs cells slots ls hH hc hs hl hL
  exact lv_lushr hC.1 hC.2.1 hd rfl (K D p l e R s m args below meth c hC hK H locs cells slots ls hH hc hs hl hL)
theorem e_i2l {x : Int32} (hd : decode (mc_ k) pc = .ok (.i2l, 1)) (K : Ev_ k (pc + 1) L (.long x.toInt64 :: r) h Q) : Ev_ k pc L (.int x :: r) h Q := by
  intro D p l e R s m args below meth c hC hK H locs cells slots ls hH hc hs hl hL
  exact lv_i2l hC.1 hC.2.1 hd rfl (K D p l e R s m args below meth c hC hK H locs cells slots ls hH hc hs hl hL)
theorem e_l2i {x : Int64} (hd : decode (mc_ k) pc = .ok (.l2i, 1)) (K : Ev_ k (pc + 1) L (.int x.toInt32 :: r) h Q) : Ev_ k pc L (.long x :: r) h Q := by
  intro D p l e R s m args below meth c hC hK H locs cells slots ls hH hc hs hl hL
  exact lv_l2i hC.1 hC.2.1 hd rfl (K D p l e R s m args below meth c hC hK H locs cells slots ls hH hc hs hl hL)
theorem e_i2b {x : Int32} (hd : decode (mc_ k) pc = .ok (.i2b, 1)) (K : Ev_ k (pc + 1) L (.int x.toInt8.toInt32 :: r) h Q) : Ev_ k pc L (.int x :: r) h Q := by
  intro D p l e R s m args below meth c hC hK H locs cells slots ls hH hc hs hl hL
  exact lv_i2b hC.1 hC.2.1 hd rfl (K D p l e R s m args below meth c hC hK H locs cells slots ls hH hc hs hl hL)
theorem e_dup {v : Value} (hd : decode (mc_ k) pc = .ok (.dup, 1)) (hv : v.category = 1) (K : Ev_ k (pc + 1) L (v :: v :: r) h Q) : Ev_ k pc L (v :: r) h Q := by
  intro D p l e R s m args below meth c hC hK H locs cells slots ls hH hc hs hl hL
  exact lv_dup hC.1 hC.2.1 hd hv (K D p l e R s m args below meth c hC hK H locs cells slots ls hH hc hs hl hL)
theorem e_pop {v : Value} (hd : decode (mc_ k) pc = .ok (.pop, 1)) (hv : v.category = 1) (K : Ev_ k (pc + 1) L r h Q) : Ev_ k pc L (v :: r) h Q := by
  intro D p l e R s m args below meth c hC hK H locs cells slots ls hH hc hs hl hL
  exact lv_pop hC.1 hC.2.1 hd hv (K D p l e R s m args below meth c hC hK H locs cells slots ls hH hc hs hl hL)
theorem e_dup_x1 {v u : Value} (hd : decode (mc_ k) pc = .ok (.dup_x1, 1)) (hu : u.category = 1) (hv : v.category = 1) (K : Ev_ k (pc + 1) L (u :: v :: u :: r) h Q) : Ev_ k pc L (u :: v :: r) h Q := by
  intro D p l e R s m args below meth c hC hK H locs cells slots ls hH hc hs hl hL
  exact lv_dup_x1 hC.1 hC.2.1 hd hu hv (K D p l e R s m args below meth c hC hK H locs cells slots ls hH hc hs hl hL)
theorem e_dup2 {v u : Value} (hd : decode (mc_ k) pc = .ok (.dup2, 1)) (hu : u.category = 1) (hv : v.category = 1) (K : Ev_ k (pc + 1) L (u :: v :: u :: v :: r) h Q) : Ev_ k pc L (u :: v :: r) h Q := by
  intro D p l e R s m args below meth c hC hK H locs cells slots ls hH hc hs hl hL
  exact lv_dup2_11 hC.1 hC.2.1 hd hu hv (K D p l e R s m args below meth c hC hK H locs cells slots ls hH hc hs hl hL)
theorem e_iload {x : Nat} {v : Int32} (hd : decode (mc_ k) pc = .ok (.iload x, 2)) (hv : L[x]? = some (.int v)) (K : Ev_ k (pc + 2) L (.int v :: r) h Q) : Ev_ k pc L r h Q := by
  intro D p l e R s m args below meth c hC hK H locs cells slots ls hH hc hs hl hL
  exact lv_iload hC.1 hC.2.1 hd (hL.2.2 _ _ hv (by simp)) (K D p l e R s m args below meth c hC hK H locs cells slots ls hH hc hs hl hL)
theorem e_iload_n {x : Fin 4} {v : Int32} (hd : decode (mc_ k) pc = .ok (.iload_n x, 1)) (hv : L[(x : Nat)]? = some (.int v)) (K : Ev_ k (pc + 1) L (.int v :: r) h Q) : Ev_ k pc L r h Q := by
  intro D p l e R s m args below meth c hC hK H locs cells slots ls hH hc hs hl hL
  exact lv_iload_n hC.1 hC.2.1 hd rfl (hL.2.2 _ _ hv (by simp)) (K D p l e R s m args below meth c hC hK H locs cells slots ls hH hc hs hl hL)
theorem e_istore {x : Nat} {v : Int32} (hd : decode (mc_ k) pc = .ok (.istore x, 2)) (hx : x < ml_ k) (K : Ev_ k (pc + 2) (s1_ L x (.int v)) r h Q) : Ev_ k pc L (.int v :: r) h Q := by
  intro D p l e R s m args below meth c hC hK H locs cells slots ls hH hc hs hl hL
  exact lv_istore hC.1 hC.2.1 hd hL.has hx rfl (fun ls' h' => K D p l e R s m args below meth c hC hK H locs cells slots ls' hH hc hs hl (LR_.of h' s1_mem))
theorem e_istore_n {x : Fin 4} {v : Int32} (hd : decode (mc_ k) pc = .ok (.istore_n x, 1)) (hx : (x : Nat) < ml_ k) (K : Ev_ k (pc + 1) (s1_ L x (.int v)) r h Q) : Ev_ k pc L (.int v :: r) h Q := by
  intro D p l e R s m args below meth c hC hK H locs cells slots ls hH hc hs hl hL
  exact lv_istore_n hC.1 hC.2.1 hd rfl hL.has hx rfl (fun ls' h' => K D p l e R s m args below meth c hC hK H locs cells slots ls' hH hc hs hl (LR_.of h' s1_mem))
theorem e_lload {x : Nat} {v : Int64} (hd : decode (mc_ k) pc = .ok (.lload x, 2)) (hv : L[x]? = some (.long v)) (K : Ev_ k (pc + 2) L (.long v :: r) h Q) : Ev_ k pc L r h Q := by
  intro D p l e R s m args below meth c hC hK H locs cells slots ls hH hc hs hl hL
  exact lv_lload hC.1 hC.2.1 hd (hL.2.2 _ _ hv (by simp)) (K D p l e R s m args below meth c hC hK H locs cells slots ls hH hc hs hl hL)
theorem e_lload_n {x : Fin 4} {v : Int64} (hd : decode (mc_ k) pc = .ok (.lload_n x, 1)) (hv : L[(x : Nat)]? = some (.long v)) (K : Ev_ k (pc + 1) L (.long v :: r) h Q) : Ev_ k pc L r h Q := by
  intro D p l e R s m args below meth c hC hK H locs cells slots ls hH hc hs hl hL
  exact lv_lload_n hC.1 hC.2.1 hd rfl (hL.2.2 _ _ hv (by simp)) (K D p l e R s m args below meth c hC hK H locs cells slots ls hH hc hs hl hL)
theorem e_lstore {x : Nat} {v : Int64} (hd : decode (mc_ k) pc = .ok (.lstore x, 2)) (hx : x + 1 < ml_ k) (K : Ev_ k (pc + 2) (s2_ L x (.long v)) r h Q) : Ev_ k pc L (.long v :: r) h Q := by
  intro D p l e R s m args below meth c hC hK H locs cells slots ls hH hc hs hl hL
  exact lv_lstore hC.1 hC.2.1 hd hL.has hx rfl (fun ls' h' => K D p l e R s m args below meth c hC hK H locs cells slots ls' hH hc hs hl (LR_.of h' s2_mem))
theorem e_lstore_n {x : Fin 4} {v : Int64} (hd : decode (mc_ k) pc = .ok (.lstore_n x, 1)) (hx : (x : Nat) + 1 < ml_ k) (K : Ev_ k (pc + 1) (s2_ L x (.long v)) r h Q) : Ev_ k pc L (.long v :: r) h Q := by
  intro D p l e R s m args below meth c hC hK H locs cells slots ls hH hc hs hl hL
  exact lv_lstore_n hC.1 hC.2.1 hd rfl hL.has hx rfl (fun ls' h' => K D p l e R s m args below meth c hC hK H locs cells slots ls' hH hc hs hl (LR_.of h' s2_mem))
theorem e_aload {x : Nat} {v : Nat} (hd : decode (mc_ k) pc = .ok (.aload x, 2)) (hv : L[x]? = some (.ref v)) (K : Ev_ k (pc + 2) L (.ref v :: r) h Q) : Ev_ k pc L r h Q := by
  intro D p l e R s m args below meth c hC hK H locs cells slots ls hH hc hs hl hL
  exact lv_aload hC.1 hC.2.1 hd (hL.2.2 _ _ hv (by simp)) (K D p l e R s m args below meth c hC hK H locs cells slots ls hH hc hs hl hL)
theorem e_aload_n {x : Fin 4} {v : Nat} (hd : decode (mc_ k) pc = .ok (.aload_n x, 1)) (hv : L[(x : Nat)]? = some (.ref v)) (K : Ev_ k (pc + 1) L (.ref v :: r) h Q) : Ev_ k pc L r h Q := by
  intro D p l e R s m args below meth c hC hK H locs cells slots ls hH hc hs hl hL
  exact lv_aload_n hC.1 hC.2.1 hd rfl (hL.2.2 _ _ hv (by simp)) (K D p l e R s m args below meth c hC hK H locs cells slots ls hH hc hs hl hL)
theorem e_astore {x : Nat} {v : Nat} (hd : decode (mc_ k) pc = .ok (.astore x, 2)) (hx : x < ml_ k) (K : Ev_ k (pc + 2) (s1_ L x (.ref v)) r h Q) : Ev_ k pc L (.ref v :: r) h Q := by
  intro D p l e R s m args below meth c hC hK H locs cells slots ls hH hc hs hl hL
  exact lv_astore hC.1 hC.2.1 hd hL.has hx rfl (fun ls' h' => K D p l e R s m args below meth c hC hK H locs cells slots ls' hH hc hs hl (LR_.of h' s1_mem))
theorem e_astore_n {x : Fin 4} {v : Nat} (hd : decode (mc_ k) pc = .ok (.astore_n x, 1)) (hx : (x : Nat) < ml_ k) (K : Ev_ k (pc + 1) (s1_ L x (.ref v)) r h Q) : Ev_ k pc L (.ref v :: r) h Q := by
  intro D p l e R s m args below meth c hC hK H locs cells slots ls hH hc hs hl hL
  exact lv_astore_n hC.1 hC.2.1 hd rfl hL.has hx rfl (fun ls' h' => K D p l e R s m args below meth c hC hK H locs cells slots ls' hH hc hs hl (LR_.of h' s1_mem))
theorem e_iinc {x : Nat} {d : Int} {v : Int32} (hd : decode (mc_ k) pc = .ok (.iinc x d, 3)) (hx : x < ml_ k) (hv : L[x]? = some (.int v)) (K : Ev_ k (pc + 3) (s1_ L x (.int (v + Int32.ofInt d))) r h Q) : Ev_ k pc L r h Q := by
  intro D p l e R s m args below meth c hC hK H locs cells slots ls hH hc hs hl hL
  obtain ⟨q, hq⟩ := List.getElem?_of_mem (asc_mem.mpr ⟨hv, by simp⟩)
  exact lv_iinc hC.1 hC.2.1 hd hL.has hq rfl hx rfl (fun ls' h' => K D p l e R s m args below meth c hC hK H locs cells slots ls' hH hc hs hl (LR_.of h' s1_mem))
theorem e_iincW {x : Nat} {d : Int} {v : Int32} (hd : decode (mc_ k) pc = .ok (.iinc x d, 6)) (hx : x < ml_ k) (hv : L[x]? = some (.int v)) (K : Ev_ k (pc + 6) (s1_ L x (.int (v + Int32.ofInt d))) r h Q) : Ev_ k pc L r h Q := by
  intro D p l e R s m args below meth c hC hK H locs cells slots ls hH hc hs hl hL
  obtain ⟨q, hq⟩ := List.getElem?_of_mem (asc_mem.mpr ⟨hv, by simp⟩)
  exact lv_iincW hC.1 hC.2.1 hd hL.has hq rfl hx rfl (fun ls' h' => K D p l e R s m args below meth c hC hK H locs cells slots ls' hH hc hs hl (LR_.of h' s1_mem))
theorem tg_eq {pc : Nat} {o : Int} (ho : 0 ≤ (pc : Int) + o) : (pc : Int) + o = ((tg_ pc o : Nat) : Int) := by unfold tg_; omega
theorem e_goto {o : Int} (hd : decode (mc_ k) pc = .ok (.goto o, 3)) (ho : 0 ≤ (pc : Int) + o) (K : Ev_ k (tg_ pc o) L r h Q) : Ev_ k pc L r h Q := by
  intro D p l e R s m args below meth c hC hK H locs cells slots ls hH hc hs hl hL
  exact lv_goto hC.1 hC.2.1 hd (tg_eq ho) (K D p l e R s m args below meth c hC hK H locs cells slots ls hH hc hs hl hL)
theorem e_if {cd : ClassFile.Cond} {x : Int32} {o : Int} (hd : decode (mc_ k) pc = .ok (.ifCond cd o, 3)) (ho : 0 ≤ (pc : Int) + o) (K : Ev_ k (@ite _ (z0_ cd x) (zd_ cd x) (tg_ pc o) (pc + 3)) L r h Q) : Ev_ k pc L (.int x :: r) h Q := by
  intro D p l e R s m args below meth c hC hK H locs cells slots ls hH hc hs hl hL
  cases cd
  case eq => exact lv_if_eq hC.1 hC.2.1 hd (tg_eq ho) (fun z => by rw [@if_pos _ (zd_ _ _) (show z0_ .eq x from z)] at K; exact (K D p l e R s m args below meth c hC hK H locs cells slots ls hH hc hs hl hL)) (fun z => by rw [@if_neg _ (zd_ _ _) (show ¬ z0_ .eq x from z)] at K; exact (K D p l e R s m args below meth c hC hK H locs cells slots ls hH hc hs hl hL))
  case ne => exact lv_if_ne hC.1 hC.2.1 hd (tg_eq ho) (fun z => by rw [@if_pos _ (zd_ _ _) (show z0_ .ne x from z)] at K; exact (K D p l e R s m args below meth c hC hK H locs cells slots ls hH hc hs hl hL)) (fun z => by rw [@if_neg _ (zd_ _ _) (show ¬ z0_ .ne x from fun q => q z)] at K; exact (K D p l e R s m args below meth c hC hK H locs cells slots ls hH hc hs hl hL))
  case lt => exact lv_if_lt hC.1 hC.2.1 hd (tg_eq ho) (fun z => by rw [@if_pos _ (zd_ _ _) (show z0_ .lt x from z)] at K; exact (K D p l e R s m args below meth c hC hK H locs cells slots ls hH hc hs hl hL)) (fun z => by rw [@if_neg _ (zd_ _ _) (show ¬ z0_ .lt x from z)] at K; exact (K D p l e R s m args below meth c hC hK H locs cells slots ls hH hc hs hl hL))
  case ge => exact lv_if_ge hC.1 hC.2.1 hd (tg_eq ho) (fun z => by rw [@if_pos _ (zd_ _ _) (show z0_ .ge x from z)] at K; exact (K D p l e R s m args below meth c hC hK H locs cells slots ls hH hc hs hl hL)) (fun z => by rw [@if_neg _ (zd_ _ _) (show ¬ z0_ .ge x from z)] at K; exact (K D p l e R s m args below meth c hC hK H locs cells slots ls hH hc hs hl hL))
  case gt => exact lv_if_gt hC.1 hC.2.1 hd (tg_eq ho) (fun z => by rw [@if_pos _ (zd_ _ _) (show z0_ .gt x from z)] at K; exact (K D p l e R s m args below meth c hC hK H locs cells slots ls hH hc hs hl hL)) (fun z => by rw [@if_neg _ (zd_ _ _) (show ¬ z0_ .gt x from z)] at K; exact (K D p l e R s m args below meth c hC hK H locs cells slots ls hH hc hs hl hL))
  case le => exact lv_if_le hC.1 hC.2.1 hd (tg_eq ho) (fun z => by rw [@if_pos _ (zd_ _ _) (show z0_ .le x from z)] at K; exact (K D p l e R s m args below meth c hC hK H locs cells slots ls hH hc hs hl hL)) (fun z => by rw [@if_neg _ (zd_ _ _) (show ¬ z0_ .le x from z)] at K; exact (K D p l e R s m args below meth c hC hK H locs cells slots ls hH hc hs hl hL))
theorem e_icmp {cd : ClassFile.Cond} {x y : Int32} {o : Int} (hd : decode (mc_ k) pc = .ok (.if_icmp cd o, 3)) (ho : 0 ≤ (pc : Int) + o) (K : Ev_ k (@ite _ (z2_ cd x y) (zf_ cd x y) (tg_ pc o) (pc + 3)) L r h Q) : Ev_ k pc L (.int y :: .int x :: r) h Q := by
  intro D p l e R s m args below meth c hC hK H locs cells slots ls hH hc hs hl hL
  cases cd
  case eq => exact lv_icmp_eq hC.1 hC.2.1 hd (tg_eq ho) (fun z => by rw [@if_pos _ (zf_ _ _ _) (show z2_ .eq x y from z)] at K; exact (K D p l e R s m args below meth c hC hK H locs cells slots ls hH hc hs hl hL)) (fun z => by rw [@if_neg _ (zf_ _ _ _) (show ¬ z2_ .eq x y from z)] at K; exact (K D p l e R s m args below meth c hC hK H locs cells slots ls hH hc hs hl hL))
  case ne => exact lv_icmp_ne hC.1 hC.2.1 hd (tg_eq ho) (fun z => by rw [@if_pos _ (zf_ _ _ _) (show z2_ .ne x y from z)] at K; exact (K D p l e R s m args below meth c hC hK H locs cells slots ls hH hc hs hl hL)) (fun z => by rw [@if_neg _ (zf_ _ _ _) (show ¬ z2_ .ne x y from fun q => q z)] at K; exact (K D p l e R s m args below meth c hC hK H locs cells slots ls hH hc hs hl hL))
  case lt => exact lv_icmp_lt hC.1 hC.2.1 hd (tg_eq ho) (fun z => by rw [@if_pos _ (zf_ _ _ _) (show z2_ .lt x y from z)] at K; exact (K D p l e R s m args below meth c hC hK H locs cells slots ls hH hc hs hl hL)) (fun z => by rw [@if_neg _ (zf_ _ _ _) (show ¬ z2_ .lt x y from z)] at K; exact (K D p l e R s m args below meth c hC hK H locs cells slots ls hH hc hs hl hL))
  case ge => exact lv_icmp_ge hC.1 hC.2.1 hd (tg_eq ho) (fun z => by rw [@if_pos _ (zf_ _ _ _) (show z2_ .ge x y from z)] at K; exact (K D p l e R s m args below meth c hC hK H locs cells slots ls hH hc hs hl hL)) (fun z => by rw [@if_neg _ (zf_ _ _ _) (show ¬ z2_ .ge x y from z)] at K; exact (K D p l e R s m args below meth c hC hK H locs cells slots ls hH hc hs hl hL))
  case gt => exact lv_icmp_gt hC.1 hC.2.1 hd (tg_eq ho) (fun z => by rw [@if_pos _ (zf_ _ _ _) (show z2_ .gt x y from z)] at K; exact (K D p l e R s m args below meth c hC hK H locs cells slots ls hH hc hs hl hL)) (fun z => by rw [@if_neg _ (zf_ _ _ _) (show ¬ z2_ .gt x y from z)] at K; exact (K D p l e R s m args below meth c hC hK H locs cells slots ls hH hc hs hl hL))
  case le => exact lv_icmp_le hC.1 hC.2.1 hd (tg_eq ho) (fun z => by rw [@if_pos _ (zf_ _ _ _) (show z2_ .le x y from z)] at K; exact (K D p l e R s m args below meth c hC hK H locs cells slots ls hH hc hs hl hL)) (fun z => by rw [@if_neg _ (zf_ _ _ _) (show ¬ z2_ .le x y from z)] at K; exact (K D p l e R s m args below meth c hC hK H locs cells slots ls hH hc hs hl hL))
theorem e_acmp {x y : Nat} {o : Int} (hd : decode (mc_ k) pc = .ok (.if_acmp .eq o, 3)) (ho : 0 ≤ (pc : Int) + o) (K : Ev_ k (if x = y then tg_ pc o else pc + 3) L r h Q) : Ev_ k pc L (.ref y :: .ref x :: r) h Q := by
  intro D p l e R s m args below meth c hC hK H locs cells slots ls hH hc hs hl hL
  exact lv_acmp_eq (rx := some x) (ry := some y) hC.1 hC.2.1 hd (tg_eq ho) (fun z => by rw [if_pos (Option.some.inj z)] at K; exact (K D p l e R s m args below meth c hC hK H locs cells slots ls hH hc hs hl hL)) (fun z => by rw [if_neg (fun q => z (by rw [q]))] at K; exact (K D p l e R s m args below meth c hC hK H locs cells slots ls hH hc hs hl hL))
theorem e_acmpN {x y : Nat} {o : Int} (hd : decode (mc_ k) pc = .ok (.if_acmp .ne o, 3)) (ho : 0 ≤ (pc : Int) + o) (K : Ev_ k (if x = y then pc + 3 else tg_ pc o) L r h Q) : Ev_ k pc L (.ref y :: .ref x :: r) h Q := by
  intro D p l e R s m args below meth c hC hK H locs cells slots ls hH hc hs hl hL
  exact lv_acmp_ne (rx := some x) (ry := some y) hC.1 hC.2.1 hd (tg_eq ho) (fun z => by rw [if_neg (fun q => z (by rw [q]))] at K; exact (K D p l e R s m args below meth c hC hK H locs cells slots ls hH hc hs hl hL)) (fun z => by rw [if_pos (Option.some.inj z)] at K; exact (K D p l e R s m args below meth c hC hK H locs cells slots ls hH hc hs hl hL))
theorem e_tabO {d lo hi : Int} {os : Array Int} {n : Nat} {x : Int32} (hd : decode (mc_ k) pc = .ok (.tableswitch d lo hi os, n)) (hx : x.toInt < lo ∨ hi < x.toInt) (ho : 0 ≤ (pc : Int) + d) (K : Ev_ k (tg_ pc d) L r h Q) : Ev_ k pc L (.int x :: r) h Q := by
  intro D p l e R s m args below meth c hC hK H locs cells slots ls hH hc hs hl hL
  exact lv_tableOut hC.1 hC.2.1 hd hx (tg_eq ho) (K D p l e R s m args below meth c hC hK H locs cells slots ls hH hc hs hl hL)
theorem e_tabI {d lo hi o : Int} {os : Array Int} {n : Nat} {x : Int32} (hd : decode (mc_ k) pc = .ok (.tableswitch d lo hi os, n)) (hx : ¬ (x.toInt < lo ∨ hi < x.toInt)) (hq : os[(x.toInt - lo).toNat]? = some o) (ho : 0 ≤ (pc : Int) + o) (K : Ev_ k (tg_ pc o) L r h Q) : Ev_ k pc L (.int x :: r) h Q := by
  intro D p l e R s m args below meth c hC hK H locs cells slots ls hH hc hs hl hL
  exact lv_tableIn hC.1 hC.2.1 hd (fun q => hx (Or.inl q)) (fun q => hx (Or.inr q)) hq (tg_eq ho) (K D p l e R s m args below meth c hC hK H locs cells slots ls hH hc hs hl hL)
theorem e_look {d : Int} {ps : Array (Int × Int)} {n : Nat} {x : Int32} (hd : decode (mc_ k) pc = .ok (.lookupswitch d ps, n)) (hp : (ps.toList.zip (ps.toList.drop 1)).all (fun (a, next) => a.1 < next.1) = true) (ho : 0 ≤ (pc : Int) + sw_ ps.toList d x.toInt) (K : Ev_ k (tg_ pc (sw_ ps.toList d x.toInt)) L r h Q) : Ev_ k pc L (.int x :: r) h Q := by
  intro D p l e R s m args below meth c hC hK H locs cells slots ls hH hc hs hl hL
  exact lv_lookup hC.1 hC.2.1 hd hp rfl (tg_eq ho) (K D p l e R s m args below meth c hC hK H locs cells slots ls hH hc hs hl hL)
theorem e_ldc {x : Nat} {v : Int32} (hd : decode (mc_ k) pc = .ok (.ldc x, 2)) (hv : lk_ kI_ (mo_ k) x = some v) (K : Ev_ k (pc + 2) L (.int v :: r) h Q) : Ev_ k pc L r h Q := by
  intro D p l e R s m args below meth c hC hK H locs cells slots ls hH hc hs hl hL
  exact lv_ldc hC.1 hC.2.1 hC.2.2.2.2.2.2.2.1 (hC.2.2.2.2.2.2.2.2.1 _ (tw_in (w := .constant (ow_ (mo_ k)) x v) (List.all_eq_true.mp kI_ok (mo_ k, x, v) (lk_mem hv)))) hd (K D p l e R s m args below meth c hC hK H locs cells slots ls hH hc hs hl hL)
theorem e_ldc2 {x : Nat} {v : Int64} (hd : decode (mc_ k) pc = .ok (.ldc2_w x, 3)) (hv : lk_ kJ_ (mo_ k) x = some v) (K : Ev_ k (pc + 3) L (.long v :: r) h Q) : Ev_ k pc L r h Q := by
  intro D p l e R s m args below meth c hC hK H locs cells slots ls hH hc hs hl hL
  exact lv_ldc2 hC.1 hC.2.1 hC.2.2.2.2.2.2.2.1 (hC.2.2.2.2.2.2.2.2.1 _ (tw_in (w := .constantLong (ow_ (mo_ k)) x v) (List.all_eq_true.mp kJ_ok (mo_ k, x, v) (lk_mem hv)))) hd (K D p l e R s m args below meth c hC hK H locs cells slots ls hH hc hs hl hL)
end Es
