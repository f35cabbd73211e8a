/-! ===== one instruction of the small machine, as an equivalence ===== -/
section Rt
variable {k pc : Nat} {L st r : List Value} {h : MH_} {Q : Rs_ → MH_ → Prop}
theorem r_st {i : Instr} {n pc' : Nat} {L' st' : List Value} {h' : MH_} (hd : decode (mc_ k) pc = .ok (i, n)) (hs : st_ k i n pc L st h = some (.inl (pc', L', st', h'))) : Wp k pc L st h Q ↔ Wp k pc' L' st' h' Q := by
  rw [Wp_fix]
  unfold F_
  rw [hd]
  simp only [hs]
theorem r_re {i : Instr} {n : Nat} {v : Value} (hd : decode (mc_ k) pc = .ok (i, n)) (hs : st_ k i n pc L st h = some (.inr v)) : Wp k pc L st h Q ↔ Q (.inl v) h := by
  rw [Wp_fix]
  unfold F_
  rw [hd]
  simp only [hs]
theorem r_no {i : Instr} {n : Nat} (hd : decode (mc_ k) pc = .ok (i, n)) (hs : st_ k i n pc L st h = none) (hc : ca_ k i n st h = none) (ht : th_ k i n pc st h = none) : Wp k pc L st h Q ↔ False := by
  rw [Wp_fix]
  unfold F_
  rw [hd]
  simp only [hs, hc, ht]
theorem r_null (hd : decode (mc_ k) pc = .ok (.aconst_null, 1)) : Wp k pc L st h Q ↔ Wp k (pc + 1) L (.null :: st) h Q := r_st hd rfl
theorem r_iconst {x : _} {v : Int32} (hd : decode (mc_ k) pc = .ok (.iconst x, 1)) (hv : Int32.ofInt x = v) : Wp k pc L st h Q ↔ Wp k (pc + 1) L (.int v :: st) h Q := by subst hv; exact r_st hd rfl
theorem r_lconst {x : Fin 2} {v : Int64} (hd : decode (mc_ k) pc = .ok (.lconst x, 1)) (hv : Int64.ofNat (x : Nat) = v) : Wp k pc L st h Q ↔ Wp k (pc + 1) L (.long v :: st) h Q := by subst hv; exact r_st hd rfl
theorem r_bipush {x : _} {v : Int32} (hd : decode (mc_ k) pc = .ok (.bipush x, 2)) (hv : (Int8.ofInt x).toInt32 = v) : Wp k pc L st h Q ↔ Wp k (pc + 2) L (.int v :: st) h Q := by subst hv; exact r_st hd rfl
theorem r_sipush {x : _} {v : Int32} (hd : decode (mc_ k) pc = .ok (.sipush x, 3)) (hv : (Int16.ofInt x).toInt32 = v) : Wp k pc L st h Q ↔ Wp k (pc + 3) L (.int v :: st) h Q := by subst hv; exact r_st hd rfl
theorem r_ldcM (hd : decode (mc_ k) pc = .ok (.ldc 110, 2)) (hk : mo_ k = 16) : Wp k pc L st h Q ↔ Wp k (pc + 2) L (.ref (mi_ h) :: st) h Q := r_st hd (by simp only [st_, gd_, hk]; rfl)
theorem r_ldc {x : Nat} {v : Int32} (hd : decode (mc_ k) pc = .ok (.ldc x, 2)) (hk : ¬ mo_ k = 16) (hl : lk_ kI_ (mo_ k) x = some v) : Wp k pc L st h Q ↔ Wp k (pc + 2) L (.int v :: st) h Q := r_st hd (by simp only [st_, gd_, hk, hl, false_and, if_false, Option.bind]; rfl)
theorem r_ldc2 {x : Nat} {v : Int64} (hd : decode (mc_ k) pc = .ok (.ldc2_w x, 3)) (hl : lk_ kJ_ (mo_ k) x = some v) : Wp k pc L st h Q ↔ Wp k (pc + 3) L (.long v :: st) h Q := r_st hd (by simp only [st_, gd_, hl, Option.bind]; rfl)
theorem r_iload {x : Nat} {v : Int32} (hd : decode (mc_ k) pc = .ok (.iload x, 2)) (hv : L[x]? = some (.int v)) : Wp k pc L st h Q ↔ Wp k (pc + 2) L (.int v :: st) h Q := r_st hd (by simp only [st_, gd_, hv, vI_]; rfl)
theorem r_iload_n {x : Fin 4} {v : Int32} (hd : decode (mc_ k) pc = .ok (.iload_n x, 1)) (hv : L[(x : Nat)]? = some (.int v)) : Wp k pc L st h Q ↔ Wp k (pc + 1) L (.int v :: st) h Q := r_st hd (by simp only [st_, gd_, hv, vI_]; rfl)
theorem r_lload {x : Nat} {v : Int64} (hd : decode (mc_ k) pc = .ok (.lload x, 2)) (hv : L[x]? = some (.long v)) : Wp k pc L st h Q ↔ Wp k (pc + 2) L (.long v :: st) h Q := r_st hd (by simp only [st_, gd_, hv, vJ_]; rfl)
theorem r_lload_n {x : Fin 4} {v : Int64} (hd : decode (mc_ k) pc = .ok (.lload_n x, 1)) (hv : L[(x : Nat)]? = some (.long v)) : Wp k pc L st h Q ↔ Wp k (pc + 1) L (.long v :: st) h Q := r_st hd (by simp only [st_, gd_, hv, vJ_]; rfl)
theorem r_aload {x v : Nat} (hd : decode (mc_ k) pc = .ok (.aload x, 2)) (hv : L[x]? = some (.ref v)) : Wp k pc L st h Q ↔ Wp k (pc + 2) L (.ref v :: st) h Q := r_st hd (by simp only [st_, gd_, hv, vR_]; rfl)
theorem r_aload_n {x : Fin 4} {v : Nat} (hd : decode (mc_ k) pc = .ok (.aload_n x, 1)) (hv : L[(x : Nat)]? = some (.ref v)) : Wp k pc L st h Q ↔ Wp k (pc + 1) L (.ref v :: st) h Q := r_st hd (by simp only [st_, gd_, hv, vR_]; rfl)
theorem r_istore {x : Nat} {v : Int32} {L' : List Value} (hd : decode (mc_ k) pc = .ok (.istore x, 2)) (hx : x < ml_ k) (hL : s1_ L x (.int v) = L') : Wp k pc L (.int v :: r) h Q ↔ Wp k (pc + 2) L' r h Q := r_st hd (by subst hL; simp only [st_, gd_, hx, q1i_, and_self, if_true])
theorem r_istore_n {x : Fin 4} {v : Int32} {L' : List Value} (hd : decode (mc_ k) pc = .ok (.istore_n x, 1)) (hx : (x : Nat) < ml_ k) (hL : s1_ L x (.int v) = L') : Wp k pc L (.int v :: r) h Q ↔ Wp k (pc + 1) L' r h Q := r_st hd (by subst hL; simp only [st_, gd_, hx, q1i_, and_self, if_true])
theorem r_lstore {x : Nat} {v : Int64} {L' : List Value} (hd : decode (mc_ k) pc = .ok (.lstore x, 2)) (hx : x + 1 < ml_ k) (hL : s2_ L x (.long v) = L') : Wp k pc L (.long v :: r) h Q ↔ Wp k (pc + 2) L' r h Q := r_st hd (by subst hL; simp only [st_, gd_, hx, q1l_, and_self, if_true])
theorem r_lstore_n {x : Fin 4} {v : Int64} {L' : List Value} (hd : decode (mc_ k) pc = .ok (.lstore_n x, 1)) (hx : (x : Nat) + 1 < ml_ k) (hL : s2_ L x (.long v) = L') : Wp k pc L (.long v :: r) h Q ↔ Wp k (pc + 1) L' r h Q := r_st hd (by subst hL; simp only [st_, gd_, hx, q1l_, and_self, if_true])
theorem r_astore {x : Nat} {v : Nat} {L' : List Value} (hd : decode (mc_ k) pc = .ok (.astore x, 2)) (hx : x < ml_ k) (hL : s1_ L x (.ref v) = L') : Wp k pc L (.ref v :: r) h Q ↔ Wp k (pc + 2) L' r h Q := r_st hd (by subst hL; simp only [st_, gd_, hx, q1r_, and_self, if_true])
theorem r_astore_n {x : Fin 4} {v : Nat} {L' : List Value} (hd : decode (mc_ k) pc = .ok (.astore_n x, 1)) (hx : (x : Nat) < ml_ k) (hL : s1_ L x (.ref v) = L') : Wp k pc L (.ref v :: r) h Q ↔ Wp k (pc + 1) L' r h Q := r_st hd (by subst hL; simp only [st_, gd_, hx, q1r_, and_self, if_true])
theorem r_iinc {x : Nat} {c : Int} {v w : Int32} {L' : List Value} (hd : decode (mc_ k) pc = .ok (.iinc x c, 3)) (hx : x < ml_ k) (hv : L[x]? = some (.int v)) (hc : Int32.ofInt c = w) (hL : s1_ L x (.int (v + w)) = L') : Wp k pc L st h Q ↔ Wp k (pc + 3) L' st h Q := r_st hd (by subst hL hc; simp only [st_, gd_, hx, hv, vI_, if_true])
theorem r_iincW {x : Nat} {c : Int} {v w : Int32} {L' : List Value} (hd : decode (mc_ k) pc = .ok (.iinc x c, 6)) (hx : x < ml_ k) (hv : L[x]? = some (.int v)) (hc : Int32.ofInt c = w) (hL : s1_ L x (.int (v + w)) = L') : Wp k pc L st h Q ↔ Wp k (pc + 6) L' st h Q := r_st hd (by subst hL hc; simp [st_, gd_, hx, hv, vI_])
theorem r_iadd {x y : Int32} (hd : decode (mc_ k) pc = .ok (.iadd, 1)) : Wp k pc L (.int y :: .int x :: r) h Q ↔ Wp k (pc + 1) L (.int (x + y) :: r) h Q := r_st hd rfl
theorem r_isub {x y : Int32} (hd : decode (mc_ k) pc = .ok (.isub, 1)) : Wp k pc L (.int y :: .int x :: r) h Q ↔ Wp k (pc + 1) L (.int (x - y) :: r) h Q := r_st hd rfl
theorem r_imul {x y : Int32} (hd : decode (mc_ k) pc = .ok (.imul, 1)) : Wp k pc L (.int y :: .int x :: r) h Q ↔ Wp k (pc + 1) L (.int (x * y) :: r) h Q := r_st hd rfl
theorem r_iand {x y : Int32} (hd : decode (mc_ k) pc = .ok (.iand, 1)) : Wp k pc L (.int y :: .int x :: r) h Q ↔ Wp k (pc + 1) L (.int (x &&& y) :: r) h Q := r_st hd rfl
theorem r_ior {x y : Int32} (hd : decode (mc_ k) pc = .ok (.ior, 1)) : Wp k pc L (.int y :: .int x :: r) h Q ↔ Wp k (pc + 1) L (.int (x ||| y) :: r) h Q := r_st hd rfl
theorem r_idiv {x y : Int32} (hd : decode (mc_ k) pc = .ok (.idiv, 1)) : Wp k pc L (.int y :: .int x :: r) h Q ↔ ¬ y = 0 ∧ Wp k (pc + 1) L (.int (x / y) :: r) h Q := by
  by_cases hy : y = 0
  · rw [r_no hd (by simp [st_, gd_, q2i_, hy]) rfl rfl]; simp [hy]
  · rw [r_st hd (by simp only [st_, gd_, q2i_, hy, not_false_eq_true, if_true]; rfl)]; simp [hy]
theorem r_irem {x y : Int32} (hd : decode (mc_ k) pc = .ok (.irem, 1)) : Wp k pc L (.int y :: .int x :: r) h Q ↔ ¬ y = 0 ∧ Wp k (pc + 1) L (.int (x - x / y * y) :: r) h Q := by
  by_cases hy : y = 0
  · rw [r_no hd (by simp [st_, gd_, q2i_, hy]) rfl rfl]; simp [hy]
  · rw [r_st hd (by simp only [st_, gd_, q2i_, hy, not_false_eq_true, if_true]; rfl)]; simp [hy]
theorem r_ineg {x : Int32} (hd : decode (mc_ k) pc = .ok (.ineg, 1)) : Wp k pc L (.int x :: r) h Q ↔ Wp k (pc + 1) L (.int (-x) :: r) h Q := r_st hd rfl
theorem r_ishl {x y : Int32} (hd : decode (mc_ k) pc = .ok (.ishl, 1)) : Wp k pc L (.int y :: .int x :: r) h Q ↔ Wp k (pc + 1) L (.int (x <<< (y &&& 31)) :: r) h Q := r_st hd rfl
theorem r_ishr {x y : Int32} (hd : decode (mc_ k) pc = .ok (.ishr, 1)) : Wp k pc L (.int y :: .int x :: r) h Q ↔ Wp k (pc + 1) L (.int (x >>> (y &&& 31)) :: r) h Q := r_st hd rfl
theorem r_ladd {x y : Int64} (hd : decode (mc_ k) pc = .ok (.ladd, 1)) : Wp k pc L (.long y :: .long x :: r) h Q ↔ Wp k (pc + 1) L (.long (x + y) :: r) h Q := r_st hd rfl
theorem r_lsub {x y : Int64} (hd : decode (mc_ k) pc = .ok (.lsub, 1)) : Wp k pc L (.long y :: .long x :: r) h Q ↔ Wp k (pc + 1) L (.long (x - y) :: r) h Q := r_st hd rfl
theorem r_lmul {x y : Int64} (hd : decode (mc_ k) pc = .ok (.lmul, 1)) : Wp k pc L (.long y :: .long x :: r) h Q ↔ Wp k (pc + 1) L (.long (x * y) :: r) h Q := r_st hd rfl
theorem r_land {x y : Int64} (hd : decode (mc_ k) pc = .ok (.land, 1)) : Wp k pc L (.long y :: .long x :: r) h Q ↔ Wp k (pc + 1) L (.long (x &&& y) :: r) h Q := r_st hd rfl
theorem r_lor {x y : Int64} (hd : decode (mc_ k) pc = .ok (.lor, 1)) : Wp k pc L (.long y :: .long x :: r) h Q ↔ Wp k (pc + 1) L (.long (x ||| y) :: r) h Q := r_st hd rfl
theorem r_ldiv {x y : Int64} (hd : decode (mc_ k) pc = .ok (.ldiv, 1)) : Wp k pc L (.long y :: .long x :: r) h Q ↔ ¬ y = 0 ∧ Wp k (pc + 1) L (.long (x / y) :: r) h Q := by
  by_cases hy : y = 0
  · rw [r_no hd (by simp [st_, gd_, q2l_, hy]) rfl rfl]; simp [hy]
  · rw [r_st hd (by simp only [st_, gd_, q2l_, hy, not_false_eq_true, if_true]; rfl)]; simp [hy]
theorem r_lrem {x y : Int64} (hd : decode (mc_ k) pc = .ok (.lrem, 1)) : Wp k pc L (.long y :: .long x :: r) h Q ↔ ¬ y = 0 ∧ Wp k (pc + 1) L (.long (x - x / y * y) :: r) h Q := by
  by_cases hy : y = 0
  · rw [r_no hd (by simp [st_, gd_, q2l_, hy]) rfl rfl]; simp [hy]
  · rw [r_st hd (by simp only [st_, gd_, q2l_, hy, not_false_eq_true, if_true]; rfl)]; simp [hy]
theorem r_lneg {x : Int64} (hd : decode (mc_ k) pc = .ok (.lneg, 1)) : Wp k pc L (.long x :: r) h Q ↔ Wp k (pc + 1) L (.long (-x) :: r) h Q := r_st hd rfl
theorem r_lshl {x : Int64} {y : Int32} (hd : decode (mc_ k) pc = .ok (.lshl, 1)) : Wp k pc L (.int y :: .long x :: r) h Q ↔ Wp k (pc + 1) L (.long (x <<< (y.toInt64 &&& 63)) :: r) h Q := r_st hd rfl
theorem r_lshr {x : Int64} {y : Int32} (hd : decode (mc_ k) pc = .ok (.lshr, 1)) : Wp k pc L (.int y :: .long x :: r) h Q ↔ Wp k (pc + 1) L (.long (x >>> (y.toInt64 &&& 63)) :: r) h Q := r_st hd rfl
theorem r_lushr {x : Int64} {y : Int32} (hd : decode (mc_ k) pc = .ok (.lushr, 1)) : Wp k pc L (.int y :: .long x :: r) h Q ↔ Wp k (pc + 1) L (.long (x.toUInt64 >>> (y.toInt64.toUInt64 &&& Int64.toUInt64 63)).toInt64 :: r) h Q := r_st hd rfl
theorem r_lcmp {x y : Int64} (hd : decode (mc_ k) pc = .ok (.lcmp, 1)) : Wp k pc L (.long y :: .long x :: r) h Q ↔ Wp k (pc + 1) L (.int (lg_cmp x y) :: r) h Q := r_st hd rfl
theorem r_i2l {x : Int32} (hd : decode (mc_ k) pc = .ok (.i2l, 1)) : Wp k pc L (.int x :: r) h Q ↔ Wp k (pc + 1) L (.long x.toInt64 :: r) h Q := r_st hd rfl
theorem r_l2i {x : Int64} (hd : decode (mc_ k) pc = .ok (.l2i, 1)) : Wp k pc L (.long x :: r) h Q ↔ Wp k (pc + 1) L (.int x.toInt32 :: r) h Q := r_st hd rfl
theorem r_i2b {x : Int32} (hd : decode (mc_ k) pc = .ok (.i2b, 1)) : Wp k pc L (.int x :: r) h Q ↔ Wp k (pc + 1) L (.int x.toInt8.toInt32 :: r) h Q := r_st hd rfl
theorem r_dup {v : Value} (hd : decode (mc_ k) pc = .ok (.dup, 1)) (hv : v.category = 1) : Wp k pc L (v :: r) h Q ↔ Wp k (pc + 1) L (v :: v :: r) h Q := r_st hd (by simp only [st_, gd_, q1v_, hv, if_true])
theorem r_pop {v : Value} (hd : decode (mc_ k) pc = .ok (.pop, 1)) (hv : v.category = 1) : Wp k pc L (v :: r) h Q ↔ Wp k (pc + 1) L r h Q := r_st hd (by simp only [st_, gd_, q1v_, hv, if_true])
theorem r_dup_x1 {v w : Value} (hd : decode (mc_ k) pc = .ok (.dup_x1, 1)) (hv : v.category = 1) (hw : w.category = 1) : Wp k pc L (w :: v :: r) h Q ↔ Wp k (pc + 1) L (w :: v :: w :: r) h Q := r_st hd (by simp only [st_, gd_, q2v_, hv, hw, and_self, if_true])
theorem r_dup2 {v w : Value} (hd : decode (mc_ k) pc = .ok (.dup2, 1)) (hv : v.category = 1) (hw : w.category = 1) : Wp k pc L (w :: v :: r) h Q ↔ Wp k (pc + 1) L (w :: v :: w :: v :: r) h Q := r_st hd (by simp only [st_, gd_, q2v_, hv, hw, and_self, if_true])
theorem r_goto {o : Int} {T : Nat} (hd : decode (mc_ k) pc = .ok (.goto o, 3)) (ho : 0 ≤ (pc : Int) + o) (hT : tg_ pc o = T) : Wp k pc L st h Q ↔ Wp k T L st h Q := by
  subst hT; exact r_st hd (by simp only [st_, gd_, ho, and_self, if_true])
theorem z_ite {c : Prop} (d : Decidable c) {T F : Nat} {X : Nat → Prop} : X (@ite _ c d T F) ↔ @ite _ c d (X T) (X F) := by
  cases d <;> rfl
theorem r_ifs {c : ClassFile.Cond} {o : Int} {x : Int32} {T : Nat} (hd : decode (mc_ k) pc = .ok (.ifCond c o, 3)) (ho : 0 ≤ (pc : Int) + o) (hT : tg_ pc o = T) : Wp k pc L (.int x :: r) h Q ↔ @ite _ (z0_ c x) (zd_ c x) (Wp k T L r h Q) (Wp k (pc + 3) L r h Q) := by
  subst hT
  rw [r_st (pc' := @ite _ (z0_ c x) (zd_ c x) (tg_ pc o) (pc + 3)) (L' := L) (st' := r) (h' := h) hd (by simp only [st_, gd_, ho, q1i_, and_self, if_true])]
  exact z_ite (X := fun p => Wp k p L r h Q) _
theorem r_icm {c : ClassFile.Cond} {o : Int} {x y : Int32} {T : Nat} (hd : decode (mc_ k) pc = .ok (.if_icmp c o, 3)) (ho : 0 ≤ (pc : Int) + o) (hT : tg_ pc o = T) : Wp k pc L (.int y :: .int x :: r) h Q ↔ @ite _ (z2_ c x y) (zf_ c x y) (Wp k T L r h Q) (Wp k (pc + 3) L r h Q) := by
  subst hT
  rw [r_st (pc' := @ite _ (z2_ c x y) (zf_ c x y) (tg_ pc o) (pc + 3)) (L' := L) (st' := r) (h' := h) hd (by simp only [st_, gd_, ho, q2i_, and_self, if_true])]
  exact z_ite (X := fun p => Wp k p L r h Q) _
theorem z_pos {c c' : Prop} (d : Decidable c) [d' : Decidable c'] (hc : c ↔ c') {A B : Prop} : @ite _ c d A B ↔ if c' then A else B := by
  by_cases h : c
  · rw [@if_pos _ d h, if_pos (hc.mp h)]
  · rw [@if_neg _ d h, if_neg (fun z => h (hc.mpr z))]
theorem z_neg {c c' : Prop} (d : Decidable c) [d' : Decidable c'] (hc : c ↔ ¬ c') {A B : Prop} : @ite _ c d A B ↔ if c' then B else A := by
  by_cases h : c
  · rw [@if_pos _ d h, if_neg (hc.mp h)]
  · rw [@if_neg _ d h, if_pos (Classical.byContradiction fun z => h (hc.mpr z))]
theorem r_ifeq {o : Int} {x : Int32} {T : Nat} (hd : decode (mc_ k) pc = .ok (.ifCond .eq o, 3)) (ho : 0 ≤ (pc : Int) + o) (hT : tg_ pc o = T) : Wp k pc L (.int x :: r) h Q ↔ if x = 0 then Wp k T L r h Q else Wp k (pc + 3) L r h Q := (r_ifs hd ho hT).trans (z_pos (c' := x = 0) _ Iff.rfl)
theorem r_ifne {o : Int} {x : Int32} {T : Nat} (hd : decode (mc_ k) pc = .ok (.ifCond .ne o, 3)) (ho : 0 ≤ (pc : Int) + o) (hT : tg_ pc o = T) : Wp k pc L (.int x :: r) h Q ↔ if x = 0 then Wp k (pc + 3) L r h Q else Wp k T L r h Q := (r_ifs hd ho hT).trans (z_neg _ Iff.rfl)
theorem r_iflt {o : Int} {x : Int32} {T : Nat} (hd : decode (mc_ k) pc = .ok (.ifCond .lt o, 3)) (ho : 0 ≤ (pc : Int) + o) (hT : tg_ pc o = T) : Wp k pc L (.int x :: r) h Q ↔ if x < 0 then Wp k T L r h Q else Wp k (pc + 3) L r h Q := (r_ifs hd ho hT).trans (z_pos (c' := x < 0) _ Iff.rfl)
theorem r_ifge {o : Int} {x : Int32} {T : Nat} (hd : decode (mc_ k) pc = .ok (.ifCond .ge o, 3)) (ho : 0 ≤ (pc : Int) + o) (hT : tg_ pc o = T) : Wp k pc L (.int x :: r) h Q ↔ if x < 0 then Wp k (pc + 3) L r h Q else Wp k T L r h Q := (r_ifs hd ho hT).trans (z_neg _ Int32.not_lt.symm)
theorem r_ifgt {o : Int} {x : Int32} {T : Nat} (hd : decode (mc_ k) pc = .ok (.ifCond .gt o, 3)) (ho : 0 ≤ (pc : Int) + o) (hT : tg_ pc o = T) : Wp k pc L (.int x :: r) h Q ↔ if 0 < x then Wp k T L r h Q else Wp k (pc + 3) L r h Q := (r_ifs hd ho hT).trans (z_pos (c' := 0 < x) _ Iff.rfl)
theorem r_ifle {o : Int} {x : Int32} {T : Nat} (hd : decode (mc_ k) pc = .ok (.ifCond .le o, 3)) (ho : 0 ≤ (pc : Int) + o) (hT : tg_ pc o = T) : Wp k pc L (.int x :: r) h Q ↔ if 0 < x then Wp k (pc + 3) L r h Q else Wp k T L r h Q := (r_ifs hd ho hT).trans (z_neg _ Int32.not_lt.symm)
theorem r_iceq {o : Int} {x y : Int32} {T : Nat} (hd : decode (mc_ k) pc = .ok (.if_icmp .eq o, 3)) (ho : 0 ≤ (pc : Int) + o) (hT : tg_ pc o = T) : Wp k pc L (.int y :: .int x :: r) h Q ↔ if x = y then Wp k T L r h Q else Wp k (pc + 3) L r h Q := (r_icm hd ho hT).trans (z_pos (c' := x = y) _ Iff.rfl)
theorem r_icne {o : Int} {x y : Int32} {T : Nat} (hd : decode (mc_ k) pc = .ok (.if_icmp .ne o, 3)) (ho : 0 ≤ (pc : Int) + o) (hT : tg_ pc o = T) : Wp k pc L (.int y :: .int x :: r) h Q ↔ if x = y then Wp k (pc + 3) L r h Q else Wp k T L r h Q := (r_icm hd ho hT).trans (z_neg _ Iff.rfl)
theorem r_iclt {o : Int} {x y : Int32} {T : Nat} (hd : decode (mc_ k) pc = .ok (.if_icmp .lt o, 3)) (ho : 0 ≤ (pc : Int) + o) (hT : tg_ pc o = T) : Wp k pc L (.int y :: .int x :: r) h Q ↔ if x < y then Wp k T L r h Q else Wp k (pc + 3) L r h Q := (r_icm hd ho hT).trans (z_pos (c' := x < y) _ Iff.rfl)
theorem r_icge {o : Int} {x y : Int32} {T : Nat} (hd : decode (mc_ k) pc = .ok (.if_icmp .ge o, 3)) (ho : 0 ≤ (pc : Int) + o) (hT : tg_ pc o = T) : Wp k pc L (.int y :: .int x :: r) h Q ↔ if x < y then Wp k (pc + 3) L r h Q else Wp k T L r h Q := (r_icm hd ho hT).trans (z_neg _ Int32.not_lt.symm)
theorem r_icgt {o : Int} {x y : Int32} {T : Nat} (hd : decode (mc_ k) pc = .ok (.if_icmp .gt o, 3)) (ho : 0 ≤ (pc : Int) + o) (hT : tg_ pc o = T) : Wp k pc L (.int y :: .int x :: r) h Q ↔ if y < x then Wp k T L r h Q else Wp k (pc + 3) L r h Q := (r_icm hd ho hT).trans (z_pos (c' := y < x) _ Iff.rfl)
theorem r_icle {o : Int} {x y : Int32} {T : Nat} (hd : decode (mc_ k) pc = .ok (.if_icmp .le o, 3)) (ho : 0 ≤ (pc : Int) + o) (hT : tg_ pc o = T) : Wp k pc L (.int y :: .int x :: r) h Q ↔ if y < x then Wp k (pc + 3) L r h Q else Wp k T L r h Q := (r_icm hd ho hT).trans (z_neg _ Int32.not_lt.symm)
theorem r_aceq {o : Int} {x y : Nat} {T : Nat} (hd : decode (mc_ k) pc = .ok (.if_acmp .eq o, 3)) (ho : 0 ≤ (pc : Int) + o) (hT : tg_ pc o = T) : Wp k pc L (.ref y :: .ref x :: r) h Q ↔ if x = y then Wp k T L r h Q else Wp k (pc + 3) L r h Q := by
  subst hT
  rw [r_st (pc' := if x = y then tg_ pc o else pc + 3) (L' := L) (st' := r) (h' := h) hd (by simp only [st_, gd_, ho, q2r_, and_self, if_true])]
  split <;> rfl
theorem r_acne {o : Int} {x y : Nat} {T : Nat} (hd : decode (mc_ k) pc = .ok (.if_acmp .ne o, 3)) (ho : 0 ≤ (pc : Int) + o) (hT : tg_ pc o = T) : Wp k pc L (.ref y :: .ref x :: r) h Q ↔ if x = y then Wp k (pc + 3) L r h Q else Wp k T L r h Q := by
  subst hT
  rw [r_st (pc' := if x = y then pc + 3 else tg_ pc o) (L' := L) (st' := r) (h' := h) hd (by simp only [st_, gd_, ho, q2r_, and_self, if_true])]
  split <;> rfl
theorem r_tabO {d lo hi : Int} {os : Array Int} {n : Nat} {x : Int32} {T : Nat} (hd : decode (mc_ k) pc = .ok (.tableswitch d lo hi os, n)) (hx : x.toInt < lo ∨ hi < x.toInt) (ho : 0 ≤ (pc : Int) + d) (hT : tg_ pc d = T) : Wp k pc L (.int x :: r) h Q ↔ Wp k T L r h Q := by
  subst hT; exact r_st hd (by simp only [st_, gd_, q1i_, hx, ho, if_true])
theorem r_tabI {d lo hi o : Int} {os : Array Int} {n : Nat} {x : Int32} {T : Nat} (hd : decode (mc_ k) pc = .ok (.tableswitch d lo hi os, n)) (hx : ¬ (x.toInt < lo ∨ hi < x.toInt)) (hq : os[(x.toInt - lo).toNat]? = some o) (ho : 0 ≤ (pc : Int) + o) (hT : tg_ pc o = T) : Wp k pc L (.int x :: r) h Q ↔ Wp k T L r h Q := by
  subst hT; exact r_st hd (by simp only [st_, gd_, q1i_, hx, hq, ho, if_true, if_false, Option.bind])
theorem r_look {d : Int} {ps : Array (Int × Int)} {n : Nat} {x : Int32} {T : Nat} (hd : decode (mc_ k) pc = .ok (.lookupswitch d ps, n)) (hp : (ps.toList.zip (ps.toList.drop 1)).all (fun (a, next) => a.1 < next.1) = true) (ho : 0 ≤ (pc : Int) + sw_ ps.toList d x.toInt) (hT : tg_ pc (sw_ ps.toList d x.toInt) = T) : Wp k pc L (.int x :: r) h Q ↔ Wp k T L r h Q := by
  subst hT; exact r_st hd (by simp only [st_, gd_, q1i_, hp, ho, if_true])
theorem sw_d {d x : Int} : ∀ {ps : List (Int × Int)}, (∀ q ∈ ps, ¬ q.1 = x) → sw_ ps d x = d
  | [], _ => rfl
  | (a, o) :: r, hx => by
    have h1 : ¬ a = x := hx (a, o) (List.mem_cons_self ..)
    have h2 := sw_d (ps := r) (d := d) (x := x) (fun q hq => hx q (List.mem_cons_of_mem _ hq))
    unfold sw_ at h2 ⊢
    rw [Op.lookupswitch.offset_cons, if_neg h1, h2]
theorem r_lookD {d : Int} {ps : Array (Int × Int)} {n : Nat} {x : Int32} {T : Nat} (hd : decode (mc_ k) pc = .ok (.lookupswitch d ps, n)) (hp : (ps.toList.zip (ps.toList.drop 1)).all (fun (a, next) => a.1 < next.1) = true) (hx : ∀ q ∈ ps.toList, ¬ q.1 = x.toInt) (ho : 0 ≤ (pc : Int) + d) (hT : tg_ pc d = T) : Wp k pc L (.int x :: r) h Q ↔ Wp k T L r h Q :=
  r_look hd hp (by rw [sw_d hx]; exact ho) (by rw [sw_d hx]; exact hT)
theorem r_getI {x t j g a : Nat} (hd : decode (mc_ k) pc = .ok (.getfield x, 3)) (hl : lk_ fT_ (mo_ k) x = some (t, j, g)) (hg : g ≤ 1) : Wp k pc L (.ref a :: r) h Q ↔ kd_ h a = t ∧ Wp k (pc + 3) L (.int (gI_ h a j) :: r) h Q := by
  by_cases ha : kd_ h a = t
  · rw [r_st hd (by simp only [st_, gd_, hl, q1r_, ha, hg, Option.bind, if_true]; rfl)]; simp [ha]
  · rw [r_no hd (by simp [st_, gd_, hl, q1r_, ha]) rfl rfl]; simp [ha]
theorem r_getJ {x t j a : Nat} (hd : decode (mc_ k) pc = .ok (.getfield x, 3)) (hl : lk_ fT_ (mo_ k) x = some (t, j, 2)) : Wp k pc L (.ref a :: r) h Q ↔ kd_ h a = t ∧ Wp k (pc + 3) L (.long (gJ_ h a j) :: r) h Q := by
  by_cases ha : kd_ h a = t
  · rw [r_st hd (by simp only [st_, gd_, hl, q1r_, ha, Option.bind, if_true]; rfl)]; simp [ha]
  · rw [r_no hd (by simp [st_, gd_, hl, q1r_, ha]) rfl rfl]; simp [ha]
theorem r_getP {x t j a : Nat} (hd : decode (mc_ k) pc = .ok (.getfield x, 3)) (hl : lk_ fT_ (mo_ k) x = some (t, j, 3)) : Wp k pc L (.ref a :: r) h Q ↔ kd_ h a = t ∧ ∃ b, gP_ h a j = some b ∧ Wp k (pc + 3) L (.ref b :: r) h Q := by
  by_cases ha : kd_ h a = t
  · cases hb : gP_ h a j with
    | none => rw [r_no hd (by simp [st_, gd_, hl, q1r_, ha, hb]) rfl rfl]; simp
    | some b => rw [r_st hd (by simp only [st_, gd_, hl, q1r_, ha, hb, Option.bind, if_true]; rfl)]; simp [ha]
  · rw [r_no hd (by simp [st_, gd_, hl, q1r_, ha]) rfl rfl]; simp [ha]
theorem r_putI {x t j a : Nat} {v : Int32} (hd : decode (mc_ k) pc = .ok (.putfield x, 3)) (hl : lk_ fT_ (mo_ k) x = some (t, j, 0)) (hp : pok_ k t j = true) : Wp k pc L (.int v :: .ref a :: r) h Q ↔ kd_ h a = t ∧ Wp k (pc + 3) L r (sI_ h a j v) Q := by
  by_cases ha : kd_ h a = t
  · rw [r_st hd (by simp only [st_, gd_, hl, hp, qir_, ha, Option.bind, if_true]; rfl)]; simp [ha]
  · rw [r_no hd (by simp [st_, gd_, hl, hp, qir_, ha]) rfl rfl]; simp [ha]
theorem r_putZ {x t j a : Nat} {v : Int32} (hd : decode (mc_ k) pc = .ok (.putfield x, 3)) (hl : lk_ fT_ (mo_ k) x = some (t, j, 1)) (hp : pok_ k t j = true) : Wp k pc L (.int v :: .ref a :: r) h Q ↔ kd_ h a = t ∧ (v = 0 ∨ v = 1) ∧ Wp k (pc + 3) L r (sI_ h a j v) Q := by
  by_cases ha : kd_ h a = t ∧ (v = 0 ∨ v = 1)
  · rw [r_st (pc' := pc + 3) (L' := L) (st' := r) (h' := sI_ h a j v) hd (by simp [st_, gd_, hl, hp, qir_, ha])]; simp [ha]
  · rw [r_no hd (by simp [st_, gd_, hl, hp, qir_, ha]) rfl rfl, ← and_assoc]; simp [ha]
theorem r_putJ {x t j a : Nat} {v : Int64} (hd : decode (mc_ k) pc = .ok (.putfield x, 3)) (hl : lk_ fT_ (mo_ k) x = some (t, j, 2)) (hp : pok_ k t j = true) : Wp k pc L (.long v :: .ref a :: r) h Q ↔ kd_ h a = t ∧ Wp k (pc + 3) L r (sJ_ h a j v) Q := by
  by_cases ha : kd_ h a = t
  · rw [r_st (pc' := pc + 3) (L' := L) (st' := r) (h' := sJ_ h a j v) hd (by simp [st_, gd_, hl, hp, qlr_, ha])]; simp [ha]
  · rw [r_no hd (by simp [st_, gd_, hl, hp, qlr_, ha]) rfl rfl]; simp [ha]
theorem r_putP {x t j a : Nat} {v : Nat} (hd : decode (mc_ k) pc = .ok (.putfield x, 3)) (hl : lk_ fT_ (mo_ k) x = some (t, j, 3)) (hp : pok_ k t j = true) : Wp k pc L (.ref v :: .ref a :: r) h Q ↔ kd_ h a = t ∧ Wp k (pc + 3) L r (sP_ h a j (some v)) Q := by
  by_cases ha : kd_ h a = t
  · rw [r_st (pc' := pc + 3) (L' := L) (st' := r) (h' := sP_ h a j (some v)) hd (by simp [st_, gd_, hl, hp, q2r_, ha])]; simp [ha]
  · rw [r_no hd (by simp [st_, gd_, hl, hp, q2r_, ha]) rfl rfl]; simp [ha]
theorem r_gets (hd : decode (mc_ k) pc = .ok (.getstatic 39, 3)) (hk : mo_ k = 13) : Wp k pc L st h Q ↔ Wp k (pc + 3) L (.ref (em_ h) :: st) h Q := r_st hd (by simp only [st_, gd_, hk, and_self, if_true])
theorem r_len {a : Nat} (hd : decode (mc_ k) pc = .ok (.arraylength, 1)) : Wp k pc L (.ref a :: r) h Q ↔ (30 ≤ kd_ h a ∧ kd_ h a ≤ 38) ∧ Wp k (pc + 1) L (.int (Int32.ofNat (ln_ h a)) :: r) h Q := by
  by_cases ha : 30 ≤ kd_ h a ∧ kd_ h a ≤ 38
  · rw [r_st hd (by simp only [st_, gd_, q1r_, ha, and_self, if_true]; rfl)]; simp [ha]
  · rw [r_no hd (by simp only [st_, gd_, q1r_, ha, if_true, if_false]) rfl rfl]; simp [ha]
theorem z_in {α : Type} {i : Int32} {n : Nat} {x : Option α} (hi : vp_in i n) : @ite _ (vp_in i n) (vpd_ _ _) x none = x := @if_pos _ (vpd_ _ _) hi _ _ _
theorem z_out {α : Type} {i : Int32} {n : Nat} {x : Option α} (hi : ¬ vp_in i n) : @ite _ (vp_in i n) (vpd_ _ _) x none = none := @if_neg _ (vpd_ _ _) hi _ _ _
theorem r_iald {a : Nat} {i : Int32} (hd : decode (mc_ k) pc = .ok (.iaload, 1)) : Wp k pc L (.int i :: .ref a :: r) h Q ↔ vp_in i (ln_ h a) ∧ (kd_ h a = 30 ∨ kd_ h a = 37) ∧ Wp k (pc + 1) L (.int (gI_ h a i.toNatClampNeg) :: r) h Q := by
  by_cases hi : vp_in i (ln_ h a)
  · by_cases ha : kd_ h a = 30 ∨ kd_ h a = 37
    · rw [r_st hd (by simp only [st_, qir_, z_in hi]; simp only [gd_, ha, if_true]; rfl)]; simp [ha, hi]
    · rw [r_no hd (by simp only [st_, qir_, z_in hi]; simp only [gd_, ha, if_true, if_false]) rfl rfl]; simp [ha]
  · rw [r_no hd (by simp only [st_, qir_, z_out hi]; simp only [gd_, if_true]) rfl rfl]; simp [hi]
theorem r_bald {a : Nat} {i : Int32} (hd : decode (mc_ k) pc = .ok (.baload, 1)) : Wp k pc L (.int i :: .ref a :: r) h Q ↔ vp_in i (ln_ h a) ∧ (kd_ h a = 31 ∨ kd_ h a = 32) ∧ Wp k (pc + 1) L (.int (gI_ h a i.toNatClampNeg) :: r) h Q := by
  by_cases hi : vp_in i (ln_ h a)
  · by_cases ha : kd_ h a = 31 ∨ kd_ h a = 32
    · rw [r_st hd (by simp only [st_, qir_, z_in hi]; simp only [gd_, ha, if_true]; rfl)]; simp [ha, hi]
    · rw [r_no hd (by simp only [st_, qir_, z_in hi]; simp only [gd_, ha, if_true, if_false]) rfl rfl]; simp [ha]
  · rw [r_no hd (by simp only [st_, qir_, z_out hi]; simp only [gd_, if_true]) rfl rfl]; simp [hi]
theorem r_lald {a : Nat} {i : Int32} (hd : decode (mc_ k) pc = .ok (.laload, 1)) : Wp k pc L (.int i :: .ref a :: r) h Q ↔ vp_in i (ln_ h a) ∧ kd_ h a = 33 ∧ Wp k (pc + 1) L (.long (gJ_ h a i.toNatClampNeg) :: r) h Q := by
  by_cases hi : vp_in i (ln_ h a)
  · by_cases ha : kd_ h a = 33
    · rw [r_st hd (by simp only [st_, qir_, z_in hi]; simp only [gd_, ha, if_true]; rfl)]; simp [ha, hi]
    · rw [r_no hd (by simp only [st_, qir_, z_in hi]; simp only [gd_, ha, if_true, if_false]) rfl rfl]; simp [ha]
  · rw [r_no hd (by simp only [st_, qir_, z_out hi]; simp only [gd_, if_true]) rfl rfl]; simp [hi]
theorem r_aald {a : Nat} {i : Int32} (hd : decode (mc_ k) pc = .ok (.aaload, 1)) : Wp k pc L (.int i :: .ref a :: r) h Q ↔ vp_in i (ln_ h a) ∧ (34 ≤ kd_ h a ∧ kd_ h a ≤ 36) ∧ ∃ b, gP_ h a i.toNatClampNeg = some b ∧ Wp k (pc + 1) L (.ref b :: r) h Q := by
  by_cases hi : vp_in i (ln_ h a)
  · by_cases ha : 34 ≤ kd_ h a ∧ kd_ h a ≤ 36
    · cases hb : gP_ h a i.toNatClampNeg with
      | none => rw [r_no hd (by simp only [st_, qir_, z_in hi]; simp only [gd_, ha, hb, and_self, if_true, Option.bind]) rfl rfl]; simp
      | some b => rw [r_st hd (by simp only [st_, qir_, z_in hi]; simp only [gd_, ha, hb, and_self, if_true, Option.bind]; rfl)]; simp [ha, hi]
    · rw [r_no hd (by simp only [st_, qir_, z_in hi]; simp only [gd_, ha, if_true, if_false]) rfl rfl]; simp [ha]
  · rw [r_no hd (by simp only [st_, qir_, z_out hi]; simp only [gd_, if_true]) rfl rfl]; simp [hi]
theorem r_iast {a : Nat} {i x : Int32} (hd : decode (mc_ k) pc = .ok (.iastore, 1)) : Wp k pc L (.int x :: .int i :: .ref a :: r) h Q ↔ vp_in i (ln_ h a) ∧ kd_ h a = 30 ∧ Wp k (pc + 1) L r (sI_ h a i.toNatClampNeg x) Q := by
  by_cases hi : vp_in i (ln_ h a)
  · by_cases ha : kd_ h a = 30
    · rw [r_st hd (by simp only [st_, qiir_, z_in hi]; simp only [gd_, ha, if_true]; rfl)]; simp [ha, hi]
    · rw [r_no hd (by simp only [st_, qiir_, z_in hi]; simp only [gd_, ha, if_true, if_false]) rfl rfl]; simp [ha]
  · rw [r_no hd (by simp only [st_, qiir_, z_out hi]; simp only [gd_, if_true]) rfl rfl]; simp [hi]
theorem r_bast {a : Nat} {i x : Int32} (hd : decode (mc_ k) pc = .ok (.bastore, 1)) : Wp k pc L (.int x :: .int i :: .ref a :: r) h Q ↔ vp_in i (ln_ h a) ∧ if kd_ h a = 31 then Wp k (pc + 1) L r (sI_ h a i.toNatClampNeg x.toInt8.toInt32) Q else (kd_ h a = 32 ∧ (x = 0 ∨ x = 1)) ∧ Wp k (pc + 1) L r (sI_ h a i.toNatClampNeg x) Q := by
  by_cases hi : vp_in i (ln_ h a)
  · by_cases ha : kd_ h a = 31
    · rw [r_st hd (by simp only [st_, qiir_, z_in hi]; simp only [gd_, ha, if_true]; rfl)]; simp [ha, hi]
    · by_cases hb : kd_ h a = 32 ∧ (x = 0 ∨ x = 1)
      · rw [r_st hd (by simp only [st_, qiir_, z_in hi]; simp only [gd_, ha, hb, and_self, if_true, if_false]; rfl)]; simp [ha, hb, hi]
      · rw [r_no hd (by simp only [st_, qiir_, z_in hi]; simp only [gd_, ha, hb, if_true, if_false]) rfl rfl]; simp [ha, hb]
  · rw [r_no hd (by simp only [st_, qiir_, z_out hi]; simp only [gd_, if_true]) rfl rfl]; simp [hi]
theorem r_last {a : Nat} {i : Int32} {x : Int64} (hd : decode (mc_ k) pc = .ok (.lastore, 1)) : Wp k pc L (.long x :: .int i :: .ref a :: r) h Q ↔ vp_in i (ln_ h a) ∧ kd_ h a = 33 ∧ Wp k (pc + 1) L r (sJ_ h a i.toNatClampNeg x) Q := by
  by_cases hi : vp_in i (ln_ h a)
  · by_cases ha : kd_ h a = 33
    · rw [r_st hd (by simp only [st_, qlir_, z_in hi]; simp only [gd_, ha, if_true]; rfl)]; simp [ha, hi]
    · rw [r_no hd (by simp only [st_, qlir_, z_in hi]; simp only [gd_, ha, if_true, if_false]) rfl rfl]; simp [ha]
  · rw [r_no hd (by simp only [st_, qlir_, z_out hi]; simp only [gd_, if_true]) rfl rfl]; simp [hi]
theorem r_aast {a x : Nat} {i : Int32} (hd : decode (mc_ k) pc = .ok (.aastore, 1)) : Wp k pc L (.ref x :: .int i :: .ref a :: r) h Q ↔ vp_in i (ln_ h a) ∧ ((kd_ h a = 34 ∧ 1 ≤ kd_ h x ∧ kd_ h x ≤ 14) ∨ (kd_ h a = 35 ∧ kd_ h x = 1) ∨ (kd_ h a = 36 ∧ kd_ h x = 10)) ∧ Wp k (pc + 1) L r (sP_ h a i.toNatClampNeg (some x)) Q := by
  by_cases hi : vp_in i (ln_ h a)
  · by_cases ha : (kd_ h a = 34 ∧ 1 ≤ kd_ h x ∧ kd_ h x ≤ 14) ∨ (kd_ h a = 35 ∧ kd_ h x = 1) ∨ (kd_ h a = 36 ∧ kd_ h x = 10)
    · rw [r_st (pc' := pc + 1) (L' := L) (st' := r) (h' := sP_ h a i.toNatClampNeg (some x)) hd (by simp only [st_, qrir_, z_in hi]; simp only [gd_, ha, if_true])]; simp only [ha, hi, true_and]
    · rw [r_no hd (by simp only [st_, qrir_, z_in hi]; simp only [gd_, ha, if_true, if_false]) rfl rfl]; simp only [ha, false_and, and_false]
  · rw [r_no hd (by simp only [st_, qrir_, z_out hi]; simp only [gd_, if_true]) rfl rfl]; simp [hi]
theorem r_aastN {a : Nat} {i : Int32} (hd : decode (mc_ k) pc = .ok (.aastore, 1)) : Wp k pc L (.null :: .int i :: .ref a :: r) h Q ↔ vp_in i (ln_ h a) ∧ kd_ h a = 34 ∧ Wp k (pc + 1) L r (sP_ h a i.toNatClampNeg none) Q := by
  by_cases hi : vp_in i (ln_ h a)
  · by_cases ha : kd_ h a = 34
    · rw [r_st (pc' := pc + 1) (L' := L) (st' := r) (h' := sP_ h a i.toNatClampNeg none) hd (by simp only [st_, qrir_, z_in hi]; simp only [gd_, ha, if_true])]; simp only [ha, hi, true_and]
    · rw [r_no hd (by simp only [st_, qrir_, z_in hi]; simp only [gd_, ha, if_true, if_false]) rfl rfl]; simp only [ha, false_and, and_false]
  · rw [r_no hd (by simp only [st_, qrir_, z_out hi]; simp only [gd_, if_true]) rfl rfl]; simp [hi]
theorem r_new {x e w : Nat} (hd : decode (mc_ k) pc = .ok (.new x, 3)) (hl : lk_ cT_ (mo_ k) x = some e) (h1 : 1 ≤ e) (h2 : e ≤ 14) (hw : nf_ e = w) : Wp k pc L st h Q ↔ (1 ≤ rc_ h ∧ w ≤ rs_ h) ∧ Wp k (pc + 3) L (.ref (nx_ h) :: st) (nw_ h e 0 w) Q := by
  subst hw
  have h3 : ¬ (20 ≤ e) := by omega
  by_cases ha : 1 ≤ rc_ h ∧ nf_ e ≤ rs_ h
  · rw [r_st (pc' := pc + 3) (L' := L) (st' := .ref (nx_ h) :: st) (h' := nw_ h e 0 (nf_ e)) hd (by simp [st_, gd_, hl, h1, h2, ha])]; simp [ha]
  · rw [r_no hd (by simp only [st_, gd_, hl, Option.bind, h1, h2, true_and, ha, if_true, if_false]) rfl (by simp [th_, gd_, hl, h3])]; simp only [ha, false_and]
theorem r_throw {x e ic : Nat} (hd : decode (mc_ k) pc = .ok (.new x, 3)) (d3 : decode (mc_ k) (pc + 3) = .ok (.dup, 1)) (d4 : decode (mc_ k) (pc + 4) = .ok (.invokespecial ic, 3)) (d7 : decode (mc_ k) (pc + 7) = .ok (.athrow, 1)) (hl : lk_ cT_ (mo_ k) x = some e) (hic : lk_ xT_ (mo_ k) ic = some e) (h1 : 20 ≤ e) (h2 : e ≤ 24) (hm : mh_ k = []) (hs : st.length ≤ 20) : Wp k pc L st h Q ↔ (1 ≤ rc_ h ∧ 6 ≤ rs_ h) ∧ Q (.inr (nx_ h)) (nw_ h e 0 6) := by
  rw [Wp_fix]
  unfold F_
  rw [hd]
  have h3 : ¬ (e ≤ 14) := by omega
  have e1 : st_ k (.new x) 3 pc L st h = none := by simp [st_, gd_, hl, h3]
  have e2 : ca_ k (.new x) 3 st h = none := rfl
  simp only [e1, e2]
  by_cases ha : 1 ≤ rc_ h ∧ 6 ≤ rs_ h
  · have e3 : th_ k (.new x) 3 pc st h = some (nw_ h e 0 6) := by simp [th_, gd_, hl, h1, h2, ha, hm, hs, d3, d4, d7, hic]
    simp only [e3, ha, and_self, true_and]
  · have e3 : th_ k (.new x) 3 pc st h = none := by simp only [th_, gd_, hl, h1, h2, true_and, ha, hm, hs, and_self, if_true, if_false, Option.bind]
    simp only [e3, ha, false_and]
theorem r_newa {t : ArrayType} {x : Int32} {e : Nat} (hd : decode (mc_ k) pc = .ok (.newarray t, 2)) (he : ak_ t = e) (h1 : 30 ≤ e) : Wp k pc L (.int x :: r) h Q ↔ (¬ x < 0 ∧ x.toNatClampNeg ≤ 1000000 ∧ 1 ≤ rc_ h ∧ x.toNatClampNeg ≤ rs_ h) ∧ Wp k (pc + 2) L (.ref (nx_ h) :: r) (nw_ h e x.toNatClampNeg x.toNatClampNeg) Q := by
  subst he
  by_cases ha : ¬ x < 0 ∧ x.toNatClampNeg ≤ 1000000 ∧ 1 ≤ rc_ h ∧ x.toNatClampNeg ≤ rs_ h
  · rw [r_st (pc' := pc + 2) (L' := L) (st' := .ref (nx_ h) :: r) (h' := nw_ h (ak_ t) x.toNatClampNeg x.toNatClampNeg) hd (by simp only [st_, gd_, h1, q1i_, ha, and_self, not_false_eq_true, if_true])]; simp only [ha, not_false_eq_true, and_self, true_and]
  · rw [r_no hd (by simp only [st_, gd_, h1, q1i_, ha, and_self, if_true, if_false]) rfl rfl]; simp only [ha, false_and]
theorem r_anew {y e : Nat} {x : Int32} (hd : decode (mc_ k) pc = .ok (.anewarray y, 3)) (hl : lk_ aT_ (mo_ k) y = some e) (h1 : 34 ≤ e) (h2 : e ≤ 36) : Wp k pc L (.int x :: r) h Q ↔ (¬ x < 0 ∧ x.toNatClampNeg ≤ 1000000 ∧ 1 ≤ rc_ h ∧ x.toNatClampNeg ≤ rs_ h) ∧ Wp k (pc + 3) L (.ref (nx_ h) :: r) (nw_ h e x.toNatClampNeg x.toNatClampNeg) Q := by
  by_cases ha : ¬ x < 0 ∧ x.toNatClampNeg ≤ 1000000 ∧ 1 ≤ rc_ h ∧ x.toNatClampNeg ≤ rs_ h
  · rw [r_st (pc' := pc + 3) (L' := L) (st' := .ref (nx_ h) :: r) (h' := nw_ h e x.toNatClampNeg x.toNatClampNeg) hd (by simp only [st_, gd_, hl, Option.bind, h1, h2, q1i_, ha, and_self, not_false_eq_true, if_true])]; simp only [ha, not_false_eq_true, and_self, true_and]
  · rw [r_no hd (by simp only [st_, gd_, hl, Option.bind, h1, h2, q1i_, ha, and_self, if_true, if_false]) rfl rfl]; simp only [ha, false_and]
theorem r_cast {x e a : Nat} (hd : decode (mc_ k) pc = .ok (.checkcast x, 3)) (hl : lk_ cT_ (mo_ k) x = some e) (h1 : 1 ≤ e) (h2 : e ≤ 14) : Wp k pc L (.ref a :: r) h Q ↔ kd_ h a = e ∧ Wp k (pc + 3) L (.ref a :: r) h Q := by
  by_cases ha : kd_ h a = e
  · rw [r_st (pc' := pc + 3) (L' := L) (st' := .ref a :: r) (h' := h) hd (by simp [st_, gd_, hl, h1, h2, q1r_, ha])]; simp [ha]
  · rw [r_no hd (by simp [st_, gd_, hl, q1r_, ha]) rfl rfl]; simp [ha]
theorem r_obj {x a y : Nat} (hd : decode (mc_ k) pc = .ok (.invokespecial x, 3)) (hl : lk_ lT_ (mo_ k) x = some (6, y)) (hr : r.length ≤ 20) : Wp k pc L (.ref a :: r) h Q ↔ Wp k (pc + 3) L r h Q := r_st hd (by simp [st_, gd_, hl, q1r_, hr])
theorem r_getC {x a y : Nat} (hd : decode (mc_ k) pc = .ok (.invokevirtual x, 3)) (hl : lk_ lT_ (mo_ k) x = some (9, y)) (hr : r.length ≤ 20) : Wp k pc L (.ref a :: r) h Q ↔ kd_ h a = 34 ∧ Wp k (pc + 3) L (.ref (mi_ h) :: r) h Q := by
  by_cases ha : kd_ h a = 34
  · rw [r_st (pc' := pc + 3) (L' := L) (st' := .ref (mi_ h) :: r) (h' := h) hd (by simp [st_, gd_, hl, q1r_, ha, hr])]; simp [ha]
  · rw [r_no hd (by simp [st_, gd_, hl, q1r_, ha]) (by simp [ca_, gd_, hl]) rfl]; simp [ha]
theorem r_acp {x y s d : Nat} {c dp sp : Int32} (hd : decode (mc_ k) pc = .ok (.invokestatic x, 3)) (hl : lk_ lT_ (mo_ k) x = some (7, y)) (hr : r.length ≤ 20) : Wp k pc L (.int c :: .int dp :: .ref d :: .int sp :: .ref s :: r) h Q ↔ (¬ sp < 0 ∧ ¬ dp < 0 ∧ ¬ c < 0 ∧ sp.toNatClampNeg + c.toNatClampNeg ≤ ln_ h s ∧ dp.toNatClampNeg + c.toNatClampNeg ≤ ln_ h d) ∧
    if kd_ h s = 30 ∧ kd_ h d = 30 then Wp k (pc + 3) L r (cI_ h s sp.toNatClampNeg d dp.toNatClampNeg c.toNatClampNeg) Q else (kd_ h s = 34 ∧ kd_ h d = 34 ∧ ∀ i, i < c.toNatClampNeg → ek_ h (gP_ h s (sp.toNatClampNeg + i)) = true) ∧ Wp k (pc + 3) L r (cP_ h s sp.toNatClampNeg d dp.toNatClampNeg c.toNatClampNeg) Q := by
  have hc : ca_ k (.invokestatic x) 3 (.int c :: .int dp :: .ref d :: .int sp :: .ref s :: r) h = none := by simp [ca_, gd_, hl]
  by_cases ha : ¬ sp < 0 ∧ ¬ dp < 0 ∧ ¬ c < 0 ∧ sp.toNatClampNeg + c.toNatClampNeg ≤ ln_ h s ∧ dp.toNatClampNeg + c.toNatClampNeg ≤ ln_ h d
  · by_cases hk : kd_ h s = 30 ∧ kd_ h d = 30
    · rw [r_st (pc' := pc + 3) (L' := L) (st' := r) (h' := cI_ h s sp.toNatClampNeg d dp.toNatClampNeg c.toNatClampNeg) hd (by simp only [st_, gd_, hl, Option.bind, hr, true_and, ha, hk, not_false_eq_true, and_self, if_true])]
      simp only [ha, hk, not_false_eq_true, and_self, if_true, true_and]
    · by_cases hq : kd_ h s = 34 ∧ kd_ h d = 34 ∧ ∀ i, i < c.toNatClampNeg → ek_ h (gP_ h s (sp.toNatClampNeg + i)) = true
      · rw [r_st (pc' := pc + 3) (L' := L) (st' := r) (h' := cP_ h s sp.toNatClampNeg d dp.toNatClampNeg c.toNatClampNeg) hd (by simp only [st_, gd_, hl, Option.bind, hr, true_and, if_pos ha, if_neg hk, if_pos hq, if_true])]
        rw [if_neg hk]
        exact ⟨fun z => ⟨ha, hq, z⟩, fun z => z.2.2⟩
      · rw [r_no hd (by simp only [st_, gd_, hl, Option.bind, hr, true_and, if_pos ha, if_neg hk, if_neg hq, if_true]) hc rfl, if_neg hk]
        exact ⟨fun z => z.elim, fun z => hq z.2.1⟩
  · rw [r_no hd (by simp only [st_, gd_, hl, Option.bind, hr, true_and, if_neg ha, if_true]) hc rfl]
    exact ⟨fun z => z.elim, fun z => ha z.1⟩
theorem r_iret {x : Int32} (hd : decode (mc_ k) pc = .ok (.ireturn, 1)) (hr : mr_ k = some .int) : Wp k pc L [.int x] h Q ↔ Q (.inl (.int x)) h := r_re hd (by simp [st_, gd_, hr])
theorem r_zret {x : Int32} (hd : decode (mc_ k) pc = .ok (.ireturn, 1)) (hr : mr_ k = some .boolean) : Wp k pc L [.int x] h Q ↔ (x = 0 ∨ x = 1) ∧ Q (.inl (.int x)) h := by
  by_cases hx : x = 0 ∨ x = 1
  · rw [r_re (v := .int x) hd (by simp [st_, gd_, hr, hx])]; simp [hx]
  · rw [r_no hd (by simp [st_, gd_, hr, hx]) rfl rfl]; simp [hx]
theorem r_lret {x : Int64} (hd : decode (mc_ k) pc = .ok (.lreturn, 1)) (hr : mr_ k = some .long) : Wp k pc L [.long x] h Q ↔ Q (.inl (.long x)) h := r_re hd (by simp [st_, gd_, hr])
theorem r_aretO {x : Nat} {s : String} (hd : decode (mc_ k) pc = .ok (.areturn, 1)) (hr : mr_ k = some (.object s)) : Wp k pc L [.ref x] h Q ↔ Q (.inl (.ref x)) h := r_re hd (by simp [st_, gd_, hr])
theorem r_aretA {x : Nat} {s : FieldType} (hd : decode (mc_ k) pc = .ok (.areturn, 1)) (hr : mr_ k = some (.array s)) : Wp k pc L [.ref x] h Q ↔ Q (.inl (.ref x)) h := r_re hd (by simp [st_, gd_, hr])
theorem r_vret (hd : decode (mc_ k) pc = .ok (.return_, 1)) (hr : mr_ k = none) : Wp k pc L [] h Q ↔ Q (.inl .null) h := r_re hd (by simp [st_, gd_, hr])
theorem r_ca {i : Instr} {n m c : Nat} {as rest : List Value} (hd : decode (mc_ k) pc = .ok (i, n)) (hs : st_ k i n pc L st h = none) (hc : ca_ k i n st h = some (m, c, as, rest)) : Wp k pc L st h Q ↔ Wp c 0 (en_ c as) [] h (bk_ Wp k pc m c L rest Q) := by
  rw [Wp_fix]
  unfold F_
  rw [hd]
  simp only [hs, hc]
theorem r_virt {x c n a m t : Nat} {as rest F E : List Value} (hd : decode (mc_ k) pc = .ok (.invokevirtual x, 3)) (hl : lk_ lT_ (mo_ k) x = some (0, c)) (hc : np_ c = n ∧ ml_ c = m ∧ mo_ c + 1 = t ∧ mp_ c < mp_ k) (hn : n ≤ st.length) (ht : (st.take n).reverse = .ref a :: as) (hr : st.drop n = rest) (h20 : rest.length ≤ 20) (hF : fl_ (.ref a :: as) = F) (hm : F.length ≤ m) (hE : F ++ List.replicate (m - F.length) .null = E) : Wp k pc L st h Q ↔ kd_ h a = t ∧ Wp c 0 E [] h (bk_ Wp k pc 0 c L rest Q) := by
  obtain ⟨c1, c2, c3, c4⟩ := hc
  have h21 : st.length ≤ 20 + n := by rw [← hr, List.length_drop] at h20; omega
  have e0 : st_ k (.invokevirtual x) 3 pc L st h = none := by simp [st_, gd_, hl]
  by_cases ha : kd_ h a = t
  · rw [r_ca (m := 0) (c := c) (as := .ref a :: as) (rest := rest) hd e0 (by simp [ca_, gd_, hl, c1, c2, c3, c4, hn, ht, hr, h20, h21, hF, hm, ha])]
    rw [show en_ c (.ref a :: as) = E by unfold en_; rw [hF, c2, hE]]
    simp [ha]
  · rw [r_no hd e0 (by simp [ca_, gd_, hl, c1, c2, c3, c4, hn, ht, hr, h20, h21, hF, hm, ha]) rfl]; simp [ha]
theorem r_spec {x c n a m q : Nat} {as rest F E : List Value} (hd : decode (mc_ k) pc = .ok (.invokespecial x, 3)) (hl : lk_ lT_ (mo_ k) x = some (q, c)) (hq : q = 1 ∨ q = 4) (hc : np_ c = n ∧ ml_ c = m ∧ mp_ c < mp_ k) (hn : n ≤ st.length) (ht : (st.take n).reverse = .ref a :: as) (hr : st.drop n = rest) (h20 : rest.length ≤ 20) (hF : fl_ (.ref a :: as) = F) (hm : F.length ≤ m) (hE : F ++ List.replicate (m - F.length) .null = E) : Wp k pc L st h Q ↔ Wp c 0 E [] h (bk_ Wp k pc q c L rest Q) := by
  obtain ⟨c1, c2, c4⟩ := hc
  have h21 : st.length ≤ 20 + n := by rw [← hr, List.length_drop] at h20; omega
  have e0 : st_ k (.invokespecial x) 3 pc L st h = none := by rcases hq with rfl | rfl <;> simp [st_, gd_, hl]
  rw [r_ca (m := q) (c := c) (as := .ref a :: as) (rest := rest) hd e0 (by rcases hq with rfl | rfl <;> simp [ca_, gd_, hl, c1, c2, c4, hn, ht, hr, h20, h21, hF, hm])]
  rw [show en_ c (.ref a :: as) = E by unfold en_; rw [hF, c2, hE]]
theorem r_stat {x c n m q : Nat} {as rest F E : List Value} (hd : decode (mc_ k) pc = .ok (.invokestatic x, 3)) (hl : lk_ lT_ (mo_ k) x = some (q, c)) (hq : q = 2 ∨ q = 3 ∨ q = 5) (hc : np_ c = n ∧ ml_ c = m ∧ mp_ c < mp_ k) (hn : n ≤ st.length) (ht : (st.take n).reverse = as) (hr : st.drop n = rest) (h20 : rest.length ≤ 20) (hF : fl_ as = F) (hm : F.length ≤ m) (hE : F ++ List.replicate (m - F.length) .null = E) : Wp k pc L st h Q ↔ Wp c 0 E [] h (bk_ Wp k pc q c L rest Q) := by
  obtain ⟨c1, c2, c4⟩ := hc
  have h21 : st.length ≤ 20 + n := by rw [← hr, List.length_drop] at h20; omega
  have e0 : st_ k (.invokestatic x) 3 pc L st h = none := by rcases hq with rfl | rfl | rfl <;> simp [st_, gd_, hl]
  rw [r_ca (m := q) (c := c) (as := as) (rest := rest) hd e0 (by rcases hq with rfl | rfl | rfl <;> simp [ca_, gd_, hl, c1, c2, c4, hn, ht, hr, h20, h21, hF, hm])]
  rw [show en_ c as = E by unfold en_; rw [hF, c2, hE]]
theorem r_bkV {m c : Nat} {v : Value} (hr : mr_ c = none) : bk_ Wp k pc m c L r Q (.inl v) h ↔ Wp k (pc + 3) L r h Q := by simp only [bk_, ps_, hr]
theorem r_bkR {m c : Nat} {v : Value} {t : FieldType} (hr : mr_ c = some t) : bk_ Wp k pc m c L r Q (.inl v) h ↔ Wp k (pc + 3) L (v :: r) h Q := by simp only [bk_, ps_, hr]
theorem r_bkX {c a : Nat} (hm : mh_ k = []) : bk_ Wp k pc 0 c L r Q (.inr a) h ↔ Q (.inr a) h := by simp only [bk_, hm, if_true]
theorem r_bkH {c a e p : Nat} (hm : ¬ mh_ k = []) (hn : hn_ k pc e = some p) (ha : kd_ h a = e) : bk_ Wp k pc 0 c L r Q (.inr a) h ↔ Wp k p L [.ref a] h Q := by simp only [bk_, hm, if_true, if_false, ha, hn]
end Rt
