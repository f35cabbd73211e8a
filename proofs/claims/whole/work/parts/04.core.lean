/-! ===== THE SMALL MACHINE: a heap of typed parts, a step, and the least predicate closed under it ===== -/
/-- kinds; lengths; ints; longs; references; the next address; cells left; slots left; the empty row -/
abbrev MH_ : Type := (Nat → Nat) × (Nat → Nat) × (Nat → Nat → Int32) × (Nat → Nat → Int64) × (Nat → Nat → Option Nat) × Nat × Nat × Nat × Nat × Nat
def kd_ (h : MH_) : Nat → Nat := h.1
def ln_ (h : MH_) : Nat → Nat := h.2.1
def gI_ (h : MH_) : Nat → Nat → Int32 := h.2.2.1
def gJ_ (h : MH_) : Nat → Nat → Int64 := h.2.2.2.1
def gP_ (h : MH_) : Nat → Nat → Option Nat := h.2.2.2.2.1
def nx_ (h : MH_) : Nat := h.2.2.2.2.2.1
def rc_ (h : MH_) : Nat := h.2.2.2.2.2.2.1
def rs_ (h : MH_) : Nat := h.2.2.2.2.2.2.2.1
def em_ (h : MH_) : Nat := h.2.2.2.2.2.2.2.2.1
def mi_ (h : MH_) : Nat := h.2.2.2.2.2.2.2.2.2
def sI_ (h : MH_) (a j : Nat) (x : Int32) : MH_ := (kd_ h, ln_ h, fun b i => if b = a ∧ i = j then x else gI_ h b i, gJ_ h, gP_ h, nx_ h, rc_ h, rs_ h, em_ h, mi_ h)
def sJ_ (h : MH_) (a j : Nat) (x : Int64) : MH_ := (kd_ h, ln_ h, gI_ h, fun b i => if b = a ∧ i = j then x else gJ_ h b i, gP_ h, nx_ h, rc_ h, rs_ h, em_ h, mi_ h)
def sP_ (h : MH_) (a j : Nat) (x : Option Nat) : MH_ := (kd_ h, ln_ h, gI_ h, gJ_ h, fun b i => if b = a ∧ i = j then x else gP_ h b i, nx_ h, rc_ h, rs_ h, em_ h, mi_ h)
/-- a new cell of kind k and length n, of w slots -/
def nw_ (h : MH_) (k n w : Nat) : MH_ := (fun b => if b = nx_ h then k else kd_ h b, fun b => if b = nx_ h then n else ln_ h b, fun b i => if b = nx_ h then 0 else gI_ h b i, fun b i => if b = nx_ h then 0 else gJ_ h b i, fun b i => if b = nx_ h then none else gP_ h b i, nx_ h + 1, rc_ h - 1, rs_ h - w, em_ h, mi_ h)
/-- a stretch of ints, of references, copied -/
def cI_ (h : MH_) (s sp d dp n : Nat) : MH_ := (kd_ h, ln_ h, fun b i => if b = d ∧ dp ≤ i ∧ i < dp + n then gI_ h s (sp + (i - dp)) else gI_ h b i, gJ_ h, gP_ h, nx_ h, rc_ h, rs_ h, em_ h, mi_ h)
def cP_ (h : MH_) (s sp d dp n : Nat) : MH_ := (kd_ h, ln_ h, gI_ h, gJ_ h, fun b i => if b = d ∧ dp ≤ i ∧ i < dp + n then gP_ h s (sp + (i - dp)) else gP_ h b i, nx_ h, rc_ h, rs_ h, em_ h, mi_ h)
/-- how a call ends: with a value (null for none), or with an exception -/
abbrev Rs_ : Type := Value ⊕ Nat
abbrev Sp_ : Type := (Nat × List Value × List Value × MH_) ⊕ Value
def gd_ {α : Type} (c : Prop) [Decidable c] (x : Option α) : Option α := if c then x else none
def q1i_ {α : Type} (st : List Value) (f : Int32 → List Value → Option α) : Option α := match st with | .int x :: r => f x r | _ => none
def q2i_ {α : Type} (st : List Value) (f : Int32 → Int32 → List Value → Option α) : Option α := match st with | .int y :: .int x :: r => f x y r | _ => none
def q1l_ {α : Type} (st : List Value) (f : Int64 → List Value → Option α) : Option α := match st with | .long x :: r => f x r | _ => none
def q2l_ {α : Type} (st : List Value) (f : Int64 → Int64 → List Value → Option α) : Option α := match st with | .long y :: .long x :: r => f x y r | _ => none
def qil_ {α : Type} (st : List Value) (f : Int64 → Int32 → List Value → Option α) : Option α := match st with | .int y :: .long x :: r => f x y r | _ => none
def q1r_ {α : Type} (st : List Value) (f : Nat → List Value → Option α) : Option α := match st with | .ref a :: r => f a r | _ => none
def q2r_ {α : Type} (st : List Value) (f : Nat → Nat → List Value → Option α) : Option α := match st with | .ref b :: .ref a :: r => f a b r | _ => none
def qir_ {α : Type} (st : List Value) (f : Nat → Int32 → List Value → Option α) : Option α := match st with | .int i :: .ref a :: r => f a i r | _ => none
def qlr_ {α : Type} (st : List Value) (f : Nat → Int64 → List Value → Option α) : Option α := match st with | .long i :: .ref a :: r => f a i r | _ => none
def qiir_ {α : Type} (st : List Value) (f : Nat → Int32 → Int32 → List Value → Option α) : Option α := match st with | .int x :: .int i :: .ref a :: r => f a i x r | _ => none
def qlir_ {α : Type} (st : List Value) (f : Nat → Int32 → Int64 → List Value → Option α) : Option α := match st with | .long x :: .int i :: .ref a :: r => f a i x r | _ => none
def qrir_ {α : Type} (st : List Value) (f : Nat → Int32 → Nat → List Value → Option α) (g : Nat → Int32 → List Value → Option α) : Option α := match st with | .ref x :: .int i :: .ref a :: r => f a i x r | .null :: .int i :: .ref a :: r => g a i r | _ => none
def q1v_ {α : Type} (st : List Value) (f : Value → List Value → Option α) : Option α := match st with | v :: r => f v r | _ => none
def q2v_ {α : Type} (st : List Value) (f : Value → Value → List Value → Option α) : Option α := match st with | w :: v :: r => f v w r | _ => none
def vI_ {α : Type} (o : Option Value) (f : Int32 → Option α) : Option α := match o with | some (.int x) => f x | _ => none
def vJ_ {α : Type} (o : Option Value) (f : Int64 → Option α) : Option α := match o with | some (.long x) => f x | _ => none
def vR_ {α : Type} (o : Option Value) (f : Nat → Option α) : Option α := match o with | some (.ref x) => f x | _ => none
/-- the local before i, if it is a long, is lost -/
def c1_ (L : List Value) (i : Nat) : List Value := match i with
  | 0 => L
  | j + 1 => match L[j]? with
    | some w => if w.category = 2 then L.set j .null else L
    | none => L
def s1_ (L : List Value) (i : Nat) (v : Value) : List Value := (c1_ L i).set i v
def s2_ (L : List Value) (i : Nat) (v : Value) : List Value := ((c1_ L i).set i v).set (i + 1) .null
def tg_ (pc : Nat) (off : Int) : Nat := ((pc : Int) + off).toNat
def z0_ (c : ClassFile.Cond) (x : Int32) : Prop := match c with
  | .eq => x = 0 | .ne => ¬ x = 0 | .lt => x < 0 | .ge => 0 ≤ x | .gt => 0 < x | .le => x ≤ 0
def z2_ (c : ClassFile.Cond) (x y : Int32) : Prop := match c with
  | .eq => x = y | .ne => ¬ x = y | .lt => x < y | .ge => y ≤ x | .gt => y < x | .le => x ≤ y
def zd_ (c : ClassFile.Cond) (x : Int32) : Decidable (z0_ c x) := match c with
  | .eq => inferInstanceAs (Decidable (x = 0)) | .ne => inferInstanceAs (Decidable (¬ x = 0)) | .lt => inferInstanceAs (Decidable (x < 0)) | .ge => inferInstanceAs (Decidable (0 ≤ x)) | .gt => inferInstanceAs (Decidable (0 < x)) | .le => inferInstanceAs (Decidable (x ≤ 0))
def zf_ (c : ClassFile.Cond) (x y : Int32) : Decidable (z2_ c x y) := match c with
  | .eq => inferInstanceAs (Decidable (x = y)) | .ne => inferInstanceAs (Decidable (¬ x = y)) | .lt => inferInstanceAs (Decidable (x < y)) | .ge => inferInstanceAs (Decidable (y ≤ x)) | .gt => inferInstanceAs (Decidable (y < x)) | .le => inferInstanceAs (Decidable (x ≤ y))
def vpd_ (i : Int32) (n : Nat) : Decidable (vp_in i n) := inferInstanceAs (Decidable (¬ (i < 0 ∨ n ≤ i.toNatClampNeg)))
def ak_ (t : ArrayType) : Nat := match t with | .int => 30 | .byte => 31 | .boolean => 32 | .long => 33 | _ => 0
def pok_ (k kind j : Nat) : Bool := match cl_[kind - 1]? with
  | some q => decide (1 ≤ kind ∧ j < q.2.2) && (!(q.2.1 j).2.2.2 || ((my_ k).name == "<init>" && (q.2.1 j).1 == ow_ (mo_ k)))
  | none => false
def nf_ (kind : Nat) : Nat := match cl_[kind - 1]? with | some q => q.2.2 | none => 0
def sw_ (ps : List (Int × Int)) (d : Int) (x : Int) : Int := Op.lookupswitch.offset ps d x
def ek_ (h : MH_) (o : Option Nat) : Bool := match o with | some y => decide (1 ≤ kd_ h y ∧ kd_ h y ≤ 14) | none => true
/-- a step that is no call and no throw -/
def st_ (k : Nat) (i : Instr) (n pc : Nat) (L st : List Value) (h : MH_) : Option Sp_ := match i with
  | .aconst_null => gd_ (n = 1) (some (.inl (pc + 1, L, .null :: st, h)))
  | .iconst x => gd_ (n = 1) (some (.inl (pc + 1, L, .int (Int32.ofInt x) :: st, h)))
  | .lconst x => gd_ (n = 1) (some (.inl (pc + 1, L, .long (Int64.ofNat (x : Nat)) :: st, h)))
  | .bipush x => gd_ (n = 2) (some (.inl (pc + 2, L, .int (Int8.ofInt x).toInt32 :: st, h)))
  | .sipush x => gd_ (n = 3) (some (.inl (pc + 3, L, .int (Int16.ofInt x).toInt32 :: st, h)))
  | .ldc x => gd_ (n = 2) (if mo_ k = 16 ∧ x = 110 then some (.inl (pc + 2, L, .ref (mi_ h) :: st, h)) else (lk_ kI_ (mo_ k) x).bind fun v => some (.inl (pc + 2, L, .int v :: st, h)))
  | .ldc2_w x => gd_ (n = 3) ((lk_ kJ_ (mo_ k) x).bind fun v => some (.inl (pc + 3, L, .long v :: st, h)))
  | .iload x => gd_ (n = 2) (vI_ L[x]? fun v => some (.inl (pc + 2, L, .int v :: st, h)))
  | .iload_n x => gd_ (n = 1) (vI_ L[(x : Nat)]? fun v => some (.inl (pc + 1, L, .int v :: st, h)))
  | .lload x => gd_ (n = 2) (vJ_ L[x]? fun v => some (.inl (pc + 2, L, .long v :: st, h)))
  | .lload_n x => gd_ (n = 1) (vJ_ L[(x : Nat)]? fun v => some (.inl (pc + 1, L, .long v :: st, h)))
  | .aload x => gd_ (n = 2) (vR_ L[x]? fun v => some (.inl (pc + 2, L, .ref v :: st, h)))
  | .aload_n x => gd_ (n = 1) (vR_ L[(x : Nat)]? fun v => some (.inl (pc + 1, L, .ref v :: st, h)))
  | .istore x => gd_ (n = 2 ∧ x < ml_ k) (q1i_ st fun v r => some (.inl (pc + 2, s1_ L x (.int v), r, h)))
  | .istore_n x => gd_ (n = 1 ∧ (x : Nat) < ml_ k) (q1i_ st fun v r => some (.inl (pc + 1, s1_ L x (.int v), r, h)))
  | .lstore x => gd_ (n = 2 ∧ x + 1 < ml_ k) (q1l_ st fun v r => some (.inl (pc + 2, s2_ L x (.long v), r, h)))
  | .lstore_n x => gd_ (n = 1 ∧ (x : Nat) + 1 < ml_ k) (q1l_ st fun v r => some (.inl (pc + 1, s2_ L x (.long v), r, h)))
  | .astore x => gd_ (n = 2 ∧ x < ml_ k) (q1r_ st fun v r => some (.inl (pc + 2, s1_ L x (.ref v), r, h)))
  | .astore_n x => gd_ (n = 1 ∧ (x : Nat) < ml_ k) (q1r_ st fun v r => some (.inl (pc + 1, s1_ L x (.ref v), r, h)))
  | .iinc x c => if n = 3 then gd_ (x < ml_ k) (vI_ L[x]? fun v => some (.inl (pc + 3, s1_ L x (.int (v + Int32.ofInt c)), st, h))) else gd_ (n = 6 ∧ x < ml_ k) (vI_ L[x]? fun v => some (.inl (pc + 6, s1_ L x (.int (v + Int32.ofInt c)), st, h)))
  | .iadd => gd_ (n = 1) (q2i_ st fun x y r => some (.inl (pc + 1, L, .int (x + y) :: r, h)))
  | .isub => gd_ (n = 1) (q2i_ st fun x y r => some (.inl (pc + 1, L, .int (x - y) :: r, h)))
  | .imul => gd_ (n = 1) (q2i_ st fun x y r => some (.inl (pc + 1, L, .int (x * y) :: r, h)))
  | .iand => gd_ (n = 1) (q2i_ st fun x y r => some (.inl (pc + 1, L, .int (x &&& y) :: r, h)))
  | .ior => gd_ (n = 1) (q2i_ st fun x y r => some (.inl (pc + 1, L, .int (x ||| y) :: r, h)))
  | .idiv => gd_ (n = 1) (q2i_ st fun x y r => gd_ (¬ y = 0) (some (.inl (pc + 1, L, .int (x / y) :: r, h))))
  | .irem => gd_ (n = 1) (q2i_ st fun x y r => gd_ (¬ y = 0) (some (.inl (pc + 1, L, .int (x - x / y * y) :: r, h))))
  | .ineg => gd_ (n = 1) (q1i_ st fun x r => some (.inl (pc + 1, L, .int (-x) :: r, h)))
  | .ishl => gd_ (n = 1) (q2i_ st fun x y r => some (.inl (pc + 1, L, .int (x <<< (y &&& 31)) :: r, h)))
  | .ishr => gd_ (n = 1) (q2i_ st fun x y r => some (.inl (pc + 1, L, .int (x >>> (y &&& 31)) :: r, h)))
  | .ladd => gd_ (n = 1) (q2l_ st fun x y r => some (.inl (pc + 1, L, .long (x + y) :: r, h)))
  | .lsub => gd_ (n = 1) (q2l_ st fun x y r => some (.inl (pc + 1, L, .long (x - y) :: r, h)))
  | .lmul => gd_ (n = 1) (q2l_ st fun x y r => some (.inl (pc + 1, L, .long (x * y) :: r, h)))
  | .land => gd_ (n = 1) (q2l_ st fun x y r => some (.inl (pc + 1, L, .long (x &&& y) :: r, h)))
  | .lor => gd_ (n = 1) (q2l_ st fun x y r => some (.inl (pc + 1, L, .long (x ||| y) :: r, h)))
  | .ldiv => gd_ (n = 1) (q2l_ st fun x y r => gd_ (¬ y = 0) (some (.inl (pc + 1, L, .long (x / y) :: r, h))))
  | .lrem => gd_ (n = 1) (q2l_ st fun x y r => gd_ (¬ y = 0) (some (.inl (pc + 1, L, .long (x - x / y * y) :: r, h))))
  | .lneg => gd_ (n = 1) (q1l_ st fun x r => some (.inl (pc + 1, L, .long (-x) :: r, h)))
  | .lshl => gd_ (n = 1) (qil_ st fun x y r => some (.inl (pc + 1, L, .long (x <<< (y.toInt64 &&& 63)) :: r, h)))
  | .lshr => gd_ (n = 1) (qil_ st fun x y r => some (.inl (pc + 1, L, .long (x >>> (y.toInt64 &&& 63)) :: r, h)))
  | .lushr => gd_ (n = 1) (qil_ st fun x y r => some (.inl (pc + 1, L, .long (x.toUInt64 >>> (y.toInt64.toUInt64 &&& Int64.toUInt64 63)).toInt64 :: r, h)))
  | .lcmp => gd_ (n = 1) (q2l_ st fun x y r => some (.inl (pc + 1, L, .int (lg_cmp x y) :: r, h)))
  | .i2l => gd_ (n = 1) (q1i_ st fun x r => some (.inl (pc + 1, L, .long x.toInt64 :: r, h)))
  | .l2i => gd_ (n = 1) (q1l_ st fun x r => some (.inl (pc + 1, L, .int x.toInt32 :: r, h)))
  | .i2b => gd_ (n = 1) (q1i_ st fun x r => some (.inl (pc + 1, L, .int x.toInt8.toInt32 :: r, h)))
  | .dup => gd_ (n = 1) (q1v_ st fun v r => gd_ (v.category = 1) (some (.inl (pc + 1, L, v :: v :: r, h))))
  | .pop => gd_ (n = 1) (q1v_ st fun v r => gd_ (v.category = 1) (some (.inl (pc + 1, L, r, h))))
  | .dup_x1 => gd_ (n = 1) (q2v_ st fun v w r => gd_ (v.category = 1 ∧ w.category = 1) (some (.inl (pc + 1, L, w :: v :: w :: r, h))))
  | .dup2 => gd_ (n = 1) (q2v_ st fun v w r => gd_ (v.category = 1 ∧ w.category = 1) (some (.inl (pc + 1, L, w :: v :: w :: v :: r, h))))
  | .goto o => gd_ (n = 3 ∧ 0 ≤ (pc : Int) + o) (some (.inl (tg_ pc o, L, st, h)))
  | .ifCond c o => gd_ (n = 3 ∧ 0 ≤ (pc : Int) + o) (q1i_ st fun x r => some (.inl (@ite _ (z0_ c x) (zd_ c x) (tg_ pc o) (pc + 3), L, r, h)))
  | .if_icmp c o => gd_ (n = 3 ∧ 0 ≤ (pc : Int) + o) (q2i_ st fun x y r => some (.inl (@ite _ (z2_ c x y) (zf_ c x y) (tg_ pc o) (pc + 3), L, r, h)))
  | .if_acmp c o => gd_ (n = 3 ∧ 0 ≤ (pc : Int) + o) (q2r_ st fun x y r => match c with | .eq => some (.inl (if x = y then tg_ pc o else pc + 3, L, r, h)) | .ne => some (.inl (if x = y then pc + 3 else tg_ pc o, L, r, h)))
  | .tableswitch d lo hi os => q1i_ st fun x r => if x.toInt < lo ∨ hi < x.toInt then gd_ (0 ≤ (pc : Int) + d) (some (.inl (tg_ pc d, L, r, h))) else (os[(x.toInt - lo).toNat]?).bind fun o => gd_ (0 ≤ (pc : Int) + o) (some (.inl (tg_ pc o, L, r, h)))
  | .lookupswitch d ps => gd_ ((ps.toList.zip (ps.toList.drop 1)).all (fun (a, next) => a.1 < next.1) = true) (q1i_ st fun x r => gd_ (0 ≤ (pc : Int) + sw_ ps.toList d x.toInt) (some (.inl (tg_ pc (sw_ ps.toList d x.toInt), L, r, h))))
  | .getfield x => gd_ (n = 3) ((lk_ fT_ (mo_ k) x).bind fun e => q1r_ st fun a r => gd_ (kd_ h a = e.1) (
      if e.2.2 ≤ 1 then some (.inl (pc + 3, L, .int (gI_ h a e.2.1) :: r, h)) else if e.2.2 = 2 then some (.inl (pc + 3, L, .long (gJ_ h a e.2.1) :: r, h)) else (gP_ h a e.2.1).bind fun b => some (.inl (pc + 3, L, .ref b :: r, h))))
  | .putfield x => gd_ (n = 3) ((lk_ fT_ (mo_ k) x).bind fun e => gd_ (pok_ k e.1 e.2.1 = true) (
      if e.2.2 = 0 then qir_ st fun a v r => gd_ (kd_ h a = e.1) (some (.inl (pc + 3, L, r, sI_ h a e.2.1 v)))
      else if e.2.2 = 1 then qir_ st fun a v r => gd_ (kd_ h a = e.1 ∧ (v = 0 ∨ v = 1)) (some (.inl (pc + 3, L, r, sI_ h a e.2.1 v)))
      else if e.2.2 = 2 then qlr_ st fun a v r => gd_ (kd_ h a = e.1) (some (.inl (pc + 3, L, r, sJ_ h a e.2.1 v)))
      else q2r_ st fun a v r => gd_ (kd_ h a = e.1) (some (.inl (pc + 3, L, r, sP_ h a e.2.1 (some v))))))
  | .getstatic x => gd_ (n = 3 ∧ mo_ k = 13 ∧ x = 39) (some (.inl (pc + 3, L, .ref (em_ h) :: st, h)))
  | .arraylength => gd_ (n = 1) (q1r_ st fun a r => gd_ (30 ≤ kd_ h a ∧ kd_ h a ≤ 38) (some (.inl (pc + 1, L, .int (Int32.ofNat (ln_ h a)) :: r, h))))
  | .iaload => gd_ (n = 1) (qir_ st fun a i r => @ite _ (vp_in i (ln_ h a)) (vpd_ _ _) (gd_ (kd_ h a = 30 ∨ kd_ h a = 37) (some (.inl (pc + 1, L, .int (gI_ h a i.toNatClampNeg) :: r, h)))) none)
  | .baload => gd_ (n = 1) (qir_ st fun a i r => @ite _ (vp_in i (ln_ h a)) (vpd_ _ _) (gd_ (kd_ h a = 31 ∨ kd_ h a = 32) (some (.inl (pc + 1, L, .int (gI_ h a i.toNatClampNeg) :: r, h)))) none)
  | .laload => gd_ (n = 1) (qir_ st fun a i r => @ite _ (vp_in i (ln_ h a)) (vpd_ _ _) (gd_ (kd_ h a = 33) (some (.inl (pc + 1, L, .long (gJ_ h a i.toNatClampNeg) :: r, h)))) none)
  | .aaload => gd_ (n = 1) (qir_ st fun a i r => @ite _ (vp_in i (ln_ h a)) (vpd_ _ _) (gd_ (34 ≤ kd_ h a ∧ kd_ h a ≤ 36) ((gP_ h a i.toNatClampNeg).bind fun b => some (.inl (pc + 1, L, .ref b :: r, h)))) none)
  | .iastore => gd_ (n = 1) (qiir_ st fun a i x r => @ite _ (vp_in i (ln_ h a)) (vpd_ _ _) (gd_ (kd_ h a = 30) (some (.inl (pc + 1, L, r, sI_ h a i.toNatClampNeg x)))) none)
  | .bastore => gd_ (n = 1) (qiir_ st fun a i x r => @ite _ (vp_in i (ln_ h a)) (vpd_ _ _) (if kd_ h a = 31 then some (.inl (pc + 1, L, r, sI_ h a i.toNatClampNeg x.toInt8.toInt32)) else gd_ (kd_ h a = 32 ∧ (x = 0 ∨ x = 1)) (some (.inl (pc + 1, L, r, sI_ h a i.toNatClampNeg x)))) none)
  | .lastore => gd_ (n = 1) (qlir_ st fun a i x r => @ite _ (vp_in i (ln_ h a)) (vpd_ _ _) (gd_ (kd_ h a = 33) (some (.inl (pc + 1, L, r, sJ_ h a i.toNatClampNeg x)))) none)
  | .aastore => gd_ (n = 1) (qrir_ st (fun a i x r => @ite _ (vp_in i (ln_ h a)) (vpd_ _ _) (gd_ ((kd_ h a = 34 ∧ 1 ≤ kd_ h x ∧ kd_ h x ≤ 14) ∨ (kd_ h a = 35 ∧ kd_ h x = 1) ∨ (kd_ h a = 36 ∧ kd_ h x = 10)) (some (.inl (pc + 1, L, r, sP_ h a i.toNatClampNeg (some x))))) none)
      (fun a i r => @ite _ (vp_in i (ln_ h a)) (vpd_ _ _) (gd_ (kd_ h a = 34) (some (.inl (pc + 1, L, r, sP_ h a i.toNatClampNeg none)))) none))
  | .new x => gd_ (n = 3) ((lk_ cT_ (mo_ k) x).bind fun e => gd_ (1 ≤ e ∧ e ≤ 14 ∧ 1 ≤ rc_ h ∧ nf_ e ≤ rs_ h) (some (.inl (pc + 3, L, .ref (nx_ h) :: st, nw_ h e 0 (nf_ e)))))
  | .newarray t => gd_ (n = 2 ∧ 30 ≤ ak_ t) (q1i_ st fun x r => gd_ (¬ x < 0 ∧ x.toNatClampNeg ≤ 1000000 ∧ 1 ≤ rc_ h ∧ x.toNatClampNeg ≤ rs_ h) (some (.inl (pc + 2, L, .ref (nx_ h) :: r, nw_ h (ak_ t) x.toNatClampNeg x.toNatClampNeg))))
  | .anewarray y => gd_ (n = 3) ((lk_ aT_ (mo_ k) y).bind fun e => gd_ (34 ≤ e ∧ e ≤ 36) (q1i_ st fun x r => gd_ (¬ x < 0 ∧ x.toNatClampNeg ≤ 1000000 ∧ 1 ≤ rc_ h ∧ x.toNatClampNeg ≤ rs_ h) (some (.inl (pc + 3, L, .ref (nx_ h) :: r, nw_ h e x.toNatClampNeg x.toNatClampNeg)))))
  | .checkcast x => gd_ (n = 3) ((lk_ cT_ (mo_ k) x).bind fun e => gd_ (1 ≤ e ∧ e ≤ 14) (q1r_ st fun a r => gd_ (kd_ h a = e) (some (.inl (pc + 3, L, .ref a :: r, h)))))
  | .invokespecial x => gd_ (n = 3 ∧ (lk_ lT_ (mo_ k) x).map Prod.fst = some 6) (q1r_ st fun _ r => gd_ (r.length ≤ 20) (some (.inl (pc + 3, L, r, h))))
  | .invokevirtual x => gd_ (n = 3 ∧ (lk_ lT_ (mo_ k) x).map Prod.fst = some 9) (q1r_ st fun a r => gd_ (kd_ h a = 34 ∧ r.length ≤ 20) (some (.inl (pc + 3, L, .ref (mi_ h) :: r, h))))
  | .invokestatic x => gd_ (n = 3) ((lk_ lT_ (mo_ k) x).bind fun e =>
      if e.1 = 7 then (match st with
        | .int c :: .int dp :: .ref d :: .int sp :: .ref s :: r => gd_ (r.length ≤ 20 ∧ ¬ sp < 0 ∧ ¬ dp < 0 ∧ ¬ c < 0 ∧ sp.toNatClampNeg + c.toNatClampNeg ≤ ln_ h s ∧ dp.toNatClampNeg + c.toNatClampNeg ≤ ln_ h d) (
            if kd_ h s = 30 ∧ kd_ h d = 30 then some (.inl (pc + 3, L, r, cI_ h s sp.toNatClampNeg d dp.toNatClampNeg c.toNatClampNeg))
            else gd_ (kd_ h s = 34 ∧ kd_ h d = 34 ∧ ∀ i, i < c.toNatClampNeg → ek_ h (gP_ h s (sp.toNatClampNeg + i)) = true) (some (.inl (pc + 3, L, r, cP_ h s sp.toNatClampNeg d dp.toNatClampNeg c.toNatClampNeg))))
        | _ => none)
      else none)
  | .ireturn => gd_ (n = 1) (match st with | [.int x] => if mr_ k = some .int then some (.inr (.int x)) else gd_ (mr_ k = some .boolean ∧ (x = 0 ∨ x = 1)) (some (.inr (.int x))) | _ => none)
  | .lreturn => gd_ (n = 1 ∧ mr_ k = some .long) (match st with | [.long x] => some (.inr (.long x)) | _ => none)
  | .areturn => gd_ (n = 1) (match st with | [.ref x] => (match mr_ k with | some (.object _) => some (.inr (.ref x)) | some (.array _) => some (.inr (.ref x)) | _ => none) | _ => none)
  | .return_ => gd_ (n = 1 ∧ mr_ k = none ∧ st = []) (some (.inr .null))
  | _ => none
/-- a callee's locals at its entry -/
def fl_ : List Value → List Value
  | [] => []
  | v :: r => if v.category = 2 then v :: .null :: fl_ r else v :: fl_ r
def en_ (c : Nat) (as : List Value) : List Value := fl_ as ++ List.replicate (ml_ c - (fl_ as).length) .null
/-- a call: how, whom, its arguments, what is left on the stack -/
def ca_ (k : Nat) (i : Instr) (n : Nat) (st : List Value) (h : MH_) : Option (Nat × Nat × List Value × List Value) :=
  let go := fun (x lo hi m3 : Nat) => gd_ (n = 3) ((lk_ lT_ (mo_ k) x).bind fun e => gd_ ((e.1 = lo ∨ e.1 = hi ∨ e.1 = m3) ∧ np_ e.2 ≤ st.length ∧ (st.drop (np_ e.2)).length ≤ 20 ∧ (fl_ (st.take (np_ e.2)).reverse).length ≤ ml_ e.2 ∧ mp_ e.2 < mp_ k)
    (some (e.1, e.2, (st.take (np_ e.2)).reverse, st.drop (np_ e.2))))
  match i with
  | .invokevirtual x => (go x 0 0 0).bind fun q => match q.2.2.1 with | .ref a :: _ => gd_ (kd_ h a = mo_ q.2.1 + 1) (some q) | _ => none
  | .invokespecial x => (go x 1 4 4).bind fun q => match q.2.2.1 with | .ref _ :: _ => some q | _ => none
  | .invokestatic x => go x 2 3 5
  | _ => none
/-- 'throw new E()' begins here -/
def th_ (k : Nat) (i : Instr) (n pc : Nat) (st : List Value) (h : MH_) : Option MH_ := match i with
  | .new x => gd_ (n = 3 ∧ mh_ k = [] ∧ st.length ≤ 20) ((lk_ cT_ (mo_ k) x).bind fun e => gd_ (20 ≤ e ∧ e ≤ 24 ∧ 1 ≤ rc_ h ∧ 6 ≤ rs_ h) (
      match decode (mc_ k) (pc + 3), decode (mc_ k) (pc + 4), decode (mc_ k) (pc + 7) with
      | .ok (.dup, 1), .ok (.invokespecial ic, 3), .ok (.athrow, 1) => gd_ (lk_ xT_ (mo_ k) ic = some e) (some (nw_ h e 0 6))
      | _, _, _ => none))
  | _ => none
/-- where a handler takes an exception of a kind -/
def hn_ (k pc kind : Nat) : Option Nat := ((mh_ k).find? (fun q => decide (q.1 ≤ pc) && decide (pc < q.2.1) && decide (lk_ cT_ (mo_ k) q.2.2.2 = some kind))).map (fun q => q.2.2.1)
abbrev Wt_ : Type := Nat → Nat → List Value → List Value → MH_ → (Rs_ → MH_ → Prop) → Prop
def ps_ (r : Option FieldType) (v : Value) (rest : List Value) : List Value := match r with | none => rest | some _ => v :: rest
/-- behind a call: it has returned, or thrown -/
def bk_ (X : Wt_) (k pc m c : Nat) (L rest : List Value) (Q : Rs_ → MH_ → Prop) : Rs_ → MH_ → Prop := fun r h => match r with
  | .inl v => X k (pc + 3) L (ps_ (mr_ c) v rest) h Q
  | .inr a => if m = 0 then (if mh_ k = [] then Q (.inr a) h else match hn_ k pc (kd_ h a) with | some p => X k p L [.ref a] h Q | none => False) else False
def F_ (X : Wt_) : Wt_ := fun k pc L st h Q => match decode (mc_ k) pc with
  | .ok (i, n) => (match st_ k i n pc L st h with
    | some (.inl (pc', L', st', h')) => X k pc' L' st' h' Q
    | some (.inr v) => Q (.inl v) h
    | none => match ca_ k i n st h with
      | some (m, c, as, rest) => X c 0 (en_ c as) [] h (bk_ X k pc m c L rest Q)
      | none => match th_ k i n pc st h with
        | some h' => Q (.inr (nx_ h)) h'
        | none => False)
  | _ => False
def Mo_ (X : Wt_) : Prop := ∀ k pc L st h (Q Q' : Rs_ → MH_ → Prop), (∀ r u, Q r u → Q' r u) → X k pc L st h Q → X k pc L st h Q'
/-- the least of them -/
def Wp (k pc : Nat) (L st : List Value) (h : MH_) (Q : Rs_ → MH_ → Prop) : Prop := ∀ X : Wt_, Mo_ X → (∀ k pc L st h Q, F_ X k pc L st h Q → X k pc L st h Q) → X k pc L st h Q
theorem bk_mono {X Y : Wt_} (hXY : ∀ k pc L st h Q, X k pc L st h Q → Y k pc L st h Q) (hY : Mo_ Y) {k pc m c : Nat} {L rest : List Value} {Q Q' : Rs_ → MH_ → Prop} (hQ : ∀ r u, Q r u → Q' r u) : ∀ r u, bk_ X k pc m c L rest Q r u → bk_ Y k pc m c L rest Q' r u := by
  intro r u hb
  cases r with
  | inl v => exact hY _ _ _ _ _ _ _ hQ (hXY _ _ _ _ _ _ hb)
  | inr a =>
    simp only [bk_] at hb ⊢
    split
    · rename_i h0
      rw [if_pos h0] at hb
      split
      · rename_i h1
        rw [if_pos h1] at hb
        exact hQ _ _ hb
      · rename_i h1
        rw [if_neg h1] at hb
        cases hh : hn_ k pc (kd_ u a) with
        | none => rw [hh] at hb; exact hb.elim
        | some p => rw [hh] at hb; exact hY _ _ _ _ _ _ _ hQ (hXY _ _ _ _ _ _ hb)
    · rename_i h0
      rw [if_neg h0] at hb
      exact hb
theorem F_mono {X Y : Wt_} (hXY : ∀ k pc L st h Q, X k pc L st h Q → Y k pc L st h Q) (hY : Mo_ Y) {k pc : Nat} {L st : List Value} {h : MH_} {Q Q' : Rs_ → MH_ → Prop} (hQ : ∀ r u, Q r u → Q' r u) (hF : F_ X k pc L st h Q) : F_ Y k pc L st h Q' := by
  unfold F_ at hF ⊢
  split
  · rename_i i n hd
    rw [hd] at hF
    simp only at hF
    split
    · rename_i pc' L' st' h' hs
      rw [hs] at hF
      exact hY _ _ _ _ _ _ _ hQ (hXY _ _ _ _ _ _ hF)
    · rename_i v hs
      rw [hs] at hF
      exact hQ _ _ hF
    · rename_i hs
      rw [hs] at hF
      simp only at hF
      split
      · rename_i m c as rest hc
        rw [hc] at hF
        exact hY _ _ _ _ _ _ _ (bk_mono hXY hY hQ) (hXY _ _ _ _ _ _ hF)
      · rename_i hc
        rw [hc] at hF
        simp only at hF
        split
        · rename_i h' ht
          rw [ht] at hF
          exact hQ _ _ hF
        · rename_i ht
          rw [ht] at hF
          exact hF
  · rename_i hne
    split at hF
    · rename_i i n hd
      exact (hne i n hd).elim
    · exact hF
theorem Wp_mono : Mo_ Wp := by
  intro k pc L st h Q Q' hQ hW X hX hc
  exact hX _ _ _ _ _ _ _ hQ (hW X hX hc)
theorem Wp_fold {k pc : Nat} {L st : List Value} {h : MH_} {Q : Rs_ → MH_ → Prop} (hF : F_ Wp k pc L st h Q) : Wp k pc L st h Q := by
  intro X hX hc
  exact hc _ _ _ _ _ _ (F_mono (fun k pc L st h Q hW => hW X hX hc) hX (fun _ _ z => z) hF)
theorem Wp_unfold {k pc : Nat} {L st : List Value} {h : MH_} {Q : Rs_ → MH_ → Prop} (hW : Wp k pc L st h Q) : F_ Wp k pc L st h Q := by
  refine hW (F_ Wp) ?_ ?_
  · intro k pc L st h Q Q' hQ hF
    exact F_mono (fun _ _ _ _ _ _ z => z) Wp_mono hQ hF
  · intro k pc L st h Q hF
    exact F_mono (fun _ _ _ _ _ _ z => Wp_fold z) Wp_mono (fun _ _ z => z) hF
theorem Wp_fix {k pc : Nat} {L st : List Value} {h : MH_} {Q : Rs_ → MH_ → Prop} : Wp k pc L st h Q ↔ F_ Wp k pc L st h Q := ⟨Wp_unfold, Wp_fold⟩
