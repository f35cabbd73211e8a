/-! ===== the base of layer 2: heaps, numbers, frames ===== -/
-- SET I: i_add, i_mul, i_sub, i_addn, i_lt, i_eq, i_idx, i_vp
-- SET L: true_and, and_true, false_and, and_false, if_true, if_false, Nat.reduceAdd, Nat.reduceMul, Nat.reduceSub, Nat.reduceEqDiff, Option.some.injEq, exists_eq_left', true_or, or_true, false_or, or_false, not_true_eq_false, not_false_eq_true, eq_self, and_self, Nat.reduceLeDiff, decide_true, decide_false, ne_eq, Nat.left_eq_add, Nat.add_eq_left, Nat.add_left_cancel_iff, Nat.add_zero
def wI_ (h : MH_) (a : Nat) (f : Nat → Int32) : MH_ := (kd_ h, ln_ h, fun b i => if b = a then f i else gI_ h b i, gJ_ h, gP_ h, nx_ h, rc_ h, rs_ h, em_ h, mi_ h)
def wJ_ (h : MH_) (a : Nat) (f : Nat → Int64) : MH_ := (kd_ h, ln_ h, gI_ h, fun b i => if b = a then f i else gJ_ h b i, gP_ h, nx_ h, rc_ h, rs_ h, em_ h, mi_ h)
theorem z_kd_sI {h : MH_} {a j : Nat} {x : Int32} {c : Nat} : kd_ (sI_ h a j x) c = kd_ h c := rfl
theorem z_ln_sI {h : MH_} {a j : Nat} {x : Int32} {c : Nat} : ln_ (sI_ h a j x) c = ln_ h c := rfl
theorem z_gI_sI {h : MH_} {a j : Nat} {x : Int32} {c i : Nat} : gI_ (sI_ h a j x) c i = if c = a ∧ i = j then x else gI_ h c i := rfl
theorem z_gJ_sI {h : MH_} {a j : Nat} {x : Int32} {c i : Nat} : gJ_ (sI_ h a j x) c i = gJ_ h c i := rfl
theorem z_gP_sI {h : MH_} {a j : Nat} {x : Int32} {c i : Nat} : gP_ (sI_ h a j x) c i = gP_ h c i := rfl
theorem z_nx_sI {h : MH_} {a j : Nat} {x : Int32} : nx_ (sI_ h a j x) = nx_ h := rfl
theorem z_rc_sI {h : MH_} {a j : Nat} {x : Int32} : rc_ (sI_ h a j x) = rc_ h := rfl
theorem z_rs_sI {h : MH_} {a j : Nat} {x : Int32} : rs_ (sI_ h a j x) = rs_ h := rfl
theorem z_em_sI {h : MH_} {a j : Nat} {x : Int32} : em_ (sI_ h a j x) = em_ h := rfl
theorem z_mi_sI {h : MH_} {a j : Nat} {x : Int32} : mi_ (sI_ h a j x) = mi_ h := rfl
theorem z_kd_sJ {h : MH_} {a j : Nat} {x : Int64} {c : Nat} : kd_ (sJ_ h a j x) c = kd_ h c := rfl
theorem z_ln_sJ {h : MH_} {a j : Nat} {x : Int64} {c : Nat} : ln_ (sJ_ h a j x) c = ln_ h c := rfl
theorem z_gI_sJ {h : MH_} {a j : Nat} {x : Int64} {c i : Nat} : gI_ (sJ_ h a j x) c i = gI_ h c i := rfl
theorem z_gJ_sJ {h : MH_} {a j : Nat} {x : Int64} {c i : Nat} : gJ_ (sJ_ h a j x) c i = if c = a ∧ i = j then x else gJ_ h c i := rfl
theorem z_gP_sJ {h : MH_} {a j : Nat} {x : Int64} {c i : Nat} : gP_ (sJ_ h a j x) c i = gP_ h c i := rfl
theorem z_nx_sJ {h : MH_} {a j : Nat} {x : Int64} : nx_ (sJ_ h a j x) = nx_ h := rfl
theorem z_rc_sJ {h : MH_} {a j : Nat} {x : Int64} : rc_ (sJ_ h a j x) = rc_ h := rfl
theorem z_rs_sJ {h : MH_} {a j : Nat} {x : Int64} : rs_ (sJ_ h a j x) = rs_ h := rfl
theorem z_em_sJ {h : MH_} {a j : Nat} {x : Int64} : em_ (sJ_ h a j x) = em_ h := rfl
theorem z_mi_sJ {h : MH_} {a j : Nat} {x : Int64} : mi_ (sJ_ h a j x) = mi_ h := rfl
theorem z_kd_sP {h : MH_} {a j : Nat} {x : Option Nat} {c : Nat} : kd_ (sP_ h a j x) c = kd_ h c := rfl
theorem z_ln_sP {h : MH_} {a j : Nat} {x : Option Nat} {c : Nat} : ln_ (sP_ h a j x) c = ln_ h c := rfl
theorem z_gI_sP {h : MH_} {a j : Nat} {x : Option Nat} {c i : Nat} : gI_ (sP_ h a j x) c i = gI_ h c i := rfl
theorem z_gJ_sP {h : MH_} {a j : Nat} {x : Option Nat} {c i : Nat} : gJ_ (sP_ h a j x) c i = gJ_ h c i := rfl
theorem z_gP_sP {h : MH_} {a j : Nat} {x : Option Nat} {c i : Nat} : gP_ (sP_ h a j x) c i = if c = a ∧ i = j then x else gP_ h c i := rfl
theorem z_nx_sP {h : MH_} {a j : Nat} {x : Option Nat} : nx_ (sP_ h a j x) = nx_ h := rfl
theorem z_rc_sP {h : MH_} {a j : Nat} {x : Option Nat} : rc_ (sP_ h a j x) = rc_ h := rfl
theorem z_rs_sP {h : MH_} {a j : Nat} {x : Option Nat} : rs_ (sP_ h a j x) = rs_ h := rfl
theorem z_em_sP {h : MH_} {a j : Nat} {x : Option Nat} : em_ (sP_ h a j x) = em_ h := rfl
theorem z_mi_sP {h : MH_} {a j : Nat} {x : Option Nat} : mi_ (sP_ h a j x) = mi_ h := rfl
theorem z_kd_nw {h : MH_} {k n w : Nat} {c : Nat} : kd_ (nw_ h k n w) c = if c = nx_ h then k else kd_ h c := rfl
theorem z_ln_nw {h : MH_} {k n w : Nat} {c : Nat} : ln_ (nw_ h k n w) c = if c = nx_ h then n else ln_ h c := rfl
theorem z_gI_nw {h : MH_} {k n w : Nat} {c i : Nat} : gI_ (nw_ h k n w) c i = if c = nx_ h then Int32.ofNat 0 else gI_ h c i := rfl
theorem z_gJ_nw {h : MH_} {k n w : Nat} {c i : Nat} : gJ_ (nw_ h k n w) c i = if c = nx_ h then Int64.ofNat 0 else gJ_ h c i := rfl
theorem z_gP_nw {h : MH_} {k n w : Nat} {c i : Nat} : gP_ (nw_ h k n w) c i = if c = nx_ h then none else gP_ h c i := rfl
theorem z_nx_nw {h : MH_} {k n w : Nat} : nx_ (nw_ h k n w) = nx_ h + 1 := rfl
theorem z_rc_nw {h : MH_} {k n w : Nat} : rc_ (nw_ h k n w) = rc_ h - 1 := rfl
theorem z_rs_nw {h : MH_} {k n w : Nat} : rs_ (nw_ h k n w) = rs_ h - w := rfl
theorem z_em_nw {h : MH_} {k n w : Nat} : em_ (nw_ h k n w) = em_ h := rfl
theorem z_mi_nw {h : MH_} {k n w : Nat} : mi_ (nw_ h k n w) = mi_ h := rfl
theorem z_kd_cI {h : MH_} {s sp d dp n : Nat} {c : Nat} : kd_ (cI_ h s sp d dp n) c = kd_ h c := rfl
theorem z_ln_cI {h : MH_} {s sp d dp n : Nat} {c : Nat} : ln_ (cI_ h s sp d dp n) c = ln_ h c := rfl
theorem z_gI_cI {h : MH_} {s sp d dp n : Nat} {c i : Nat} : gI_ (cI_ h s sp d dp n) c i = if c = d ∧ dp ≤ i ∧ i < dp + n then gI_ h s (sp + (i - dp)) else gI_ h c i := rfl
theorem z_gJ_cI {h : MH_} {s sp d dp n : Nat} {c i : Nat} : gJ_ (cI_ h s sp d dp n) c i = gJ_ h c i := rfl
theorem z_gP_cI {h : MH_} {s sp d dp n : Nat} {c i : Nat} : gP_ (cI_ h s sp d dp n) c i = gP_ h c i := rfl
theorem z_nx_cI {h : MH_} {s sp d dp n : Nat} : nx_ (cI_ h s sp d dp n) = nx_ h := rfl
theorem z_rc_cI {h : MH_} {s sp d dp n : Nat} : rc_ (cI_ h s sp d dp n) = rc_ h := rfl
theorem z_rs_cI {h : MH_} {s sp d dp n : Nat} : rs_ (cI_ h s sp d dp n) = rs_ h := rfl
theorem z_em_cI {h : MH_} {s sp d dp n : Nat} : em_ (cI_ h s sp d dp n) = em_ h := rfl
theorem z_mi_cI {h : MH_} {s sp d dp n : Nat} : mi_ (cI_ h s sp d dp n) = mi_ h := rfl
theorem z_kd_cP {h : MH_} {s sp d dp n : Nat} {c : Nat} : kd_ (cP_ h s sp d dp n) c = kd_ h c := rfl
theorem z_ln_cP {h : MH_} {s sp d dp n : Nat} {c : Nat} : ln_ (cP_ h s sp d dp n) c = ln_ h c := rfl
theorem z_gI_cP {h : MH_} {s sp d dp n : Nat} {c i : Nat} : gI_ (cP_ h s sp d dp n) c i = gI_ h c i := rfl
theorem z_gJ_cP {h : MH_} {s sp d dp n : Nat} {c i : Nat} : gJ_ (cP_ h s sp d dp n) c i = gJ_ h c i := rfl
theorem z_gP_cP {h : MH_} {s sp d dp n : Nat} {c i : Nat} : gP_ (cP_ h s sp d dp n) c i = if c = d ∧ dp ≤ i ∧ i < dp + n then gP_ h s (sp + (i - dp)) else gP_ h c i := rfl
theorem z_nx_cP {h : MH_} {s sp d dp n : Nat} : nx_ (cP_ h s sp d dp n) = nx_ h := rfl
theorem z_rc_cP {h : MH_} {s sp d dp n : Nat} : rc_ (cP_ h s sp d dp n) = rc_ h := rfl
theorem z_rs_cP {h : MH_} {s sp d dp n : Nat} : rs_ (cP_ h s sp d dp n) = rs_ h := rfl
theorem z_em_cP {h : MH_} {s sp d dp n : Nat} : em_ (cP_ h s sp d dp n) = em_ h := rfl
theorem z_mi_cP {h : MH_} {s sp d dp n : Nat} : mi_ (cP_ h s sp d dp n) = mi_ h := rfl
theorem z_kd_wI {h : MH_} {a : Nat} {f : Nat → Int32} {c : Nat} : kd_ (wI_ h a f) c = kd_ h c := rfl
theorem z_ln_wI {h : MH_} {a : Nat} {f : Nat → Int32} {c : Nat} : ln_ (wI_ h a f) c = ln_ h c := rfl
theorem z_gI_wI {h : MH_} {a : Nat} {f : Nat → Int32} {c i : Nat} : gI_ (wI_ h a f) c i = if c = a then f i else gI_ h c i := rfl
theorem z_gJ_wI {h : MH_} {a : Nat} {f : Nat → Int32} {c i : Nat} : gJ_ (wI_ h a f) c i = gJ_ h c i := rfl
theorem z_gP_wI {h : MH_} {a : Nat} {f : Nat → Int32} {c i : Nat} : gP_ (wI_ h a f) c i = gP_ h c i := rfl
theorem z_nx_wI {h : MH_} {a : Nat} {f : Nat → Int32} : nx_ (wI_ h a f) = nx_ h := rfl
theorem z_rc_wI {h : MH_} {a : Nat} {f : Nat → Int32} : rc_ (wI_ h a f) = rc_ h := rfl
theorem z_rs_wI {h : MH_} {a : Nat} {f : Nat → Int32} : rs_ (wI_ h a f) = rs_ h := rfl
theorem z_em_wI {h : MH_} {a : Nat} {f : Nat → Int32} : em_ (wI_ h a f) = em_ h := rfl
theorem z_mi_wI {h : MH_} {a : Nat} {f : Nat → Int32} : mi_ (wI_ h a f) = mi_ h := rfl
theorem z_kd_wJ {h : MH_} {a : Nat} {f : Nat → Int64} {c : Nat} : kd_ (wJ_ h a f) c = kd_ h c := rfl
theorem z_ln_wJ {h : MH_} {a : Nat} {f : Nat → Int64} {c : Nat} : ln_ (wJ_ h a f) c = ln_ h c := rfl
theorem z_gI_wJ {h : MH_} {a : Nat} {f : Nat → Int64} {c i : Nat} : gI_ (wJ_ h a f) c i = gI_ h c i := rfl
theorem z_gJ_wJ {h : MH_} {a : Nat} {f : Nat → Int64} {c i : Nat} : gJ_ (wJ_ h a f) c i = if c = a then f i else gJ_ h c i := rfl
theorem z_gP_wJ {h : MH_} {a : Nat} {f : Nat → Int64} {c i : Nat} : gP_ (wJ_ h a f) c i = gP_ h c i := rfl
theorem z_nx_wJ {h : MH_} {a : Nat} {f : Nat → Int64} : nx_ (wJ_ h a f) = nx_ h := rfl
theorem z_rc_wJ {h : MH_} {a : Nat} {f : Nat → Int64} : rc_ (wJ_ h a f) = rc_ h := rfl
theorem z_rs_wJ {h : MH_} {a : Nat} {f : Nat → Int64} : rs_ (wJ_ h a f) = rs_ h := rfl
theorem z_em_wJ {h : MH_} {a : Nat} {f : Nat → Int64} : em_ (wJ_ h a f) = em_ h := rfl
theorem z_mi_wJ {h : MH_} {a : Nat} {f : Nat → Int64} : mi_ (wJ_ h a f) = mi_ h := rfl
theorem Wp_use {k pc : Nat} {L st : List Value} {h : MH_} {Q Q' : Rs_ → MH_ → Prop} (hw : Wp k pc L st h Q) (hq : ∀ r u, Q r u → Q' r u) : Wp k pc L st h Q' := Wp_mono _ _ _ _ _ _ _ hq hw
/-! numbers -/
theorem i_add {a b : Nat} : Int32.ofNat a + Int32.ofNat b = Int32.ofNat (a + b) := (Int32.ofNat_add a b).symm
theorem i_mul {a b : Nat} : Int32.ofNat a * Int32.ofNat b = Int32.ofNat (a * b) := (Int32.ofNat_mul a b).symm
theorem i_sub {a b : Nat} (h : b ≤ a) : Int32.ofNat a - Int32.ofNat b = Int32.ofNat (a - b) := (Int32.ofNat_sub a b h).symm
theorem i_addn {a b : Nat} (h : b ≤ a) : Int32.ofNat a + -(Int32.ofNat b) = Int32.ofNat (a - b) := by rw [← i_sub h, Int32.sub_eq_add_neg]
theorem i_lt {a b : Nat} (ha : a < 2147483648) (hb : b < 2147483648) : Int32.ofNat a < Int32.ofNat b ↔ a < b := by
  rw [Int32.lt_iff_toInt_lt, Int32.toInt_ofNat_of_lt (by omega), Int32.toInt_ofNat_of_lt (by omega)]
  omega
theorem i_eq {a b : Nat} (ha : a < 2147483648) (hb : b < 2147483648) : Int32.ofNat a = Int32.ofNat b ↔ a = b := by
  rw [← Int32.toInt_inj, Int32.toInt_ofNat_of_lt (by omega), Int32.toInt_ofNat_of_lt (by omega)]
  omega
theorem i_idx {a : Nat} (ha : a < 2147483648) : (Int32.ofNat a).toNatClampNeg = a := Int32.toNatClampNeg_ofNat_of_lt (by omega)
theorem i_vp {a n : Nat} (ha : a < 2147483648) : vp_in (Int32.ofNat a) n ↔ a < n := by
  unfold vp_in
  rw [i_idx ha, show (0 : Int32) = Int32.ofNat 0 from rfl, i_lt ha (by omega)]
  omega
/-- a number that is not below 0 -/
theorem i_nat {x : Int32} (h : ¬ x < Int32.ofNat 0) : ∃ n, n < 2147483648 ∧ x = Int32.ofNat n := by
  have h0 : 0 ≤ x := Int32.not_lt.mp h
  exact ⟨x.toNatClampNeg, x.toNatClampNeg_lt, (Int32.ofNat_toNatClampNeg x h0).symm⟩
/-- a byte, as an array holds it -/
def b8 (n : Nat) : Int32 := (Int32.ofNat n).toInt8.toInt32
def lo8 (x : Int32) : Nat := (x &&& Int32.ofNat 255).toNatClampNeg
theorem b8_and {n : Nat} (h : n < 256) : b8 n &&& Int32.ofNat 255 = Int32.ofNat n := by
  have e : ∀ m : Fin 256, b8 m.val &&& Int32.ofNat 255 = Int32.ofNat m.val := by decide +kernel
  exact e ⟨n, h⟩
theorem lo8_b8 (x : Int32) : x.toInt8.toInt32 = b8 (lo8 x) ∧ lo8 x < 256 ∧ x &&& Int32.ofNat 255 = Int32.ofNat (lo8 x) := by
  have h1 : (x &&& Int32.ofNat 255).toBitVec.toNat = x.toBitVec.toNat % 256 := by
    rw [Int32.toBitVec_and, BitVec.toNat_and]
    show x.toBitVec.toNat &&& 255 = _
    exact Nat.and_two_pow_sub_one_eq_mod _ 8
  have h2 : (x &&& Int32.ofNat 255) = Int32.ofNat (x.toBitVec.toNat % 256) := by
    apply Int32.toBitVec.inj
    apply BitVec.eq_of_toNat_eq
    rw [h1]
    show _ = (BitVec.ofNat 32 _).toNat
    rw [BitVec.toNat_ofNat]
    omega
  have h3 : lo8 x = x.toBitVec.toNat % 256 := by
    unfold lo8
    rw [h2, i_idx (by omega)]
  refine ⟨?_, by omega, by rw [h2, h3]⟩
  rw [h3]
  unfold b8
  have h4 : x.toInt8 = (Int32.ofNat (x.toBitVec.toNat % 256)).toInt8 := by
    rw [← h2, Int32.toInt8_and, show (Int32.ofNat 255).toInt8 = -1 by decide, Int8.and_neg_one]
  rw [h4]
/-! frames: no new cell, no reference changed, numbers only at S -/
def Fz (S : Nat → Nat → Prop) (h h' : MH_) : Prop := (∀ a, kd_ h' a = kd_ h a) ∧ (∀ a, ln_ h' a = ln_ h a) ∧ (∀ a i, gP_ h' a i = gP_ h a i) ∧ (nx_ h' = nx_ h ∧ rc_ h' = rc_ h ∧ rs_ h' = rs_ h ∧ em_ h' = em_ h ∧ mi_ h' = mi_ h) ∧ ∀ a i, ¬ S a i → gI_ h' a i = gI_ h a i ∧ gJ_ h' a i = gJ_ h a i
theorem Fz.rfl' {S : Nat → Nat → Prop} {h : MH_} : Fz S h h := ⟨fun _ => rfl, fun _ => rfl, fun _ _ => rfl, ⟨rfl, rfl, rfl, rfl, rfl⟩, fun _ _ _ => ⟨rfl, rfl⟩⟩
theorem Fz.mono {S T : Nat → Nat → Prop} {h h' : MH_} (f : Fz S h h') (hs : ∀ a i, S a i → T a i) : Fz T h h' :=
  ⟨f.1, f.2.1, f.2.2.1, f.2.2.2.1, fun a i ha => f.2.2.2.2 a i (fun z => ha (hs a i z))⟩
theorem Fz.trans {S : Nat → Nat → Prop} {h h' h'' : MH_} (f : Fz S h h') (g : Fz S h' h'') : Fz S h h'' := by
  obtain ⟨f1, f2, f3, ⟨f4, f5, f6, f7, f8⟩, f9⟩ := f
  obtain ⟨g1, g2, g3, ⟨g4, g5, g6, g7, g8⟩, g9⟩ := g
  exact ⟨fun a => (g1 a).trans (f1 a), fun a => (g2 a).trans (f2 a), fun a i => (g3 a i).trans (f3 a i), ⟨g4.trans f4, g5.trans f5, g6.trans f6, g7.trans f7, g8.trans f8⟩,
    fun a i ha => ⟨((g9 a i ha).1).trans (f9 a i ha).1, ((g9 a i ha).2).trans (f9 a i ha).2⟩⟩
theorem Fz.kd {S : Nat → Nat → Prop} {h h' : MH_} (f : Fz S h h') (a : Nat) : kd_ h' a = kd_ h a := f.1 a
theorem Fz.ln {S : Nat → Nat → Prop} {h h' : MH_} (f : Fz S h h') (a : Nat) : ln_ h' a = ln_ h a := f.2.1 a
theorem Fz.gP {S : Nat → Nat → Prop} {h h' : MH_} (f : Fz S h h') (a i : Nat) : gP_ h' a i = gP_ h a i := f.2.2.1 a i
theorem Fz.nx {S : Nat → Nat → Prop} {h h' : MH_} (f : Fz S h h') : nx_ h' = nx_ h := f.2.2.2.1.1
theorem Fz.rc {S : Nat → Nat → Prop} {h h' : MH_} (f : Fz S h h') : rc_ h' = rc_ h := f.2.2.2.1.2.1
theorem Fz.rs {S : Nat → Nat → Prop} {h h' : MH_} (f : Fz S h h') : rs_ h' = rs_ h := f.2.2.2.1.2.2.1
theorem Fz.em {S : Nat → Nat → Prop} {h h' : MH_} (f : Fz S h h') : em_ h' = em_ h := f.2.2.2.1.2.2.2.1
theorem Fz.mi {S : Nat → Nat → Prop} {h h' : MH_} (f : Fz S h h') : mi_ h' = mi_ h := f.2.2.2.1.2.2.2.2
theorem Fz.gI {S : Nat → Nat → Prop} {h h' : MH_} (f : Fz S h h') {a i : Nat} (ha : ¬ S a i) : gI_ h' a i = gI_ h a i := (f.2.2.2.2 a i ha).1
theorem Fz.gJ {S : Nat → Nat → Prop} {h h' : MH_} (f : Fz S h h') {a i : Nat} (ha : ¬ S a i) : gJ_ h' a i = gJ_ h a i := (f.2.2.2.2 a i ha).2
theorem Fz.sI {S : Nat → Nat → Prop} {h h' : MH_} (f : Fz S h h') {a j : Nat} {x : Int32} (ha : S a j) : Fz S h (sI_ h' a j x) := by
  refine f.trans ⟨fun _ => rfl, fun _ => rfl, fun _ _ => rfl, ⟨rfl, rfl, rfl, rfl, rfl⟩, fun b i hb => ⟨?_, rfl⟩⟩
  rw [z_gI_sI]
  split
  · rename_i z; obtain ⟨rfl, rfl⟩ := z; exact (hb ha).elim
  · rfl
theorem Fz.sJ {S : Nat → Nat → Prop} {h h' : MH_} (f : Fz S h h') {a j : Nat} {x : Int64} (ha : S a j) : Fz S h (sJ_ h' a j x) := by
  refine f.trans ⟨fun _ => rfl, fun _ => rfl, fun _ _ => rfl, ⟨rfl, rfl, rfl, rfl, rfl⟩, fun b i hb => ⟨rfl, ?_⟩⟩
  rw [z_gJ_sJ]
  split
  · rename_i z; obtain ⟨rfl, rfl⟩ := z; exact (hb ha).elim
  · rfl
/-! frames with new cells: S tells all that may change of the old ones -/
def Fa (S : Nat → Nat → Prop) (n w : Nat) (h h' : MH_) : Prop := nx_ h ≤ nx_ h' ∧ (∀ a, a < nx_ h → kd_ h' a = kd_ h a) ∧ (∀ a, a < nx_ h → ln_ h' a = ln_ h a) ∧ rc_ h ≤ rc_ h' + n ∧ rs_ h ≤ rs_ h' + w ∧ em_ h' = em_ h ∧ mi_ h' = mi_ h ∧ ∀ a i, a < nx_ h → ¬ S a i → gI_ h' a i = gI_ h a i ∧ gJ_ h' a i = gJ_ h a i ∧ gP_ h' a i = gP_ h a i
theorem Fz.fa {S : Nat → Nat → Prop} {h h' : MH_} (f : Fz S h h') : Fa S 0 0 h h' := by
  obtain ⟨f1, f2, f3, ⟨f4, f5, f6, f7, f8⟩, f9⟩ := f
  exact ⟨by omega, fun a _ => f1 a, fun a _ => f2 a, by omega, by omega, f7, f8, fun a i _ ha => ⟨(f9 a i ha).1, (f9 a i ha).2, f3 a i⟩⟩
theorem Fa.trans {S : Nat → Nat → Prop} {n w n' w' : Nat} {h h' h'' : MH_} (f : Fa S n w h h') (g : Fa S n' w' h' h'') : Fa S (n + n') (w + w') h h'' := by
  obtain ⟨f1, f2, f3, f4, f5, f6, f7, f8⟩ := f
  obtain ⟨g1, g2, g3, g4, g5, g6, g7, g8⟩ := g
  refine ⟨by omega, fun a ha => (g2 a (by omega)).trans (f2 a ha), fun a ha => (g3 a (by omega)).trans (f3 a ha), by omega, by omega, g6.trans f6, g7.trans f7, fun a i ha hs => ?_⟩
  obtain ⟨u1, u2, u3⟩ := f8 a i ha hs
  obtain ⟨v1, v2, v3⟩ := g8 a i (by omega) hs
  exact ⟨v1.trans u1, v2.trans u2, v3.trans u3⟩
theorem Fa.mono {S T : Nat → Nat → Prop} {n w n' w' : Nat} {h h' : MH_} (f : Fa S n w h h') (hs : ∀ a i, a < nx_ h → S a i → T a i) (hn : n ≤ n') (hw : w ≤ w') : Fa T n' w' h h' := by
  obtain ⟨f1, f2, f3, f4, f5, f6, f7, f8⟩ := f
  exact ⟨f1, f2, f3, by omega, by omega, f6, f7, fun a i ha hb => f8 a i ha (fun z => hb (hs a i ha z))⟩
theorem Fa.nw {S : Nat → Nat → Prop} {h : MH_} {k n w : Nat} (hr : 1 ≤ rc_ h) (hs : w ≤ rs_ h) : Fa S 1 w h (nw_ h k n w) := by
  refine ⟨by rw [z_nx_nw]; omega, fun a ha => ?_, fun a ha => ?_, by rw [z_rc_nw]; omega, by rw [z_rs_nw]; omega, rfl, rfl, fun a i ha _ => ⟨?_, ?_, ?_⟩⟩
  · rw [z_kd_nw, if_neg (by omega)]
  · rw [z_ln_nw, if_neg (by omega)]
  · rw [z_gI_nw, if_neg (by omega)]
  · rw [z_gJ_nw, if_neg (by omega)]
  · rw [z_gP_nw, if_neg (by omega)]
theorem c_lt {x y : Int64} : lg_cmp x y < Int32.ofNat 0 ↔ x < y := lg_cmp_lt x y
theorem c_gt {x y : Int64} : Int32.ofNat 0 < lg_cmp x y ↔ y < x := lg_cmp_gt x y
theorem c_eq {x y : Int64} : lg_cmp x y = Int32.ofNat 0 ↔ x = y := lg_cmp_eq x y
theorem gD_in {l : List Nat} {i : Nat} (h : i < l.length) : l.getD i 0 = l[i] := by
  rw [List.getD_eq_getElem?_getD, List.getElem?_eq_getElem h]
  rfl
theorem gD_out {l : List Nat} {i : Nat} (h : l.length ≤ i) : l.getD i 0 = 0 := by
  rw [List.getD_eq_getElem?_getD, List.getElem?_eq_none h]
  rfl
theorem gD_app {l m : List Nat} {i : Nat} (h : i < l.length) : (l ++ m).getD i 0 = l.getD i 0 := by
  rw [gD_in (by rw [List.length_append]; omega), gD_in h, List.getElem_append_left h]
theorem gD_app' {l m : List Nat} {i : Nat} (h : l.length ≤ i) : (l ++ m).getD i 0 = m.getD (i - l.length) 0 := by
  by_cases hi : i < (l ++ m).length
  · rw [gD_in hi, List.getElem_append_right h, gD_in (by rw [List.length_append] at hi; omega)]
  · rw [gD_out (by omega), gD_out (by rw [List.length_append] at hi; omega)]
theorem gD_drop {l : List Nat} {k : Nat} (h : k < l.length) : l.drop k = l.getD k 0 :: l.drop (k + 1) := by
  rw [gD_in h]
  exact List.drop_eq_getElem_cons h
theorem gD_lt {l : List Nat} (h : ∀ b ∈ l, b < 256) (i : Nat) : l.getD i 0 < 256 := by
  by_cases hi : i < l.length
  · rw [gD_in hi]; exact h _ (List.getElem_mem hi)
  · rw [gD_out (by omega)]; omega
