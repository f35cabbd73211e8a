/-! ===== the machine's heap and the small one ===== -/
abbrev Dg_ : Type := (Nat → ClassId) × (Nat → Nat → Nat) × (Nat → ClassId) × (Nat → ClassId) × Heap × Nat × Nat × Nat × (Nat → Int32) × Nat
abbrev dC_ (D : Dg_) : Nat → ClassId := D.1
abbrev dS_ (D : Dg_) : Nat → Nat → Nat := D.2.1
abbrev dA_ (D : Dg_) : Nat → ClassId := D.2.2.1
abbrev dX_ (D : Dg_) : Nat → ClassId := D.2.2.2.1
abbrev dH_ (D : Dg_) : Heap := D.2.2.2.2.1
abbrev dE_ (D : Dg_) : Nat := D.2.2.2.2.2.1
abbrev dB_ (D : Dg_) : Nat := D.2.2.2.2.2.2.1
abbrev dL_ (D : Dg_) : Nat := D.2.2.2.2.2.2.2.1
abbrev dZ_ (D : Dg_) : Nat → Int32 := D.2.2.2.2.2.2.2.2.1
abbrev dM_ (D : Dg_) : Nat := D.2.2.2.2.2.2.2.2.2
def aty_ (t : Nat) : FieldType := match t with | 30 => .int | 31 => .byte | 32 => .boolean | 33 => .long | 34 => .object "java/lang/Object" | 35 => .object "EventLog$Block" | _ => .object "EventLog$Row"
abbrev ol_ (D : Dg_) : Nat → Prop := fun q => (dH_ D).size ≤ q
def KD_ (D : Dg_) (U : State) : Prop :=
  (∀ (c : Nat) (q : vw_C), cl_[c]? = some q → u_Kn U q.1 q.2.1 q.2.2 (dC_ D c) (dS_ D c)) ∧
  (∀ t, 30 ≤ t → t ≤ 36 → ArrOfT U (dA_ D t) (aty_ t) ∧ va_RA U (dA_ D t) (aty_ t)) ∧
  (∀ x, x < 5 → U.vm.findClass (xn_.getD x "") = some (dX_ D x)) ∧
  (∀ w ∈ wn_, va_Nw w U) ∧
  (∀ x y, x < 5 → y < 5 → x ≠ y → va_Nc (xn_.getD x "") (xn_.getD y "") U) ∧
  vx_Zq Bundle.tN "UNASSIGNED_STACK" Bundle.steD (ol_ D) U (dH_ D) ∧ vx_Zq Bundle.tN "SUPPRESSED_SENTINEL" Bundle.listD (ol_ D) U (dH_ D) ∧
  va_Z "java/util/ArrayList" "DEFAULTCAPACITY_EMPTY_ELEMENTDATA" "[Ljava/lang/Object;" (.ref (dE_ D)) (ol_ D) U (dH_ D) ∧
  (∃ cell : Cell, (dH_ D)[dE_ D]? = some cell ∧ U.isArrayOf cell (.object "java/lang/Object") ∧ cell.vm ≠ .unknown ∧ cell.slots.size = 0) ∧
  va_X (dB_ D) (dL_ D) (dZ_ D) U (dH_ D) ∧ va_Mi "[Ljava/lang/Object;" (dM_ D) U ∧
  ((dH_ D).size ≤ U.heap.size ∧ ∀ q, q < (dH_ D).size → U.heap[q]? = (dH_ D)[q]?)
theorem KD_.moved {D : Dg_} {s U : State} (hW : s.WarmedH U.vm) (hU : (dH_ D).size ≤ U.heap.size ∧ ∀ q, q < (dH_ D).size → U.heap[q]? = (dH_ D)[q]?) (h : KD_ D s) : KD_ D U := by
  obtain ⟨h1, h2, h3, h4, h5, h6, h7, h8, ⟨cell, h9, h10, h11⟩, h12, h13, -⟩ := h
  refine ⟨fun c q hq => u_Kn_moved hW.alike (h1 c q hq), fun t a b => ⟨arrOfT_moved hW.alike (h2 t a b).1, (h2 t a b).2.moved hW.alike⟩, fun x hx => by rw [hW.alike.findClass]; exact h3 x hx, fun w hw => ?_, fun x y a b n => (h5 x y a b n).moved hW.alike, h6.moved hW.alike, h7.moved hW.alike, va_Z.moved hW.alike h8, ⟨cell, h9, State.isArrayOf_alike hW.alike h10, h11⟩, h12.moved hW.alike, h13.moved hW.alike, hU⟩
  have hz := h4 w hw
  have hn := (List.mem_filter.mp hw).2
  cases w <;> first | exact va_Nw.warmM hW hz | exact va_Nw.warmC hW hz | exact va_Nw.warmD hW hz | (rename_i y; cases y <;> first | exact va_AO.moved hW.alike hz | (simp [nl_] at hn)) | (simp [nl_] at hn)
def fv_ (t : Nat) (h : MH_) (a j : Nat) : Value := match fty_ t j with
  | .long => .long (gJ_ h a j) | .object _ => va_rf (gP_ h a j) | .array _ => va_rf (gP_ h a j) | _ => .int (gI_ h a j)
def av_ (t : Nat) (h : MH_) (a i : Nat) : Value := if t ≤ 32 then .int (gI_ h a i) else if t = 33 then .long (gJ_ h a i) else va_rf (gP_ h a i)
/-- the cell at a is what the small heap says -/
def CO_ (D : Dg_) (h : MH_) (H : Heap) (a : Nat) : Prop :=
  (1 ≤ kd_ h a ∧ kd_ h a ≤ 14 ∧ (dH_ D).size ≤ a ∧ t_OB a (dC_ D (kd_ h a - 1)) (nf_ (kd_ h a)) (dS_ D (kd_ h a - 1)) H (fv_ (kd_ h a) h a)) ∨
  (20 ≤ kd_ h a ∧ kd_ h a ≤ 24 ∧ (dH_ D).size ≤ a ∧ ∃ cell : Cell, H[a]? = some cell ∧ cell.vm = .none ∧ cell.cls = dX_ D (kd_ h a - 20)) ∨
  (30 ≤ kd_ h a ∧ kd_ h a ≤ 36 ∧ (dH_ D).size ≤ a ∧ H[a]? = some (arrV (dA_ D (kd_ h a)) (ln_ h a) (av_ (kd_ h a) h a))) ∨
  (kd_ h a = 37 ∧ a = dB_ D ∧ ln_ h a = dL_ D ∧ ∀ j, j < dL_ D → gI_ h a j = dZ_ D j) ∨
  (kd_ h a = 38 ∧ a = dE_ D ∧ ln_ h a = 0)
def RH_ (D : Dg_) (h : MH_) (H : Heap) : Prop := H.size = nx_ h ∧ (dH_ D).size ≤ H.size ∧ (∀ q, q < (dH_ D).size → H[q]? = (dH_ D)[q]?) ∧ (em_ h = dE_ D ∧ mi_ h = dM_ D) ∧ ∀ a, kd_ h a ≠ 0 → CO_ D h H a
theorem RH_.lo {D : Dg_} {h : MH_} {H : Heap} {a : Nat} (hR : RH_ D h H) (hk : kd_ h a ≠ 0) (h37 : kd_ h a < 37) : (dH_ D).size ≤ a := by
  rcases hR.2.2.2.2 a hk with q | q | q | q | q
  · exact q.2.2.1
  · exact q.2.2.1
  · exact q.2.2.1
  · omega
  · omega
theorem RH_.obj {D : Dg_} {h : MH_} {H : Heap} {a t : Nat} (hR : RH_ D h H) (hk : kd_ h a = t) (h1 : 1 ≤ t) (h2 : t ≤ 14) : t_OB a (dC_ D (t - 1)) (nf_ t) (dS_ D (t - 1)) H (fv_ t h a) := by
  subst hk
  rcases hR.2.2.2.2 a (by omega) with q | q | q | q | q
  · exact q.2.2.2
  all_goals omega
theorem RH_.arr {D : Dg_} {h : MH_} {H : Heap} {a t : Nat} (hR : RH_ D h H) (hk : kd_ h a = t) (h1 : 30 ≤ t) (h2 : t ≤ 36) : H[a]? = some (arrV (dA_ D t) (ln_ h a) (av_ t h a)) := by
  subst hk
  rcases hR.2.2.2.2 a (by omega) with q | q | q | q | q
  · omega
  · omega
  · exact q.2.2.2
  all_goals omega
theorem RH_.exc {D : Dg_} {h : MH_} {H : Heap} {a t : Nat} (hR : RH_ D h H) (hk : kd_ h a = t) (h1 : 20 ≤ t) (h2 : t ≤ 24) : ∃ cell : Cell, H[a]? = some cell ∧ cell.vm = .none ∧ cell.cls = dX_ D (t - 20) := by
  subst hk
  rcases hR.2.2.2.2 a (by omega) with q | q | q | q | q
  · omega
  · exact q.2.2.2
  all_goals omega
theorem RH_.lt {D : Dg_} {h : MH_} {H : Heap} {a : Nat} (hR : RH_ D h H) (hk : kd_ h a ≠ 0) (h37 : kd_ h a < 37) : a < nx_ h := by
  rw [← hR.1]
  rcases hR.2.2.2.2 a hk with ⟨-, -, -, c, q, -⟩ | ⟨-, -, -, c, q, -⟩ | ⟨-, -, -, q⟩ | q | q
  · exact (Array.getElem?_eq_some_iff.mp q).1
  · exact (Array.getElem?_eq_some_iff.mp q).1
  · exact (Array.getElem?_eq_some_iff.mp q).1
  · omega
  · omega
/-- the small heap's other cells are as they were; the cell a is what is said of it -/
theorem RH_.put {D : Dg_} {h h1 : MH_} {H H1 : Heap} {a : Nat} (hR : RH_ D h H) (hk : kd_ h a ≠ 0) (h37 : kd_ h a < 37) (z : H1.size = H.size) (oq : ∀ q : Nat, q ≠ a → H1[q]? = H[q]?)
    (e1 : kd_ h1 = kd_ h) (e2 : ln_ h1 = ln_ h) (e3 : nx_ h1 = nx_ h) (e4 : em_ h1 = em_ h ∧ mi_ h1 = mi_ h) (o1 : ∀ b j, b ≠ a → gI_ h1 b j = gI_ h b j) (o2 : ∀ b j, b ≠ a → gJ_ h1 b j = gJ_ h b j) (o3 : ∀ b j, b ≠ a → gP_ h1 b j = gP_ h b j)
    (hc : CO_ D h1 H1 a) : RH_ D h1 H1 := by
  have hlo := hR.lo hk h37
  refine ⟨by rw [z, e3]; exact hR.1, by rw [z]; exact hR.2.1, fun q hq => by rw [oq q (by omega)]; exact hR.2.2.1 q hq, by rw [e4.1, e4.2]; exact hR.2.2.2.1, fun b hb => ?_⟩
  by_cases hba : b = a
  · subst hba; exact hc
  · rw [e1] at hb
    have hf : ∀ t, fv_ t h1 b = fv_ t h b := fun t => by
      funext j
      simp only [fv_, o1 b j hba, o2 b j hba, o3 b j hba]
    have ha : ∀ t, av_ t h1 b = av_ t h b := fun t => by
      funext j
      simp only [av_, o1 b j hba, o2 b j hba, o3 b j hba]
    unfold CO_
    rw [e1, e2]
    simp only [hf, ha, oq b hba, o1 b _ hba]
    rcases hR.2.2.2.2 b hb with ⟨q1, q2, q3, q4⟩ | q | q | q | q
    · exact Or.inl ⟨q1, q2, q3, q4.kept (oq b hba)⟩
    · exact Or.inr (Or.inl q)
    · exact Or.inr (Or.inr (Or.inl q))
    · exact Or.inr (Or.inr (Or.inr (Or.inl q)))
    · exact Or.inr (Or.inr (Or.inr (Or.inr q)))
/-- a new cell -/
theorem RH_.new {D : Dg_} {h : MH_} {H H1 : Heap} {k n w : Nat} (hR : RH_ D h H) (z : H1.size = H.size + 1) (oq : ∀ q : Nat, q < H.size → H1[q]? = H[q]?) (hc : CO_ D (nw_ h k n w) H1 (nx_ h)) : RH_ D (nw_ h k n w) H1 := by
  refine ⟨by rw [z, hR.1]; rfl, by rw [z]; have := hR.2.1; omega, fun q hq => by rw [oq q (Nat.lt_of_lt_of_le hq hR.2.1)]; exact hR.2.2.1 q hq, hR.2.2.2.1, fun b hb => ?_⟩
  by_cases hba : b = nx_ h
  · subst hba; exact hc
  · have e1 : kd_ (nw_ h k n w) b = kd_ h b := by simp [nw_, kd_, hba]
    have e2 : ln_ (nw_ h k n w) b = ln_ h b := by simp [nw_, ln_, hba]
    have e3 : ∀ j, gI_ (nw_ h k n w) b j = gI_ h b j := fun j => by simp [nw_, gI_, hba]
    have e4 : ∀ j, gJ_ (nw_ h k n w) b j = gJ_ h b j := fun j => by simp [nw_, gJ_, hba]
    have e5 : ∀ j, gP_ (nw_ h k n w) b j = gP_ h b j := fun j => by simp [nw_, gP_, hba]
    have hf : ∀ t, fv_ t (nw_ h k n w) b = fv_ t h b := fun t => by funext j; simp only [fv_, e3, e4, e5]
    have ha : ∀ t, av_ t (nw_ h k n w) b = av_ t h b := fun t => by funext j; simp only [av_, e3, e4, e5]
    rw [e1] at hb
    unfold CO_
    rw [e1, e2]
    simp only [hf, ha, e3]
    have hC := hR.2.2.2.2 b hb
    rcases hC with ⟨q1, q2, q3, q4⟩ | ⟨q1, q2, q3, c, q4, q5⟩ | ⟨q1, q2, q3, q4⟩ | q | q
    · obtain ⟨c, hc4, -⟩ := id q4
      exact Or.inl ⟨q1, q2, q3, q4.kept (oq b (Array.getElem?_eq_some_iff.mp hc4).1)⟩
    · exact Or.inr (Or.inl ⟨q1, q2, q3, c, by rw [oq b (Array.getElem?_eq_some_iff.mp q4).1]; exact q4, q5⟩)
    · exact Or.inr (Or.inr (Or.inl ⟨q1, q2, q3, by rw [oq b (Array.getElem?_eq_some_iff.mp q4).1]; exact q4⟩))
    · exact Or.inr (Or.inr (Or.inr (Or.inl q)))
    · exact Or.inr (Or.inr (Or.inr (Or.inr q)))
/-- a method's frame -/
def Cx_ (k : Nat) (p : Program) (l : Launch) (R : Room) (s : State) (m : MethodId) (args : Array Value) (meth : Method) (c : Code) : Prop :=
  p.tables.exec = Jvm.exec ∧ c.code = mc_ k ∧ l.stackTraces = false ∧ c.maxLocals = ml_ k ∧ meth.sig.returnType = mr_ k ∧ meth.locks = false ∧ meth.name = (my_ k).name ∧ s.vm.findClass (ow_ (mo_ k)) = some m.cls ∧
  (∀ w ∈ wg_, w.before args s = true) ∧ mp_ k ≤ R.frames ∧ 80 * mp_ k ≤ R.locals ∧ c.exceptionTable.toList = tableOf (mh_ k) ∧ k < 248
def LR_ (ls : Array Slot) (n : Nat) (L : List Value) : Prop := ls.size = n ∧ lv_wf ls ∧ ∀ (i : Nat) (v : Value), L[i]? = some v → v ≠ .null → ls[i]? = some (.val v)
def OM_ (rt : Option FieldType) (u : MH_) (o : Outcome) (r : Rs_) : Prop := match r with
  | .inl v => (rt = none ∧ o = .returned none) ∨ (rt ≠ none ∧ o = .returned (some v))
  | .inr a => o = .threw a ∧ 20 ≤ kd_ u a ∧ kd_ u a ≤ 24
def EP_ (rt : Option FieldType) (D : Dg_) (R : Room) (s : State) (below : List Frame) (Q : Rs_ → MH_ → Prop) : State → Prop := fun t =>
  ∃ (o : Outcome) (r : Rs_) (u : MH_) (Lc : List Loc) (kk nn : Nat), t.status = .running ∧ Ended t below o ∧ OM_ rt u o r ∧ Q r u ∧ RH_ D u t.heap ∧ s.WarmedH t.vm ∧ s.sameButNew ({ t with vm := s.vm } : State) Lc kk nn ∧ kk + rc_ u ≤ R.cells ∧ nn + rs_ u ≤ R.slots ∧ ∀ z ∈ Lc, (dH_ D).size ≤ z.base
theorem W_mono {p : Program} {l : Launch} {e : Env} {R : Room} {s : State} {m : MethodId} {args : Array Value} {below : List Frame} {meth : Method} {c : Code} {H : Heap} {locs : List Loc} {cells slots : Nat} {Q Q' : State → Prop} {g : JFrame} (h : ∀ t, Q t → Q' t) (k : W p l e R s m args below meth c H locs cells slots Q g) : W p l e R s m args below meth c H locs cells slots Q' g := fun T hT X => by
  obtain ⟨t, a, b⟩ := k T hT X
  exact ⟨t, a, h t b⟩
/-- the machine does it -/
def Ev_ : Wt_ := fun k pc L st h Q => ∀ (D : Dg_) (p : Program) (l : Launch) (e : Env) (R : Room) (s : State) (m : MethodId) (args : Array Value) (below : List Frame) (meth : Method) (c : Code), Cx_ k p l R s m args meth c → KD_ D s →
  ∀ (H : Heap) (locs : List Loc) (cells slots : Nat) (ls : Array Slot), RH_ D h H → cells + rc_ h ≤ R.cells → slots + rs_ h ≤ R.slots → (∀ z ∈ locs, (dH_ D).size ≤ z.base) → LR_ ls (ml_ k) L →
    W p l e R s m args below meth c H locs cells slots (EP_ (mr_ k) D R s below Q) (F0 m pc ls st)
theorem EP_mono {rt : Option FieldType} {D : Dg_} {R : Room} {s : State} {below : List Frame} {Q Q' : Rs_ → MH_ → Prop} (hQ : ∀ r u, Q r u → Q' r u) : ∀ t, EP_ rt D R s below Q t → EP_ rt D R s below Q' t := by
  rintro t ⟨o, r, u, Lc, kk, nn, h1, h2, h3, h4, h5⟩
  exact ⟨o, r, u, Lc, kk, nn, h1, h2, h3, hQ _ _ h4, h5⟩
theorem Ev_mono : Mo_ Ev_ := by
  intro k pc L st h Q Q' hQ hE D p l e R s m args below meth c hC hK H locs cells slots ls h1 h2 h3 h4 h5
  exact W_mono (EP_mono hQ) (hE D p l e R s m args below meth c hC hK H locs cells slots ls h1 h2 h3 h4 h5)
