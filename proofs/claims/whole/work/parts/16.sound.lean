/-! ===== the small machine tells the truth ===== -/
theorem gd_s {α : Type} {c : Prop} [Decidable c] {x : Option α} {z : α} (h : gd_ c x = some z) : c ∧ x = some z := by
  unfold gd_ at h
  split at h
  · rename_i hc; exact ⟨hc, h⟩
  · cases h
theorem q1i__s {α : Type} {st : List Value} {f : Int32 → List Value → Option α} {z : α} (h : q1i_ st f = some z) : ∃ x r, st = .int x :: r ∧ f x r = some z := by
  unfold q1i_ at h
  split at h
  · exact ⟨_, _, rfl, h⟩
  · cases h
theorem q2i__s {α : Type} {st : List Value} {f : Int32 → Int32 → List Value → Option α} {z : α} (h : q2i_ st f = some z) : ∃ x y r, st = .int y :: .int x :: r ∧ f x y r = some z := by
  unfold q2i_ at h
  split at h
  · exact ⟨_, _, _, rfl, h⟩
  · cases h
theorem q1l__s {α : Type} {st : List Value} {f : Int64 → List Value → Option α} {z : α} (h : q1l_ st f = some z) : ∃ x r, st = .long x :: r ∧ f x r = some z := by
  unfold q1l_ at h
  split at h
  · exact ⟨_, _, rfl, h⟩
  · cases h
theorem q2l__s {α : Type} {st : List Value} {f : Int64 → Int64 → List Value → Option α} {z : α} (h : q2l_ st f = some z) : ∃ x y r, st = .long y :: .long x :: r ∧ f x y r = some z := by
  unfold q2l_ at h
  split at h
  · exact ⟨_, _, _, rfl, h⟩
  · cases h
theorem qil__s {α : Type} {st : List Value} {f : Int64 → Int32 → List Value → Option α} {z : α} (h : qil_ st f = some z) : ∃ x y r, st = .int y :: .long x :: r ∧ f x y r = some z := by
  unfold qil_ at h
  split at h
  · exact ⟨_, _, _, rfl, h⟩
  · cases h
theorem q1r__s {α : Type} {st : List Value} {f : Nat → List Value → Option α} {z : α} (h : q1r_ st f = some z) : ∃ x r, st = .ref x :: r ∧ f x r = some z := by
  unfold q1r_ at h
  split at h
  · exact ⟨_, _, rfl, h⟩
  · cases h
theorem q2r__s {α : Type} {st : List Value} {f : Nat → Nat → List Value → Option α} {z : α} (h : q2r_ st f = some z) : ∃ x y r, st = .ref y :: .ref x :: r ∧ f x y r = some z := by
  unfold q2r_ at h
  split at h
  · exact ⟨_, _, _, rfl, h⟩
  · cases h
theorem qir__s {α : Type} {st : List Value} {f : Nat → Int32 → List Value → Option α} {z : α} (h : qir_ st f = some z) : ∃ a i r, st = .int i :: .ref a :: r ∧ f a i r = some z := by
  unfold qir_ at h
  split at h
  · exact ⟨_, _, _, rfl, h⟩
  · cases h
theorem qlr__s {α : Type} {st : List Value} {f : Nat → Int64 → List Value → Option α} {z : α} (h : qlr_ st f = some z) : ∃ a i r, st = .long i :: .ref a :: r ∧ f a i r = some z := by
  unfold qlr_ at h
  split at h
  · exact ⟨_, _, _, rfl, h⟩
  · cases h
theorem qiir__s {α : Type} {st : List Value} {f : Nat → Int32 → Int32 → List Value → Option α} {z : α} (h : qiir_ st f = some z) : ∃ a i x r, st = .int x :: .int i :: .ref a :: r ∧ f a i x r = some z := by
  unfold qiir_ at h
  split at h
  · exact ⟨_, _, _, _, rfl, h⟩
  · cases h
theorem qlir__s {α : Type} {st : List Value} {f : Nat → Int32 → Int64 → List Value → Option α} {z : α} (h : qlir_ st f = some z) : ∃ a i x r, st = .long x :: .int i :: .ref a :: r ∧ f a i x r = some z := by
  unfold qlir_ at h
  split at h
  · exact ⟨_, _, _, _, rfl, h⟩
  · cases h
theorem q1v__s {α : Type} {st : List Value} {f : Value → List Value → Option α} {z : α} (h : q1v_ st f = some z) : ∃ v r, st = v :: r ∧ f v r = some z := by
  unfold q1v_ at h
  split at h
  · exact ⟨_, _, rfl, h⟩
  · cases h
theorem q2v__s {α : Type} {st : List Value} {f : Value → Value → List Value → Option α} {z : α} (h : q2v_ st f = some z) : ∃ v u r, st = u :: v :: r ∧ f v u r = some z := by
  unfold q2v_ at h
  split at h
  · exact ⟨_, _, _, rfl, h⟩
  · cases h
theorem vI__s {α : Type} {o : Option Value} {f : Int32 → Option α} {z : α} (h : vI_ o f = some z) : ∃ x, o = some (.int x) ∧ f x = some z := by
  unfold vI_ at h
  split at h
  · exact ⟨_, rfl, h⟩
  · cases h
theorem vJ__s {α : Type} {o : Option Value} {f : Int64 → Option α} {z : α} (h : vJ_ o f = some z) : ∃ x, o = some (.long x) ∧ f x = some z := by
  unfold vJ_ at h
  split at h
  · exact ⟨_, rfl, h⟩
  · cases h
theorem vR__s {α : Type} {o : Option Value} {f : Nat → Option α} {z : α} (h : vR_ o f = some z) : ∃ x, o = some (.ref x) ∧ f x = some z := by
  unfold vR_ at h
  split at h
  · exact ⟨_, rfl, h⟩
  · cases h
theorem bd_s {α β : Type} {o : Option α} {f : α → Option β} {z : β} (h : o.bind f = some z) : ∃ x, o = some x ∧ f x = some z := by
  cases o with
  | none => cases h
  | some x => exact ⟨x, rfl, h⟩
theorem vp_s {α : Type} {i : Int32} {n : Nat} {x : Option α} {z : α} (h : @ite _ (vp_in i n) (vpd_ _ _) x none = some z) : vp_in i n ∧ x = some z := by
  by_cases hi : vp_in i n
  · rw [@if_pos _ (vpd_ _ _) hi] at h; exact ⟨hi, h⟩
  · rw [@if_neg _ (vpd_ _ _) hi] at h; cases h
section As
variable {k pc : Nat} {L st : List Value} {h : MH_} {Q : Rs_ → MH_ → Prop}
set_option maxHeartbeats 4000000 in
theorem ev_step {i : Instr} {n pc' : Nat} {L' st' : List Value} {h' : MH_} (hd : decode (mc_ k) pc = .ok (i, n)) (hs : st_ k i n pc L st h = some (.inl (pc', L', st', h'))) (hel : ∀ x, i = .invokestatic x → True) (K : Ev_ k pc' L' st' h' Q) : Ev_ k pc L st h Q := by
  cases i
  case aconst_null =>
    simp only [st_] at hs
    have hq9 := gd_s hs
    clear hs
    obtain ⟨rfl, hs⟩ := hq9
    simp only [Option.some.injEq, Sum.inl.injEq, Prod.mk.injEq] at hs
    obtain ⟨rfl, rfl, rfl, rfl⟩ := hs
    exact e_null hd K
  case iconst x =>
    simp only [st_] at hs
    have hq9 := gd_s hs
    clear hs
    obtain ⟨rfl, hs⟩ := hq9
    simp only [Option.some.injEq, Sum.inl.injEq, Prod.mk.injEq] at hs
    obtain ⟨rfl, rfl, rfl, rfl⟩ := hs
    exact e_iconst hd K
  case lconst x =>
    simp only [st_] at hs
    have hq9 := gd_s hs
    clear hs
    obtain ⟨rfl, hs⟩ := hq9
    simp only [Option.some.injEq, Sum.inl.injEq, Prod.mk.injEq] at hs
    obtain ⟨rfl, rfl, rfl, rfl⟩ := hs
    exact e_lconst hd K
  case bipush x =>
    simp only [st_] at hs
    have hq9 := gd_s hs
    clear hs
    obtain ⟨rfl, hs⟩ := hq9
    simp only [Option.some.injEq, Sum.inl.injEq, Prod.mk.injEq] at hs
    obtain ⟨rfl, rfl, rfl, rfl⟩ := hs
    exact e_bipush hd K
  case sipush x =>
    simp only [st_] at hs
    have hq9 := gd_s hs
    clear hs
    obtain ⟨rfl, hs⟩ := hq9
    simp only [Option.some.injEq, Sum.inl.injEq, Prod.mk.injEq] at hs
    obtain ⟨rfl, rfl, rfl, rfl⟩ := hs
    exact e_sipush hd K
  case ldc x =>
    simp only [st_] at hs
    have hq9 := gd_s hs
    clear hs
    obtain ⟨rfl, hs⟩ := hq9
    by_cases hc : mo_ k = 16 ∧ x = 110
    · rw [if_pos hc] at hs
      obtain ⟨hq1, hq2⟩ := hc
      subst hq2
      simp only [Option.some.injEq, Sum.inl.injEq, Prod.mk.injEq] at hs
      obtain ⟨rfl, rfl, rfl, rfl⟩ := hs
      exact e_ldcM hd hq1 K
    · rw [if_neg hc] at hs
      have hq9 := bd_s hs
      clear hs
      obtain ⟨v, hv, hs⟩ := hq9
      simp only [Option.some.injEq, Sum.inl.injEq, Prod.mk.injEq] at hs
      obtain ⟨rfl, rfl, rfl, rfl⟩ := hs
      exact e_ldc hd hv K
  case ldc2_w x =>
    simp only [st_] at hs
    have hq9 := gd_s hs
    clear hs
    obtain ⟨rfl, hs⟩ := hq9
    have hq9 := bd_s hs
    clear hs
    obtain ⟨v, hv, hs⟩ := hq9
    simp only [Option.some.injEq, Sum.inl.injEq, Prod.mk.injEq] at hs
    obtain ⟨rfl, rfl, rfl, rfl⟩ := hs
    exact e_ldc2 hd hv K
  case iload x =>
    simp only [st_] at hs
    have hq9 := gd_s hs
    clear hs
    obtain ⟨rfl, hs⟩ := hq9
    have hq9 := vI__s hs
    clear hs
    obtain ⟨v, hv, hs⟩ := hq9
    simp only [Option.some.injEq, Sum.inl.injEq, Prod.mk.injEq] at hs
    obtain ⟨rfl, rfl, rfl, rfl⟩ := hs
    exact e_iload hd hv K
  case iload_n x =>
    simp only [st_] at hs
    have hq9 := gd_s hs
    clear hs
    obtain ⟨rfl, hs⟩ := hq9
    have hq9 := vI__s hs
    clear hs
    obtain ⟨v, hv, hs⟩ := hq9
    simp only [Option.some.injEq, Sum.inl.injEq, Prod.mk.injEq] at hs
    obtain ⟨rfl, rfl, rfl, rfl⟩ := hs
    exact e_iload_n hd hv K
  case lload x =>
    simp only [st_] at hs
    have hq9 := gd_s hs
    clear hs
    obtain ⟨rfl, hs⟩ := hq9
    have hq9 := vJ__s hs
    clear hs
    obtain ⟨v, hv, hs⟩ := hq9
    simp only [Option.some.injEq, Sum.inl.injEq, Prod.mk.injEq] at hs
    obtain ⟨rfl, rfl, rfl, rfl⟩ := hs
    exact e_lload hd hv K
  case lload_n x =>
    simp only [st_] at hs
    have hq9 := gd_s hs
    clear hs
    obtain ⟨rfl, hs⟩ := hq9
    have hq9 := vJ__s hs
    clear hs
    obtain ⟨v, hv, hs⟩ := hq9
    simp only [Option.some.injEq, Sum.inl.injEq, Prod.mk.injEq] at hs
    obtain ⟨rfl, rfl, rfl, rfl⟩ := hs
    exact e_lload_n hd hv K
  case aload x =>
    simp only [st_] at hs
    have hq9 := gd_s hs
    clear hs
    obtain ⟨rfl, hs⟩ := hq9
    have hq9 := vR__s hs
    clear hs
    obtain ⟨v, hv, hs⟩ := hq9
    simp only [Option.some.injEq, Sum.inl.injEq, Prod.mk.injEq] at hs
    obtain ⟨rfl, rfl, rfl, rfl⟩ := hs
    exact e_aload hd hv K
  case aload_n x =>
    simp only [st_] at hs
    have hq9 := gd_s hs
    clear hs
    obtain ⟨rfl, hs⟩ := hq9
    have hq9 := vR__s hs
    clear hs
    obtain ⟨v, hv, hs⟩ := hq9
    simp only [Option.some.injEq, Sum.inl.injEq, Prod.mk.injEq] at hs
    obtain ⟨rfl, rfl, rfl, rfl⟩ := hs
    exact e_aload_n hd hv K
  case istore x =>
    simp only [st_] at hs
    have hq := gd_s hs
    clear hs
    obtain ⟨⟨hn0, hx⟩, hs⟩ := hq
    subst hn0
    have hq9 := q1i__s hs
    clear hs
    obtain ⟨v, r, rfl, hs⟩ := hq9
    simp only [Option.some.injEq, Sum.inl.injEq, Prod.mk.injEq] at hs
    obtain ⟨rfl, rfl, rfl, rfl⟩ := hs
    exact e_istore hd hx K
  case istore_n x =>
    simp only [st_] at hs
    have hq := gd_s hs
    clear hs
    obtain ⟨⟨hn0, hx⟩, hs⟩ := hq
    subst hn0
    have hq9 := q1i__s hs
    clear hs
    obtain ⟨v, r, rfl, hs⟩ := hq9
    simp only [Option.some.injEq, Sum.inl.injEq, Prod.mk.injEq] at hs
    obtain ⟨rfl, rfl, rfl, rfl⟩ := hs
    exact e_istore_n hd hx K
  case lstore x =>
    simp only [st_] at hs
    have hq := gd_s hs
    clear hs
    obtain ⟨⟨hn0, hx⟩, hs⟩ := hq
    subst hn0
    have hq9 := q1l__s hs
    clear hs
    obtain ⟨v, r, rfl, hs⟩ := hq9
    simp only [Option.some.injEq, Sum.inl.injEq, Prod.mk.injEq] at hs
    obtain ⟨rfl, rfl, rfl, rfl⟩ := hs
    exact e_lstore hd hx K
  case lstore_n x =>
    simp only [st_] at hs
    have hq := gd_s hs
    clear hs
    obtain ⟨⟨hn0, hx⟩, hs⟩ := hq
    subst hn0
    have hq9 := q1l__s hs
    clear hs
    obtain ⟨v, r, rfl, hs⟩ := hq9
    simp only [Option.some.injEq, Sum.inl.injEq, Prod.mk.injEq] at hs
    obtain ⟨rfl, rfl, rfl, rfl⟩ := hs
    exact e_lstore_n hd hx K
  case astore x =>
    simp only [st_] at hs
    have hq := gd_s hs
    clear hs
    obtain ⟨⟨hn0, hx⟩, hs⟩ := hq
    subst hn0
    have hq9 := q1r__s hs
    clear hs
    obtain ⟨v, r, rfl, hs⟩ := hq9
    simp only [Option.some.injEq, Sum.inl.injEq, Prod.mk.injEq] at hs
    obtain ⟨rfl, rfl, rfl, rfl⟩ := hs
    exact e_astore hd hx K
  case astore_n x =>
    simp only [st_] at hs
    have hq := gd_s hs
    clear hs
    obtain ⟨⟨hn0, hx⟩, hs⟩ := hq
    subst hn0
    have hq9 := q1r__s hs
    clear hs
    obtain ⟨v, r, rfl, hs⟩ := hq9
    simp only [Option.some.injEq, Sum.inl.injEq, Prod.mk.injEq] at hs
    obtain ⟨rfl, rfl, rfl, rfl⟩ := hs
    exact e_astore_n hd hx K
  case iinc x c =>
    simp only [st_] at hs
    split at hs
    · rename_i hn
      subst hn
      have hq9 := gd_s hs
      clear hs
      obtain ⟨hx, hs⟩ := hq9
      have hq9 := vI__s hs
      clear hs
      obtain ⟨v, hv, hs⟩ := hq9
      simp only [Option.some.injEq, Sum.inl.injEq, Prod.mk.injEq] at hs
      obtain ⟨rfl, rfl, rfl, rfl⟩ := hs
      exact e_iinc hd hx hv K
    · have hq := gd_s hs
      clear hs
      obtain ⟨⟨hn0, hx⟩, hs⟩ := hq
      subst hn0
      have hq9 := vI__s hs
      clear hs
      obtain ⟨v, hv, hs⟩ := hq9
      simp only [Option.some.injEq, Sum.inl.injEq, Prod.mk.injEq] at hs
      obtain ⟨rfl, rfl, rfl, rfl⟩ := hs
      exact e_iincW hd hx hv K
  case iadd =>
    simp only [st_] at hs
    have hq9 := gd_s hs
    clear hs
    obtain ⟨rfl, hs⟩ := hq9
    have hq9 := q2i__s hs
    clear hs
    obtain ⟨x, y, r, rfl, hs⟩ := hq9
    simp only [Option.some.injEq, Sum.inl.injEq, Prod.mk.injEq] at hs
    obtain ⟨rfl, rfl, rfl, rfl⟩ := hs
    exact e_iadd hd K
  case isub =>
    simp only [st_] at hs
    have hq9 := gd_s hs
    clear hs
    obtain ⟨rfl, hs⟩ := hq9
    have hq9 := q2i__s hs
    clear hs
    obtain ⟨x, y, r, rfl, hs⟩ := hq9
    simp only [Option.some.injEq, Sum.inl.injEq, Prod.mk.injEq] at hs
    obtain ⟨rfl, rfl, rfl, rfl⟩ := hs
    exact e_isub hd K
  case imul =>
    simp only [st_] at hs
    have hq9 := gd_s hs
    clear hs
    obtain ⟨rfl, hs⟩ := hq9
    have hq9 := q2i__s hs
    clear hs
    obtain ⟨x, y, r, rfl, hs⟩ := hq9
    simp only [Option.some.injEq, Sum.inl.injEq, Prod.mk.injEq] at hs
    obtain ⟨rfl, rfl, rfl, rfl⟩ := hs
    exact e_imul hd K
  case iand =>
    simp only [st_] at hs
    have hq9 := gd_s hs
    clear hs
    obtain ⟨rfl, hs⟩ := hq9
    have hq9 := q2i__s hs
    clear hs
    obtain ⟨x, y, r, rfl, hs⟩ := hq9
    simp only [Option.some.injEq, Sum.inl.injEq, Prod.mk.injEq] at hs
    obtain ⟨rfl, rfl, rfl, rfl⟩ := hs
    exact e_iand hd K
  case ior =>
    simp only [st_] at hs
    have hq9 := gd_s hs
    clear hs
    obtain ⟨rfl, hs⟩ := hq9
    have hq9 := q2i__s hs
    clear hs
    obtain ⟨x, y, r, rfl, hs⟩ := hq9
    simp only [Option.some.injEq, Sum.inl.injEq, Prod.mk.injEq] at hs
    obtain ⟨rfl, rfl, rfl, rfl⟩ := hs
    exact e_ior hd K
  case ishl =>
    simp only [st_] at hs
    have hq9 := gd_s hs
    clear hs
    obtain ⟨rfl, hs⟩ := hq9
    have hq9 := q2i__s hs
    clear hs
    obtain ⟨x, y, r, rfl, hs⟩ := hq9
    simp only [Option.some.injEq, Sum.inl.injEq, Prod.mk.injEq] at hs
    obtain ⟨rfl, rfl, rfl, rfl⟩ := hs
    exact e_ishl hd K
  case ishr =>
    simp only [st_] at hs
    have hq9 := gd_s hs
    clear hs
    obtain ⟨rfl, hs⟩ := hq9
    have hq9 := q2i__s hs
    clear hs
    obtain ⟨x, y, r, rfl, hs⟩ := hq9
    simp only [Option.some.injEq, Sum.inl.injEq, Prod.mk.injEq] at hs
    obtain ⟨rfl, rfl, rfl, rfl⟩ := hs
    exact e_ishr hd K
  case idiv =>
    simp only [st_] at hs
    have hq9 := gd_s hs
    clear hs
    obtain ⟨rfl, hs⟩ := hq9
    have hq9 := q2i__s hs
    clear hs
    obtain ⟨x, y, r, rfl, hs⟩ := hq9
    have hq9 := gd_s hs
    clear hs
    obtain ⟨hy, hs⟩ := hq9
    simp only [Option.some.injEq, Sum.inl.injEq, Prod.mk.injEq] at hs
    obtain ⟨rfl, rfl, rfl, rfl⟩ := hs
    exact e_idiv hd hy K
  case irem =>
    simp only [st_] at hs
    have hq9 := gd_s hs
    clear hs
    obtain ⟨rfl, hs⟩ := hq9
    have hq9 := q2i__s hs
    clear hs
    obtain ⟨x, y, r, rfl, hs⟩ := hq9
    have hq9 := gd_s hs
    clear hs
    obtain ⟨hy, hs⟩ := hq9
    simp only [Option.some.injEq, Sum.inl.injEq, Prod.mk.injEq] at hs
    obtain ⟨rfl, rfl, rfl, rfl⟩ := hs
    exact e_irem hd hy K
  case ladd =>
    simp only [st_] at hs
    have hq9 := gd_s hs
    clear hs
    obtain ⟨rfl, hs⟩ := hq9
    have hq9 := q2l__s hs
    clear hs
    obtain ⟨x, y, r, rfl, hs⟩ := hq9
    simp only [Option.some.injEq, Sum.inl.injEq, Prod.mk.injEq] at hs
    obtain ⟨rfl, rfl, rfl, rfl⟩ := hs
    exact e_ladd hd K
  case lsub =>
    simp only [st_] at hs
    have hq9 := gd_s hs
    clear hs
    obtain ⟨rfl, hs⟩ := hq9
    have hq9 := q2l__s hs
    clear hs
    obtain ⟨x, y, r, rfl, hs⟩ := hq9
    simp only [Option.some.injEq, Sum.inl.injEq, Prod.mk.injEq] at hs
    obtain ⟨rfl, rfl, rfl, rfl⟩ := hs
    exact e_lsub hd K
  case lmul =>
    simp only [st_] at hs
    have hq9 := gd_s hs
    clear hs
    obtain ⟨rfl, hs⟩ := hq9
    have hq9 := q2l__s hs
    clear hs
    obtain ⟨x, y, r, rfl, hs⟩ := hq9
    simp only [Option.some.injEq, Sum.inl.injEq, Prod.mk.injEq] at hs
    obtain ⟨rfl, rfl, rfl, rfl⟩ := hs
    exact e_lmul hd K
  case land =>
    simp only [st_] at hs
    have hq9 := gd_s hs
    clear hs
    obtain ⟨rfl, hs⟩ := hq9
    have hq9 := q2l__s hs
    clear hs
    obtain ⟨x, y, r, rfl, hs⟩ := hq9
    simp only [Option.some.injEq, Sum.inl.injEq, Prod.mk.injEq] at hs
    obtain ⟨rfl, rfl, rfl, rfl⟩ := hs
    exact e_land hd K
  case lor =>
    simp only [st_] at hs
    have hq9 := gd_s hs
    clear hs
    obtain ⟨rfl, hs⟩ := hq9
    have hq9 := q2l__s hs
    clear hs
    obtain ⟨x, y, r, rfl, hs⟩ := hq9
    simp only [Option.some.injEq, Sum.inl.injEq, Prod.mk.injEq] at hs
    obtain ⟨rfl, rfl, rfl, rfl⟩ := hs
    exact e_lor hd K
  case lcmp =>
    simp only [st_] at hs
    have hq9 := gd_s hs
    clear hs
    obtain ⟨rfl, hs⟩ := hq9
    have hq9 := q2l__s hs
    clear hs
    obtain ⟨x, y, r, rfl, hs⟩ := hq9
    simp only [Option.some.injEq, Sum.inl.injEq, Prod.mk.injEq] at hs
    obtain ⟨rfl, rfl, rfl, rfl⟩ := hs
    exact e_lcmp hd K
  case ldiv =>
    simp only [st_] at hs
    have hq9 := gd_s hs
    clear hs
    obtain ⟨rfl, hs⟩ := hq9
    have hq9 := q2l__s hs
    clear hs
    obtain ⟨x, y, r, rfl, hs⟩ := hq9
    have hq9 := gd_s hs
    clear hs
    obtain ⟨hy, hs⟩ := hq9
    simp only [Option.some.injEq, Sum.inl.injEq, Prod.mk.injEq] at hs
    obtain ⟨rfl, rfl, rfl, rfl⟩ := hs
    exact e_ldiv hd hy K
  case lrem =>
    simp only [st_] at hs
    have hq9 := gd_s hs
    clear hs
    obtain ⟨rfl, hs⟩ := hq9
    have hq9 := q2l__s hs
    clear hs
    obtain ⟨x, y, r, rfl, hs⟩ := hq9
    have hq9 := gd_s hs
    clear hs
    obtain ⟨hy, hs⟩ := hq9
    simp only [Option.some.injEq, Sum.inl.injEq, Prod.mk.injEq] at hs
    obtain ⟨rfl, rfl, rfl, rfl⟩ := hs
    exact e_lrem hd hy K
  case ineg =>
    simp only [st_] at hs
    have hq9 := gd_s hs
    clear hs
    obtain ⟨rfl, hs⟩ := hq9
    have hq9 := q1i__s hs
    clear hs
    obtain ⟨x, r, rfl, hs⟩ := hq9
    simp only [Option.some.injEq, Sum.inl.injEq, Prod.mk.injEq] at hs
    obtain ⟨rfl, rfl, rfl, rfl⟩ := hs
    exact e_ineg hd K
  case i2l =>
    simp only [st_] at hs
    have hq9 := gd_s hs
    clear hs
    obtain ⟨rfl, hs⟩ := hq9
    have hq9 := q1i__s hs
    clear hs
    obtain ⟨x, r, rfl, hs⟩ := hq9
    simp only [Option.some.injEq, Sum.inl.injEq, Prod.mk.injEq] at hs
    obtain ⟨rfl, rfl, rfl, rfl⟩ := hs
    exact e_i2l hd K
  case i2b =>
    simp only [st_] at hs
    have hq9 := gd_s hs
    clear hs
    obtain ⟨rfl, hs⟩ := hq9
    have hq9 := q1i__s hs
    clear hs
    obtain ⟨x, r, rfl, hs⟩ := hq9
    simp only [Option.some.injEq, Sum.inl.injEq, Prod.mk.injEq] at hs
    obtain ⟨rfl, rfl, rfl, rfl⟩ := hs
    exact e_i2b hd K
  case lneg =>
    simp only [st_] at hs
    have hq9 := gd_s hs
    clear hs
    obtain ⟨rfl, hs⟩ := hq9
    have hq9 := q1l__s hs
    clear hs
    obtain ⟨x, r, rfl, hs⟩ := hq9
    simp only [Option.some.injEq, Sum.inl.injEq, Prod.mk.injEq] at hs
    obtain ⟨rfl, rfl, rfl, rfl⟩ := hs
    exact e_lneg hd K
  case l2i =>
    simp only [st_] at hs
    have hq9 := gd_s hs
    clear hs
    obtain ⟨rfl, hs⟩ := hq9
    have hq9 := q1l__s hs
    clear hs
    obtain ⟨x, r, rfl, hs⟩ := hq9
    simp only [Option.some.injEq, Sum.inl.injEq, Prod.mk.injEq] at hs
    obtain ⟨rfl, rfl, rfl, rfl⟩ := hs
    exact e_l2i hd K
  case lshl =>
    simp only [st_] at hs
    have hq9 := gd_s hs
    clear hs
    obtain ⟨rfl, hs⟩ := hq9
    have hq9 := qil__s hs
    clear hs
    obtain ⟨x, y, r, rfl, hs⟩ := hq9
    simp only [Option.some.injEq, Sum.inl.injEq, Prod.mk.injEq] at hs
    obtain ⟨rfl, rfl, rfl, rfl⟩ := hs
    exact e_lshl hd K
  case lshr =>
    simp only [st_] at hs
    have hq9 := gd_s hs
    clear hs
    obtain ⟨rfl, hs⟩ := hq9
    have hq9 := qil__s hs
    clear hs
    obtain ⟨x, y, r, rfl, hs⟩ := hq9
    simp only [Option.some.injEq, Sum.inl.injEq, Prod.mk.injEq] at hs
    obtain ⟨rfl, rfl, rfl, rfl⟩ := hs
    exact e_lshr hd K
  case lushr =>
    simp only [st_] at hs
    have hq9 := gd_s hs
    clear hs
    obtain ⟨rfl, hs⟩ := hq9
    have hq9 := qil__s hs
    clear hs
    obtain ⟨x, y, r, rfl, hs⟩ := hq9
    simp only [Option.some.injEq, Sum.inl.injEq, Prod.mk.injEq] at hs
    obtain ⟨rfl, rfl, rfl, rfl⟩ := hs
    exact e_lushr hd K
  case dup =>
    simp only [st_] at hs
    have hq9 := gd_s hs
    clear hs
    obtain ⟨rfl, hs⟩ := hq9
    have hq9 := q1v__s hs
    clear hs
    obtain ⟨v, r, rfl, hs⟩ := hq9
    have hq9 := gd_s hs
    clear hs
    obtain ⟨hv, hs⟩ := hq9
    simp only [Option.some.injEq, Sum.inl.injEq, Prod.mk.injEq] at hs
    obtain ⟨rfl, rfl, rfl, rfl⟩ := hs
    exact e_dup hd hv K
  case pop =>
    simp only [st_] at hs
    have hq9 := gd_s hs
    clear hs
    obtain ⟨rfl, hs⟩ := hq9
    have hq9 := q1v__s hs
    clear hs
    obtain ⟨v, r, rfl, hs⟩ := hq9
    have hq9 := gd_s hs
    clear hs
    obtain ⟨hv, hs⟩ := hq9
    simp only [Option.some.injEq, Sum.inl.injEq, Prod.mk.injEq] at hs
    obtain ⟨rfl, rfl, rfl, rfl⟩ := hs
    exact e_pop hd hv K
  case dup_x1 =>
    simp only [st_] at hs
    have hq9 := gd_s hs
    clear hs
    obtain ⟨rfl, hs⟩ := hq9
    have hq9 := q2v__s hs
    clear hs
    obtain ⟨v, u, r, rfl, hs⟩ := hq9
    have hq9 := gd_s hs
    clear hs
    obtain ⟨⟨hv, hu⟩, hs⟩ := hq9
    simp only [Option.some.injEq, Sum.inl.injEq, Prod.mk.injEq] at hs
    obtain ⟨rfl, rfl, rfl, rfl⟩ := hs
    exact e_dup_x1 hd hu hv K
  case dup2 =>
    simp only [st_] at hs
    have hq9 := gd_s hs
    clear hs
    obtain ⟨rfl, hs⟩ := hq9
    have hq9 := q2v__s hs
    clear hs
    obtain ⟨v, u, r, rfl, hs⟩ := hq9
    have hq9 := gd_s hs
    clear hs
    obtain ⟨⟨hv, hu⟩, hs⟩ := hq9
    simp only [Option.some.injEq, Sum.inl.injEq, Prod.mk.injEq] at hs
    obtain ⟨rfl, rfl, rfl, rfl⟩ := hs
    exact e_dup2 hd hu hv K
  case goto o =>
    simp only [st_] at hs
    have hq := gd_s hs
    clear hs
    obtain ⟨⟨hn0, ho⟩, hs⟩ := hq
    subst hn0
    simp only [Option.some.injEq, Sum.inl.injEq, Prod.mk.injEq] at hs
    obtain ⟨rfl, rfl, rfl, rfl⟩ := hs
    exact e_goto hd ho K
  case ifCond c o =>
    simp only [st_] at hs
    have hq := gd_s hs
    clear hs
    obtain ⟨⟨hn0, ho⟩, hs⟩ := hq
    subst hn0
    have hq9 := q1i__s hs
    clear hs
    obtain ⟨x, r, rfl, hs⟩ := hq9
    simp only [Option.some.injEq, Sum.inl.injEq, Prod.mk.injEq] at hs
    obtain ⟨rfl, rfl, rfl, rfl⟩ := hs
    exact e_if hd ho K
  case if_icmp c o =>
    simp only [st_] at hs
    have hq := gd_s hs
    clear hs
    obtain ⟨⟨hn0, ho⟩, hs⟩ := hq
    subst hn0
    have hq9 := q2i__s hs
    clear hs
    obtain ⟨x, y, r, rfl, hs⟩ := hq9
    simp only [Option.some.injEq, Sum.inl.injEq, Prod.mk.injEq] at hs
    obtain ⟨rfl, rfl, rfl, rfl⟩ := hs
    exact e_icmp hd ho K
  case if_acmp c o =>
    simp only [st_] at hs
    have hq := gd_s hs
    clear hs
    obtain ⟨⟨hn0, ho⟩, hs⟩ := hq
    subst hn0
    have hq9 := q2r__s hs
    clear hs
    obtain ⟨x, y, r, rfl, hs⟩ := hq9
    cases c
    · simp only at hs
      simp only [Option.some.injEq, Sum.inl.injEq, Prod.mk.injEq] at hs
      obtain ⟨rfl, rfl, rfl, rfl⟩ := hs
      exact e_acmp hd ho K
    · simp only at hs
      simp only [Option.some.injEq, Sum.inl.injEq, Prod.mk.injEq] at hs
      obtain ⟨rfl, rfl, rfl, rfl⟩ := hs
      exact e_acmpN hd ho K
  case tableswitch d lo hi os =>
    simp only [st_] at hs
    have hq9 := q1i__s hs
    clear hs
    obtain ⟨x, r, rfl, hs⟩ := hq9
    split at hs
    · rename_i hx
      have hq9 := gd_s hs
      clear hs
      obtain ⟨ho, hs⟩ := hq9
      simp only [Option.some.injEq, Sum.inl.injEq, Prod.mk.injEq] at hs
      obtain ⟨rfl, rfl, rfl, rfl⟩ := hs
      exact e_tabO hd hx ho K
    · rename_i hx
      have hq9 := bd_s hs
      clear hs
      obtain ⟨o, hq, hs⟩ := hq9
      have hq9 := gd_s hs
      clear hs
      obtain ⟨ho, hs⟩ := hq9
      simp only [Option.some.injEq, Sum.inl.injEq, Prod.mk.injEq] at hs
      obtain ⟨rfl, rfl, rfl, rfl⟩ := hs
      exact e_tabI hd hx hq ho K
  case lookupswitch d ps =>
    simp only [st_] at hs
    have hq9 := gd_s hs
    clear hs
    obtain ⟨hp, hs⟩ := hq9
    have hq9 := q1i__s hs
    clear hs
    obtain ⟨x, r, rfl, hs⟩ := hq9
    have hq9 := gd_s hs
    clear hs
    obtain ⟨ho, hs⟩ := hq9
    simp only [Option.some.injEq, Sum.inl.injEq, Prod.mk.injEq] at hs
    obtain ⟨rfl, rfl, rfl, rfl⟩ := hs
    exact e_look hd hp ho K
  case getfield x =>
    simp only [st_] at hs
    have hq9 := gd_s hs
    clear hs
    obtain ⟨rfl, hs⟩ := hq9
    have hq9 := bd_s hs
    clear hs
    obtain ⟨⟨t, j, g⟩, hf, hs⟩ := hq9
    have hq9 := q1r__s hs
    clear hs
    obtain ⟨a, r, rfl, hs⟩ := hq9
    have hq9 := gd_s hs
    clear hs
    obtain ⟨ha, hs⟩ := hq9
    simp only at ha hs
    split at hs
    · rename_i hg
      simp only [Option.some.injEq, Sum.inl.injEq, Prod.mk.injEq] at hs
      obtain ⟨rfl, rfl, rfl, rfl⟩ := hs
      exact e_getI hd hf hg ha K
    · rename_i hg
      split at hs
      · rename_i hg2
        subst hg2
        simp only [Option.some.injEq, Sum.inl.injEq, Prod.mk.injEq] at hs
        obtain ⟨rfl, rfl, rfl, rfl⟩ := hs
        exact e_getJ hd hf ha K
      · rename_i hg2
        have hq9 := bd_s hs
        clear hs
        obtain ⟨b, hb, hs⟩ := hq9
        simp only [Option.some.injEq, Sum.inl.injEq, Prod.mk.injEq] at hs
        obtain ⟨rfl, rfl, rfl, rfl⟩ := hs
        exact e_getP hd hf hg hg2 ha hb K
  case putfield x =>
    simp only [st_] at hs
    have hq9 := gd_s hs
    clear hs
    obtain ⟨rfl, hs⟩ := hq9
    have hq9 := bd_s hs
    clear hs
    obtain ⟨⟨t, j, g⟩, hf, hs⟩ := hq9
    have hq9 := gd_s hs
    clear hs
    obtain ⟨hp, hs⟩ := hq9
    simp only at hp hs
    split at hs
    · rename_i hg
      have hq9 := qir__s hs
      clear hs
      obtain ⟨a, v, r, rfl, hs⟩ := hq9
      have hq9 := gd_s hs
      clear hs
      obtain ⟨ha, hs⟩ := hq9
      simp only [Option.some.injEq, Sum.inl.injEq, Prod.mk.injEq] at hs
      obtain ⟨rfl, rfl, rfl, rfl⟩ := hs
      exact e_putI hd hf (Or.inl hg) hp ha K
    · rename_i hg
      split at hs
      · rename_i hg2
        have hq9 := qir__s hs
        clear hs
        obtain ⟨a, v, r, rfl, hs⟩ := hq9
        have hq9 := gd_s hs
        clear hs
        obtain ⟨⟨ha, hv⟩, hs⟩ := hq9
        simp only [Option.some.injEq, Sum.inl.injEq, Prod.mk.injEq] at hs
        obtain ⟨rfl, rfl, rfl, rfl⟩ := hs
        exact e_putI hd hf (Or.inr ⟨hg2, hv⟩) hp ha K
      · rename_i hg2
        split at hs
        · rename_i hg3
          subst hg3
          have hq9 := qlr__s hs
          clear hs
          obtain ⟨a, v, r, rfl, hs⟩ := hq9
          have hq9 := gd_s hs
          clear hs
          obtain ⟨ha, hs⟩ := hq9
          simp only [Option.some.injEq, Sum.inl.injEq, Prod.mk.injEq] at hs
          obtain ⟨rfl, rfl, rfl, rfl⟩ := hs
          exact e_putJ hd hf hp ha K
        · rename_i hg3
          have hq9 := q2r__s hs
          clear hs
          obtain ⟨a, v, r, rfl, hs⟩ := hq9
          have hq9 := gd_s hs
          clear hs
          obtain ⟨ha, hs⟩ := hq9
          simp only [Option.some.injEq, Sum.inl.injEq, Prod.mk.injEq] at hs
          obtain ⟨rfl, rfl, rfl, rfl⟩ := hs
          exact e_putP hd hf ⟨hg, hg2, hg3⟩ hp ha K
  case getstatic x =>
    simp only [st_] at hs
    have hq := gd_s hs
    clear hs
    obtain ⟨⟨hn0, hk, hx0⟩, hs⟩ := hq
    subst hn0
    subst hx0
    simp only [Option.some.injEq, Sum.inl.injEq, Prod.mk.injEq] at hs
    obtain ⟨rfl, rfl, rfl, rfl⟩ := hs
    exact e_gets hd hk K
  case arraylength =>
    simp only [st_] at hs
    have hq9 := gd_s hs
    clear hs
    obtain ⟨rfl, hs⟩ := hq9
    have hq9 := q1r__s hs
    clear hs
    obtain ⟨a, r, rfl, hs⟩ := hq9
    have hq9 := gd_s hs
    clear hs
    obtain ⟨ha, hs⟩ := hq9
    simp only [Option.some.injEq, Sum.inl.injEq, Prod.mk.injEq] at hs
    obtain ⟨rfl, rfl, rfl, rfl⟩ := hs
    exact e_len hd ha K
  case iaload =>
    simp only [st_] at hs
    have hq9 := gd_s hs
    clear hs
    obtain ⟨rfl, hs⟩ := hq9
    have hq9 := qir__s hs
    clear hs
    obtain ⟨a, i, r, rfl, hs⟩ := hq9
    have hq9 := vp_s hs
    clear hs
    obtain ⟨hi, hs⟩ := hq9
    have hq9 := gd_s hs
    clear hs
    obtain ⟨ha, hs⟩ := hq9
    simp only [Option.some.injEq, Sum.inl.injEq, Prod.mk.injEq] at hs
    obtain ⟨rfl, rfl, rfl, rfl⟩ := hs
    exact e_iald hd hi ha K
  case baload =>
    simp only [st_] at hs
    have hq9 := gd_s hs
    clear hs
    obtain ⟨rfl, hs⟩ := hq9
    have hq9 := qir__s hs
    clear hs
    obtain ⟨a, i, r, rfl, hs⟩ := hq9
    have hq9 := vp_s hs
    clear hs
    obtain ⟨hi, hs⟩ := hq9
    have hq9 := gd_s hs
    clear hs
    obtain ⟨ha, hs⟩ := hq9
    simp only [Option.some.injEq, Sum.inl.injEq, Prod.mk.injEq] at hs
    obtain ⟨rfl, rfl, rfl, rfl⟩ := hs
    exact e_bald hd hi ha K
  case laload =>
    simp only [st_] at hs
    have hq9 := gd_s hs
    clear hs
    obtain ⟨rfl, hs⟩ := hq9
    have hq9 := qir__s hs
    clear hs
    obtain ⟨a, i, r, rfl, hs⟩ := hq9
    have hq9 := vp_s hs
    clear hs
    obtain ⟨hi, hs⟩ := hq9
    have hq9 := gd_s hs
    clear hs
    obtain ⟨ha, hs⟩ := hq9
    simp only [Option.some.injEq, Sum.inl.injEq, Prod.mk.injEq] at hs
    obtain ⟨rfl, rfl, rfl, rfl⟩ := hs
    exact e_lald hd hi ha K
  case aaload =>
    simp only [st_] at hs
    have hq9 := gd_s hs
    clear hs
    obtain ⟨rfl, hs⟩ := hq9
    have hq9 := qir__s hs
    clear hs
    obtain ⟨a, i, r, rfl, hs⟩ := hq9
    have hq9 := vp_s hs
    clear hs
    obtain ⟨hi, hs⟩ := hq9
    have hq9 := gd_s hs
    clear hs
    obtain ⟨ha, hs⟩ := hq9
    have hq9 := bd_s hs
    clear hs
    obtain ⟨b, hb, hs⟩ := hq9
    simp only [Option.some.injEq, Sum.inl.injEq, Prod.mk.injEq] at hs
    obtain ⟨rfl, rfl, rfl, rfl⟩ := hs
    exact e_aald hd hi ha hb K
  case iastore =>
    simp only [st_] at hs
    have hq9 := gd_s hs
    clear hs
    obtain ⟨rfl, hs⟩ := hq9
    have hq9 := qiir__s hs
    clear hs
    obtain ⟨a, i, x, r, rfl, hs⟩ := hq9
    have hq9 := vp_s hs
    clear hs
    obtain ⟨hi, hs⟩ := hq9
    have hq9 := gd_s hs
    clear hs
    obtain ⟨ha, hs⟩ := hq9
    simp only [Option.some.injEq, Sum.inl.injEq, Prod.mk.injEq] at hs
    obtain ⟨rfl, rfl, rfl, rfl⟩ := hs
    exact e_iast hd hi ha K
  case bastore =>
    simp only [st_] at hs
    have hq9 := gd_s hs
    clear hs
    obtain ⟨rfl, hs⟩ := hq9
    have hq9 := qiir__s hs
    clear hs
    obtain ⟨a, i, x, r, rfl, hs⟩ := hq9
    have hq9 := vp_s hs
    clear hs
    obtain ⟨hi, hs⟩ := hq9
    split at hs
    · rename_i ha
      simp only [Option.some.injEq, Sum.inl.injEq, Prod.mk.injEq] at hs
      obtain ⟨rfl, rfl, rfl, rfl⟩ := hs
      exact e_bast hd hi ha K
    · have hq9 := gd_s hs
      clear hs
      obtain ⟨⟨ha, hx⟩, hs⟩ := hq9
      simp only [Option.some.injEq, Sum.inl.injEq, Prod.mk.injEq] at hs
      obtain ⟨rfl, rfl, rfl, rfl⟩ := hs
      exact e_zast hd hi ha hx K
  case lastore =>
    simp only [st_] at hs
    have hq9 := gd_s hs
    clear hs
    obtain ⟨rfl, hs⟩ := hq9
    have hq9 := qlir__s hs
    clear hs
    obtain ⟨a, i, x, r, rfl, hs⟩ := hq9
    have hq9 := vp_s hs
    clear hs
    obtain ⟨hi, hs⟩ := hq9
    have hq9 := gd_s hs
    clear hs
    obtain ⟨ha, hs⟩ := hq9
    simp only [Option.some.injEq, Sum.inl.injEq, Prod.mk.injEq] at hs
    obtain ⟨rfl, rfl, rfl, rfl⟩ := hs
    exact e_last hd hi ha K
  case aastore =>
    simp only [st_] at hs
    have hq9 := gd_s hs
    clear hs
    obtain ⟨rfl, hs⟩ := hq9
    unfold qrir_ at hs
    split at hs
    · have hq9 := vp_s hs
      clear hs
      obtain ⟨hi, hs⟩ := hq9
      have hq9 := gd_s hs
      clear hs
      obtain ⟨ha, hs⟩ := hq9
      simp only [Option.some.injEq, Sum.inl.injEq, Prod.mk.injEq] at hs
      obtain ⟨rfl, rfl, rfl, rfl⟩ := hs
      exact e_aast hd hi ha K
    · have hq9 := vp_s hs
      clear hs
      obtain ⟨hi, hs⟩ := hq9
      have hq9 := gd_s hs
      clear hs
      obtain ⟨ha, hs⟩ := hq9
      simp only [Option.some.injEq, Sum.inl.injEq, Prod.mk.injEq] at hs
      obtain ⟨rfl, rfl, rfl, rfl⟩ := hs
      exact e_aastN hd hi ha K
    · cases hs
  case new x =>
    simp only [st_] at hs
    have hq9 := gd_s hs
    clear hs
    obtain ⟨rfl, hs⟩ := hq9
    have hq9 := bd_s hs
    clear hs
    obtain ⟨t, hx, hs⟩ := hq9
    have hq9 := gd_s hs
    clear hs
    obtain ⟨⟨t1, t2, hr, hn⟩, hs⟩ := hq9
    simp only [Option.some.injEq, Sum.inl.injEq, Prod.mk.injEq] at hs
    obtain ⟨rfl, rfl, rfl, rfl⟩ := hs
    exact e_new hd hx t1 t2 hr hn K
  case newarray t =>
    simp only [st_] at hs
    have hq := gd_s hs
    clear hs
    obtain ⟨⟨hn0, ht⟩, hs⟩ := hq
    subst hn0
    have hq9 := q1i__s hs
    clear hs
    obtain ⟨x, r, rfl, hs⟩ := hq9
    have hq9 := gd_s hs
    clear hs
    obtain ⟨⟨hx, hb, hr, hn⟩, hs⟩ := hq9
    simp only [Option.some.injEq, Sum.inl.injEq, Prod.mk.injEq] at hs
    obtain ⟨rfl, rfl, rfl, rfl⟩ := hs
    exact e_newa hd ht hx hb hr hn K
  case anewarray y =>
    simp only [st_] at hs
    have hq9 := gd_s hs
    clear hs
    obtain ⟨rfl, hs⟩ := hq9
    have hq9 := bd_s hs
    clear hs
    obtain ⟨t, hy, hs⟩ := hq9
    have hq9 := gd_s hs
    clear hs
    obtain ⟨⟨t1, t2⟩, hs⟩ := hq9
    have hq9 := q1i__s hs
    clear hs
    obtain ⟨x, r, rfl, hs⟩ := hq9
    have hq9 := gd_s hs
    clear hs
    obtain ⟨⟨hx, hb, hr, hn⟩, hs⟩ := hq9
    simp only [Option.some.injEq, Sum.inl.injEq, Prod.mk.injEq] at hs
    obtain ⟨rfl, rfl, rfl, rfl⟩ := hs
    exact e_anew hd hy t1 t2 hx hb hr hn K
  case checkcast x =>
    simp only [st_] at hs
    have hq9 := gd_s hs
    clear hs
    obtain ⟨rfl, hs⟩ := hq9
    have hq9 := bd_s hs
    clear hs
    obtain ⟨t, hx, hs⟩ := hq9
    have hq9 := gd_s hs
    clear hs
    obtain ⟨⟨t1, t2⟩, hs⟩ := hq9
    have hq9 := q1r__s hs
    clear hs
    obtain ⟨a, r, rfl, hs⟩ := hq9
    have hq9 := gd_s hs
    clear hs
    obtain ⟨ha, hs⟩ := hq9
    simp only [Option.some.injEq, Sum.inl.injEq, Prod.mk.injEq] at hs
    obtain ⟨rfl, rfl, rfl, rfl⟩ := hs
    exact e_cast hd hx t1 t2 ha K
  case invokespecial x =>
    simp only [st_] at hs
    have hq := gd_s hs
    clear hs
    obtain ⟨⟨hn0, hx⟩, hs⟩ := hq
    subst hn0
    have hq9 := q1r__s hs
    clear hs
    obtain ⟨a, r, rfl, hs⟩ := hq9
    have hq9 := gd_s hs
    clear hs
    obtain ⟨hr, hs⟩ := hq9
    simp only [Option.some.injEq, Sum.inl.injEq, Prod.mk.injEq] at hs
    obtain ⟨rfl, rfl, rfl, rfl⟩ := hs
    exact e_obj hd hx hr K
  case invokevirtual x =>
    simp only [st_] at hs
    have hq := gd_s hs
    clear hs
    obtain ⟨⟨hn0, hx⟩, hs⟩ := hq
    subst hn0
    have hq9 := q1r__s hs
    clear hs
    obtain ⟨a, r, rfl, hs⟩ := hq9
    have hq9 := gd_s hs
    clear hs
    obtain ⟨⟨ha, hr⟩, hs⟩ := hq9
    simp only [Option.some.injEq, Sum.inl.injEq, Prod.mk.injEq] at hs
    obtain ⟨rfl, rfl, rfl, rfl⟩ := hs
    exact e_getC hd hx ha hr K
  case invokestatic x =>
    simp only [st_] at hs
    have hq9 := gd_s hs
    clear hs
    obtain ⟨rfl, hs⟩ := hq9
    have hq9 := bd_s hs
    clear hs
    obtain ⟨⟨m, cq⟩, hx, hs⟩ := hq9
    simp only at hs
    split at hs
    · rename_i hm
      subst hm
      split at hs
      · have hq9 := gd_s hs
        clear hs
        obtain ⟨⟨hr, hsp, hdp, hn, h4, h5⟩, hs⟩ := hq9
        split at hs
        · rename_i hk
          simp only [Option.some.injEq, Sum.inl.injEq, Prod.mk.injEq] at hs
          obtain ⟨rfl, rfl, rfl, rfl⟩ := hs
          exact e_acpI hd hx hr hsp hdp hn h4 h5 hk.1 hk.2 K
        · have hq9 := gd_s hs
          clear hs
          obtain ⟨⟨hk1, hk2, hel⟩, hs⟩ := hq9
          simp only [Option.some.injEq, Sum.inl.injEq, Prod.mk.injEq] at hs
          obtain ⟨rfl, rfl, rfl, rfl⟩ := hs
          exact e_acpP hd hx hr hsp hdp hn h4 h5 hk1 hk2 (fun i y hi hy => by have z := hel i hi; rw [hy] at z; exact of_decide_eq_true z) K
      · cases hs
    · cases hs
  case ireturn =>
    simp only [st_] at hs
    have hq9 := gd_s hs
    clear hs
    obtain ⟨rfl, hs⟩ := hq9
    split at hs
    · split at hs
      · cases hs
      · have hq9 := gd_s hs
        clear hs
        obtain ⟨-, hs⟩ := hq9
        cases hs
    · cases hs
  case lreturn =>
    simp only [st_] at hs
    have hq9 := gd_s hs
    clear hs
    obtain ⟨-, hs⟩ := hq9
    split at hs <;> cases hs
  case areturn =>
    simp only [st_] at hs
    have hq9 := gd_s hs
    clear hs
    obtain ⟨-, hs⟩ := hq9
    split at hs
    · split at hs <;> cases hs
    · cases hs
  case return_ =>
    simp only [st_] at hs
    have hq9 := gd_s hs
    clear hs
    obtain ⟨-, hs⟩ := hq9
    cases hs
  all_goals (simp only [st_, reduceCtorEq] at hs)
theorem ev_ret {i : Instr} {n : Nat} {v : Value} (hd : decode (mc_ k) pc = .ok (i, n)) (hs : st_ k i n pc L st h = some (.inr v)) (hQ : Q (.inl v) h) : Ev_ k pc L st h Q := by
  cases i
  case ireturn =>
    simp only [st_] at hs
    have hq9 := gd_s hs
    clear hs
    obtain ⟨rfl, hs⟩ := hq9
    split at hs
    · split at hs
      · rename_i hr
        cases hs
        exact e_iret hd (Or.inl hr) hQ
      · have hq9 := gd_s hs
        clear hs
        obtain ⟨hr, hs⟩ := hq9
        cases hs
        exact e_iret hd (Or.inr hr) hQ
    · cases hs
  case lreturn =>
    simp only [st_] at hs
    have hq := gd_s hs
    clear hs
    obtain ⟨⟨hn0, hr⟩, hs⟩ := hq
    subst hn0
    split at hs
    · cases hs
      exact e_lret hd hr hQ
    · cases hs
  case areturn =>
    simp only [st_] at hs
    have hq9 := gd_s hs
    clear hs
    obtain ⟨rfl, hs⟩ := hq9
    split at hs
    · split at hs
      · rename_i hr
        cases hs
        exact e_aret hd (Or.inl ⟨_, hr⟩) hQ
      · rename_i hr
        cases hs
        exact e_aret hd (Or.inr ⟨_, hr⟩) hQ
      · cases hs
    · cases hs
  case return_ =>
    simp only [st_] at hs
    have hq := gd_s hs
    clear hs
    obtain ⟨⟨hn0, hr, hst⟩, hs⟩ := hq
    subst hn0
    subst hst
    cases hs
    exact e_vret hd hr hQ
  all_goals (simp only [st_, gd_, q1i_, q2i_, q1l_, q2l_, qil_, q1r_, q2r_, qir_, qlr_, qiir_, qlir_, qrir_, q1v_, q2v_, vI_, vJ_, vR_, Option.bind, reduceCtorEq] at hs)
  all_goals (repeat' (first | (cases hs; done) | split at hs | (dsimp only at hs)))
theorem ev_th {i : Instr} {n : Nat} {h' : MH_} (hd : decode (mc_ k) pc = .ok (i, n)) (ht : th_ k i n pc st h = some h') (hQ : Q (.inr (nx_ h)) h') : Ev_ k pc L st h Q := by
  cases i
  case new x =>
    simp only [th_] at ht
    have hq := gd_s ht
    clear ht
    obtain ⟨⟨hn0, hm, hr⟩, ht⟩ := hq
    subst hn0
    have hq9 := bd_s ht
    clear ht
    obtain ⟨t, hl, ht⟩ := hq9
    have hq9 := gd_s ht
    clear ht
    obtain ⟨⟨t1, t2, hrc, hrs⟩, ht⟩ := hq9
    split at ht
    · rename_i ic d3 d4 d7
      have hq9 := gd_s ht
      clear ht
      obtain ⟨hic, ht⟩ := hq9
      cases ht
      exact e_throw hl hic t1 t2 hm hr hrc hrs hd d3 d4 d7 hQ
    · cases ht
  all_goals (simp only [th_, reduceCtorEq] at ht)
theorem ev_closed (k pc : Nat) (L st : List Value) (h : MH_) (Q : Rs_ → MH_ → Prop) (hF : F_ Ev_ k pc L st h Q) : Ev_ k pc L st h Q := by
  unfold F_ at hF
  split at hF
  · rename_i i n hd
    split at hF
    · rename_i pc' L' st' h' hs
      exact ev_step hd hs (fun _ _ => trivial) hF
    · rename_i v hs
      exact ev_ret hd hs hF
    · split at hF
      · rename_i m c as rest hc
        exact e_call hd hc hF
      · split at hF
        · rename_i h' ht
          exact ev_th hd ht hF
        · exact hF.elim
  · exact hF.elim
/-- what the small machine does, the machine does -/
theorem Wp_sound {k pc : Nat} {L st : List Value} {h : MH_} {Q : Rs_ → MH_ → Prop} (hW : Wp k pc L st h Q) : Ev_ k pc L st h Q := hW Ev_ Ev_mono ev_closed
end As
