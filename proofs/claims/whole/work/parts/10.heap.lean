/-! ===== fields, arrays, new cells ===== -/
theorem cl_spec {t : Nat} (h1 : 1 ≤ t) (h2 : t ≤ 14) : ∃ (C : String) (T : u_T) (N : Nat), cl_[t - 1]? = some (C, T, N) ∧ nf_ t = N ∧ kn_ t = C ∧ ow_ (t - 1) = C ∧
    (∀ k, k < N → parseFieldDescriptor (T k).2.2.1 = some (fty_ t k)) ∧ (∀ a, a < N → ∀ b, b < N → a ≠ b → (T a).2.1 ≠ (T b).2.1) := by
  rcases (show t = 1 ∨ t = 2 ∨ t = 3 ∨ t = 4 ∨ t = 5 ∨ t = 6 ∨ t = 7 ∨ t = 8 ∨ t = 9 ∨ t = 10 ∨ t = 11 ∨ t = 12 ∨ t = 13 ∨ t = 14 by omega) with rfl | rfl | rfl | rfl | rfl | rfl | rfl | rfl | rfl | rfl | rfl | rfl | rfl | rfl
  · exact ⟨_, _, _, rfl, rfl, by decide +kernel, by decide +kernel, tyX0_ok, nmX0⟩
  · exact ⟨_, _, _, rfl, rfl, by decide +kernel, by decide +kernel, tyX1_ok, nmX1⟩
  · exact ⟨_, _, _, rfl, rfl, by decide +kernel, by decide +kernel, tyX2_ok, nmX2⟩
  · exact ⟨_, _, _, rfl, rfl, by decide +kernel, by decide +kernel, tyX3_ok, nmX3⟩
  · exact ⟨_, _, _, rfl, rfl, by decide +kernel, by decide +kernel, tyX4_ok, nmX4⟩
  · exact ⟨_, _, _, rfl, rfl, by decide +kernel, by decide +kernel, tyX5_ok, nmX5⟩
  · exact ⟨_, _, _, rfl, rfl, by decide +kernel, by decide +kernel, tyX6_ok, nmX6⟩
  · exact ⟨_, _, _, rfl, rfl, by decide +kernel, by decide +kernel, tyX7_ok, nmX7⟩
  · exact ⟨_, _, _, rfl, rfl, by decide +kernel, by decide +kernel, tyX8_ok, nmX8⟩
  · exact ⟨_, _, _, rfl, rfl, by decide +kernel, by decide +kernel, tyX9_ok, nmX9⟩
  · exact ⟨_, _, _, rfl, rfl, by decide +kernel, by decide +kernel, tyX10_ok, nmX10⟩
  · exact ⟨_, _, _, rfl, rfl, by decide +kernel, by decide +kernel, tyX11_ok, nmX11⟩
  · exact ⟨_, _, _, rfl, rfl, by decide +kernel, by decide +kernel, tyX12_ok, nmX12⟩
  · exact ⟨_, _, _, rfl, rfl, by decide +kernel, by decide +kernel, tyJx4a65c_ok, nmJx4a65c⟩
theorem cl_words {c : Nat} {C : String} {T : u_T} {N : Nat} (h : cl_[c]? = some (C, T, N)) : (∀ w ∈ u_ws C T N, w ∈ wg_) ∧ Cond.instantiable C N ∈ wg_ ∧ Cond.initialized C ∈ wg_ := by
  have h1 := List.all_eq_true.mp cl_ok _ (List.mem_of_getElem? h)
  simp only [Bool.and_eq_true] at h1
  exact ⟨fun w hw => tw_in (List.all_eq_true.mp h1.1.1 w hw), tw_in h1.1.2, tw_in h1.2⟩
theorem fT_spec {o x t j g : Nat} (hl : lk_ fT_ o x = some (t, j, g)) : ∃ (C : String) (T : u_T) (N : Nat), cl_[t - 1]? = some (C, T, N) ∧ 1 ≤ t ∧ t ≤ 14 ∧ j < N ∧ nf_ t = N ∧
    (∃ ref : String, Cond.fieldLink (ow_ o) x ref (T j).2.1 (T j).2.2.1 ∈ wg_ ∧ (ref = (T j).1 ∨ Cond.sameField ref (T j).1 (T j).2.1 (T j).2.2.1 ∈ wg_)) ∧
    ((g = 0 ∧ fty_ t j = .int) ∨ (g = 1 ∧ fty_ t j = .boolean) ∨ (g = 2 ∧ fty_ t j = .long) ∨ (g = 3 ∧ ((∃ z, fty_ t j = .object z) ∨ ∃ z, fty_ t j = .array z))) := by
  have h1 := List.all_eq_true.mp fck_ok _ (lk_mem hl)
  unfold fck_ at h1
  simp only at h1
  cases hc : cl_[t - 1]? with
  | none => rw [hc] at h1; cases h1
  | some q =>
    rw [hc] at h1
    simp only [Bool.and_eq_true, Bool.or_eq_true, decide_eq_true_eq] at h1
    obtain ⟨⟨⟨a1, a2, a3⟩, a4⟩, a5⟩ := h1
    obtain ⟨C, T, N⟩ := q
    refine ⟨C, T, N, rfl, a1, a2, a3, by simp [nf_, hc], ?_, ?_⟩
    · rcases a4 with a4 | ⟨a4, a6⟩
      · exact ⟨_, tw_in a4, Or.inl rfl⟩
      · exact ⟨_, tw_in a4, Or.inr (tw_in a6)⟩
    · cases hf : fty_ t j <;> rw [hf] at a5 <;> simp at a5
      · exact Or.inl ⟨a5, rfl⟩
      · exact Or.inr (Or.inr (Or.inl ⟨a5, rfl⟩))
      · exact Or.inr (Or.inl ⟨a5, rfl⟩)
      · exact Or.inr (Or.inr (Or.inr ⟨a5, Or.inl ⟨_, rfl⟩⟩))
      · exact Or.inr (Or.inr (Or.inr ⟨a5, Or.inr ⟨_, rfl⟩⟩))
section Eh
variable {k pc : Nat} {L r : List Value} {h : MH_} {Q : Rs_ → MH_ → Prop}
theorem fs_same {s : State} {args : Array Value} {ref O n d : String} (hts : ∀ w ∈ wg_, w.before args s = true) (hr : ref = O ∨ Cond.sameField ref O n d ∈ wg_) : ∀ x, s.fieldFound? O n d = some x → s.fieldFound? ref n d = some x := by
  intro x hx
  rcases hr with rfl | hr
  · exact hx
  · exact u_same (hts _ hr) x hx
theorem e_get {x t j g a : Nat} (hd : decode (mc_ k) pc = .ok (.getfield x, 3)) (hf : lk_ fT_ (mo_ k) x = some (t, j, g)) (ha : kd_ h a = t) (K : Ev_ k (pc + 3) L (fv_ t h a j :: r) h Q) : Ev_ k pc L (.ref a :: r) h Q := by
  intro D p l e R s m args below meth c hC hK H locs cells slots ls hH hc hs hl hL
  obtain ⟨C, T, N, hcl, h1, h2, hj, hN, ⟨ref, hlk, hsm⟩, -⟩ := fT_spec hf
  obtain ⟨cell, q1, q2, q3, q4⟩ := hH.obj ha h1 h2
  obtain ⟨hS, hfc, kC, hkC, hkind⟩ := hK.1 (t - 1) _ hcl
  obtain ⟨cf, kf, fi, f, hi, hsl⟩ := hS j hj
  have hts := hC.2.2.2.2.2.2.2.2.1
  refine W.getf hC.1 hC.2.1 hC.2.2.2.2.2.2.2.1 (hts _ hlk) (fs_same hts hsm _ hi) (u_facts hfc hkC (u_lays hts (cl_words hcl).1 hj) hi).1 q1 (by rw [q3]; exact fun h => by cases h) (v := fv_ t h a j) ?_ rfl rfl hd (K D p l e R s m args below meth c hC hK H locs cells slots ls hH hc hs hl hL)
  rw [hsl]
  exact q4 j (by rw [hN]; exact hj)
theorem e_put {x t j g a : Nat} {v : Value} {h1 : MH_} (hd : decode (mc_ k) pc = .ok (.putfield x, 3)) (hf : lk_ fT_ (mo_ k) x = some (t, j, g)) (hp : pok_ k t j = true) (ha : kd_ h a = t) (hn : narrow (fty_ t j) v = v) (hfit : fits (fty_ t j) v = true)
    (e1 : kd_ h1 = kd_ h) (e2 : ln_ h1 = ln_ h) (e3 : nx_ h1 = nx_ h) (e4 : em_ h1 = em_ h ∧ mi_ h1 = mi_ h) (e5 : rc_ h1 = rc_ h) (e6 : rs_ h1 = rs_ h) (o1 : ∀ b i, b ≠ a → gI_ h1 b i = gI_ h b i) (o2 : ∀ b i, b ≠ a → gJ_ h1 b i = gJ_ h b i) (o3 : ∀ b i, b ≠ a → gP_ h1 b i = gP_ h b i)
    (ev : fv_ t h1 a j = v) (eo : ∀ i, i ≠ j → fv_ t h1 a i = fv_ t h a i) (K : Ev_ k (pc + 3) L r h1 Q) : Ev_ k pc L (v :: .ref a :: r) h Q := by
  intro D p l e R s m args below meth c hC hK H locs cells slots ls hH hc hs hl hL
  obtain ⟨C, T, N, hcl, t1, t2, hj, hN, ⟨ref, hlk, hsm⟩, -⟩ := fT_spec hf
  obtain ⟨C', T', N', hcl', -, -, -, hty, hnm⟩ := cl_spec t1 t2
  cases hcl.symm.trans hcl'
  obtain ⟨cell, q1, q2, q3, q4⟩ := hH.obj ha t1 t2
  obtain ⟨hS, hfc, kC, hkC, hkind⟩ := hK.1 (t - 1) _ hcl
  have hts := hC.2.2.2.2.2.2.2.2.1
  have hin := (cl_words hcl).1
  have hap : ∀ x y, x < N → y < N → x ≠ y → dS_ D (t - 1) x ≠ dS_ D (t - 1) y := by
    intro x y hx hy hne
    obtain ⟨_, _, _, fa, hia, ea⟩ := hS x hx
    obtain ⟨_, _, _, fb, hib, eb⟩ := hS y hy
    rw [← ea, ← eb]
    refine u_apart (u_lays hts hin hx) (u_lays hts hin hy) hia hib ?_
    rw [(State.fieldFound?_type hia (hty x hx)).1, (State.fieldFound?_type hib (hty y hy)).1]
    exact hnm x hx y hy hne
  obtain ⟨cf, kf, fi, f, hi, hsl⟩ := hS j hj
  have hst := (u_facts hfc hkC (u_lays hts hin hj) hi).1
  have hlt : f.slot < cell.slots.size := by rw [hsl]; exact k2_hasslot (q4 j (by rw [hN]; exact hj))
  have fin : ∀ H' : Heap, H'[a]? = some (cell.setSlot f.slot v) → H'.size = H.size → (∀ q, q ≠ a → H'[q]? = H[q]?) → W p l e R s m args below meth c H' (locs ++ [⟨a, f.slot⟩]) cells slots (EP_ (mr_ k) D R s below Q) (F0 m (pc + 3) ls r) := by
    intro H' z1 z2 z3
    have hlo := hH.lo (a := a) (by rw [ha]; omega) (by rw [ha]; omega)
    refine K D p l e R s m args below meth c hC hK H' _ cells slots ls (hH.put (by rw [ha]; omega) (by rw [ha]; omega) z2 z3 e1 e2 e3 e4 o1 o2 o3 ?_) (by rw [e5]; exact hc) (by rw [e6]; exact hs) ?_ hL
    · left
      rw [e1, ha]
      refine ⟨t1, t2, hlo, ?_⟩
      rw [hsl] at z1
      refine t_OB.to (V := updV (fv_ t h a) j v) ⟨_, z1, q2, q3, t_set q4 (by rw [hN]; exact hap) (by rw [hN]; exact hj) v⟩ (fun i _ => ?_)
      by_cases hij : i = j
      · subst hij; simp [updV, ev]
      · simp [updV, hij, eo i hij]
    · intro z hz
      rcases List.mem_append.mp hz with hz | hz
      · exact hl z hz
      · rw [List.mem_singleton.mp hz]; exact hlo
  unfold pok_ at hp
  rw [hcl] at hp
  simp only [Bool.and_eq_true, Bool.or_eq_true, Bool.not_eq_true', decide_eq_true_eq, beq_iff_eq] at hp
  have hlay := hts _ (hin _ (u_in_lay hj))
  unfold u_lay at hlay
  by_cases hfin : (T j).2.2.2 = true
  · rw [if_pos hfin] at hlay
    obtain ⟨hin2, hdecl⟩ : (my_ k).name = "<init>" ∧ (T j).1 = ow_ (mo_ k) := by
      rcases hp.2 with z | z
      · rw [hfin] at z; cases z
      · exact z
    have hcf : m.cls = cf := by
      obtain ⟨_, _, c', _, _, _, -, -, hf', -, -, -, hown2, -⟩ := Cond.laysFinal_spec hlay
      have e1 : c' = cf := by have := hi.symm.trans hf'; simp at this; exact this.1.symm
      rw [hdecl] at hown2
      rw [← e1]; exact Option.some.inj (hC.2.2.2.2.2.2.2.1.symm.trans hown2)
    have h6 := u_fits hfc hkC hkind (Or.inr hlay) hi (hty j hj) hn hfit
    exact W.putFinK hC.1 hC.2.1 hC.2.2.2.2.2.2.2.1 (hts _ hlk) (fs_same hts hsm _ hi) hst hcf (by rw [hC.2.2.2.2.2.2.1]; exact hin2) (by rw [q2]; exact h6) q1 q3 hlt rfl rfl hd fin
  · rw [if_neg hfin] at hlay
    have h6 := u_store hfc hkC hkind hlay hi (hty j hj) hn hfit
    exact W.putK hC.1 hC.2.1 (f := f) ⟨hC.2.2.2.2.2.2.2.1, hts _ hlk, ⟨_, _, _, fs_same hts hsm _ hi⟩, hst⟩ (by rw [q2]; exact h6) q1 q3 hlt rfl rfl hd fin
theorem e_getI {x t j g a : Nat} (hd : decode (mc_ k) pc = .ok (.getfield x, 3)) (hf : lk_ fT_ (mo_ k) x = some (t, j, g)) (hg : g ≤ 1) (ha : kd_ h a = t) (K : Ev_ k (pc + 3) L (.int (gI_ h a j) :: r) h Q) : Ev_ k pc L (.ref a :: r) h Q := by
  refine e_get hd hf ha ?_
  obtain ⟨C, T, N, -, -, -, -, -, -, hq⟩ := fT_spec hf
  have e : fv_ t h a j = .int (gI_ h a j) := by
    rcases hq with ⟨-, z⟩ | ⟨-, z⟩ | ⟨z, -⟩ | ⟨z, -⟩
    · simp [fv_, z]
    · simp [fv_, z]
    · omega
    · omega
  rw [e]; exact K
theorem e_getJ {x t j a : Nat} (hd : decode (mc_ k) pc = .ok (.getfield x, 3)) (hf : lk_ fT_ (mo_ k) x = some (t, j, 2)) (ha : kd_ h a = t) (K : Ev_ k (pc + 3) L (.long (gJ_ h a j) :: r) h Q) : Ev_ k pc L (.ref a :: r) h Q := by
  refine e_get hd hf ha ?_
  obtain ⟨C, T, N, -, -, -, -, -, -, hq⟩ := fT_spec hf
  have e : fv_ t h a j = .long (gJ_ h a j) := by
    rcases hq with ⟨z, -⟩ | ⟨z, -⟩ | ⟨-, z⟩ | ⟨z, -⟩
    · cases z
    · cases z
    · simp [fv_, z]
    · cases z
  rw [e]; exact K
theorem e_getP {x t j g a b : Nat} (hd : decode (mc_ k) pc = .ok (.getfield x, 3)) (hf : lk_ fT_ (mo_ k) x = some (t, j, g)) (hg : ¬ g ≤ 1) (hg2 : ¬ g = 2) (ha : kd_ h a = t) (hb : gP_ h a j = some b) (K : Ev_ k (pc + 3) L (.ref b :: r) h Q) : Ev_ k pc L (.ref a :: r) h Q := by
  refine e_get hd hf ha ?_
  obtain ⟨C, T, N, -, -, -, -, -, -, hq⟩ := fT_spec hf
  have e : fv_ t h a j = .ref b := by
    rcases hq with ⟨z, -⟩ | ⟨z, -⟩ | ⟨z, -⟩ | ⟨-, ⟨y, z⟩ | ⟨y, z⟩⟩
    · omega
    · omega
    · omega
    · simp [fv_, z, hb, va_rf]
    · simp [fv_, z, hb, va_rf]
  rw [e]; exact K
theorem e_putI {x t j g a : Nat} {v : Int32} (hd : decode (mc_ k) pc = .ok (.putfield x, 3)) (hf : lk_ fT_ (mo_ k) x = some (t, j, g)) (hg : g = 0 ∨ (g = 1 ∧ (v = 0 ∨ v = 1))) (hp : pok_ k t j = true) (ha : kd_ h a = t) (K : Ev_ k (pc + 3) L r (sI_ h a j v) Q) : Ev_ k pc L (.int v :: .ref a :: r) h Q := by
  obtain ⟨C, T, N, -, -, -, -, -, -, hq⟩ := fT_spec hf
  have hi : narrow (fty_ t j) (.int v) = .int v ∧ fits (fty_ t j) (.int v) = true ∧ fv_ t (sI_ h a j v) a j = .int v := by
    rcases hq with ⟨z0, z⟩ | ⟨z0, z⟩ | ⟨z, -⟩ | ⟨z, -⟩
    · rw [z]; exact ⟨rfl, rfl, by simp [fv_, z, sI_, gI_]⟩
    · rcases hg with hg | ⟨-, hg⟩
      · omega
      · rcases hg with rfl | rfl
        · rw [z]; exact ⟨by decide, by decide, by simp [fv_, z, sI_, gI_]⟩
        · rw [z]; exact ⟨by decide, by decide, by simp [fv_, z, sI_, gI_]⟩
    · omega
    · omega
  refine e_put (h1 := sI_ h a j v) hd hf hp ha hi.1 hi.2.1 rfl rfl rfl ⟨rfl, rfl⟩ rfl rfl (fun b i hb => by simp [sI_, gI_, hb]) (fun _ _ _ => rfl) (fun _ _ _ => rfl) hi.2.2 (fun i hne => ?_) K
  have e : gI_ (sI_ h a j v) a i = gI_ h a i := by simp [sI_, gI_, hne]
  unfold fv_
  rw [e]
  rfl
theorem e_putJ {x t j a : Nat} {v : Int64} (hd : decode (mc_ k) pc = .ok (.putfield x, 3)) (hf : lk_ fT_ (mo_ k) x = some (t, j, 2)) (hp : pok_ k t j = true) (ha : kd_ h a = t) (K : Ev_ k (pc + 3) L r (sJ_ h a j v) Q) : Ev_ k pc L (.long v :: .ref a :: r) h Q := by
  obtain ⟨C, T, N, -, -, -, -, -, -, hq⟩ := fT_spec hf
  have z : fty_ t j = .long := by
    rcases hq with ⟨z, -⟩ | ⟨z, -⟩ | ⟨-, z⟩ | ⟨z, -⟩
    · cases z
    · cases z
    · exact z
    · cases z
  refine e_put (h1 := sJ_ h a j v) hd hf hp ha (by rw [z]; rfl) (by rw [z]; rfl) rfl rfl rfl ⟨rfl, rfl⟩ rfl rfl (fun _ _ _ => rfl) (fun b i hb => by simp [sJ_, gJ_, hb]) (fun _ _ _ => rfl) (by simp [fv_, z, sJ_, gJ_]) (fun i hne => ?_) K
  have e : gJ_ (sJ_ h a j v) a i = gJ_ h a i := by simp [sJ_, gJ_, hne]
  unfold fv_
  rw [e]
  rfl
theorem e_putP {x t j g a v : Nat} (hd : decode (mc_ k) pc = .ok (.putfield x, 3)) (hf : lk_ fT_ (mo_ k) x = some (t, j, g)) (hg : ¬ g = 0 ∧ ¬ g = 1 ∧ ¬ g = 2) (hp : pok_ k t j = true) (ha : kd_ h a = t) (K : Ev_ k (pc + 3) L r (sP_ h a j (some v)) Q) : Ev_ k pc L (.ref v :: .ref a :: r) h Q := by
  obtain ⟨C, T, N, -, -, -, -, -, -, hq⟩ := fT_spec hf
  have hi : narrow (fty_ t j) (.ref v) = .ref v ∧ fits (fty_ t j) (.ref v) = true ∧ fv_ t (sP_ h a j (some v)) a j = .ref v := by
    rcases hq with ⟨z, -⟩ | ⟨z, -⟩ | ⟨z, -⟩ | ⟨-, ⟨y, z⟩ | ⟨y, z⟩⟩
    · omega
    · omega
    · omega
    · rw [z]; exact ⟨rfl, rfl, by simp [fv_, z, sP_, gP_, va_rf]⟩
    · rw [z]; exact ⟨rfl, rfl, by simp [fv_, z, sP_, gP_, va_rf]⟩
  refine e_put (h1 := sP_ h a j (some v)) hd hf hp ha hi.1 hi.2.1 rfl rfl rfl ⟨rfl, rfl⟩ rfl rfl (fun _ _ _ => rfl) (fun _ _ _ => rfl) (fun b i hb => by simp [sP_, gP_, hb]) hi.2.2 (fun i hne => ?_) K
  have e : gP_ (sP_ h a j (some v)) a i = gP_ h a i := by simp [sP_, gP_, hne]
  unfold fv_
  rw [e]
  rfl
theorem e_gets (hd : decode (mc_ k) pc = .ok (.getstatic 39, 3)) (hk : mo_ k = 13) (K : Ev_ k (pc + 3) L (.ref (em_ h) :: r) h Q) : Ev_ k pc L r h Q := by
  intro D p l e R s m args below meth c hC hK H locs cells slots ls hH hc hs hl hL
  obtain ⟨-, -, -, -, -, -, -, ⟨cf, kf, fi, f, a, cell, h1, h2, h3, h4, h5, h6, h7, h8⟩, -, -, -, -⟩ := id hK
  have hlk : Cond.fieldLink "java/util/ArrayList" 39 "java/util/ArrayList" "DEFAULTCAPACITY_EMPTY_ELEMENTDATA" "[Ljava/lang/Object;" ∈ wg_ := tw_in (by decide +kernel)
  have hown := hC.2.2.2.2.2.2.2.1
  rw [hk] at hown
  have hl5 : a < (dH_ D).size := (Array.getElem?_eq_some_iff.mp h5).1
  refine W.gets hC.1 hC.2.1 (own := "java/util/ArrayList") hown (hC.2.2.2.2.2.2.2.2.1 _ hlk) h1 h2 h3 h4 (by rw [hH.2.2.1 a hl5]; exact h5) (fun e => by rw [e] at h6; cases h6) h7 rfl hd ?_
  rw [← hH.2.2.2.1.1]
  exact K D p l e R s m args below meth c hC hK H locs cells slots ls hH hc hs hl hL
end Eh
