/-! ===== the model reads: readEvents ===== -/
def SY (m n : Nat) : Nat → Nat → Prop := fun a i => (a = m ∧ (i = 27 ∨ i = 43 ∨ i = 45)) ∨ ((a = m + 20 ∨ a = m + 21 ∨ a = m + 22) ∧ n ≤ i) ∨ ((a = m + 23 ∨ a = m + 24) ∧ 6 * n ≤ i)
def PEv (h : MH_) (m n : Nat) (res : Option (List Ev)) : Rs_ → MH_ → Prop := fun v h' => Fz (SY m n) h h' ∧ match res with
  | some es => v = .inl (.int (Int32.ofNat 1)) ∧ Mv h' m es ∧ gI_ h' m 27 = Int32.ofNat es.length
  | none => v = .inl (.int (Int32.ofNat 0))
section
variable {h h' : MH_} {m e n : Nat} {fl : List Nat} {S : Nat → Nat → Prop} {si : List (List Tok)} {es : List Ev}
theorem MG.fi {c : Nat} {g : Arg} (X : MG h m c g) (f : Fz S h h') (h1 : ¬ S (m + 23) c) (h2 : ¬ S (m + 24) c) (h3 : ∀ j, ¬ S (m + 19) j) : MG h' m c g := by
  refine ⟨by rw [f.gI h1]; exact X.1, fun t ht => ?_⟩
  obtain ⟨t1, ⟨p, p1, p2, p3⟩, t3⟩ := X.2 t ht
  exact ⟨t1, ⟨p, by rw [f.gI h2]; exact p1, p2, fun j hj => by rw [f.gI (h3 _)]; exact p3 j hj⟩, t3⟩
theorem gI_len {es : List Ev} {i : Nat} {y : Ev} (hy : es[i]? = some y) : i < es.length := by
  rcases Nat.lt_or_ge i es.length with z | z
  · exact z
  · rw [List.getElem?_eq_none z] at hy; cases hy
theorem ga_len {as : List Arg} {i : Nat} {y : Arg} (hy : as[i]? = some y) : i < as.length := by
  rcases Nat.lt_or_ge i as.length with z | z
  · exact z
  · rw [List.getElem?_eq_none z] at hy; cases hy
/-- the events that stand are kept when others come behind them -/
theorem Mv.sy (X : Mv h m es) (f : Fz (SY m n) h h') (hn : es.length ≤ n) : Mv h' m es := by
  intro i y hy
  have hi := gI_len hy
  exact (X i y hy).fi f (fun a z w => by unfold SY at w; omega) (fun a k hk z w => by unfold SY at w; omega) (fun j w => by unfold SY at w; omega)
theorem Mv.sl {c : Nat} (X : Mv h m es) (f : Fz (SLt m c) h h') (hc : 6 * es.length ≤ c) : Mv h' m es := by
  intro i y hy
  have hi := gI_len hy
  exact (X i y hy).fi f (fun a z w => by unfold SLt at w; omega) (fun a k hk z w => by unfold SLt at w; omega) (fun j w => by unfold SLt at w; omega)
theorem Mv.snoc {y : Ev} (X : Mv h m es) (hy : M1 h m es.length y) : Mv h m (es ++ [y]) := by
  intro i z hz
  by_cases hi : i < es.length
  · rw [List.getElem?_append_left hi] at hz; exact X i z hz
  · have hl := gI_len hz
    rw [List.length_append, List.length_singleton] at hl
    obtain rfl : i = es.length := by omega
    rw [List.getElem?_append_right (Nat.le_refl _), Nat.sub_self] at hz
    rw [← Option.some.inj hz]
    exact hy
theorem readEvents_out {hh : MH_} {w b0 y4 y5 y7 y9 y10 : _} (X0 : MS h m) (F : Fz (SY m n) h hh) (h45 : gI_ hh m 45 = Int32.ofNat 0) : Wp 190 14 [.ref m, .int w, .long b0, .null, .int y4, .long y5, .null, y7, .null, y9, y10] [] hh (PEv h m n none) := by
  have Y0 := X0.fz F
  rw [U190_14]
  simp (disch := omega) only [U190_15, U190_18, U190_193, U190_194, U190_197, Y0.1, h45, i_add, i_mul, i_sub, i_addn, i_lt, i_eq, i_idx, i_vp, true_and, and_true, false_and, and_false, if_true, if_false, Nat.reduceAdd, Nat.reduceMul, Nat.reduceSub, Nat.reduceEqDiff, Option.some.injEq, exists_eq_left', true_or, or_true, false_or, or_false, not_true_eq_false, not_false_eq_true, eq_self, and_self, Nat.reduceLeDiff, decide_true, decide_false, ne_eq, Nat.left_eq_add, Nat.add_eq_left, Nat.add_left_cancel_iff, Nat.add_zero]
  exact ⟨F, rfl⟩
theorem SRd_SY : ∀ a i, SRd m a i → SY m n a i := by unfold SRd SY; intro a i z; omega
end
section
variable {h : MH_} {m e w : Nat} {b0 : Int64} {fl : List Nat} {si : List (List Tok)} {old : List Ev}
/-- what stays while events are read -/
def Rd (h hh : MH_) (m e : Nat) (fl : List Nat) (si : List (List Tok)) (old cur : List Ev) (r : List Nat) : Prop := Fz (SY m old.length) h hh ∧ MO hh m e fl (some r) ∧ Mv hh m (old ++ cur) ∧ gI_ hh m 27 = Int32.ofNat (old.length + cur.length)
theorem readEvents_slots {N s t n : Nat} {cur : List Ev} {ts : List Tok} (X0 : MS h m) (X2 : MF h m si) (hs : si[s]? = some ts) (hold : old.length ≤ 2737) (hcur : cur.length ≤ 118) (ok : ∀ q ∈ cur, okL si q) (hn : n = old.length + cur.length) (r2 : List Nat)
    (out : ∀ as r hh y9 y10, rS (fun j => laF cur (s * 6 + j)) (slts ts) 0 [] r2 = some (as, r) → Rd h hh m e fl si old (cur ++ [(w, s, t, as)]) r → Wp 190 14 [.ref m, .int (Int32.ofNat w), .long b0, .null, .int (Int32.ofNat old.length), .long (Int64.ofNat t), .null, .long (Int64.ofNat s), .null, y9, y10] [] hh (PEv h m old.length (rEs si w N (laU (laF cur) s as) t ((old ++ cur) ++ [(w, s, t, as)]) r))) :
    ∀ q k as r hh, q = (slts ts).drop k → as.length = k → k ≤ (slts ts).length → rS (fun j => laF cur (s * 6 + j)) (slts ts) 0 [] r2 = rS (fun j => laF cur (s * 6 + j)) q k as r → Rd h hh m e fl si old cur r → (gI_ hh (m + 20) n = Int32.ofNat s ∧ gI_ hh (m + 21) n = Int32.ofNat w ∧ gJ_ hh (m + 22) n = Int64.ofNat t) → (∀ j g, as[j]? = some g → MG hh m (6 * n + j) g) →
    Wp 190 149 [.ref m, .int (Int32.ofNat w), .long b0, .null, .int (Int32.ofNat old.length), .long (Int64.ofNat t), .null, .long (Int64.ofNat s), .null, .int (Int32.ofNat (slts ts).length), .int (Int32.ofNat k)] [] hh (PEv h m old.length ((rS (fun j => laF cur (s * 6 + j)) q k as r).bind fun z => rEs si w N (laU (laF cur) s z.1) t ((old ++ cur) ++ [(w, s, t, z.1)]) z.2)) := by
  have s40 := (si_lt X2 hs).1
  have l6 := (X2.2.2 s ts hs).2.2.2.2
  intro q
  induction q with
  | nil =>
    intro k as r hh hq ha hk hE D hd hg
    obtain ⟨F, K, V, h27⟩ := D
    have Y0 := X0.fz F
    have hkl : k = (slts ts).length := by have := congrArg List.length hq; rw [List.length_drop] at this; simp at this; omega
    have ri := K.right
    rw [← bz_t (by simp)] at ri
    have f2 : Fz (fun a i => a = m ∧ i = 27) hh (sI_ hh m 27 (Int32.ofNat (n + 1))) := Fz.rfl'.sI ⟨rfl, rfl⟩
    rw [U190_149]
    simp (disch := omega) only [U190_151, U190_153, U190_180, U190_181, U190_182, U190_185, U190_186, U190_187, U190_190, z_kd_sI, z_ln_sI, z_gI_sI, z_gJ_sI, z_gP_sI, z_nx_sI, z_rc_sI, z_rs_sI, z_em_sI, z_mi_sI, z_kd_sJ, z_ln_sJ, z_gI_sJ, z_gJ_sJ, z_gP_sJ, z_nx_sJ, z_rc_sJ, z_rs_sJ, z_em_sJ, z_mi_sJ, z_kd_sP, z_ln_sP, z_gI_sP, z_gJ_sP, z_gP_sP, z_nx_sP, z_rc_sP, z_rs_sP, z_em_sP, z_mi_sP, z_kd_nw, z_ln_nw, z_gI_nw, z_gJ_nw, z_gP_nw, z_nx_nw, z_rc_nw, z_rs_nw, z_em_nw, z_mi_nw, z_kd_cI, z_ln_cI, z_gI_cI, z_gJ_cI, z_gP_cI, z_nx_cI, z_rc_cI, z_rs_cI, z_em_cI, z_mi_cI, z_kd_cP, z_ln_cP, z_gI_cP, z_gJ_cP, z_gP_cP, z_nx_cP, z_rc_cP, z_rs_cP, z_em_cP, z_mi_cP, z_kd_wI, z_ln_wI, z_gI_wI, z_gJ_wI, z_gP_wI, z_nx_wI, z_rc_wI, z_rs_wI, z_em_wI, z_mi_wI, z_kd_wJ, z_ln_wJ, z_gI_wJ, z_gJ_wJ, z_gP_wJ, z_nx_wJ, z_rc_wJ, z_rs_wJ, z_em_wJ, z_mi_wJ, Y0.1, h27, ← hn, show ¬ k < (slts ts).length by omega, i_add, i_mul, i_sub, i_addn, i_lt, i_eq, i_idx, i_vp, true_and, and_true, false_and, and_false, if_true, if_false, Nat.reduceAdd, Nat.reduceMul, Nat.reduceSub, Nat.reduceEqDiff, Option.some.injEq, exists_eq_left', true_or, or_true, false_or, or_false, not_true_eq_false, not_false_eq_true, eq_self, and_self, Nat.reduceLeDiff, decide_true, decide_false, ne_eq, Nat.left_eq_add, Nat.add_eq_left, Nat.add_left_cancel_iff, Nat.add_zero]
    rw [show (rS (fun j => laF cur (s * 6 + j)) [] k as r) = some (as, r) from rfl]
    refine out as r _ _ _ (hE.trans rfl) ⟨F.trans (f2.mono (fun a i z => Or.inl (by omega))), K.fz f2 (fun a i z w => by omega), ?_, ?_⟩
    · rw [← List.append_assoc]
      refine (V.fz f2 (fun a i z w => by omega)).snoc ?_
      rw [List.length_append, ← hn]
      refine ⟨by rw [f2.gI (by omega)]; exact hd.1, by rw [f2.gI (by omega)]; exact hd.2.1, by rw [f2.gJ (by omega)]; exact hd.2.2, by show as.length ≤ 6; omega, fun j g hj => ?_⟩
      exact (hg j g hj).fi f2 (by omega) (by omega) (fun j z => by omega)
    · rw [z_gI_sI, if_pos ⟨rfl, rfl⟩, List.length_append, List.length_singleton, hn]; congr 1
  | cons q qs ih =>
    intro k as r hh hq ha hk hE D hd hg
    obtain ⟨F, K, V, h27⟩ := D
    have Y0 := X0.fz F
    have Y2 := X2.fz F (by unfold SY; intro a i z; omega)
    have hkl : k < (slts ts).length := by have := congrArg List.length hq; rw [List.length_drop] at this; simp at this; omega
    have hq1 : (slts ts)[k]? = some q := by
      have := congrArg (fun l => l[0]?) hq
      simp only [List.getElem?_drop, Nat.add_zero, List.getElem?_cons_zero] at this
      exact this.symm
    have hq2 : qs = (slts ts).drop (k + 1) := by
      have := congrArg (List.drop 1) hq
      rw [List.drop_drop] at this
      exact this
    have ek : kdS ts k = q.1 := by unfold kdS; rw [hq1]
    have ri := K.right
    rw [← bz_t (by simp)] at ri
    rw [rS_G, ← ek] at hE ⊢
    rw [U190_149]
    simp (disch := omega) only [U190_151, U190_153, U190_156, U190_157, U190_160, U190_163, U190_164, U190_166, U190_168, U190_169, U190_171, Y0.1, ri, hkl, j_i, show ¬ (1 : Nat) = 0 by omega, i_add, i_mul, i_sub, i_addn, i_lt, i_eq, i_idx, i_vp, true_and, and_true, false_and, and_false, if_true, if_false, Nat.reduceAdd, Nat.reduceMul, Nat.reduceSub, Nat.reduceEqDiff, Option.some.injEq, exists_eq_left', true_or, or_true, false_or, or_false, not_true_eq_false, not_false_eq_true, eq_self, and_self, Nat.reduceLeDiff, decide_true, decide_false, ne_eq, Nat.left_eq_add, Nat.add_eq_left, Nat.add_left_cancel_iff, Nat.add_zero]
    refine Wp_use (M_readSlot Y0 Y2 hs hkl K V h27 (fun q hq => ?_) (fun q hq hqs => ?_) (by omega)) ?_
    · obtain ⟨-, -, ts', h1, -⟩ := ok q hq
      exact (si_lt X2 h1).1
    · obtain ⟨-, -, ts', h1, h2⟩ := ok q hq
      rw [hqs, hs] at h1
      rw [fit_len h2, ← Option.some.inj h1]
      exact hkl
    · rw [← hn]
      rintro _ h1 ⟨rfl, f1, z⟩
      have Z0 := Y0.fz f1
      have F1 := F.trans (f1.mono (T := SY m old.length) (by unfold SLt SY; intro a i z; omega))
      have e27 : gI_ h1 m 27 = Int32.ofNat n := by rw [f1.gI (by unfold SLt; omega), h27, hn]
      simp (disch := omega) only [V191, U190_174, U190_177, i_add, i_mul, i_sub, i_addn, i_lt, i_eq, i_idx, i_vp, true_and, and_true, false_and, and_false, if_true, if_false, Nat.reduceAdd, Nat.reduceMul, Nat.reduceSub, Nat.reduceEqDiff, Option.some.injEq, exists_eq_left', true_or, or_true, false_or, or_false, not_true_eq_false, not_false_eq_true, eq_self, and_self, Nat.reduceLeDiff, decide_true, decide_false, ne_eq, Nat.left_eq_add, Nat.add_eq_left, Nat.add_left_cancel_iff, Nat.add_zero]
      cases hres : rG (laF cur (s * 6 + k)) (kdS ts k) r with
      | none =>
        rw [hres] at z
        have r1 : gI_ h1 m 45 = Int32.ofNat 0 := z.2.2
        rw [U190_149]
        have go : ∀ y5, Wp 190 14 [.ref m, .int (Int32.ofNat w), .long b0, .null, .int (Int32.ofNat old.length), .long (Int64.ofNat t), .null, .long (Int64.ofNat s), .null, .int (Int32.ofNat (slts ts).length), .int y5] [] (sI_ h1 m 27 (Int32.ofNat (n + 1))) (PEv h m old.length none) := fun y5 => readEvents_out X0 (F1.sI (Or.inl ⟨rfl, Or.inl rfl⟩)) (by rw [z_gI_sI, if_neg (by omega)]; exact r1)
        by_cases c : k + 1 < (slts ts).length
        · simp (disch := omega) only [U190_151, U190_153, U190_156, U190_157, U190_160, U190_180, U190_181, U190_182, U190_185, U190_186, U190_187, U190_190, z_kd_sI, z_ln_sI, z_gI_sI, z_gJ_sI, z_gP_sI, z_nx_sI, z_rc_sI, z_rs_sI, z_em_sI, z_mi_sI, z_kd_sJ, z_ln_sJ, z_gI_sJ, z_gJ_sJ, z_gP_sJ, z_nx_sJ, z_rc_sJ, z_rs_sJ, z_em_sJ, z_mi_sJ, z_kd_sP, z_ln_sP, z_gI_sP, z_gJ_sP, z_gP_sP, z_nx_sP, z_rc_sP, z_rs_sP, z_em_sP, z_mi_sP, z_kd_nw, z_ln_nw, z_gI_nw, z_gJ_nw, z_gP_nw, z_nx_nw, z_rc_nw, z_rs_nw, z_em_nw, z_mi_nw, z_kd_cI, z_ln_cI, z_gI_cI, z_gJ_cI, z_gP_cI, z_nx_cI, z_rc_cI, z_rs_cI, z_em_cI, z_mi_cI, z_kd_cP, z_ln_cP, z_gI_cP, z_gJ_cP, z_gP_cP, z_nx_cP, z_rc_cP, z_rs_cP, z_em_cP, z_mi_cP, z_kd_wI, z_ln_wI, z_gI_wI, z_gJ_wI, z_gP_wI, z_nx_wI, z_rc_wI, z_rs_wI, z_em_wI, z_mi_wI, z_kd_wJ, z_ln_wJ, z_gI_wJ, z_gJ_wJ, z_gP_wJ, z_nx_wJ, z_rc_wJ, z_rs_wJ, z_em_wJ, z_mi_wJ, Z0.1, r1, e27, c, i_add, i_mul, i_sub, i_addn, i_lt, i_eq, i_idx, i_vp, true_and, and_true, false_and, and_false, if_true, if_false, Nat.reduceAdd, Nat.reduceMul, Nat.reduceSub, Nat.reduceEqDiff, Option.some.injEq, exists_eq_left', true_or, or_true, false_or, or_false, not_true_eq_false, not_false_eq_true, eq_self, and_self, Nat.reduceLeDiff, decide_true, decide_false, ne_eq, Nat.left_eq_add, Nat.add_eq_left, Nat.add_left_cancel_iff, Nat.add_zero]
          exact go _
        · simp (disch := omega) only [U190_151, U190_153, U190_156, U190_157, U190_160, U190_180, U190_181, U190_182, U190_185, U190_186, U190_187, U190_190, z_kd_sI, z_ln_sI, z_gI_sI, z_gJ_sI, z_gP_sI, z_nx_sI, z_rc_sI, z_rs_sI, z_em_sI, z_mi_sI, z_kd_sJ, z_ln_sJ, z_gI_sJ, z_gJ_sJ, z_gP_sJ, z_nx_sJ, z_rc_sJ, z_rs_sJ, z_em_sJ, z_mi_sJ, z_kd_sP, z_ln_sP, z_gI_sP, z_gJ_sP, z_gP_sP, z_nx_sP, z_rc_sP, z_rs_sP, z_em_sP, z_mi_sP, z_kd_nw, z_ln_nw, z_gI_nw, z_gJ_nw, z_gP_nw, z_nx_nw, z_rc_nw, z_rs_nw, z_em_nw, z_mi_nw, z_kd_cI, z_ln_cI, z_gI_cI, z_gJ_cI, z_gP_cI, z_nx_cI, z_rc_cI, z_rs_cI, z_em_cI, z_mi_cI, z_kd_cP, z_ln_cP, z_gI_cP, z_gJ_cP, z_gP_cP, z_nx_cP, z_rc_cP, z_rs_cP, z_em_cP, z_mi_cP, z_kd_wI, z_ln_wI, z_gI_wI, z_gJ_wI, z_gP_wI, z_nx_wI, z_rc_wI, z_rs_wI, z_em_wI, z_mi_wI, z_kd_wJ, z_ln_wJ, z_gI_wJ, z_gJ_wJ, z_gP_wJ, z_nx_wJ, z_rc_wJ, z_rs_wJ, z_em_wJ, z_mi_wJ, Z0.1, r1, e27, c, i_add, i_mul, i_sub, i_addn, i_lt, i_eq, i_idx, i_vp, true_and, and_true, false_and, and_false, if_true, if_false, Nat.reduceAdd, Nat.reduceMul, Nat.reduceSub, Nat.reduceEqDiff, Option.some.injEq, exists_eq_left', true_or, or_true, false_or, or_false, not_true_eq_false, not_false_eq_true, eq_self, and_self, Nat.reduceLeDiff, decide_true, decide_false, ne_eq, Nat.left_eq_add, Nat.add_eq_left, Nat.add_left_cancel_iff, Nat.add_zero]
          exact go _
      | some x =>
        obtain ⟨g, r'⟩ := x
        rw [hres] at z hE
        obtain ⟨K1, G1⟩ := z
        refine ih (k + 1) (as ++ [g]) r' h1 hq2 (by rw [List.length_append, List.length_singleton]; omega) (by omega) hE ⟨F1, K1, V.sl f1 (by rw [List.length_append]; omega), by rw [e27, hn]⟩ ⟨by rw [f1.gI (by unfold SLt; omega)]; exact hd.1, by rw [f1.gI (by unfold SLt; omega)]; exact hd.2.1, by rw [f1.gJ (by unfold SLt; omega)]; exact hd.2.2⟩ (fun j g' hj => ?_)
        by_cases hjk : j < as.length
        · rw [List.getElem?_append_left hjk] at hj
          exact (hg j g' hj).fi f1 (by unfold SLt; omega) (by unfold SLt; omega) (fun j z => by unfold SLt at z; omega)
        · have hl := ga_len hj
          rw [List.length_append, List.length_singleton] at hl
          obtain rfl : j = as.length := by omega
          rw [List.getElem?_append_right (Nat.le_refl _), Nat.sub_self] at hj
          rw [← Option.some.inj hj, ha]
          exact G1
end
