/-! ===== Lines: placeOf, sortIn ===== -/
def okEs (es : List Ev) : Prop := ∀ x ∈ es, x.1 < 4 ∧ x.2.2.1 < 9223372036854775808
def soO (pl od : List Nat) : List Nat := od.map (fun i => pl.getD i 0)
theorem soO_at {pl od : List Nat} {i : Nat} (hi : i < od.length) : (soO pl od)[i]? = some (pl.getD (od.getD i 0) 0) := by
  unfold soO
  rw [List.getElem?_map, List.getElem?_eq_getElem hi, gD_in hi]
  rfl
section
variable {h0 : MH_} {l fr sl sA pr0 sr0 sr B C : Nat} {fl fs pl0 : List Nat} {si : List (List Tok)}
theorem gD_ev {es : List Ev} {i : Nat} (h : i < es.length) : es[i]? = some (es.getD i evD) := by
  rw [List.getD_eq_getElem?_getD, List.getElem?_eq_getElem h]; rfl
theorem Lines_placeOf {h : MH_} {e pr : Nat} {es : List Ev} {od pl : List Nat} {Q : Rs_ → MH_ → Prop} (b : Bd h0 h l fr sl sA pr0 sr0 fl fs pl0 si pl pr (soO pl od) sr) (hP : Pv h pl es) (ok : okEs es) (hs : srt es od) (ho : ∀ i ∈ od, i < es.length) (he : e < es.length) (K : Q (.inl (.int (Int32.ofNat (plc es od e od.length)))) h) :
    Wp 48 0 [.ref l, .ref (pl.getD e 0), .null, .null, .null] [] h Q := by
  obtain ⟨⟨⟨k1, k2, k3, k4⟩, u1, u2, u3, u4⟩, ⟨p1, p2, p3⟩, ⟨r1, r2⟩, ⟨e1, e2⟩, ⟨b1, b2, b3, b4, b5⟩, ⟨c1, c2, c3⟩, ⟨d1, d2, d3⟩, ⟨g1, g2, g3⟩, q1, q2⟩ := b
  have hlen : (soO pl od).length = od.length := by unfold soO; rw [List.length_map]
  have hl5 := p2.len
  rw [hlen] at hl5
  have inf : ∀ i, i < es.length → pl[i]? = some (pl.getD i 0) ∧ Es h (pl.getD i 0) ∧ Ew h (pl.getD i 0) (es.getD i evD).1 (es.getD i evD).2.1 (Int64.ofNat (es.getD i evD).2.2.1) ∧ (es.getD i evD).1 < 4 ∧ (es.getD i evD).2.2.1 < 9223372036854775808 := by
    intro i hi
    have h1 : pl[i]? = some (pl.getD i 0) := by rw [List.getD_eq_getElem?_getD, List.getElem?_eq_getElem (by have := hP.1; omega)]; rfl
    have h2 := gD_ev hi
    obtain ⟨q1, q2⟩ := hP.2 i _ _ h1 h2
    exact ⟨h1, q1.1, q2, ok _ (List.mem_of_getElem? h2)⟩
  obtain ⟨s1, s2, s3⟩ := plc_spec (e := e) hs od.length (Nat.le_refl _)
  obtain ⟨t1, t2, t3, t4, t5⟩ := inf e he
  have key : ∀ n lo hi y, hi - lo ≤ n → lo ≤ plc es od e od.length → plc es od e od.length ≤ hi → hi ≤ od.length → Wp 48 10 [.ref l, .ref (pl.getD e 0), .int (Int32.ofNat lo), .int (Int32.ofNat hi), y] [] h Q := by
    intro n
    induction n with
    | zero =>
      intro lo hi y h1 h2 h3 h4
      rw [U48_10]
      simp (disch := omega) only [U48_0, U48_1, U48_2, U48_3, U48_6, U48_9, U48_11, U48_12, U48_15, U48_16, U48_17, U48_18, U48_19, U48_20, U48_22, U48_23, U48_24, U48_27, U48_29, U48_32, U48_35, U48_38, U48_41, U48_43, U48_44, U48_47, U48_49, U48_50, U48_51, U48_52, U48_55, U48_56, show ¬ lo < hi by omega, i_add, i_mul, i_sub, i_addn, i_lt, i_eq, i_idx, i_vp, true_and, and_true, false_and, and_false, if_true, if_false, Nat.reduceAdd, Nat.reduceMul, Nat.reduceSub, Nat.reduceEqDiff, Option.some.injEq, exists_eq_left', true_or, or_true, false_or, or_false, not_true_eq_false, not_false_eq_true, eq_self, and_self, Nat.reduceLeDiff, decide_true, decide_false, ne_eq, Nat.left_eq_add, Nat.add_eq_left, Nat.add_left_cancel_iff, Nat.add_zero]
      rw [show lo = plc es od e od.length by omega]
      exact K
    | succ n ih =>
      intro lo hi y h1 h2 h3 h4
      rw [U48_10]
      by_cases hlt : lo < hi
      · have hm : (lo + hi) / 2 < od.length := by omega
        have hml : (lo + hi) / 2 < (soO pl od).length := by omega
        have eg : (soO pl od)[(lo + hi) / 2] = pl.getD (od.getD ((lo + hi) / 2) 0) 0 := by
          have z := soO_at (pl := pl) hm
          rw [List.getElem?_eq_getElem hml] at z
          exact Option.some.inj z
        have hoe := ho _ (List.getElem_mem hm)
        rw [← gD_in hm] at hoe
        obtain ⟨x1, x2, x3, x4, x5⟩ := inf _ hoe
        have hd : Int32.ofNat (lo + hi) / Int32.ofNat 2 = Int32.ofNat ((lo + hi) / 2) := (Int32.ofNat_div (by omega) (by omega)).symm
        simp (disch := omega) only [U48_0, U48_1, U48_2, U48_3, U48_6, U48_9, U48_11, U48_12, U48_15, U48_16, U48_17, U48_18, U48_19, U48_20, U48_22, U48_23, U48_24, U48_27, U48_29, U48_32, U48_35, U48_38, U48_41, U48_43, U48_44, U48_47, U48_49, U48_50, U48_51, U48_52, U48_55, U48_56, k1, k3, p2.1, hlt, hd, AL_get p2 hml, V215, eg, x2.1, t2.1, Event_isBefore t2 x2 t3 x3 (show (es.getD e evD).1 < 1000 by omega) (show (es.getD (od.getD ((lo + hi) / 2) 0) evD).1 < 1000 by omega), V17, bz_0, j_lt t5 x5, j_eq t5 x5, show ¬ (2 : Nat) = 0 by omega, i_add, i_mul, i_sub, i_addn, i_lt, i_eq, i_idx, i_vp, true_and, and_true, false_and, and_false, if_true, if_false, Nat.reduceAdd, Nat.reduceMul, Nat.reduceSub, Nat.reduceEqDiff, Option.some.injEq, exists_eq_left', true_or, or_true, false_or, or_false, not_true_eq_false, not_false_eq_true, eq_self, and_self, Nat.reduceLeDiff, decide_true, decide_false, ne_eq, Nat.left_eq_add, Nat.add_eq_left, Nat.add_left_cancel_iff, Nat.add_zero]
        by_cases hb : bef (es.getD e evD) (es.getD (od.getD ((lo + hi) / 2) 0) evD)
        · have hle : plc es od e od.length ≤ (lo + hi) / 2 := by
            rcases Nat.lt_or_ge ((lo + hi) / 2) (plc es od e od.length) with z | z
            · exact absurd hb (s2 _ z)
            · exact z
          rw [if_neg (by unfold bef at hb; omega)]
          exact ih lo _ _ (by omega) h2 hle (by omega)
        · have hle : (lo + hi) / 2 < plc es od e od.length := by
            rcases Nat.lt_or_ge ((lo + hi) / 2) (plc es od e od.length) with z | z
            · exact z
            · exact absurd (s3 _ z hm) hb
          rw [if_pos (by unfold bef at hb; omega)]
          exact ih _ hi _ (by omega) (by omega) h3 h4
      · simp (disch := omega) only [U48_0, U48_1, U48_2, U48_3, U48_6, U48_9, U48_11, U48_12, U48_15, U48_16, U48_17, U48_18, U48_19, U48_20, U48_22, U48_23, U48_24, U48_27, U48_29, U48_32, U48_35, U48_38, U48_41, U48_43, U48_44, U48_47, U48_49, U48_50, U48_51, U48_52, U48_55, U48_56, hlt, i_add, i_mul, i_sub, i_addn, i_lt, i_eq, i_idx, i_vp, true_and, and_true, false_and, and_false, if_true, if_false, Nat.reduceAdd, Nat.reduceMul, Nat.reduceSub, Nat.reduceEqDiff, Option.some.injEq, exists_eq_left', true_or, or_true, false_or, or_false, not_true_eq_false, not_false_eq_true, eq_self, and_self, Nat.reduceLeDiff, decide_true, decide_false, ne_eq, Nat.left_eq_add, Nat.add_eq_left, Nat.add_left_cancel_iff, Nat.add_zero]
        rw [show lo = plc es od e od.length by omega]
        exact K
  simp (disch := omega) only [U48_0, U48_1, U48_2, U48_3, U48_6, U48_9, U48_11, U48_12, U48_15, U48_16, U48_17, U48_18, U48_19, U48_20, U48_22, U48_23, U48_24, U48_27, U48_29, U48_32, U48_35, U48_38, U48_41, U48_43, U48_44, U48_47, U48_49, U48_50, U48_51, U48_52, U48_55, U48_56, k1, k3, p2.1, AL_size p2, V219, hlen, i_add, i_mul, i_sub, i_addn, i_lt, i_eq, i_idx, i_vp, true_and, and_true, false_and, and_false, if_true, if_false, Nat.reduceAdd, Nat.reduceMul, Nat.reduceSub, Nat.reduceEqDiff, Option.some.injEq, exists_eq_left', true_or, or_true, false_or, or_false, not_true_eq_false, not_false_eq_true, eq_self, and_self, Nat.reduceLeDiff, decide_true, decide_false, ne_eq, Nat.left_eq_add, Nat.add_eq_left, Nat.add_left_cancel_iff, Nat.add_zero]
  exact key od.length 0 od.length _ (by omega) (Nat.zero_le _) s1 (Nat.le_refl _)
end
