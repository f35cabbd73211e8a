/-! ===== the machine is closed under the small machine's steps ===== -/
theorem cw_good (c : Nat) : goodWord (cw_ c) = true := by
  unfold cw_
  split <;> rfl
theorem cw_of {ks is : List Nat} (h : ks.map cw_ = is.filterMap (fun i => lw_tbl[i]?)) {c : Nat} (hc : c ∈ ks) : cw_ c ∈ wg_ := by
  have h1 : cw_ c ∈ ks.map cw_ := List.mem_map.mpr ⟨c, hc, rfl⟩
  rw [h] at h1
  obtain ⟨i, -, hi⟩ := List.mem_filterMap.mp h1
  exact List.mem_filter.mpr ⟨List.mem_of_getElem? hi, cw_good c⟩
theorem cw_in {c : Nat} (hc : c < 248) (hn : c ≠ 238) : cw_ c ∈ wg_ := by
  by_cases h0 : c < 10
  · exact cw_of cd0_ (show c ∈ ([0, 1, 2, 3, 4, 5, 6, 7, 8, 9] : List Nat) by simp; omega)
  by_cases h1 : c < 20
  · exact cw_of cd1_ (show c ∈ ([10, 11, 12, 13, 14, 15, 16, 17, 18, 19] : List Nat) by simp; omega)
  by_cases h2 : c < 30
  · exact cw_of cd2_ (show c ∈ ([20, 21, 22, 23, 24, 25, 26, 27, 28, 29] : List Nat) by simp; omega)
  by_cases h3 : c < 40
  · exact cw_of cd3_ (show c ∈ ([30, 31, 32, 33, 34, 35, 36, 37, 38, 39] : List Nat) by simp; omega)
  by_cases h4 : c < 50
  · exact cw_of cd4_ (show c ∈ ([40, 41, 42, 43, 44, 45, 46, 47, 48, 49] : List Nat) by simp; omega)
  by_cases h5 : c < 60
  · exact cw_of cd5_ (show c ∈ ([50, 51, 52, 53, 54, 55, 56, 57, 58, 59] : List Nat) by simp; omega)
  by_cases h6 : c < 70
  · exact cw_of cd6_ (show c ∈ ([60, 61, 62, 63, 64, 65, 66, 67, 68, 69] : List Nat) by simp; omega)
  by_cases h7 : c < 80
  · exact cw_of cd7_ (show c ∈ ([70, 71, 72, 73, 74, 75, 76, 77, 78, 79] : List Nat) by simp; omega)
  by_cases h8 : c < 90
  · exact cw_of cd8_ (show c ∈ ([80, 81, 82, 83, 84, 85, 86, 87, 88, 89] : List Nat) by simp; omega)
  by_cases h9 : c < 100
  · exact cw_of cd9_ (show c ∈ ([90, 91, 92, 93, 94, 95, 96, 97, 98, 99] : List Nat) by simp; omega)
  by_cases h10 : c < 110
  · exact cw_of cd10_ (show c ∈ ([100, 101, 102, 103, 104, 105, 106, 107, 108, 109] : List Nat) by simp; omega)
  by_cases h11 : c < 120
  · exact cw_of cd11_ (show c ∈ ([110, 111, 112, 113, 114, 115, 116, 117, 118, 119] : List Nat) by simp; omega)
  by_cases h12 : c < 130
  · exact cw_of cd12_ (show c ∈ ([120, 121, 122, 123, 124, 125, 126, 127, 128, 129] : List Nat) by simp; omega)
  by_cases h13 : c < 140
  · exact cw_of cd13_ (show c ∈ ([130, 131, 132, 133, 134, 135, 136, 137, 138, 139] : List Nat) by simp; omega)
  by_cases h14 : c < 150
  · exact cw_of cd14_ (show c ∈ ([140, 141, 142, 143, 144, 145, 146, 147, 148, 149] : List Nat) by simp; omega)
  by_cases h15 : c < 160
  · exact cw_of cd15_ (show c ∈ ([150, 151, 152, 153, 154, 155, 156, 157, 158, 159] : List Nat) by simp; omega)
  by_cases h16 : c < 170
  · exact cw_of cd16_ (show c ∈ ([160, 161, 162, 163, 164, 165, 166, 167, 168, 169] : List Nat) by simp; omega)
  by_cases h17 : c < 180
  · exact cw_of cd17_ (show c ∈ ([170, 171, 172, 173, 174, 175, 176, 177, 178, 179] : List Nat) by simp; omega)
  by_cases h18 : c < 190
  · exact cw_of cd18_ (show c ∈ ([180, 181, 182, 183, 184, 185, 186, 187, 188, 189] : List Nat) by simp; omega)
  by_cases h19 : c < 200
  · exact cw_of cd19_ (show c ∈ ([190, 191, 192, 193, 194, 195, 196, 197, 198, 199] : List Nat) by simp; omega)
  by_cases h20 : c < 210
  · exact cw_of cd20_ (show c ∈ ([200, 201, 202, 203, 204, 205, 206, 207, 208, 209] : List Nat) by simp; omega)
  by_cases h21 : c < 220
  · exact cw_of cd21_ (show c ∈ ([210, 211, 212, 213, 214, 215, 216, 217, 218, 219] : List Nat) by simp; omega)
  by_cases h22 : c < 230
  · exact cw_of cd22_ (show c ∈ ([220, 221, 222, 223, 224, 225, 226, 227, 228, 229] : List Nat) by simp; omega)
  by_cases h23 : c < 240
  · exact cw_of cd23_ (show c ∈ ([230, 231, 232, 233, 234, 235, 236, 237, 239] : List Nat) by simp; omega)
  by_cases h24 : c < 248
  · exact cw_of cd24_ (show c ∈ ([240, 241, 242, 243, 244, 245, 246, 247] : List Nat) by simp; omega)
  omega
theorem lc_ok : ∀ q ∈ lT_, q.2.2.1 ≤ 5 → q.2.2.2 < 248 := by decide +kernel
theorem mp_top : ∀ k, k < 248 → mp_ k ≤ mp_ 238 := by decide +kernel
theorem mh_ok : ∀ k, k < 248 → (mh_ k).all (fun q => decide (q.2.2.2 ≠ 0) && (match lk_ cT_ (mo_ k) q.2.2.2 with | some t => decide (20 ≤ t ∧ t ≤ 24) | none => false)) = true := by decide +kernel
theorem ex_cast : (List.range 5).all (fun x => tn_ (.castable (xn_.getD x "") (xn_.getD x ""))) = true := by decide +kernel
section Cl
variable {k pc : Nat} {L rest : List Value} {h : MH_} {Q : Rs_ → MH_ → Prop}
theorem ps_eq {rt : Option FieldType} {v : Option Value} {w : Value} (hv : (rt = none ∧ v = none) ∨ (rt ≠ none ∧ v = some w)) : v.toList ++ rest = ps_ rt w rest := by
  rcases hv with ⟨rfl, rfl⟩ | ⟨h1, rfl⟩
  · rfl
  · cases rt with
    | none => exact absurd rfl h1
    | some _ => rfl
/-- an exception over the frame: on to the caller, or into a handler -/
theorem e_thrown {D : Dg_} {p : Program} {l : Launch} {e : Env} {R : Room} {s : State} {m : MethodId} {args : Array Value} {below : List Frame} {meth : Method} {c : Code} (hC : Cx_ k p l R s m args meth c) (hK : KD_ D s) {H : Heap} {locs : List Loc} {cells slots : Nat} {ls : Array Slot} {q : Nat} (hH : RH_ D h H) (hc : cells + rc_ h ≤ R.cells) (hs : slots + rs_ h ≤ R.slots) (hl : ∀ z ∈ locs, (dH_ D).size ≤ z.base) (hL : LR_ ls (ml_ k) L) (hq1 : 20 ≤ kd_ h q) (hq2 : kd_ h q ≤ 24)
    (K : bk_ Ev_ k pc 0 0 L rest Q (.inr q) h) : vx_W p l e R s m args below meth c H locs cells slots (EP_ (mr_ k) D R s below Q) (F0 m pc ls rest) q := by
  simp only [bk_, if_true] at K
  by_cases hm : mh_ k = []
  · rw [if_pos hm] at K
    intro T hT X
    obtain ⟨st1, hrun, hend, hW, hsm⟩ := X.leaveThrown q (g := F0 m pc ls rest) rfl rfl rfl (by
      rw [hC.2.2.2.2.2.2.2.2.2.2.2.1, hm]
      intro x hx
      cases hx) hC.2.2.2.2.2.1
    exact ⟨_, st1, .threw q, .inr q, h, locs, cells, slots, hrun, hend, ⟨rfl, hq1, hq2⟩, K, by show RH_ D h T.heap; rw [hT]; exact hH, hW, hsm, hc, hs, hl⟩
  · rw [if_neg hm] at K
    cases hn : hn_ k pc (kd_ h q) with
    | none => rw [hn] at K; exact K.elim
    | some hp =>
      rw [hn] at K
      simp only at K
      obtain ⟨y, hy, hyp⟩ := Option.map_eq_some_iff.mp hn
      obtain ⟨hy1, pre, suf, hsp, hpre⟩ := List.find?_eq_some_iff_append.mp hy
      obtain ⟨y1, y2, y3, y4⟩ := y
      simp only at hyp
      subst hyp
      simp only [Bool.and_eq_true, decide_eq_true_eq] at hy1
      have hall := mh_ok k hC.2.2.2.2.2.2.2.2.2.2.2.2
      have hts := hC.2.2.2.2.2.2.2.2.1
      have hh : ∀ z ∈ mh_ k, z.2.2.2 ≠ 0 ∧ ∃ t, lk_ cT_ (mo_ k) z.2.2.2 = some t ∧ 20 ≤ t ∧ t ≤ 24 := by
        intro z hz
        have h1 := List.all_eq_true.mp hall z hz
        simp only [Bool.and_eq_true, decide_eq_true_eq] at h1
        refine ⟨h1.1, ?_⟩
        cases ht : lk_ cT_ (mo_ k) z.2.2.2 with
        | none => rw [ht] at h1; exact absurd h1.2 (by simp)
        | some t => rw [ht] at h1; exact ⟨t, rfl, by simpa using h1.2⟩
      have htab := hC.2.2.2.2.2.2.2.2.2.2.2.1
      rw [hsp] at htab
      obtain ⟨ce, c1, c2, c3⟩ := hH.exc (a := q) rfl hq1 hq2
      obtain ⟨kn1, kn2, kn3⟩ := kn_exc hq1 hq2
      have hxn := hK.2.2.1 (kd_ h q - 20) (by omega)
      rw [← kn1] at hxn
      have hlk := cT_spec hy1.2
      have hcast : (Cond.castable (kn_ (kd_ h q)) (kn_ (kd_ h q))).before args s = true := by
        rw [kn1]
        exact va_Nw.use rfl (hK.2.2.2.1 _ (tn_in (List.all_eq_true.mp ex_cast (kd_ h q - 20) (List.mem_range.mpr (by omega)))))
      refine vx_catch (own := ow_ (mo_ k)) (name := kn_ (kd_ h q)) (E := kn_ (kd_ h q)) (ce := ce) hC.2.2.2.2.2.2.2.1 (tableOf pre) ⟨y1, y2, y3, y4⟩ (tableOf suf) (by rw [htab]; simp [tableOf]) ?_ (by simp [covers, hy1.1.1, hy1.1.2]) (hh (y1, y2, y3, y4) (by rw [hsp]; simp)).1 (hts _ hlk) hcast c1 c2 (by rw [c3]; exact hxn) (K D p l e R s m args below meth c hC hK H locs cells slots ls hH hc hs hl hL)
      intro z hz
      simp only [tableOf, List.mem_map] at hz
      obtain ⟨z0, hz0, rfl⟩ := hz
      have hp0 := hpre z0 hz0
      obtain ⟨n0, t0, l0, a0, b0⟩ := hh z0 (by rw [hsp]; exact List.mem_append_left _ hz0)
      simp only [Bool.not_eq_true', Bool.and_eq_false_iff, decide_eq_false_iff_not] at hp0
      rcases hp0 with (hp0 | hp0) | hp0
      · exact Or.inl (by simp [covers, hp0])
      · exact Or.inl (by simp only [covers]; simp; omega)
      · right
        refine ⟨n0, kn_ t0, hts _ (cT_spec l0), ?_⟩
        rw [kn1, (kn_exc a0 b0).1]
        refine hK.2.2.2.2.1 _ _ (by omega) (by omega) (fun z => hp0 ?_)
        rw [l0]
        congr 1
        omega
/-- what every call gives and takes -/
theorem e_call {i : Instr} {n m c : Nat} {st as : List Value} (hd : decode (mc_ k) pc = .ok (i, n)) (hca : ca_ k i n st h = some (m, c, as, rest)) (K : Ev_ c 0 (en_ c as) [] h (bk_ Ev_ k pc m c L rest Q)) : Ev_ k pc L st h Q := by
  intro D p l e R s mm args below meth cd hC hK H locs cells slots ls hH hc hs hl hL
  have hts := hC.2.2.2.2.2.2.2.2.1
  have hfr := hC.2.2.2.2.2.2.2.2.2.1
  have hlc := hC.2.2.2.2.2.2.2.2.2.2.1
  have hml : ls.size = cd.maxLocals := by rw [hC.2.2.2.1]; exact hL.1
  -- the pieces of the call
  have core : ∀ (x : Nat) (lo hi m3 : Nat), gd_ (n = 3) ((lk_ lT_ (mo_ k) x).bind fun e => gd_ ((e.1 = lo ∨ e.1 = hi ∨ e.1 = m3) ∧ np_ e.2 ≤ st.length ∧ (st.drop (np_ e.2)).length ≤ 20 ∧ (fl_ (st.take (np_ e.2)).reverse).length ≤ ml_ e.2 ∧ mp_ e.2 < mp_ k) (some (e.1, e.2, (st.take (np_ e.2)).reverse, st.drop (np_ e.2)))) = some (m, c, as, rest) →
      n = 3 ∧ lk_ lT_ (mo_ k) x = some (m, c) ∧ (m = lo ∨ m = hi ∨ m = m3) ∧ st = as.reverse ++ rest ∧ as.length = np_ c ∧ rest.length ≤ 20 ∧ (fl_ as).length ≤ ml_ c ∧ mp_ c < mp_ k := by
    intro x lo hi m3 hg
    unfold gd_ at hg
    split at hg
    · rename_i hn
      cases hlk : lk_ lT_ (mo_ k) x with
      | none => rw [hlk] at hg; cases hg
      | some q =>
        rw [hlk] at hg
        simp only [Option.bind_some] at hg
        split at hg
        · rename_i hh
          simp only [Option.some.injEq, Prod.mk.injEq] at hg
          obtain ⟨rfl, rfl, rfl, rfl⟩ := hg
          refine ⟨hn, rfl, hh.1, ?_, ?_, hh.2.2.1, hh.2.2.2.1, hh.2.2.2.2⟩
          · rw [List.reverse_reverse, List.take_append_drop]
          · rw [List.length_reverse, List.length_take, Nat.min_eq_left hh.2.1]
        · cases hg
    · cases hg
  have cm : ∀ x, lk_ lT_ (mo_ k) x = some (m, c) → (m ≤ 5 → c < 248) := fun x hx => lc_ok _ (lk_mem hx)
  have pay : c < 248 → mp_ c < mp_ k → (fl_ as).length ≤ ml_ c → cw_ c ∈ wg_ → vx_Back l R p e below s args (my_ c) 3 40 (PrC_ D R h as) (PoC_ c D R (bk_ Ev_ k pc m c L rest Q)) (PxC_ D R (bk_ Ev_ k pc m c L rest Q)) := by
    intro c1 c2 c3 c4
    have hm6 := (mt_facts c1).2.2.2.2.2
    exact ev_back c1 (ev_met c1 K c3 D hC.2.2.1) hK (by omega) (by omega) hts (hts _ c4) (cw_good c)
  have sig : c < 248 → ∀ sg, parseMethodDescriptor (my_ c).desc = some sg → np_ c = sg.parameters.length + (if ns_ c then 0 else 1) := by
    intro c1 sg hsg
    have h2 := md2_ok c c1
    simp only [md2_, decide_eq_true_eq, hsg, Option.map_some, Option.some.injEq] at h2
    exact h2.symm
  have sum : rest.length ≤ 20 → ∀ g : JFrame, g.monitorRoom = 0 → 2 * g.monitorRoom + (rest.map fun v => v.category).sum ≤ 40 := by
    intro h1 g hg
    have := cat_sum rest
    omega
  have back : ∀ (T' : State) (B : Pt) (v : Option Value) (A : Pt) (a : Array Value), PoC_ c D R (bk_ Ev_ k pc m c L rest Q) A a v B → Stand p l e R s mm args below meth cd B.U B.locs B.cells B.slots → (∀ target, Steps p.tables e below (B.U.setTop { (F0 mm pc ls st) with pc := pc + 3, stack := v.toList ++ rest }) target → Steps p.tables e below (T'.setTop (F0 mm pc ls st)) target) →
      ∃ t, Steps p.tables e below (T'.setTop (F0 mm pc ls st)) t ∧ EP_ (mr_ k) D R s below Q t := by
    rintro T' ⟨U, l2, c2, s2⟩ v A a ⟨w, u, hv, hq, hrh, hcl, hsl, hbl⟩ X' st'
    rw [ps_eq hv] at st'
    obtain ⟨t, a1, b1⟩ := hq D p l e R s mm args below meth cd hC hK U.heap l2 c2 s2 ls hrh hcl hsl hbl hL U rfl X'
    exact ⟨t, st' t a1, b1⟩
  have pre : ∀ (T : State), T.heap = H → ∀ vm₁, s.WarmedH vm₁ → PrC_ D R h as ⟨T.setVm vm₁, locs, cells, slots⟩ as.toArray := fun T hT vm₁ _ => ⟨rfl, by show RH_ D h T.heap; rw [hT]; exact hH, hc, hs, hl⟩
  unfold ca_ at hca
  cases i with
  | invokevirtual x =>
    simp only at hca
    obtain ⟨q, hq, hq2⟩ := Option.bind_eq_some_iff.mp hca
    split at hq2
    · rename_i a tl has
      unfold gd_ at hq2
      split at hq2
      · rename_i hkd
        cases hq2
        simp only at has hkd
        subst has
        obtain ⟨rfl, hlk, hm, rfl, hnp, hr20, hfl, hdp⟩ := core x 0 0 0 hq
        have hm0 : m = 0 := by omega
        subst hm0
        have c1 := cm x hlk (by omega)
        obtain ⟨p9, hp9⟩ := lT_ok _ (lk_mem hlk)
        simp only [lck_, Bool.and_eq_true, decide_eq_true_eq] at hp9
        obtain ⟨⟨⟨w1, w2⟩, w3⟩, w4, w5, w6⟩ := hp9
        obtain ⟨-, m2, m3, m4, -⟩ := mt_facts c1
        have hcw := cw_in c1 (fun z => by rw [z] at w5; exact absurd w5 (by decide +kernel))
        have hcode : (Cond.code (my_ c) (mc_ c) (ml_ c) (mr_ c)).before args s = true := by
          have := hts _ hcw
          unfold cw_ at this
          rw [if_pos w4] at this
          exact this
        obtain ⟨C, T9, N9, hcl, -, -, how, -⟩ := cl_spec (t := mo_ c + 1) (by omega) (by omega)
        obtain ⟨cell, g1, g2, g3, -⟩ := hH.obj (a := a) hkd (by omega) (by omega)
        have hcls := (hK.1 (mo_ c + 1 - 1) _ hcl).2.1
        rw [← how] at hcls
        rw [show mo_ c + 1 - 1 = mo_ c by omega] at hcls g2
        have hsg := sig c1
        rw [w5] at hsg
        intro T hT X
        rcases vx_callV X hC.1 (C := ow_ (mo_ c)) (bytes := mc_ c) (maxL := ml_ c) (ret := mr_ c) hC.2.2.2.2.2.2.2.1 (hts _ (at_in w1)) (hts _ (at_in w2)) (hts _ (at_in w3)) hcode m3 (pay c1 hdp hfl hcw) (b := a) (cellB := cell) (by rw [hT]; exact g1) (by rw [g3]; rfl) (by rw [g2]; exact hcls) (g := F0 mm pc ls ((Value.ref a :: tl).reverse ++ rest)) rfl hml (argsL := tl) (rest := rest) (fun sg h9 => by have := hsg sg h9; simp at this hnp; omega) (by simp) (sum hr20 _ rfl) (by rw [hC.2.1]; exact hd) (pre T hT) with ⟨v, vm₁, B, hW₁, X', hpo, st'⟩ | ⟨q, vm₁, ⟨U', l2, c2, s2⟩, hW₁, X', ⟨u, ⟨hu1, hu2⟩, hqu, hrh, hcu, hsu, hlu⟩, st'⟩
        · exact back T B v _ _ hpo X' st'
        · obtain ⟨t, a1, b1⟩ := e_thrown (pc := pc) (rest := rest) (L := L) hC hK hrh hcu hsu hlu hL hu1 hu2 hqu U' rfl X'
          exact ⟨t, st'.trans a1, b1⟩
      · cases hq2
    · cases hq2
  | invokespecial x =>
    simp only at hca
    obtain ⟨q, hq, hq2⟩ := Option.bind_eq_some_iff.mp hca
    split at hq2
    · rename_i a tl has
      cases hq2
      simp only at has
      subst has
      obtain ⟨rfl, hlk, hm, rfl, hnp, hr20, hfl, hdp⟩ := core x 1 4 4 hq
      have c1 := cm x hlk (by omega)
      obtain ⟨p9, hp9⟩ := lT_ok _ (lk_mem hlk)
      obtain ⟨-, m2, m3, m4, -⟩ := mt_facts c1
      have hsg := sig c1
      have hne : ∀ A a q B, ¬ PxC_ D R (bk_ Ev_ k pc m c L rest Q) A a q B := by
        rintro A a q B ⟨u, -, hqu, -⟩
        simp only [bk_] at hqu
        rw [if_neg (by omega)] at hqu
        exact hqu
      rcases (show m = 1 ∨ m = 4 by omega) with rfl | rfl
      · simp only [lck_, Bool.and_eq_true, decide_eq_true_eq] at hp9
        obtain ⟨⟨w1, w2⟩, w4, w5, w6, w7⟩ := hp9
        have hcw := cw_in c1 (fun z => by rw [z] at w5; exact absurd w5 (by decide +kernel))
        have hcode : (Cond.code (my_ c) (mc_ c) (ml_ c) none).before args s = true := by
          have := hts _ hcw
          unfold cw_ at this
          rw [if_pos w4, w7] at this
          exact this
        rw [w5] at hsg
        intro T hT X
        obtain ⟨v, vm₁, B, hW₁, X', hpo, st'⟩ := callI X hC.1 (bytes := mc_ c) (maxL := ml_ c) hC.2.2.2.2.2.2.2.1 w6 (hts _ (at_in w1)) (hts _ (at_in w2)) hcode m3 (ev_backR (pay c1 hdp hfl hcw) hne) (g := F0 mm pc ls ((Value.ref a :: tl).reverse ++ rest)) rfl hml (a := a) (argsL := tl) (rest := rest) (fun sg h9 => by have := hsg sg h9; simp at this hnp; omega) (by simp) (sum hr20 _ rfl) (by rw [hC.2.1]; exact hd) (pre T hT)
        exact back T B v _ _ hpo X' st'
      · simp only [lck_, Bool.and_eq_true, decide_eq_true_eq] at hp9
        obtain ⟨⟨w1, w2⟩, w4, w5, w6, w7⟩ := hp9
        have hcw := cw_in c1 (fun z => by rw [z] at w5; exact absurd w5 (by decide +kernel))
        have hcode : (Cond.code (my_ c) (mc_ c) (ml_ c) none).before args s = true := by
          have := hts _ hcw
          unfold cw_ at this
          rw [if_pos w4, w7] at this
          exact this
        rw [w5] at hsg
        intro T hT X
        obtain ⟨v, vm₁, B, hW₁, X', hpo, st'⟩ := va_callIN X hC.1 (host := "EventLog") (bytes := mc_ c) (maxL := ml_ c) hC.2.2.2.2.2.2.2.1 w6 (va_Nw.use rfl (hK.2.2.2.1 _ (an_in w1))) (hts _ (at_in w2)) hcode m3 (ev_backR (pay c1 hdp hfl hcw) hne) (g := F0 mm pc ls ((Value.ref a :: tl).reverse ++ rest)) rfl hml (a := a) (argsL := tl) (rest := rest) (fun sg h9 => by have := hsg sg h9; simp at this hnp; omega) (by simp) (sum hr20 _ rfl) (by rw [hC.2.1]; exact hd) (pre T hT)
        exact back T B v _ _ hpo X' st'
    · cases hq2
  | invokestatic x =>
    simp only at hca
    obtain ⟨rfl, hlk, hm, rfl, hnp, hr20, hfl, hdp⟩ := core x 2 3 5 hca
    have c1 := cm x hlk (by omega)
    obtain ⟨p9, hp9⟩ := lT_ok _ (lk_mem hlk)
    obtain ⟨-, m2, m3, m4, -⟩ := mt_facts c1
    have hsg := sig c1
    have hne : ∀ A a q B, ¬ PxC_ D R (bk_ Ev_ k pc m c L rest Q) A a q B := by
      rintro A a q B ⟨u, -, hqu, -⟩
      simp only [bk_] at hqu
      rw [if_neg (by omega)] at hqu
      exact hqu
    have hcw : cw_ c ∈ wg_ := cw_in c1 (fun z => by
      rw [z] at hdp
      exact absurd hdp (Nat.not_lt.mpr (mp_top k hC.2.2.2.2.2.2.2.2.2.2.2.2)))
    rcases (show m = 2 ∨ m = 3 ∨ m = 5 by omega) with rfl | rfl | rfl
    · simp only [lck_, Bool.and_eq_true, decide_eq_true_eq] at hp9
      obtain ⟨⟨w1, w2⟩, w4, w5⟩ := hp9
      have hcode : (Cond.code (my_ c) (mc_ c) (ml_ c) (mr_ c)).before args s = true := by
        have := hts _ hcw
        unfold cw_ at this
        rw [if_pos w4] at this
        exact this
      rw [w5] at hsg
      intro T hT X
      obtain ⟨v, vm₁, B, hW₁, X', hpo, st'⟩ := callS X hC.1 (bytes := mc_ c) (maxL := ml_ c) (ret := mr_ c) hC.2.2.2.2.2.2.2.1 (hts _ (at_in w1)) (hts _ (at_in w2)) (hts _ m4) hcode m3 (ev_backR (pay c1 hdp hfl hcw) hne) (g := F0 mm pc ls (as.reverse ++ rest)) rfl hml (argsL := as) (rest := rest) (fun sg h9 => by have := hsg sg h9; simp at this; omega) rfl (sum hr20 _ rfl) (by rw [hC.2.1]; exact hd) (pre T hT)
      exact back T B v _ _ hpo X' st'
    · simp only [lck_, Bool.and_eq_true, decide_eq_true_eq] at hp9
      obtain ⟨⟨w1, w2⟩, w4, w5⟩ := hp9
      have hcode : (Cond.codeWith (my_ c) (mc_ c) (ml_ c) (mr_ c) (mh_ c)).before args s = true := by
        have := hts _ hcw
        unfold cw_ at this
        rw [if_neg w4] at this
        exact this
      rw [w5] at hsg
      intro T hT X
      obtain ⟨v, vm₁, B, hW₁, X', hpo, st'⟩ := vx_callSW X hC.1 (bytes := mc_ c) (maxL := ml_ c) (ret := mr_ c) (hh := mh_ c) hC.2.2.2.2.2.2.2.1 (hts _ (at_in w1)) (hts _ (at_in w2)) (hts _ m4) hcode m3 (ev_backR (pay c1 hdp hfl hcw) hne) (g := F0 mm pc ls (as.reverse ++ rest)) rfl hml (argsL := as) (rest := rest) (fun sg h9 => by have := hsg sg h9; simp at this; omega) rfl (sum hr20 _ rfl) (by rw [hC.2.1]; exact hd) (pre T hT)
      exact back T B v _ _ hpo X' st'
    · simp only [lck_, Bool.and_eq_true, decide_eq_true_eq] at hp9
      obtain ⟨⟨w1, w2⟩, w4, w5⟩ := hp9
      have hcode : (Cond.code (my_ c) (mc_ c) (ml_ c) (mr_ c)).before args s = true := by
        have := hts _ hcw
        unfold cw_ at this
        rw [if_pos w4] at this
        exact this
      rw [w5] at hsg
      intro T hT X
      obtain ⟨v, vm₁, B, hW₁, X', hpo, st'⟩ := va_callSN X hC.1 (host := "EventLog") (bytes := mc_ c) (maxL := ml_ c) (ret := mr_ c) hC.2.2.2.2.2.2.2.1 (va_Nw.use rfl (hK.2.2.2.1 _ (an_in w1))) (hts _ (at_in w2)) (hts _ m4) hcode m3 (ev_backR (pay c1 hdp hfl hcw) hne) (g := F0 mm pc ls (as.reverse ++ rest)) rfl hml (argsL := as) (rest := rest) (fun sg h9 => by have := hsg sg h9; simp at this; omega) rfl (sum hr20 _ rfl) (by rw [hC.2.1]; exact hd) (pre T hT)
      exact back T B v _ _ hpo X' st'
  | _ => cases hca
end Cl
