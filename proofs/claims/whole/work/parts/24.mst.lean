/-! ===== the model's arrays: field, place behind the object, kind, length ===== -/
def ma_ : List (Nat × Nat × Nat × Nat) := [(2, 1, 30, 200), (4, 2, 30, 41), (5, 3, 30, 3280), (6, 4, 30, 256), (7, 5, 30, 3072), (9, 6, 30, 6), (10, 7, 30, 6), (11, 8, 30, 96), (12, 9, 30, 4), (13, 10, 30, 480), (14, 11, 33, 480), (15, 12, 30, 2880), (16, 13, 30, 2880), (17, 14, 30, 46080), (18, 15, 33, 4), (19, 16, 30, 4), (21, 17, 30, 400), (23, 18, 30, 6144), (26, 19, 30, 6144), (28, 20, 30, 2900), (29, 21, 30, 2900), (30, 22, 33, 2900), (31, 23, 30, 17400), (32, 24, 30, 17400), (33, 25, 30, 2900), (36, 26, 30, 4), (37, 27, 30, 4), (38, 28, 30, 4), (39, 29, 30, 4), (40, 30, 30, 96), (42, 31, 30, 400)]
def MS (h : MH_) (m : Nat) : Prop := kd_ h m = 13 ∧ ∀ q ∈ ma_, gP_ h m q.1 = some (m + q.2.1) ∧ kd_ h (m + q.2.1) = q.2.2.1 ∧ ln_ h (m + q.2.1) = q.2.2.2
theorem mp2 {h : MH_} {m : Nat} (hm : MS h m) : gP_ h m 2 = some (m + 1) := (hm.2 (2, 1, 30, 200) (by decide)).1
theorem mk1 {h : MH_} {m : Nat} (hm : MS h m) : kd_ h (m + 1) = 30 := (hm.2 (2, 1, 30, 200) (by decide)).2.1
theorem mn1 {h : MH_} {m : Nat} (hm : MS h m) : ln_ h (m + 1) = 200 := (hm.2 (2, 1, 30, 200) (by decide)).2.2
theorem mp4 {h : MH_} {m : Nat} (hm : MS h m) : gP_ h m 4 = some (m + 2) := (hm.2 (4, 2, 30, 41) (by decide)).1
theorem mk2 {h : MH_} {m : Nat} (hm : MS h m) : kd_ h (m + 2) = 30 := (hm.2 (4, 2, 30, 41) (by decide)).2.1
theorem mn2 {h : MH_} {m : Nat} (hm : MS h m) : ln_ h (m + 2) = 41 := (hm.2 (4, 2, 30, 41) (by decide)).2.2
theorem mp5 {h : MH_} {m : Nat} (hm : MS h m) : gP_ h m 5 = some (m + 3) := (hm.2 (5, 3, 30, 3280) (by decide)).1
theorem mk3 {h : MH_} {m : Nat} (hm : MS h m) : kd_ h (m + 3) = 30 := (hm.2 (5, 3, 30, 3280) (by decide)).2.1
theorem mn3 {h : MH_} {m : Nat} (hm : MS h m) : ln_ h (m + 3) = 3280 := (hm.2 (5, 3, 30, 3280) (by decide)).2.2
theorem mp6 {h : MH_} {m : Nat} (hm : MS h m) : gP_ h m 6 = some (m + 4) := (hm.2 (6, 4, 30, 256) (by decide)).1
theorem mk4 {h : MH_} {m : Nat} (hm : MS h m) : kd_ h (m + 4) = 30 := (hm.2 (6, 4, 30, 256) (by decide)).2.1
theorem mn4 {h : MH_} {m : Nat} (hm : MS h m) : ln_ h (m + 4) = 256 := (hm.2 (6, 4, 30, 256) (by decide)).2.2
theorem mp7 {h : MH_} {m : Nat} (hm : MS h m) : gP_ h m 7 = some (m + 5) := (hm.2 (7, 5, 30, 3072) (by decide)).1
theorem mk5 {h : MH_} {m : Nat} (hm : MS h m) : kd_ h (m + 5) = 30 := (hm.2 (7, 5, 30, 3072) (by decide)).2.1
theorem mn5 {h : MH_} {m : Nat} (hm : MS h m) : ln_ h (m + 5) = 3072 := (hm.2 (7, 5, 30, 3072) (by decide)).2.2
theorem mp9 {h : MH_} {m : Nat} (hm : MS h m) : gP_ h m 9 = some (m + 6) := (hm.2 (9, 6, 30, 6) (by decide)).1
theorem mk6 {h : MH_} {m : Nat} (hm : MS h m) : kd_ h (m + 6) = 30 := (hm.2 (9, 6, 30, 6) (by decide)).2.1
theorem mn6 {h : MH_} {m : Nat} (hm : MS h m) : ln_ h (m + 6) = 6 := (hm.2 (9, 6, 30, 6) (by decide)).2.2
theorem mp10 {h : MH_} {m : Nat} (hm : MS h m) : gP_ h m 10 = some (m + 7) := (hm.2 (10, 7, 30, 6) (by decide)).1
theorem mk7 {h : MH_} {m : Nat} (hm : MS h m) : kd_ h (m + 7) = 30 := (hm.2 (10, 7, 30, 6) (by decide)).2.1
theorem mn7 {h : MH_} {m : Nat} (hm : MS h m) : ln_ h (m + 7) = 6 := (hm.2 (10, 7, 30, 6) (by decide)).2.2
theorem mp11 {h : MH_} {m : Nat} (hm : MS h m) : gP_ h m 11 = some (m + 8) := (hm.2 (11, 8, 30, 96) (by decide)).1
theorem mk8 {h : MH_} {m : Nat} (hm : MS h m) : kd_ h (m + 8) = 30 := (hm.2 (11, 8, 30, 96) (by decide)).2.1
theorem mn8 {h : MH_} {m : Nat} (hm : MS h m) : ln_ h (m + 8) = 96 := (hm.2 (11, 8, 30, 96) (by decide)).2.2
theorem mp12 {h : MH_} {m : Nat} (hm : MS h m) : gP_ h m 12 = some (m + 9) := (hm.2 (12, 9, 30, 4) (by decide)).1
theorem mk9 {h : MH_} {m : Nat} (hm : MS h m) : kd_ h (m + 9) = 30 := (hm.2 (12, 9, 30, 4) (by decide)).2.1
theorem mn9 {h : MH_} {m : Nat} (hm : MS h m) : ln_ h (m + 9) = 4 := (hm.2 (12, 9, 30, 4) (by decide)).2.2
theorem mp13 {h : MH_} {m : Nat} (hm : MS h m) : gP_ h m 13 = some (m + 10) := (hm.2 (13, 10, 30, 480) (by decide)).1
theorem mk10 {h : MH_} {m : Nat} (hm : MS h m) : kd_ h (m + 10) = 30 := (hm.2 (13, 10, 30, 480) (by decide)).2.1
theorem mn10 {h : MH_} {m : Nat} (hm : MS h m) : ln_ h (m + 10) = 480 := (hm.2 (13, 10, 30, 480) (by decide)).2.2
theorem mp14 {h : MH_} {m : Nat} (hm : MS h m) : gP_ h m 14 = some (m + 11) := (hm.2 (14, 11, 33, 480) (by decide)).1
theorem mk11 {h : MH_} {m : Nat} (hm : MS h m) : kd_ h (m + 11) = 33 := (hm.2 (14, 11, 33, 480) (by decide)).2.1
theorem mn11 {h : MH_} {m : Nat} (hm : MS h m) : ln_ h (m + 11) = 480 := (hm.2 (14, 11, 33, 480) (by decide)).2.2
theorem mp15 {h : MH_} {m : Nat} (hm : MS h m) : gP_ h m 15 = some (m + 12) := (hm.2 (15, 12, 30, 2880) (by decide)).1
theorem mk12 {h : MH_} {m : Nat} (hm : MS h m) : kd_ h (m + 12) = 30 := (hm.2 (15, 12, 30, 2880) (by decide)).2.1
theorem mn12 {h : MH_} {m : Nat} (hm : MS h m) : ln_ h (m + 12) = 2880 := (hm.2 (15, 12, 30, 2880) (by decide)).2.2
theorem mp16 {h : MH_} {m : Nat} (hm : MS h m) : gP_ h m 16 = some (m + 13) := (hm.2 (16, 13, 30, 2880) (by decide)).1
theorem mk13 {h : MH_} {m : Nat} (hm : MS h m) : kd_ h (m + 13) = 30 := (hm.2 (16, 13, 30, 2880) (by decide)).2.1
theorem mn13 {h : MH_} {m : Nat} (hm : MS h m) : ln_ h (m + 13) = 2880 := (hm.2 (16, 13, 30, 2880) (by decide)).2.2
theorem mp17 {h : MH_} {m : Nat} (hm : MS h m) : gP_ h m 17 = some (m + 14) := (hm.2 (17, 14, 30, 46080) (by decide)).1
theorem mk14 {h : MH_} {m : Nat} (hm : MS h m) : kd_ h (m + 14) = 30 := (hm.2 (17, 14, 30, 46080) (by decide)).2.1
theorem mn14 {h : MH_} {m : Nat} (hm : MS h m) : ln_ h (m + 14) = 46080 := (hm.2 (17, 14, 30, 46080) (by decide)).2.2
theorem mp18 {h : MH_} {m : Nat} (hm : MS h m) : gP_ h m 18 = some (m + 15) := (hm.2 (18, 15, 33, 4) (by decide)).1
theorem mk15 {h : MH_} {m : Nat} (hm : MS h m) : kd_ h (m + 15) = 33 := (hm.2 (18, 15, 33, 4) (by decide)).2.1
theorem mn15 {h : MH_} {m : Nat} (hm : MS h m) : ln_ h (m + 15) = 4 := (hm.2 (18, 15, 33, 4) (by decide)).2.2
theorem mp19 {h : MH_} {m : Nat} (hm : MS h m) : gP_ h m 19 = some (m + 16) := (hm.2 (19, 16, 30, 4) (by decide)).1
theorem mk16 {h : MH_} {m : Nat} (hm : MS h m) : kd_ h (m + 16) = 30 := (hm.2 (19, 16, 30, 4) (by decide)).2.1
theorem mn16 {h : MH_} {m : Nat} (hm : MS h m) : ln_ h (m + 16) = 4 := (hm.2 (19, 16, 30, 4) (by decide)).2.2
theorem mp21 {h : MH_} {m : Nat} (hm : MS h m) : gP_ h m 21 = some (m + 17) := (hm.2 (21, 17, 30, 400) (by decide)).1
theorem mk17 {h : MH_} {m : Nat} (hm : MS h m) : kd_ h (m + 17) = 30 := (hm.2 (21, 17, 30, 400) (by decide)).2.1
theorem mn17 {h : MH_} {m : Nat} (hm : MS h m) : ln_ h (m + 17) = 400 := (hm.2 (21, 17, 30, 400) (by decide)).2.2
theorem mp23 {h : MH_} {m : Nat} (hm : MS h m) : gP_ h m 23 = some (m + 18) := (hm.2 (23, 18, 30, 6144) (by decide)).1
theorem mk18 {h : MH_} {m : Nat} (hm : MS h m) : kd_ h (m + 18) = 30 := (hm.2 (23, 18, 30, 6144) (by decide)).2.1
theorem mn18 {h : MH_} {m : Nat} (hm : MS h m) : ln_ h (m + 18) = 6144 := (hm.2 (23, 18, 30, 6144) (by decide)).2.2
theorem mp26 {h : MH_} {m : Nat} (hm : MS h m) : gP_ h m 26 = some (m + 19) := (hm.2 (26, 19, 30, 6144) (by decide)).1
theorem mk19 {h : MH_} {m : Nat} (hm : MS h m) : kd_ h (m + 19) = 30 := (hm.2 (26, 19, 30, 6144) (by decide)).2.1
theorem mn19 {h : MH_} {m : Nat} (hm : MS h m) : ln_ h (m + 19) = 6144 := (hm.2 (26, 19, 30, 6144) (by decide)).2.2
theorem mp28 {h : MH_} {m : Nat} (hm : MS h m) : gP_ h m 28 = some (m + 20) := (hm.2 (28, 20, 30, 2900) (by decide)).1
theorem mk20 {h : MH_} {m : Nat} (hm : MS h m) : kd_ h (m + 20) = 30 := (hm.2 (28, 20, 30, 2900) (by decide)).2.1
theorem mn20 {h : MH_} {m : Nat} (hm : MS h m) : ln_ h (m + 20) = 2900 := (hm.2 (28, 20, 30, 2900) (by decide)).2.2
theorem mp29 {h : MH_} {m : Nat} (hm : MS h m) : gP_ h m 29 = some (m + 21) := (hm.2 (29, 21, 30, 2900) (by decide)).1
theorem mk21 {h : MH_} {m : Nat} (hm : MS h m) : kd_ h (m + 21) = 30 := (hm.2 (29, 21, 30, 2900) (by decide)).2.1
theorem mn21 {h : MH_} {m : Nat} (hm : MS h m) : ln_ h (m + 21) = 2900 := (hm.2 (29, 21, 30, 2900) (by decide)).2.2
theorem mp30 {h : MH_} {m : Nat} (hm : MS h m) : gP_ h m 30 = some (m + 22) := (hm.2 (30, 22, 33, 2900) (by decide)).1
theorem mk22 {h : MH_} {m : Nat} (hm : MS h m) : kd_ h (m + 22) = 33 := (hm.2 (30, 22, 33, 2900) (by decide)).2.1
theorem mn22 {h : MH_} {m : Nat} (hm : MS h m) : ln_ h (m + 22) = 2900 := (hm.2 (30, 22, 33, 2900) (by decide)).2.2
theorem mp31 {h : MH_} {m : Nat} (hm : MS h m) : gP_ h m 31 = some (m + 23) := (hm.2 (31, 23, 30, 17400) (by decide)).1
theorem mk23 {h : MH_} {m : Nat} (hm : MS h m) : kd_ h (m + 23) = 30 := (hm.2 (31, 23, 30, 17400) (by decide)).2.1
theorem mn23 {h : MH_} {m : Nat} (hm : MS h m) : ln_ h (m + 23) = 17400 := (hm.2 (31, 23, 30, 17400) (by decide)).2.2
theorem mp32 {h : MH_} {m : Nat} (hm : MS h m) : gP_ h m 32 = some (m + 24) := (hm.2 (32, 24, 30, 17400) (by decide)).1
theorem mk24 {h : MH_} {m : Nat} (hm : MS h m) : kd_ h (m + 24) = 30 := (hm.2 (32, 24, 30, 17400) (by decide)).2.1
theorem mn24 {h : MH_} {m : Nat} (hm : MS h m) : ln_ h (m + 24) = 17400 := (hm.2 (32, 24, 30, 17400) (by decide)).2.2
theorem mp33 {h : MH_} {m : Nat} (hm : MS h m) : gP_ h m 33 = some (m + 25) := (hm.2 (33, 25, 30, 2900) (by decide)).1
theorem mk25 {h : MH_} {m : Nat} (hm : MS h m) : kd_ h (m + 25) = 30 := (hm.2 (33, 25, 30, 2900) (by decide)).2.1
theorem mn25 {h : MH_} {m : Nat} (hm : MS h m) : ln_ h (m + 25) = 2900 := (hm.2 (33, 25, 30, 2900) (by decide)).2.2
theorem mp36 {h : MH_} {m : Nat} (hm : MS h m) : gP_ h m 36 = some (m + 26) := (hm.2 (36, 26, 30, 4) (by decide)).1
theorem mk26 {h : MH_} {m : Nat} (hm : MS h m) : kd_ h (m + 26) = 30 := (hm.2 (36, 26, 30, 4) (by decide)).2.1
theorem mn26 {h : MH_} {m : Nat} (hm : MS h m) : ln_ h (m + 26) = 4 := (hm.2 (36, 26, 30, 4) (by decide)).2.2
theorem mp37 {h : MH_} {m : Nat} (hm : MS h m) : gP_ h m 37 = some (m + 27) := (hm.2 (37, 27, 30, 4) (by decide)).1
theorem mk27 {h : MH_} {m : Nat} (hm : MS h m) : kd_ h (m + 27) = 30 := (hm.2 (37, 27, 30, 4) (by decide)).2.1
theorem mn27 {h : MH_} {m : Nat} (hm : MS h m) : ln_ h (m + 27) = 4 := (hm.2 (37, 27, 30, 4) (by decide)).2.2
theorem mp38 {h : MH_} {m : Nat} (hm : MS h m) : gP_ h m 38 = some (m + 28) := (hm.2 (38, 28, 30, 4) (by decide)).1
theorem mk28 {h : MH_} {m : Nat} (hm : MS h m) : kd_ h (m + 28) = 30 := (hm.2 (38, 28, 30, 4) (by decide)).2.1
theorem mn28 {h : MH_} {m : Nat} (hm : MS h m) : ln_ h (m + 28) = 4 := (hm.2 (38, 28, 30, 4) (by decide)).2.2
theorem mp39 {h : MH_} {m : Nat} (hm : MS h m) : gP_ h m 39 = some (m + 29) := (hm.2 (39, 29, 30, 4) (by decide)).1
theorem mk29 {h : MH_} {m : Nat} (hm : MS h m) : kd_ h (m + 29) = 30 := (hm.2 (39, 29, 30, 4) (by decide)).2.1
theorem mn29 {h : MH_} {m : Nat} (hm : MS h m) : ln_ h (m + 29) = 4 := (hm.2 (39, 29, 30, 4) (by decide)).2.2
theorem mp40 {h : MH_} {m : Nat} (hm : MS h m) : gP_ h m 40 = some (m + 30) := (hm.2 (40, 30, 30, 96) (by decide)).1
theorem mk30 {h : MH_} {m : Nat} (hm : MS h m) : kd_ h (m + 30) = 30 := (hm.2 (40, 30, 30, 96) (by decide)).2.1
theorem mn30 {h : MH_} {m : Nat} (hm : MS h m) : ln_ h (m + 30) = 96 := (hm.2 (40, 30, 30, 96) (by decide)).2.2
theorem mp42 {h : MH_} {m : Nat} (hm : MS h m) : gP_ h m 42 = some (m + 31) := (hm.2 (42, 31, 30, 400) (by decide)).1
theorem mk31 {h : MH_} {m : Nat} (hm : MS h m) : kd_ h (m + 31) = 30 := (hm.2 (42, 31, 30, 400) (by decide)).2.1
theorem mn31 {h : MH_} {m : Nat} (hm : MS h m) : ln_ h (m + 31) = 400 := (hm.2 (42, 31, 30, 400) (by decide)).2.2
theorem MS.fz {S : Nat → Nat → Prop} {h h' : MH_} {m : Nat} (hm : MS h m) (f : Fz S h h') : MS h' m :=
  ⟨by rw [f.kd]; exact hm.1, fun q hq => ⟨by rw [f.gP]; exact (hm.2 q hq).1, by rw [f.kd]; exact (hm.2 q hq).2.1, by rw [f.ln]; exact (hm.2 q hq).2.2⟩⟩
/-- fields and arrays of the model that may change -/
def SM (m : Nat) (fs as : List Nat) : Nat → Nat → Prop := fun a i => (a = m ∧ i ∈ fs) ∨ ∃ c ∈ as, a = m + c
theorem SM.f {m i : Nat} {fs as : List Nat} (hf : i ∈ fs) : SM m fs as m i := Or.inl ⟨rfl, hf⟩
theorem SM.a {m c i : Nat} {fs as : List Nat} (hc : c ∈ as) : SM m fs as (m + c) i := Or.inr ⟨c, hc, rfl⟩
theorem SM.nf {m i : Nat} {fs as : List Nat} (hf : ¬ i ∈ fs) (ha : ¬ 0 ∈ as) : ¬ SM m fs as m i := by
  rintro (⟨-, z⟩ | ⟨c, hc, z⟩)
  · exact hf z
  · exact ha ((show c = 0 by omega) ▸ hc)
theorem SM.na {m c i : Nat} {fs as : List Nat} (hc : ¬ c ∈ as) (h0 : ¬ c = 0) : ¬ SM m fs as (m + c) i := by
  rintro (⟨z, -⟩ | ⟨d, hd, z⟩)
  · omega
  · exact hc ((show d = c by omega) ▸ hd)
theorem SM.mono {m : Nat} {fs as fs' as' : List Nat} (h1 : ∀ i ∈ fs, i ∈ fs') (h2 : ∀ i ∈ as, i ∈ as') : ∀ a i, SM m fs as a i → SM m fs' as' a i := by
  rintro a i (⟨rfl, z⟩ | ⟨d, hd, rfl⟩)
  · exact Or.inl ⟨rfl, h1 _ z⟩
  · exact Or.inr ⟨d, h2 _ hd, rfl⟩
