/-! ===== agreement: queries, lists, events' heads ===== -/
theorem Ew.ag {h h' : MH_} {e w s : Nat} {t : Int64} (he : Ew h e w s t) (g : Ag e 4 h h') : Ew h' e w s t := ⟨by rw [g.gI e _ (by omega) (by omega)]; exact he.1, by rw [g.gI e _ (by omega) (by omega)]; exact he.2.1, by rw [g.gJ e _ (by omega) (by omega)]; exact he.2.2⟩
theorem Qs.ag {h h' : MH_} {q : Nat} (hq : Qs h q) (g : Ag q 13 h h') : Qs h' q := by
  obtain ⟨⟨a1, a2, a3, a4, a5⟩, ⟨b1, b2, b3, b4, b5, b6, b7, b8⟩, c⟩ := hq
  exact ⟨⟨by rw [g.kd q (by omega) (by omega), a1], by rw [g.gP q _ (by omega) (by omega), a2], by rw [g.gP q _ (by omega) (by omega), a3], by rw [g.gP q _ (by omega) (by omega), a4], by rw [g.gP q _ (by omega) (by omega), a5]⟩, ⟨by rw [g.kd (q + 1) (by omega) (by omega), b1], by rw [g.ln (q + 1) (by omega) (by omega), b2], by rw [g.kd (q + 2) (by omega) (by omega), b3], by rw [g.ln (q + 2) (by omega) (by omega), b4], by rw [g.kd (q + 3) (by omega) (by omega), b5], by rw [g.ln (q + 3) (by omega) (by omega), b6], by rw [g.kd (q + 4) (by omega) (by omega), b7], by rw [g.ln (q + 4) (by omega) (by omega), b8]⟩, fun i hi => by rw [g.gP (q + 4) _ (by omega) (by omega), c i hi]⟩
theorem Qr.ag {h h' : MH_} {q : Nat} {tms : List Tm} (hq : Qr h q tms) (g : Ag q 13 h h') : Qr h' q tms := by
  obtain ⟨a, b, c, d, e⟩ := hq
  refine ⟨a.ag g, fun i hi => ?_, c, by rw [g.gI q _ (by omega) (by omega), d], fun i hi => ?_⟩
  · obtain ⟨l, hl⟩ := b i hi
    exact ⟨l, hl.ag (g.sub (by omega) (by omega))⟩
  · have x := e i hi
    revert x
    cases tms[i] with
    | inl y =>
      obtain ⟨k, a, b⟩ := y
      intro x
      exact ⟨x.1, by rw [g.gI (q + 1) _ (by omega) (by omega)]; exact x.2.1, by rw [g.gI (q + 2) _ (by omega) (by omega)]; exact x.2.2.1, by rw [g.gI (q + 3) _ (by omega) (by omega)]; exact x.2.2.2⟩
    | inr t =>
      intro x
      exact ⟨by rw [g.gI (q + 1) _ (by omega) (by omega)]; exact x.1, x.2.ag (g.sub (by omega) (by omega))⟩
theorem Al.ag {h h' : MH_} {a arr : Nat} {xs : List Nat} (hl : Al h a arr xs) (hm : em_ h' = em_ h) (g : Ag a 1 h h') (g2 : Ag arr 1 h h') : Al h' a arr xs := by
  obtain ⟨a1, a2, a3, a4⟩ := hl
  refine ⟨by rw [g.kd a (by omega) (by omega), a1], by rw [g.gP a _ (by omega) (by omega), a2], by rw [g.gI a _ (by omega) (by omega), a3], ?_⟩
  rcases a4 with ⟨b1, b2, b3, b4⟩ | ⟨b1, b2, b3, b4, b5⟩
  · exact Or.inl ⟨b1, by rw [hm, b2], by rw [g2.kd arr (by omega) (by omega), b3], by rw [g2.ln arr (by omega) (by omega), b4]⟩
  · exact Or.inr ⟨by rw [g2.kd arr (by omega) (by omega), b1], by rw [g2.ln arr (by omega) (by omega)]; exact b2, by rw [g2.ln arr (by omega) (by omega)]; exact b3, by rw [g2.ln arr (by omega) (by omega)]; exact b4, fun i hi => by rw [g2.gP arr _ (by omega) (by omega), b5 i hi]⟩
