/-! ===== what both sides compute ===== -/
/-- a piece of a format: a sign, or a slot (its letter, its digit) -/
abbrev Tok : Type := Nat ⊕ (Nat × Nat)
def sp1 : Tok → List Nat
  | .inl b => if b = 123 ∨ b = 125 then [b, b] else [b]
  | .inr (k, d) => if k = 102 ∨ k = 101 then [123, k, 48 + d, 125] else [123, k, 125]
def spell (ts : List Tok) : List Nat := ts.flatMap sp1
def slts (ts : List Tok) : List (Nat × Nat) := ts.filterMap (fun t => match t with | .inl _ => none | .inr q => some q)
abbrev sg (b : Nat) : Prop := 32 ≤ b ∧ b ≤ 126
def okT : Tok → Prop
  | .inl b => sg b
  | .inr (k, d) => (k = 102 ∧ 1 ≤ d ∧ d ≤ 6) ∨ (k = 101 ∧ d ≤ 7) ∨ ((k = 100 ∨ k = 117 ∨ k = 120 ∨ k = 116) ∧ d = 0)
def tcons (t : Tok) : Nat ⊕ List Tok → Nat ⊕ List Tok
  | .inl p => .inl p
  | .inr ts => .inr (t :: ts)
/-- the place of the first fault, or the pieces -/
def fm : List Nat → Nat → Nat → Nat ⊕ List Tok
  | [], _, _ => .inr []
  | b :: r, p, n =>
    if ¬ (p < 80 ∧ sg b) then .inl p
    else if b = 125 then
      match r with
      | [] => .inl (p + 1)
      | c :: r' => if p + 1 < 80 ∧ c = 125 then tcons (.inl 125) (fm r' (p + 2) n) else .inl (p + 1)
    else if ¬ b = 123 then tcons (.inl b) (fm r (p + 1) n)
    else
      match r with
      | [] => if n = 6 then .inl p else .inl (p + 1)
      | c :: r' =>
        if c = 123 then (if p + 1 < 80 then tcons (.inl 123) (fm r' (p + 2) n) else .inl (p + 1))
        else if n = 6 then .inl p
        else if ¬ (p + 1 < 80) then .inl (p + 1)
        else if c = 102 ∨ c = 101 then
          match r' with
          | [] => .inl (p + 2)
          | d :: r'' =>
            if p + 2 < 80 ∧ ((c = 102 ∧ 49 ≤ d ∧ d ≤ 54) ∨ (c = 101 ∧ 48 ≤ d ∧ d ≤ 55)) then
              match r'' with
              | [] => .inl (p + 3)
              | e :: r3 => if p + 3 < 80 ∧ e = 125 then tcons (.inr (c, d - 48)) (fm r3 (p + 4) (n + 1)) else .inl (p + 3)
            else .inl (p + 2)
        else if c = 100 ∨ c = 117 ∨ c = 120 ∨ c = 116 then
          match r' with
          | [] => .inl (p + 2)
          | e :: r'' => if p + 2 < 80 ∧ e = 125 then tcons (.inr (c, 0)) (fm r'' (p + 3) (n + 1)) else .inl (p + 2)
        else .inl (p + 1)
