/-! ===== what the tables of the claim say of the tables here ===== -/
def tw_ (w : Cond) : Bool := decide (w ∈ lw_tbl) && goodWord w
def wg_ : List Cond := lw_tbl.filter goodWord
theorem tw_in {w : Cond} (h : tw_ w = true) : w ∈ wg_ := by
  simp only [tw_, Bool.and_eq_true, decide_eq_true_eq] at h
  exact List.mem_filter.mpr h
/-- words that are no good words, but stay true -/
def nl_ (w : Cond) : Bool := match w with | .methodLinkNest .. => true | .castable .. => true | .declares .. => true | .arrayOver (.object _) => true | _ => false
def wn_ : List Cond := lw_tbl.filter nl_
def tn_ (w : Cond) : Bool := decide (w ∈ lw_tbl) && nl_ w
theorem tn_in {w : Cond} (h : tn_ w = true) : w ∈ wn_ := by
  simp only [tn_, Bool.and_eq_true, decide_eq_true_eq] at h
  exact List.mem_filter.mpr h
def fck_ (q : Nat × Nat × Nat × Nat × Nat) : Bool := match cl_[q.2.2.1 - 1]? with
  | some c => decide (1 ≤ q.2.2.1 ∧ q.2.2.1 ≤ 14 ∧ q.2.2.2.1 < c.2.2) &&
    (tw_ (.fieldLink (ow_ q.1) q.2.1 (c.2.1 q.2.2.2.1).1 (c.2.1 q.2.2.2.1).2.1 (c.2.1 q.2.2.2.1).2.2.1) ||
      (tw_ (.fieldLink (ow_ q.1) q.2.1 "java/util/ArrayList" (c.2.1 q.2.2.2.1).2.1 (c.2.1 q.2.2.2.1).2.2.1) && tw_ (.sameField "java/util/ArrayList" (c.2.1 q.2.2.2.1).1 (c.2.1 q.2.2.2.1).2.1 (c.2.1 q.2.2.2.1).2.2.1))) &&
    (match fty_ q.2.2.1 q.2.2.2.1 with | .int => q.2.2.2.2 == 0 | .boolean => q.2.2.2.2 == 1 | .long => q.2.2.2.2 == 2 | .object _ => q.2.2.2.2 == 3 | .array _ => q.2.2.2.2 == 3 | _ => false)
  | none => false
theorem fck_ok : fT_.all fck_ = true := by decide +kernel
theorem cl_ok : cl_.all (fun q => (u_ws q.1 q.2.1 q.2.2).all tw_ && tw_ (.instantiable q.1 q.2.2) && tw_ (.initialized q.1)) = true := by decide +kernel
theorem kI_ok : kI_.all (fun q => tw_ (.constant (ow_ q.1) q.2.1 q.2.2)) = true := by decide +kernel
theorem kJ_ok : kJ_.all (fun q => tw_ (.constantLong (ow_ q.1) q.2.1 q.2.2)) = true := by decide +kernel
def kn_ (t : Nat) : String := if t = 34 then "java/lang/Object" else if t = 35 then "EventLog$Block" else if t = 36 then "EventLog$Row" else if 20 ≤ t then xn_.getD (t - 20) "" else on_.getD (t - 1) ""
theorem cT_ok : cT_.all (fun q => tw_ (.classLink (ow_ q.1) q.2.1 (kn_ q.2.2))) = true := by decide +kernel
theorem aT_ok : aT_.all (fun q => tw_ (.classLink (ow_ q.1) q.2.1 (kn_ q.2.2))) = true := by decide +kernel
def ex_ : List String := ["java/lang/RuntimeException", "java/lang/Exception"]
theorem xT_ok : xT_.all (fun q => (vx_at0 (ow_ q.1) q.2.1 (kn_ q.2.2) ex_).all (fun w => tw_ w || tn_ w)) = true := by decide +kernel
def cw_ (k : Nat) : Cond := if mh_ k = [] then .code (my_ k) (mc_ k) (ml_ k) (mr_ k) else .codeWith (my_ k) (mc_ k) (ml_ k) (mr_ k) (mh_ k)
