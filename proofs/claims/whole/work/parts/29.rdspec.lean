/-! a valley told by a text, as the class reads it -/
def tns (f : Nat → Int32) (n : Nat) (lo hi : Int32) (s : Nat) : Nat := if iw (nmb f n s) lo hi then nx f n s else s
def tnk (f : Nat → Int32) (n : Nat) (lo hi : Int32) (s : Nat) (tk : Int32) : Int32 := if iw (nmb f n s) lo hi then nmb f n s else tk
def stp (f : Nat → Int32) (n s : Nat) : Nat := if tkT f n s = 3 then nx f n s else s
theorem tns_t {f : Nat → Int32} {n s : Nat} {lo hi : Int32} (h : iw (nmb f n s) lo hi = true) : tns f n lo hi s = nx f n s := if_pos h
theorem tns_f {f : Nat → Int32} {n s : Nat} {lo hi : Int32} (h : iw (nmb f n s) lo hi = false) : tns f n lo hi s = s := if_neg (by rw [h]; decide)
theorem tnk_t {f : Nat → Int32} {n s : Nat} {lo hi tk : Int32} (h : iw (nmb f n s) lo hi = true) : tnk f n lo hi s tk = nmb f n s := if_pos h
theorem tnk_f {f : Nat → Int32} {n s : Nat} {lo hi tk : Int32} (h : iw (nmb f n s) lo hi = false) : tnk f n lo hi s tk = tk := if_neg (by rw [h]; decide)
theorem stp_t {f : Nat → Int32} {n s : Nat} (h : tkT f n s = 3) : stp f n s = nx f n s := if_pos h
theorem stp_f {f : Nat → Int32} {n s : Nat} (h : ¬ tkT f n s = 3) : stp f n s = s := if_neg h
theorem stp_b {f : Nat → Int32} {n s : Nat} (h : s ≤ n) : stp f n s ≤ n := by unfold stp; split; exact nx_b h; exact h
def rdK (f : Nat → Int32) (n s : Nat) (ck : Nat → Int32) : Bool × Nat × (Nat → Int32) :=
  if iw (nmb f n (nx f n s)) 0 5 then (if iw (nmb f n (nx f n (nx f n s))) 1 9 then (decide (tkT f n (nx f n (nx f n (nx f n s))) = 3), stp f n (nx f n (nx f n (nx f n s))), upd (upd ck 0 (nmb f n (nx f n s))) 1 (nmb f n (nx f n (nx f n s)))) else (false, nx f n (nx f n s), ck)) else (false, nx f n s, ck)
def rdP (f : Nat → Int32) (n s : Nat) (m : Nat) (pf : Nat → Int32) : Bool × Nat × Nat × (Nat → Int32) :=
  if 7 ≤ m then (false, s, m, pf) else
  if iw (nmb f n (nx f n s)) 0 5 then (if iw (nmb f n (nx f n (nx f n s))) 0 1 then (if iw (nmb f n (nx f n (nx f n (nx f n s)))) 1 9 then (decide (tkT f n (nx f n (nx f n (nx f n (nx f n s)))) = 3), stp f n (nx f n (nx f n (nx f n (nx f n s)))), m + 1, upd (upd (upd pf (m * 3 + 0) (nmb f n (nx f n s))) (m * 3 + 1) (nmb f n (nx f n (nx f n s)))) (m * 3 + 2) (nmb f n (nx f n (nx f n (nx f n s))))) else (false, nx f n (nx f n (nx f n s)), m, pf)) else (false, nx f n (nx f n s), m, pf)) else (false, nx f n s, m, pf)
def rdU (f : Nat → Int32) (n s : Nat) (ck : Nat → Int32) : Bool × Nat × (Nat → Int32) :=
  if ck 3 = 1 then (false, s, ck) else if iw (nmb f n (nx f n s)) 0 1 then (decide (tkT f n (nx f n (nx f n s)) = 3), stp f n (nx f n (nx f n s)), upd (upd ck 2 (nmb f n (nx f n s))) 3 1) else (false, nx f n s, ck)
def rdH (f : Nat → Int32) (n s : Nat) (ck : Nat → Int32) : Bool × Nat × (Nat → Int32) :=
  if iw (nmb f n (nx f n s)) 1 99 then (decide (tkT f n (nx f n (nx f n s)) = 3), stp f n (nx f n (nx f n s)), lps ck (nmb f n (nx f n s))) else (false, nx f n s, ck)
/-- a stroke told by the text -/
def rdT (f : Nat → Int32) (n s : Nat) (wide : Int32) (ck wd : Nat → Int32) (m : Nat) (pf : Nat → Int32) : Bool × Nat × (Nat → Int32) :=
  if decide (ck 3 = 1) && (onb m pf (nmb f n (nx f n s)) (ck 2) && decide (ck 6 < 9999)) then (decide (tkT f n (nx f n (nx f n s)) = 3), stp f n (nx f n (nx f n s)), stk ck (decide (wide ≤ rch ck wd pf (nmb f n (nx f n s)).toNatClampNeg (ck 6).toNatClampNeg (pf ((nmb f n (nx f n s)).toNatClampNeg * 3 + 1)) (ck 1)))) else (false, nx f n s, ck)
def rdws (f : Nat → Int32) (n s : Nat) (wd : Nat → Int32) : Nat → Nat × (Nat → Int32)
  | 0 => (nx f n s, wd)
  | m + 1 => (nx f n (rdws f n s wd m).1, upd (rdws f n s wd m).2 m (nmb f n (rdws f n s wd m).1 - 4))
def rdwn (f : Nat → Int32) (n s : Nat) (wd : Nat → Int32) : Nat := fa_first (fun m => !(iw (nmb f n (rdws f n s wd m).1) 0 8)) 6
def rdW (f : Nat → Int32) (n s : Nat) (wd : Nat → Int32) : Bool × Nat × (Nat → Int32) :=
  (decide (0 < rdwn f n s wd) && decide (tkT f n (rdws f n s wd (rdwn f n s wd)).1 = 3), if 0 < rdwn f n s wd then stp f n (rdws f n s wd (rdwn f n s wd)).1 else (rdws f n s wd (rdwn f n s wd)).1, (rdws f n s wd (rdwn f n s wd)).2)
theorem rdws_b {f : Nat → Int32} {n s : Nat} {wd : Nat → Int32} (h : s ≤ n) : ∀ m, (rdws f n s wd m).1 ≤ n
  | 0 => nx_b h
  | m + 1 => nx_b (rdws_b h m)
theorem c_X8_adv (l : Launch) (G : gT) (tx tq tn s : Nat) (tf : Nat → Int32) (hs : s ≤ tn) (hn : tn ≤ 150) : MV l G yX8_advance cX8_advance 1 ({ frames := 1, cells := 0, slots := 0, locals := 20 }) [.ref tx] [(tx, .inr (6, [.ref tq, .int (nI tn), .int (tkT tf tn s), .int (nI s), .int (nI (tkE tf tn s))])), (tq, .inl (G.2.1, 150, .inl tf))] (fun w1 => ∃ u_ : Unit, (True) ∧ w1 = [(tx, .inr (6, [.ref tq, .int (nI tn), .int (tkT tf tn (nx tf tn s)), .int (nI (nx tf tn s)), .int (nI (tkE tf tn (nx tf tn s)))])), (tq, .inl (G.2.1, 150, .inl tf))]) :=
  c_X8_advance l G tx tq tn (tkT tf tn s) (nI s) (tkE tf tn s) tf (tkE_b hs).2 hn
theorem c_X8_num (l : Launch) (G : gT) (tx tq tn s : Nat) (tf : Nat → Int32) (hs : s ≤ tn) (hn : tn ≤ 150) : MI l G yX8_number cX8_number 3 .int ({ frames := 0, cells := 0, slots := 0, locals := 0 }) [.ref tx] [(tx, .inr (6, [.ref tq, .int (nI tn), .int (tkT tf tn s), .int (nI s), .int (nI (tkE tf tn s))])), (tq, .inl (G.2.1, 150, .inl tf))] (fun (r : Int32) w1 => (r = nmb tf tn s) ∧ w1 = [(tx, .inr (6, [.ref tq, .int (nI tn), .int (tkT tf tn s), .int (nI s), .int (nI (tkE tf tn s))])), (tq, .inl (G.2.1, 150, .inl tf))]) :=
  c_X8_number l G tx tq tn (tkT tf tn s) s (tkE tf tn s) tf ⟨(tkE_b hs).1, Nat.le_trans (tkE_b hs).2 hn⟩
