/-! a valley told by a text, as the reference reads it -/
def gvK (f : Nat → Int32) (n s : Nat) (b : Nat → Int32) : Bool × Nat × (Nat → Int32) :=
  if iw (nmb f n (nx f n s)) 0 5 then (if iw (nmb f n (nx f n (nx f n s))) 1 9 then (true, nx f n (nx f n (nx f n s)), upd (upd b 6 (nmb f n (nx f n s))) 7 (nmb f n (nx f n (nx f n s)))) else (false, nx f n (nx f n s), b)) else (false, nx f n s, b)
def gvP (f : Nat → Int32) (n s : Nat) (b : Nat → Int32) (m : Nat) : Bool × Nat × (Nat → Int32) :=
  if m = 7 then (false, s, b) else
  if iw (nmb f n (nx f n s)) 0 5 then (if iw (nmb f n (nx f n (nx f n s))) 0 1 then (if iw (nmb f n (nx f n (nx f n (nx f n s)))) 1 9 then (true, nx f n (nx f n (nx f n (nx f n s))), upd (upd (upd (upd b (19 + m) (nmb f n (nx f n s))) (26 + m) (nmb f n (nx f n (nx f n s)))) (33 + m) (nmb f n (nx f n (nx f n (nx f n s))))) 0 (nI (m + 1))) else (false, nx f n (nx f n (nx f n s)), b)) else (false, nx f n (nx f n s), b)) else (false, nx f n s, b)
def gvU (f : Nat → Int32) (n s : Nat) (b : Nat → Int32) : Bool × Nat × (Nat → Int32) :=
  if b 9 = 1 then (false, s, b) else if iw (nmb f n (nx f n s)) 0 1 then (true, nx f n (nx f n s), upd (upd b 9 1) 8 (nmb f n (nx f n s))) else (false, nx f n s, b)
def gvH (f : Nat → Int32) (n s : Nat) (b : Nat → Int32) : Bool × Nat × (Nat → Int32) :=
  if iw (nmb f n (nx f n s)) 1 99 then (true, nx f n (nx f n s), glA b (nmb f n (nx f n s))) else (false, nx f n s, b)
def gvT (f : Nat → Int32) (n s : Nat) (b : Nat → Int32) (pn : Nat) : Bool × Nat × (Nat → Int32) :=
  if (okp pn (nmb f n (nx f n s)) && chA b (nmb f n (nx f n s)).toNatClampNeg) = true then (true, nx f n (nx f n s), ghA b (crA b (nmb f n (nx f n s)).toNatClampNeg (b 12).toNatClampNeg (b 8))) else (false, nx f n s, b)
def gws (f : Nat → Int32) (n s : Nat) (b : Nat → Int32) : Nat → Nat × (Nat → Int32)
  | 0 => (nx f n s, b)
  | m + 1 => (nx f n (gws f n s b m).1, upd (gws f n s b m).2 (13 + m) (nmb f n (gws f n s b m).1 - 4))
def gwn (f : Nat → Int32) (n s : Nat) (b : Nat → Int32) : Nat := fa_first (fun m => !(iw (nmb f n (gws f n s b m).1) 0 8)) 6
def gvW (f : Nat → Int32) (n s : Nat) (b : Nat → Int32) : Bool × Nat × (Nat → Int32) :=
  (decide (0 < gwn f n s b) && decide (tkT f n (gws f n s b (gwn f n s b)).1 = 3), (gws f n s b (gwn f n s b)).1, (gws f n s b (gwn f n s b)).2)
theorem gws_b {f : Nat → Int32} {n s : Nat} {b : Nat → Int32} (h : s ≤ n) : ∀ m, (gws f n s b m).1 ≤ n
  | 0 => nx_b h
  | m + 1 => nx_b (gws_b h m)
theorem gw_t {f : Nat → Int32} {n s m : Nat} {b : Nat → Int32} (hm : m ≤ 6) (hz : ∀ i, i < m → (!(iw (nmb f n (gws f n s b i).1) 0 8)) = false) (h : tkT f n (gws f n s b m).1 = 3) : gwn f n s b = m := by
  rcases Nat.lt_or_ge m 6 with q | q
  · exact first_eq q hz (by rw [nm_f (by decide) (by rw [h]; decide)]; rfl)
  · have e : m = 6 := by omega
    subst e; exact first_all hz
theorem gw_f {m : Nat} {x : Int32} (h : m = 0 ∨ ¬ x = 3) : (decide (0 < m) && decide (x = 3)) = false := by
  rcases h with h | h
  · subst h; rfl
  · rw [decide_eq_false h, Bool.and_false]
theorem nm_okp {f : Nat → Int32} {n s pn : Nat} (h : ¬ tkT f n s = 2) : okp pn (nmb f n s) = false := by
  rw [nmb, if_neg h]
  have : ¬ (0 : Int32) ≤ -1 := by decide
  simp [okp, this]
/-- an item, but for its stop -/
def gvI (f : Nat → Int32) (tn s : Nat) (b : Nat → Int32) (pn : Nat) : Bool × Nat × (Nat → Int32) :=
  if wrd f (tkT f tn s) s (tkE f tn s) 1 then gvW f tn s b
  else if wrd f (tkT f tn s) s (tkE f tn s) 2 then gvK f tn s b
  else if wrd f (tkT f tn s) s (tkE f tn s) 3 then gvP f tn s b pn
  else if wrd f (tkT f tn s) s (tkE f tn s) 4 then gvT f tn s b pn
  else if wrd f (tkT f tn s) s (tkE f tn s) 5 then gvU f tn s b
  else if wrd f (tkT f tn s) s (tkE f tn s) 6 then gvH f tn s b
  else (false, s, b)
