def wd9 (f : Nat → Int32) (n s i : Nat) : Bool := wrd f (tkT f n s) s (tkE f n s) i
/-- an item told by the text: is it one, where it stands behind it, winds, cock, players -/
def rdI (f : Nat → Int32) (tn s : Nat) (wide : Int32) (wd ck : Nat → Int32) (n : Nat) (pf : Nat → Int32) : Bool × Nat × (Nat → Int32) × (Nat → Int32) × Nat × (Nat → Int32) :=
  if wrd f (tkT f tn s) s (tkE f tn s) 1 then ((rdW f tn s wd).1, (rdW f tn s wd).2.1, (rdW f tn s wd).2.2, ck, n, pf)
  else if wrd f (tkT f tn s) s (tkE f tn s) 2 then ((rdK f tn s ck).1, (rdK f tn s ck).2.1, wd, (rdK f tn s ck).2.2, n, pf)
  else if wrd f (tkT f tn s) s (tkE f tn s) 3 then ((rdP f tn s n pf).1, (rdP f tn s n pf).2.1, wd, ck, (rdP f tn s n pf).2.2.1, (rdP f tn s n pf).2.2.2)
  else if wrd f (tkT f tn s) s (tkE f tn s) 4 then ((rdT f tn s wide ck wd n pf).1, (rdT f tn s wide ck wd n pf).2.1, wd, (rdT f tn s wide ck wd n pf).2.2, n, pf)
  else if wrd f (tkT f tn s) s (tkE f tn s) 5 then ((rdU f tn s ck).1, (rdU f tn s ck).2.1, wd, (rdU f tn s ck).2.2, n, pf)
  else if wrd f (tkT f tn s) s (tkE f tn s) 6 then ((rdH f tn s ck).1, (rdH f tn s ck).2.1, wd, (rdH f tn s ck).2.2, n, pf)
  else (false, s, wd, ck, n, pf)
/-- 'valley WIDE ;' -/
def rdV (f : Nat → Int32) (tn s : Nat) : Bool × Nat := if wrd f (tkT f tn s) s (tkE f tn s) 0 then (if iw (nmb f tn (nx f tn s)) 1 40 then (decide (tkT f tn (nx f tn (nx f tn s)) = 3), stp f tn (nx f tn (nx f tn s))) else (false, nx f tn s)) else (false, s)
/-- the number is told, and is one: the draft begins anew -/
def rdVb (f : Nat → Int32) (tn s : Nat) : Bool := wrd f (tkT f tn s) s (tkE f tn s) 0 && iw (nmb f tn (nx f tn s)) 1 40
