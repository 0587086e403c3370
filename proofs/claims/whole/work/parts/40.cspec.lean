/-! centuries -/
def lcg (x : Int64) : Int64 := x * 1103515245 + 12345 - (x * 1103515245 + 12345) / 2147483648 * 2147483648
def ceX (sd : Int32) : Nat → Int64
  | 0 => sd.toInt64
  | i + 1 => lcg (ceX sd i)
def cpP (x : Int64) : Int32 := (x / 65536 - x / 65536 / 7 * 7).toInt32
def cpH (x : Int64) : Int32 := (x / 1048576 - x / 1048576 / 2 * 2).toInt32
/-- the cock would be carried over by him, i hours from now -/
def ceC (wide : Int32) (ck wd pf : Nat → Int32) (hr i : Nat) (p : Int32) : Bool := decide (wide ≤ rch ck wd pf p.toNatClampNeg (hr + i) (pf (p.toNatClampNeg * 3 + 1)) (ck 1))
def ceS (wide : Int32) (ck wd pf : Nat → Int32) (n hr : Nat) (sd : Int32) : Nat → Int32 × Int32 × Int32
  | 0 => (ck 2, bI (decide (ck 3 = 1)), 0)
  | i + 1 =>
    (if bI (onb n pf (cpP (ceX sd (i + 1))) (if (ceS wide ck wd pf n hr sd i).2.1 = 0 then cpH (ceX sd (i + 1)) else (ceS wide ck wd pf n hr sd i).1)) = 0 then (if (ceS wide ck wd pf n hr sd i).2.1 = 0 then cpH (ceX sd (i + 1)) else (ceS wide ck wd pf n hr sd i).1) else (if bI (ceC wide ck wd pf hr i (cpP (ceX sd (i + 1)))) = 0 then (if (ceS wide ck wd pf n hr sd i).2.1 = 0 then cpH (ceX sd (i + 1)) else (ceS wide ck wd pf n hr sd i).1) else 1 - (if (ceS wide ck wd pf n hr sd i).2.1 = 0 then cpH (ceX sd (i + 1)) else (ceS wide ck wd pf n hr sd i).1)),
     if bI (onb n pf (cpP (ceX sd (i + 1))) (if (ceS wide ck wd pf n hr sd i).2.1 = 0 then cpH (ceX sd (i + 1)) else (ceS wide ck wd pf n hr sd i).1)) = 0 then (if (ceS wide ck wd pf n hr sd i).2.1 = 0 then 1 else (ceS wide ck wd pf n hr sd i).2.1) else bI (ceC wide ck wd pf hr i (cpP (ceX sd (i + 1)))),
     if bI (onb n pf (cpP (ceX sd (i + 1))) (if (ceS wide ck wd pf n hr sd i).2.1 = 0 then cpH (ceX sd (i + 1)) else (ceS wide ck wd pf n hr sd i).1)) = 0 then (ceS wide ck wd pf n hr sd i).2.2 else (if bI (ceC wide ck wd pf hr i (cpP (ceX sd (i + 1)))) = 0 then (ceS wide ck wd pf n hr sd i).2.2 else (ceS wide ck wd pf n hr sd i).2.2 + 1))
theorem on_ok {n : Nat} {pf : Nat → Int32} {p hill : Int32} (h : onb n pf p hill = true) : okp n p = true := by
  simp only [onb, Bool.and_eq_true] at h; exact h.1
