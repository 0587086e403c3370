/-! a whole text -/
def dW0 (wd : Nat → Int32) : Nat → Int32 := fun i => if i < 6 then 0 else wd i
def dC0 (ck : Nat → Int32) : Nat → Int32 := upd (upd (fun i => if i < 7 then 0 else ck i) 1 1) 3 1
/-- the class's draft behind so many items: where, winds, cock, players -/
def rst (f : Nat → Int32) (tn p : Nat) (wide : Int32) (wd ck pf : Nat → Int32) : Nat → Nat × (Nat → Int32) × (Nat → Int32) × Nat × (Nat → Int32)
  | 0 => (p, wd, ck, 0, pf)
  | i + 1 => (rdI f tn (rst f tn p wide wd ck pf i).1 wide (rst f tn p wide wd ck pf i).2.1 (rst f tn p wide wd ck pf i).2.2.1 (rst f tn p wide wd ck pf i).2.2.2.1 (rst f tn p wide wd ck pf i).2.2.2.2).2
/-- the next item of it -/
def rsI (f : Nat → Int32) (tn p : Nat) (wide : Int32) (wd ck pf : Nat → Int32) (i : Nat) : Bool × Nat × (Nat → Int32) × (Nat → Int32) × Nat × (Nat → Int32) := rdI f tn (rst f tn p wide wd ck pf i).1 wide (rst f tn p wide wd ck pf i).2.1 (rst f tn p wide wd ck pf i).2.2.1 (rst f tn p wide wd ck pf i).2.2.2.1 (rst f tn p wide wd ck pf i).2.2.2.2
/-- a draft as it must be -/
def rIv (tn : Nat) (S : Nat × (Nat → Int32) × (Nat → Int32) × Nat × (Nat → Int32)) : Prop := S.1 ≤ tn ∧ S.2.2.2.1 ≤ 7 ∧ (∃ hr : Nat, S.2.2.1 6 = nI hr ∧ hr < 10000) ∧ okP S.2.2.2.1 S.2.2.2.2 ∧ okW S.2.1 ∧ Rg (S.2.2.1 1) 1 9
theorem rdV_b {f : Nat → Int32} {tn s : Nat} (h : (rdV f tn s).1 = true) : rdVb f tn s = true := by
  unfold rdV at h; unfold rdVb
  cases h1 : wrd f (tkT f tn s) s (tkE f tn s) 0
  · rw [h1] at h; cases h
  · rw [h1] at h
    cases h2 : iw (nmb f tn (nx f tn s)) 1 40
    · rw [h2] at h; cases h
    · rfl
theorem rdV_le {f : Nat → Int32} {tn s : Nat} (h : s ≤ tn) : (rdV f tn s).2 ≤ tn := by
  unfold rdV
  split
  · split
    · exact stp_b (nx_b (nx_b h))
    · exact nx_b h
  · exact h
/-- the reference's, behind so many items -/
def gst (f : Nat → Int32) (tn p : Nat) (b : Nat → Int32) : Nat → Nat × (Nat → Int32)
  | 0 => (p, b)
  | i + 1 => (nx f tn (gvI f tn (gst f tn p b i).1 (gst f tn p b i).2 ((gst f tn p b i).2 0).toNatClampNeg).2.1, (gvI f tn (gst f tn p b i).1 (gst f tn p b i).2 ((gst f tn p b i).2 0).toNatClampNeg).2.2)
def gsI (f : Nat → Int32) (tn p : Nat) (b : Nat → Int32) (i : Nat) : Bool × Nat × (Nat → Int32) := gvI f tn (gst f tn p b i).1 (gst f tn p b i).2 ((gst f tn p b i).2 0).toNatClampNeg
def gIv (tn : Nat) (S : Nat × (Nat → Int32)) : Prop := S.1 ≤ tn ∧ (∃ pn : Nat, S.2 0 = nI pn ∧ pn ≤ 7) ∧ (∃ hr : Nat, S.2 12 = nI hr ∧ hr < 20000)
