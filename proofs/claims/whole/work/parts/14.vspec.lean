/-! a valley's own words -/
def hp (hill w : Int32) : Int32 := if hill = 0 then w else -w
/-- how far it flies, hit by player k in hour hr from this hill, of weight g -/
def rch (ck wd pf : Nat → Int32) (k hr : Nat) (hill g : Int32) : Int32 := fl (ck 0) g (bl (pf (k * 3 + 0)) (pf (k * 3 + 2)) (nI (hr % 24))) (hp hill (wd (hr % 6)))
def okW (wd : Nat → Int32) : Prop := ∀ i, i < 6 → Rg (wd i) (-4) 4
def okP (n : Nat) (pf : Nat → Int32) : Prop := ∀ i, i < n → Rg (pf (i * 3 + 2)) 1 9
/-- a player of that number stands on the hill -/
def onb (n : Nat) (pf : Nat → Int32) (p hill : Int32) : Bool := okp n p && decide (pf (p.toNatClampNeg * 3 + 1) = hill)
/-- bits of those of whom P is so -/
def orF (P : Nat → Bool) : Nat → Int32
  | 0 => 0
  | k + 1 => if P k then orF P k ||| ((1 : Int32) <<< (nI k &&& 31)) else orF P k
theorem bstep {b : Bool} {x y : Int32} : (if bI b = 0 then x else y) = if b then y else x := by cases b <;> rfl
theorem bstep2 {b d : Bool} {x y : Int32} : (if bI b = 0 then x else if bI d = 0 then x else y) = if (b && d) then y else x := by cases b <;> cases d <;> rfl
theorem okp_ex {n : Nat} {p : Int32} (h : okp n p = true) : ∃ k : Nat, k < n ∧ p = nI k := by
  have h1 : (0 : Int32) ≤ p ∧ p < nI n := by simpa [okp] using h
  obtain ⟨j, hj, rfl⟩ := nI_of (x := p) (Int32.not_lt.mpr h1.1)
  have h2 := h1.2
  refine ⟨j, ?_, rfl⟩
  by_cases hn : n < 2 ^ 31
  · exact (nI_ltI hj hn).mp h2
  · omega
theorem okp_nI {n k : Nat} (hn : n < 2 ^ 31) (hk : k < n) : okp n (nI k) = true := by
  have h1 : (0 : Int32) ≤ nI k := nI_pos' (by omega)
  have h2 : nI k < nI n := nI_lt hk hn
  simp [okp, h1, h2]
theorem onb_nI {n k : Nat} {pf : Nat → Int32} {hill : Int32} (hn : n < 1000) (hk : k < n) : onb n pf (nI k) hill = decide (pf (k * 3 + 1) = hill) := by
  rw [onb, okp_nI (by omega) hk, nI_clamp (by omega)]; rfl
theorem cl_eq {p : Int32} {k : Nat} (h : p = nI k) (hk : k < 1000) : p.toNatClampNeg = k := by rw [h, nI_clamp (by omega)]
theorem bl_rg {kind b t : Int32} (hb : Rg b 1 9) : Rg (bl kind b t) 0 30 := by
  have r6 : Rg 6 6 6 := ⟨by decide, by decide⟩
  have r1 : Rg 1 1 1 := ⟨by decide, by decide⟩
  have r5 : Rg 5 5 5 := ⟨by decide, by decide⟩
  have r9 : Rg 9 9 9 := ⟨by decide, by decide⟩
  obtain ⟨-, p1⟩ := hb.add r6 (by decide) (by decide)
  obtain ⟨-, p2⟩ := p1.add r1 (by decide) (by decide)
  obtain ⟨-, p3⟩ := p1.add r5 (by decide) (by decide)
  obtain ⟨-, p4⟩ := p1.add r9 (by decide) (by decide)
  have p5 : Rg ((b + 6 + 1) / 2) 0 30 := by
    obtain ⟨j, hj, e⟩ := nI_of (x := b + 6 + 1) (by rw [Int32.not_lt, fa_le]; have := p2.1; show (0 : Int) ≤ _; omega)
    rw [e] at p2 ⊢
    have h2 := p2.2
    rw [nI_toInt hj] at h2
    rw [show (2 : Int32) = nI 2 from rfl, pk_div hj (by decide) (by decide), Rg, nI_toInt (by omega)]
    omega
  unfold bl
  (repeat' split) <;> first | exact p5 | exact p3.w (by decide) (by decide) | exact p4.w (by decide) (by decide) | exact p1.w (by decide) (by decide) | exact ⟨by decide, by decide⟩
theorem hp_rg {hill w : Int32} (h : Rg w (-4) 4) : Rg (hp hill w) (-4) 4 := by
  unfold hp
  split
  · exact h
  · obtain ⟨a, b⟩ := h
    rw [Rg, fb_negI (by omega)]; omega
/-- hours go by -/
def lps (ck : Nat → Int32) (n : Int32) : Nat → Int32 := upd ck 6 (if ck 6 + n < 9999 then ck 6 + n else 9999)
/-- a stroke -/
def stk (ck : Nat → Int32) (over : Bool) : Nat → Int32 := lps (if over then upd (upd ck 2 (1 - ck 2)) 4 (ck 4 + 1) else upd (upd (upd ck 3 0) 5 (ck 5 + 1)) 4 0) 1
theorem bI_3 {a : Prop} [Decidable a] {b : Bool} {c : Prop} [Decidable c] : (if bI (decide a) = 0 then (0 : Int32) else if bI b = 0 then 0 else if c then 1 else 0) = bI (decide a && (b && decide c)) := by
  by_cases h : a <;> by_cases h2 : c <;> cases b <;> simp [h, h2, bI]
theorem bstepf {b : Bool} {x y : Nat → Int32} : (if bI b = 0 then x else y) = if b then y else x := by cases b <;> rfl
