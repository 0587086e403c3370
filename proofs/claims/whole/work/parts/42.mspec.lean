/-! the reference's own words -/
theorem cmp_3 {x y : Int64} : (x < y ∧ lg_cmp x y = -1) ∨ (x = y ∧ lg_cmp x y = 0) ∨ (y < x ∧ lg_cmp x y = 1) := by
  unfold lg_cmp
  by_cases h : y < x
  · right; right; exact ⟨h, by simp [h]⟩
  · by_cases h2 : x = y
    · right; left; exact ⟨h2, by simp [h2]⟩
    · left
      refine ⟨?_, by simp [h, h2]⟩
      rw [fa_lt64] at *
      rw [fa_eq64] at h2
      omega
theorem cmp_lt {x y : Int64} : lg_cmp x y < 0 ↔ x < y := by
  rcases cmp_3 (x := x) (y := y) with ⟨h, e⟩ | ⟨h, e⟩ | ⟨h, e⟩
  · rw [e]; exact ⟨fun _ => h, fun _ => by decide⟩
  · rw [e, h]; exact ⟨fun q => absurd q (by decide), fun q => by rw [fa_lt64] at q; omega⟩
  · rw [e]; exact ⟨fun q => absurd q (by decide), fun q => by rw [fa_lt64] at q h; omega⟩
theorem cmp_le {x y : Int64} : lg_cmp x y ≤ 0 ↔ x ≤ y := by
  rcases cmp_3 (x := x) (y := y) with ⟨h, e⟩ | ⟨h, e⟩ | ⟨h, e⟩
  · rw [e]; exact ⟨fun _ => by rw [fa_lt64] at h; rw [fa_le64]; omega, fun _ => by decide⟩
  · rw [e, h]; exact ⟨fun _ => by rw [fa_le64]; omega, fun _ => by decide⟩
  · rw [e]; exact ⟨fun q => absurd q (by decide), fun q => by rw [fa_le64] at q; rw [fa_lt64] at h; omega⟩
theorem cmp_eq {x y : Int64} : lg_cmp x y = 0 ↔ x = y := by
  rcases cmp_3 (x := x) (y := y) with ⟨h, e⟩ | ⟨h, e⟩ | ⟨h, e⟩
  · rw [e]; exact ⟨fun q => absurd q (by decide), fun q => by rw [fa_lt64, q] at h; omega⟩
  · rw [e, h]; exact ⟨fun _ => rfl, fun _ => rfl⟩
  · rw [e]; exact ⟨fun q => absurd q (by decide), fun q => by rw [fa_lt64, q] at h; omega⟩
theorem in_c {x lo hi : Int32} {a b : Int64} (ha : lo.toInt64 = a) (hb : hi.toInt64 = b) : (if 0 ≤ lg_cmp x.toInt64 a then (if lg_cmp x.toInt64 b ≤ 0 then 1 else 0) else (0 : Int32)) = bI (iw x lo hi) := by
  subst ha; subst hb
  have h1 : 0 ≤ lg_cmp x.toInt64 lo.toInt64 ↔ lo ≤ x := by
    have := (cmp_lt (x := x.toInt64) (y := lo.toInt64)).trans (fa_wide_lt _ _)
    constructor
    · intro q; exact fa_of_nlt (fun z => (fa_of_lt (this.mpr z)).2.1 q)
    · intro q; exact fa_of_nlt (fun z => (fa_of_lt (this.mp z)).2.1 q)
  have h2 : lg_cmp x.toInt64 hi.toInt64 ≤ 0 ↔ x ≤ hi := cmp_le.trans (fa_wide_le _ _)
  simp only [h1, h2, iw]
  by_cases q : lo ≤ x <;> by_cases q2 : x ≤ hi <;> simp [q, q2, bI]
/-- views of the reference's row of numbers -/
def ckA (a : Nat → Int32) : Nat → Int32 := fun i => a (6 + i)
def wdA (a : Nat → Int32) : Nat → Int32 := fun i => a (13 + i)
def pfA (a : Nat → Int32) : Nat → Int32 := fun i => a (19 + 7 * (i % 3) + i / 3)
theorem pfA_0 (a : Nat → Int32) (k : Nat) : pfA a (k * 3 + 0) = a (19 + k) := by unfold pfA; congr 1; omega
theorem pfA_1 (a : Nat → Int32) (k : Nat) : pfA a (k * 3 + 1) = a (26 + k) := by unfold pfA; congr 1; omega
theorem pfA_2 (a : Nat → Int32) (k : Nat) : pfA a (k * 3 + 2) = a (33 + k) := by unfold pfA; congr 1; omega
abbrev rcA (a : Nat → Int32) (k hr : Nat) (hill g : Int32) : Int32 := rch (ckA a) (wdA a) (pfA a) k hr hill g
theorem rcA_eq (a : Nat → Int32) (k hr : Nat) (hill g : Int32) : fl (a 6) g (bl (a (19 + k)) (a (33 + k)) (nI (hr % 24))) (hp hill (a (13 + hr % 6))) = rcA a k hr hill g := by
  rw [rcA, rch, pfA_0, pfA_2]; rfl
/-- carried over from the hill in that hour -/
def crA (a : Nat → Int32) (k hr : Nat) (hill : Int32) : Bool := decide (a 5 ≤ rcA a k hr hill (a 7))
def bgA (a : Nat → Int32) (w : Int32) : Nat → Int32 := upd (upd (upd (fun i => if i < 103 then 0 else a i) 5 w) 7 1) 9 1
theorem and1 (y : Int32) : y &&& 1 = 0 ∨ y &&& 1 = 1 := by
  have e : (y &&& 1).toBitVec = BitVec.setWidth 32 (BitVec.ofBool (y.toBitVec.getLsbD 0)) := BitVec.and_one_eq_setWidth_ofBool_getLsbD
  cases h : y.toBitVec.getLsbD 0 with
  | false => left; rw [h] at e; exact Int32.toBitVec_inj.mp (e.trans (by decide))
  | true => right; rw [h] at e; exact Int32.toBitVec_inj.mp (e.trans (by decide))
theorem th_1 {x : Int32} {j : Nat} : (if (x >>> (nI j &&& 31)) &&& 1 = 1 then (1 : Int32) else 0) = bI (tb x j) := by
  rw [← tb_if]
  rcases and1 (x >>> (nI j &&& 31)) with h | h <;> rw [h] <;> decide
theorem ip_eq {n : Nat} (hn : n ≤ 7) {p : Int32} : bI (iw p 0 (nI n - 1)) = bI (okp n p) := by
  congr 1
  have e : (nI n - 1).toInt = (n : Int) - 1 := pk_sub_toInt (a := n) (b := 1) (by omega) (by omega)
  have h : p ≤ nI n - 1 ↔ p < nI n := by
    rw [fa_le, fa_lt, e, nI_toInt (by omega)]; omega
  unfold iw okp
  simp only [h]
def mrA (x : Int32) : Int32 := if x < 9999 then x + 1 else 9999
/-- a step is kept -/
def svA (a : Nat → Int32) (u : Nat) : Nat → Int32 :=
  if u = 8 then upd (fb_put (upd (fb_put a (fun k => a (110 + k)) 103 49) 4 7) (ckA a) 152 7) 4 (nI 8)
  else upd (fb_put a (ckA a) (103 + 7 * u) 7) 4 (nI (u + 1))
def ghA (a : Nat → Int32) (over : Bool) : Nat → Int32 :=
  upd (if over then upd (upd a 8 (1 - a 8)) 10 (mrA (a 10)) else upd (upd (upd a 9 0) 10 0) 11 (mrA (a 11))) 12 (a 12 + 1)
def glA (a : Nat → Int32) (n : Int32) : Nat → Int32 := upd a 12 (if 9999 < a 12 + n then 9999 else a 12 + n)
def unA (a : Nat → Int32) (u : Nat) : Nat → Int32 := fb_put (upd a 4 (nI (u - 1))) (fun k => a (103 + 7 * (u - 1) + k)) 6 7
theorem fl_5 {g x w : Int32} : fl 5 g x w = if g < 2 * ((if g < x + w then x + w - g else 0) + 2) then 2 * ((if g < x + w then x + w - g else 0) + 2) - g else 0 := by
  unfold fl; rw [if_neg (show ¬ (5 : Int32) = 1 by decide), if_neg (show ¬ (5 : Int32) = 2 by decide), if_neg (show ¬ (5 : Int32) = 3 by decide), if_neg (show ¬ (5 : Int32) = 4 by decide), if_pos rfl]
theorem bz {b : Bool} : (if bI b = 0 then (0 : Int32) else 1) = bI b := by cases b <;> rfl
theorem bz2 {b d : Bool} : (if bI b = 0 then (0 : Int32) else if bI d = 0 then 0 else 1) = bI (b && d) := by cases b <;> cases d <;> rfl
theorem bd2 {b : Bool} {P : Prop} [Decidable P] : (if bI b = 0 then (0 : Int32) else if P then 1 else 0) = bI (b && decide P) := by cases b <;> by_cases h : P <;> simp [h, bI]
theorem dd2 {P Q : Prop} [Decidable P] [Decidable Q] : (if P then (if Q then (1 : Int32) else 0) else 0) = bI (decide P && decide Q) := bI_and
theorem svA_lo {a : Nat → Int32} {u i : Nat} (h : i < 103) (h4 : i ≠ 4) : svA a u i = a i := by
  unfold svA; split
  · rw [pk_un h4, fb_put_out (Or.inl (by omega)), pk_un h4, fb_put_out (Or.inl h)]
  · rw [pk_un h4, fb_put_out (Or.inl (by omega))]
theorem or_2 {b d : Bool} {x y : Int32} : x ||| (if bI b = 0 then 0 else if bI d = 0 then 0 else y) = if (b && d) = true then x ||| y else x := by
  cases b <;> cases d <;> simp [bI]
theorem or_1 {b : Bool} {x y : Int32} : x ||| (if bI b = 0 then 0 else y) = if b = true then x ||| y else x := by
  cases b <;> simp [bI]
/-- he stands where it is up -/
def atA (a : Nat → Int32) (k : Nat) : Bool := decide (a 9 = 1) && decide (a (26 + k) = a 8)
def chA (a : Nat → Int32) (k : Nat) : Bool := atA a k && decide (a 12 < 9999)
