/-! the reference: what there is -/
def smF (f : Nat → Int32) : Nat → Int32
  | 0 => 0
  | k + 1 => smF f k + f k
def ctV (a : Nat → Int32) (n tn j : Nat) : Int32 := if j = 0 then nI n else if j = 1 then smF (fun p => a (26 + p)) n else if j = 2 then a 12 else if j = 3 then a 5 else if j = 8 then nI tn else a (j - 3)
theorem pf_3 {h : Int64} {a : Nat → Int32} {j : Nat} : 31 * (31 * (31 * fd h (pfA a) (j * 3) + (a (19 + j)).toInt64) + (a (26 + j)).toInt64) + (a (33 + j)).toInt64 = fd h (pfA a) ((j + 1) * 3) := by
  rw [show (j + 1) * 3 = j * 3 + 2 + 1 by omega, fd, fd, fd, pfA_2, pfA_1, show pfA a (j * 3) = a (19 + j) from pfA_0 a j]
theorem fr_3 {j : Nat} (h : 4 ≤ j) : 1 + nI j - 4 = nI (j - 3) := by
  rw [show (1 : Int32) = nI 1 from rfl, nI_add, show (4 : Int32) = nI 4 from rfl, pk_sub (by omega)]; congr 1; omega
def gJv (S : Nat × (Nat → Int32)) : Prop := S.2 0 = nI (S.2 0).toNatClampNeg ∧ (S.2 0).toNatClampNeg ≤ 7 ∧ (∃ hr : Nat, S.2 12 = nI hr ∧ hr < 20000)
section GL
variable {f : Nat → Int32} {tn s : Nat} {b : Nat → Int32} {pn : Nat}
theorem gvW_le (h : s ≤ tn) : (gvW f tn s b).2.1 ≤ tn := by
  unfold gvW; generalize gwn f tn s b = m; exact gws_b h m
theorem gvK_le (h : s ≤ tn) : (gvK f tn s b).2.1 ≤ tn := by
  have h1 := nx_b (f := f) h
  have h2 := nx_b (f := f) h1
  have h3 := nx_b (f := f) h2
  unfold gvK; (repeat' split) <;> assumption
theorem gvP_le (h : s ≤ tn) : (gvP f tn s b pn).2.1 ≤ tn := by
  have h1 := nx_b (f := f) h
  have h2 := nx_b (f := f) h1
  have h3 := nx_b (f := f) h2
  have h4 := nx_b (f := f) h3
  unfold gvP; (repeat' split) <;> assumption
theorem gvT_le (h : s ≤ tn) : (gvT f tn s b pn).2.1 ≤ tn := by
  have h1 := nx_b (f := f) h
  have h2 := nx_b (f := f) h1
  unfold gvT; (repeat' split) <;> assumption
theorem gvU_le (h : s ≤ tn) : (gvU f tn s b).2.1 ≤ tn := by
  have h1 := nx_b (f := f) h
  have h2 := nx_b (f := f) h1
  unfold gvU; (repeat' split) <;> assumption
theorem gvH_le (h : s ≤ tn) : (gvH f tn s b).2.1 ≤ tn := by
  have h1 := nx_b (f := f) h
  have h2 := nx_b (f := f) h1
  unfold gvH; (repeat' split) <;> assumption
theorem gvI_le (h : s ≤ tn) : (gvI f tn s b pn).2.1 ≤ tn := by
  have w1 := gvW_le (f := f) (b := b) h
  have w2 := gvK_le (f := f) (b := b) h
  have w3 := gvP_le (f := f) (b := b) (pn := pn) h
  have w4 := gvT_le (f := f) (b := b) (pn := pn) h
  have w5 := gvU_le (f := f) (b := b) h
  have w6 := gvH_le (f := f) (b := b) h
  unfold gvI
  generalize gvW f tn s b = g1 at *
  generalize gvK f tn s b = g2 at *
  generalize gvP f tn s b pn = g3 at *
  generalize gvT f tn s b pn = g4 at *
  generalize gvU f tn s b = g5 at *
  generalize gvH f tn s b = g6 at *
  (repeat' split) <;> assumption
end GL
theorem gst_le {f : Nat → Int32} {tn p : Nat} {b : Nat → Int32} (h : p ≤ tn) : ∀ i, (gst f tn p b i).1 ≤ tn
  | 0 => h
  | i + 1 => nx_b (gvI_le (gst_le h i))
theorem fd_0 (h : Int64) (f : Nat → Int32) : fd h f 0 = h := rfl
