/-! who stands where -/
def cfS (wide : Int32) (ck wd pf : Nat → Int32) (n hr fh i : Nat) : Int32 := orF (fun p => decide (wide ≤ rch ck wd pf p (hr + i) (nI ((fh + i) % 2)) (ck 1))) n
def stq (cr : Nat → Int32) (fh : Nat) (on : Int32) : Nat := fa_first (fun i => decide (cr i &&& (if (fh + i) % 2 = 1 then on else on ^^^ (-1)) = 0)) 60
def mirF (o1 : Int32) (n : Nat) : Nat → Int32
  | 0 => 0
  | p + 1 => mirF o1 n p ||| (((o1 >>> (((nI n - 1) - nI p) &&& 31)) &&& 1) <<< (nI p &&& 31))
def bwG (cr : Nat → Int32) (fh n : Nat) : Nat → Int32 × Int32
  | 0 => (0, -1)
  | o + 1 => if (bwG cr fh n o).2 < 60 then (if (bwG cr fh n o).2 < nI (stq cr fh (mirF (nI o) n n)) then (mirF (nI o) n n, nI (stq cr fh (mirF (nI o) n n))) else bwG cr fh n o) else bwG cr fh n o
theorem bwG_stop {cr : Nat → Int32} {fh n t : Nat} (h : ¬ (bwG cr fh n t).2 < 60) : ∀ d, bwG cr fh n (t + d) = bwG cr fh n t
  | 0 => rfl
  | d + 1 => by rw [← Nat.add_assoc, bwG, bwG_stop h d, if_neg h]
theorem bw_1 {s v : Int32} {X : Int32 × Int32} (h : X.2 < 60) : (if X.2 < s then v else X.1) = (if X.2 < 60 then (if X.2 < s then (v, s) else X) else X).1 := by
  rw [if_pos h]; split <;> rfl
theorem bw_2 {s v : Int32} {X : Int32 × Int32} (h : X.2 < 60) : (if X.2 < s then s else X.2) = (if X.2 < 60 then (if X.2 < s then (v, s) else X) else X).2 := by
  rw [if_pos h]; split <;> rfl
theorem st_if {x : Nat} (h : x < 2) {a b : Int32} : (if nI x = 1 then a else b) = if x = 1 then a else b := by
  rcases (show x = 0 ∨ x = 1 by omega) with rfl | rfl <;> rfl
theorem first_eq {p : Nat → Bool} {n j : Nat} (hj : j < n) (hz : ∀ k, k < j → p k = false) (h : p j = true) : fa_first p n = j := by
  have h1 := fa_first_no p n
  have h2 := fa_first_yes p n
  rcases Nat.lt_trichotomy (fa_first p n) j with q | q | q
  · have := h2 (by omega)
    rw [hz _ q] at this; cases this
  · exact q
  · rw [h1 j q] at h; cases h
theorem first_all {p : Nat → Bool} {n : Nat} (hz : ∀ k, k < n → p k = false) : fa_first p n = n := by
  have h1 := fa_first_le p n
  rcases Nat.lt_or_ge (fa_first p n) n with q | q
  · have := fa_first_yes p n q
    rw [hz _ q] at this; cases this
  · omega
theorem sh1 : ∀ n, n < 21 → (1 : Int32) <<< (nI n &&& 31) = nI (2 ^ n) := by decide +kernel
theorem pw7 {n : Nat} (h : n ≤ 7) : 1 ≤ 2 ^ n ∧ 2 ^ n ≤ 128 := by
  rcases (show n = 0 ∨ n = 1 ∨ n = 2 ∨ n = 3 ∨ n = 4 ∨ n = 5 ∨ n = 6 ∨ n = 7 by omega) with rfl | rfl | rfl | rfl | rfl | rfl | rfl | rfl <;> decide
theorem wa_s {f cz : Nat → Int32} {j : Nat} (hz : ∀ i, i < j → (cz i = f i ∧ f i ≠ 0)) (h : ¬ f j = 0) : ∀ i, i < j + 1 → (upd cz j (f j) i = f i ∧ f i ≠ 0) := by
  intro i hi
  by_cases e : i = j
  · subst e; rw [pk_us]; exact ⟨rfl, h⟩
  · rw [pk_un e]; exact hz i (by omega)
theorem wa_e {f cz : Nat → Int32} {j : Nat} (h : 60 ≤ j) (hz : ∀ i, i < j → (cz i = f i ∧ f i ≠ 0)) : ∀ i, i < 60 → (∀ q, q < i → f q ≠ 0) → cz i = f i := fun i hi _ => (hz i (by omega)).1
theorem wa_b {f cz : Nat → Int32} {j : Nat} (hz : ∀ i, i < j → (cz i = f i ∧ f i ≠ 0)) (h : f j = 0) : ∀ i, i < 60 → (∀ q, q < i → f q ≠ 0) → upd cz j (f j) i = f i := by
  intro i hi hq
  rcases Nat.lt_trichotomy i j with e | e | e
  · rw [pk_un (by omega)]; exact (hz i e).1
  · subst e; exact pk_us
  · exact absurd h (hq j e)
