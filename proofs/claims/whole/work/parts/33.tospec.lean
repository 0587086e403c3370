theorem dd {b : Bool} (h : b = true) (c : bI b = 0) : False := by rw [h] at c; exact absurd c (by decide)
theorem dd0 {b : Bool} (h : b = false) (c : ¬ bI b = 0) : False := c (by rw [h]; rfl)
theorem iw_in {x : Int32} {hi : Int32} {n : Nat} (h : iw x 0 hi = true) (hn : hi.toInt + 1 ≤ n) : vp_in x n := by
  have h1 : (0 : Int32) ≤ x ∧ x ≤ hi := by simpa [iw] using h
  rw [vp_in_iff]
  rw [fa_le, fa_le] at h1
  have e : (0 : Int32).toInt = 0 := by decide
  omega
theorem iw_nI {j m : Nat} (h : j ≤ m) (hm : m < 2 ^ 31) : iw (nI j) 0 (nI m) = true := by
  have h1 : (0 : Int32) ≤ nI j := nI_pos' (by omega)
  have h2 : nI j ≤ nI m := nI_le h hm
  simp [iw, h1, h2]
def lwb (x : Int32) : Int32 := if fa_first (tb x) 32 = 32 then -1 else nI (fa_first (tb x) 32)
def hgb (x : Int32) : Int32 := if fa_first (fun j => tb x (31 - j)) 32 = 32 then -1 else nI (31 - fa_first (fun j => tb x (31 - j)) 32)
theorem lwb_j {x : Int32} {j : Nat} (hj : j < 32) (hz : ∀ i, i < j → tb x i = false) (h : tb x j = true) : nI j = lwb x := by rw [lwb, first_eq hj hz h, if_neg (by omega)]
theorem lwb_n {x : Int32} (hz : ∀ i, i < 32 → tb x i = false) : -1 = lwb x := by rw [lwb, first_all hz, if_pos rfl]
theorem hgb_j {x : Int32} {j : Nat} (hj : j < 32) (hz : ∀ i, i < j → tb x (31 - i) = false) (h : tb x (31 - j) = true) : nI (31 - j) = hgb x := by rw [hgb, first_eq (p := fun j => tb x (31 - j)) hj hz h, if_neg (by omega)]
theorem hgb_n {x : Int32} (hz : ∀ i, i < 32 → tb x (31 - i) = false) : -1 = hgb x := by rw [hgb, first_all (p := fun j => tb x (31 - j)) hz, if_pos rfl]
theorem stq_cf {u cf : Nat → Int32} {fh : Nat} {on : Int32} (h : ∀ i, i < 60 → (∀ q, q < i → cf q ≠ 0) → u i = cf i) : stq u fh on = stq cf fh on := by
  have hle := fa_first_le (fun i => decide (cf i &&& (if (fh + i) % 2 = 1 then on else on ^^^ (-1)) = 0)) 60
  have hno := fa_first_no (fun i => decide (cf i &&& (if (fh + i) % 2 = 1 then on else on ^^^ (-1)) = 0)) 60
  have hyes := fa_first_yes (fun i => decide (cf i &&& (if (fh + i) % 2 = 1 then on else on ^^^ (-1)) = 0)) 60
  show fa_first _ 60 = fa_first _ 60
  generalize fa_first (fun i => decide (cf i &&& (if (fh + i) % 2 = 1 then on else on ^^^ (-1)) = 0)) 60 = J at hle hno hyes ⊢
  have hc : ∀ i, i < J → cf i ≠ 0 := by
    intro i hi e
    have := of_decide_eq_false (hno i hi)
    exact this (by rw [e]; exact Int32.zero_and)
  have hu : ∀ i, i < 60 → i ≤ J → u i = cf i := fun i hi hJ => h i hi (fun q hq => hc q (by omega))
  rcases Nat.lt_or_ge J 60 with hJ | hJ
  · refine first_eq hJ (fun k hk => ?_) ?_
    · show decide (u k &&& _ = 0) = false
      rw [hu k (by omega) (by omega)]; exact hno k hk
    · show decide (u J &&& _ = 0) = true
      rw [hu J hJ (Nat.le_refl _)]; exact hyes hJ
  · have e : J = 60 := by omega
    subst e
    refine first_all (fun k hk => ?_)
    show decide (u k &&& _ = 0) = false
    rw [hu k hk (by omega)]; exact hno k hk
theorem bwG_cf {u cf : Nat → Int32} {fh n : Nat} (h : ∀ i, i < 60 → (∀ q, q < i → cf q ≠ 0) → u i = cf i) : ∀ o, bwG u fh n o = bwG cf fh n o
  | 0 => rfl
  | o + 1 => by rw [bwG, bwG, bwG_cf h o, stq_cf h]
/-- how many there are of each -/
def hmV (x : Int32) (wide : Int32) (ck pf : Nat → Int32) (n sn nn mn u tn : Nat) : Int32 :=
  if x = 0 then nI n else if x = 1 then bc (orF (fun i => decide (pf (i * 3 + 1) = 1)) n) else if x = 2 then ck 6 else if x = 3 then wide else if x = 4 then nI sn else if x = 5 then nI nn else if x = 6 then nI mn else if x = 7 then nI u else nI tn
/-- tenths in lowest terms -/
def ktF (t : Int32) : Nat → Int32 × Int32
  | 0 => (t, 10)
  | k + 1 => if (ktF t k).1 - (ktF t k).1 / nI (10 - k) * nI (10 - k) = 0 then (if (ktF t k).2 - (ktF t k).2 / nI (10 - k) * nI (10 - k) = 0 then ((ktF t k).1 / nI (10 - k), (ktF t k).2 / nI (10 - k)) else ktF t k) else ktF t k
theorem kt_1 {a b : Prop} [Decidable a] [Decidable b] {x : Int32} {X : Int32 × Int32} {y : Int32} : (if a then (if b then x else X.1) else X.1) = (if a then (if b then (x, y) else X) else X).1 := by by_cases h : a <;> by_cases h2 : b <;> simp [h, h2]
theorem kt_2 {a b : Prop} [Decidable a] [Decidable b] {x : Int32} {X : Int32 × Int32} {y : Int32} : (if a then (if b then y else X.2) else X.2) = (if a then (if b then (x, y) else X) else X).2 := by by_cases h : a <;> by_cases h2 : b <;> simp [h, h2]
theorem pr_a : ∀ j, j < 4 → (nI j &&& (1 : Int32) = 0 ∨ nI j &&& (1 : Int32) = 1) := by decide +kernel
theorem pr_b : ∀ j, j < 4 → (nI j >>> ((1 : Int32) &&& 31) = 0 ∨ nI j >>> ((1 : Int32) &&& 31) = 1) := by decide +kernel
theorem nI_m1ne {k : Nat} (h : k < 1000) (e : nI k = -1) : False := by
  rw [fa_eq, nI_toInt (by omega), show (-1 : Int32).toInt = -1 from by decide] at e; omega
theorem kt_s {k : Nat} (h : k < 9) : nI (10 - k) + (-1) = nI (10 - (k + 1)) := by
  rw [show 10 - k = (10 - (k + 1)) + 1 by omega, pk_m1]
theorem gu_rg {w : Int32} (h : Rg w (-4) 4) : Rg (if (-4) < w - 4 then w - 4 else (-4)) (-4) 4 := by
  have r4 : Rg 4 4 4 := ⟨by decide, by decide⟩
  obtain ⟨e, r⟩ := h.sub r4 (by decide) (by decide)
  split
  · next q =>
    rw [fa_lt, show (-4 : Int32).toInt = -4 from by decide] at q
    exact ⟨by omega, by have := r.2; omega⟩
  · exact ⟨by decide, by decide⟩
