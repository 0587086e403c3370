theorem dd {b : Bool} (h : b = true) (c : bI b = 0) : False := by rw [h] at c; exact absurd c (by decide)
theorem dd0 {b : Bool} (h : b = false) (c : ¬ bI b = 0) : False := c (by rw [h]; rfl)
theorem iw_in {x : Int32} {hi : Int32} {n : Nat} (h : iw x 0 hi = true) (hn : hi.toInt + 1 ≤ n) : vp_in x n := by
  have h1 : (0 : Int32) ≤ x ∧ x ≤ hi := by simpa [iw] using h
  rw [vp_in_iff]
  rw [fa_le, fa_le] at h1
  have e : (0 : Int32).toInt = 0 := by decide
  omega
theorem iw_nI {j m : Nat} (h : j ≤ m) (hm : m < 2 ^ 31) : iw (nI j) 0 (nI m) = true := by
  have h1 : (0 : Int32) ≤ nI j := nI_pos' (by omega)
  have h2 : nI j ≤ nI m := nI_le h hm
  simp [iw, h1, h2]
