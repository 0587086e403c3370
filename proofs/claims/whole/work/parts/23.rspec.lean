/-! rallies, as the class goes through them -/
/-- the spot behind a step: 0 nobody, j + 1: player j -/
def afN (td sp j : Nat) : Nat := if j = 0 then sp else ((sp ^^^ 128) ||| (td &&& 2 ^ (j - 1))) % 256
def myN (car : Nat → Int32) (sp t j : Nat) : Bool := if j = 0 then true else tb (car (2 * t + sp / 128 % 2)) (j - 1)
def fsQ (car fin : Nat → Int32) (td sp t j : Nat) : Bool := myN car sp t j && tb (fin (afN td sp j)) (t + 1)
def fsN (car fin : Nat → Int32) (td sp t : Nat) : Nat := fa_first (fsQ car fin td sp t) 8
def fsV (car fin : Nat → Int32) (td sp t : Nat) : Int32 := if fsN car fin td sp t = 8 then -9 else nI (fsN car fin td sp t) - 1
def sprI (car : Nat → Int32) (td t sp : Nat) (f : Nat → Int32) : Nat → (Nat → Int32)
  | 0 => f
  | j + 1 => if myN car sp t j then upd (sprI car td t sp f j) (afN td sp j) (sprI car td t sp f j (afN td sp j) ||| ((1 : Int32) <<< (nI (t + 1) &&& 31))) else sprI car td t sp f j
def sprO (car : Nat → Int32) (td t : Nat) (f : Nat → Int32) : Nat → (Nat → Int32)
  | 0 => f
  | s + 1 => if tb (sprO car td t f s s) t then sprI car td t s (sprO car td t f s) 8 else sprO car td t f s
def wbI (car rea : Nat → Int32) (td t : Nat) (f : Nat → Int32) : Nat → (Nat → Int32)
  | 0 => f
  | s + 1 => if tb (rea s) t && !(decide (fsN car (wbI car rea td t f s) td s t = 8)) then upd (wbI car rea td t f s) s (wbI car rea td t f s s ||| ((1 : Int32) <<< (nI t &&& 31))) else wbI car rea td t f s
/-- t from hours - 1 down: d steps done -/
def wbO (car rea : Nat → Int32) (td hours : Nat) (f : Nat → Int32) : Nat → (Nat → Int32)
  | 0 => f
  | d + 1 => wbI car rea td (hours - 1 - d) (wbO car rea td hours f d) 256
def wb0 (td hours : Nat) (f : Nat → Int32) : Nat → Int32 := upd (upd (fun i => if i < 256 then 0 else f i) td ((1 : Int32) <<< (nI hours &&& 31))) (td ||| 128) ((1 : Int32) <<< (nI hours &&& 31))
theorem nI_m1 {j : Nat} (h : j ≠ 0) : nI j - 1 = nI (j - 1) := nI_dec1 (by omega)
theorem m1_eq {j : Nat} (h : j < 1000) : nI j - 1 = -1 ↔ j = 0 := by
  have e := pk_sub_toInt (a := j) (b := 1) (by omega) (by omega)
  rw [fa_eq, show (-1 : Int32).toInt = -1 from by decide, show (nI j - 1).toInt = (j : Int) - 1 from e]; omega
theorem m1_lt {j : Nat} (h : j < 1000) : nI j - 1 < 7 ↔ j < 8 := by
  have e := pk_sub_toInt (a := j) (b := 1) (by omega) (by omega)
  rw [fa_lt, show (1 : Int32) = nI 1 from rfl, e, show (7 : Int32).toInt = 7 from by decide]; omega
theorem m1_9 {j : Nat} (h : j < 1000) : ¬ nI j - 1 = -9 := by
  have e := pk_sub_toInt (a := j) (b := 1) (by omega) (by omega)
  rw [fa_eq, show (1 : Int32) = nI 1 from rfl, e, show (-9 : Int32).toInt = -9 from by decide]; omega
theorem m1_s (j : Nat) : nI j - 1 + 1 = nI (j + 1) - 1 := by
  rw [← nI_1, Int32.sub_eq_add_neg, Int32.sub_eq_add_neg, Int32.add_assoc, Int32.add_assoc, Int32.add_comm (-1) 1]
theorem af_eq {td sp j : Nat} (htd : td < 128) (hsp : sp < 256) (hj : j ≠ 0) (hj8 : j < 8) : ((nI sp ^^^ 128) ||| (nI td &&& ((1 : Int32) <<< (nI (j - 1) &&& 31)))) &&& 255 = nI (afN td sp j) := by
  rw [sh1 (j - 1) (by omega), show (128 : Int32) = nI 128 from rfl, fb_xorI, fa_and, fa_or, show (255 : Int32) = nI (2 ^ 8 - 1) from rfl, fa_mask, afN, if_neg hj]
theorem af_lt {td sp j : Nat} (hsp : sp < 256) : afN td sp j < 256 := by
  unfold afN; split
  · exact hsp
  · exact Nat.mod_lt _ (by decide)
theorem hill_eq {sp : Nat} (hsp : sp < 256) : (nI sp >>> ((7 : Int32) &&& 31)) &&& 1 = nI (sp / 128 % 2) := by
  rw [pk_shrN (by omega) _ 7 (by decide), show (1 : Int32) = nI (2 ^ 1 - 1) from rfl, fa_mask]
theorem row_eq (t q : Nat) : 2 * nI t + nI q = nI (2 * t + q) := by
  rw [show (2 : Int32) = nI 2 from rfl, pk_mul, nI_add]
theorem tbt {x : Int32} {j : Nat} (h : ¬ (x >>> (nI j &&& 31)) &&& 1 = 0) : tb x j = true := decide_eq_true h
theorem tbf {x : Int32} {j : Nat} (h : (x >>> (nI j &&& 31)) &&& 1 = 0) : tb x j = false := decide_eq_false (fun q => q h)
theorem or128 {td : Nat} (h : td < 128) : nI td ||| 128 = nI (td ||| 128) ∧ td ||| 128 < 256 := by
  refine ⟨by rw [show (128 : Int32) = nI 128 from rfl, fa_or], ?_⟩
  exact Nat.or_lt_two_pow (n := 8) (by omega) (by decide)
theorem tb_if {x : Int32} {j : Nat} : (if (x >>> (nI j &&& 31)) &&& 1 = 0 then (0 : Int32) else 1) = bI (tb x j) := by
  by_cases h : (x >>> (nI j &&& 31)) &&& 1 = 0
  · rw [if_pos h, tbf h]; rfl
  · rw [if_neg h, tbt h]; rfl
theorem fsv_j {car fin : Nat → Int32} {td sp t j : Nat} (hj : j < 8) (hz : ∀ i, i < j → fsQ car fin td sp t i = false) (h : fsQ car fin td sp t j = true) : nI j - 1 = fsV car fin td sp t := by
  rw [fsV, fsN, first_eq hj hz h, if_neg (by omega)]
theorem fsv_8 {car fin : Nat → Int32} {td sp t : Nat} (hz : ∀ i, i < 8 → fsQ car fin td sp t i = false) : -9 = fsV car fin td sp t := by
  rw [fsV, fsN, first_all hz, if_pos rfl]
theorem fsV_9 {car fin : Nat → Int32} {td sp t : Nat} : fsV car fin td sp t = -9 ↔ fsN car fin td sp t = 8 := by
  unfold fsV
  by_cases h : fsN car fin td sp t = 8
  · simp [h]
  · rw [if_neg h]
    have := fa_first_le (fsQ car fin td sp t) 8
    have h8 : fsN car fin td sp t < 1000 := by unfold fsN; omega
    exact ⟨fun q => absurd q (m1_9 h8), fun q => absurd q h⟩
theorem fsV_ne {car fin : Nat → Int32} {td sp t : Nat} (h : fsN car fin td sp t < 8) : fsV car fin td sp t = nI (fsN car fin td sp t) - 1 := by
  rw [fsV, if_neg (by omega)]
theorem wb_st {car fin : Nat → Int32} {td sp t : Nat} {x : Int32} {F U : Nat → Int32} : (if (x >>> (nI t &&& 31)) &&& 1 = 0 then F else if fsV car fin td sp t = -9 then F else U) = if (tb x t && !(decide (fsN car fin td sp t = 8))) = true then U else F := by
  by_cases h : (x >>> (nI t &&& 31)) &&& 1 = 0
  · rw [if_pos h, tbf h]; rfl
  · rw [if_neg h, tbt h]
    by_cases h2 : fsN car fin td sp t = 8
    · rw [if_pos (fsV_9.mpr h2), decide_eq_true h2]; rfl
    · rw [if_neg (fun q => h2 (fsV_9.mp q)), decide_eq_false h2]; rfl
theorem m1_ge {j : Nat} (h : j < 1000) : 0 ≤ nI j - 1 ↔ 0 < j := by
  have e := pk_sub_toInt (a := j) (b := 1) (by omega) (by omega)
  rw [fa_le, show (0 : Int32).toInt = 0 from by decide, show (nI j - 1).toInt = (j : Int) - 1 from e]; omega
theorem m1_p {j : Nat} (h : 0 < j) : nI j - 1 + (-1) = nI (j - 1) - 1 := by
  rw [nI_dec1 h, Int32.sub_eq_add_neg]
/-- who carries it over from a hill, t hours from now -/
def cof (wide : Int32) (ck wd pf : Nat → Int32) (n hr t : Nat) (hill : Int32) : Int32 := orF (fun i => decide (pf (i * 3 + 1) = hill) && decide (wide ≤ rch ck wd pf i (hr + t) (pf (i * 3 + 1)) (ck 1))) n
def frC (co : Nat → Int32 → Int32) (car0 : Nat → Int32) : Nat → (Nat → Int32)
  | 0 => car0
  | t + 1 => upd (upd (frC co car0 t) (2 * t) (co t 0)) (2 * t + 1) (co t 1)
def frR (co : Nat → Int32 → Int32) (car0 : Nat → Int32) (td : Nat) (r0 : Nat → Int32) : Nat → (Nat → Int32)
  | 0 => r0
  | t + 1 => sprO (frC co car0 (t + 1)) td t (frR co car0 td r0 t) 256
def frD (co : Nat → Int32 → Int32) (car0 : Nat → Int32) (td : Nat) (r0 : Nat → Int32) (t : Nat) : Bool := tb (frR co car0 td r0 (t + 1) td ||| frR co car0 td r0 (t + 1) (td ||| 128)) (t + 1)
def frN (co : Nat → Int32 → Int32) (car0 : Nat → Int32) (td : Nat) (r0 : Nat → Int32) : Nat := fa_first (frD co car0 td r0) 20
def frM (co : Nat → Int32 → Int32) (car0 : Nat → Int32) (td : Nat) (r0 : Nat → Int32) : Nat := if frN co car0 td r0 < 20 then frN co car0 td r0 + 1 else 20
def frV (co : Nat → Int32 → Int32) (car0 : Nat → Int32) (td : Nat) (r0 : Nat → Int32) : Int32 := if frN co car0 td r0 < 20 then nI (frN co car0 td r0 + 1) else -1
def r00 (fh : Nat) (f : Nat → Int32) : Nat → Int32 := upd (fun i => if i < 256 then 0 else f i) (fh * 128) 1
def spS (car fin : Nat → Int32) (td f0 : Nat) : Nat → Nat
  | 0 => f0
  | t + 1 => afN td (spS car fin td f0 t) (fsN car fin td (spS car fin td f0 t) t)
def skV (car fin : Nat → Int32) (td f0 : Nat) : Nat → Int32
  | 0 => -1
  | t + 1 => nI (fsN car fin td (spS car fin td f0 t) t) - 1
theorem spS_lt {car fin : Nat → Int32} {td f0 : Nat} (h : f0 < 256) : ∀ t, spS car fin td f0 t < 256
  | 0 => h
  | t + 1 => af_lt (spS_lt h t)
theorem fst_eq {fh : Nat} (h : fh < 2) {x : Int32} (e : x = nI fh) : (if x = 1 then (128 : Int32) else 0) = nI (fh * 128) := by
  subst e
  rcases (show fh = 0 ∨ fh = 1 by omega) with rfl | rfl <;> rfl
theorem mask7 {pl : Nat} (h : pl < 128) : nI pl &&& (127 : Int32) = nI pl := by
  rw [show (127 : Int32) = nI (2 ^ 7 - 1) from rfl, fa_mask, Nat.mod_eq_of_lt h]
section FR
variable {co : Nat → Int32 → Int32} {car0 r0 : Nat → Int32} {td t : Nat}
theorem frm_j (ht : t < 20) (hz : ∀ i, i < t → frD co car0 td r0 i = false) (h : frD co car0 td r0 t = true) : frM co car0 td r0 = t + 1 := by
  have e : frN co car0 td r0 = t := first_eq ht hz h
  rw [frM, e, if_pos ht]
theorem frv_j (ht : t < 20) (hz : ∀ i, i < t → frD co car0 td r0 i = false) (h : frD co car0 td r0 t = true) : nI t + 1 = frV co car0 td r0 := by
  have e : frN co car0 td r0 = t := first_eq ht hz h
  rw [frV, e, if_pos ht, nI_1]
theorem frm_20 (ht : t = 20) (hz : ∀ i, i < t → frD co car0 td r0 i = false) : frM co car0 td r0 = 20 := by
  subst ht
  have e : frN co car0 td r0 = 20 := first_all hz
  rw [frM, e, if_neg (by omega)]
theorem frv_20 (ht : t = 20) (hz : ∀ i, i < t → frD co car0 td r0 i = false) : -1 = frV co car0 td r0 := by
  subst ht
  have e : frN co car0 td r0 = 20 := first_all hz
  rw [frV, e, if_neg (by omega)]
end FR
