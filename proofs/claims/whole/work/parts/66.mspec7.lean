/-! the reference's rallies -/
/-- he stands there and carries it over, h hours from now -/
def soP (a : Nat → Int32) (hr h hill p : Nat) : Bool := decide (a (26 + p) = nI hill) && crA a p (hr + h) (nI hill)
def soL (a : Nat → Int32) (hr td h : Nat) (nxt : Nat → Nat → Int32) (hill set : Nat) : Nat → Int32
  | 0 => if nI td &&& (nI set ^^^ (-1)) = 0 then nI h else nxt hill set
  | p + 1 => if nI h < soL a hr td h nxt hill set p then (if soP a hr h hill p = true then (if nxt (1 - hill) (set ||| 2 ^ p) < soL a hr td h nxt hill set p then nxt (1 - hill) (set ||| 2 ^ p) else soL a hr td h nxt hill set p) else soL a hr td h nxt hill set p) else soL a hr td h nxt hill set p
/-- the soonest hour by which all told have struck, d hours ahead of the last -/
def soD (a : Nat → Int32) (n hr td : Nat) : Nat → Nat → Nat → Int32
  | 0 => fun hill set => soL a hr td 20 (fun _ _ => 1000000) hill set 0
  | d + 1 => fun hill set => soL a hr td (20 - (d + 1)) (soD a n hr td d) hill set n
def soX (a : Nat → Int32) (n hr td : Nat) : Nat → Nat → Nat → Int32
  | 0 => fun _ _ => 1000000
  | d + 1 => soD a n hr td d
theorem soL_stop {a : Nat → Int32} {hr td h hill set p : Nat} {nxt : Nat → Nat → Int32} (hs : ¬ nI h < soL a hr td h nxt hill set p) : ∀ d, soL a hr td h nxt hill set (p + d) = soL a hr td h nxt hill set p
  | 0 => rfl
  | d + 1 => by rw [← Nat.add_assoc, soL, soL_stop hs d, if_neg hs]
theorem so_x {a : Nat → Int32} {n hr td tt hill set p : Nat} (ht : 0 < tt ∧ tt ≤ 21) (hp : tt = 21 → p = 0) (hle : p ≤ n) (he : (¬ p < n ∨ ¬ nI (tt - 1) < soL a hr td (tt - 1) (soX a n hr td (21 - tt)) hill set p) ∨ ¬ tt - 1 < 20) :
    soL a hr td (tt - 1) (soX a n hr td (21 - tt)) hill set p = soD a n hr td (21 - tt) hill set := by
  rcases Nat.lt_or_ge tt 21 with q | q
  · have e1 : 21 - tt = (20 - tt) + 1 := by omega
    rw [e1, soX, soD, show 20 - (20 - tt + 1) = tt - 1 by omega]
    rw [e1, soX] at he
    rcases he with (h | h) | h
    · rw [show p = n by omega]
    · have z := soL_stop h (n - p)
      rw [show p + (n - p) = n by omega] at z
      exact z.symm
    · omega
  · have e : tt = 21 := by omega
    rw [hp e]
    subst e
    rfl
theorem so_s {a : Nat → Int32} {hr td h hill set p : Nat} {nxt : Nat → Nat → Int32} {b v : Int32} (hb : b = soL a hr td h nxt hill set p) (hlt : nI h < b) (hv : v = nxt (1 - hill) (set ||| 2 ^ p)) :
    (if a (26 + p) = nI hill then (if bI (crA a p (hr + h) (nI hill)) = 0 then b else (if v < b then v else b)) else b) = soL a hr td h nxt hill set (p + 1) := by
  rw [soL, ← hb, if_pos hlt, ← hv, soP]
  by_cases q : a (26 + p) = nI hill
  · rw [if_pos q, decide_eq_true q]
    cases crA a p (hr + h) (nI hill) <;> simp [bI]
  · rw [if_neg q, decide_eq_false q]; simp
theorem so_0 {a : Nat → Int32} {n hr td tt hill set : Nat} {v : Int32} (ht : 0 < tt ∧ tt ≤ 21) (hv : tt < 21 → v = soD a n hr td (20 - tt) hill set) :
    (if nI td &&& (nI set ^^^ (-1)) = 0 then nI (tt - 1) else if nI (tt - 1) = 20 then 1000000 else v) = soL a hr td (tt - 1) (soX a n hr td (21 - tt)) hill set 0 := by
  rw [soL]
  by_cases q : nI td &&& (nI set ^^^ (-1)) = 0
  · rw [if_pos q, if_pos q]
  · rw [if_neg q, if_neg q]
    have e : (nI (tt - 1) = 20) ↔ tt - 1 = 20 := nI_eq (a := tt - 1) (b := 20) (by omega) (by omega)
    by_cases q2 : tt = 21
    · rw [if_pos (e.mpr (by omega)), q2]; rfl
    · rw [if_neg (fun z => q2 (by have := e.mp z; omega)), hv (by omega), show 21 - tt = (20 - tt) + 1 by omega, soX]
/-- how far the row is laid -/
def soJ (a : Nat → Int32) (n hr td : Nat) (sv : Nat → Int32) (tt hl st : Nat) : Prop :=
  ∀ h hill set : Nat, hill < 2 → set < 2 ^ n → (tt ≤ h ∧ h ≤ 20) ∨ (h + 1 = tt ∧ (hill < hl ∨ (hill = hl ∧ set < st))) → sv (256 * h + 128 * hill + set) = soD a n hr td (20 - h) hill set
section SJ
variable {a sv : Nat → Int32} {n hr td tt hl st : Nat}
theorem soJ_put (hn : n ≤ 7) (h : soJ a n hr td sv tt hl st) (ht : 0 < tt ∧ tt ≤ 21) (hh : hl < 2) (hs : st < 2 ^ n) : soJ a n hr td (upd sv (256 * (tt - 1) + 128 * hl + st) (soD a n hr td (21 - tt) hl st)) tt hl (st + 1) := by
  intro h' hill set h1 h2 h3
  have hp := (pw7 hn).2
  by_cases e : 256 * h' + 128 * hill + set = 256 * (tt - 1) + 128 * hl + st
  · have e1 : h' = tt - 1 := by omega
    have e2 : hill = hl := by omega
    have e3 : set = st := by omega
    subst e1 e2 e3
    rw [pk_us, show 20 - (tt - 1) = 21 - tt by omega]
  · rw [pk_un e]
    refine h h' hill set h1 h2 ?_
    rcases h3 with q | ⟨q, q2⟩
    · exact Or.inl q
    · refine Or.inr ⟨q, ?_⟩
      rcases q2 with q2 | ⟨q2, q3⟩
      · exact Or.inl q2
      · refine Or.inr ⟨q2, ?_⟩
        rcases Nat.lt_or_ge set st with z | z
        · exact z
        · exfalso; apply e
          rw [q2, show h' = tt - 1 by omega, show set = st by omega]
theorem soJ_hl (h : soJ a n hr td sv tt hl st) (hs : 2 ^ n ≤ st) : soJ a n hr td sv tt (hl + 1) 0 := by
  intro h' hill set h1 h2 h3
  refine h h' hill set h1 h2 ?_
  rcases h3 with q | ⟨q, q2⟩
  · exact Or.inl q
  · refine Or.inr ⟨q, ?_⟩
    rcases q2 with q2 | ⟨q2, q3⟩
    · rcases Nat.lt_or_ge hill hl with z | z
      · exact Or.inl z
      · exact Or.inr ⟨by omega, by omega⟩
    · exact absurd q3 (Nat.not_lt_zero _)
theorem soJ_tt (h : soJ a n hr td sv tt hl st) (hh : 2 ≤ hl) : soJ a n hr td sv (tt - 1) 0 0 := by
  intro h' hill set h1 h2 h3
  refine h h' hill set h1 h2 ?_
  rcases h3 with ⟨q, q2⟩ | ⟨q, q2⟩
  · rcases Nat.lt_or_ge h' tt with z | z
    · exact Or.inr ⟨by omega, Or.inl (by omega)⟩
    · exact Or.inl ⟨z, q2⟩
  · rcases q2 with q2 | ⟨_, q2⟩
    · exact absurd q2 (Nat.not_lt_zero _)
    · exact absurd q2 (Nat.not_lt_zero _)
theorem soJ_0 : soJ a n hr td sv 21 0 0 := by
  intro h' hill set h1 h2 h3
  rcases h3 with ⟨q, q2⟩ | ⟨q, q2 | ⟨_, q2⟩⟩
  · omega
  · exact absurd q2 (Nat.not_lt_zero _)
  · exact absurd q2 (Nat.not_lt_zero _)
end SJ
theorem or_lt {n set p : Nat} (hs : set < 2 ^ n) (hp : p < n) : set ||| 2 ^ p < 2 ^ n := Nat.or_lt_two_pow hs (Nat.pow_lt_pow_right (by decide) hp)
theorem or_e {set p : Nat} (hp : p < 21) : nI set ||| ((1 : Int32) <<< (nI p &&& 31)) = nI (set ||| 2 ^ p) := by rw [sh1 p hp, fa_or]
theorem hl_e {hl : Nat} (h : hl < 2) : 1 - nI hl = nI (1 - hl) := by rcases (show hl = 0 ∨ hl = 1 by omega) with rfl | rfl <;> rfl
theorem tt_e {tt : Nat} (h : 0 < tt) : nI tt - 1 = nI (tt - 1) := nI_dec1 h
theorem tt_1 {tt : Nat} (h : 0 < tt) : nI (tt - 1) + 1 = nI tt := by rw [nI_1]; congr 1; omega
/-- who strikes, as the reference finds him -/
def wfQ (a : Nat → Int32) (n hr td h hill set m p : Nat) : Bool := soP a hr h hill p && !(decide (nI m < soD a n hr td (20 - (h + 1)) (1 - hill) (set ||| 2 ^ p)))
def wfN (a : Nat → Int32) (n hr td h hill set m : Nat) : Nat := fa_first (wfQ a n hr td h hill set m) n
def skR (a : Nat → Int32) (n hr td m f0 : Nat) : Nat → Nat × Nat × Int32
  | 0 => (f0, 0, -1)
  | h + 1 => if nI m < soD a n hr td (20 - (h + 1)) (skR a n hr td m f0 h).1 (skR a n hr td m f0 h).2.1 then (1 - (skR a n hr td m f0 h).1, (skR a n hr td m f0 h).2.1 ||| 2 ^ wfN a n hr td h (skR a n hr td m f0 h).1 (skR a n hr td m f0 h).2.1 m, nI (wfN a n hr td h (skR a n hr td m f0 h).1 (skR a n hr td m f0 h).2.1 m)) else ((skR a n hr td m f0 h).1, (skR a n hr td m f0 h).2.1, -1)
theorem wf_no {a : Nat → Int32} {n hr td h hill set m p : Nat} (x : ¬ a (26 + p) = nI hill ∨ crA a p (hr + h) (nI hill) = false ∨ nI m < soD a n hr td (20 - (h + 1)) (1 - hill) (set ||| 2 ^ p)) : wfQ a n hr td h hill set m p = false := by
  unfold wfQ soP
  rcases x with x | x | x
  · rw [decide_eq_false x]; rfl
  · rw [x, Bool.and_false]; rfl
  · rw [decide_eq_true x]; exact Bool.and_false _
theorem wf_yes {a : Nat → Int32} {n hr td h hill set m p : Nat} (x : a (26 + p) = nI hill) (y : crA a p (hr + h) (nI hill) = true) (z : ¬ nI m < soD a n hr td (20 - (h + 1)) (1 - hill) (set ||| 2 ^ p)) : wfQ a n hr td h hill set m p = true := by
  unfold wfQ soP
  rw [decide_eq_true x, y, decide_eq_false z]; rfl
/-- where it is, who has struck, stay in their rows -/
theorem skR_b {a : Nat → Int32} {n hr td m f0 k : Nat} (hf : f0 < 2) (hok : ∀ h, h < k → nI m < soD a n hr td (20 - (h + 1)) (skR a n hr td m f0 h).1 (skR a n hr td m f0 h).2.1 → wfN a n hr td h (skR a n hr td m f0 h).1 (skR a n hr td m f0 h).2.1 m < n) : ∀ h, h ≤ k → (skR a n hr td m f0 h).1 < 2 ∧ (skR a n hr td m f0 h).2.1 < 2 ^ n
  | 0, _ => ⟨hf, Nat.two_pow_pos n⟩
  | h + 1, hk => by
    have ih := skR_b hf hok h (by omega)
    have ok := hok h (by omega)
    rw [skR]
    generalize skR a n hr td m f0 h = S at *
    split
    · next q => exact ⟨by show 1 - S.1 < 2; omega, or_lt ih.2 (ok q)⟩
    · exact ih
theorem wf_le {a : Nat → Int32} {n hr td h hill set m pw : Nat} (hw : wfN a n hr td h hill set m < n) (hz : ∀ i, i < pw → wfQ a n hr td h hill set m i = false) : pw ≤ wfN a n hr td h hill set m := by
  rcases Nat.lt_or_ge (wfN a n hr td h hill set m) pw with q | q
  · have h9 : wfQ a n hr td h hill set m (wfN a n hr td h hill set m) = true := fa_first_yes (wfQ a n hr td h hill set m) n hw
    rw [hz _ q] at h9; cases h9
  · exact q
theorem wf_eq {a : Nat → Int32} {n hr td h hill set m pw : Nat} (hw : wfN a n hr td h hill set m < n) (hz : ∀ i, i < pw → wfQ a n hr td h hill set m i = false) (hy : wfQ a n hr td h hill set m pw = true) : wfN a n hr td h hill set m = pw :=
  first_eq (Nat.lt_of_le_of_lt (wf_le hw hz) hw) hz hy
/-- the fewest hours, as the reference has them -/
def rlF (a : Nat → Int32) (n hr pl f0 : Nat) : Int32 := if a 9 = 1 then soD a n hr pl 20 f0 0 else if pl = 0 then soD a n hr pl 20 f0 0 else 1000000
theorem rl_e {a u : Nat → Int32} {n hr pl f0 : Nat} (hf : f0 < 2) (hp : pl < 1000) (h : soJ a n hr pl u 0 0 0) : (if a 9 = 1 then u (256 * 0 + 128 * f0 + 0) else if nI pl = 0 then u (256 * 0 + 128 * f0 + 0) else 1000000) = rlF a n hr pl f0 := by
  have e : (nI pl = 0) ↔ pl = 0 := nI_eq (a := pl) (b := 0) (by omega) (by omega)
  have e2 := h 0 f0 0 hf (Nat.two_pow_pos n) (Or.inl ⟨Nat.zero_le _, by decide⟩)
  rw [rlF, e2]
  simp only [e]
theorem iw_pl {n pl : Nat} (hn : n ≤ 7) (h : pl < 2 ^ n) : iw (nI pl) 0 (((1 : Int32) <<< (nI n &&& 31)) - 1) = true := by
  have hp := pw7 hn
  rw [sh1 n (by omega), nI_dec1 (by omega)]
  exact iw_nI (by omega) (by omega)
/-- the fewest hours, as the class has them -/
def fwF (wide : Int32) (ck wd pf : Nat → Int32) (n hr fh pl : Nat) (car rea : Nat → Int32) : Int32 := if pl = 0 then 0 else if ck 3 = 1 then frV (cof wide ck wd pf n hr) car pl (r00 fh rea) else -1
theorem ge_m2 {k : Int32} (h : 0 ≤ k) : -2 ≤ k := by rw [fa_le] at *; rw [show (0 : Int32).toInt = 0 from by decide] at h; rw [show (-2 : Int32).toInt = -2 from by decide]; omega
theorem ge_m1 {k : Int32} (h : 0 ≤ k) (e : k = -1) : False := by subst e; exact absurd h (by decide)
theorem ge_ne2 {k : Int32} (h : 0 ≤ k) (e : k = -2) : False := by subst e; exact absurd h (by decide)
