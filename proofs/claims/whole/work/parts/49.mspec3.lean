/-! the reference's guesses -/
/-- over, by that weight -/
def ovA (a : Nat → Int32) (k t : Nat) (g : Int32) : Bool := decide (a 5 ≤ rcA a k t (a (26 + k)) g)
/-- all seen strokes are so, by that weight -/
def hwA (a : Nat → Int32) (g : Int32) (j : Nat) : Bool := allB (fun i => ovA a (a (40 + 3 * i)).toNatClampNeg (a (40 + 3 * i + 1)).toNatClampNeg g == decide (a (40 + 3 * i + 2) = 1)) j
def oSA (a : Nat → Int32) (sn : Nat) : Prop := ∀ i, i < sn → ∃ k t : Nat, k < 7 ∧ t < 100 ∧ a (40 + 3 * i) = nI k ∧ a (40 + 3 * i + 1) = nI t
theorem hw_s {a : Nat → Int32} {j k t : Nat} {g : Int32} (hk : k < 7) (ht : t < 100) (ek : a (40 + 3 * j) = nI k) (et : a (40 + 3 * j + 1) = nI t) :
    (if bI (hwA a g j) = 0 then (0 : Int32) else if a (40 + 3 * j + 2) = 1 then (if bI (ovA a k t g) = 1 then 1 else 0) else (if bI (ovA a k t g) = 0 then 1 else 0)) = bI (hwA a g (j + 1)) := by
  show _ = bI (hwA a g j && (ovA a (a (40 + 3 * j)).toNatClampNeg (a (40 + 3 * j + 1)).toNatClampNeg g == decide (a (40 + 3 * j + 2) = 1)))
  rw [ek, et, nI_clamp (by omega), nI_clamp (by omega)]
  cases hwA a g j <;> cases ovA a k t g <;> by_cases h : a (40 + 3 * j + 2) = 1 <;> simp [h, bI]
/-- how many, the least, the greatest, of 1 .. i -/
def hvF (P : Nat → Bool) : Nat → Int32 × Int32 × Int32
  | 0 => (0, -1, -1)
  | i + 1 => if P (i + 1) then ((hvF P i).1 + 1, (if (hvF P i).1 = 0 then nI (i + 1) else (hvF P i).2.1), nI (i + 1)) else hvF P i
theorem hv_1 {b : Bool} {X : Int32 × Int32 × Int32} {y z : Int32} : (if bI b = 0 then X.1 else X.1 + 1) = (if b = true then (X.1 + 1, y, z) else X).1 := by cases b <;> rfl
theorem hv_2 {b : Bool} {X : Int32 × Int32 × Int32} {x v z : Int32} : (if bI b = 0 then X.2.1 else if X.1 = 0 then v else X.2.1) = (if b = true then (x, (if X.1 = 0 then v else X.2.1), z) else X).2.1 := by cases b <;> rfl
theorem hv_3 {b : Bool} {X : Int32 × Int32 × Int32} {x y z : Int32} : (if bI b = 0 then X.2.2 else z) = (if b = true then (x, y, z) else X).2.2 := by cases b <;> rfl
theorem te_1 {b d : Bool} {x : Int32} {j : Nat} (h : 1 ≤ j) : x + (if bI b = 0 then 0 else if bI d = 0 then 0 else 1) = if (decide (1 ≤ j) && (b && (d == true))) = true then x + 1 else x := by
  cases b <;> cases d <;> simp [h, bI]
theorem te_0 {b d : Bool} {x : Int32} {j : Nat} (h : 1 ≤ j) : x + (if bI b = 0 then 0 else if bI d = 0 then 1 else 0) = if (decide (1 ≤ j) && (b && (d == false))) = true then x + 1 else x := by
  cases b <;> cases d <;> simp [h, bI]
/-- over, or short, by the weights that fit -/
def teA (a : Nat → Int32) (sn k t : Nat) (b : Bool) (j : Nat) : Int32 := cntF (fun g => decide (1 ≤ g) && (hwA a (nI g) sn && (ovA a k t (nI g) == b))) j
def teM (a : Nat → Int32) (sn k t : Nat) : Int32 := if teA a sn k t false 10 < teA a sn k t true 10 then teA a sn k t true 10 else teA a sn k t false 10
/-- the least part above 0, the first -/
def amT (part : Nat → Int32) : Nat → Int32 × Int32
  | 0 => (-1, 1000000)
  | t + 1 => if 0 < part t then (if part t < (amT part t).2 then (nI t, part t) else amT part t) else amT part t
theorem at_1 {p v : Int32} {X : Int32 × Int32} : (if 0 < p then (if p < X.2 then v else X.1) else X.1) = (if 0 < p then (if p < X.2 then (v, p) else X) else X).1 := by split <;> (try split) <;> rfl
theorem at_2 {p v : Int32} {X : Int32 × Int32} : (if 0 < p then (if p < X.2 then p else X.2) else X.2) = (if 0 < p then (if p < X.2 then (v, p) else X) else X).2 := by split <;> (try split) <;> rfl
theorem al_s {x : Bool} {P : Prop} [Decidable P] : (if bI x = 0 then (0 : Int32) else if P then 1 else 0) = bI (x && decide P) := by cases x <;> by_cases h : P <;> simp [h, bI]
theorem al_m {x : Bool} {P Q : Prop} [Decidable P] [Decidable Q] : (if bI x = 0 then (0 : Int32) else if P then (if Q then 1 else 0) else 1) = bI (x && (!(decide P) || decide Q)) := by cases x <;> by_cases h : P <;> by_cases h2 : Q <;> simp [h, h2, bI]
/-- kinds that fit -/
def ncA (a : Nat → Int32) (kind : Int32) (j : Nat) : Bool := allB (fun i => decide (fl kind (a (55 + 4 * i)) (a (55 + 4 * i + 1)) (a (55 + 4 * i + 2)) = a (55 + 4 * i + 3))) j
def mcA (a : Nat → Int32) (p kind : Int32) (j : Nat) : Bool := allB (fun i => !(decide (a (79 + 4 * i) = p)) || decide (bl kind (a (79 + 4 * i + 1)) (a (79 + 4 * i + 2)) = a (79 + 4 * i + 3))) j
theorem or_s {b : Bool} {x : Int32} {P : Nat → Bool} {j : Nat} (hx : x = orF P j) (hb : b = P j) : x ||| (if bI b = 0 then 0 else ((1 : Int32) <<< (nI j &&& 31))) = orF P (j + 1) := by
  rw [or_1, orF, hx, hb]
theorem cnt_nI {P : Nat → Bool} : ∀ n : Nat, ∃ c : Nat, c ≤ n ∧ cntF P n = nI c
  | 0 => ⟨0, Nat.le_refl _, rfl⟩
  | n + 1 => by
    obtain ⟨c, hc, e⟩ := cnt_nI (P := P) n
    rw [cntF]
    cases P n
    · exact ⟨c, by omega, by rw [e]; rfl⟩
    · exact ⟨c + 1, by omega, by rw [e]; exact nI_1 c⟩
theorem max_nn {Q : Nat → Bool} {f : Nat → Int32} (h : ∀ i, ¬ f i < 0) : ∀ n, ¬ maxF Q f n < 0
  | 0 => by rw [maxF]; decide
  | n + 1 => by
    rw [maxF]
    split
    · split
      · exact h n
      · exact max_nn h n
    · exact max_nn h n
/-- of one kind: how many are as it is -/
def lkF (set : Int32) (f : Nat → Int32) (i : Nat) (j : Nat) : Int32 := cntF (fun q => tb set q && decide (f q = f i)) j
theorem lk_s {set : Int32} {f : Nat → Int32} {i j : Nat} {x : Int32} (hx : x = lkF set f i j) : x + (if bI (tb set j) = 0 then 0 else if f i = f j then 1 else 0) = lkF set f i (j + 1) := by
  rw [hx, lkF, lkF, cntF]
  cases tb set j
  · simp [bI]
  · by_cases h : f i = f j
    · simp [bI, h]
    · have h2 : ¬ f j = f i := fun q => h q.symm
      simp [bI, h, h2]
theorem ma_s {set : Int32} {f : Nat → Int32} {i : Nat} {x y : Int32} (hy : y = maxF (tb set) (fun i => lkF set f i 6) i) (hx : x = if tb set i = true then lkF set f i 6 else 0) : (if y < x then x else y) = maxF (tb set) (fun i => lkF set f i 6) (i + 1) := by
  rw [maxF, hx, ← hy]
  cases h : tb set i
  · have hn : ¬ y < 0 := by
      rw [hy]; refine max_nn (fun q => ?_) i
      obtain ⟨c, hc, e⟩ := cnt_nI (P := fun z => tb set z && decide (f z = f q)) 6
      show ¬ lkF set f q 6 < 0
      rw [lkF, e]; exact nI_pos (by omega)
    simp [hn]
  · simp
/-- looks, as the reference goes through them -/
def lookR (val part : Nat → Nat → Int32) (r : Int32 × Int32) : Nat → Int32 × Int32
  | 0 => r
  | x + 1 => amnF (val x) (part x) (lookR val part r x) 9
def kcA (a : Nat → Int32) (nn : Nat) : Int32 := orF (fun i => ncA a (nI i) nn) 6
def kpA (a : Nat → Int32) (p : Int32) (mn : Nat) : Int32 := orF (fun i => mcA a p (nI i) mn) 6
theorem ms_fill {te g : Nat → Int32} : te = fun i => if i < 0 then g i else te i := by funext i; rw [if_neg (Nat.not_lt_zero _)]
theorem ms_fill2 {te f : Nat → Int32} : (fun i => if i < 6 then f i else te i) = fun i => if i < 6 then f i else te i := rfl
