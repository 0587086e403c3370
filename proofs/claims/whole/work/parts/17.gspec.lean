/-! counting, choosing: the loops' own words -/
/-- the bit is there -/
def tb (x : Int32) (j : Nat) : Bool := decide (¬ (x >>> (nI j &&& 31)) &&& 1 = 0)
def cntF (P : Nat → Bool) : Nat → Int32
  | 0 => 0
  | k + 1 => if P k then cntF P k + 1 else cntF P k
def allB (P : Nat → Bool) : Nat → Bool
  | 0 => true
  | k + 1 => allB P k && P k
def maxF (Q : Nat → Bool) (f : Nat → Int32) : Nat → Int32
  | 0 => 0
  | k + 1 => if Q k then (if maxF Q f k < f k then f k else maxF Q f k) else maxF Q f k
/-- the most of these kinds whose measures are alike -/
def mal (kinds : Int32) (f : Nat → Int32) : Int32 := maxF (tb kinds) (fun i => cntF (fun j => tb kinds j && decide (f j = f i)) 6) 6
def amnF (val part : Nat → Int32) (r : Int32 × Int32) : Nat → Int32 × Int32
  | 0 => r
  | t + 1 => if part t < (amnF val part r t).2 then (val t, part t) else amnF val part r t
def amnG (val part : Nat → Int32) (r : Int32 × Int32) : Nat → Int32 × Int32
  | 0 => r
  | t + 1 => if 1 < (amnG val part r t).2 then (if part t < (amnG val part r t).2 then (val t, part t) else amnG val part r t) else amnG val part r t
def lookC (val part : Nat → Nat → Int32) (r : Int32 × Int32) : Nat → Int32 × Int32
  | 0 => r
  | x + 1 => if 1 < (lookC val part r x).2 then amnF (val x) (part x) (lookC val part r x) 9 else lookC val part r x
theorem cntF_cong {P Q : Nat → Bool} : ∀ {n : Nat}, (∀ k, k < n → P k = Q k) → cntF P n = cntF Q n
  | 0, _ => rfl
  | n + 1, h => by rw [cntF, cntF, cntF_cong (n := n) (fun k hk => h k (by omega)), h n (by omega)]
theorem maxF_cong {P Q : Nat → Bool} {f g : Nat → Int32} : ∀ {n : Nat}, (∀ k, k < n → P k = Q k ∧ f k = g k) → maxF P f n = maxF Q g n
  | 0, _ => rfl
  | n + 1, h => by rw [maxF, maxF, maxF_cong (n := n) (fun k hk => h k (by omega)), (h n (by omega)).1, (h n (by omega)).2]
theorem allB_cong {P Q : Nat → Bool} : ∀ {n : Nat}, (∀ k, k < n → P k = Q k) → allB P n = allB Q n
  | 0, _ => rfl
  | n + 1, h => by rw [allB, allB, allB_cong (n := n) (fun k hk => h k (by omega)), h n (by omega)]
theorem orF_cong {P Q : Nat → Bool} : ∀ {n : Nat}, (∀ k, k < n → P k = Q k) → orF P n = orF Q n
  | 0, _ => rfl
  | n + 1, h => by rw [orF, orF, orF_cong (n := n) (fun k hk => h k (by omega)), h n (by omega)]
theorem mal_cong {k : Int32} {f g : Nat → Int32} (h : ∀ i, i < 6 → f i = g i) : mal k f = mal k g :=
  maxF_cong (fun i hi => ⟨rfl, cntF_cong (fun j hj => by rw [h i hi, h j hj])⟩)
theorem amnG_stop {val part : Nat → Int32} {r : Int32 × Int32} {t : Nat} (h : ¬ 1 < (amnG val part r t).2) : ∀ d, amnG val part r (t + d) = amnG val part r t
  | 0 => rfl
  | d + 1 => by rw [← Nat.add_assoc, amnG, amnG_stop h d, if_neg h]
theorem lookC_stop {val part : Nat → Nat → Int32} {r : Int32 × Int32} {t : Nat} (h : ¬ 1 < (lookC val part r t).2) : ∀ d, lookC val part r (t + d) = lookC val part r t
  | 0 => rfl
  | d + 1 => by rw [← Nat.add_assoc, lookC, lookC_stop h d, if_neg h]
theorem allB_false {P : Nat → Bool} {k n : Nat} (hk : k < n) (h : P k = false) : allB P n = false := by
  induction n with
  | zero => omega
  | succ n ih =>
    rw [allB]
    by_cases e : k = n
    · subst e; rw [h, Bool.and_false]
    · rw [ih (by omega), Bool.false_and]
theorem ms_upd (f g : Nat → Int32) (k : Nat) : upd (fun i => if i < k then g i else f i) k (g k) = fun i => if i < k + 1 then g i else f i := by
  funext i
  by_cases h : i = k
  · subst h; rw [pk_us, if_pos (Nat.lt_succ_self _)]
  · rw [pk_un h]; by_cases h2 : i < k
    · rw [if_pos h2, if_pos (by omega)]
    · rw [if_neg h2, if_neg (by omega)]
/-- of a stroke that was seen: who, when -/
def okS (n sn : Nat) (sf : Nat → Int32) : Prop := ∀ i, i < sn → ∃ k t : Nat, k < n ∧ t < 100 ∧ sf (i * 3 + 0) = nI k ∧ sf (i * 3 + 1) = nI t
def okN (nn : Nat) (nf : Nat → Int32) : Prop := ∀ i, i < nn → Rg (nf (i * 4 + 0)) 1 9 ∧ Rg (nf (i * 4 + 1)) 0 30 ∧ Rg (nf (i * 4 + 2)) (-4) 4
/-- a stroke that was seen is so, by this weight -/
def sB (wide : Int32) (ck wd pf sf : Nat → Int32) (g : Int32) (i : Nat) : Bool := decide (wide ≤ rch ck wd pf (sf (i * 3 + 0)).toNatClampNeg (sf (i * 3 + 1)).toNatClampNeg (pf ((sf (i * 3 + 0)).toNatClampNeg * 3 + 1)) g) == decide (sf (i * 3 + 2) = 1)
def nB (nf : Nat → Int32) (kind : Int32) (i : Nat) : Bool := decide (fl kind (nf (i * 4 + 0)) (nf (i * 4 + 1)) (nf (i * 4 + 2)) = nf (i * 4 + 3))
def mB (mf : Nat → Int32) (p kind : Int32) (i : Nat) : Bool := !(decide (mf (i * 4 + 0) = p)) || decide (bl kind (mf (i * 4 + 1)) (mf (i * 4 + 2)) = mf (i * 4 + 3))
/-- the weights that fit -/
def wts (wide : Int32) (ck wd pf sf : Nat → Int32) (sn : Nat) : Int32 := orF (fun g => decide (1 ≤ g) && allB (sB wide ck wd pf sf (nI g)) sn) 10
/-- over, or short, by these weights -/
def gpt (wide : Int32) (ck wd pf : Nat → Int32) (k hr : Nat) (ws : Int32) (b : Bool) : Int32 := cntF (fun g => decide (1 ≤ g) && (tb ws g && (decide (wide ≤ rch ck wd pf k hr (pf (k * 3 + 1)) (nI g)) == b))) 10
theorem Rg_nI {j : Nat} {lo hi : Int} (h : j < 1000) (h1 : lo ≤ j) (h2 : (j : Int) ≤ hi) : Rg (nI j) lo hi := by rw [Rg, nI_toInt (by omega)]; exact ⟨h1, h2⟩
theorem seen_t {b : Bool} {y : Int32} {q : Prop} [Decidable q] (h : bI b = y) (e : y = if q then 1 else 0) : (b == decide q) = true := by
  subst e; by_cases hq : q <;> cases b <;> simp_all [bI]
theorem seen_f {b : Bool} {y : Int32} {q : Prop} [Decidable q] (h : ¬ bI b = y) (e : y = if q then 1 else 0) : (b == decide q) = false := by
  subst e; by_cases hq : q <;> cases b <;> simp_all [bI]
theorem mB_t {mf : Nat → Int32} {p kind : Int32} {i : Nat} (h : ¬ mf (i * 4 + 0) = p ∨ bl kind (mf (i * 4 + 1)) (mf (i * 4 + 2)) = mf (i * 4 + 3)) : mB mf p kind i = true := by
  unfold mB
  rcases h with h | h
  · rw [decide_eq_false h]; rfl
  · rw [decide_eq_true h, Bool.or_true]
theorem mB_f {mf : Nat → Int32} {p kind : Int32} {i : Nat} (h : mf (i * 4 + 0) = p) (h2 : ¬ bl kind (mf (i * 4 + 1)) (mf (i * 4 + 2)) = mf (i * 4 + 3)) : mB mf p kind i = false := by
  unfold mB
  rw [decide_eq_true h, decide_eq_false h2]; rfl
theorem cnt_t {c : Prop} [Decidable c] {b : Bool} {x : Int32} {j : Nat} (h : 1 ≤ j) : (if c then x else if bI b = 0 then x else x + 1) = if (decide (1 ≤ j) && (decide (¬ c) && (b == true))) = true then x + 1 else x := by
  by_cases hc : c <;> cases b <;> simp [hc, h, bI]
theorem cnt_f {c : Prop} [Decidable c] {b : Bool} {x : Int32} {j : Nat} (h : 1 ≤ j) : (if c then x else if bI b = 0 then x + 1 else x) = if (decide (1 ≤ j) && (decide (¬ c) && (b == false))) = true then x + 1 else x := by
  by_cases hc : c <;> cases b <;> simp [hc, h, bI]
theorem am_1 {p v : Int32} {X : Int32 × Int32} (h : 1 < X.2) : (if p < X.2 then v else X.1) = (if 1 < X.2 then (if p < X.2 then (v, p) else X) else X).1 := by
  rw [if_pos h]; split <;> rfl
theorem am_2 {p v : Int32} {X : Int32 × Int32} (h : 1 < X.2) : (if p < X.2 then p else X.2) = (if 1 < X.2 then (if p < X.2 then (v, p) else X) else X).2 := by
  rw [if_pos h]; split <;> rfl
theorem af_1 {p v : Int32} {X : Int32 × Int32} : (if p < X.2 then v else X.1) = (if p < X.2 then (v, p) else X).1 := by split <;> rfl
theorem af_2 {p v : Int32} {X : Int32 × Int32} : (if p < X.2 then p else X.2) = (if p < X.2 then (v, p) else X).2 := by split <;> rfl
theorem look_w (y : Nat) : nI y - 4 + 1 = nI (y + 1) - 4 := by
  rw [← nI_1, Int32.sub_eq_add_neg, Int32.sub_eq_add_neg, Int32.add_assoc, Int32.add_assoc, Int32.add_comm (-4) 1]
theorem look_v (x y : Nat) : 10 * nI x + (nI y - 4) + 4 = nI (10 * x + y) := by
  rw [← nI_add, ← pk_mul, Int32.add_assoc, Int32.sub_add_cancel]; rfl
theorem look_toInt {y : Nat} (h : y < 1000) : (nI y - 4).toInt = (y : Int) - 4 := by
  have := pk_sub_toInt (a := y) (b := 4) (by omega) (by omega)
  exact this
theorem look_rg {y : Nat} (h : y < 9) : Rg (nI y - 4) (-4) 4 := by rw [Rg, look_toInt (by omega)]; omega
theorem look_le {y : Nat} (h : y ≤ 9) : nI y - 4 ≤ 4 ↔ y < 9 := by
  rw [fa_le, look_toInt (by omega), show (4 : Int32).toInt = 4 from by decide]; omega
