/-! the reference's loops: how long, rallies -/
def exB (P : Nat → Bool) : Nat → Bool
  | 0 => false
  | k + 1 => exB P k || P k
theorem exB_iff {P : Nat → Bool} : ∀ {n : Nat}, exB P n = true ↔ ∃ k, k < n ∧ P k = true
  | 0 => ⟨fun h => (by cases h), fun ⟨_, h, _⟩ => absurd h (Nat.not_lt_zero _)⟩
  | n + 1 => by
    rw [exB, Bool.or_eq_true, exB_iff (n := n)]
    constructor
    · rintro (⟨k, h1, h2⟩ | h)
      · exact ⟨k, by omega, h2⟩
      · exact ⟨n, by omega, h⟩
    · rintro ⟨k, h1, h2⟩
      by_cases e : k = n
      · subst e; exact Or.inr h2
      · exact Or.inl ⟨k, by omega, h2⟩
theorem exB_cong {P Q : Nat → Bool} : ∀ {n : Nat}, (∀ k, k < n → P k = Q k) → exB P n = exB Q n
  | 0, _ => rfl
  | n + 1, h => by rw [exB, exB, exB_cong (n := n) (fun k hk => h k (by omega)), h n (by omega)]
theorem ex_s {x c : Bool} {P : Prop} [Decidable P] : (if bI x = 0 then (if P then (if bI c = 0 then (0 : Int32) else 1) else 0) else 1) = bI (x || (decide P && c)) := by
  cases x <;> cases c <;> by_cases h : P <;> simp [h, bI]
def fnA (b : Nat → Int32) (n hr fh i : Nat) : Bool := exB (fun p => decide (b (26 + p) = nI ((fh + i) % 2)) && crA b p (hr + i) (nI ((fh + i) % 2))) n
def lsN (b : Nat → Int32) (n hr fh : Nat) : Nat := fa_first (fun i => !(fnA b n hr fh i)) 60
theorem hill_fl {x : Nat} : 1 - nI (x % 2) = nI ((x + 1) % 2) := by
  rcases (show x % 2 = 0 ∨ x % 2 = 1 by omega) with h | h
  · rw [h, show (x + 1) % 2 = 1 by omega]; rfl
  · rw [h, show (x + 1) % 2 = 0 by omega]; rfl
theorem ls_e {b : Nat → Int32} {n hr fh m : Nat} (hm : m ≤ 60) (hn : ¬ m < 60) (hz : ∀ i, i < m → fnA b n hr fh i = true) : m = lsN b n hr fh := by
  have e : m = 60 := by omega
  subst e
  exact (first_all (p := fun i => !(fnA b n hr fh i)) (fun k hk => by rw [hz k hk]; rfl)).symm
theorem ls_d {b : Nat → Int32} {n hr fh m : Nat} {gv hv : Int32} (hm : m < 60) (hz : ∀ i, i < m → fnA b n hr fh i = true) (h0 : hv = nI ((fh + m) % 2)) (hg : gv = bI (fnA b n hr fh m)) :
    (gv = 1 ∧ 1 - hv = nI ((fh + (if fnA b n hr fh m = true then m + 1 else m)) % 2) ∧ ∀ i, i < (if fnA b n hr fh m = true then m + 1 else m) → fnA b n hr fh i = true) ∨ (gv = 0 ∧ (if fnA b n hr fh m = true then m + 1 else m) = lsN b n hr fh) := by
  cases h : fnA b n hr fh m with
  | true =>
    left
    rw [hg, h, h0]
    refine ⟨rfl, ?_, ?_⟩
    · rw [if_pos rfl, hill_fl, Nat.add_assoc]
    · rw [if_pos rfl]
      intro i hi
      by_cases e : i = m
      · subst e; exact h
      · exact hz i (by omega)
  | false =>
    right
    rw [hg, h]
    refine ⟨rfl, ?_⟩
    rw [if_neg (by decide)]
    exact (first_eq (p := fun i => !(fnA b n hr fh i)) hm (fun k hk => by rw [hz k hk]; rfl) (by rw [h]; rfl)).symm
theorem ls_n {m : Nat} {b : Bool} : nI m + (if bI b = 0 then 0 else 1) = nI (if b = true then m + 1 else m) := by
  cases b
  · show nI m + 0 = nI m; rw [Int32.add_zero]
  · show nI m + 1 = nI (m + 1); exact nI_1 m
/-- hands of a way: who stands where -/
def wyA (a hf : Nat → Int32) (n : Nat) (code : Nat) : Nat → (Nat → Int32)
  | 0 => fa_fill a hf 40
  | k + 1 => upd (wyA a hf n code k) (26 + k) ((nI code >>> ((nI n - 1 - nI k) &&& 31)) &&& 1)
theorem wyA_lo {a hf : Nat → Int32} {n code i : Nat} (h : i < 26) : ∀ k, wyA a hf n code k i = a i
  | 0 => fa_fill_in (by omega)
  | k + 1 => by rw [wyA, pk_un (by omega), wyA_lo h k]
/-- ways one by one: the best one's number, how long -/
def plA (f : Nat → Int32) : Nat → Int32 × Int32
  | 0 => (0, -1)
  | c + 1 => if (plA f c).2 < f c then (nI c, f c) else plA f c
theorem pl_1 {s v : Int32} {X : Int32 × Int32} : (if X.2 < s then v else X.1) = (if X.2 < s then (v, s) else X).1 := by split <;> rfl
theorem pl_2 {s v : Int32} {X : Int32 × Int32} : (if X.2 < s then s else X.2) = (if X.2 < s then (v, s) else X).2 := by split <;> rfl
theorem crA_cong {b d : Nat → Int32} {k hr : Nat} {hill : Int32} (hk : k < 7) (h : ∀ i, i < 40 → b i = d i) : crA b k hr hill = crA d k hr hill := by
  have hm : hr % 6 < 6 := Nat.mod_lt _ (by decide)
  unfold crA
  rw [← rcA_eq, ← rcA_eq, h 5 (by decide), h 6 (by decide), h 7 (by decide), h (19 + k) (by omega), h (33 + k) (by omega), h (13 + hr % 6) (by omega)]
theorem fnA_cong {b d : Nat → Int32} {n hr fh i : Nat} (hn : n ≤ 7) (h : ∀ i, i < 40 → b i = d i) : fnA b n hr fh i = fnA d n hr fh i := by
  unfold fnA
  exact exB_cong (fun k hk => by rw [crA_cong (by omega) h, h (26 + k) (by omega)])
theorem first_cong {p q : Nat → Bool} {n : Nat} (h : ∀ k, k < n → p k = q k) : fa_first p n = fa_first q n := by
  have hle := fa_first_le q n
  rcases Nat.lt_or_ge (fa_first q n) n with hj | hj
  · exact first_eq hj (fun k hk => by rw [h k (by omega)]; exact fa_first_no q n k hk) (by rw [h _ hj]; exact fa_first_yes q n hj)
  · have e : fa_first q n = n := by omega
    rw [e]
    exact first_all (fun k hk => by rw [h k hk]; exact fa_first_no q n k (by omega))
theorem ls_cong {b d : Nat → Int32} {n hr fh : Nat} (hn : n ≤ 7) (h : ∀ i, i < 40 → b i = d i) : lsN b n hr fh = lsN d n hr fh :=
  first_cong (fun k _ => by rw [fnA_cong hn h])
theorem wyA_cong {a hf hg : Nat → Int32} {n code : Nat} : ∀ k, k ≤ 7 → ∀ i, i < 40 → wyA a hf n code k i = wyA a hg n code k i
  | 0, _, i, hi => by rw [wyA, wyA, fa_fill_in hi, fa_fill_in hi]
  | k + 1, hk, i, hi => by
    rw [wyA, wyA]
    by_cases e : i = 26 + k
    · subst e; rw [pk_us, pk_us]
    · rw [pk_un e, pk_un e, wyA_cong k (by omega) i hi]
/-- how long, by the way of that number -/
def lwA (a : Nat → Int32) (n hr fh c : Nat) : Int32 := if a 9 = 1 then nI (lsN (wyA a (fun _ => 0) n c n) n hr fh) else 0
theorem lw_eq {a hf : Nat → Int32} {n hr fh c : Nat} (hn : n ≤ 7) (hup : a 9 = 1) : nI (lsN (wyA a hf n c n) n hr fh) = lwA a n hr fh c := by
  rw [lwA, if_pos hup, ls_cong hn (wyA_cong n hn)]
