/-! plain facts on numbers and arrays, to paste: each family by itself; over the kit's rows on nI and upd -/
/-! ===== order of ints, in all its forms, and through longs ===== -/
theorem fa_lt (a b : Int32) : a < b ↔ a.toInt < b.toInt := Int32.lt_iff_toInt_lt
theorem fa_le (a b : Int32) : a ≤ b ↔ a.toInt ≤ b.toInt := Int32.le_iff_toInt_le
theorem fa_eq (a b : Int32) : a = b ↔ a.toInt = b.toInt := Int32.toInt_inj.symm
theorem fa_lt64 (a b : Int64) : a < b ↔ a.toInt < b.toInt := Int64.lt_iff_toInt_lt
theorem fa_le64 (a b : Int64) : a ≤ b ↔ a.toInt ≤ b.toInt := Int64.le_iff_toInt_le
theorem fa_eq64 (a b : Int64) : a = b ↔ a.toInt = b.toInt := Int64.toInt_inj.symm
/-- a comparison of two ints taken as longs -/
theorem fa_wide_lt (a b : Int32) : a.toInt64 < b.toInt64 ↔ a < b := by rw [fa_lt64, fa_lt, Int32.toInt_toInt64, Int32.toInt_toInt64]
theorem fa_wide_le (a b : Int32) : a.toInt64 ≤ b.toInt64 ↔ a ≤ b := by rw [fa_le64, fa_le, Int32.toInt_toInt64, Int32.toInt_toInt64]
theorem fa_wide_eq (a b : Int32) : a.toInt64 = b.toInt64 ↔ a = b := by rw [fa_eq64, fa_eq, Int32.toInt_toInt64, Int32.toInt_toInt64]
/-- one strict comparison gives all the others -/
theorem fa_of_lt {a b : Int32} (h : a < b) : a ≤ b ∧ ¬ b ≤ a ∧ ¬ b < a ∧ a ≠ b ∧ b ≠ a := by
  rw [fa_lt] at h
  refine ⟨?_, ?_, ?_, ?_, ?_⟩
  · rw [fa_le]; omega
  · rw [fa_le]; omega
  · rw [fa_lt]; omega
  · intro e; rw [fa_eq] at e; omega
  · intro e; rw [fa_eq] at e; omega
theorem fa_of_nlt {a b : Int32} (h : ¬ a < b) : b ≤ a := by
  rw [fa_lt] at h
  rw [fa_le]
  omega
theorem fa_of_nle {a b : Int32} (h : ¬ a ≤ b) : b < a := by
  rw [fa_le] at h
  rw [fa_lt]
  omega
theorem fa_le_ne {a b : Int32} (h : a ≤ b) (h2 : a ≠ b) : a < b := by
  rw [fa_le] at h
  rw [fa_lt]
  have h3 : a.toInt ≠ b.toInt := fun e => h2 ((fa_eq a b).mpr e)
  omega
theorem fa_three (a b : Int32) : a < b ∨ a = b ∨ b < a := by
  rw [fa_lt, fa_lt, fa_eq]
  omega
theorem fa_trans {a b c : Int32} (h : a < b) (h2 : b ≤ c) : a < c := by
  rw [fa_lt] at *
  rw [fa_le] at h2
  omega
/-! ===== small literals as numbers ===== -/
theorem fa_lit (n : Nat) : (OfNat.ofNat n : Int32) = nI n := rfl
theorem fa_litL (n : Nat) : (OfNat.ofNat n : Int64) = lN n := rfl
/-! ===== bits of a number: 'or', masks, one bit ===== -/
theorem fa_and (a b : Nat) : nI a &&& nI b = nI (a &&& b) := by
  apply Int32.toBitVec_inj.1
  show BitVec.ofNat 32 a &&& BitVec.ofNat 32 b = BitVec.ofNat 32 (a &&& b)
  apply BitVec.eq_of_getLsbD_eq
  intro i hi
  simp [hi]
theorem fa_or (a b : Nat) : nI a ||| nI b = nI (a ||| b) := by
  apply Int32.toBitVec_inj.1
  show BitVec.ofNat 32 a ||| BitVec.ofNat 32 b = BitVec.ofNat 32 (a ||| b)
  apply BitVec.eq_of_getLsbD_eq
  intro i hi
  simp [hi]
/-- a remainder by a power of two, as a mask -/
theorem fa_mask (n k : Nat) : nI n &&& nI (2 ^ k - 1) = nI (n % 2 ^ k) := by rw [fa_and, Nat.and_two_pow_sub_one_eq_mod]
/-- 'or' of a high part and a low one that don't meet is their sum -/
theorem fa_or_sum {a k : Nat} (b : Nat) (h : a < 2 ^ k) : nI (2 ^ k * b) ||| nI a = nI (2 ^ k * b + a) := by rw [fa_or, Nat.two_pow_add_eq_or_of_lt h]
/-- one bit, by 'and' with a power of two -/
theorem fa_bit {n j : Nat} (hj : j < 31) : nI n &&& nI (2 ^ j) = 0 ↔ n.testBit j = false := by
  have h2 : (2 : Nat) ^ j < 2 ^ 31 := Nat.pow_lt_pow_right (by decide) hj
  have hle : n &&& 2 ^ j ≤ 2 ^ j := Nat.and_le_right
  have e : n &&& 2 ^ j = 0 ↔ n.testBit j = false := by
    constructor
    · intro h
      have h1 : (n &&& 2 ^ j).testBit j = false := by rw [h]; simp
      rw [Nat.testBit_and] at h1
      first | simpa using h1 | simpa [Nat.testBit_two_pow_self] using h1 | simpa [Nat.testBit_two_pow] using h1
    · intro h
      apply Nat.eq_of_testBit_eq
      intro i
      rw [Nat.testBit_and]
      by_cases hi : j = i
      · subst hi; simp [h]
      · first | (simp [Nat.testBit_two_pow, hi]; done) | (simp [Nat.testBit_two_pow_of_ne hi]; done)
  rw [fa_and]
  constructor
  · intro h
    apply e.mp
    rcases Nat.eq_zero_or_pos (n &&& 2 ^ j) with z | z
    · exact z
    · exact absurd h (nI_ne0 z (Nat.lt_of_le_of_lt hle h2))
  · intro h
    rw [e.mpr h]; exact nI_0
/-- a remainder by a power of two of a number that isn't negative, as Java divides -/
theorem fa_rem {a k : Nat} (ha : a < 2 ^ 31) (hk : k < 31) : nI a - nI a / nI (2 ^ k) * nI (2 ^ k) = nI (a % 2 ^ k) := pk_rem ha (Nat.two_pow_pos k) (Nat.pow_lt_pow_right (by decide) hk)
/-! ===== cuts to a byte, a short ===== -/
theorem fa_byte_xor (x y : Int32) : (x ^^^ y).toInt8 = x.toInt8 ^^^ y.toInt8 := by
  apply Int8.toBitVec_inj.1
  apply BitVec.eq_of_getLsbD_eq
  intro i hi
  first | (simp [hi]; done) | (simp [hi, BitVec.getLsbD_setWidth, BitVec.getLsbD_signExtend]; done)
theorem fa_short_xor (x y : Int32) : (x ^^^ y).toInt16 = x.toInt16 ^^^ y.toInt16 := by
  apply Int16.toBitVec_inj.1
  apply BitVec.eq_of_getLsbD_eq
  intro i hi
  first | (simp [hi]; done) | (simp [hi, BitVec.getLsbD_setWidth, BitVec.getLsbD_signExtend]; done)
/-- the cut to a byte sees the low byte alone -/
theorem fa_byte_low (x : Int32) : (x &&& 255).toInt8 = x.toInt8 := by
  apply Int8.toBitVec_inj.1
  apply BitVec.eq_of_getLsbD_eq
  intro i hi
  have h2 : (255 : Int32).toBitVec.getLsbD i = true := by
    have : ∀ j : Fin 8, (255 : Int32).toBitVec.getLsbD j.val = true := by decide +kernel
    exact this ⟨i, hi⟩
  have h4 : (x &&& 255).toBitVec.getLsbD i = x.toBitVec.getLsbD i := by
    show (x.toBitVec &&& (255 : Int32).toBitVec).getLsbD i = _
    rw [BitVec.getLsbD_and, h2, Bool.and_true]
  have h3 : i < 32 := by omega
  first
    | (show (((x &&& 255).toBitVec).signExtend 8).getLsbD i = (x.toBitVec.signExtend 8).getLsbD i; rw [BitVec.getLsbD_signExtend, BitVec.getLsbD_signExtend, if_pos h3, if_pos h3, h4])
    | (show (((x &&& 255).toBitVec).setWidth 8).getLsbD i = (x.toBitVec.setWidth 8).getLsbD i; rw [BitVec.getLsbD_setWidth, BitVec.getLsbD_setWidth, h4])
    | (simp [hi, h3, h4]; done)
theorem fa_short_low (x : Int32) : (x &&& 65535).toInt16 = x.toInt16 := by
  apply Int16.toBitVec_inj.1
  apply BitVec.eq_of_getLsbD_eq
  intro i hi
  have h2 : (65535 : Int32).toBitVec.getLsbD i = true := by
    have : ∀ j : Fin 16, (65535 : Int32).toBitVec.getLsbD j.val = true := by decide +kernel
    exact this ⟨i, hi⟩
  have h4 : (x &&& 65535).toBitVec.getLsbD i = x.toBitVec.getLsbD i := by
    show (x.toBitVec &&& (65535 : Int32).toBitVec).getLsbD i = _
    rw [BitVec.getLsbD_and, h2, Bool.and_true]
  have h3 : i < 32 := by omega
  first
    | (show (((x &&& 65535).toBitVec).signExtend 16).getLsbD i = (x.toBitVec.signExtend 16).getLsbD i; rw [BitVec.getLsbD_signExtend, BitVec.getLsbD_signExtend, if_pos h3, if_pos h3, h4])
    | (show (((x &&& 65535).toBitVec).setWidth 16).getLsbD i = (x.toBitVec.setWidth 16).getLsbD i; rw [BitVec.getLsbD_setWidth, BitVec.getLsbD_setWidth, h4])
    | (simp [hi, h3, h4]; done)
/-- a small number is its own byte, its own short -/
theorem fa_byte_small {n : Nat} (h : n < 128) : (nI n).toInt8.toInt32 = nI n := by
  have : ∀ j : Fin 128, (nI j.val).toInt8.toInt32 = nI j.val := by decide +kernel
  exact this ⟨n, h⟩
/-! ===== absolute difference ===== -/
theorem fa_absdiff {a b : Nat} (ha : a < 2 ^ 31) (hb : b < 2 ^ 31) : (if nI a < nI b then nI b - nI a else nI a - nI b) = nI (if a < b then b - a else a - b) := by
  by_cases h : a < b
  · rw [if_pos (nI_lt h hb), if_pos h]
    exact pk_sub (Nat.le_of_lt h)
  · rw [if_neg (nI_nlt (Nat.le_of_not_lt h) ha), if_neg h]
    exact pk_sub (Nat.le_of_not_lt h)
/-! ===== an array behind i stores, a conditional store, a row copied ===== -/
/-- f where k < i, what stood there else -/
def fa_fill {α : Type} (f g : Nat → α) (i : Nat) : Nat → α := fun k => if k < i then f k else g k
theorem fa_fill_0 {α : Type} (f g : Nat → α) : fa_fill f g 0 = g := funext fun k => if_neg (Nat.not_lt_zero k)
theorem fa_fill_in {α : Type} {f g : Nat → α} {i k : Nat} (h : k < i) : fa_fill f g i k = f k := if_pos h
theorem fa_fill_out {α : Type} {f g : Nat → α} {i k : Nat} (h : i ≤ k) : fa_fill f g i k = g k := if_neg (Nat.not_lt.mpr h)
theorem fa_fill_succ (f g : Nat → Int32) (i : Nat) : upd (fa_fill f g i) i (f i) = fa_fill f g (i + 1) := by
  funext k
  by_cases e : k = i
  · subst e
    rw [pk_us]
    exact (if_pos (Nat.lt_succ_self k)).symm
  · rw [pk_un e]
    by_cases h : k < i
    · rw [fa_fill_in h, fa_fill_in (Nat.lt_succ_of_lt h)]
    · rw [fa_fill_out (Nat.le_of_not_lt h), fa_fill_out (by omega)]
/-- a store that changes nothing -/
theorem fa_upd_same {f : Nat → Int32} {i : Nat} {x : Int32} (h : f i = x) : upd f i x = f := by
  funext k
  by_cases e : k = i
  · subst e
    rw [pk_us, h]
  · rw [pk_un e]
/-- a store under a condition, told as one -/
theorem fa_upd_if (c : Prop) [Decidable c] (f : Nat → Int32) (i : Nat) (x : Int32) : (if c then upd f i x else f) = upd f i (if c then x else f i) := by
  by_cases h : c
  · rw [if_pos h, if_pos h]
  · rw [if_neg h, if_neg h, fa_upd_same rfl]
/-- two stores at one place, at two -/
theorem fa_upd_twice (f : Nat → Int32) (i : Nat) (x y : Int32) : upd (upd f i x) i y = upd f i y := by
  funext k
  by_cases e : k = i
  · subst e
    rw [pk_us, pk_us]
  · rw [pk_un e, pk_un e, pk_un e]
theorem fa_upd_swap (f : Nat → Int32) {i j : Nat} (h : i ≠ j) (x y : Int32) : upd (upd f i x) j y = upd (upd f j y) i x := by
  funext k
  by_cases e : k = i
  · subst e
    rw [pk_un h, pk_us, pk_us]
  · by_cases e2 : k = j
    · subst e2
      rw [pk_us, pk_un e, pk_us]
    · rw [pk_un e2, pk_un e, pk_un e, pk_un e2]
/-! ===== the first index with a property; a count ===== -/
/-- the first k < n with p k, n if there is none -/
def fa_first (p : Nat → Bool) : Nat → Nat
  | 0 => 0
  | n + 1 => if fa_first p n < n then fa_first p n else if p n then n else n + 1
theorem fa_first_le (p : Nat → Bool) : ∀ n, fa_first p n ≤ n
  | 0 => Nat.le_refl 0
  | n + 1 => by
    have ih := fa_first_le p n
    unfold fa_first
    split
    · omega
    · split
      · omega
      · omega
theorem fa_first_no (p : Nat → Bool) : ∀ n k, k < fa_first p n → p k = false
  | 0, k, h => absurd h (Nat.not_lt_zero k)
  | n + 1, k, h => by
    have ih := fa_first_no p n
    have hl := fa_first_le p n
    unfold fa_first at h
    split at h
    · exact ih k h
    · rename_i h1
      split at h
      · exact ih k (by omega)
      · rename_i h2
        by_cases e : k = n
        · subst e
          exact Bool.eq_false_iff.mpr h2
        · exact ih k (by omega)
theorem fa_first_yes (p : Nat → Bool) : ∀ n, fa_first p n < n → p (fa_first p n) = true
  | 0, h => absurd h (Nat.not_lt_zero _)
  | n + 1, h => by
    have ih := fa_first_yes p n
    have hl := fa_first_le p n
    unfold fa_first at h ⊢
    split at h
    · rename_i h1
      rw [if_pos h1]
      exact ih h1
    · rename_i h1
      rw [if_neg h1]
      split at h
      · rename_i h2
        rw [if_pos h2]
        exact h2
      · omega
/-- how many k < n have p k -/
def fa_cnt (p : Nat → Bool) : Nat → Nat
  | 0 => 0
  | n + 1 => fa_cnt p n + if p n then 1 else 0
theorem fa_cnt_le (p : Nat → Bool) : ∀ n, fa_cnt p n ≤ n
  | 0 => Nat.le_refl 0
  | n + 1 => by
    have ih := fa_cnt_le p n
    unfold fa_cnt
    split
    · omega
    · omega
theorem fa_cnt_yes {p : Nat → Bool} {n : Nat} (h : p n = true) : fa_cnt p (n + 1) = fa_cnt p n + 1 := by rw [fa_cnt, if_pos h]
theorem fa_cnt_no {p : Nat → Bool} {n : Nat} (h : p n = false) : fa_cnt p (n + 1) = fa_cnt p n := by rw [fa_cnt, if_neg (by rw [h]; decide)]; rfl
theorem fa_cnt_cong {p q : Nat → Bool} : ∀ {n : Nat}, (∀ k, k < n → p k = q k) → fa_cnt p n = fa_cnt q n
  | 0, _ => rfl
  | n + 1, h => by rw [fa_cnt, fa_cnt, fa_cnt_cong (fun k hk => h k (Nat.lt_succ_of_lt hk)), h n (Nat.lt_succ_self n)]
/-! ===== an answer carried into a post; a branch on a boolean answer ===== -/
theorem fa_post {α : Type} {P : α → Prop} {x y : α} (h : x = y) (hp : P y) : P x := h ▸ hp
theorem fa_post2 {α β : Type} {P : α → β → Prop} {x y : α} {u v : β} (h : x = y) (h2 : u = v) (hp : P y v) : P x u := h ▸ h2 ▸ hp
theorem fa_bool {r : Int32} {b : Bool} (h : r = if b then 1 else 0) : (r = 0 ↔ b = false) ∧ (¬ r = 0 ↔ b = true) := by
  subst h
  cases b
  · exact ⟨⟨fun _ => rfl, fun _ => rfl⟩, ⟨fun h => absurd rfl h, fun h => absurd h (by decide)⟩⟩
  · exact ⟨⟨fun h => absurd h (by decide), fun h => absurd h (by decide)⟩, ⟨fun _ => rfl, fun _ => by decide⟩⟩
/-- a boolean's narrowing changes nothing -/
theorem fa_bool_and {r : Int32} (h : r = 0 ∨ r = 1) : r &&& 1 = r := by
  rcases h with rfl | rfl
  · decide
  · decide
theorem fa_bool_prop {c : Prop} [Decidable c] {r : Int32} (h : r = if c then 1 else 0) : (r = 0 ↔ ¬ c) ∧ (¬ r = 0 ↔ c) := by
  subst h
  by_cases hc : c
  · rw [if_pos hc]
    exact ⟨⟨fun h => absurd h (by decide), fun h => absurd hc h⟩, ⟨fun _ => hc, fun _ => by decide⟩⟩
  · rw [if_neg hc]
    exact ⟨⟨fun _ => hc, fun _ => rfl⟩, ⟨fun h => absurd rfl h, fun h => absurd h hc⟩⟩

/-! plain facts to paste, each family by itself; over the kit's nI, lN and upd -/
/-! ===== drawers: more things than places ===== -/
theorem fb_holes : ∀ (m n : Nat) (f : Nat → Nat), (∀ i, i < n → f i < m) → (∀ i j, i < j → j < n → f i ≠ f j) → n ≤ m := by
  intro m
  induction m with
  | zero =>
    intro n f h1 _
    rcases Nat.eq_zero_or_pos n with h | h
    · omega
    · exact absurd (h1 0 h) (Nat.not_lt_zero _)
  | succ m ih =>
    intro n f h1 h2
    by_cases hx : ∃ i, i < n ∧ f i = m
    · obtain ⟨a, ha, hfa⟩ := hx
      have hg := ih (n - 1) (fun i => if i < a then f i else f (i + 1)) (by
        intro i hi
        by_cases q : i < a
        · simp only [if_pos q]
          have b1 := h1 i (by omega)
          have b2 := h2 i a q ha
          omega
        · simp only [if_neg q]
          have b1 := h1 (i + 1) (by omega)
          have b2 := h2 a (i + 1) (by omega) (by omega)
          omega) (by
        intro i j hij hj
        by_cases q : i < a
        · by_cases r : j < a
          · simp only [if_pos q, if_pos r]
            exact h2 i j hij (by omega)
          · simp only [if_pos q, if_neg r]
            exact h2 i (j + 1) (by omega) (by omega)
        · have r : ¬ j < a := by omega
          simp only [if_neg q, if_neg r]
          exact h2 (i + 1) (j + 1) (by omega) (by omega))
      omega
    · have hg := ih n f (fun i hi => by
        have b1 := h1 i hi
        have b2 : f i ≠ m := fun e => hx ⟨i, hi, e⟩
        omega) h2
      omega
/-- two of them in one place -/
theorem fb_twice {m n : Nat} {f : Nat → Nat} (h : ∀ i, i < n → f i < m) (hm : m < n) : ∃ i j, i < j ∧ j < n ∧ f i = f j := by
  refine Classical.byContradiction fun hx => ?_
  have := fb_holes m n f h (fun i j hij hj e => hx ⟨i, j, hij, hj, e⟩)
  omega
/-- as many as places, none twice: each place is taken -/
theorem fb_onto {n : Nat} {f : Nat → Nat} (h : ∀ i, i < n → f i < n) (h2 : ∀ i j, i < j → j < n → f i ≠ f j) {y : Nat} (hy : y < n) : ∃ i, i < n ∧ f i = y := by
  refine Classical.byContradiction fun hx => ?_
  have hne : ∀ i, i < n → f i ≠ y := fun i hi e => hx ⟨i, hi, e⟩
  have := fb_holes (n - 1) n (fun i => if f i < y then f i else f i - 1) (by
    intro i hi
    have b1 := h i hi
    have b2 := hne i hi
    by_cases q : f i < y
    · simp only [if_pos q]; omega
    · simp only [if_neg q]; omega) (by
    intro i j hij hj
    have b1 := hne i (by omega)
    have b2 := hne j hj
    have b3 := h2 i j hij hj
    by_cases q : f i < y
    · by_cases r : f j < y
      · simp only [if_pos q, if_pos r]; exact b3
      · simp only [if_pos q, if_neg r]; omega
    · by_cases r : f j < y
      · simp only [if_neg q, if_pos r]; omega
      · simp only [if_neg q, if_neg r]; omega)
  omega
/-! ===== how many places have a property ===== -/
def fb_ct (p : Nat → Bool) : Nat → Nat
  | 0 => 0
  | n + 1 => fb_ct p n + (if p n then 1 else 0)
theorem fb_ct_succ (p : Nat → Bool) (n : Nat) : fb_ct p (n + 1) = fb_ct p n + (if p n then 1 else 0) := rfl
theorem fb_ct_le (p : Nat → Bool) : ∀ n, fb_ct p n ≤ n
  | 0 => Nat.le_refl _
  | n + 1 => by
    have h := fb_ct_le p n
    rw [fb_ct_succ]
    split <;> omega
theorem fb_ct_step (p : Nat → Bool) (m : Nat) : ∀ n, fb_ct p m ≤ fb_ct p (m + n)
  | 0 => Nat.le_refl _
  | n + 1 => by
    have h := fb_ct_step p m n
    show fb_ct p m ≤ fb_ct p (m + n + 1)
    rw [fb_ct_succ]
    omega
theorem fb_ct_mono (p : Nat → Bool) {m n : Nat} (h : m ≤ n) : fb_ct p m ≤ fb_ct p n := by
  have := fb_ct_step p m (n - m)
  rwa [Nat.add_sub_cancel' h] at this
theorem fb_ct_cong {p q : Nat → Bool} : ∀ {n : Nat}, (∀ k, k < n → p k = q k) → fb_ct p n = fb_ct q n
  | 0, _ => rfl
  | n + 1, h => by
    rw [fb_ct_succ, fb_ct_succ, fb_ct_cong (fun k hk => h k (by omega)), h n (by omega)]
/-- one place changed -/
theorem fb_ct_out (p : Nat → Bool) (b : Bool) {i n : Nat} (h : n ≤ i) : fb_ct (fun k => if k = i then b else p k) n = fb_ct p n :=
  fb_ct_cong fun k hk => if_neg (by omega)
theorem fb_ct_upd (p : Nat → Bool) (b : Bool) {i : Nat} : ∀ {n : Nat}, i < n → fb_ct (fun k => if k = i then b else p k) n + (if p i then 1 else 0) = fb_ct p n + (if b then 1 else 0)
  | 0, h => absurd h (Nat.not_lt_zero i)
  | n + 1, h => by
    rw [fb_ct_succ, fb_ct_succ]
    rcases Nat.lt_or_ge i n with q | q
    · have := fb_ct_upd p b q
      have e : (if n = i then b else p n) = p n := if_neg (by omega)
      rw [e]
      omega
    · have e : i = n := by omega
      subst e
      rw [fb_ct_out p b (Nat.le_refl _)]
      simp only [if_true]
      omega
theorem fb_ct_sub {p q : Nat → Bool} : ∀ {n : Nat}, (∀ k, k < n → p k = true → q k = true) → fb_ct p n ≤ fb_ct q n
  | 0, _ => Nat.le_refl _
  | n + 1, h => by
    have h1 := fb_ct_sub (n := n) (p := p) (q := q) (fun k hk => h k (by omega))
    have h2 := h n (by omega)
    rw [fb_ct_succ, fb_ct_succ]
    cases hp : p n <;> cases hq : q n <;> simp_all <;> omega
theorem fb_ct_or {p q : Nat → Bool} : ∀ {n : Nat}, (∀ k, k < n → ¬ (p k = true ∧ q k = true)) → fb_ct (fun k => p k || q k) n = fb_ct p n + fb_ct q n
  | 0, _ => rfl
  | n + 1, h => by
    have h1 := fb_ct_or (n := n) (p := p) (q := q) (fun k hk => h k (by omega))
    have h2 := h n (by omega)
    rw [fb_ct_succ, fb_ct_succ, fb_ct_succ, h1]
    cases hp : p n <;> cases hq : q n <;> simp_all <;> omega
theorem fb_ct_not (p : Nat → Bool) : ∀ n, fb_ct p n + fb_ct (fun k => !p k) n = n
  | 0 => rfl
  | n + 1 => by
    have h := fb_ct_not p n
    rw [fb_ct_succ, fb_ct_succ]
    cases p n <;> simp <;> omega
theorem fb_ct_split (p : Nat → Bool) (m : Nat) : ∀ n, fb_ct p (m + n) = fb_ct p m + fb_ct (fun k => p (m + k)) n
  | 0 => rfl
  | n + 1 => by
    have h := fb_ct_split p m n
    show fb_ct p (m + n + 1) = _
    rw [fb_ct_succ, fb_ct_succ, h, Nat.add_assoc]
theorem fb_ct_zero {p : Nat → Bool} : ∀ {n : Nat}, fb_ct p n = 0 ↔ ∀ k, k < n → p k = false
  | 0 => ⟨fun _ k hk => absurd hk (Nat.not_lt_zero k), fun _ => rfl⟩
  | n + 1 => by
    have h := fb_ct_zero (p := p) (n := n)
    rw [fb_ct_succ]
    constructor
    · intro e k hk
      have e1 : fb_ct p n = 0 := by omega
      rcases Nat.lt_or_ge k n with q | q
      · exact h.mp e1 k q
      · have ek : k = n := by omega
        subst ek
        cases hp : p k
        · rfl
        · simp [hp] at e
    · intro a
      rw [h.mpr (fun k hk => a k (by omega)), a n (by omega)]
      rfl
theorem fb_ct_pos {p : Nat → Bool} {n : Nat} : 0 < fb_ct p n ↔ ∃ k, k < n ∧ p k = true := by
  constructor
  · intro h
    refine Classical.byContradiction fun hx => ?_
    have := fb_ct_zero.mpr (fun k hk => by
      cases hp : p k
      · rfl
      · exact absurd ⟨k, hk, hp⟩ hx : ∀ k, k < n → p k = false)
    omega
  · rintro ⟨k, hk, hp⟩
    rcases Nat.eq_zero_or_pos (fb_ct p n) with e | e
    · have := fb_ct_zero.mp e k hk
      rw [this] at hp
      cases hp
    · exact e
theorem fb_ct_all {p : Nat → Bool} {n : Nat} : fb_ct p n = n ↔ ∀ k, k < n → p k = true := by
  have h := fb_ct_not p n
  constructor
  · intro e k hk
    have z : fb_ct (fun k => !p k) n = 0 := by omega
    have := fb_ct_zero.mp z k hk
    cases hp : p k
    · simp [hp] at this
    · rfl
  · intro a
    have z : fb_ct (fun k => !p k) n = 0 := fb_ct_zero.mpr (fun k hk => by simp [a k hk])
    omega
/-- the k-th place with the property -/
theorem fb_ct_kth {p : Nat → Bool} {k : Nat} : ∀ {n : Nat}, k < fb_ct p n → ∃ i, i < n ∧ p i = true ∧ fb_ct p i = k
  | 0, h => absurd h (Nat.not_lt_zero k)
  | n + 1, h => by
    rcases Nat.lt_or_ge k (fb_ct p n) with q | q
    · obtain ⟨i, h1, h2⟩ := fb_ct_kth q
      exact ⟨i, by omega, h2⟩
    · rw [fb_ct_succ] at h
      cases hp : p n
      · simp [hp] at h; omega
      · simp [hp] at h
        exact ⟨n, by omega, hp, by omega⟩
theorem fb_ct_kth_one {p : Nat → Bool} {i j : Nat} (hi : p i = true) (hj : p j = true) (e : fb_ct p i = fb_ct p j) : i = j := by
  have key : ∀ a b : Nat, a < b → p a = true → fb_ct p a < fb_ct p b := by
    intro a b hab ha
    have h := fb_ct_mono p (show a + 1 ≤ b from hab)
    rw [fb_ct_succ, ha] at h
    simp at h
    omega
  rcases Nat.lt_trichotomy i j with q | q | q
  · have := key i j q hi; omega
  · exact q
  · have := key j i q hj; omega
/-! ===== sums over a range: one place changed, parts, bounds ===== -/
def fb_sm (f : Nat → Nat) : Nat → Nat
  | 0 => 0
  | n + 1 => fb_sm f n + f n
theorem fb_sm_succ (f : Nat → Nat) (n : Nat) : fb_sm f (n + 1) = fb_sm f n + f n := rfl
theorem fb_sm_cong {f g : Nat → Nat} : ∀ {n : Nat}, (∀ k, k < n → f k = g k) → fb_sm f n = fb_sm g n
  | 0, _ => rfl
  | n + 1, h => by rw [fb_sm_succ, fb_sm_succ, fb_sm_cong (fun k hk => h k (by omega)), h n (by omega)]
theorem fb_sm_out (f : Nat → Nat) (v : Nat) {i n : Nat} (h : n ≤ i) : fb_sm (fun k => if k = i then v else f k) n = fb_sm f n :=
  fb_sm_cong fun k hk => if_neg (by omega)
theorem fb_sm_upd (f : Nat → Nat) (v : Nat) {i : Nat} : ∀ {n : Nat}, i < n → fb_sm (fun k => if k = i then v else f k) n + f i = fb_sm f n + v
  | 0, h => absurd h (Nat.not_lt_zero i)
  | n + 1, h => by
    rw [fb_sm_succ, fb_sm_succ]
    rcases Nat.lt_or_ge i n with q | q
    · have := fb_sm_upd f v q
      have e : (if n = i then v else f n) = f n := if_neg (by omega)
      rw [e]
      omega
    · have e : i = n := by omega
      subst e
      rw [fb_sm_out f v (Nat.le_refl _)]
      simp only [if_true]
      omega
theorem fb_sm_add (f g : Nat → Nat) : ∀ n, fb_sm (fun k => f k + g k) n = fb_sm f n + fb_sm g n
  | 0 => rfl
  | n + 1 => by
    have h := fb_sm_add f g n
    rw [fb_sm_succ, fb_sm_succ, fb_sm_succ, h]
    omega
theorem fb_sm_le {f g : Nat → Nat} : ∀ {n : Nat}, (∀ k, k < n → f k ≤ g k) → fb_sm f n ≤ fb_sm g n
  | 0, _ => Nat.le_refl _
  | n + 1, h => by
    have h1 := fb_sm_le (n := n) (f := f) (g := g) (fun k hk => h k (by omega))
    have h2 := h n (by omega)
    rw [fb_sm_succ, fb_sm_succ]
    omega
theorem fb_sm_const (c : Nat) : ∀ n, fb_sm (fun _ => c) n = n * c
  | 0 => by rw [Nat.zero_mul]; rfl
  | n + 1 => by rw [fb_sm_succ, fb_sm_const c n, Nat.succ_mul]
theorem fb_sm_bound {f : Nat → Nat} {c n : Nat} (h : ∀ k, k < n → f k ≤ c) : fb_sm f n ≤ n * c := by
  rw [← fb_sm_const c n]
  exact fb_sm_le h
theorem fb_sm_mono (f : Nat → Nat) (m : Nat) : ∀ n, fb_sm f m ≤ fb_sm f (m + n)
  | 0 => Nat.le_refl _
  | n + 1 => by
    have h := fb_sm_mono f m n
    show fb_sm f m ≤ fb_sm f (m + n + 1)
    rw [fb_sm_succ]
    omega
theorem fb_sm_part (f : Nat → Nat) {i n : Nat} (h : i < n) : fb_sm f i + f i ≤ fb_sm f n := by
  have := fb_sm_mono f (i + 1) (n - (i + 1))
  rw [fb_sm_succ, show i + 1 + (n - (i + 1)) = n by omega] at this
  exact this
theorem fb_sm_split (f : Nat → Nat) (m : Nat) : ∀ n, fb_sm f (m + n) = fb_sm f m + fb_sm (fun k => f (m + k)) n
  | 0 => rfl
  | n + 1 => by
    have h := fb_sm_split f m n
    show fb_sm f (m + n + 1) = _
    rw [fb_sm_succ, fb_sm_succ, h, Nat.add_assoc]
theorem fb_sm_zero {f : Nat → Nat} {n : Nat} (h : fb_sm f n = 0) : ∀ k, k < n → f k = 0 := fun k hk => by
  have := fb_sm_part f hk
  omega
/-- the same over whole numbers -/
def fb_si (f : Nat → Int) : Nat → Int
  | 0 => 0
  | n + 1 => fb_si f n + f n
theorem fb_si_succ (f : Nat → Int) (n : Nat) : fb_si f (n + 1) = fb_si f n + f n := rfl
theorem fb_si_cong {f g : Nat → Int} : ∀ {n : Nat}, (∀ k, k < n → f k = g k) → fb_si f n = fb_si g n
  | 0, _ => rfl
  | n + 1, h => by rw [fb_si_succ, fb_si_succ, fb_si_cong (fun k hk => h k (by omega)), h n (by omega)]
theorem fb_si_out (f : Nat → Int) (v : Int) {i n : Nat} (h : n ≤ i) : fb_si (fun k => if k = i then v else f k) n = fb_si f n :=
  fb_si_cong fun k hk => if_neg (by omega)
theorem fb_si_upd (f : Nat → Int) (v : Int) {i : Nat} : ∀ {n : Nat}, i < n → fb_si (fun k => if k = i then v else f k) n = fb_si f n - f i + v
  | 0, h => absurd h (Nat.not_lt_zero i)
  | n + 1, h => by
    rw [fb_si_succ, fb_si_succ]
    rcases Nat.lt_or_ge i n with q | q
    · have := fb_si_upd f v q
      have e : (if n = i then v else f n) = f n := if_neg (by omega)
      rw [e]
      omega
    · have e : i = n := by omega
      subst e
      rw [fb_si_out f v (Nat.le_refl _)]
      simp only [if_true]
      omega
theorem fb_si_add (f g : Nat → Int) : ∀ n, fb_si (fun k => f k + g k) n = fb_si f n + fb_si g n
  | 0 => rfl
  | n + 1 => by
    have h := fb_si_add f g n
    rw [fb_si_succ, fb_si_succ, fb_si_succ, h]
    omega
theorem fb_si_sub (f g : Nat → Int) : ∀ n, fb_si (fun k => f k - g k) n = fb_si f n - fb_si g n
  | 0 => rfl
  | n + 1 => by
    have h := fb_si_sub f g n
    rw [fb_si_succ, fb_si_succ, fb_si_succ, h]
    omega
theorem fb_si_mul (c : Int) (f : Nat → Int) : ∀ n, fb_si (fun k => c * f k) n = c * fb_si f n
  | 0 => (Int.mul_zero c).symm
  | n + 1 => by
    have h := fb_si_mul c f n
    rw [fb_si_succ, fb_si_succ, h, Int.mul_add]
theorem fb_si_split (f : Nat → Int) (m : Nat) : ∀ n, fb_si f (m + n) = fb_si f m + fb_si (fun k => f (m + k)) n
  | 0 => (Int.add_zero _).symm
  | n + 1 => by
    have h := fb_si_split f m n
    show fb_si f (m + n + 1) = _
    rw [fb_si_succ, fb_si_succ, h, Int.add_assoc]
theorem fb_si_nat (f : Nat → Nat) : ∀ n, fb_si (fun k => (f k : Int)) n = (fb_sm f n : Int)
  | 0 => rfl
  | n + 1 => by
    have h := fb_si_nat f n
    rw [fb_si_succ, fb_sm_succ, h]
    omega
theorem fb_si_bound {f : Nat → Int} {c : Int} (hc : 0 ≤ c) : ∀ {n : Nat}, (∀ k, k < n → -c ≤ f k ∧ f k ≤ c) → -(n * c) ≤ fb_si f n ∧ fb_si f n ≤ n * c
  | 0, _ => by simp [fb_si]
  | n + 1, h => by
    have h1 := fb_si_bound (n := n) (f := f) hc (fun k hk => h k (by omega))
    have h2 := h n (by omega)
    have e : ((n + 1 : Nat) : Int) * c = n * c + c := by rw [Int.natCast_add, Int.add_mul]; simp
    rw [fb_si_succ, e]
    omega
/-! ===== bits of a long that isn't negative ===== -/
theorem fb_andL (a b : Nat) : lN a &&& lN b = lN (a &&& b) := by
  apply Int64.toBitVec_inj.1
  show BitVec.ofNat 64 a &&& BitVec.ofNat 64 b = BitVec.ofNat 64 (a &&& b)
  apply BitVec.eq_of_getLsbD_eq
  intro i hi
  simp [hi]
theorem fb_orL (a b : Nat) : lN a ||| lN b = lN (a ||| b) := by
  apply Int64.toBitVec_inj.1
  show BitVec.ofNat 64 a ||| BitVec.ofNat 64 b = BitVec.ofNat 64 (a ||| b)
  apply BitVec.eq_of_getLsbD_eq
  intro i hi
  simp [hi]
theorem fb_xorL (a b : Nat) : lN a ^^^ lN b = lN (a ^^^ b) := by
  apply Int64.toBitVec_inj.1
  show BitVec.ofNat 64 a ^^^ BitVec.ofNat 64 b = BitVec.ofNat 64 (a ^^^ b)
  apply BitVec.eq_of_getLsbD_eq
  intro i hi
  simp [hi]
theorem fb_xorI (a b : Nat) : nI a ^^^ nI b = nI (a ^^^ b) := by
  apply Int32.toBitVec_inj.1
  show BitVec.ofNat 32 a ^^^ BitVec.ofNat 32 b = BitVec.ofNat 32 (a ^^^ b)
  apply BitVec.eq_of_getLsbD_eq
  intro i hi
  simp [hi]
theorem fb_maskL (n k : Nat) : lN n &&& lN (2 ^ k - 1) = lN (n % 2 ^ k) := by rw [fb_andL, Nat.and_two_pow_sub_one_eq_mod]
theorem fb_or_sumL {a k : Nat} (b : Nat) (h : a < 2 ^ k) : lN (2 ^ k * b) ||| lN a = lN (2 ^ k * b + a) := by rw [fb_orL, Nat.two_pow_add_eq_or_of_lt h]
theorem fb_lN_inj {a b : Nat} (ha : a < 2 ^ 63) (hb : b < 2 ^ 63) : lN a = lN b ↔ a = b := by
  constructor
  · intro h
    have h1 : (BitVec.ofNat 64 a).toNat = (BitVec.ofNat 64 b).toNat := congrArg (fun x : Int64 => x.toBitVec.toNat) h
    rw [BitVec.toNat_ofNat, BitVec.toNat_ofNat, Nat.mod_eq_of_lt (by omega), Nat.mod_eq_of_lt (by omega)] at h1
    exact h1
  · rintro rfl; rfl
theorem fb_bit_nat (n j : Nat) : n &&& 2 ^ j = 0 ↔ n.testBit j = false := by
  constructor
  · intro h
    have h1 : (n &&& 2 ^ j).testBit j = false := by rw [h]; simp
    rw [Nat.testBit_and] at h1
    simpa using h1
  · intro h
    apply Nat.eq_of_testBit_eq
    intro i
    rw [Nat.testBit_and]
    by_cases hi : j = i
    · subst hi; simp [h]
    · first | (simp [Nat.testBit_two_pow, hi]; done) | (simp [Nat.testBit_two_pow_of_ne hi]; done)
/-- one bit of a long -/
theorem fb_bitL {n j : Nat} (hj : j < 63) : lN n &&& lN (2 ^ j) = 0 ↔ n.testBit j = false := by
  have h2 : (2 : Nat) ^ j < 2 ^ 63 := Nat.pow_lt_pow_right (by decide) hj
  have hle : n &&& 2 ^ j ≤ 2 ^ j := Nat.and_le_right
  rw [fb_andL, ← fb_bit_nat, show (0 : Int64) = lN 0 from rfl]
  exact fb_lN_inj (by omega) (by decide)
/-- a bit set, a bit taken off -/
theorem fb_bit_set (n j i : Nat) : (n ||| 2 ^ j).testBit i = (n.testBit i || decide (i = j)) := by
  rw [Nat.testBit_or]
  by_cases h : j = i
  · subst h; simp
  · have h2 : ¬ i = j := fun e => h e.symm
    first | (simp [Nat.testBit_two_pow, h, h2]; done) | (simp [Nat.testBit_two_pow_of_ne h, h2]; done)
theorem fb_bit_flip (n j i : Nat) : (n ^^^ 2 ^ j).testBit i = (n.testBit i ^^ decide (i = j)) := by
  rw [Nat.testBit_xor]
  by_cases h : j = i
  · subst h; simp
  · have h2 : ¬ i = j := fun e => h e.symm
    first | (simp [Nat.testBit_two_pow, h, h2]; done) | (simp [Nat.testBit_two_pow_of_ne h, h2]; done)
/-! ===== a stretch of an array written over by a function ===== -/
def fb_put {α : Type} (f g : Nat → α) (a n : Nat) : Nat → α := fun k => if a ≤ k ∧ k < a + n then g (k - a) else f k
theorem fb_put_0 {α : Type} (f g : Nat → α) (a : Nat) : fb_put f g a 0 = f := funext fun k => if_neg (by omega)
theorem fb_put_in {α : Type} {f g : Nat → α} {a n k : Nat} (h1 : a ≤ k) (h2 : k < a + n) : fb_put f g a n k = g (k - a) := if_pos ⟨h1, h2⟩
theorem fb_put_out {α : Type} {f g : Nat → α} {a n k : Nat} (h : k < a ∨ a + n ≤ k) : fb_put f g a n k = f k := if_neg (by omega)
theorem fb_put_succ (f g : Nat → Int32) (a n : Nat) : upd (fb_put f g a n) (a + n) (g n) = fb_put f g a (n + 1) := by
  funext k
  by_cases h : k = a + n
  · subst h
    simp [upd, fb_put]
  · by_cases h1 : a ≤ k ∧ k < a + n
    · have h2 : a ≤ k ∧ k < a + (n + 1) := by omega
      simp only [upd, fb_put, if_neg h, if_pos h1, if_pos h2]
    · have h2 : ¬ (a ≤ k ∧ k < a + (n + 1)) := by omega
      simp only [upd, fb_put, if_neg h, if_neg h1, if_neg h2]
/-- .. from the far end down -/
theorem fb_put_down (f g : Nat → Int32) {a n m : Nat} (h : m < n) : upd (fb_put f (fun k => g (k + (m + 1))) (a + (m + 1)) (n - (m + 1))) (a + m) (g m) = fb_put f (fun k => g (k + m)) (a + m) (n - m) := by
  funext k
  by_cases h0 : k = a + m
  · subst h0
    simp only [upd, if_true]
    rw [fb_put_in (by omega) (by omega)]
    exact congrArg g (by omega)
  · simp only [upd, if_neg h0]
    by_cases h1 : a + (m + 1) ≤ k ∧ k < a + (m + 1) + (n - (m + 1))
    · rw [fb_put_in h1.1 h1.2, fb_put_in (by omega) (by omega)]
      exact congrArg g (by omega)
    · rw [fb_put_out (by omega), fb_put_out (by omega)]
theorem fb_put_cong {α : Type} {f f2 g g2 : Nat → α} {a n : Nat} (hf : ∀ k, (k < a ∨ a + n ≤ k) → f k = f2 k) (hg : ∀ k, k < n → g k = g2 k) : fb_put f g a n = fb_put f2 g2 a n := by
  funext k
  by_cases h : a ≤ k ∧ k < a + n
  · rw [fb_put_in h.1 h.2, fb_put_in h.1 h.2, hg _ (by omega)]
  · rw [fb_put_out (by omega), fb_put_out (by omega), hf _ (by omega)]
/-! ===== the least, the first, the best so far; that there is one alone ===== -/
theorem fb_first {p : Nat → Prop} [DecidablePred p] : ∀ {n : Nat}, (∃ i, i < n ∧ p i) → ∃ i, i < n ∧ p i ∧ ∀ j, j < i → ¬ p j
  | 0, h => by obtain ⟨i, hi, -⟩ := h; exact absurd hi (Nat.not_lt_zero i)
  | n + 1, h => by
    by_cases q : ∃ i, i < n ∧ p i
    · obtain ⟨i, h1, h2⟩ := fb_first q
      exact ⟨i, by omega, h2⟩
    · obtain ⟨i, h1, h2⟩ := h
      have e : i = n := by
        rcases Nat.lt_or_ge i n with r | r
        · exact absurd ⟨i, r, h2⟩ q
        · omega
      subst e
      exact ⟨i, by omega, h2, fun j hj hp => q ⟨j, hj, hp⟩⟩
theorem fb_first_one {p : Nat → Prop} {i j : Nat} (hi : p i) (hi2 : ∀ k, k < i → ¬ p k) (hj : p j) (hj2 : ∀ k, k < j → ¬ p k) : i = j := by
  rcases Nat.lt_trichotomy i j with q | q | q
  · exact absurd hi (hj2 i q)
  · exact q
  · exact absurd hj (hi2 j q)
theorem fb_last {p : Nat → Prop} [DecidablePred p] : ∀ {n : Nat}, (∃ i, i < n ∧ p i) → ∃ i, i < n ∧ p i ∧ ∀ j, i < j → j < n → ¬ p j
  | 0, h => by obtain ⟨i, hi, -⟩ := h; exact absurd hi (Nat.not_lt_zero i)
  | n + 1, h => by
    by_cases q : p n
    · exact ⟨n, by omega, q, fun j h1 h2 => by omega⟩
    · obtain ⟨i, h1, h2⟩ := h
      have hi : i < n := by
        rcases Nat.lt_or_ge i n with r | r
        · exact r
        · have e : i = n := by omega
          subst e
          exact absurd h2 q
      obtain ⟨i2, a1, a2, a3⟩ := fb_last (n := n) ⟨i, hi, h2⟩
      refine ⟨i2, by omega, a2, fun j b1 b2 => ?_⟩
      rcases Nat.lt_or_ge j n with r | r
      · exact a3 j b1 r
      · have e : j = n := by omega
        subst e
        exact q
/-- the first greatest -/
theorem fb_best (f : Nat → Int) : ∀ {n : Nat}, 0 < n → ∃ i, i < n ∧ (∀ j, j < n → f j ≤ f i) ∧ ∀ j, j < i → f j < f i
  | 0, h => absurd h (Nat.lt_irrefl 0)
  | 1, _ => ⟨0, by omega, fun j hj => by have e : j = 0 := by omega
                                         subst e; exact Int.le_refl _, fun j hj => absurd hj (Nat.not_lt_zero j)⟩
  | n + 2, _ => by
    obtain ⟨i, h1, h2, h3⟩ := fb_best f (n := n + 1) (by omega)
    by_cases q : f i < f (n + 1)
    · refine ⟨n + 1, by omega, fun j hj => ?_, fun j hj => ?_⟩
      · rcases Nat.lt_or_ge j (n + 1) with r | r
        · have := h2 j r; omega
        · have e : j = n + 1 := by omega
          subst e; exact Int.le_refl _
      · have := h2 j hj; omega
    · refine ⟨i, by omega, fun j hj => ?_, h3⟩
      rcases Nat.lt_or_ge j (n + 1) with r | r
      · exact h2 j r
      · have e : j = n + 1 := by omega
        subst e; omega
theorem fb_best_one {f : Nat → Int} {n i j : Nat} (hi : i < n) (hi2 : ∀ k, k < n → f k ≤ f i) (hi3 : ∀ k, k < i → f k < f i) (hj : j < n) (hj2 : ∀ k, k < n → f k ≤ f j) (hj3 : ∀ k, k < j → f k < f j) : i = j := by
  rcases Nat.lt_trichotomy i j with q | q | q
  · have a := hj3 i q
    have b := hi2 j hj
    omega
  · exact q
  · have a := hi3 j q
    have b := hj2 i hi
    omega
/-- the first least -/
theorem fb_low (f : Nat → Int) {n : Nat} (h : 0 < n) : ∃ i, i < n ∧ (∀ j, j < n → f i ≤ f j) ∧ ∀ j, j < i → f i < f j := by
  obtain ⟨i, h1, h2, h3⟩ := fb_best (fun k => -f k) h
  exact ⟨i, h1, fun j hj => by have := h2 j hj; omega, fun j hj => by have := h3 j hj; omega⟩
/-! ===== signed ints as whole numbers, within bounds ===== -/
theorem fb_rng (x : Int32) : -2147483648 ≤ x.toInt ∧ x.toInt < 2147483648 := by
  have h1 := Int32.le_toInt x
  have h2 := Int32.toInt_lt x
  omega
theorem fb_bmod {z : Int} (h1 : -2147483648 ≤ z) (h2 : z < 2147483648) : z.bmod (2 ^ 32) = z := by
  rw [Int.bmod_eq_of_le (by omega) (by omega)]
theorem fb_addI {x y : Int32} (h1 : -2147483648 ≤ x.toInt + y.toInt) (h2 : x.toInt + y.toInt < 2147483648) : (x + y).toInt = x.toInt + y.toInt := by
  rw [Int32.toInt_add, fb_bmod h1 h2]
theorem fb_subI {x y : Int32} (h1 : -2147483648 ≤ x.toInt - y.toInt) (h2 : x.toInt - y.toInt < 2147483648) : (x - y).toInt = x.toInt - y.toInt := by
  rw [Int32.toInt_sub, fb_bmod h1 h2]
theorem fb_mulI {x y : Int32} (h1 : -2147483648 ≤ x.toInt * y.toInt) (h2 : x.toInt * y.toInt < 2147483648) : (x * y).toInt = x.toInt * y.toInt := by
  rw [Int32.toInt_mul, fb_bmod h1 h2]
theorem fb_negI {x : Int32} (h : x.toInt ≠ -2147483648) : (-x).toInt = -x.toInt := by
  have := fb_rng x
  rw [Int32.toInt_neg, fb_bmod (by omega) (by omega)]
theorem fb_ofI {z : Int} (h1 : -2147483648 ≤ z) (h2 : z < 2147483648) : (Int32.ofInt z).toInt = z := by
  rw [Int32.toInt_ofInt, fb_bmod h1 h2]
theorem fb_asI (x : Int32) : Int32.ofInt x.toInt = x := Int32.ofInt_toInt x
theorem fb_rngL (x : Int64) : -9223372036854775808 ≤ x.toInt ∧ x.toInt < 9223372036854775808 := by
  have h1 := Int64.le_toInt x
  have h2 := Int64.toInt_lt x
  omega
theorem fb_bmodL {z : Int} (h1 : -9223372036854775808 ≤ z) (h2 : z < 9223372036854775808) : z.bmod (2 ^ 64) = z := by
  rw [Int.bmod_eq_of_le (by omega) (by omega)]
theorem fb_addL {x y : Int64} (h1 : -9223372036854775808 ≤ x.toInt + y.toInt) (h2 : x.toInt + y.toInt < 9223372036854775808) : (x + y).toInt = x.toInt + y.toInt := by
  rw [Int64.toInt_add, fb_bmodL h1 h2]
theorem fb_subL {x y : Int64} (h1 : -9223372036854775808 ≤ x.toInt - y.toInt) (h2 : x.toInt - y.toInt < 9223372036854775808) : (x - y).toInt = x.toInt - y.toInt := by
  rw [Int64.toInt_sub, fb_bmodL h1 h2]
theorem fb_mulL {x y : Int64} (h1 : -9223372036854775808 ≤ x.toInt * y.toInt) (h2 : x.toInt * y.toInt < 9223372036854775808) : (x * y).toInt = x.toInt * y.toInt := by
  rw [Int64.toInt_mul, fb_bmodL h1 h2]
/-! ===== cuts of what is narrow already ===== -/
theorem fb_byte {x : Int32} (h1 : -128 ≤ x.toInt) (h2 : x.toInt < 128) : x.toInt8.toInt32 = x := by
  apply Int32.toInt_inj.1
  rw [Int8.toInt_toInt32, Int32.toInt_toInt8, Int.bmod_eq_of_le (by omega) (by omega)]
theorem fb_short {x : Int32} (h1 : -32768 ≤ x.toInt) (h2 : x.toInt < 32768) : x.toInt16.toInt32 = x := by
  apply Int32.toInt_inj.1
  rw [Int16.toInt_toInt32, Int32.toInt_toInt16, Int.bmod_eq_of_le (by omega) (by omega)]
theorem fb_byte_rng (x : Int32) : -128 ≤ x.toInt8.toInt32.toInt ∧ x.toInt8.toInt32.toInt < 128 := by
  rw [Int8.toInt_toInt32]
  have h1 := Int8.le_toInt x.toInt8
  have h2 := Int8.toInt_lt x.toInt8
  omega
theorem fb_short_rng (x : Int32) : -32768 ≤ x.toInt16.toInt32.toInt ∧ x.toInt16.toInt32.toInt < 32768 := by
  rw [Int16.toInt_toInt32]
  have h1 := Int16.le_toInt x.toInt16
  have h2 := Int16.toInt_lt x.toInt16
  omega
theorem fb_byte_twice (x : Int32) : x.toInt8.toInt32.toInt8.toInt32 = x.toInt8.toInt32 := fb_byte (fb_byte_rng x).1 (fb_byte_rng x).2
theorem fb_short_twice (x : Int32) : x.toInt16.toInt32.toInt16.toInt32 = x.toInt16.toInt32 := fb_short (fb_short_rng x).1 (fb_short_rng x).2
theorem fb_char {n : Nat} (h : n < 65536) : (nI n).toUInt32.toUInt16.toUInt32.toInt32 = nI n := by
  apply Int32.toBitVec_inj.1
  apply BitVec.eq_of_toNat_eq
  have e1 : (nI n).toBitVec.toNat = n := by
    show (BitVec.ofNat 32 n).toNat = n
    rw [BitVec.toNat_ofNat, Nat.mod_eq_of_lt (by omega)]
  have e2 : ((nI n).toUInt32.toUInt16.toUInt32).toNat = n := by
    rw [UInt16.toNat_toUInt32, UInt32.toNat_toUInt16]
    show (nI n).toBitVec.toNat % 2 ^ 16 = n
    rw [e1, Nat.mod_eq_of_lt (by omega)]
  rw [e1]
  exact e2

section Rows9
variable {p : Program} {l : Launch} {e : Env} {R : Room} {s : State} {m : MethodId} {args : Array Value} {below : List Frame} {meth : Method} {c : Code} {H : Heap} {locs : List Loc} {cells slots : Nat} {Q : State → Prop}
variable {cc : ByteArray} {nL : Nat} {own : String} {G : gT} {H0 : Heap} {A : Nat → Prop} {w w' : va_W} {pc : Nat} {ls : Array Slot} {rest : List Value} {lv : List (Nat × Value)}
theorem lv_as {x y : Int32} (h : x = y) (k : W p l e R s m args below meth c H locs cells slots Q (F0 m pc ls (.int y :: rest))) : W p l e R s m args below meth c H locs cells slots Q (F0 m pc ls (.int x :: rest)) := h ▸ k
theorem lv_asl {x y : Int64} (h : x = y) (k : W p l e R s m args below meth c H locs cells slots Q (F0 m pc ls (.long y :: rest))) : W p l e R s m args below meth c H locs cells slots Q (F0 m pc ls (.long x :: rest)) := h ▸ k
theorem g_cpy (C : Cx p s m args meth c cc nL own G H0 A) (h : Wd G A H0 w H locs) (hls : lv_has ls nL lv) {idx : Nat} (hl : Cond.methodLink own idx arraycopyName ∈ lw_g) (q0 q1 : Nat) {a0 a1 n0 n1 sn dn nn : Nat} {f g : Nat → Int32} (ha0 : w[q0]? = some (a0, .inl (G.2.1, n0, .inl f))) (ha1 : w[q1]? = some (a1, .inl (G.2.1, n1, .inl g))) {sp dp n : Int32} (hsp : sp = nI sn) (hdp : dp = nI dn) (hnn : n = nI nn) (h4 : sn + nn ≤ n0 ∧ n0 < 2 ^ 31) (h5 : dn + nn ≤ n1 ∧ n1 < 2 ^ 31) (hw : w.set q1 (a1, .inl (G.2.1, n1, .inl (va_cpy f g sn dn nn))) = w') (hf : 1 ≤ R.frames ∧ (rest.map fun v => v.category).sum + (nativeFrameWords "java/lang/System" "arraycopy" 5 + 11) ≤ R.locals) (hdg : decode cc pc = .ok (.invokestatic idx, 3))
    (kk : ∀ (H1 : Heap) (locs1 : List Loc), Wd G A H0 w' H1 locs1 → W p l e R s m args below meth c H1 locs1 cells slots Q (F0 m (pc + 3) ls rest)) : W p l e R s m args below meth c H locs cells slots Q (F0 m pc ls (.int n :: .int dp :: .ref a1 :: .int sp :: .ref a0 :: rest)) := by
  have ht := C.2.2.2.2.1
  subst hsp hdp hnn
  refine va_copyi C.1 C.2.1 (C.2.2.1.trans hls.1.symm) C.2.2.2.1 (ht _ hl) (ht _ k_nt_arraycopy) (ht _ k_st_arraycopy) (ht _ k_ii_J10) C.2.2.2.2.2.1 h.1 h.2.1 h.2.2 q0 q1 0 0 (ty := .int) ha0 ha1 rfl rfl rfl (nI_pos (by omega)) (nI_pos (by omega)) (nI_pos (by omega)) (by rw [nI_clamp (by omega), nI_clamp (by omega)]; exact h4.1) (by rw [nI_clamp (by omega), nI_clamp (by omega)]; exact h5.1) (fun _ _ => rfl) hf.1 hf.2 hdg ?_
  intro H1 locs1 x y z
  refine kk H1 locs1 ?_
  rw [nI_clamp (by omega), nI_clamp (by omega), nI_clamp (by omega)] at x y
  rw [← hw]
  exact ⟨x, y, z⟩
end Rows9
theorem sw_ne {x v : Int32} {z : Int} (h : ¬ x = v) (hz : v.toInt = z) : ¬ x.toInt = z := fun q => h ((fa_eq x v).mpr (q.trans hz.symm))
theorem nar_b {c : Prop} [Decidable c] : narrow .boolean (.int (if c then 1 else 0)) = .int (if c then 1 else 0) := by split <;> rfl
/-- a truth as a JVM int -/
def bI (b : Bool) : Int32 := if b then 1 else 0
theorem bI_nar (b : Bool) : narrow .boolean (.int (bI b)) = .int (bI b) := by cases b <;> rfl
theorem bI_0 {b : Bool} : bI b = 0 ↔ b = false := by cases b <;> decide
theorem bI_ne {b : Bool} : ¬ bI b = 0 ↔ b = true := by cases b <;> decide
theorem bI_t : bI true = 1 := rfl
theorem bI_f : bI false = 0 := rfl
theorem bI_if {c : Prop} [Decidable c] : (if c then (1 : Int32) else 0) = bI (decide c) := by by_cases h : c <;> simp [h, bI]
theorem q_X0_rests : (Cond.code yX0_rests cX0_rests 4 (some .boolean) ∈ lw_g ∧ Cond.static yX0_rests ∈ lw_g ∧ Cond.initialized RX0 ∈ lw_g) ∧ yX0_rests.cls = RX0 ∧ yX0_rests.cls ≠ "java/lang/invoke/MethodHandle" ∧ yX0_rests.cls ≠ "java/lang/invoke/VarHandle" ∧ (parseMethodDescriptor yX0_rests.desc).map (fun d => d.parameters.length) = some 4 := ⟨⟨k_co_X0_rests, k_st_X0_rests, k_ii_X0⟩, rfl, by decide +kernel, by decide +kernel, by decide +kernel⟩
theorem q_X0_gain : (Cond.code yX0_gain cX0_gain 4 (some .int) ∈ lw_g ∧ Cond.static yX0_gain ∈ lw_g ∧ Cond.initialized RX0 ∈ lw_g) ∧ yX0_gain.cls = RX0 ∧ yX0_gain.cls ≠ "java/lang/invoke/MethodHandle" ∧ yX0_gain.cls ≠ "java/lang/invoke/VarHandle" ∧ (parseMethodDescriptor yX0_gain.desc).map (fun d => d.parameters.length) = some 4 := ⟨⟨k_co_X0_gain, k_st_X0_gain, k_ii_X0⟩, rfl, by decide +kernel, by decide +kernel, by decide +kernel⟩
theorem q_X1_weights : (Cond.code yX1_weights cX1_weights 4 (some .int) ∈ lw_g ∧ Cond.instanceMethod yX1_weights ∈ lw_g ∧ Cond.selects RX1 yX1_weights yX1_weights ∈ lw_g ∧ Cond.initialized RX1 ∈ lw_g) ∧ yX1_weights.cls = RX1 ∧ yX1_weights.cls ≠ "java/lang/invoke/MethodHandle" ∧ yX1_weights.cls ≠ "java/lang/invoke/VarHandle" ∧ (parseMethodDescriptor yX1_weights.desc).map (fun d => d.parameters.length) = some 1 := ⟨⟨k_co_X1_weights, k_in_X1_weights, k_se_X1_X1_weights, k_ii_X1⟩, rfl, by decide +kernel, by decide +kernel, by decide +kernel⟩
theorem q_X1_tellingHour : (Cond.code yX1_tellingHour cX1_tellingHour 8 (some .int) ∈ lw_g ∧ Cond.instanceMethod yX1_tellingHour ∈ lw_g ∧ Cond.selects RX1 yX1_tellingHour yX1_tellingHour ∈ lw_g ∧ Cond.initialized RX1 ∈ lw_g) ∧ yX1_tellingHour.cls = RX1 ∧ yX1_tellingHour.cls ≠ "java/lang/invoke/MethodHandle" ∧ yX1_tellingHour.cls ≠ "java/lang/invoke/VarHandle" ∧ (parseMethodDescriptor yX1_tellingHour.desc).map (fun d => d.parameters.length) = some 3 := ⟨⟨k_co_X1_tellingHour, k_in_X1_tellingHour, k_se_X1_X1_tellingHour, k_ii_X1⟩, rfl, by decide +kernel, by decide +kernel, by decide +kernel⟩
theorem q_X1_cockKinds : (Cond.code yX1_cockKinds cX1_cockKinds 4 (some .int) ∈ lw_g ∧ Cond.instanceMethod yX1_cockKinds ∈ lw_g ∧ Cond.selects RX1 yX1_cockKinds yX1_cockKinds ∈ lw_g ∧ Cond.initialized RX1 ∈ lw_g) ∧ yX1_cockKinds.cls = RX1 ∧ yX1_cockKinds.cls ≠ "java/lang/invoke/MethodHandle" ∧ yX1_cockKinds.cls ≠ "java/lang/invoke/VarHandle" ∧ (parseMethodDescriptor yX1_cockKinds.desc).map (fun d => d.parameters.length) = some 1 := ⟨⟨k_co_X1_cockKinds, k_in_X1_cockKinds, k_se_X1_X1_cockKinds, k_ii_X1⟩, rfl, by decide +kernel, by decide +kernel, by decide +kernel⟩
theorem q_X1_nextLook : (Cond.code yX1_nextLook cX1_nextLook 9 (some .int) ∈ lw_g ∧ Cond.instanceMethod yX1_nextLook ∈ lw_g ∧ Cond.selects RX1 yX1_nextLook yX1_nextLook ∈ lw_g ∧ Cond.initialized RX1 ∈ lw_g) ∧ yX1_nextLook.cls = RX1 ∧ yX1_nextLook.cls ≠ "java/lang/invoke/MethodHandle" ∧ yX1_nextLook.cls ≠ "java/lang/invoke/VarHandle" ∧ (parseMethodDescriptor yX1_nextLook.desc).map (fun d => d.parameters.length) = some 1 := ⟨⟨k_co_X1_nextLook, k_in_X1_nextLook, k_se_X1_X1_nextLook, k_ii_X1⟩, rfl, by decide +kernel, by decide +kernel, by decide +kernel⟩
theorem q_X1_playerKinds : (Cond.code yX1_playerKinds cX1_playerKinds 5 (some .int) ∈ lw_g ∧ Cond.instanceMethod yX1_playerKinds ∈ lw_g ∧ Cond.selects RX1 yX1_playerKinds yX1_playerKinds ∈ lw_g ∧ Cond.initialized RX1 ∈ lw_g) ∧ yX1_playerKinds.cls = RX1 ∧ yX1_playerKinds.cls ≠ "java/lang/invoke/MethodHandle" ∧ yX1_playerKinds.cls ≠ "java/lang/invoke/VarHandle" ∧ (parseMethodDescriptor yX1_playerKinds.desc).map (fun d => d.parameters.length) = some 2 := ⟨⟨k_co_X1_playerKinds, k_in_X1_playerKinds, k_se_X1_X1_playerKinds, k_ii_X1⟩, rfl, by decide +kernel, by decide +kernel, by decide +kernel⟩
theorem q_X1_askingHour : (Cond.code yX1_askingHour cX1_askingHour 9 (some .int) ∈ lw_g ∧ Cond.instanceMethod yX1_askingHour ∈ lw_g ∧ Cond.selects RX1 yX1_askingHour yX1_askingHour ∈ lw_g ∧ Cond.initialized RX1 ∈ lw_g) ∧ yX1_askingHour.cls = RX1 ∧ yX1_askingHour.cls ≠ "java/lang/invoke/MethodHandle" ∧ yX1_askingHour.cls ≠ "java/lang/invoke/VarHandle" ∧ (parseMethodDescriptor yX1_askingHour.desc).map (fun d => d.parameters.length) = some 2 := ⟨⟨k_co_X1_askingHour, k_in_X1_askingHour, k_se_X1_X1_askingHour, k_ii_X1⟩, rfl, by decide +kernel, by decide +kernel, by decide +kernel⟩
theorem q_X1_fitsSeen : (Cond.code yX1_fitsSeen cX1_fitsSeen 5 (some .boolean) ∈ lw_g ∧ Cond.static yX1_fitsSeen ∈ lw_g ∧ Cond.initialized RX1 ∈ lw_g) ∧ yX1_fitsSeen.cls = RX1 ∧ yX1_fitsSeen.cls ≠ "java/lang/invoke/MethodHandle" ∧ yX1_fitsSeen.cls ≠ "java/lang/invoke/VarHandle" ∧ (parseMethodDescriptor yX1_fitsSeen.desc).map (fun d => d.parameters.length) = some 2 := ⟨⟨k_co_X1_fitsSeen, k_st_X1_fitsSeen, k_ii_X1⟩, rfl, by decide +kernel, by decide +kernel, by decide +kernel⟩
theorem q_X1_greaterPart : (Cond.code yX1_greaterPart cX1_greaterPart 7 (some .int) ∈ lw_g ∧ Cond.static yX1_greaterPart ∈ lw_g ∧ Cond.initialized RX1 ∈ lw_g) ∧ yX1_greaterPart.cls = RX1 ∧ yX1_greaterPart.cls ≠ "java/lang/invoke/MethodHandle" ∧ yX1_greaterPart.cls ≠ "java/lang/invoke/VarHandle" ∧ (parseMethodDescriptor yX1_greaterPart.desc).map (fun d => d.parameters.length) = some 4 := ⟨⟨k_co_X1_greaterPart, k_st_X1_greaterPart, k_ii_X1⟩, rfl, by decide +kernel, by decide +kernel, by decide +kernel⟩
theorem q_X1_fitsNotes : (Cond.code yX1_fitsNotes cX1_fitsNotes 4 (some .boolean) ∈ lw_g ∧ Cond.static yX1_fitsNotes ∈ lw_g ∧ Cond.initialized RX1 ∈ lw_g) ∧ yX1_fitsNotes.cls = RX1 ∧ yX1_fitsNotes.cls ≠ "java/lang/invoke/MethodHandle" ∧ yX1_fitsNotes.cls ≠ "java/lang/invoke/VarHandle" ∧ (parseMethodDescriptor yX1_fitsNotes.desc).map (fun d => d.parameters.length) = some 2 := ⟨⟨k_co_X1_fitsNotes, k_st_X1_fitsNotes, k_ii_X1⟩, rfl, by decide +kernel, by decide +kernel, by decide +kernel⟩
theorem q_X1_fitsMarks : (Cond.code yX1_fitsMarks cX1_fitsMarks 5 (some .boolean) ∈ lw_g ∧ Cond.static yX1_fitsMarks ∈ lw_g ∧ Cond.initialized RX1 ∈ lw_g) ∧ yX1_fitsMarks.cls = RX1 ∧ yX1_fitsMarks.cls ≠ "java/lang/invoke/MethodHandle" ∧ yX1_fitsMarks.cls ≠ "java/lang/invoke/VarHandle" ∧ (parseMethodDescriptor yX1_fitsMarks.desc).map (fun d => d.parameters.length) = some 3 := ⟨⟨k_co_X1_fitsMarks, k_st_X1_fitsMarks, k_ii_X1⟩, rfl, by decide +kernel, by decide +kernel, by decide +kernel⟩
theorem q_X1_mostAsFar : (Cond.code yX1_mostAsFar cX1_mostAsFar 6 (some .int) ∈ lw_g ∧ Cond.instanceMethod yX1_mostAsFar ∈ lw_g ∧ Cond.selects RX1 yX1_mostAsFar yX1_mostAsFar ∈ lw_g ∧ Cond.initialized RX1 ∈ lw_g) ∧ yX1_mostAsFar.cls = RX1 ∧ yX1_mostAsFar.cls ≠ "java/lang/invoke/MethodHandle" ∧ yX1_mostAsFar.cls ≠ "java/lang/invoke/VarHandle" ∧ (parseMethodDescriptor yX1_mostAsFar.desc).map (fun d => d.parameters.length) = some 4 := ⟨⟨k_co_X1_mostAsFar, k_in_X1_mostAsFar, k_se_X1_X1_mostAsFar, k_ii_X1⟩, rfl, by decide +kernel, by decide +kernel, by decide +kernel⟩
theorem q_X1_mostAsHard : (Cond.code yX1_mostAsHard cX1_mostAsHard 5 (some .int) ∈ lw_g ∧ Cond.instanceMethod yX1_mostAsHard ∈ lw_g ∧ Cond.selects RX1 yX1_mostAsHard yX1_mostAsHard ∈ lw_g ∧ Cond.initialized RX1 ∈ lw_g) ∧ yX1_mostAsHard.cls = RX1 ∧ yX1_mostAsHard.cls ≠ "java/lang/invoke/MethodHandle" ∧ yX1_mostAsHard.cls ≠ "java/lang/invoke/VarHandle" ∧ (parseMethodDescriptor yX1_mostAsHard.desc).map (fun d => d.parameters.length) = some 3 := ⟨⟨k_co_X1_mostAsHard, k_in_X1_mostAsHard, k_se_X1_X1_mostAsHard, k_ii_X1⟩, rfl, by decide +kernel, by decide +kernel, by decide +kernel⟩
theorem q_X1_mostAlike : (Cond.code yX1_mostAlike cX1_mostAlike 4 (some .int) ∈ lw_g ∧ Cond.instanceMethod yX1_mostAlike ∈ lw_g ∧ Cond.selects RX1 yX1_mostAlike yX1_mostAlike ∈ lw_g ∧ Cond.initialized RX1 ∈ lw_g) ∧ yX1_mostAlike.cls = RX1 ∧ yX1_mostAlike.cls ≠ "java/lang/invoke/MethodHandle" ∧ yX1_mostAlike.cls ≠ "java/lang/invoke/VarHandle" ∧ (parseMethodDescriptor yX1_mostAlike.desc).map (fun d => d.parameters.length) = some 1 := ⟨⟨k_co_X1_mostAlike, k_in_X1_mostAlike, k_se_X1_X1_mostAlike, k_ii_X1⟩, rfl, by decide +kernel, by decide +kernel, by decide +kernel⟩
theorem q_X1_asMany : (Cond.code yX1_asMany cX1_asMany 5 (some .int) ∈ lw_g ∧ Cond.instanceMethod yX1_asMany ∈ lw_g ∧ Cond.selects RX1 yX1_asMany yX1_asMany ∈ lw_g ∧ Cond.initialized RX1 ∈ lw_g) ∧ yX1_asMany.cls = RX1 ∧ yX1_asMany.cls ≠ "java/lang/invoke/MethodHandle" ∧ yX1_asMany.cls ≠ "java/lang/invoke/VarHandle" ∧ (parseMethodDescriptor yX1_asMany.desc).map (fun d => d.parameters.length) = some 2 := ⟨⟨k_co_X1_asMany, k_in_X1_asMany, k_se_X1_X1_asMany, k_ii_X1⟩, rfl, by decide +kernel, by decide +kernel, by decide +kernel⟩
theorem q_X2_flight : (Cond.code yX2_flight cX2_flight 6 (some .int) ∈ lw_g ∧ Cond.static yX2_flight ∈ lw_g ∧ Cond.initialized RX2 ∈ lw_g) ∧ yX2_flight.cls = RX2 ∧ yX2_flight.cls ≠ "java/lang/invoke/MethodHandle" ∧ yX2_flight.cls ≠ "java/lang/invoke/VarHandle" ∧ (parseMethodDescriptor yX2_flight.desc).map (fun d => d.parameters.length) = some 4 := ⟨⟨k_co_X2_flight, k_st_X2_flight, k_ii_X2⟩, rfl, by decide +kernel, by decide +kernel, by decide +kernel⟩
theorem q_X2_blow : (Cond.code yX2_blow cX2_blow 6 (some .int) ∈ lw_g ∧ Cond.static yX2_blow ∈ lw_g ∧ Cond.initialized RX2 ∈ lw_g) ∧ yX2_blow.cls = RX2 ∧ yX2_blow.cls ≠ "java/lang/invoke/MethodHandle" ∧ yX2_blow.cls ≠ "java/lang/invoke/VarHandle" ∧ (parseMethodDescriptor yX2_blow.desc).map (fun d => d.parameters.length) = some 3 := ⟨⟨k_co_X2_blow, k_st_X2_blow, k_ii_X2⟩, rfl, by decide +kernel, by decide +kernel, by decide +kernel⟩
theorem q_X3_size : (Cond.code yX3_size cX3_size 1 (some .int) ∈ lw_g ∧ Cond.instanceMethod yX3_size ∈ lw_g ∧ Cond.selects RX3 yX3_size yX3_size ∈ lw_g ∧ Cond.initialized RX3 ∈ lw_g) ∧ yX3_size.cls = RX3 ∧ yX3_size.cls ≠ "java/lang/invoke/MethodHandle" ∧ yX3_size.cls ≠ "java/lang/invoke/VarHandle" ∧ (parseMethodDescriptor yX3_size.desc).map (fun d => d.parameters.length) = some 0 := ⟨⟨k_co_X3_size, k_in_X3_size, k_se_X3_X3_size, k_ii_X3⟩, rfl, by decide +kernel, by decide +kernel, by decide +kernel⟩
theorem q_X3_forgetAll : (Cond.code yX3_forgetAll cX3_forgetAll 1 none ∈ lw_g ∧ Cond.instanceMethod yX3_forgetAll ∈ lw_g ∧ Cond.selects RX3 yX3_forgetAll yX3_forgetAll ∈ lw_g ∧ Cond.initialized RX3 ∈ lw_g) ∧ yX3_forgetAll.cls = RX3 ∧ yX3_forgetAll.cls ≠ "java/lang/invoke/MethodHandle" ∧ yX3_forgetAll.cls ≠ "java/lang/invoke/VarHandle" ∧ (parseMethodDescriptor yX3_forgetAll.desc).map (fun d => d.parameters.length) = some 0 := ⟨⟨k_co_X3_forgetAll, k_in_X3_forgetAll, k_se_X3_X3_forgetAll, k_ii_X3⟩, rfl, by decide +kernel, by decide +kernel, by decide +kernel⟩
theorem q_X3_push : (Cond.code yX3_push cX3_push 2 none ∈ lw_g ∧ Cond.instanceMethod yX3_push ∈ lw_g ∧ Cond.selects RX3 yX3_push yX3_push ∈ lw_g ∧ Cond.initialized RX3 ∈ lw_g) ∧ yX3_push.cls = RX3 ∧ yX3_push.cls ≠ "java/lang/invoke/MethodHandle" ∧ yX3_push.cls ≠ "java/lang/invoke/VarHandle" ∧ (parseMethodDescriptor yX3_push.desc).map (fun d => d.parameters.length) = some 1 := ⟨⟨k_co_X3_push, k_in_X3_push, k_se_X3_X3_push, k_ii_X3⟩, rfl, by decide +kernel, by decide +kernel, by decide +kernel⟩
theorem q_X3_pop : (Cond.code yX3_pop cX3_pop 2 none ∈ lw_g ∧ Cond.instanceMethod yX3_pop ∈ lw_g ∧ Cond.selects RX3 yX3_pop yX3_pop ∈ lw_g ∧ Cond.initialized RX3 ∈ lw_g) ∧ yX3_pop.cls = RX3 ∧ yX3_pop.cls ≠ "java/lang/invoke/MethodHandle" ∧ yX3_pop.cls ≠ "java/lang/invoke/VarHandle" ∧ (parseMethodDescriptor yX3_pop.desc).map (fun d => d.parameters.length) = some 1 := ⟨⟨k_co_X3_pop, k_in_X3_pop, k_se_X3_X3_pop, k_ii_X3⟩, rfl, by decide +kernel, by decide +kernel, by decide +kernel⟩
theorem q_X3_copyFrom : (Cond.code yX3_copyFrom cX3_copyFrom 2 none ∈ lw_g ∧ Cond.instanceMethod yX3_copyFrom ∈ lw_g ∧ Cond.selects RX3 yX3_copyFrom yX3_copyFrom ∈ lw_g ∧ Cond.initialized RX3 ∈ lw_g) ∧ yX3_copyFrom.cls = RX3 ∧ yX3_copyFrom.cls ≠ "java/lang/invoke/MethodHandle" ∧ yX3_copyFrom.cls ≠ "java/lang/invoke/VarHandle" ∧ (parseMethodDescriptor yX3_copyFrom.desc).map (fun d => d.parameters.length) = some 1 := ⟨⟨k_co_X3_copyFrom, k_in_X3_copyFrom, k_se_X3_X3_copyFrom, k_ii_X3⟩, rfl, by decide +kernel, by decide +kernel, by decide +kernel⟩
theorem q_X4_fewestHours : (Cond.code yX4_fewestHours cX4_fewestHours 4 (some .int) ∈ lw_g ∧ Cond.instanceMethod yX4_fewestHours ∈ lw_g ∧ Cond.selects RX4 yX4_fewestHours yX4_fewestHours ∈ lw_g ∧ Cond.initialized RX4 ∈ lw_g) ∧ yX4_fewestHours.cls = RX4 ∧ yX4_fewestHours.cls ≠ "java/lang/invoke/MethodHandle" ∧ yX4_fewestHours.cls ≠ "java/lang/invoke/VarHandle" ∧ (parseMethodDescriptor yX4_fewestHours.desc).map (fun d => d.parameters.length) = some 2 := ⟨⟨k_co_X4_fewestHours, k_in_X4_fewestHours, k_se_X4_X4_fewestHours, k_ii_X4⟩, rfl, by decide +kernel, by decide +kernel, by decide +kernel⟩
theorem q_X4_strikerIn : (Cond.code yX4_strikerIn cX4_strikerIn 6 (some .int) ∈ lw_g ∧ Cond.instanceMethod yX4_strikerIn ∈ lw_g ∧ Cond.selects RX4 yX4_strikerIn yX4_strikerIn ∈ lw_g ∧ Cond.initialized RX4 ∈ lw_g) ∧ yX4_strikerIn.cls = RX4 ∧ yX4_strikerIn.cls ≠ "java/lang/invoke/MethodHandle" ∧ yX4_strikerIn.cls ≠ "java/lang/invoke/VarHandle" ∧ (parseMethodDescriptor yX4_strikerIn.desc).map (fun d => d.parameters.length) = some 2 := ⟨⟨k_co_X4_strikerIn, k_in_X4_strikerIn, k_se_X4_X4_strikerIn, k_ii_X4⟩, rfl, by decide +kernel, by decide +kernel, by decide +kernel⟩
theorem q_X4_spread : (Cond.code yX4_spread cX4_spread 4 none ∈ lw_g ∧ Cond.instanceMethod yX4_spread ∈ lw_g ∧ Cond.selects RX4 yX4_spread yX4_spread ∈ lw_g ∧ Cond.initialized RX4 ∈ lw_g) ∧ yX4_spread.cls = RX4 ∧ yX4_spread.cls ≠ "java/lang/invoke/MethodHandle" ∧ yX4_spread.cls ≠ "java/lang/invoke/VarHandle" ∧ (parseMethodDescriptor yX4_spread.desc).map (fun d => d.parameters.length) = some 1 := ⟨⟨k_co_X4_spread, k_in_X4_spread, k_se_X4_X4_spread, k_ii_X4⟩, rfl, by decide +kernel, by decide +kernel, by decide +kernel⟩
theorem q_X4_workBack : (Cond.code yX4_workBack cX4_workBack 4 none ∈ lw_g ∧ Cond.instanceMethod yX4_workBack ∈ lw_g ∧ Cond.selects RX4 yX4_workBack yX4_workBack ∈ lw_g ∧ Cond.initialized RX4 ∈ lw_g) ∧ yX4_workBack.cls = RX4 ∧ yX4_workBack.cls ≠ "java/lang/invoke/MethodHandle" ∧ yX4_workBack.cls ≠ "java/lang/invoke/VarHandle" ∧ (parseMethodDescriptor yX4_workBack.desc).map (fun d => d.parameters.length) = some 1 := ⟨⟨k_co_X4_workBack, k_in_X4_workBack, k_se_X4_X4_workBack, k_ii_X4⟩, rfl, by decide +kernel, by decide +kernel, by decide +kernel⟩
theorem q_X4_firstStep : (Cond.code yX4_firstStep cX4_firstStep 4 (some .int) ∈ lw_g ∧ Cond.instanceMethod yX4_firstStep ∈ lw_g ∧ Cond.selects RX4 yX4_firstStep yX4_firstStep ∈ lw_g ∧ Cond.initialized RX4 ∈ lw_g) ∧ yX4_firstStep.cls = RX4 ∧ yX4_firstStep.cls ≠ "java/lang/invoke/MethodHandle" ∧ yX4_firstStep.cls ≠ "java/lang/invoke/VarHandle" ∧ (parseMethodDescriptor yX4_firstStep.desc).map (fun d => d.parameters.length) = some 2 := ⟨⟨k_co_X4_firstStep, k_in_X4_firstStep, k_se_X4_X4_firstStep, k_ii_X4⟩, rfl, by decide +kernel, by decide +kernel, by decide +kernel⟩
theorem q_X4_mayStep : (Cond.code yX4_mayStep cX4_mayStep 6 (some .boolean) ∈ lw_g ∧ Cond.instanceMethod yX4_mayStep ∈ lw_g ∧ Cond.selects RX4 yX4_mayStep yX4_mayStep ∈ lw_g ∧ Cond.initialized RX4 ∈ lw_g) ∧ yX4_mayStep.cls = RX4 ∧ yX4_mayStep.cls ≠ "java/lang/invoke/MethodHandle" ∧ yX4_mayStep.cls ≠ "java/lang/invoke/VarHandle" ∧ (parseMethodDescriptor yX4_mayStep.desc).map (fun d => d.parameters.length) = some 3 := ⟨⟨k_co_X4_mayStep, k_in_X4_mayStep, k_se_X4_X4_mayStep, k_ii_X4⟩, rfl, by decide +kernel, by decide +kernel, by decide +kernel⟩
theorem q_X4_after : (Cond.code yX4_after cX4_after 3 (some .int) ∈ lw_g ∧ Cond.instanceMethod yX4_after ∈ lw_g ∧ Cond.selects RX4 yX4_after yX4_after ∈ lw_g ∧ Cond.initialized RX4 ∈ lw_g) ∧ yX4_after.cls = RX4 ∧ yX4_after.cls ≠ "java/lang/invoke/MethodHandle" ∧ yX4_after.cls ≠ "java/lang/invoke/VarHandle" ∧ (parseMethodDescriptor yX4_after.desc).map (fun d => d.parameters.length) = some 2 := ⟨⟨k_co_X4_after, k_in_X4_after, k_se_X4_X4_after, k_ii_X4⟩, rfl, by decide +kernel, by decide +kernel, by decide +kernel⟩
theorem q_X5_readValley : (Cond.code yX5_readValley cX5_readValley 1 (some .boolean) ∈ lw_g ∧ Cond.instanceMethod yX5_readValley ∈ lw_g ∧ Cond.selects RX5 yX5_readValley yX5_readValley ∈ lw_g ∧ Cond.initialized RX5 ∈ lw_g) ∧ yX5_readValley.cls = RX5 ∧ yX5_readValley.cls ≠ "java/lang/invoke/MethodHandle" ∧ yX5_readValley.cls ≠ "java/lang/invoke/VarHandle" ∧ (parseMethodDescriptor yX5_readValley.desc).map (fun d => d.parameters.length) = some 0 := ⟨⟨k_co_X5_readValley, k_in_X5_readValley, k_se_X5_X5_readValley, k_ii_X5⟩, rfl, by decide +kernel, by decide +kernel, by decide +kernel⟩
theorem q_X5_readItem : (Cond.code yX5_readItem cX5_readItem 1 (some .boolean) ∈ lw_g ∧ Cond.instanceMethod yX5_readItem ∈ lw_g ∧ Cond.selects RX5 yX5_readItem yX5_readItem ∈ lw_g ∧ Cond.initialized RX5 ∈ lw_g) ∧ yX5_readItem.cls = RX5 ∧ yX5_readItem.cls ≠ "java/lang/invoke/MethodHandle" ∧ yX5_readItem.cls ≠ "java/lang/invoke/VarHandle" ∧ (parseMethodDescriptor yX5_readItem.desc).map (fun d => d.parameters.length) = some 0 := ⟨⟨k_co_X5_readItem, k_in_X5_readItem, k_se_X5_X5_readItem, k_ii_X5⟩, rfl, by decide +kernel, by decide +kernel, by decide +kernel⟩
theorem q_X5_readWind : (Cond.code yX5_readWind cX5_readWind 2 (some .boolean) ∈ lw_g ∧ Cond.instanceMethod yX5_readWind ∈ lw_g ∧ Cond.selects RX5 yX5_readWind yX5_readWind ∈ lw_g ∧ Cond.initialized RX5 ∈ lw_g) ∧ yX5_readWind.cls = RX5 ∧ yX5_readWind.cls ≠ "java/lang/invoke/MethodHandle" ∧ yX5_readWind.cls ≠ "java/lang/invoke/VarHandle" ∧ (parseMethodDescriptor yX5_readWind.desc).map (fun d => d.parameters.length) = some 0 := ⟨⟨k_co_X5_readWind, k_in_X5_readWind, k_se_X5_X5_readWind, k_ii_X5⟩, rfl, by decide +kernel, by decide +kernel, by decide +kernel⟩
theorem q_X5_readCock : (Cond.code yX5_readCock cX5_readCock 2 (some .boolean) ∈ lw_g ∧ Cond.instanceMethod yX5_readCock ∈ lw_g ∧ Cond.selects RX5 yX5_readCock yX5_readCock ∈ lw_g ∧ Cond.initialized RX5 ∈ lw_g) ∧ yX5_readCock.cls = RX5 ∧ yX5_readCock.cls ≠ "java/lang/invoke/MethodHandle" ∧ yX5_readCock.cls ≠ "java/lang/invoke/VarHandle" ∧ (parseMethodDescriptor yX5_readCock.desc).map (fun d => d.parameters.length) = some 0 := ⟨⟨k_co_X5_readCock, k_in_X5_readCock, k_se_X5_X5_readCock, k_ii_X5⟩, rfl, by decide +kernel, by decide +kernel, by decide +kernel⟩
theorem q_X5_readPlayer : (Cond.code yX5_readPlayer cX5_readPlayer 3 (some .boolean) ∈ lw_g ∧ Cond.instanceMethod yX5_readPlayer ∈ lw_g ∧ Cond.selects RX5 yX5_readPlayer yX5_readPlayer ∈ lw_g ∧ Cond.initialized RX5 ∈ lw_g) ∧ yX5_readPlayer.cls = RX5 ∧ yX5_readPlayer.cls ≠ "java/lang/invoke/MethodHandle" ∧ yX5_readPlayer.cls ≠ "java/lang/invoke/VarHandle" ∧ (parseMethodDescriptor yX5_readPlayer.desc).map (fun d => d.parameters.length) = some 0 := ⟨⟨k_co_X5_readPlayer, k_in_X5_readPlayer, k_se_X5_X5_readPlayer, k_ii_X5⟩, rfl, by decide +kernel, by decide +kernel, by decide +kernel⟩
theorem q_X5_readHit : (Cond.code yX5_readHit cX5_readHit 2 (some .boolean) ∈ lw_g ∧ Cond.instanceMethod yX5_readHit ∈ lw_g ∧ Cond.selects RX5 yX5_readHit yX5_readHit ∈ lw_g ∧ Cond.initialized RX5 ∈ lw_g) ∧ yX5_readHit.cls = RX5 ∧ yX5_readHit.cls ≠ "java/lang/invoke/MethodHandle" ∧ yX5_readHit.cls ≠ "java/lang/invoke/VarHandle" ∧ (parseMethodDescriptor yX5_readHit.desc).map (fun d => d.parameters.length) = some 0 := ⟨⟨k_co_X5_readHit, k_in_X5_readHit, k_se_X5_X5_readHit, k_ii_X5⟩, rfl, by decide +kernel, by decide +kernel, by decide +kernel⟩
theorem q_X5_readPick : (Cond.code yX5_readPick cX5_readPick 1 (some .boolean) ∈ lw_g ∧ Cond.instanceMethod yX5_readPick ∈ lw_g ∧ Cond.selects RX5 yX5_readPick yX5_readPick ∈ lw_g ∧ Cond.initialized RX5 ∈ lw_g) ∧ yX5_readPick.cls = RX5 ∧ yX5_readPick.cls ≠ "java/lang/invoke/MethodHandle" ∧ yX5_readPick.cls ≠ "java/lang/invoke/VarHandle" ∧ (parseMethodDescriptor yX5_readPick.desc).map (fun d => d.parameters.length) = some 0 := ⟨⟨k_co_X5_readPick, k_in_X5_readPick, k_se_X5_X5_readPick, k_ii_X5⟩, rfl, by decide +kernel, by decide +kernel, by decide +kernel⟩
theorem q_X5_readHours : (Cond.code yX5_readHours cX5_readHours 1 (some .boolean) ∈ lw_g ∧ Cond.instanceMethod yX5_readHours ∈ lw_g ∧ Cond.selects RX5 yX5_readHours yX5_readHours ∈ lw_g ∧ Cond.initialized RX5 ∈ lw_g) ∧ yX5_readHours.cls = RX5 ∧ yX5_readHours.cls ≠ "java/lang/invoke/MethodHandle" ∧ yX5_readHours.cls ≠ "java/lang/invoke/VarHandle" ∧ (parseMethodDescriptor yX5_readHours.desc).map (fun d => d.parameters.length) = some 0 := ⟨⟨k_co_X5_readHours, k_in_X5_readHours, k_se_X5_X5_readHours, k_ii_X5⟩, rfl, by decide +kernel, by decide +kernel, by decide +kernel⟩
theorem q_X5_takeNumber : (Cond.code yX5_takeNumber cX5_takeNumber 4 (some .boolean) ∈ lw_g ∧ Cond.instanceMethod yX5_takeNumber ∈ lw_g ∧ Cond.selects RX5 yX5_takeNumber yX5_takeNumber ∈ lw_g ∧ Cond.initialized RX5 ∈ lw_g) ∧ yX5_takeNumber.cls = RX5 ∧ yX5_takeNumber.cls ≠ "java/lang/invoke/MethodHandle" ∧ yX5_takeNumber.cls ≠ "java/lang/invoke/VarHandle" ∧ (parseMethodDescriptor yX5_takeNumber.desc).map (fun d => d.parameters.length) = some 2 := ⟨⟨k_co_X5_takeNumber, k_in_X5_takeNumber, k_se_X5_X5_takeNumber, k_ii_X5⟩, rfl, by decide +kernel, by decide +kernel, by decide +kernel⟩
theorem q_X5_takeStop : (Cond.code yX5_takeStop cX5_takeStop 1 (some .boolean) ∈ lw_g ∧ Cond.instanceMethod yX5_takeStop ∈ lw_g ∧ Cond.selects RX5 yX5_takeStop yX5_takeStop ∈ lw_g ∧ Cond.initialized RX5 ∈ lw_g) ∧ yX5_takeStop.cls = RX5 ∧ yX5_takeStop.cls ≠ "java/lang/invoke/MethodHandle" ∧ yX5_takeStop.cls ≠ "java/lang/invoke/VarHandle" ∧ (parseMethodDescriptor yX5_takeStop.desc).map (fun d => d.parameters.length) = some 0 := ⟨⟨k_co_X5_takeStop, k_in_X5_takeStop, k_se_X5_X5_takeStop, k_ii_X5⟩, rfl, by decide +kernel, by decide +kernel, by decide +kernel⟩
theorem q_X6_size : (Cond.code yX6_size cX6_size 1 (some .int) ∈ lw_g ∧ Cond.instanceMethod yX6_size ∈ lw_g ∧ Cond.selects RX6 yX6_size yX6_size ∈ lw_g ∧ Cond.initialized RX6 ∈ lw_g) ∧ yX6_size.cls = RX6 ∧ yX6_size.cls ≠ "java/lang/invoke/MethodHandle" ∧ yX6_size.cls ≠ "java/lang/invoke/VarHandle" ∧ (parseMethodDescriptor yX6_size.desc).map (fun d => d.parameters.length) = some 0 := ⟨⟨k_co_X6_size, k_in_X6_size, k_se_X6_X6_size, k_ii_X6⟩, rfl, by decide +kernel, by decide +kernel, by decide +kernel⟩
theorem q_X6_isFull : (Cond.code yX6_isFull cX6_isFull 1 (some .boolean) ∈ lw_g ∧ Cond.instanceMethod yX6_isFull ∈ lw_g ∧ Cond.selects RX6 yX6_isFull yX6_isFull ∈ lw_g ∧ Cond.initialized RX6 ∈ lw_g) ∧ yX6_isFull.cls = RX6 ∧ yX6_isFull.cls ≠ "java/lang/invoke/MethodHandle" ∧ yX6_isFull.cls ≠ "java/lang/invoke/VarHandle" ∧ (parseMethodDescriptor yX6_isFull.desc).map (fun d => d.parameters.length) = some 0 := ⟨⟨k_co_X6_isFull, k_in_X6_isFull, k_se_X6_X6_isFull, k_ii_X6⟩, rfl, by decide +kernel, by decide +kernel, by decide +kernel⟩
theorem q_X6_has : (Cond.code yX6_has cX6_has 2 (some .boolean) ∈ lw_g ∧ Cond.instanceMethod yX6_has ∈ lw_g ∧ Cond.selects RX6 yX6_has yX6_has ∈ lw_g ∧ Cond.initialized RX6 ∈ lw_g) ∧ yX6_has.cls = RX6 ∧ yX6_has.cls ≠ "java/lang/invoke/MethodHandle" ∧ yX6_has.cls ≠ "java/lang/invoke/VarHandle" ∧ (parseMethodDescriptor yX6_has.desc).map (fun d => d.parameters.length) = some 1 := ⟨⟨k_co_X6_has, k_in_X6_has, k_se_X6_X6_has, k_ii_X6⟩, rfl, by decide +kernel, by decide +kernel, by decide +kernel⟩
theorem q_X6_cell : (Cond.code yX6_cell cX6_cell 3 (some .int) ∈ lw_g ∧ Cond.instanceMethod yX6_cell ∈ lw_g ∧ Cond.selects RX6 yX6_cell yX6_cell ∈ lw_g ∧ Cond.initialized RX6 ∈ lw_g) ∧ yX6_cell.cls = RX6 ∧ yX6_cell.cls ≠ "java/lang/invoke/MethodHandle" ∧ yX6_cell.cls ≠ "java/lang/invoke/VarHandle" ∧ (parseMethodDescriptor yX6_cell.desc).map (fun d => d.parameters.length) = some 2 := ⟨⟨k_co_X6_cell, k_in_X6_cell, k_se_X6_X6_cell, k_ii_X6⟩, rfl, by decide +kernel, by decide +kernel, by decide +kernel⟩
theorem q_X6_add : (Cond.code yX6_add cX6_add 5 (some .int) ∈ lw_g ∧ Cond.instanceMethod yX6_add ∈ lw_g ∧ Cond.selects RX6 yX6_add yX6_add ∈ lw_g ∧ Cond.initialized RX6 ∈ lw_g) ∧ yX6_add.cls = RX6 ∧ yX6_add.cls ≠ "java/lang/invoke/MethodHandle" ∧ yX6_add.cls ≠ "java/lang/invoke/VarHandle" ∧ (parseMethodDescriptor yX6_add.desc).map (fun d => d.parameters.length) = some 4 := ⟨⟨k_co_X6_add, k_in_X6_add, k_se_X6_X6_add, k_ii_X6⟩, rfl, by decide +kernel, by decide +kernel, by decide +kernel⟩
theorem q_X6_empty : (Cond.code yX6_empty cX6_empty 2 (some .int) ∈ lw_g ∧ Cond.instanceMethod yX6_empty ∈ lw_g ∧ Cond.selects RX6 yX6_empty yX6_empty ∈ lw_g ∧ Cond.initialized RX6 ∈ lw_g) ∧ yX6_empty.cls = RX6 ∧ yX6_empty.cls ≠ "java/lang/invoke/MethodHandle" ∧ yX6_empty.cls ≠ "java/lang/invoke/VarHandle" ∧ (parseMethodDescriptor yX6_empty.desc).map (fun d => d.parameters.length) = some 0 := ⟨⟨k_co_X6_empty, k_in_X6_empty, k_se_X6_X6_empty, k_ii_X6⟩, rfl, by decide +kernel, by decide +kernel, by decide +kernel⟩
theorem q_X6_copyFrom : (Cond.code yX6_copyFrom cX6_copyFrom 3 none ∈ lw_g ∧ Cond.instanceMethod yX6_copyFrom ∈ lw_g ∧ Cond.selects RX6 yX6_copyFrom yX6_copyFrom ∈ lw_g ∧ Cond.initialized RX6 ∈ lw_g) ∧ yX6_copyFrom.cls = RX6 ∧ yX6_copyFrom.cls ≠ "java/lang/invoke/MethodHandle" ∧ yX6_copyFrom.cls ≠ "java/lang/invoke/VarHandle" ∧ (parseMethodDescriptor yX6_copyFrom.desc).map (fun d => d.parameters.length) = some 1 := ⟨⟨k_co_X6_copyFrom, k_in_X6_copyFrom, k_se_X6_X6_copyFrom, k_ii_X6⟩, rfl, by decide +kernel, by decide +kernel, by decide +kernel⟩
theorem q_X6_foldInto : (Cond.code yX6_foldInto cX6_foldInto 6 (some .long) ∈ lw_g ∧ Cond.instanceMethod yX6_foldInto ∈ lw_g ∧ Cond.selects RX6 yX6_foldInto yX6_foldInto ∈ lw_g ∧ Cond.initialized RX6 ∈ lw_g) ∧ yX6_foldInto.cls = RX6 ∧ yX6_foldInto.cls ≠ "java/lang/invoke/MethodHandle" ∧ yX6_foldInto.cls ≠ "java/lang/invoke/VarHandle" ∧ (parseMethodDescriptor yX6_foldInto.desc).map (fun d => d.parameters.length) = some 1 := ⟨⟨k_co_X6_foldInto, k_in_X6_foldInto, k_se_X6_X6_foldInto, k_ii_X6⟩, rfl, by decide +kernel, by decide +kernel, by decide +kernel⟩
theorem q_X6_put : (Cond.code yX6_put cX6_put 3 none ∈ lw_g ∧ Cond.instanceMethod yX6_put ∈ lw_g ∧ Cond.selects RX6 yX6_put yX6_put ∈ lw_g ∧ Cond.initialized RX6 ∈ lw_g) ∧ yX6_put.cls = RX6 ∧ yX6_put.cls ≠ "java/lang/invoke/MethodHandle" ∧ yX6_put.cls ≠ "java/lang/invoke/VarHandle" ∧ (parseMethodDescriptor yX6_put.desc).map (fun d => d.parameters.length) = some 2 := ⟨⟨k_co_X6_put, k_in_X6_put, k_se_X6_X6_put, k_ii_X6⟩, rfl, by decide +kernel, by decide +kernel, by decide +kernel⟩
theorem q_X7_watch : (Cond.code yX7_watch cX7_watch 3 none ∈ lw_g ∧ Cond.instanceMethod yX7_watch ∈ lw_g ∧ Cond.selects RX7 yX7_watch yX7_watch ∈ lw_g ∧ Cond.initialized RX7 ∈ lw_g) ∧ yX7_watch.cls = RX7 ∧ yX7_watch.cls ≠ "java/lang/invoke/MethodHandle" ∧ yX7_watch.cls ≠ "java/lang/invoke/VarHandle" ∧ (parseMethodDescriptor yX7_watch.desc).map (fun d => d.parameters.length) = some 1 := ⟨⟨k_co_X7_watch, k_in_X7_watch, k_se_X7_X7_watch, k_ii_X7⟩, rfl, by decide +kernel, by decide +kernel, by decide +kernel⟩
theorem q_X7_strokes : (Cond.code yX7_strokes cX7_strokes 4 (some .int) ∈ lw_g ∧ Cond.instanceMethod yX7_strokes ∈ lw_g ∧ Cond.selects RX7 yX7_strokes yX7_strokes ∈ lw_g ∧ Cond.initialized RX7 ∈ lw_g) ∧ yX7_strokes.cls = RX7 ∧ yX7_strokes.cls ≠ "java/lang/invoke/MethodHandle" ∧ yX7_strokes.cls ≠ "java/lang/invoke/VarHandle" ∧ (parseMethodDescriptor yX7_strokes.desc).map (fun d => d.parameters.length) = some 1 := ⟨⟨k_co_X7_strokes, k_in_X7_strokes, k_se_X7_X7_strokes, k_ii_X7⟩, rfl, by decide +kernel, by decide +kernel, by decide +kernel⟩
theorem q_X7_firstBestWay : (Cond.code yX7_firstBestWay cX7_firstBestWay 7 (some .int) ∈ lw_g ∧ Cond.instanceMethod yX7_firstBestWay ∈ lw_g ∧ Cond.selects RX7 yX7_firstBestWay yX7_firstBestWay ∈ lw_g ∧ Cond.initialized RX7 ∈ lw_g) ∧ yX7_firstBestWay.cls = RX7 ∧ yX7_firstBestWay.cls ≠ "java/lang/invoke/MethodHandle" ∧ yX7_firstBestWay.cls ≠ "java/lang/invoke/VarHandle" ∧ (parseMethodDescriptor yX7_firstBestWay.desc).map (fun d => d.parameters.length) = some 1 := ⟨⟨k_co_X7_firstBestWay, k_in_X7_firstBestWay, k_se_X7_X7_firstBestWay, k_ii_X7⟩, rfl, by decide +kernel, by decide +kernel, by decide +kernel⟩
theorem q_X7_hillIn : (Cond.code yX7_hillIn cX7_hillIn 2 (some .int) ∈ lw_g ∧ Cond.instanceMethod yX7_hillIn ∈ lw_g ∧ Cond.selects RX7 yX7_hillIn yX7_hillIn ∈ lw_g ∧ Cond.initialized RX7 ∈ lw_g) ∧ yX7_hillIn.cls = RX7 ∧ yX7_hillIn.cls ≠ "java/lang/invoke/MethodHandle" ∧ yX7_hillIn.cls ≠ "java/lang/invoke/VarHandle" ∧ (parseMethodDescriptor yX7_hillIn.desc).map (fun d => d.parameters.length) = some 1 := ⟨⟨k_co_X7_hillIn, k_in_X7_hillIn, k_se_X7_X7_hillIn, k_ii_X7⟩, rfl, by decide +kernel, by decide +kernel, by decide +kernel⟩
theorem q_X7_mirrored : (Cond.code yX7_mirrored cX7_mirrored 4 (some .int) ∈ lw_g ∧ Cond.static yX7_mirrored ∈ lw_g ∧ Cond.initialized RX7 ∈ lw_g) ∧ yX7_mirrored.cls = RX7 ∧ yX7_mirrored.cls ≠ "java/lang/invoke/MethodHandle" ∧ yX7_mirrored.cls ≠ "java/lang/invoke/VarHandle" ∧ (parseMethodDescriptor yX7_mirrored.desc).map (fun d => d.parameters.length) = some 2 := ⟨⟨k_co_X7_mirrored, k_st_X7_mirrored, k_ii_X7⟩, rfl, by decide +kernel, by decide +kernel, by decide +kernel⟩
theorem q_X8_size : (Cond.code yX8_size cX8_size 1 (some .int) ∈ lw_g ∧ Cond.instanceMethod yX8_size ∈ lw_g ∧ Cond.selects RX8 yX8_size yX8_size ∈ lw_g ∧ Cond.initialized RX8 ∈ lw_g) ∧ yX8_size.cls = RX8 ∧ yX8_size.cls ≠ "java/lang/invoke/MethodHandle" ∧ yX8_size.cls ≠ "java/lang/invoke/VarHandle" ∧ (parseMethodDescriptor yX8_size.desc).map (fun d => d.parameters.length) = some 0 := ⟨⟨k_co_X8_size, k_in_X8_size, k_se_X8_X8_size, k_ii_X8⟩, rfl, by decide +kernel, by decide +kernel, by decide +kernel⟩
theorem q_X8_isFull : (Cond.code yX8_isFull cX8_isFull 1 (some .boolean) ∈ lw_g ∧ Cond.instanceMethod yX8_isFull ∈ lw_g ∧ Cond.selects RX8 yX8_isFull yX8_isFull ∈ lw_g ∧ Cond.initialized RX8 ∈ lw_g) ∧ yX8_isFull.cls = RX8 ∧ yX8_isFull.cls ≠ "java/lang/invoke/MethodHandle" ∧ yX8_isFull.cls ≠ "java/lang/invoke/VarHandle" ∧ (parseMethodDescriptor yX8_isFull.desc).map (fun d => d.parameters.length) = some 0 := ⟨⟨k_co_X8_isFull, k_in_X8_isFull, k_se_X8_X8_isFull, k_ii_X8⟩, rfl, by decide +kernel, by decide +kernel, by decide +kernel⟩
theorem q_X8_append : (Cond.code yX8_append cX8_append 2 (some .int) ∈ lw_g ∧ Cond.instanceMethod yX8_append ∈ lw_g ∧ Cond.selects RX8 yX8_append yX8_append ∈ lw_g ∧ Cond.initialized RX8 ∈ lw_g) ∧ yX8_append.cls = RX8 ∧ yX8_append.cls ≠ "java/lang/invoke/MethodHandle" ∧ yX8_append.cls ≠ "java/lang/invoke/VarHandle" ∧ (parseMethodDescriptor yX8_append.desc).map (fun d => d.parameters.length) = some 1 := ⟨⟨k_co_X8_append, k_in_X8_append, k_se_X8_X8_append, k_ii_X8⟩, rfl, by decide +kernel, by decide +kernel, by decide +kernel⟩
theorem q_X8_empty : (Cond.code yX8_empty cX8_empty 2 (some .int) ∈ lw_g ∧ Cond.instanceMethod yX8_empty ∈ lw_g ∧ Cond.selects RX8 yX8_empty yX8_empty ∈ lw_g ∧ Cond.initialized RX8 ∈ lw_g) ∧ yX8_empty.cls = RX8 ∧ yX8_empty.cls ≠ "java/lang/invoke/MethodHandle" ∧ yX8_empty.cls ≠ "java/lang/invoke/VarHandle" ∧ (parseMethodDescriptor yX8_empty.desc).map (fun d => d.parameters.length) = some 0 := ⟨⟨k_co_X8_empty, k_in_X8_empty, k_se_X8_X8_empty, k_ii_X8⟩, rfl, by decide +kernel, by decide +kernel, by decide +kernel⟩
theorem q_X8_token : (Cond.code yX8_token cX8_token 1 (some .int) ∈ lw_g ∧ Cond.instanceMethod yX8_token ∈ lw_g ∧ Cond.selects RX8 yX8_token yX8_token ∈ lw_g ∧ Cond.initialized RX8 ∈ lw_g) ∧ yX8_token.cls = RX8 ∧ yX8_token.cls ≠ "java/lang/invoke/MethodHandle" ∧ yX8_token.cls ≠ "java/lang/invoke/VarHandle" ∧ (parseMethodDescriptor yX8_token.desc).map (fun d => d.parameters.length) = some 0 := ⟨⟨k_co_X8_token, k_in_X8_token, k_se_X8_X8_token, k_ii_X8⟩, rfl, by decide +kernel, by decide +kernel, by decide +kernel⟩
theorem q_X8_tokenStart : (Cond.code yX8_tokenStart cX8_tokenStart 1 (some .int) ∈ lw_g ∧ Cond.instanceMethod yX8_tokenStart ∈ lw_g ∧ Cond.selects RX8 yX8_tokenStart yX8_tokenStart ∈ lw_g ∧ Cond.initialized RX8 ∈ lw_g) ∧ yX8_tokenStart.cls = RX8 ∧ yX8_tokenStart.cls ≠ "java/lang/invoke/MethodHandle" ∧ yX8_tokenStart.cls ≠ "java/lang/invoke/VarHandle" ∧ (parseMethodDescriptor yX8_tokenStart.desc).map (fun d => d.parameters.length) = some 0 := ⟨⟨k_co_X8_tokenStart, k_in_X8_tokenStart, k_se_X8_X8_tokenStart, k_ii_X8⟩, rfl, by decide +kernel, by decide +kernel, by decide +kernel⟩
theorem q_X8_rewind : (Cond.code yX8_rewind cX8_rewind 1 none ∈ lw_g ∧ Cond.instanceMethod yX8_rewind ∈ lw_g ∧ Cond.selects RX8 yX8_rewind yX8_rewind ∈ lw_g ∧ Cond.initialized RX8 ∈ lw_g) ∧ yX8_rewind.cls = RX8 ∧ yX8_rewind.cls ≠ "java/lang/invoke/MethodHandle" ∧ yX8_rewind.cls ≠ "java/lang/invoke/VarHandle" ∧ (parseMethodDescriptor yX8_rewind.desc).map (fun d => d.parameters.length) = some 0 := ⟨⟨k_co_X8_rewind, k_in_X8_rewind, k_se_X8_X8_rewind, k_ii_X8⟩, rfl, by decide +kernel, by decide +kernel, by decide +kernel⟩
theorem q_X8_advance : (Cond.code yX8_advance cX8_advance 1 none ∈ lw_g ∧ Cond.instanceMethod yX8_advance ∈ lw_g ∧ Cond.selects RX8 yX8_advance yX8_advance ∈ lw_g ∧ Cond.initialized RX8 ∈ lw_g) ∧ yX8_advance.cls = RX8 ∧ yX8_advance.cls ≠ "java/lang/invoke/MethodHandle" ∧ yX8_advance.cls ≠ "java/lang/invoke/VarHandle" ∧ (parseMethodDescriptor yX8_advance.desc).map (fun d => d.parameters.length) = some 0 := ⟨⟨k_co_X8_advance, k_in_X8_advance, k_se_X8_X8_advance, k_ii_X8⟩, rfl, by decide +kernel, by decide +kernel, by decide +kernel⟩
theorem q_X8_isWord : (Cond.code yX8_isWord cX8_isWord 3 (some .boolean) ∈ lw_g ∧ Cond.instanceMethod yX8_isWord ∈ lw_g ∧ Cond.selects RX8 yX8_isWord yX8_isWord ∈ lw_g ∧ Cond.initialized RX8 ∈ lw_g) ∧ yX8_isWord.cls = RX8 ∧ yX8_isWord.cls ≠ "java/lang/invoke/MethodHandle" ∧ yX8_isWord.cls ≠ "java/lang/invoke/VarHandle" ∧ (parseMethodDescriptor yX8_isWord.desc).map (fun d => d.parameters.length) = some 1 := ⟨⟨k_co_X8_isWord, k_in_X8_isWord, k_se_X8_X8_isWord, k_ii_X8⟩, rfl, by decide +kernel, by decide +kernel, by decide +kernel⟩
theorem q_X8_number : (Cond.code yX8_number cX8_number 3 (some .int) ∈ lw_g ∧ Cond.instanceMethod yX8_number ∈ lw_g ∧ Cond.selects RX8 yX8_number yX8_number ∈ lw_g ∧ Cond.initialized RX8 ∈ lw_g) ∧ yX8_number.cls = RX8 ∧ yX8_number.cls ≠ "java/lang/invoke/MethodHandle" ∧ yX8_number.cls ≠ "java/lang/invoke/VarHandle" ∧ (parseMethodDescriptor yX8_number.desc).map (fun d => d.parameters.length) = some 0 := ⟨⟨k_co_X8_number, k_in_X8_number, k_se_X8_X8_number, k_ii_X8⟩, rfl, by decide +kernel, by decide +kernel, by decide +kernel⟩
theorem q_X8_isLetter : (Cond.code yX8_isLetter cX8_isLetter 1 (some .boolean) ∈ lw_g ∧ Cond.static yX8_isLetter ∈ lw_g ∧ Cond.initialized RX8 ∈ lw_g) ∧ yX8_isLetter.cls = RX8 ∧ yX8_isLetter.cls ≠ "java/lang/invoke/MethodHandle" ∧ yX8_isLetter.cls ≠ "java/lang/invoke/VarHandle" ∧ (parseMethodDescriptor yX8_isLetter.desc).map (fun d => d.parameters.length) = some 1 := ⟨⟨k_co_X8_isLetter, k_st_X8_isLetter, k_ii_X8⟩, rfl, by decide +kernel, by decide +kernel, by decide +kernel⟩
theorem q_X8_isFigure : (Cond.code yX8_isFigure cX8_isFigure 1 (some .boolean) ∈ lw_g ∧ Cond.static yX8_isFigure ∈ lw_g ∧ Cond.initialized RX8 ∈ lw_g) ∧ yX8_isFigure.cls = RX8 ∧ yX8_isFigure.cls ≠ "java/lang/invoke/MethodHandle" ∧ yX8_isFigure.cls ≠ "java/lang/invoke/VarHandle" ∧ (parseMethodDescriptor yX8_isFigure.desc).map (fun d => d.parameters.length) = some 1 := ⟨⟨k_co_X8_isFigure, k_st_X8_isFigure, k_ii_X8⟩, rfl, by decide +kernel, by decide +kernel, by decide +kernel⟩
theorem q_X9_start : (Cond.code yX9_start cX9_start 2 none ∈ lw_g ∧ Cond.instanceMethod yX9_start ∈ lw_g ∧ Cond.selects RX9 yX9_start yX9_start ∈ lw_g ∧ Cond.initialized RX9 ∈ lw_g) ∧ yX9_start.cls = RX9 ∧ yX9_start.cls ≠ "java/lang/invoke/MethodHandle" ∧ yX9_start.cls ≠ "java/lang/invoke/VarHandle" ∧ (parseMethodDescriptor yX9_start.desc).map (fun d => d.parameters.length) = some 1 := ⟨⟨k_co_X9_start, k_in_X9_start, k_se_X9_X9_start, k_ii_X9⟩, rfl, by decide +kernel, by decide +kernel, by decide +kernel⟩
theorem q_X9_copyFrom : (Cond.code yX9_copyFrom cX9_copyFrom 2 none ∈ lw_g ∧ Cond.instanceMethod yX9_copyFrom ∈ lw_g ∧ Cond.selects RX9 yX9_copyFrom yX9_copyFrom ∈ lw_g ∧ Cond.initialized RX9 ∈ lw_g) ∧ yX9_copyFrom.cls = RX9 ∧ yX9_copyFrom.cls ≠ "java/lang/invoke/MethodHandle" ∧ yX9_copyFrom.cls ≠ "java/lang/invoke/VarHandle" ∧ (parseMethodDescriptor yX9_copyFrom.desc).map (fun d => d.parameters.length) = some 1 := ⟨⟨k_co_X9_copyFrom, k_in_X9_copyFrom, k_se_X9_X9_copyFrom, k_ii_X9⟩, rfl, by decide +kernel, by decide +kernel, by decide +kernel⟩
theorem q_X9_hour : (Cond.code yX9_hour cX9_hour 1 (some .int) ∈ lw_g ∧ Cond.instanceMethod yX9_hour ∈ lw_g ∧ Cond.selects RX9 yX9_hour yX9_hour ∈ lw_g ∧ Cond.initialized RX9 ∈ lw_g) ∧ yX9_hour.cls = RX9 ∧ yX9_hour.cls ≠ "java/lang/invoke/MethodHandle" ∧ yX9_hour.cls ≠ "java/lang/invoke/VarHandle" ∧ (parseMethodDescriptor yX9_hour.desc).map (fun d => d.parameters.length) = some 0 := ⟨⟨k_co_X9_hour, k_in_X9_hour, k_se_X9_X9_hour, k_ii_X9⟩, rfl, by decide +kernel, by decide +kernel, by decide +kernel⟩
theorem q_X9_hill : (Cond.code yX9_hill cX9_hill 1 (some .int) ∈ lw_g ∧ Cond.instanceMethod yX9_hill ∈ lw_g ∧ Cond.selects RX9 yX9_hill yX9_hill ∈ lw_g ∧ Cond.initialized RX9 ∈ lw_g) ∧ yX9_hill.cls = RX9 ∧ yX9_hill.cls ≠ "java/lang/invoke/MethodHandle" ∧ yX9_hill.cls ≠ "java/lang/invoke/VarHandle" ∧ (parseMethodDescriptor yX9_hill.desc).map (fun d => d.parameters.length) = some 0 := ⟨⟨k_co_X9_hill, k_in_X9_hill, k_se_X9_X9_hill, k_ii_X9⟩, rfl, by decide +kernel, by decide +kernel, by decide +kernel⟩
theorem q_X9_isUp : (Cond.code yX9_isUp cX9_isUp 1 (some .boolean) ∈ lw_g ∧ Cond.instanceMethod yX9_isUp ∈ lw_g ∧ Cond.selects RX9 yX9_isUp yX9_isUp ∈ lw_g ∧ Cond.initialized RX9 ∈ lw_g) ∧ yX9_isUp.cls = RX9 ∧ yX9_isUp.cls ≠ "java/lang/invoke/MethodHandle" ∧ yX9_isUp.cls ≠ "java/lang/invoke/VarHandle" ∧ (parseMethodDescriptor yX9_isUp.desc).map (fun d => d.parameters.length) = some 0 := ⟨⟨k_co_X9_isUp, k_in_X9_isUp, k_se_X9_X9_isUp, k_ii_X9⟩, rfl, by decide +kernel, by decide +kernel, by decide +kernel⟩
theorem q_X9_windIn : (Cond.code yX9_windIn cX9_windIn 2 (some .int) ∈ lw_g ∧ Cond.instanceMethod yX9_windIn ∈ lw_g ∧ Cond.selects RX9 yX9_windIn yX9_windIn ∈ lw_g ∧ Cond.initialized RX9 ∈ lw_g) ∧ yX9_windIn.cls = RX9 ∧ yX9_windIn.cls ≠ "java/lang/invoke/MethodHandle" ∧ yX9_windIn.cls ≠ "java/lang/invoke/VarHandle" ∧ (parseMethodDescriptor yX9_windIn.desc).map (fun d => d.parameters.length) = some 1 := ⟨⟨k_co_X9_windIn, k_in_X9_windIn, k_se_X9_X9_windIn, k_ii_X9⟩, rfl, by decide +kernel, by decide +kernel, by decide +kernel⟩
theorem q_X9_helpFrom : (Cond.code yX9_helpFrom cX9_helpFrom 3 (some .int) ∈ lw_g ∧ Cond.instanceMethod yX9_helpFrom ∈ lw_g ∧ Cond.selects RX9 yX9_helpFrom yX9_helpFrom ∈ lw_g ∧ Cond.initialized RX9 ∈ lw_g) ∧ yX9_helpFrom.cls = RX9 ∧ yX9_helpFrom.cls ≠ "java/lang/invoke/MethodHandle" ∧ yX9_helpFrom.cls ≠ "java/lang/invoke/VarHandle" ∧ (parseMethodDescriptor yX9_helpFrom.desc).map (fun d => d.parameters.length) = some 2 := ⟨⟨k_co_X9_helpFrom, k_in_X9_helpFrom, k_se_X9_X9_helpFrom, k_ii_X9⟩, rfl, by decide +kernel, by decide +kernel, by decide +kernel⟩
theorem q_X9_force : (Cond.code yX9_force cX9_force 3 (some .int) ∈ lw_g ∧ Cond.instanceMethod yX9_force ∈ lw_g ∧ Cond.selects RX9 yX9_force yX9_force ∈ lw_g ∧ Cond.initialized RX9 ∈ lw_g) ∧ yX9_force.cls = RX9 ∧ yX9_force.cls ≠ "java/lang/invoke/MethodHandle" ∧ yX9_force.cls ≠ "java/lang/invoke/VarHandle" ∧ (parseMethodDescriptor yX9_force.desc).map (fun d => d.parameters.length) = some 2 := ⟨⟨k_co_X9_force, k_in_X9_force, k_se_X9_X9_force, k_ii_X9⟩, rfl, by decide +kernel, by decide +kernel, by decide +kernel⟩
theorem q_X9_flightFrom : (Cond.code yX9_flightFrom cX9_flightFrom 5 (some .int) ∈ lw_g ∧ Cond.instanceMethod yX9_flightFrom ∈ lw_g ∧ Cond.selects RX9 yX9_flightFrom yX9_flightFrom ∈ lw_g ∧ Cond.initialized RX9 ∈ lw_g) ∧ yX9_flightFrom.cls = RX9 ∧ yX9_flightFrom.cls ≠ "java/lang/invoke/MethodHandle" ∧ yX9_flightFrom.cls ≠ "java/lang/invoke/VarHandle" ∧ (parseMethodDescriptor yX9_flightFrom.desc).map (fun d => d.parameters.length) = some 4 := ⟨⟨k_co_X9_flightFrom, k_in_X9_flightFrom, k_se_X9_X9_flightFrom, k_ii_X9⟩, rfl, by decide +kernel, by decide +kernel, by decide +kernel⟩
theorem q_X9_reachOf : (Cond.code yX9_reachOf cX9_reachOf 3 (some .int) ∈ lw_g ∧ Cond.instanceMethod yX9_reachOf ∈ lw_g ∧ Cond.selects RX9 yX9_reachOf yX9_reachOf ∈ lw_g ∧ Cond.initialized RX9 ∈ lw_g) ∧ yX9_reachOf.cls = RX9 ∧ yX9_reachOf.cls ≠ "java/lang/invoke/MethodHandle" ∧ yX9_reachOf.cls ≠ "java/lang/invoke/VarHandle" ∧ (parseMethodDescriptor yX9_reachOf.desc).map (fun d => d.parameters.length) = some 2 := ⟨⟨k_co_X9_reachOf, k_in_X9_reachOf, k_se_X9_X9_reachOf, k_ii_X9⟩, rfl, by decide +kernel, by decide +kernel, by decide +kernel⟩
theorem q_X9_carriesWeight : (Cond.code yX9_carriesWeight cX9_carriesWeight 4 (some .boolean) ∈ lw_g ∧ Cond.instanceMethod yX9_carriesWeight ∈ lw_g ∧ Cond.selects RX9 yX9_carriesWeight yX9_carriesWeight ∈ lw_g ∧ Cond.initialized RX9 ∈ lw_g) ∧ yX9_carriesWeight.cls = RX9 ∧ yX9_carriesWeight.cls ≠ "java/lang/invoke/MethodHandle" ∧ yX9_carriesWeight.cls ≠ "java/lang/invoke/VarHandle" ∧ (parseMethodDescriptor yX9_carriesWeight.desc).map (fun d => d.parameters.length) = some 3 := ⟨⟨k_co_X9_carriesWeight, k_in_X9_carriesWeight, k_se_X9_X9_carriesWeight, k_ii_X9⟩, rfl, by decide +kernel, by decide +kernel, by decide +kernel⟩
theorem q_X9_carries : (Cond.code yX9_carries cX9_carries 3 (some .boolean) ∈ lw_g ∧ Cond.instanceMethod yX9_carries ∈ lw_g ∧ Cond.selects RX9 yX9_carries yX9_carries ∈ lw_g ∧ Cond.initialized RX9 ∈ lw_g) ∧ yX9_carries.cls = RX9 ∧ yX9_carries.cls ≠ "java/lang/invoke/MethodHandle" ∧ yX9_carries.cls ≠ "java/lang/invoke/VarHandle" ∧ (parseMethodDescriptor yX9_carries.desc).map (fun d => d.parameters.length) = some 2 := ⟨⟨k_co_X9_carries, k_in_X9_carries, k_se_X9_X9_carries, k_ii_X9⟩, rfl, by decide +kernel, by decide +kernel, by decide +kernel⟩
theorem q_X9_carriesInWind : (Cond.code yX9_carriesInWind cX9_carriesInWind 4 (some .boolean) ∈ lw_g ∧ Cond.instanceMethod yX9_carriesInWind ∈ lw_g ∧ Cond.selects RX9 yX9_carriesInWind yX9_carriesInWind ∈ lw_g ∧ Cond.initialized RX9 ∈ lw_g) ∧ yX9_carriesInWind.cls = RX9 ∧ yX9_carriesInWind.cls ≠ "java/lang/invoke/MethodHandle" ∧ yX9_carriesInWind.cls ≠ "java/lang/invoke/VarHandle" ∧ (parseMethodDescriptor yX9_carriesInWind.desc).map (fun d => d.parameters.length) = some 2 := ⟨⟨k_co_X9_carriesInWind, k_in_X9_carriesInWind, k_se_X9_X9_carriesInWind, k_ii_X9⟩, rfl, by decide +kernel, by decide +kernel, by decide +kernel⟩
theorem q_X9_isOn : (Cond.code yX9_isOn cX9_isOn 3 (some .boolean) ∈ lw_g ∧ Cond.instanceMethod yX9_isOn ∈ lw_g ∧ Cond.selects RX9 yX9_isOn yX9_isOn ∈ lw_g ∧ Cond.initialized RX9 ∈ lw_g) ∧ yX9_isOn.cls = RX9 ∧ yX9_isOn.cls ≠ "java/lang/invoke/MethodHandle" ∧ yX9_isOn.cls ≠ "java/lang/invoke/VarHandle" ∧ (parseMethodDescriptor yX9_isOn.desc).map (fun d => d.parameters.length) = some 2 := ⟨⟨k_co_X9_isOn, k_in_X9_isOn, k_se_X9_X9_isOn, k_ii_X9⟩, rfl, by decide +kernel, by decide +kernel, by decide +kernel⟩
theorem q_X9_canStrike : (Cond.code yX9_canStrike cX9_canStrike 2 (some .boolean) ∈ lw_g ∧ Cond.instanceMethod yX9_canStrike ∈ lw_g ∧ Cond.selects RX9 yX9_canStrike yX9_canStrike ∈ lw_g ∧ Cond.initialized RX9 ∈ lw_g) ∧ yX9_canStrike.cls = RX9 ∧ yX9_canStrike.cls ≠ "java/lang/invoke/MethodHandle" ∧ yX9_canStrike.cls ≠ "java/lang/invoke/VarHandle" ∧ (parseMethodDescriptor yX9_canStrike.desc).map (fun d => d.parameters.length) = some 1 := ⟨⟨k_co_X9_canStrike, k_in_X9_canStrike, k_se_X9_X9_canStrike, k_ii_X9⟩, rfl, by decide +kernel, by decide +kernel, by decide +kernel⟩
theorem q_X9_everybody : (Cond.code yX9_everybody cX9_everybody 1 (some .int) ∈ lw_g ∧ Cond.instanceMethod yX9_everybody ∈ lw_g ∧ Cond.selects RX9 yX9_everybody yX9_everybody ∈ lw_g ∧ Cond.initialized RX9 ∈ lw_g) ∧ yX9_everybody.cls = RX9 ∧ yX9_everybody.cls ≠ "java/lang/invoke/MethodHandle" ∧ yX9_everybody.cls ≠ "java/lang/invoke/VarHandle" ∧ (parseMethodDescriptor yX9_everybody.desc).map (fun d => d.parameters.length) = some 0 := ⟨⟨k_co_X9_everybody, k_in_X9_everybody, k_se_X9_X9_everybody, k_ii_X9⟩, rfl, by decide +kernel, by decide +kernel, by decide +kernel⟩
theorem q_X9_playersOn : (Cond.code yX9_playersOn cX9_playersOn 4 (some .int) ∈ lw_g ∧ Cond.instanceMethod yX9_playersOn ∈ lw_g ∧ Cond.selects RX9 yX9_playersOn yX9_playersOn ∈ lw_g ∧ Cond.initialized RX9 ∈ lw_g) ∧ yX9_playersOn.cls = RX9 ∧ yX9_playersOn.cls ≠ "java/lang/invoke/MethodHandle" ∧ yX9_playersOn.cls ≠ "java/lang/invoke/VarHandle" ∧ (parseMethodDescriptor yX9_playersOn.desc).map (fun d => d.parameters.length) = some 1 := ⟨⟨k_co_X9_playersOn, k_in_X9_playersOn, k_se_X9_X9_playersOn, k_ii_X9⟩, rfl, by decide +kernel, by decide +kernel, by decide +kernel⟩
theorem q_X9_carriersFrom : (Cond.code yX9_carriersFrom cX9_carriersFrom 5 (some .int) ∈ lw_g ∧ Cond.instanceMethod yX9_carriersFrom ∈ lw_g ∧ Cond.selects RX9 yX9_carriersFrom yX9_carriersFrom ∈ lw_g ∧ Cond.initialized RX9 ∈ lw_g) ∧ yX9_carriersFrom.cls = RX9 ∧ yX9_carriersFrom.cls ≠ "java/lang/invoke/MethodHandle" ∧ yX9_carriersFrom.cls ≠ "java/lang/invoke/VarHandle" ∧ (parseMethodDescriptor yX9_carriersFrom.desc).map (fun d => d.parameters.length) = some 2 := ⟨⟨k_co_X9_carriersFrom, k_in_X9_carriersFrom, k_se_X9_X9_carriersFrom, k_ii_X9⟩, rfl, by decide +kernel, by decide +kernel, by decide +kernel⟩
theorem q_X9_carriersOn : (Cond.code yX9_carriersOn cX9_carriersOn 5 (some .int) ∈ lw_g ∧ Cond.instanceMethod yX9_carriersOn ∈ lw_g ∧ Cond.selects RX9 yX9_carriersOn yX9_carriersOn ∈ lw_g ∧ Cond.initialized RX9 ∈ lw_g) ∧ yX9_carriersOn.cls = RX9 ∧ yX9_carriersOn.cls ≠ "java/lang/invoke/MethodHandle" ∧ yX9_carriersOn.cls ≠ "java/lang/invoke/VarHandle" ∧ (parseMethodDescriptor yX9_carriersOn.desc).map (fun d => d.parameters.length) = some 2 := ⟨⟨k_co_X9_carriersOn, k_in_X9_carriersOn, k_se_X9_X9_carriersOn, k_ii_X9⟩, rfl, by decide +kernel, by decide +kernel, by decide +kernel⟩
theorem q_X9_remember : (Cond.code yX9_remember cX9_remember 1 none ∈ lw_g ∧ Cond.instanceMethod yX9_remember ∈ lw_g ∧ Cond.selects RX9 yX9_remember yX9_remember ∈ lw_g ∧ Cond.initialized RX9 ∈ lw_g) ∧ yX9_remember.cls = RX9 ∧ yX9_remember.cls ≠ "java/lang/invoke/MethodHandle" ∧ yX9_remember.cls ≠ "java/lang/invoke/VarHandle" ∧ (parseMethodDescriptor yX9_remember.desc).map (fun d => d.parameters.length) = some 0 := ⟨⟨k_co_X9_remember, k_in_X9_remember, k_se_X9_X9_remember, k_ii_X9⟩, rfl, by decide +kernel, by decide +kernel, by decide +kernel⟩
theorem q_X9_strike : (Cond.code yX9_strike cX9_strike 3 (some .int) ∈ lw_g ∧ Cond.instanceMethod yX9_strike ∈ lw_g ∧ Cond.selects RX9 yX9_strike yX9_strike ∈ lw_g ∧ Cond.initialized RX9 ∈ lw_g) ∧ yX9_strike.cls = RX9 ∧ yX9_strike.cls ≠ "java/lang/invoke/MethodHandle" ∧ yX9_strike.cls ≠ "java/lang/invoke/VarHandle" ∧ (parseMethodDescriptor yX9_strike.desc).map (fun d => d.parameters.length) = some 1 := ⟨⟨k_co_X9_strike, k_in_X9_strike, k_se_X9_X9_strike, k_ii_X9⟩, rfl, by decide +kernel, by decide +kernel, by decide +kernel⟩
theorem q_X9_pickUp : (Cond.code yX9_pickUp cX9_pickUp 2 none ∈ lw_g ∧ Cond.instanceMethod yX9_pickUp ∈ lw_g ∧ Cond.selects RX9 yX9_pickUp yX9_pickUp ∈ lw_g ∧ Cond.initialized RX9 ∈ lw_g) ∧ yX9_pickUp.cls = RX9 ∧ yX9_pickUp.cls ≠ "java/lang/invoke/MethodHandle" ∧ yX9_pickUp.cls ≠ "java/lang/invoke/VarHandle" ∧ (parseMethodDescriptor yX9_pickUp.desc).map (fun d => d.parameters.length) = some 1 := ⟨⟨k_co_X9_pickUp, k_in_X9_pickUp, k_se_X9_X9_pickUp, k_ii_X9⟩, rfl, by decide +kernel, by decide +kernel, by decide +kernel⟩
theorem q_X9_feather : (Cond.code yX9_feather cX9_feather 3 none ∈ lw_g ∧ Cond.instanceMethod yX9_feather ∈ lw_g ∧ Cond.selects RX9 yX9_feather yX9_feather ∈ lw_g ∧ Cond.initialized RX9 ∈ lw_g) ∧ yX9_feather.cls = RX9 ∧ yX9_feather.cls ≠ "java/lang/invoke/MethodHandle" ∧ yX9_feather.cls ≠ "java/lang/invoke/VarHandle" ∧ (parseMethodDescriptor yX9_feather.desc).map (fun d => d.parameters.length) = some 2 := ⟨⟨k_co_X9_feather, k_in_X9_feather, k_se_X9_X9_feather, k_ii_X9⟩, rfl, by decide +kernel, by decide +kernel, by decide +kernel⟩
theorem q_X9_letPass : (Cond.code yX9_letPass cX9_letPass 2 none ∈ lw_g ∧ Cond.instanceMethod yX9_letPass ∈ lw_g ∧ Cond.selects RX9 yX9_letPass yX9_letPass ∈ lw_g ∧ Cond.initialized RX9 ∈ lw_g) ∧ yX9_letPass.cls = RX9 ∧ yX9_letPass.cls ≠ "java/lang/invoke/MethodHandle" ∧ yX9_letPass.cls ≠ "java/lang/invoke/VarHandle" ∧ (parseMethodDescriptor yX9_letPass.desc).map (fun d => d.parameters.length) = some 1 := ⟨⟨k_co_X9_letPass, k_in_X9_letPass, k_se_X9_X9_letPass, k_ii_X9⟩, rfl, by decide +kernel, by decide +kernel, by decide +kernel⟩
theorem q_X9_foldInto : (Cond.code yX9_foldInto cX9_foldInto 6 (some .long) ∈ lw_g ∧ Cond.instanceMethod yX9_foldInto ∈ lw_g ∧ Cond.selects RX9 yX9_foldInto yX9_foldInto ∈ lw_g ∧ Cond.initialized RX9 ∈ lw_g) ∧ yX9_foldInto.cls = RX9 ∧ yX9_foldInto.cls ≠ "java/lang/invoke/MethodHandle" ∧ yX9_foldInto.cls ≠ "java/lang/invoke/VarHandle" ∧ (parseMethodDescriptor yX9_foldInto.desc).map (fun d => d.parameters.length) = some 1 := ⟨⟨k_co_X9_foldInto, k_in_X9_foldInto, k_se_X9_X9_foldInto, k_ii_X9⟩, rfl, by decide +kernel, by decide +kernel, by decide +kernel⟩
theorem q_X9_help : (Cond.code yX9_help cX9_help 2 (some .int) ∈ lw_g ∧ Cond.static yX9_help ∈ lw_g ∧ Cond.initialized RX9 ∈ lw_g) ∧ yX9_help.cls = RX9 ∧ yX9_help.cls ≠ "java/lang/invoke/MethodHandle" ∧ yX9_help.cls ≠ "java/lang/invoke/VarHandle" ∧ (parseMethodDescriptor yX9_help.desc).map (fun d => d.parameters.length) = some 2 := ⟨⟨k_co_X9_help, k_st_X9_help, k_ii_X9⟩, rfl, by decide +kernel, by decide +kernel, by decide +kernel⟩
theorem q_X10_valley : (Cond.code yX10_valley cX10_valley 3 (some .int) ∈ lw_g ∧ Cond.instanceMethod yX10_valley ∈ lw_g ∧ Cond.selects RX10 yX10_valley yX10_valley ∈ lw_g ∧ Cond.initialized RX10 ∈ lw_g) ∧ yX10_valley.cls = RX10 ∧ yX10_valley.cls ≠ "java/lang/invoke/MethodHandle" ∧ yX10_valley.cls ≠ "java/lang/invoke/VarHandle" ∧ (parseMethodDescriptor yX10_valley.desc).map (fun d => d.parameters.length) = some 1 := ⟨⟨k_co_X10_valley, k_in_X10_valley, k_se_X10_X10_valley, k_ii_X10⟩, rfl, by decide +kernel, by decide +kernel, by decide +kernel⟩
theorem q_X10_wind : (Cond.code yX10_wind cX10_wind 4 (some .int) ∈ lw_g ∧ Cond.instanceMethod yX10_wind ∈ lw_g ∧ Cond.selects RX10 yX10_wind yX10_wind ∈ lw_g ∧ Cond.initialized RX10 ∈ lw_g) ∧ yX10_wind.cls = RX10 ∧ yX10_wind.cls ≠ "java/lang/invoke/MethodHandle" ∧ yX10_wind.cls ≠ "java/lang/invoke/VarHandle" ∧ (parseMethodDescriptor yX10_wind.desc).map (fun d => d.parameters.length) = some 2 := ⟨⟨k_co_X10_wind, k_in_X10_wind, k_se_X10_X10_wind, k_ii_X10⟩, rfl, by decide +kernel, by decide +kernel, by decide +kernel⟩
theorem q_X10_player : (Cond.code yX10_player cX10_player 4 (some .int) ∈ lw_g ∧ Cond.instanceMethod yX10_player ∈ lw_g ∧ Cond.selects RX10 yX10_player yX10_player ∈ lw_g ∧ Cond.initialized RX10 ∈ lw_g) ∧ yX10_player.cls = RX10 ∧ yX10_player.cls ≠ "java/lang/invoke/MethodHandle" ∧ yX10_player.cls ≠ "java/lang/invoke/VarHandle" ∧ (parseMethodDescriptor yX10_player.desc).map (fun d => d.parameters.length) = some 3 := ⟨⟨k_co_X10_player, k_in_X10_player, k_se_X10_X10_player, k_ii_X10⟩, rfl, by decide +kernel, by decide +kernel, by decide +kernel⟩
theorem q_X10_type : (Cond.code yX10_type cX10_type 2 (some .int) ∈ lw_g ∧ Cond.instanceMethod yX10_type ∈ lw_g ∧ Cond.selects RX10 yX10_type yX10_type ∈ lw_g ∧ Cond.initialized RX10 ∈ lw_g) ∧ yX10_type.cls = RX10 ∧ yX10_type.cls ≠ "java/lang/invoke/MethodHandle" ∧ yX10_type.cls ≠ "java/lang/invoke/VarHandle" ∧ (parseMethodDescriptor yX10_type.desc).map (fun d => d.parameters.length) = some 1 := ⟨⟨k_co_X10_type, k_in_X10_type, k_se_X10_X10_type, k_ii_X10⟩, rfl, by decide +kernel, by decide +kernel, by decide +kernel⟩
theorem q_X10_clear : (Cond.code yX10_clear cX10_clear 1 (some .int) ∈ lw_g ∧ Cond.instanceMethod yX10_clear ∈ lw_g ∧ Cond.selects RX10 yX10_clear yX10_clear ∈ lw_g ∧ Cond.initialized RX10 ∈ lw_g) ∧ yX10_clear.cls = RX10 ∧ yX10_clear.cls ≠ "java/lang/invoke/MethodHandle" ∧ yX10_clear.cls ≠ "java/lang/invoke/VarHandle" ∧ (parseMethodDescriptor yX10_clear.desc).map (fun d => d.parameters.length) = some 0 := ⟨⟨k_co_X10_clear, k_in_X10_clear, k_se_X10_X10_clear, k_ii_X10⟩, rfl, by decide +kernel, by decide +kernel, by decide +kernel⟩
theorem q_X10_read : (Cond.code yX10_read cX10_read 2 (some .int) ∈ lw_g ∧ Cond.instanceMethod yX10_read ∈ lw_g ∧ Cond.selects RX10 yX10_read yX10_read ∈ lw_g ∧ Cond.initialized RX10 ∈ lw_g) ∧ yX10_read.cls = RX10 ∧ yX10_read.cls ≠ "java/lang/invoke/MethodHandle" ∧ yX10_read.cls ≠ "java/lang/invoke/VarHandle" ∧ (parseMethodDescriptor yX10_read.desc).map (fun d => d.parameters.length) = some 0 := ⟨⟨k_co_X10_read, k_in_X10_read, k_se_X10_X10_read, k_ii_X10⟩, rfl, by decide +kernel, by decide +kernel, by decide +kernel⟩
theorem q_X10_hits : (Cond.code yX10_hits cX10_hits 2 (some .int) ∈ lw_g ∧ Cond.instanceMethod yX10_hits ∈ lw_g ∧ Cond.selects RX10 yX10_hits yX10_hits ∈ lw_g ∧ Cond.initialized RX10 ∈ lw_g) ∧ yX10_hits.cls = RX10 ∧ yX10_hits.cls ≠ "java/lang/invoke/MethodHandle" ∧ yX10_hits.cls ≠ "java/lang/invoke/VarHandle" ∧ (parseMethodDescriptor yX10_hits.desc).map (fun d => d.parameters.length) = some 1 := ⟨⟨k_co_X10_hits, k_in_X10_hits, k_se_X10_X10_hits, k_ii_X10⟩, rfl, by decide +kernel, by decide +kernel, by decide +kernel⟩
theorem q_X10_picks : (Cond.code yX10_picks cX10_picks 2 (some .int) ∈ lw_g ∧ Cond.instanceMethod yX10_picks ∈ lw_g ∧ Cond.selects RX10 yX10_picks yX10_picks ∈ lw_g ∧ Cond.initialized RX10 ∈ lw_g) ∧ yX10_picks.cls = RX10 ∧ yX10_picks.cls ≠ "java/lang/invoke/MethodHandle" ∧ yX10_picks.cls ≠ "java/lang/invoke/VarHandle" ∧ (parseMethodDescriptor yX10_picks.desc).map (fun d => d.parameters.length) = some 1 := ⟨⟨k_co_X10_picks, k_in_X10_picks, k_se_X10_X10_picks, k_ii_X10⟩, rfl, by decide +kernel, by decide +kernel, by decide +kernel⟩
theorem q_X10_cock : (Cond.code yX10_cock cX10_cock 4 (some .int) ∈ lw_g ∧ Cond.instanceMethod yX10_cock ∈ lw_g ∧ Cond.selects RX10 yX10_cock yX10_cock ∈ lw_g ∧ Cond.initialized RX10 ∈ lw_g) ∧ yX10_cock.cls = RX10 ∧ yX10_cock.cls ≠ "java/lang/invoke/MethodHandle" ∧ yX10_cock.cls ≠ "java/lang/invoke/VarHandle" ∧ (parseMethodDescriptor yX10_cock.desc).map (fun d => d.parameters.length) = some 2 := ⟨⟨k_co_X10_cock, k_in_X10_cock, k_se_X10_X10_cock, k_ii_X10⟩, rfl, by decide +kernel, by decide +kernel, by decide +kernel⟩
theorem q_X10_hours : (Cond.code yX10_hours cX10_hours 2 (some .int) ∈ lw_g ∧ Cond.instanceMethod yX10_hours ∈ lw_g ∧ Cond.selects RX10 yX10_hours yX10_hours ∈ lw_g ∧ Cond.initialized RX10 ∈ lw_g) ∧ yX10_hours.cls = RX10 ∧ yX10_hours.cls ≠ "java/lang/invoke/MethodHandle" ∧ yX10_hours.cls ≠ "java/lang/invoke/VarHandle" ∧ (parseMethodDescriptor yX10_hours.desc).map (fun d => d.parameters.length) = some 1 := ⟨⟨k_co_X10_hours, k_in_X10_hours, k_se_X10_X10_hours, k_ii_X10⟩, rfl, by decide +kernel, by decide +kernel, by decide +kernel⟩
theorem q_X10_undo : (Cond.code yX10_undo cX10_undo 1 (some .int) ∈ lw_g ∧ Cond.instanceMethod yX10_undo ∈ lw_g ∧ Cond.selects RX10 yX10_undo yX10_undo ∈ lw_g ∧ Cond.initialized RX10 ∈ lw_g) ∧ yX10_undo.cls = RX10 ∧ yX10_undo.cls ≠ "java/lang/invoke/MethodHandle" ∧ yX10_undo.cls ≠ "java/lang/invoke/VarHandle" ∧ (parseMethodDescriptor yX10_undo.desc).map (fun d => d.parameters.length) = some 0 := ⟨⟨k_co_X10_undo, k_in_X10_undo, k_se_X10_X10_undo, k_ii_X10⟩, rfl, by decide +kernel, by decide +kernel, by decide +kernel⟩
theorem q_X10_now : (Cond.code yX10_now cX10_now 2 (some .int) ∈ lw_g ∧ Cond.instanceMethod yX10_now ∈ lw_g ∧ Cond.selects RX10 yX10_now yX10_now ∈ lw_g ∧ Cond.initialized RX10 ∈ lw_g) ∧ yX10_now.cls = RX10 ∧ yX10_now.cls ≠ "java/lang/invoke/MethodHandle" ∧ yX10_now.cls ≠ "java/lang/invoke/VarHandle" ∧ (parseMethodDescriptor yX10_now.desc).map (fun d => d.parameters.length) = some 1 := ⟨⟨k_co_X10_now, k_in_X10_now, k_se_X10_X10_now, k_ii_X10⟩, rfl, by decide +kernel, by decide +kernel, by decide +kernel⟩
theorem q_X10_of : (Cond.code yX10_of cX10_of 3 (some .int) ∈ lw_g ∧ Cond.instanceMethod yX10_of ∈ lw_g ∧ Cond.selects RX10 yX10_of yX10_of ∈ lw_g ∧ Cond.initialized RX10 ∈ lw_g) ∧ yX10_of.cls = RX10 ∧ yX10_of.cls ≠ "java/lang/invoke/MethodHandle" ∧ yX10_of.cls ≠ "java/lang/invoke/VarHandle" ∧ (parseMethodDescriptor yX10_of.desc).map (fun d => d.parameters.length) = some 2 := ⟨⟨k_co_X10_of, k_in_X10_of, k_se_X10_X10_of, k_ii_X10⟩, rfl, by decide +kernel, by decide +kernel, by decide +kernel⟩
theorem q_X10_reach : (Cond.code yX10_reach cX10_reach 3 (some .int) ∈ lw_g ∧ Cond.instanceMethod yX10_reach ∈ lw_g ∧ Cond.selects RX10 yX10_reach yX10_reach ∈ lw_g ∧ Cond.initialized RX10 ∈ lw_g) ∧ yX10_reach.cls = RX10 ∧ yX10_reach.cls ≠ "java/lang/invoke/MethodHandle" ∧ yX10_reach.cls ≠ "java/lang/invoke/VarHandle" ∧ (parseMethodDescriptor yX10_reach.desc).map (fun d => d.parameters.length) = some 2 := ⟨⟨k_co_X10_reach, k_in_X10_reach, k_se_X10_X10_reach, k_ii_X10⟩, rfl, by decide +kernel, by decide +kernel, by decide +kernel⟩
theorem q_X10_may : (Cond.code yX10_may cX10_may 1 (some .int) ∈ lw_g ∧ Cond.instanceMethod yX10_may ∈ lw_g ∧ Cond.selects RX10 yX10_may yX10_may ∈ lw_g ∧ Cond.initialized RX10 ∈ lw_g) ∧ yX10_may.cls = RX10 ∧ yX10_may.cls ≠ "java/lang/invoke/MethodHandle" ∧ yX10_may.cls ≠ "java/lang/invoke/VarHandle" ∧ (parseMethodDescriptor yX10_may.desc).map (fun d => d.parameters.length) = some 0 := ⟨⟨k_co_X10_may, k_in_X10_may, k_se_X10_X10_may, k_ii_X10⟩, rfl, by decide +kernel, by decide +kernel, by decide +kernel⟩
theorem q_X10_rally : (Cond.code yX10_rally cX10_rally 4 (some .int) ∈ lw_g ∧ Cond.instanceMethod yX10_rally ∈ lw_g ∧ Cond.selects RX10 yX10_rally yX10_rally ∈ lw_g ∧ Cond.initialized RX10 ∈ lw_g) ∧ yX10_rally.cls = RX10 ∧ yX10_rally.cls ≠ "java/lang/invoke/MethodHandle" ∧ yX10_rally.cls ≠ "java/lang/invoke/VarHandle" ∧ (parseMethodDescriptor yX10_rally.desc).map (fun d => d.parameters.length) = some 2 := ⟨⟨k_co_X10_rally, k_in_X10_rally, k_se_X10_X10_rally, k_ii_X10⟩, rfl, by decide +kernel, by decide +kernel, by decide +kernel⟩
theorem q_X10_lasts : (Cond.code yX10_lasts cX10_lasts 1 (some .int) ∈ lw_g ∧ Cond.instanceMethod yX10_lasts ∈ lw_g ∧ Cond.selects RX10 yX10_lasts yX10_lasts ∈ lw_g ∧ Cond.initialized RX10 ∈ lw_g) ∧ yX10_lasts.cls = RX10 ∧ yX10_lasts.cls ≠ "java/lang/invoke/MethodHandle" ∧ yX10_lasts.cls ≠ "java/lang/invoke/VarHandle" ∧ (parseMethodDescriptor yX10_lasts.desc).map (fun d => d.parameters.length) = some 0 := ⟨⟨k_co_X10_lasts, k_in_X10_lasts, k_se_X10_X10_lasts, k_ii_X10⟩, rfl, by decide +kernel, by decide +kernel, by decide +kernel⟩
theorem q_X10_place : (Cond.code yX10_place cX10_place 3 (some .int) ∈ lw_g ∧ Cond.instanceMethod yX10_place ∈ lw_g ∧ Cond.selects RX10 yX10_place yX10_place ∈ lw_g ∧ Cond.initialized RX10 ∈ lw_g) ∧ yX10_place.cls = RX10 ∧ yX10_place.cls ≠ "java/lang/invoke/MethodHandle" ∧ yX10_place.cls ≠ "java/lang/invoke/VarHandle" ∧ (parseMethodDescriptor yX10_place.desc).map (fun d => d.parameters.length) = some 1 := ⟨⟨k_co_X10_place, k_in_X10_place, k_se_X10_X10_place, k_ii_X10⟩, rfl, by decide +kernel, by decide +kernel, by decide +kernel⟩
theorem q_X10_seen : (Cond.code yX10_seen cX10_seen 4 (some .int) ∈ lw_g ∧ Cond.instanceMethod yX10_seen ∈ lw_g ∧ Cond.selects RX10 yX10_seen yX10_seen ∈ lw_g ∧ Cond.initialized RX10 ∈ lw_g) ∧ yX10_seen.cls = RX10 ∧ yX10_seen.cls ≠ "java/lang/invoke/MethodHandle" ∧ yX10_seen.cls ≠ "java/lang/invoke/VarHandle" ∧ (parseMethodDescriptor yX10_seen.desc).map (fun d => d.parameters.length) = some 3 := ⟨⟨k_co_X10_seen, k_in_X10_seen, k_se_X10_X10_seen, k_ii_X10⟩, rfl, by decide +kernel, by decide +kernel, by decide +kernel⟩
theorem q_X10_heavy : (Cond.code yX10_heavy cX10_heavy 3 (some .int) ∈ lw_g ∧ Cond.instanceMethod yX10_heavy ∈ lw_g ∧ Cond.selects RX10 yX10_heavy yX10_heavy ∈ lw_g ∧ Cond.initialized RX10 ∈ lw_g) ∧ yX10_heavy.cls = RX10 ∧ yX10_heavy.cls ≠ "java/lang/invoke/MethodHandle" ∧ yX10_heavy.cls ≠ "java/lang/invoke/VarHandle" ∧ (parseMethodDescriptor yX10_heavy.desc).map (fun d => d.parameters.length) = some 1 := ⟨⟨k_co_X10_heavy, k_in_X10_heavy, k_se_X10_X10_heavy, k_ii_X10⟩, rfl, by decide +kernel, by decide +kernel, by decide +kernel⟩
theorem q_X10_tell : (Cond.code yX10_tell cX10_tell 2 (some .int) ∈ lw_g ∧ Cond.instanceMethod yX10_tell ∈ lw_g ∧ Cond.selects RX10 yX10_tell yX10_tell ∈ lw_g ∧ Cond.initialized RX10 ∈ lw_g) ∧ yX10_tell.cls = RX10 ∧ yX10_tell.cls ≠ "java/lang/invoke/MethodHandle" ∧ yX10_tell.cls ≠ "java/lang/invoke/VarHandle" ∧ (parseMethodDescriptor yX10_tell.desc).map (fun d => d.parameters.length) = some 1 := ⟨⟨k_co_X10_tell, k_in_X10_tell, k_se_X10_X10_tell, k_ii_X10⟩, rfl, by decide +kernel, by decide +kernel, by decide +kernel⟩
theorem q_X10_note : (Cond.code yX10_note cX10_note 5 (some .int) ∈ lw_g ∧ Cond.instanceMethod yX10_note ∈ lw_g ∧ Cond.selects RX10 yX10_note yX10_note ∈ lw_g ∧ Cond.initialized RX10 ∈ lw_g) ∧ yX10_note.cls = RX10 ∧ yX10_note.cls ≠ "java/lang/invoke/MethodHandle" ∧ yX10_note.cls ≠ "java/lang/invoke/VarHandle" ∧ (parseMethodDescriptor yX10_note.desc).map (fun d => d.parameters.length) = some 4 := ⟨⟨k_co_X10_note, k_in_X10_note, k_se_X10_X10_note, k_ii_X10⟩, rfl, by decide +kernel, by decide +kernel, by decide +kernel⟩
theorem q_X10_mark : (Cond.code yX10_mark cX10_mark 5 (some .int) ∈ lw_g ∧ Cond.instanceMethod yX10_mark ∈ lw_g ∧ Cond.selects RX10 yX10_mark yX10_mark ∈ lw_g ∧ Cond.initialized RX10 ∈ lw_g) ∧ yX10_mark.cls = RX10 ∧ yX10_mark.cls ≠ "java/lang/invoke/MethodHandle" ∧ yX10_mark.cls ≠ "java/lang/invoke/VarHandle" ∧ (parseMethodDescriptor yX10_mark.desc).map (fun d => d.parameters.length) = some 4 := ⟨⟨k_co_X10_mark, k_in_X10_mark, k_se_X10_X10_mark, k_ii_X10⟩, rfl, by decide +kernel, by decide +kernel, by decide +kernel⟩
theorem q_X10_forget : (Cond.code yX10_forget cX10_forget 2 (some .int) ∈ lw_g ∧ Cond.instanceMethod yX10_forget ∈ lw_g ∧ Cond.selects RX10 yX10_forget yX10_forget ∈ lw_g ∧ Cond.initialized RX10 ∈ lw_g) ∧ yX10_forget.cls = RX10 ∧ yX10_forget.cls ≠ "java/lang/invoke/MethodHandle" ∧ yX10_forget.cls ≠ "java/lang/invoke/VarHandle" ∧ (parseMethodDescriptor yX10_forget.desc).map (fun d => d.parameters.length) = some 1 := ⟨⟨k_co_X10_forget, k_in_X10_forget, k_se_X10_X10_forget, k_ii_X10⟩, rfl, by decide +kernel, by decide +kernel, by decide +kernel⟩
theorem q_X10_is : (Cond.code yX10_is cX10_is 1 (some .int) ∈ lw_g ∧ Cond.instanceMethod yX10_is ∈ lw_g ∧ Cond.selects RX10 yX10_is yX10_is ∈ lw_g ∧ Cond.initialized RX10 ∈ lw_g) ∧ yX10_is.cls = RX10 ∧ yX10_is.cls ≠ "java/lang/invoke/MethodHandle" ∧ yX10_is.cls ≠ "java/lang/invoke/VarHandle" ∧ (parseMethodDescriptor yX10_is.desc).map (fun d => d.parameters.length) = some 0 := ⟨⟨k_co_X10_is, k_in_X10_is, k_se_X10_X10_is, k_ii_X10⟩, rfl, by decide +kernel, by decide +kernel, by decide +kernel⟩
theorem q_X10_look : (Cond.code yX10_look cX10_look 1 (some .int) ∈ lw_g ∧ Cond.instanceMethod yX10_look ∈ lw_g ∧ Cond.selects RX10 yX10_look yX10_look ∈ lw_g ∧ Cond.initialized RX10 ∈ lw_g) ∧ yX10_look.cls = RX10 ∧ yX10_look.cls ≠ "java/lang/invoke/MethodHandle" ∧ yX10_look.cls ≠ "java/lang/invoke/VarHandle" ∧ (parseMethodDescriptor yX10_look.desc).map (fun d => d.parameters.length) = some 0 := ⟨⟨k_co_X10_look, k_in_X10_look, k_se_X10_X10_look, k_ii_X10⟩, rfl, by decide +kernel, by decide +kernel, by decide +kernel⟩
theorem q_X10_kinds : (Cond.code yX10_kinds cX10_kinds 2 (some .int) ∈ lw_g ∧ Cond.instanceMethod yX10_kinds ∈ lw_g ∧ Cond.selects RX10 yX10_kinds yX10_kinds ∈ lw_g ∧ Cond.initialized RX10 ∈ lw_g) ∧ yX10_kinds.cls = RX10 ∧ yX10_kinds.cls ≠ "java/lang/invoke/MethodHandle" ∧ yX10_kinds.cls ≠ "java/lang/invoke/VarHandle" ∧ (parseMethodDescriptor yX10_kinds.desc).map (fun d => d.parameters.length) = some 1 := ⟨⟨k_co_X10_kinds, k_in_X10_kinds, k_se_X10_X10_kinds, k_ii_X10⟩, rfl, by decide +kernel, by decide +kernel, by decide +kernel⟩
theorem q_X10_ask : (Cond.code yX10_ask cX10_ask 2 (some .int) ∈ lw_g ∧ Cond.instanceMethod yX10_ask ∈ lw_g ∧ Cond.selects RX10 yX10_ask yX10_ask ∈ lw_g ∧ Cond.initialized RX10 ∈ lw_g) ∧ yX10_ask.cls = RX10 ∧ yX10_ask.cls ≠ "java/lang/invoke/MethodHandle" ∧ yX10_ask.cls ≠ "java/lang/invoke/VarHandle" ∧ (parseMethodDescriptor yX10_ask.desc).map (fun d => d.parameters.length) = some 1 := ⟨⟨k_co_X10_ask, k_in_X10_ask, k_se_X10_X10_ask, k_ii_X10⟩, rfl, by decide +kernel, by decide +kernel, by decide +kernel⟩
theorem q_X10_yours : (Cond.code yX10_yours cX10_yours 7 (some .int) ∈ lw_g ∧ Cond.instanceMethod yX10_yours ∈ lw_g ∧ Cond.selects RX10 yX10_yours yX10_yours ∈ lw_g ∧ Cond.initialized RX10 ∈ lw_g) ∧ yX10_yours.cls = RX10 ∧ yX10_yours.cls ≠ "java/lang/invoke/MethodHandle" ∧ yX10_yours.cls ≠ "java/lang/invoke/VarHandle" ∧ (parseMethodDescriptor yX10_yours.desc).map (fun d => d.parameters.length) = some 2 := ⟨⟨k_co_X10_yours, k_in_X10_yours, k_se_X10_X10_yours, k_ii_X10⟩, rfl, by decide +kernel, by decide +kernel, by decide +kernel⟩
theorem q_X10_gusts : (Cond.code yX10_gusts cX10_gusts 6 (some .int) ∈ lw_g ∧ Cond.instanceMethod yX10_gusts ∈ lw_g ∧ Cond.selects RX10 yX10_gusts yX10_gusts ∈ lw_g ∧ Cond.initialized RX10 ∈ lw_g) ∧ yX10_gusts.cls = RX10 ∧ yX10_gusts.cls ≠ "java/lang/invoke/MethodHandle" ∧ yX10_gusts.cls ≠ "java/lang/invoke/VarHandle" ∧ (parseMethodDescriptor yX10_gusts.desc).map (fun d => d.parameters.length) = some 2 := ⟨⟨k_co_X10_gusts, k_in_X10_gusts, k_se_X10_X10_gusts, k_ii_X10⟩, rfl, by decide +kernel, by decide +kernel, by decide +kernel⟩
theorem q_X10_centuries : (Cond.code yX10_centuries cX10_centuries 3 (some .int) ∈ lw_g ∧ Cond.instanceMethod yX10_centuries ∈ lw_g ∧ Cond.selects RX10 yX10_centuries yX10_centuries ∈ lw_g ∧ Cond.initialized RX10 ∈ lw_g) ∧ yX10_centuries.cls = RX10 ∧ yX10_centuries.cls ≠ "java/lang/invoke/MethodHandle" ∧ yX10_centuries.cls ≠ "java/lang/invoke/VarHandle" ∧ (parseMethodDescriptor yX10_centuries.desc).map (fun d => d.parameters.length) = some 2 := ⟨⟨k_co_X10_centuries, k_in_X10_centuries, k_se_X10_X10_centuries, k_ii_X10⟩, rfl, by decide +kernel, by decide +kernel, by decide +kernel⟩
theorem q_X10_part : (Cond.code yX10_part cX10_part 2 (some .long) ∈ lw_g ∧ Cond.instanceMethod yX10_part ∈ lw_g ∧ Cond.selects RX10 yX10_part yX10_part ∈ lw_g ∧ Cond.initialized RX10 ∈ lw_g) ∧ yX10_part.cls = RX10 ∧ yX10_part.cls ≠ "java/lang/invoke/MethodHandle" ∧ yX10_part.cls ≠ "java/lang/invoke/VarHandle" ∧ (parseMethodDescriptor yX10_part.desc).map (fun d => d.parameters.length) = some 1 := ⟨⟨k_co_X10_part, k_in_X10_part, k_se_X10_X10_part, k_ii_X10⟩, rfl, by decide +kernel, by decide +kernel, by decide +kernel⟩
theorem q_X10_image : (Cond.code yX10_image cX10_image 2 (some .int) ∈ lw_g ∧ Cond.instanceMethod yX10_image ∈ lw_g ∧ Cond.selects RX10 yX10_image yX10_image ∈ lw_g ∧ Cond.initialized RX10 ∈ lw_g) ∧ yX10_image.cls = RX10 ∧ yX10_image.cls ≠ "java/lang/invoke/MethodHandle" ∧ yX10_image.cls ≠ "java/lang/invoke/VarHandle" ∧ (parseMethodDescriptor yX10_image.desc).map (fun d => d.parameters.length) = some 1 := ⟨⟨k_co_X10_image, k_in_X10_image, k_se_X10_X10_image, k_ii_X10⟩, rfl, by decide +kernel, by decide +kernel, by decide +kernel⟩
theorem q_X10_from : (Cond.code yX10_from cX10_from 2 (some .int) ∈ lw_g ∧ Cond.instanceMethod yX10_from ∈ lw_g ∧ Cond.selects RX10 yX10_from yX10_from ∈ lw_g ∧ Cond.initialized RX10 ∈ lw_g) ∧ yX10_from.cls = RX10 ∧ yX10_from.cls ≠ "java/lang/invoke/MethodHandle" ∧ yX10_from.cls ≠ "java/lang/invoke/VarHandle" ∧ (parseMethodDescriptor yX10_from.desc).map (fun d => d.parameters.length) = some 1 := ⟨⟨k_co_X10_from, k_in_X10_from, k_se_X10_X10_from, k_ii_X10⟩, rfl, by decide +kernel, by decide +kernel, by decide +kernel⟩
theorem q_X10_status : (Cond.code yX10_status cX10_status 2 (some .int) ∈ lw_g ∧ Cond.instanceMethod yX10_status ∈ lw_g ∧ Cond.selects RX10 yX10_status yX10_status ∈ lw_g ∧ Cond.initialized RX10 ∈ lw_g) ∧ yX10_status.cls = RX10 ∧ yX10_status.cls ≠ "java/lang/invoke/MethodHandle" ∧ yX10_status.cls ≠ "java/lang/invoke/VarHandle" ∧ (parseMethodDescriptor yX10_status.desc).map (fun d => d.parameters.length) = some 1 := ⟨⟨k_co_X10_status, k_in_X10_status, k_se_X10_X10_status, k_ii_X10⟩, rfl, by decide +kernel, by decide +kernel, by decide +kernel⟩
theorem q_X10_count : (Cond.code yX10_count cX10_count 2 (some .int) ∈ lw_g ∧ Cond.instanceMethod yX10_count ∈ lw_g ∧ Cond.selects RX10 yX10_count yX10_count ∈ lw_g ∧ Cond.initialized RX10 ∈ lw_g) ∧ yX10_count.cls = RX10 ∧ yX10_count.cls ≠ "java/lang/invoke/MethodHandle" ∧ yX10_count.cls ≠ "java/lang/invoke/VarHandle" ∧ (parseMethodDescriptor yX10_count.desc).map (fun d => d.parameters.length) = some 1 := ⟨⟨k_co_X10_count, k_in_X10_count, k_se_X10_X10_count, k_ii_X10⟩, rfl, by decide +kernel, by decide +kernel, by decide +kernel⟩
theorem q_X10_digest : (Cond.code yX10_digest cX10_digest 4 (some .long) ∈ lw_g ∧ Cond.instanceMethod yX10_digest ∈ lw_g ∧ Cond.selects RX10 yX10_digest yX10_digest ∈ lw_g ∧ Cond.initialized RX10 ∈ lw_g) ∧ yX10_digest.cls = RX10 ∧ yX10_digest.cls ≠ "java/lang/invoke/MethodHandle" ∧ yX10_digest.cls ≠ "java/lang/invoke/VarHandle" ∧ (parseMethodDescriptor yX10_digest.desc).map (fun d => d.parameters.length) = some 0 := ⟨⟨k_co_X10_digest, k_in_X10_digest, k_se_X10_X10_digest, k_ii_X10⟩, rfl, by decide +kernel, by decide +kernel, by decide +kernel⟩
theorem q_X10_refuseBad : (Cond.code yX10_refuseBad cX10_refuseBad 2 (some .int) ∈ lw_g ∧ Cond.instanceMethod yX10_refuseBad ∈ lw_g ∧ Cond.selects RX10 yX10_refuseBad yX10_refuseBad ∈ lw_g ∧ Cond.initialized RX10 ∈ lw_g) ∧ yX10_refuseBad.cls = RX10 ∧ yX10_refuseBad.cls ≠ "java/lang/invoke/MethodHandle" ∧ yX10_refuseBad.cls ≠ "java/lang/invoke/VarHandle" ∧ (parseMethodDescriptor yX10_refuseBad.desc).map (fun d => d.parameters.length) = some 1 := ⟨⟨k_co_X10_refuseBad, k_in_X10_refuseBad, k_se_X10_X10_refuseBad, k_ii_X10⟩, rfl, by decide +kernel, by decide +kernel, by decide +kernel⟩
theorem q_X10_refuseNo : (Cond.code yX10_refuseNo cX10_refuseNo 1 (some .int) ∈ lw_g ∧ Cond.instanceMethod yX10_refuseNo ∈ lw_g ∧ Cond.selects RX10 yX10_refuseNo yX10_refuseNo ∈ lw_g ∧ Cond.initialized RX10 ∈ lw_g) ∧ yX10_refuseNo.cls = RX10 ∧ yX10_refuseNo.cls ≠ "java/lang/invoke/MethodHandle" ∧ yX10_refuseNo.cls ≠ "java/lang/invoke/VarHandle" ∧ (parseMethodDescriptor yX10_refuseNo.desc).map (fun d => d.parameters.length) = some 0 := ⟨⟨k_co_X10_refuseNo, k_in_X10_refuseNo, k_se_X10_X10_refuseNo, k_ii_X10⟩, rfl, by decide +kernel, by decide +kernel, by decide +kernel⟩
theorem q_X10_refuseFull : (Cond.code yX10_refuseFull cX10_refuseFull 1 (some .int) ∈ lw_g ∧ Cond.instanceMethod yX10_refuseFull ∈ lw_g ∧ Cond.selects RX10 yX10_refuseFull yX10_refuseFull ∈ lw_g ∧ Cond.initialized RX10 ∈ lw_g) ∧ yX10_refuseFull.cls = RX10 ∧ yX10_refuseFull.cls ≠ "java/lang/invoke/MethodHandle" ∧ yX10_refuseFull.cls ≠ "java/lang/invoke/VarHandle" ∧ (parseMethodDescriptor yX10_refuseFull.desc).map (fun d => d.parameters.length) = some 0 := ⟨⟨k_co_X10_refuseFull, k_in_X10_refuseFull, k_se_X10_X10_refuseFull, k_ii_X10⟩, rfl, by decide +kernel, by decide +kernel, by decide +kernel⟩
theorem q_X10_fault : (Cond.code yX10_fault cX10_fault 1 (some .int) ∈ lw_g ∧ Cond.instanceMethod yX10_fault ∈ lw_g ∧ Cond.selects RX10 yX10_fault yX10_fault ∈ lw_g ∧ Cond.initialized RX10 ∈ lw_g) ∧ yX10_fault.cls = RX10 ∧ yX10_fault.cls ≠ "java/lang/invoke/MethodHandle" ∧ yX10_fault.cls ≠ "java/lang/invoke/VarHandle" ∧ (parseMethodDescriptor yX10_fault.desc).map (fun d => d.parameters.length) = some 0 := ⟨⟨k_co_X10_fault, k_in_X10_fault, k_se_X10_X10_fault, k_ii_X10⟩, rfl, by decide +kernel, by decide +kernel, by decide +kernel⟩
theorem q_X10_howMany : (Cond.code yX10_howMany cX10_howMany 2 (some .int) ∈ lw_g ∧ Cond.instanceMethod yX10_howMany ∈ lw_g ∧ Cond.selects RX10 yX10_howMany yX10_howMany ∈ lw_g ∧ Cond.initialized RX10 ∈ lw_g) ∧ yX10_howMany.cls = RX10 ∧ yX10_howMany.cls ≠ "java/lang/invoke/MethodHandle" ∧ yX10_howMany.cls ≠ "java/lang/invoke/VarHandle" ∧ (parseMethodDescriptor yX10_howMany.desc).map (fun d => d.parameters.length) = some 1 := ⟨⟨k_co_X10_howMany, k_in_X10_howMany, k_se_X10_X10_howMany, k_ii_X10⟩, rfl, by decide +kernel, by decide +kernel, by decide +kernel⟩
theorem q_X10_keepTenths : (Cond.code yX10_keepTenths cX10_keepTenths 3 none ∈ lw_g ∧ Cond.instanceMethod yX10_keepTenths ∈ lw_g ∧ Cond.selects RX10 yX10_keepTenths yX10_keepTenths ∈ lw_g ∧ Cond.initialized RX10 ∈ lw_g) ∧ yX10_keepTenths.cls = RX10 ∧ yX10_keepTenths.cls ≠ "java/lang/invoke/MethodHandle" ∧ yX10_keepTenths.cls ≠ "java/lang/invoke/VarHandle" ∧ (parseMethodDescriptor yX10_keepTenths.desc).map (fun d => d.parameters.length) = some 1 := ⟨⟨k_co_X10_keepTenths, k_in_X10_keepTenths, k_se_X10_X10_keepTenths, k_ii_X10⟩, rfl, by decide +kernel, by decide +kernel, by decide +kernel⟩
theorem q_X10_strokesOver : (Cond.code yX10_strokesOver cX10_strokesOver 10 (some .int) ∈ lw_g ∧ Cond.instanceMethod yX10_strokesOver ∈ lw_g ∧ Cond.selects RX10 yX10_strokesOver yX10_strokesOver ∈ lw_g ∧ Cond.initialized RX10 ∈ lw_g) ∧ yX10_strokesOver.cls = RX10 ∧ yX10_strokesOver.cls ≠ "java/lang/invoke/MethodHandle" ∧ yX10_strokesOver.cls ≠ "java/lang/invoke/VarHandle" ∧ (parseMethodDescriptor yX10_strokesOver.desc).map (fun d => d.parameters.length) = some 2 := ⟨⟨k_co_X10_strokesOver, k_in_X10_strokesOver, k_se_X10_X10_strokesOver, k_ii_X10⟩, rfl, by decide +kernel, by decide +kernel, by decide +kernel⟩
theorem q_X10_isWithin : (Cond.code yX10_isWithin cX10_isWithin 3 (some .boolean) ∈ lw_g ∧ Cond.static yX10_isWithin ∈ lw_g ∧ Cond.initialized RX10 ∈ lw_g) ∧ yX10_isWithin.cls = RX10 ∧ yX10_isWithin.cls ≠ "java/lang/invoke/MethodHandle" ∧ yX10_isWithin.cls ≠ "java/lang/invoke/VarHandle" ∧ (parseMethodDescriptor yX10_isWithin.desc).map (fun d => d.parameters.length) = some 3 := ⟨⟨k_co_X10_isWithin, k_st_X10_isWithin, k_ii_X10⟩, rfl, by decide +kernel, by decide +kernel, by decide +kernel⟩
theorem q_X10_isKind : (Cond.code yX10_isKind cX10_isKind 1 (some .boolean) ∈ lw_g ∧ Cond.static yX10_isKind ∈ lw_g ∧ Cond.initialized RX10 ∈ lw_g) ∧ yX10_isKind.cls = RX10 ∧ yX10_isKind.cls ≠ "java/lang/invoke/MethodHandle" ∧ yX10_isKind.cls ≠ "java/lang/invoke/VarHandle" ∧ (parseMethodDescriptor yX10_isKind.desc).map (fun d => d.parameters.length) = some 1 := ⟨⟨k_co_X10_isKind, k_st_X10_isKind, k_ii_X10⟩, rfl, by decide +kernel, by decide +kernel, by decide +kernel⟩
theorem q_X10_isHill : (Cond.code yX10_isHill cX10_isHill 1 (some .boolean) ∈ lw_g ∧ Cond.static yX10_isHill ∈ lw_g ∧ Cond.initialized RX10 ∈ lw_g) ∧ yX10_isHill.cls = RX10 ∧ yX10_isHill.cls ≠ "java/lang/invoke/MethodHandle" ∧ yX10_isHill.cls ≠ "java/lang/invoke/VarHandle" ∧ (parseMethodDescriptor yX10_isHill.desc).map (fun d => d.parameters.length) = some 1 := ⟨⟨k_co_X10_isHill, k_st_X10_isHill, k_ii_X10⟩, rfl, by decide +kernel, by decide +kernel, by decide +kernel⟩
theorem q_X10_lowestBit : (Cond.code yX10_lowestBit cX10_lowestBit 2 (some .int) ∈ lw_g ∧ Cond.static yX10_lowestBit ∈ lw_g ∧ Cond.initialized RX10 ∈ lw_g) ∧ yX10_lowestBit.cls = RX10 ∧ yX10_lowestBit.cls ≠ "java/lang/invoke/MethodHandle" ∧ yX10_lowestBit.cls ≠ "java/lang/invoke/VarHandle" ∧ (parseMethodDescriptor yX10_lowestBit.desc).map (fun d => d.parameters.length) = some 1 := ⟨⟨k_co_X10_lowestBit, k_st_X10_lowestBit, k_ii_X10⟩, rfl, by decide +kernel, by decide +kernel, by decide +kernel⟩
theorem q_X10_highestBit : (Cond.code yX10_highestBit cX10_highestBit 2 (some .int) ∈ lw_g ∧ Cond.static yX10_highestBit ∈ lw_g ∧ Cond.initialized RX10 ∈ lw_g) ∧ yX10_highestBit.cls = RX10 ∧ yX10_highestBit.cls ≠ "java/lang/invoke/MethodHandle" ∧ yX10_highestBit.cls ≠ "java/lang/invoke/VarHandle" ∧ (parseMethodDescriptor yX10_highestBit.desc).map (fun d => d.parameters.length) = some 1 := ⟨⟨k_co_X10_highestBit, k_st_X10_highestBit, k_ii_X10⟩, rfl, by decide +kernel, by decide +kernel, by decide +kernel⟩
theorem q_X11_in : (Cond.code yX11_in cX11_in 6 (some .boolean) ∈ lw_g ∧ Cond.static yX11_in ∈ lw_g ∧ Cond.initialized RX11 ∈ lw_g) ∧ yX11_in.cls = RX11 ∧ yX11_in.cls ≠ "java/lang/invoke/MethodHandle" ∧ yX11_in.cls ≠ "java/lang/invoke/VarHandle" ∧ (parseMethodDescriptor yX11_in.desc).map (fun d => d.parameters.length) = some 3 := ⟨⟨k_co_X11_in, k_st_X11_in, k_ii_X11⟩, rfl, by decide +kernel, by decide +kernel, by decide +kernel⟩
theorem q_X11_bad : (Cond.code yX11_bad cX11_bad 2 (some .int) ∈ lw_g ∧ Cond.instanceMethod yX11_bad ∈ lw_g ∧ Cond.selects RX11 yX11_bad yX11_bad ∈ lw_g ∧ Cond.initialized RX11 ∈ lw_g) ∧ yX11_bad.cls = RX11 ∧ yX11_bad.cls ≠ "java/lang/invoke/MethodHandle" ∧ yX11_bad.cls ≠ "java/lang/invoke/VarHandle" ∧ (parseMethodDescriptor yX11_bad.desc).map (fun d => d.parameters.length) = some 1 := ⟨⟨k_co_X11_bad, k_in_X11_bad, k_se_X11_X11_bad, k_ii_X11⟩, rfl, by decide +kernel, by decide +kernel, by decide +kernel⟩
theorem q_X11_no : (Cond.code yX11_no cX11_no 1 (some .int) ∈ lw_g ∧ Cond.instanceMethod yX11_no ∈ lw_g ∧ Cond.selects RX11 yX11_no yX11_no ∈ lw_g ∧ Cond.initialized RX11 ∈ lw_g) ∧ yX11_no.cls = RX11 ∧ yX11_no.cls ≠ "java/lang/invoke/MethodHandle" ∧ yX11_no.cls ≠ "java/lang/invoke/VarHandle" ∧ (parseMethodDescriptor yX11_no.desc).map (fun d => d.parameters.length) = some 0 := ⟨⟨k_co_X11_no, k_in_X11_no, k_se_X11_X11_no, k_ii_X11⟩, rfl, by decide +kernel, by decide +kernel, by decide +kernel⟩
theorem q_X11_full : (Cond.code yX11_full cX11_full 1 (some .int) ∈ lw_g ∧ Cond.instanceMethod yX11_full ∈ lw_g ∧ Cond.selects RX11 yX11_full yX11_full ∈ lw_g ∧ Cond.initialized RX11 ∈ lw_g) ∧ yX11_full.cls = RX11 ∧ yX11_full.cls ≠ "java/lang/invoke/MethodHandle" ∧ yX11_full.cls ≠ "java/lang/invoke/VarHandle" ∧ (parseMethodDescriptor yX11_full.desc).map (fun d => d.parameters.length) = some 0 := ⟨⟨k_co_X11_full, k_in_X11_full, k_se_X11_X11_full, k_ii_X11⟩, rfl, by decide +kernel, by decide +kernel, by decide +kernel⟩
theorem q_X11_has : (Cond.code yX11_has cX11_has 2 (some .boolean) ∈ lw_g ∧ Cond.static yX11_has ∈ lw_g ∧ Cond.initialized RX11 ∈ lw_g) ∧ yX11_has.cls = RX11 ∧ yX11_has.cls ≠ "java/lang/invoke/MethodHandle" ∧ yX11_has.cls ≠ "java/lang/invoke/VarHandle" ∧ (parseMethodDescriptor yX11_has.desc).map (fun d => d.parameters.length) = some 2 := ⟨⟨k_co_X11_has, k_st_X11_has, k_ii_X11⟩, rfl, by decide +kernel, by decide +kernel, by decide +kernel⟩
theorem q_X11_begin : (Cond.code yX11_begin cX11_begin 3 none ∈ lw_g ∧ Cond.static yX11_begin ∈ lw_g ∧ Cond.initialized RX11 ∈ lw_g) ∧ yX11_begin.cls = RX11 ∧ yX11_begin.cls ≠ "java/lang/invoke/MethodHandle" ∧ yX11_begin.cls ≠ "java/lang/invoke/VarHandle" ∧ (parseMethodDescriptor yX11_begin.desc).map (fun d => d.parameters.length) = some 2 := ⟨⟨k_co_X11_begin, k_st_X11_begin, k_ii_X11⟩, rfl, by decide +kernel, by decide +kernel, by decide +kernel⟩
theorem q_X11_many : (Cond.code yX11_many cX11_many 1 (some .int) ∈ lw_g ∧ Cond.instanceMethod yX11_many ∈ lw_g ∧ Cond.selects RX11 yX11_many yX11_many ∈ lw_g ∧ Cond.initialized RX11 ∈ lw_g) ∧ yX11_many.cls = RX11 ∧ yX11_many.cls ≠ "java/lang/invoke/MethodHandle" ∧ yX11_many.cls ≠ "java/lang/invoke/VarHandle" ∧ (parseMethodDescriptor yX11_many.desc).map (fun d => d.parameters.length) = some 0 := ⟨⟨k_co_X11_many, k_in_X11_many, k_se_X11_X11_many, k_ii_X11⟩, rfl, by decide +kernel, by decide +kernel, by decide +kernel⟩
theorem q_X11_isPlayer : (Cond.code yX11_isPlayer cX11_isPlayer 2 (some .boolean) ∈ lw_g ∧ Cond.instanceMethod yX11_isPlayer ∈ lw_g ∧ Cond.selects RX11 yX11_isPlayer yX11_isPlayer ∈ lw_g ∧ Cond.initialized RX11 ∈ lw_g) ∧ yX11_isPlayer.cls = RX11 ∧ yX11_isPlayer.cls ≠ "java/lang/invoke/MethodHandle" ∧ yX11_isPlayer.cls ≠ "java/lang/invoke/VarHandle" ∧ (parseMethodDescriptor yX11_isPlayer.desc).map (fun d => d.parameters.length) = some 1 := ⟨⟨k_co_X11_isPlayer, k_in_X11_isPlayer, k_se_X11_X11_isPlayer, k_ii_X11⟩, rfl, by decide +kernel, by decide +kernel, by decide +kernel⟩
theorem q_X11_isKind : (Cond.code yX11_isKind cX11_isKind 1 (some .boolean) ∈ lw_g ∧ Cond.static yX11_isKind ∈ lw_g ∧ Cond.initialized RX11 ∈ lw_g) ∧ yX11_isKind.cls = RX11 ∧ yX11_isKind.cls ≠ "java/lang/invoke/MethodHandle" ∧ yX11_isKind.cls ≠ "java/lang/invoke/VarHandle" ∧ (parseMethodDescriptor yX11_isKind.desc).map (fun d => d.parameters.length) = some 1 := ⟨⟨k_co_X11_isKind, k_st_X11_isKind, k_ii_X11⟩, rfl, by decide +kernel, by decide +kernel, by decide +kernel⟩
theorem q_X11_isNine : (Cond.code yX11_isNine cX11_isNine 1 (some .boolean) ∈ lw_g ∧ Cond.static yX11_isNine ∈ lw_g ∧ Cond.initialized RX11 ∈ lw_g) ∧ yX11_isNine.cls = RX11 ∧ yX11_isNine.cls ≠ "java/lang/invoke/MethodHandle" ∧ yX11_isNine.cls ≠ "java/lang/invoke/VarHandle" ∧ (parseMethodDescriptor yX11_isNine.desc).map (fun d => d.parameters.length) = some 1 := ⟨⟨k_co_X11_isNine, k_st_X11_isNine, k_ii_X11⟩, rfl, by decide +kernel, by decide +kernel, by decide +kernel⟩
theorem q_X11_isHill : (Cond.code yX11_isHill cX11_isHill 1 (some .boolean) ∈ lw_g ∧ Cond.static yX11_isHill ∈ lw_g ∧ Cond.initialized RX11 ∈ lw_g) ∧ yX11_isHill.cls = RX11 ∧ yX11_isHill.cls ≠ "java/lang/invoke/MethodHandle" ∧ yX11_isHill.cls ≠ "java/lang/invoke/VarHandle" ∧ (parseMethodDescriptor yX11_isHill.desc).map (fun d => d.parameters.length) = some 1 := ⟨⟨k_co_X11_isHill, k_st_X11_isHill, k_ii_X11⟩, rfl, by decide +kernel, by decide +kernel, by decide +kernel⟩
theorem q_X11_isWind : (Cond.code yX11_isWind cX11_isWind 1 (some .boolean) ∈ lw_g ∧ Cond.static yX11_isWind ∈ lw_g ∧ Cond.initialized RX11 ∈ lw_g) ∧ yX11_isWind.cls = RX11 ∧ yX11_isWind.cls ≠ "java/lang/invoke/MethodHandle" ∧ yX11_isWind.cls ≠ "java/lang/invoke/VarHandle" ∧ (parseMethodDescriptor yX11_isWind.desc).map (fun d => d.parameters.length) = some 1 := ⟨⟨k_co_X11_isWind, k_st_X11_isWind, k_ii_X11⟩, rfl, by decide +kernel, by decide +kernel, by decide +kernel⟩
theorem q_X11_valley : (Cond.code yX11_valley cX11_valley 3 (some .int) ∈ lw_g ∧ Cond.instanceMethod yX11_valley ∈ lw_g ∧ Cond.selects RX11 yX11_valley yX11_valley ∈ lw_g ∧ Cond.initialized RX11 ∈ lw_g) ∧ yX11_valley.cls = RX11 ∧ yX11_valley.cls ≠ "java/lang/invoke/MethodHandle" ∧ yX11_valley.cls ≠ "java/lang/invoke/VarHandle" ∧ (parseMethodDescriptor yX11_valley.desc).map (fun d => d.parameters.length) = some 1 := ⟨⟨k_co_X11_valley, k_in_X11_valley, k_se_X11_X11_valley, k_ii_X11⟩, rfl, by decide +kernel, by decide +kernel, by decide +kernel⟩
theorem q_X11_wind : (Cond.code yX11_wind cX11_wind 4 (some .int) ∈ lw_g ∧ Cond.instanceMethod yX11_wind ∈ lw_g ∧ Cond.selects RX11 yX11_wind yX11_wind ∈ lw_g ∧ Cond.initialized RX11 ∈ lw_g) ∧ yX11_wind.cls = RX11 ∧ yX11_wind.cls ≠ "java/lang/invoke/MethodHandle" ∧ yX11_wind.cls ≠ "java/lang/invoke/VarHandle" ∧ (parseMethodDescriptor yX11_wind.desc).map (fun d => d.parameters.length) = some 2 := ⟨⟨k_co_X11_wind, k_in_X11_wind, k_se_X11_X11_wind, k_ii_X11⟩, rfl, by decide +kernel, by decide +kernel, by decide +kernel⟩
theorem q_X11_layPlayer : (Cond.code yX11_layPlayer cX11_layPlayer 5 none ∈ lw_g ∧ Cond.static yX11_layPlayer ∈ lw_g ∧ Cond.initialized RX11 ∈ lw_g) ∧ yX11_layPlayer.cls = RX11 ∧ yX11_layPlayer.cls ≠ "java/lang/invoke/MethodHandle" ∧ yX11_layPlayer.cls ≠ "java/lang/invoke/VarHandle" ∧ (parseMethodDescriptor yX11_layPlayer.desc).map (fun d => d.parameters.length) = some 4 := ⟨⟨k_co_X11_layPlayer, k_st_X11_layPlayer, k_ii_X11⟩, rfl, by decide +kernel, by decide +kernel, by decide +kernel⟩
theorem q_X11_player : (Cond.code yX11_player cX11_player 4 (some .int) ∈ lw_g ∧ Cond.instanceMethod yX11_player ∈ lw_g ∧ Cond.selects RX11 yX11_player yX11_player ∈ lw_g ∧ Cond.initialized RX11 ∈ lw_g) ∧ yX11_player.cls = RX11 ∧ yX11_player.cls ≠ "java/lang/invoke/MethodHandle" ∧ yX11_player.cls ≠ "java/lang/invoke/VarHandle" ∧ (parseMethodDescriptor yX11_player.desc).map (fun d => d.parameters.length) = some 3 := ⟨⟨k_co_X11_player, k_in_X11_player, k_se_X11_X11_player, k_ii_X11⟩, rfl, by decide +kernel, by decide +kernel, by decide +kernel⟩
theorem q_X11_fliesAs : (Cond.code yX11_fliesAs cX11_fliesAs 6 (some .int) ∈ lw_g ∧ Cond.static yX11_fliesAs ∈ lw_g ∧ Cond.initialized RX11 ∈ lw_g) ∧ yX11_fliesAs.cls = RX11 ∧ yX11_fliesAs.cls ≠ "java/lang/invoke/MethodHandle" ∧ yX11_fliesAs.cls ≠ "java/lang/invoke/VarHandle" ∧ (parseMethodDescriptor yX11_fliesAs.desc).map (fun d => d.parameters.length) = some 4 := ⟨⟨k_co_X11_fliesAs, k_st_X11_fliesAs, k_ii_X11⟩, rfl, by decide +kernel, by decide +kernel, by decide +kernel⟩
theorem q_X11_hitsAs : (Cond.code yX11_hitsAs cX11_hitsAs 5 (some .int) ∈ lw_g ∧ Cond.static yX11_hitsAs ∈ lw_g ∧ Cond.initialized RX11 ∈ lw_g) ∧ yX11_hitsAs.cls = RX11 ∧ yX11_hitsAs.cls ≠ "java/lang/invoke/MethodHandle" ∧ yX11_hitsAs.cls ≠ "java/lang/invoke/VarHandle" ∧ (parseMethodDescriptor yX11_hitsAs.desc).map (fun d => d.parameters.length) = some 3 := ⟨⟨k_co_X11_hitsAs, k_st_X11_hitsAs, k_ii_X11⟩, rfl, by decide +kernel, by decide +kernel, by decide +kernel⟩
theorem q_X11_helps : (Cond.code yX11_helps cX11_helps 4 (some .int) ∈ lw_g ∧ Cond.static yX11_helps ∈ lw_g ∧ Cond.initialized RX11 ∈ lw_g) ∧ yX11_helps.cls = RX11 ∧ yX11_helps.cls ≠ "java/lang/invoke/MethodHandle" ∧ yX11_helps.cls ≠ "java/lang/invoke/VarHandle" ∧ (parseMethodDescriptor yX11_helps.desc).map (fun d => d.parameters.length) = some 3 := ⟨⟨k_co_X11_helps, k_st_X11_helps, k_ii_X11⟩, rfl, by decide +kernel, by decide +kernel, by decide +kernel⟩
theorem q_X11_reachFrom : (Cond.code yX11_reachFrom cX11_reachFrom 5 (some .int) ∈ lw_g ∧ Cond.static yX11_reachFrom ∈ lw_g ∧ Cond.initialized RX11 ∈ lw_g) ∧ yX11_reachFrom.cls = RX11 ∧ yX11_reachFrom.cls ≠ "java/lang/invoke/MethodHandle" ∧ yX11_reachFrom.cls ≠ "java/lang/invoke/VarHandle" ∧ (parseMethodDescriptor yX11_reachFrom.desc).map (fun d => d.parameters.length) = some 5 := ⟨⟨k_co_X11_reachFrom, k_st_X11_reachFrom, k_ii_X11⟩, rfl, by decide +kernel, by decide +kernel, by decide +kernel⟩
theorem q_X11_carries : (Cond.code yX11_carries cX11_carries 4 (some .boolean) ∈ lw_g ∧ Cond.static yX11_carries ∈ lw_g ∧ Cond.initialized RX11 ∈ lw_g) ∧ yX11_carries.cls = RX11 ∧ yX11_carries.cls ≠ "java/lang/invoke/MethodHandle" ∧ yX11_carries.cls ≠ "java/lang/invoke/VarHandle" ∧ (parseMethodDescriptor yX11_carries.desc).map (fun d => d.parameters.length) = some 4 := ⟨⟨k_co_X11_carries, k_st_X11_carries, k_ii_X11⟩, rfl, by decide +kernel, by decide +kernel, by decide +kernel⟩
theorem q_X11_save : (Cond.code yX11_save cX11_save 2 none ∈ lw_g ∧ Cond.instanceMethod yX11_save ∈ lw_g ∧ Cond.selects RX11 yX11_save yX11_save ∈ lw_g ∧ Cond.initialized RX11 ∈ lw_g) ∧ yX11_save.cls = RX11 ∧ yX11_save.cls ≠ "java/lang/invoke/MethodHandle" ∧ yX11_save.cls ≠ "java/lang/invoke/VarHandle" ∧ (parseMethodDescriptor yX11_save.desc).map (fun d => d.parameters.length) = some 0 := ⟨⟨k_co_X11_save, k_in_X11_save, k_se_X11_X11_save, k_ii_X11⟩, rfl, by decide +kernel, by decide +kernel, by decide +kernel⟩
theorem q_X11_isAt : (Cond.code yX11_isAt cX11_isAt 2 (some .boolean) ∈ lw_g ∧ Cond.static yX11_isAt ∈ lw_g ∧ Cond.initialized RX11 ∈ lw_g) ∧ yX11_isAt.cls = RX11 ∧ yX11_isAt.cls ≠ "java/lang/invoke/MethodHandle" ∧ yX11_isAt.cls ≠ "java/lang/invoke/VarHandle" ∧ (parseMethodDescriptor yX11_isAt.desc).map (fun d => d.parameters.length) = some 2 := ⟨⟨k_co_X11_isAt, k_st_X11_isAt, k_ii_X11⟩, rfl, by decide +kernel, by decide +kernel, by decide +kernel⟩
theorem q_X11_canHit : (Cond.code yX11_canHit cX11_canHit 2 (some .boolean) ∈ lw_g ∧ Cond.static yX11_canHit ∈ lw_g ∧ Cond.initialized RX11 ∈ lw_g) ∧ yX11_canHit.cls = RX11 ∧ yX11_canHit.cls ≠ "java/lang/invoke/MethodHandle" ∧ yX11_canHit.cls ≠ "java/lang/invoke/VarHandle" ∧ (parseMethodDescriptor yX11_canHit.desc).map (fun d => d.parameters.length) = some 2 := ⟨⟨k_co_X11_canHit, k_st_X11_canHit, k_ii_X11⟩, rfl, by decide +kernel, by decide +kernel, by decide +kernel⟩
theorem q_X11_more : (Cond.code yX11_more cX11_more 1 (some .int) ∈ lw_g ∧ Cond.static yX11_more ∈ lw_g ∧ Cond.initialized RX11 ∈ lw_g) ∧ yX11_more.cls = RX11 ∧ yX11_more.cls ≠ "java/lang/invoke/MethodHandle" ∧ yX11_more.cls ≠ "java/lang/invoke/VarHandle" ∧ (parseMethodDescriptor yX11_more.desc).map (fun d => d.parameters.length) = some 1 := ⟨⟨k_co_X11_more, k_st_X11_more, k_ii_X11⟩, rfl, by decide +kernel, by decide +kernel, by decide +kernel⟩
theorem q_X11_goHit : (Cond.code yX11_goHit cX11_goHit 3 (some .int) ∈ lw_g ∧ Cond.static yX11_goHit ∈ lw_g ∧ Cond.initialized RX11 ∈ lw_g) ∧ yX11_goHit.cls = RX11 ∧ yX11_goHit.cls ≠ "java/lang/invoke/MethodHandle" ∧ yX11_goHit.cls ≠ "java/lang/invoke/VarHandle" ∧ (parseMethodDescriptor yX11_goHit.desc).map (fun d => d.parameters.length) = some 2 := ⟨⟨k_co_X11_goHit, k_st_X11_goHit, k_ii_X11⟩, rfl, by decide +kernel, by decide +kernel, by decide +kernel⟩
theorem q_X11_hits : (Cond.code yX11_hits cX11_hits 2 (some .int) ∈ lw_g ∧ Cond.instanceMethod yX11_hits ∈ lw_g ∧ Cond.selects RX11 yX11_hits yX11_hits ∈ lw_g ∧ Cond.initialized RX11 ∈ lw_g) ∧ yX11_hits.cls = RX11 ∧ yX11_hits.cls ≠ "java/lang/invoke/MethodHandle" ∧ yX11_hits.cls ≠ "java/lang/invoke/VarHandle" ∧ (parseMethodDescriptor yX11_hits.desc).map (fun d => d.parameters.length) = some 1 := ⟨⟨k_co_X11_hits, k_in_X11_hits, k_se_X11_X11_hits, k_ii_X11⟩, rfl, by decide +kernel, by decide +kernel, by decide +kernel⟩
theorem q_X11_picks : (Cond.code yX11_picks cX11_picks 2 (some .int) ∈ lw_g ∧ Cond.instanceMethod yX11_picks ∈ lw_g ∧ Cond.selects RX11 yX11_picks yX11_picks ∈ lw_g ∧ Cond.initialized RX11 ∈ lw_g) ∧ yX11_picks.cls = RX11 ∧ yX11_picks.cls ≠ "java/lang/invoke/MethodHandle" ∧ yX11_picks.cls ≠ "java/lang/invoke/VarHandle" ∧ (parseMethodDescriptor yX11_picks.desc).map (fun d => d.parameters.length) = some 1 := ⟨⟨k_co_X11_picks, k_in_X11_picks, k_se_X11_X11_picks, k_ii_X11⟩, rfl, by decide +kernel, by decide +kernel, by decide +kernel⟩
theorem q_X11_cock : (Cond.code yX11_cock cX11_cock 4 (some .int) ∈ lw_g ∧ Cond.instanceMethod yX11_cock ∈ lw_g ∧ Cond.selects RX11 yX11_cock yX11_cock ∈ lw_g ∧ Cond.initialized RX11 ∈ lw_g) ∧ yX11_cock.cls = RX11 ∧ yX11_cock.cls ≠ "java/lang/invoke/MethodHandle" ∧ yX11_cock.cls ≠ "java/lang/invoke/VarHandle" ∧ (parseMethodDescriptor yX11_cock.desc).map (fun d => d.parameters.length) = some 2 := ⟨⟨k_co_X11_cock, k_in_X11_cock, k_se_X11_X11_cock, k_ii_X11⟩, rfl, by decide +kernel, by decide +kernel, by decide +kernel⟩
theorem q_X11_goHours : (Cond.code yX11_goHours cX11_goHours 2 none ∈ lw_g ∧ Cond.static yX11_goHours ∈ lw_g ∧ Cond.initialized RX11 ∈ lw_g) ∧ yX11_goHours.cls = RX11 ∧ yX11_goHours.cls ≠ "java/lang/invoke/MethodHandle" ∧ yX11_goHours.cls ≠ "java/lang/invoke/VarHandle" ∧ (parseMethodDescriptor yX11_goHours.desc).map (fun d => d.parameters.length) = some 2 := ⟨⟨k_co_X11_goHours, k_st_X11_goHours, k_ii_X11⟩, rfl, by decide +kernel, by decide +kernel, by decide +kernel⟩
theorem q_X11_hours : (Cond.code yX11_hours cX11_hours 2 (some .int) ∈ lw_g ∧ Cond.instanceMethod yX11_hours ∈ lw_g ∧ Cond.selects RX11 yX11_hours yX11_hours ∈ lw_g ∧ Cond.initialized RX11 ∈ lw_g) ∧ yX11_hours.cls = RX11 ∧ yX11_hours.cls ≠ "java/lang/invoke/MethodHandle" ∧ yX11_hours.cls ≠ "java/lang/invoke/VarHandle" ∧ (parseMethodDescriptor yX11_hours.desc).map (fun d => d.parameters.length) = some 1 := ⟨⟨k_co_X11_hours, k_in_X11_hours, k_se_X11_X11_hours, k_ii_X11⟩, rfl, by decide +kernel, by decide +kernel, by decide +kernel⟩
theorem q_X11_undo : (Cond.code yX11_undo cX11_undo 2 (some .int) ∈ lw_g ∧ Cond.instanceMethod yX11_undo ∈ lw_g ∧ Cond.selects RX11 yX11_undo yX11_undo ∈ lw_g ∧ Cond.initialized RX11 ∈ lw_g) ∧ yX11_undo.cls = RX11 ∧ yX11_undo.cls ≠ "java/lang/invoke/MethodHandle" ∧ yX11_undo.cls ≠ "java/lang/invoke/VarHandle" ∧ (parseMethodDescriptor yX11_undo.desc).map (fun d => d.parameters.length) = some 0 := ⟨⟨k_co_X11_undo, k_in_X11_undo, k_se_X11_X11_undo, k_ii_X11⟩, rfl, by decide +kernel, by decide +kernel, by decide +kernel⟩
theorem q_X11_now : (Cond.code yX11_now cX11_now 2 (some .int) ∈ lw_g ∧ Cond.instanceMethod yX11_now ∈ lw_g ∧ Cond.selects RX11 yX11_now yX11_now ∈ lw_g ∧ Cond.initialized RX11 ∈ lw_g) ∧ yX11_now.cls = RX11 ∧ yX11_now.cls ≠ "java/lang/invoke/MethodHandle" ∧ yX11_now.cls ≠ "java/lang/invoke/VarHandle" ∧ (parseMethodDescriptor yX11_now.desc).map (fun d => d.parameters.length) = some 1 := ⟨⟨k_co_X11_now, k_in_X11_now, k_se_X11_X11_now, k_ii_X11⟩, rfl, by decide +kernel, by decide +kernel, by decide +kernel⟩
theorem q_X11_of : (Cond.code yX11_of cX11_of 3 (some .int) ∈ lw_g ∧ Cond.instanceMethod yX11_of ∈ lw_g ∧ Cond.selects RX11 yX11_of yX11_of ∈ lw_g ∧ Cond.initialized RX11 ∈ lw_g) ∧ yX11_of.cls = RX11 ∧ yX11_of.cls ≠ "java/lang/invoke/MethodHandle" ∧ yX11_of.cls ≠ "java/lang/invoke/VarHandle" ∧ (parseMethodDescriptor yX11_of.desc).map (fun d => d.parameters.length) = some 2 := ⟨⟨k_co_X11_of, k_in_X11_of, k_se_X11_X11_of, k_ii_X11⟩, rfl, by decide +kernel, by decide +kernel, by decide +kernel⟩
theorem q_X11_reach : (Cond.code yX11_reach cX11_reach 3 (some .int) ∈ lw_g ∧ Cond.instanceMethod yX11_reach ∈ lw_g ∧ Cond.selects RX11 yX11_reach yX11_reach ∈ lw_g ∧ Cond.initialized RX11 ∈ lw_g) ∧ yX11_reach.cls = RX11 ∧ yX11_reach.cls ≠ "java/lang/invoke/MethodHandle" ∧ yX11_reach.cls ≠ "java/lang/invoke/VarHandle" ∧ (parseMethodDescriptor yX11_reach.desc).map (fun d => d.parameters.length) = some 2 := ⟨⟨k_co_X11_reach, k_in_X11_reach, k_se_X11_X11_reach, k_ii_X11⟩, rfl, by decide +kernel, by decide +kernel, by decide +kernel⟩
theorem q_X11_may : (Cond.code yX11_may cX11_may 3 (some .int) ∈ lw_g ∧ Cond.instanceMethod yX11_may ∈ lw_g ∧ Cond.selects RX11 yX11_may yX11_may ∈ lw_g ∧ Cond.initialized RX11 ∈ lw_g) ∧ yX11_may.cls = RX11 ∧ yX11_may.cls ≠ "java/lang/invoke/MethodHandle" ∧ yX11_may.cls ≠ "java/lang/invoke/VarHandle" ∧ (parseMethodDescriptor yX11_may.desc).map (fun d => d.parameters.length) = some 0 := ⟨⟨k_co_X11_may, k_in_X11_may, k_se_X11_X11_may, k_ii_X11⟩, rfl, by decide +kernel, by decide +kernel, by decide +kernel⟩
theorem q_X11_spot : (Cond.code yX11_spot cX11_spot 3 (some .int) ∈ lw_g ∧ Cond.static yX11_spot ∈ lw_g ∧ Cond.initialized RX11 ∈ lw_g) ∧ yX11_spot.cls = RX11 ∧ yX11_spot.cls ≠ "java/lang/invoke/MethodHandle" ∧ yX11_spot.cls ≠ "java/lang/invoke/VarHandle" ∧ (parseMethodDescriptor yX11_spot.desc).map (fun d => d.parameters.length) = some 3 := ⟨⟨k_co_X11_spot, k_st_X11_spot, k_ii_X11⟩, rfl, by decide +kernel, by decide +kernel, by decide +kernel⟩
theorem q_X11_laySoonest : (Cond.code yX11_laySoonest cX11_laySoonest 8 none ∈ lw_g ∧ Cond.instanceMethod yX11_laySoonest ∈ lw_g ∧ Cond.selects RX11 yX11_laySoonest yX11_laySoonest ∈ lw_g ∧ Cond.initialized RX11 ∈ lw_g) ∧ yX11_laySoonest.cls = RX11 ∧ yX11_laySoonest.cls ≠ "java/lang/invoke/MethodHandle" ∧ yX11_laySoonest.cls ≠ "java/lang/invoke/VarHandle" ∧ (parseMethodDescriptor yX11_laySoonest.desc).map (fun d => d.parameters.length) = some 1 := ⟨⟨k_co_X11_laySoonest, k_in_X11_laySoonest, k_se_X11_X11_laySoonest, k_ii_X11⟩, rfl, by decide +kernel, by decide +kernel, by decide +kernel⟩
theorem q_X11_strikerIn : (Cond.code yX11_strikerIn cX11_strikerIn 7 (some .int) ∈ lw_g ∧ Cond.instanceMethod yX11_strikerIn ∈ lw_g ∧ Cond.selects RX11 yX11_strikerIn yX11_strikerIn ∈ lw_g ∧ Cond.initialized RX11 ∈ lw_g) ∧ yX11_strikerIn.cls = RX11 ∧ yX11_strikerIn.cls ≠ "java/lang/invoke/MethodHandle" ∧ yX11_strikerIn.cls ≠ "java/lang/invoke/VarHandle" ∧ (parseMethodDescriptor yX11_strikerIn.desc).map (fun d => d.parameters.length) = some 2 := ⟨⟨k_co_X11_strikerIn, k_in_X11_strikerIn, k_se_X11_X11_strikerIn, k_ii_X11⟩, rfl, by decide +kernel, by decide +kernel, by decide +kernel⟩
theorem q_X11_rally : (Cond.code yX11_rally cX11_rally 4 (some .int) ∈ lw_g ∧ Cond.instanceMethod yX11_rally ∈ lw_g ∧ Cond.selects RX11 yX11_rally yX11_rally ∈ lw_g ∧ Cond.initialized RX11 ∈ lw_g) ∧ yX11_rally.cls = RX11 ∧ yX11_rally.cls ≠ "java/lang/invoke/MethodHandle" ∧ yX11_rally.cls ≠ "java/lang/invoke/VarHandle" ∧ (parseMethodDescriptor yX11_rally.desc).map (fun d => d.parameters.length) = some 2 := ⟨⟨k_co_X11_rally, k_in_X11_rally, k_se_X11_X11_rally, k_ii_X11⟩, rfl, by decide +kernel, by decide +kernel, by decide +kernel⟩
theorem q_X11_layHand : (Cond.code yX11_layHand cX11_layHand 2 none ∈ lw_g ∧ Cond.instanceMethod yX11_layHand ∈ lw_g ∧ Cond.selects RX11 yX11_layHand yX11_layHand ∈ lw_g ∧ Cond.initialized RX11 ∈ lw_g) ∧ yX11_layHand.cls = RX11 ∧ yX11_layHand.cls ≠ "java/lang/invoke/MethodHandle" ∧ yX11_layHand.cls ≠ "java/lang/invoke/VarHandle" ∧ (parseMethodDescriptor yX11_layHand.desc).map (fun d => d.parameters.length) = some 0 := ⟨⟨k_co_X11_layHand, k_in_X11_layHand, k_se_X11_X11_layHand, k_ii_X11⟩, rfl, by decide +kernel, by decide +kernel, by decide +kernel⟩
theorem q_X11_lastsBy : (Cond.code yX11_lastsBy cX11_lastsBy 6 (some .int) ∈ lw_g ∧ Cond.instanceMethod yX11_lastsBy ∈ lw_g ∧ Cond.selects RX11 yX11_lastsBy yX11_lastsBy ∈ lw_g ∧ Cond.initialized RX11 ∈ lw_g) ∧ yX11_lastsBy.cls = RX11 ∧ yX11_lastsBy.cls ≠ "java/lang/invoke/MethodHandle" ∧ yX11_lastsBy.cls ≠ "java/lang/invoke/VarHandle" ∧ (parseMethodDescriptor yX11_lastsBy.desc).map (fun d => d.parameters.length) = some 0 := ⟨⟨k_co_X11_lastsBy, k_in_X11_lastsBy, k_se_X11_X11_lastsBy, k_ii_X11⟩, rfl, by decide +kernel, by decide +kernel, by decide +kernel⟩
theorem q_X11_lasts : (Cond.code yX11_lasts cX11_lasts 1 (some .int) ∈ lw_g ∧ Cond.instanceMethod yX11_lasts ∈ lw_g ∧ Cond.selects RX11 yX11_lasts yX11_lasts ∈ lw_g ∧ Cond.initialized RX11 ∈ lw_g) ∧ yX11_lasts.cls = RX11 ∧ yX11_lasts.cls ≠ "java/lang/invoke/MethodHandle" ∧ yX11_lasts.cls ≠ "java/lang/invoke/VarHandle" ∧ (parseMethodDescriptor yX11_lasts.desc).map (fun d => d.parameters.length) = some 0 := ⟨⟨k_co_X11_lasts, k_in_X11_lasts, k_se_X11_X11_lasts, k_ii_X11⟩, rfl, by decide +kernel, by decide +kernel, by decide +kernel⟩
theorem q_X11_place : (Cond.code yX11_place cX11_place 6 (some .int) ∈ lw_g ∧ Cond.instanceMethod yX11_place ∈ lw_g ∧ Cond.selects RX11 yX11_place yX11_place ∈ lw_g ∧ Cond.initialized RX11 ∈ lw_g) ∧ yX11_place.cls = RX11 ∧ yX11_place.cls ≠ "java/lang/invoke/MethodHandle" ∧ yX11_place.cls ≠ "java/lang/invoke/VarHandle" ∧ (parseMethodDescriptor yX11_place.desc).map (fun d => d.parameters.length) = some 1 := ⟨⟨k_co_X11_place, k_in_X11_place, k_se_X11_X11_place, k_ii_X11⟩, rfl, by decide +kernel, by decide +kernel, by decide +kernel⟩
theorem q_X11_seen : (Cond.code yX11_seen cX11_seen 5 (some .int) ∈ lw_g ∧ Cond.instanceMethod yX11_seen ∈ lw_g ∧ Cond.selects RX11 yX11_seen yX11_seen ∈ lw_g ∧ Cond.initialized RX11 ∈ lw_g) ∧ yX11_seen.cls = RX11 ∧ yX11_seen.cls ≠ "java/lang/invoke/MethodHandle" ∧ yX11_seen.cls ≠ "java/lang/invoke/VarHandle" ∧ (parseMethodDescriptor yX11_seen.desc).map (fun d => d.parameters.length) = some 3 := ⟨⟨k_co_X11_seen, k_in_X11_seen, k_se_X11_X11_seen, k_ii_X11⟩, rfl, by decide +kernel, by decide +kernel, by decide +kernel⟩
theorem q_X11_isOverBy : (Cond.code yX11_isOverBy cX11_isOverBy 4 (some .boolean) ∈ lw_g ∧ Cond.instanceMethod yX11_isOverBy ∈ lw_g ∧ Cond.selects RX11 yX11_isOverBy yX11_isOverBy ∈ lw_g ∧ Cond.initialized RX11 ∈ lw_g) ∧ yX11_isOverBy.cls = RX11 ∧ yX11_isOverBy.cls ≠ "java/lang/invoke/MethodHandle" ∧ yX11_isOverBy.cls ≠ "java/lang/invoke/VarHandle" ∧ (parseMethodDescriptor yX11_isOverBy.desc).map (fun d => d.parameters.length) = some 3 := ⟨⟨k_co_X11_isOverBy, k_in_X11_isOverBy, k_se_X11_X11_isOverBy, k_ii_X11⟩, rfl, by decide +kernel, by decide +kernel, by decide +kernel⟩
theorem q_X11_isHeavy : (Cond.code yX11_isHeavy cX11_isHeavy 5 (some .boolean) ∈ lw_g ∧ Cond.instanceMethod yX11_isHeavy ∈ lw_g ∧ Cond.selects RX11 yX11_isHeavy yX11_isHeavy ∈ lw_g ∧ Cond.initialized RX11 ∈ lw_g) ∧ yX11_isHeavy.cls = RX11 ∧ yX11_isHeavy.cls ≠ "java/lang/invoke/MethodHandle" ∧ yX11_isHeavy.cls ≠ "java/lang/invoke/VarHandle" ∧ (parseMethodDescriptor yX11_isHeavy.desc).map (fun d => d.parameters.length) = some 1 := ⟨⟨k_co_X11_isHeavy, k_in_X11_isHeavy, k_se_X11_X11_isHeavy, k_ii_X11⟩, rfl, by decide +kernel, by decide +kernel, by decide +kernel⟩
theorem q_X11_heavy : (Cond.code yX11_heavy cX11_heavy 6 (some .int) ∈ lw_g ∧ Cond.instanceMethod yX11_heavy ∈ lw_g ∧ Cond.selects RX11 yX11_heavy yX11_heavy ∈ lw_g ∧ Cond.initialized RX11 ∈ lw_g) ∧ yX11_heavy.cls = RX11 ∧ yX11_heavy.cls ≠ "java/lang/invoke/MethodHandle" ∧ yX11_heavy.cls ≠ "java/lang/invoke/VarHandle" ∧ (parseMethodDescriptor yX11_heavy.desc).map (fun d => d.parameters.length) = some 1 := ⟨⟨k_co_X11_heavy, k_in_X11_heavy, k_se_X11_X11_heavy, k_ii_X11⟩, rfl, by decide +kernel, by decide +kernel, by decide +kernel⟩
theorem q_X11_tell : (Cond.code yX11_tell cX11_tell 9 (some .int) ∈ lw_g ∧ Cond.instanceMethod yX11_tell ∈ lw_g ∧ Cond.selects RX11 yX11_tell yX11_tell ∈ lw_g ∧ Cond.initialized RX11 ∈ lw_g) ∧ yX11_tell.cls = RX11 ∧ yX11_tell.cls ≠ "java/lang/invoke/MethodHandle" ∧ yX11_tell.cls ≠ "java/lang/invoke/VarHandle" ∧ (parseMethodDescriptor yX11_tell.desc).map (fun d => d.parameters.length) = some 1 := ⟨⟨k_co_X11_tell, k_in_X11_tell, k_se_X11_X11_tell, k_ii_X11⟩, rfl, by decide +kernel, by decide +kernel, by decide +kernel⟩
theorem q_X11_layFour : (Cond.code yX11_layFour cX11_layFour 6 none ∈ lw_g ∧ Cond.instanceMethod yX11_layFour ∈ lw_g ∧ Cond.selects RX11 yX11_layFour yX11_layFour ∈ lw_g ∧ Cond.initialized RX11 ∈ lw_g) ∧ yX11_layFour.cls = RX11 ∧ yX11_layFour.cls ≠ "java/lang/invoke/MethodHandle" ∧ yX11_layFour.cls ≠ "java/lang/invoke/VarHandle" ∧ (parseMethodDescriptor yX11_layFour.desc).map (fun d => d.parameters.length) = some 5 := ⟨⟨k_co_X11_layFour, k_in_X11_layFour, k_se_X11_X11_layFour, k_ii_X11⟩, rfl, by decide +kernel, by decide +kernel, by decide +kernel⟩
theorem q_X11_note : (Cond.code yX11_note cX11_note 5 (some .int) ∈ lw_g ∧ Cond.instanceMethod yX11_note ∈ lw_g ∧ Cond.selects RX11 yX11_note yX11_note ∈ lw_g ∧ Cond.initialized RX11 ∈ lw_g) ∧ yX11_note.cls = RX11 ∧ yX11_note.cls ≠ "java/lang/invoke/MethodHandle" ∧ yX11_note.cls ≠ "java/lang/invoke/VarHandle" ∧ (parseMethodDescriptor yX11_note.desc).map (fun d => d.parameters.length) = some 4 := ⟨⟨k_co_X11_note, k_in_X11_note, k_se_X11_X11_note, k_ii_X11⟩, rfl, by decide +kernel, by decide +kernel, by decide +kernel⟩
theorem q_X11_mark : (Cond.code yX11_mark cX11_mark 5 (some .int) ∈ lw_g ∧ Cond.instanceMethod yX11_mark ∈ lw_g ∧ Cond.selects RX11 yX11_mark yX11_mark ∈ lw_g ∧ Cond.initialized RX11 ∈ lw_g) ∧ yX11_mark.cls = RX11 ∧ yX11_mark.cls ≠ "java/lang/invoke/MethodHandle" ∧ yX11_mark.cls ≠ "java/lang/invoke/VarHandle" ∧ (parseMethodDescriptor yX11_mark.desc).map (fun d => d.parameters.length) = some 4 := ⟨⟨k_co_X11_mark, k_in_X11_mark, k_se_X11_X11_mark, k_ii_X11⟩, rfl, by decide +kernel, by decide +kernel, by decide +kernel⟩
theorem q_X11_forget : (Cond.code yX11_forget cX11_forget 3 (some .int) ∈ lw_g ∧ Cond.instanceMethod yX11_forget ∈ lw_g ∧ Cond.selects RX11 yX11_forget yX11_forget ∈ lw_g ∧ Cond.initialized RX11 ∈ lw_g) ∧ yX11_forget.cls = RX11 ∧ yX11_forget.cls ≠ "java/lang/invoke/MethodHandle" ∧ yX11_forget.cls ≠ "java/lang/invoke/VarHandle" ∧ (parseMethodDescriptor yX11_forget.desc).map (fun d => d.parameters.length) = some 1 := ⟨⟨k_co_X11_forget, k_in_X11_forget, k_se_X11_X11_forget, k_ii_X11⟩, rfl, by decide +kernel, by decide +kernel, by decide +kernel⟩
theorem q_X11_kindsOfCock : (Cond.code yX11_kindsOfCock cX11_kindsOfCock 6 (some .int) ∈ lw_g ∧ Cond.instanceMethod yX11_kindsOfCock ∈ lw_g ∧ Cond.selects RX11 yX11_kindsOfCock yX11_kindsOfCock ∈ lw_g ∧ Cond.initialized RX11 ∈ lw_g) ∧ yX11_kindsOfCock.cls = RX11 ∧ yX11_kindsOfCock.cls ≠ "java/lang/invoke/MethodHandle" ∧ yX11_kindsOfCock.cls ≠ "java/lang/invoke/VarHandle" ∧ (parseMethodDescriptor yX11_kindsOfCock.desc).map (fun d => d.parameters.length) = some 0 := ⟨⟨k_co_X11_kindsOfCock, k_in_X11_kindsOfCock, k_se_X11_X11_kindsOfCock, k_ii_X11⟩, rfl, by decide +kernel, by decide +kernel, by decide +kernel⟩
theorem q_X11_kindsOfPlayer : (Cond.code yX11_kindsOfPlayer cX11_kindsOfPlayer 7 (some .int) ∈ lw_g ∧ Cond.instanceMethod yX11_kindsOfPlayer ∈ lw_g ∧ Cond.selects RX11 yX11_kindsOfPlayer yX11_kindsOfPlayer ∈ lw_g ∧ Cond.initialized RX11 ∈ lw_g) ∧ yX11_kindsOfPlayer.cls = RX11 ∧ yX11_kindsOfPlayer.cls ≠ "java/lang/invoke/MethodHandle" ∧ yX11_kindsOfPlayer.cls ≠ "java/lang/invoke/VarHandle" ∧ (parseMethodDescriptor yX11_kindsOfPlayer.desc).map (fun d => d.parameters.length) = some 1 := ⟨⟨k_co_X11_kindsOfPlayer, k_in_X11_kindsOfPlayer, k_se_X11_X11_kindsOfPlayer, k_ii_X11⟩, rfl, by decide +kernel, by decide +kernel, by decide +kernel⟩
theorem q_X11_mostAlike : (Cond.code yX11_mostAlike cX11_mostAlike 6 (some .int) ∈ lw_g ∧ Cond.instanceMethod yX11_mostAlike ∈ lw_g ∧ Cond.selects RX11 yX11_mostAlike yX11_mostAlike ∈ lw_g ∧ Cond.initialized RX11 ∈ lw_g) ∧ yX11_mostAlike.cls = RX11 ∧ yX11_mostAlike.cls ≠ "java/lang/invoke/MethodHandle" ∧ yX11_mostAlike.cls ≠ "java/lang/invoke/VarHandle" ∧ (parseMethodDescriptor yX11_mostAlike.desc).map (fun d => d.parameters.length) = some 1 := ⟨⟨k_co_X11_mostAlike, k_in_X11_mostAlike, k_se_X11_X11_mostAlike, k_ii_X11⟩, rfl, by decide +kernel, by decide +kernel, by decide +kernel⟩
theorem q_X11_is : (Cond.code yX11_is cX11_is 1 (some .int) ∈ lw_g ∧ Cond.instanceMethod yX11_is ∈ lw_g ∧ Cond.selects RX11 yX11_is yX11_is ∈ lw_g ∧ Cond.initialized RX11 ∈ lw_g) ∧ yX11_is.cls = RX11 ∧ yX11_is.cls ≠ "java/lang/invoke/MethodHandle" ∧ yX11_is.cls ≠ "java/lang/invoke/VarHandle" ∧ (parseMethodDescriptor yX11_is.desc).map (fun d => d.parameters.length) = some 0 := ⟨⟨k_co_X11_is, k_in_X11_is, k_se_X11_X11_is, k_ii_X11⟩, rfl, by decide +kernel, by decide +kernel, by decide +kernel⟩
theorem q_X11_look : (Cond.code yX11_look cX11_look 7 (some .int) ∈ lw_g ∧ Cond.instanceMethod yX11_look ∈ lw_g ∧ Cond.selects RX11 yX11_look yX11_look ∈ lw_g ∧ Cond.initialized RX11 ∈ lw_g) ∧ yX11_look.cls = RX11 ∧ yX11_look.cls ≠ "java/lang/invoke/MethodHandle" ∧ yX11_look.cls ≠ "java/lang/invoke/VarHandle" ∧ (parseMethodDescriptor yX11_look.desc).map (fun d => d.parameters.length) = some 0 := ⟨⟨k_co_X11_look, k_in_X11_look, k_se_X11_X11_look, k_ii_X11⟩, rfl, by decide +kernel, by decide +kernel, by decide +kernel⟩
theorem q_X11_kinds : (Cond.code yX11_kinds cX11_kinds 2 (some .int) ∈ lw_g ∧ Cond.instanceMethod yX11_kinds ∈ lw_g ∧ Cond.selects RX11 yX11_kinds yX11_kinds ∈ lw_g ∧ Cond.initialized RX11 ∈ lw_g) ∧ yX11_kinds.cls = RX11 ∧ yX11_kinds.cls ≠ "java/lang/invoke/MethodHandle" ∧ yX11_kinds.cls ≠ "java/lang/invoke/VarHandle" ∧ (parseMethodDescriptor yX11_kinds.desc).map (fun d => d.parameters.length) = some 1 := ⟨⟨k_co_X11_kinds, k_in_X11_kinds, k_se_X11_X11_kinds, k_ii_X11⟩, rfl, by decide +kernel, by decide +kernel, by decide +kernel⟩
theorem q_X11_ask : (Cond.code yX11_ask cX11_ask 7 (some .int) ∈ lw_g ∧ Cond.instanceMethod yX11_ask ∈ lw_g ∧ Cond.selects RX11 yX11_ask yX11_ask ∈ lw_g ∧ Cond.initialized RX11 ∈ lw_g) ∧ yX11_ask.cls = RX11 ∧ yX11_ask.cls ≠ "java/lang/invoke/MethodHandle" ∧ yX11_ask.cls ≠ "java/lang/invoke/VarHandle" ∧ (parseMethodDescriptor yX11_ask.desc).map (fun d => d.parameters.length) = some 1 := ⟨⟨k_co_X11_ask, k_in_X11_ask, k_se_X11_X11_ask, k_ii_X11⟩, rfl, by decide +kernel, by decide +kernel, by decide +kernel⟩
theorem q_X11_getsBy : (Cond.code yX11_getsBy cX11_getsBy 5 (some .int) ∈ lw_g ∧ Cond.static yX11_getsBy ∈ lw_g ∧ Cond.initialized RX11 ∈ lw_g) ∧ yX11_getsBy.cls = RX11 ∧ yX11_getsBy.cls ≠ "java/lang/invoke/MethodHandle" ∧ yX11_getsBy.cls ≠ "java/lang/invoke/VarHandle" ∧ (parseMethodDescriptor yX11_getsBy.desc).map (fun d => d.parameters.length) = some 4 := ⟨⟨k_co_X11_getsBy, k_st_X11_getsBy, k_ii_X11⟩, rfl, by decide +kernel, by decide +kernel, by decide +kernel⟩
theorem q_X11_yours : (Cond.code yX11_yours cX11_yours 10 (some .int) ∈ lw_g ∧ Cond.instanceMethod yX11_yours ∈ lw_g ∧ Cond.selects RX11 yX11_yours yX11_yours ∈ lw_g ∧ Cond.initialized RX11 ∈ lw_g) ∧ yX11_yours.cls = RX11 ∧ yX11_yours.cls ≠ "java/lang/invoke/MethodHandle" ∧ yX11_yours.cls ≠ "java/lang/invoke/VarHandle" ∧ (parseMethodDescriptor yX11_yours.desc).map (fun d => d.parameters.length) = some 2 := ⟨⟨k_co_X11_yours, k_in_X11_yours, k_se_X11_X11_yours, k_ii_X11⟩, rfl, by decide +kernel, by decide +kernel, by decide +kernel⟩
theorem q_X11_fraction : (Cond.code yX11_fraction cX11_fraction 11 none ∈ lw_g ∧ Cond.instanceMethod yX11_fraction ∈ lw_g ∧ Cond.selects RX11 yX11_fraction yX11_fraction ∈ lw_g ∧ Cond.initialized RX11 ∈ lw_g) ∧ yX11_fraction.cls = RX11 ∧ yX11_fraction.cls ≠ "java/lang/invoke/MethodHandle" ∧ yX11_fraction.cls ≠ "java/lang/invoke/VarHandle" ∧ (parseMethodDescriptor yX11_fraction.desc).map (fun d => d.parameters.length) = some 2 := ⟨⟨k_co_X11_fraction, k_in_X11_fraction, k_se_X11_X11_fraction, k_ii_X11⟩, rfl, by decide +kernel, by decide +kernel, by decide +kernel⟩
theorem q_X11_gusts : (Cond.code yX11_gusts cX11_gusts 6 (some .int) ∈ lw_g ∧ Cond.instanceMethod yX11_gusts ∈ lw_g ∧ Cond.selects RX11 yX11_gusts yX11_gusts ∈ lw_g ∧ Cond.initialized RX11 ∈ lw_g) ∧ yX11_gusts.cls = RX11 ∧ yX11_gusts.cls ≠ "java/lang/invoke/MethodHandle" ∧ yX11_gusts.cls ≠ "java/lang/invoke/VarHandle" ∧ (parseMethodDescriptor yX11_gusts.desc).map (fun d => d.parameters.length) = some 2 := ⟨⟨k_co_X11_gusts, k_in_X11_gusts, k_se_X11_X11_gusts, k_ii_X11⟩, rfl, by decide +kernel, by decide +kernel, by decide +kernel⟩
theorem q_X11_centuries : (Cond.code yX11_centuries cX11_centuries 8 (some .int) ∈ lw_g ∧ Cond.instanceMethod yX11_centuries ∈ lw_g ∧ Cond.selects RX11 yX11_centuries yX11_centuries ∈ lw_g ∧ Cond.initialized RX11 ∈ lw_g) ∧ yX11_centuries.cls = RX11 ∧ yX11_centuries.cls ≠ "java/lang/invoke/MethodHandle" ∧ yX11_centuries.cls ≠ "java/lang/invoke/VarHandle" ∧ (parseMethodDescriptor yX11_centuries.desc).map (fun d => d.parameters.length) = some 2 := ⟨⟨k_co_X11_centuries, k_in_X11_centuries, k_se_X11_X11_centuries, k_ii_X11⟩, rfl, by decide +kernel, by decide +kernel, by decide +kernel⟩
theorem q_X11_type : (Cond.code yX11_type cX11_type 2 (some .int) ∈ lw_g ∧ Cond.instanceMethod yX11_type ∈ lw_g ∧ Cond.selects RX11 yX11_type yX11_type ∈ lw_g ∧ Cond.initialized RX11 ∈ lw_g) ∧ yX11_type.cls = RX11 ∧ yX11_type.cls ≠ "java/lang/invoke/MethodHandle" ∧ yX11_type.cls ≠ "java/lang/invoke/VarHandle" ∧ (parseMethodDescriptor yX11_type.desc).map (fun d => d.parameters.length) = some 1 := ⟨⟨k_co_X11_type, k_in_X11_type, k_se_X11_X11_type, k_ii_X11⟩, rfl, by decide +kernel, by decide +kernel, by decide +kernel⟩
theorem q_X11_clear : (Cond.code yX11_clear cX11_clear 2 (some .int) ∈ lw_g ∧ Cond.instanceMethod yX11_clear ∈ lw_g ∧ Cond.selects RX11 yX11_clear yX11_clear ∈ lw_g ∧ Cond.initialized RX11 ∈ lw_g) ∧ yX11_clear.cls = RX11 ∧ yX11_clear.cls ≠ "java/lang/invoke/MethodHandle" ∧ yX11_clear.cls ≠ "java/lang/invoke/VarHandle" ∧ (parseMethodDescriptor yX11_clear.desc).map (fun d => d.parameters.length) = some 0 := ⟨⟨k_co_X11_clear, k_in_X11_clear, k_se_X11_X11_clear, k_ii_X11⟩, rfl, by decide +kernel, by decide +kernel, by decide +kernel⟩
theorem q_X11_isSmall : (Cond.code yX11_isSmall cX11_isSmall 1 (some .boolean) ∈ lw_g ∧ Cond.static yX11_isSmall ∈ lw_g ∧ Cond.initialized RX11 ∈ lw_g) ∧ yX11_isSmall.cls = RX11 ∧ yX11_isSmall.cls ≠ "java/lang/invoke/MethodHandle" ∧ yX11_isSmall.cls ≠ "java/lang/invoke/VarHandle" ∧ (parseMethodDescriptor yX11_isSmall.desc).map (fun d => d.parameters.length) = some 1 := ⟨⟨k_co_X11_isSmall, k_st_X11_isSmall, k_ii_X11⟩, rfl, by decide +kernel, by decide +kernel, by decide +kernel⟩
theorem q_X11_isFigure : (Cond.code yX11_isFigure cX11_isFigure 1 (some .boolean) ∈ lw_g ∧ Cond.static yX11_isFigure ∈ lw_g ∧ Cond.initialized RX11 ∈ lw_g) ∧ yX11_isFigure.cls = RX11 ∧ yX11_isFigure.cls ≠ "java/lang/invoke/MethodHandle" ∧ yX11_isFigure.cls ≠ "java/lang/invoke/VarHandle" ∧ (parseMethodDescriptor yX11_isFigure.desc).map (fun d => d.parameters.length) = some 1 := ⟨⟨k_co_X11_isFigure, k_st_X11_isFigure, k_ii_X11⟩, rfl, by decide +kernel, by decide +kernel, by decide +kernel⟩
theorem q_X11_lookAt : (Cond.code yX11_lookAt cX11_lookAt 5 none ∈ lw_g ∧ Cond.instanceMethod yX11_lookAt ∈ lw_g ∧ Cond.selects RX11 yX11_lookAt yX11_lookAt ∈ lw_g ∧ Cond.initialized RX11 ∈ lw_g) ∧ yX11_lookAt.cls = RX11 ∧ yX11_lookAt.cls ≠ "java/lang/invoke/MethodHandle" ∧ yX11_lookAt.cls ≠ "java/lang/invoke/VarHandle" ∧ (parseMethodDescriptor yX11_lookAt.desc).map (fun d => d.parameters.length) = some 1 := ⟨⟨k_co_X11_lookAt, k_in_X11_lookAt, k_se_X11_X11_lookAt, k_ii_X11⟩, rfl, by decide +kernel, by decide +kernel, by decide +kernel⟩
theorem q_X11_goBehind : (Cond.code yX11_goBehind cX11_goBehind 1 none ∈ lw_g ∧ Cond.instanceMethod yX11_goBehind ∈ lw_g ∧ Cond.selects RX11 yX11_goBehind yX11_goBehind ∈ lw_g ∧ Cond.initialized RX11 ∈ lw_g) ∧ yX11_goBehind.cls = RX11 ∧ yX11_goBehind.cls ≠ "java/lang/invoke/MethodHandle" ∧ yX11_goBehind.cls ≠ "java/lang/invoke/VarHandle" ∧ (parseMethodDescriptor yX11_goBehind.desc).map (fun d => d.parameters.length) = some 0 := ⟨⟨k_co_X11_goBehind, k_in_X11_goBehind, k_se_X11_X11_goBehind, k_ii_X11⟩, rfl, by decide +kernel, by decide +kernel, by decide +kernel⟩
theorem q_X11_spells : (Cond.code yX11_spells cX11_spells 10 (some .boolean) ∈ lw_g ∧ Cond.instanceMethod yX11_spells ∈ lw_g ∧ Cond.selects RX11 yX11_spells yX11_spells ∈ lw_g ∧ Cond.initialized RX11 ∈ lw_g) ∧ yX11_spells.cls = RX11 ∧ yX11_spells.cls ≠ "java/lang/invoke/MethodHandle" ∧ yX11_spells.cls ≠ "java/lang/invoke/VarHandle" ∧ (parseMethodDescriptor yX11_spells.desc).map (fun d => d.parameters.length) = some 7 := ⟨⟨k_co_X11_spells, k_in_X11_spells, k_se_X11_X11_spells, k_ii_X11⟩, rfl, by decide +kernel, by decide +kernel, by decide +kernel⟩
theorem q_X11_gives : (Cond.code yX11_gives cX11_gives 4 (some .boolean) ∈ lw_g ∧ Cond.instanceMethod yX11_gives ∈ lw_g ∧ Cond.selects RX11 yX11_gives yX11_gives ∈ lw_g ∧ Cond.initialized RX11 ∈ lw_g) ∧ yX11_gives.cls = RX11 ∧ yX11_gives.cls ≠ "java/lang/invoke/MethodHandle" ∧ yX11_gives.cls ≠ "java/lang/invoke/VarHandle" ∧ (parseMethodDescriptor yX11_gives.desc).map (fun d => d.parameters.length) = some 3 := ⟨⟨k_co_X11_gives, k_in_X11_gives, k_se_X11_X11_gives, k_ii_X11⟩, rfl, by decide +kernel, by decide +kernel, by decide +kernel⟩
theorem q_X11_givesWind : (Cond.code yX11_givesWind cX11_givesWind 2 (some .boolean) ∈ lw_g ∧ Cond.instanceMethod yX11_givesWind ∈ lw_g ∧ Cond.selects RX11 yX11_givesWind yX11_givesWind ∈ lw_g ∧ Cond.initialized RX11 ∈ lw_g) ∧ yX11_givesWind.cls = RX11 ∧ yX11_givesWind.cls ≠ "java/lang/invoke/MethodHandle" ∧ yX11_givesWind.cls ≠ "java/lang/invoke/VarHandle" ∧ (parseMethodDescriptor yX11_givesWind.desc).map (fun d => d.parameters.length) = some 0 := ⟨⟨k_co_X11_givesWind, k_in_X11_givesWind, k_se_X11_X11_givesWind, k_ii_X11⟩, rfl, by decide +kernel, by decide +kernel, by decide +kernel⟩
theorem q_X11_givesCock : (Cond.code yX11_givesCock cX11_givesCock 1 (some .boolean) ∈ lw_g ∧ Cond.instanceMethod yX11_givesCock ∈ lw_g ∧ Cond.selects RX11 yX11_givesCock yX11_givesCock ∈ lw_g ∧ Cond.initialized RX11 ∈ lw_g) ∧ yX11_givesCock.cls = RX11 ∧ yX11_givesCock.cls ≠ "java/lang/invoke/MethodHandle" ∧ yX11_givesCock.cls ≠ "java/lang/invoke/VarHandle" ∧ (parseMethodDescriptor yX11_givesCock.desc).map (fun d => d.parameters.length) = some 0 := ⟨⟨k_co_X11_givesCock, k_in_X11_givesCock, k_se_X11_X11_givesCock, k_ii_X11⟩, rfl, by decide +kernel, by decide +kernel, by decide +kernel⟩
theorem q_X11_givesPlayer : (Cond.code yX11_givesPlayer cX11_givesPlayer 1 (some .boolean) ∈ lw_g ∧ Cond.instanceMethod yX11_givesPlayer ∈ lw_g ∧ Cond.selects RX11 yX11_givesPlayer yX11_givesPlayer ∈ lw_g ∧ Cond.initialized RX11 ∈ lw_g) ∧ yX11_givesPlayer.cls = RX11 ∧ yX11_givesPlayer.cls ≠ "java/lang/invoke/MethodHandle" ∧ yX11_givesPlayer.cls ≠ "java/lang/invoke/VarHandle" ∧ (parseMethodDescriptor yX11_givesPlayer.desc).map (fun d => d.parameters.length) = some 0 := ⟨⟨k_co_X11_givesPlayer, k_in_X11_givesPlayer, k_se_X11_X11_givesPlayer, k_ii_X11⟩, rfl, by decide +kernel, by decide +kernel, by decide +kernel⟩
theorem q_X11_givesHit : (Cond.code yX11_givesHit cX11_givesHit 2 (some .boolean) ∈ lw_g ∧ Cond.instanceMethod yX11_givesHit ∈ lw_g ∧ Cond.selects RX11 yX11_givesHit yX11_givesHit ∈ lw_g ∧ Cond.initialized RX11 ∈ lw_g) ∧ yX11_givesHit.cls = RX11 ∧ yX11_givesHit.cls ≠ "java/lang/invoke/MethodHandle" ∧ yX11_givesHit.cls ≠ "java/lang/invoke/VarHandle" ∧ (parseMethodDescriptor yX11_givesHit.desc).map (fun d => d.parameters.length) = some 0 := ⟨⟨k_co_X11_givesHit, k_in_X11_givesHit, k_se_X11_X11_givesHit, k_ii_X11⟩, rfl, by decide +kernel, by decide +kernel, by decide +kernel⟩
theorem q_X11_givesPick : (Cond.code yX11_givesPick cX11_givesPick 1 (some .boolean) ∈ lw_g ∧ Cond.instanceMethod yX11_givesPick ∈ lw_g ∧ Cond.selects RX11 yX11_givesPick yX11_givesPick ∈ lw_g ∧ Cond.initialized RX11 ∈ lw_g) ∧ yX11_givesPick.cls = RX11 ∧ yX11_givesPick.cls ≠ "java/lang/invoke/MethodHandle" ∧ yX11_givesPick.cls ≠ "java/lang/invoke/VarHandle" ∧ (parseMethodDescriptor yX11_givesPick.desc).map (fun d => d.parameters.length) = some 0 := ⟨⟨k_co_X11_givesPick, k_in_X11_givesPick, k_se_X11_X11_givesPick, k_ii_X11⟩, rfl, by decide +kernel, by decide +kernel, by decide +kernel⟩
theorem q_X11_givesHours : (Cond.code yX11_givesHours cX11_givesHours 1 (some .boolean) ∈ lw_g ∧ Cond.instanceMethod yX11_givesHours ∈ lw_g ∧ Cond.selects RX11 yX11_givesHours yX11_givesHours ∈ lw_g ∧ Cond.initialized RX11 ∈ lw_g) ∧ yX11_givesHours.cls = RX11 ∧ yX11_givesHours.cls ≠ "java/lang/invoke/MethodHandle" ∧ yX11_givesHours.cls ≠ "java/lang/invoke/VarHandle" ∧ (parseMethodDescriptor yX11_givesHours.desc).map (fun d => d.parameters.length) = some 0 := ⟨⟨k_co_X11_givesHours, k_in_X11_givesHours, k_se_X11_X11_givesHours, k_ii_X11⟩, rfl, by decide +kernel, by decide +kernel, by decide +kernel⟩
theorem q_X11_givesItem : (Cond.code yX11_givesItem cX11_givesItem 1 (some .boolean) ∈ lw_g ∧ Cond.instanceMethod yX11_givesItem ∈ lw_g ∧ Cond.selects RX11 yX11_givesItem yX11_givesItem ∈ lw_g ∧ Cond.initialized RX11 ∈ lw_g) ∧ yX11_givesItem.cls = RX11 ∧ yX11_givesItem.cls ≠ "java/lang/invoke/MethodHandle" ∧ yX11_givesItem.cls ≠ "java/lang/invoke/VarHandle" ∧ (parseMethodDescriptor yX11_givesItem.desc).map (fun d => d.parameters.length) = some 0 := ⟨⟨k_co_X11_givesItem, k_in_X11_givesItem, k_se_X11_X11_givesItem, k_ii_X11⟩, rfl, by decide +kernel, by decide +kernel, by decide +kernel⟩
theorem q_X11_read : (Cond.code yX11_read cX11_read 3 (some .int) ∈ lw_g ∧ Cond.instanceMethod yX11_read ∈ lw_g ∧ Cond.selects RX11 yX11_read yX11_read ∈ lw_g ∧ Cond.initialized RX11 ∈ lw_g) ∧ yX11_read.cls = RX11 ∧ yX11_read.cls ≠ "java/lang/invoke/MethodHandle" ∧ yX11_read.cls ≠ "java/lang/invoke/VarHandle" ∧ (parseMethodDescriptor yX11_read.desc).map (fun d => d.parameters.length) = some 0 := ⟨⟨k_co_X11_read, k_in_X11_read, k_se_X11_X11_read, k_ii_X11⟩, rfl, by decide +kernel, by decide +kernel, by decide +kernel⟩
theorem q_X11_part : (Cond.code yX11_part cX11_part 2 (some .long) ∈ lw_g ∧ Cond.instanceMethod yX11_part ∈ lw_g ∧ Cond.selects RX11 yX11_part yX11_part ∈ lw_g ∧ Cond.initialized RX11 ∈ lw_g) ∧ yX11_part.cls = RX11 ∧ yX11_part.cls ≠ "java/lang/invoke/MethodHandle" ∧ yX11_part.cls ≠ "java/lang/invoke/VarHandle" ∧ (parseMethodDescriptor yX11_part.desc).map (fun d => d.parameters.length) = some 1 := ⟨⟨k_co_X11_part, k_in_X11_part, k_se_X11_X11_part, k_ii_X11⟩, rfl, by decide +kernel, by decide +kernel, by decide +kernel⟩
theorem q_X11_image : (Cond.code yX11_image cX11_image 3 (some .int) ∈ lw_g ∧ Cond.instanceMethod yX11_image ∈ lw_g ∧ Cond.selects RX11 yX11_image yX11_image ∈ lw_g ∧ Cond.initialized RX11 ∈ lw_g) ∧ yX11_image.cls = RX11 ∧ yX11_image.cls ≠ "java/lang/invoke/MethodHandle" ∧ yX11_image.cls ≠ "java/lang/invoke/VarHandle" ∧ (parseMethodDescriptor yX11_image.desc).map (fun d => d.parameters.length) = some 1 := ⟨⟨k_co_X11_image, k_in_X11_image, k_se_X11_X11_image, k_ii_X11⟩, rfl, by decide +kernel, by decide +kernel, by decide +kernel⟩
theorem q_X11_from : (Cond.code yX11_from cX11_from 3 (some .int) ∈ lw_g ∧ Cond.instanceMethod yX11_from ∈ lw_g ∧ Cond.selects RX11 yX11_from yX11_from ∈ lw_g ∧ Cond.initialized RX11 ∈ lw_g) ∧ yX11_from.cls = RX11 ∧ yX11_from.cls ≠ "java/lang/invoke/MethodHandle" ∧ yX11_from.cls ≠ "java/lang/invoke/VarHandle" ∧ (parseMethodDescriptor yX11_from.desc).map (fun d => d.parameters.length) = some 1 := ⟨⟨k_co_X11_from, k_in_X11_from, k_se_X11_X11_from, k_ii_X11⟩, rfl, by decide +kernel, by decide +kernel, by decide +kernel⟩
theorem q_X11_status : (Cond.code yX11_status cX11_status 2 (some .int) ∈ lw_g ∧ Cond.instanceMethod yX11_status ∈ lw_g ∧ Cond.selects RX11 yX11_status yX11_status ∈ lw_g ∧ Cond.initialized RX11 ∈ lw_g) ∧ yX11_status.cls = RX11 ∧ yX11_status.cls ≠ "java/lang/invoke/MethodHandle" ∧ yX11_status.cls ≠ "java/lang/invoke/VarHandle" ∧ (parseMethodDescriptor yX11_status.desc).map (fun d => d.parameters.length) = some 1 := ⟨⟨k_co_X11_status, k_in_X11_status, k_se_X11_X11_status, k_ii_X11⟩, rfl, by decide +kernel, by decide +kernel, by decide +kernel⟩
theorem q_X11_counted : (Cond.code yX11_counted cX11_counted 4 (some .int) ∈ lw_g ∧ Cond.instanceMethod yX11_counted ∈ lw_g ∧ Cond.selects RX11 yX11_counted yX11_counted ∈ lw_g ∧ Cond.initialized RX11 ∈ lw_g) ∧ yX11_counted.cls = RX11 ∧ yX11_counted.cls ≠ "java/lang/invoke/MethodHandle" ∧ yX11_counted.cls ≠ "java/lang/invoke/VarHandle" ∧ (parseMethodDescriptor yX11_counted.desc).map (fun d => d.parameters.length) = some 1 := ⟨⟨k_co_X11_counted, k_in_X11_counted, k_se_X11_X11_counted, k_ii_X11⟩, rfl, by decide +kernel, by decide +kernel, by decide +kernel⟩
theorem q_X11_count : (Cond.code yX11_count cX11_count 2 (some .int) ∈ lw_g ∧ Cond.instanceMethod yX11_count ∈ lw_g ∧ Cond.selects RX11 yX11_count yX11_count ∈ lw_g ∧ Cond.initialized RX11 ∈ lw_g) ∧ yX11_count.cls = RX11 ∧ yX11_count.cls ≠ "java/lang/invoke/MethodHandle" ∧ yX11_count.cls ≠ "java/lang/invoke/VarHandle" ∧ (parseMethodDescriptor yX11_count.desc).map (fun d => d.parameters.length) = some 1 := ⟨⟨k_co_X11_count, k_in_X11_count, k_se_X11_X11_count, k_ii_X11⟩, rfl, by decide +kernel, by decide +kernel, by decide +kernel⟩
theorem q_X11_sums : (Cond.code yX11_sums cX11_sums 8 (some .long) ∈ lw_g ∧ Cond.instanceMethod yX11_sums ∈ lw_g ∧ Cond.selects RX11 yX11_sums yX11_sums ∈ lw_g ∧ Cond.initialized RX11 ∈ lw_g) ∧ yX11_sums.cls = RX11 ∧ yX11_sums.cls ≠ "java/lang/invoke/MethodHandle" ∧ yX11_sums.cls ≠ "java/lang/invoke/VarHandle" ∧ (parseMethodDescriptor yX11_sums.desc).map (fun d => d.parameters.length) = some 3 := ⟨⟨k_co_X11_sums, k_in_X11_sums, k_se_X11_X11_sums, k_ii_X11⟩, rfl, by decide +kernel, by decide +kernel, by decide +kernel⟩
theorem q_X11_digest : (Cond.code yX11_digest cX11_digest 4 (some .long) ∈ lw_g ∧ Cond.instanceMethod yX11_digest ∈ lw_g ∧ Cond.selects RX11 yX11_digest yX11_digest ∈ lw_g ∧ Cond.initialized RX11 ∈ lw_g) ∧ yX11_digest.cls = RX11 ∧ yX11_digest.cls ≠ "java/lang/invoke/MethodHandle" ∧ yX11_digest.cls ≠ "java/lang/invoke/VarHandle" ∧ (parseMethodDescriptor yX11_digest.desc).map (fun d => d.parameters.length) = some 0 := ⟨⟨k_co_X11_digest, k_in_X11_digest, k_se_X11_X11_digest, k_ii_X11⟩, rfl, by decide +kernel, by decide +kernel, by decide +kernel⟩
theorem q_J6_bitCount_0f7a4 : (Cond.code yJ6_bitCount_0f7a4 cJ6_bitCount_0f7a4 1 (some .int) ∈ lw_g ∧ Cond.static yJ6_bitCount_0f7a4 ∈ lw_g ∧ Cond.initialized RJ6 ∈ lw_g) ∧ yJ6_bitCount_0f7a4.cls = RJ6 ∧ yJ6_bitCount_0f7a4.cls ≠ "java/lang/invoke/MethodHandle" ∧ yJ6_bitCount_0f7a4.cls ≠ "java/lang/invoke/VarHandle" ∧ (parseMethodDescriptor yJ6_bitCount_0f7a4.desc).map (fun d => d.parameters.length) = some 1 := ⟨⟨k_co_J6_bitCount_0f7a4, k_st_J6_bitCount_0f7a4, k_ii_J6⟩, rfl, by decide +kernel, by decide +kernel, by decide +kernel⟩
theorem q_J9_floorMod_7cf53 : (Cond.code yJ9_floorMod_7cf53 cJ9_floorMod_7cf53 3 (some .int) ∈ lw_g ∧ Cond.static yJ9_floorMod_7cf53 ∈ lw_g ∧ Cond.initialized RJ9 ∈ lw_g) ∧ yJ9_floorMod_7cf53.cls = RJ9 ∧ yJ9_floorMod_7cf53.cls ≠ "java/lang/invoke/MethodHandle" ∧ yJ9_floorMod_7cf53.cls ≠ "java/lang/invoke/VarHandle" ∧ (parseMethodDescriptor yJ9_floorMod_7cf53.desc).map (fun d => d.parameters.length) = some 2 := ⟨⟨k_co_J9_floorMod_7cf53, k_st_J9_floorMod_7cf53, k_ii_J9⟩, rfl, by decide +kernel, by decide +kernel, by decide +kernel⟩
theorem q_J0_length_8abf5 : (Cond.code yJ0_length_8abf5 cJ0_length_8abf5 1 (some .int) ∈ lw_g ∧ Cond.instanceMethod yJ0_length_8abf5 ∈ lw_g ∧ Cond.selects RJ0 yJ0_length_8abf5 yJ0_length_8abf5 ∈ lw_g ∧ Cond.initialized RJ0 ∈ lw_g) ∧ yJ0_length_8abf5.cls = RJ0 ∧ yJ0_length_8abf5.cls ≠ "java/lang/invoke/MethodHandle" ∧ yJ0_length_8abf5.cls ≠ "java/lang/invoke/VarHandle" ∧ (parseMethodDescriptor yJ0_length_8abf5.desc).map (fun d => d.parameters.length) = some 0 := ⟨⟨k_co_J0_length_8abf5, k_in_J0_length_8abf5, k_se_J0_J0_length_8abf5, k_ii_J0⟩, rfl, by decide +kernel, by decide +kernel, by decide +kernel⟩
theorem q_J0_charAt_5068e : (Cond.code yJ0_charAt_5068e cJ0_charAt_5068e 2 (some .char) ∈ lw_g ∧ Cond.instanceMethod yJ0_charAt_5068e ∈ lw_g ∧ Cond.selects RJ0 yJ0_charAt_5068e yJ0_charAt_5068e ∈ lw_g ∧ Cond.initialized RJ0 ∈ lw_g) ∧ yJ0_charAt_5068e.cls = RJ0 ∧ yJ0_charAt_5068e.cls ≠ "java/lang/invoke/MethodHandle" ∧ yJ0_charAt_5068e.cls ≠ "java/lang/invoke/VarHandle" ∧ (parseMethodDescriptor yJ0_charAt_5068e.desc).map (fun d => d.parameters.length) = some 1 := ⟨⟨k_co_J0_charAt_5068e, k_in_J0_charAt_5068e, k_se_J0_J0_charAt_5068e, k_ii_J0⟩, rfl, by decide +kernel, by decide +kernel, by decide +kernel⟩
theorem q_J0_coder_7d493 : (Cond.code yJ0_coder_7d493 cJ0_coder_7d493 1 (some .byte) ∈ lw_g ∧ Cond.instanceMethod yJ0_coder_7d493 ∈ lw_g ∧ Cond.selects RJ0 yJ0_coder_7d493 yJ0_coder_7d493 ∈ lw_g ∧ Cond.initialized RJ0 ∈ lw_g) ∧ yJ0_coder_7d493.cls = RJ0 ∧ yJ0_coder_7d493.cls ≠ "java/lang/invoke/MethodHandle" ∧ yJ0_coder_7d493.cls ≠ "java/lang/invoke/VarHandle" ∧ (parseMethodDescriptor yJ0_coder_7d493.desc).map (fun d => d.parameters.length) = some 0 := ⟨⟨k_co_J0_coder_7d493, k_in_J0_coder_7d493, k_se_J0_J0_coder_7d493, k_ii_J0⟩, rfl, by decide +kernel, by decide +kernel, by decide +kernel⟩
theorem q_J0_isLatin1_aae02 : (Cond.code yJ0_isLatin1_aae02 cJ0_isLatin1_aae02 1 (some .boolean) ∈ lw_g ∧ Cond.instanceMethod yJ0_isLatin1_aae02 ∈ lw_g ∧ Cond.selects RJ0 yJ0_isLatin1_aae02 yJ0_isLatin1_aae02 ∈ lw_g ∧ Cond.initialized RJ0 ∈ lw_g) ∧ yJ0_isLatin1_aae02.cls = RJ0 ∧ yJ0_isLatin1_aae02.cls ≠ "java/lang/invoke/MethodHandle" ∧ yJ0_isLatin1_aae02.cls ≠ "java/lang/invoke/VarHandle" ∧ (parseMethodDescriptor yJ0_isLatin1_aae02.desc).map (fun d => d.parameters.length) = some 0 := ⟨⟨k_co_J0_isLatin1_aae02, k_in_J0_isLatin1_aae02, k_se_J0_J0_isLatin1_aae02, k_ii_J0⟩, rfl, by decide +kernel, by decide +kernel, by decide +kernel⟩
theorem q_J0_checkIndex_df160 : (Cond.code yJ0_checkIndex_df160 cJ0_checkIndex_df160 2 none ∈ lw_g ∧ Cond.static yJ0_checkIndex_df160 ∈ lw_g ∧ Cond.initialized RJ0 ∈ lw_g) ∧ yJ0_checkIndex_df160.cls = RJ0 ∧ yJ0_checkIndex_df160.cls ≠ "java/lang/invoke/MethodHandle" ∧ yJ0_checkIndex_df160.cls ≠ "java/lang/invoke/VarHandle" ∧ (parseMethodDescriptor yJ0_checkIndex_df160.desc).map (fun d => d.parameters.length) = some 2 := ⟨⟨k_co_J0_checkIndex_df160, k_st_J0_checkIndex_df160, k_ii_J0⟩, rfl, by decide +kernel, by decide +kernel, by decide +kernel⟩
theorem q_J1_charAt_3b067 : (Cond.code yJ1_charAt_3b067 cJ1_charAt_3b067 2 (some .char) ∈ lw_g ∧ Cond.static yJ1_charAt_3b067 ∈ lw_g ∧ Cond.initialized RJ1 ∈ lw_g) ∧ yJ1_charAt_3b067.cls = RJ1 ∧ yJ1_charAt_3b067.cls ≠ "java/lang/invoke/MethodHandle" ∧ yJ1_charAt_3b067.cls ≠ "java/lang/invoke/VarHandle" ∧ (parseMethodDescriptor yJ1_charAt_3b067.desc).map (fun d => d.parameters.length) = some 2 := ⟨⟨k_co_J1_charAt_3b067, k_st_J1_charAt_3b067, k_ii_J1⟩, rfl, by decide +kernel, by decide +kernel, by decide +kernel⟩
theorem q_J2_getChar_3b067 : (Cond.code yJ2_getChar_3b067 cJ2_getChar_3b067 2 (some .char) ∈ lw_g ∧ Cond.static yJ2_getChar_3b067 ∈ lw_g ∧ Cond.initialized RJ2 ∈ lw_g) ∧ yJ2_getChar_3b067.cls = RJ2 ∧ yJ2_getChar_3b067.cls ≠ "java/lang/invoke/MethodHandle" ∧ yJ2_getChar_3b067.cls ≠ "java/lang/invoke/VarHandle" ∧ (parseMethodDescriptor yJ2_getChar_3b067.desc).map (fun d => d.parameters.length) = some 2 := ⟨⟨k_co_J2_getChar_3b067, k_st_J2_getChar_3b067, k_ii_J2⟩, rfl, by decide +kernel, by decide +kernel, by decide +kernel⟩
theorem q_J2_length_9d52b : (Cond.code yJ2_length_9d52b cJ2_length_9d52b 1 (some .int) ∈ lw_g ∧ Cond.static yJ2_length_9d52b ∈ lw_g ∧ Cond.initialized RJ2 ∈ lw_g) ∧ yJ2_length_9d52b.cls = RJ2 ∧ yJ2_length_9d52b.cls ≠ "java/lang/invoke/MethodHandle" ∧ yJ2_length_9d52b.cls ≠ "java/lang/invoke/VarHandle" ∧ (parseMethodDescriptor yJ2_length_9d52b.desc).map (fun d => d.parameters.length) = some 1 := ⟨⟨k_co_J2_length_9d52b, k_st_J2_length_9d52b, k_ii_J2⟩, rfl, by decide +kernel, by decide +kernel, by decide +kernel⟩
theorem q_J2_charAt_3b067 : (Cond.code yJ2_charAt_3b067 cJ2_charAt_3b067 2 (some .char) ∈ lw_g ∧ Cond.static yJ2_charAt_3b067 ∈ lw_g ∧ Cond.initialized RJ2 ∈ lw_g) ∧ yJ2_charAt_3b067.cls = RJ2 ∧ yJ2_charAt_3b067.cls ≠ "java/lang/invoke/MethodHandle" ∧ yJ2_charAt_3b067.cls ≠ "java/lang/invoke/VarHandle" ∧ (parseMethodDescriptor yJ2_charAt_3b067.desc).map (fun d => d.parameters.length) = some 2 := ⟨⟨k_co_J2_charAt_3b067, k_st_J2_charAt_3b067, k_ii_J2⟩, rfl, by decide +kernel, by decide +kernel, by decide +kernel⟩
theorem q_J2_checkIndex_2214a : (Cond.code yJ2_checkIndex_2214a cJ2_checkIndex_2214a 2 none ∈ lw_g ∧ Cond.static yJ2_checkIndex_2214a ∈ lw_g ∧ Cond.initialized RJ2 ∈ lw_g) ∧ yJ2_checkIndex_2214a.cls = RJ2 ∧ yJ2_checkIndex_2214a.cls ≠ "java/lang/invoke/MethodHandle" ∧ yJ2_checkIndex_2214a.cls ≠ "java/lang/invoke/VarHandle" ∧ (parseMethodDescriptor yJ2_checkIndex_2214a.desc).map (fun d => d.parameters.length) = some 2 := ⟨⟨k_co_J2_checkIndex_2214a, k_st_J2_checkIndex_2214a, k_ii_J2⟩, rfl, by decide +kernel, by decide +kernel, by decide +kernel⟩
theorem q_J7_fill_53178 : (Cond.code yJ7_fill_53178 cJ7_fill_53178 4 none ∈ lw_g ∧ Cond.static yJ7_fill_53178 ∈ lw_g ∧ Cond.initialized RJ7 ∈ lw_g) ∧ yJ7_fill_53178.cls = RJ7 ∧ yJ7_fill_53178.cls ≠ "java/lang/invoke/MethodHandle" ∧ yJ7_fill_53178.cls ≠ "java/lang/invoke/VarHandle" ∧ (parseMethodDescriptor yJ7_fill_53178.desc).map (fun d => d.parameters.length) = some 2 := ⟨⟨k_co_J7_fill_53178, k_st_J7_fill_53178, k_ii_J7⟩, rfl, by decide +kernel, by decide +kernel, by decide +kernel⟩
theorem q_J3_checkIndex_8e157 : (Cond.code yJ3_checkIndex_8e157 cJ3_checkIndex_8e157 3 (some .int) ∈ lw_g ∧ Cond.static yJ3_checkIndex_8e157 ∈ lw_g ∧ Cond.initialized RJ3 ∈ lw_g) ∧ yJ3_checkIndex_8e157.cls = RJ3 ∧ yJ3_checkIndex_8e157.cls ≠ "java/lang/invoke/MethodHandle" ∧ yJ3_checkIndex_8e157.cls ≠ "java/lang/invoke/VarHandle" ∧ (parseMethodDescriptor yJ3_checkIndex_8e157.desc).map (fun d => d.parameters.length) = some 3 := ⟨⟨k_co_J3_checkIndex_8e157, k_st_J3_checkIndex_8e157, k_ii_J3⟩, rfl, by decide +kernel, by decide +kernel, by decide +kernel⟩
