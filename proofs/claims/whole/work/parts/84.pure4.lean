/-! counting and choosing -/
def cN (P : Nat → Bool) : Nat → Nat
  | 0 => 0
  | k + 1 => if P k = true then cN P k + 1 else cN P k
theorem cN_eq {P : Nat → Bool} : ∀ n, cntF P n = nI (cN P n)
  | 0 => rfl
  | n + 1 => by
    rw [cntF, cN, cN_eq n]
    cases P n
    · rfl
    · exact nI_1 _
theorem cN_le {P : Nat → Bool} : ∀ n, cN P n ≤ n
  | 0 => Nat.le_refl _
  | n + 1 => by have := cN_le (P := P) n; rw [cN]; split <;> omega
theorem cN_mono {P Q : Nat → Bool} : ∀ n, (∀ k, k < n → P k = true → Q k = true) → cN P n ≤ cN Q n
  | 0, _ => Nat.le_refl _
  | n + 1, h => by
    have ih := cN_mono n (fun k hk => h k (by omega))
    have h9 := h n (by omega)
    rw [cN, cN]
    by_cases hp : P n = true
    · rw [if_pos hp, if_pos (h9 hp)]; omega
    · rw [if_neg hp]; split <;> omega
theorem cN_pos {P : Nat → Bool} {k : Nat} : ∀ n, k < n → P k = true → 1 ≤ cN P n
  | 0, h, _ => absurd h (Nat.not_lt_zero _)
  | n + 1, h, hp => by
    rw [cN]
    by_cases e : k = n
    · subst e; rw [if_pos hp]; omega
    · have := cN_pos n (by omega) hp
      split <;> omega
theorem cN_ex {P : Nat → Bool} : ∀ n, 1 ≤ cN P n → ∃ k, k < n ∧ P k = true
  | 0, h => absurd h (by show ¬ 1 ≤ 0; decide)
  | n + 1, h => by
    cases hp : P n
    · rw [cN, hp, if_neg (by decide)] at h
      obtain ⟨k, h1, h2⟩ := cN_ex n h
      exact ⟨k, by omega, h2⟩
    · exact ⟨n, by omega, hp⟩
theorem cN_split {A o : Nat → Bool} : ∀ n, cN (fun g => A g && (o g == true)) n + cN (fun g => A g && (o g == false)) n = cN A n
  | 0 => rfl
  | n + 1 => by
    have ih := cN_split (A := A) (o := o) n
    have s1 : ∀ P : Nat → Bool, cN P (n + 1) = if P n = true then cN P n + 1 else cN P n := fun P => rfl
    rw [s1, s1, s1]
    cases hA : A n <;> cases ho : o n
    · rw [if_neg (by simp [hA]), if_neg (by simp [hA]), if_neg (by decide)]; exact ih
    · rw [if_neg (by simp [hA]), if_neg (by simp [hA]), if_neg (by decide)]; exact ih
    · rw [if_neg (by simp [hA, ho]), if_pos (by simp [hA, ho]), if_pos rfl]; omega
    · rw [if_pos (by simp [hA, ho]), if_neg (by simp [hA, ho]), if_pos rfl]; omega
theorem nI_lt2 {a b : Nat} (ha : a < 10000) (hb : b < 10000) : nI a < nI b ↔ a < b := nI_ltI (by omega) (by omega)
/-- all parts lie between 1 and c -/
def pB (c : Nat) (part : Nat → Int32) (N : Nat) : Prop := ∀ t, t < N → ∃ q : Nat, part t = nI q ∧ 1 ≤ q ∧ q ≤ c
theorem am_tf {part : Nat → Int32} {c N : Nat} (hc : c < 1000) (hp : pB c part N) : ∀ t, t ≤ N → amT part t = amnF nI part (-1, 1000000) t
  | 0, _ => rfl
  | t + 1, h => by
    obtain ⟨q, e, h1, h2⟩ := hp t (by omega)
    rw [amT, amnF, am_tf hc hp t (by omega), if_pos (by rw [e]; exact (nI_lt2 (a := 0) (by omega) (by omega)).mpr h1)]
theorem af_step {val part : Nat → Int32} {c q N t : Nat} {r : Int32 × Int32} (hc : c < 1000) (hp : pB c part N) (ht : t < N) (hq : 1 ≤ q ∧ q ≤ c) (h : (amnF val part r t).2 = nI q) : ∃ q', 1 ≤ q' ∧ q' ≤ c ∧ (amnF val part r (t + 1)).2 = nI q' := by
  obtain ⟨x, e, h1, h2⟩ := hp t ht
  rw [amnF]
  split
  · exact ⟨x, h1, h2, e⟩
  · exact ⟨q, hq.1, hq.2, h⟩
theorem am_fg {val part : Nat → Int32} {c N : Nat} (hc : 1 ≤ c ∧ c < 1000) (hp : pB c part N) : ∀ t, 1 ≤ t → t ≤ N → amnF val part (-1, 1000000) t = amnG val part (-1, nI c + 1) t ∧ ∃ q, 1 ≤ q ∧ q ≤ c ∧ (amnF val part (-1, 1000000) t).2 = nI q
  | 0, h, _ => absurd h (by decide)
  | t + 1, _, h => by
    obtain ⟨x, e, h1, h2⟩ := hp t (by omega)
    have lt1 : (1 : Int32) < nI (c + 1) := (nI_lt2 (a := 1) (by omega) (by omega)).mpr (by omega)
    rcases Nat.eq_zero_or_pos t with z | z
    · subst z
      have l2 : nI x < nI (c + 1) := (nI_lt2 (by omega) (by omega)).mpr (by omega)
      have l3 : nI x < 1000000 := (nI_ltI (a := x) (b := 1000000) (by omega) (by omega)).mpr (by omega)
      have a1 : amnF val part (-1, 1000000) (0 + 1) = (val 0, part 0) := by rw [amnF]; exact if_pos (by rw [e]; exact l3)
      have a2 : amnG val part (-1, nI c + 1) (0 + 1) = (val 0, part 0) := by
        rw [amnG, amnG, nI_1, if_pos lt1]; exact if_pos (by rw [e]; exact l2)
      rw [a1, a2]
      exact ⟨rfl, x, h1, h2, e⟩
    · obtain ⟨i1, q, g1, g2, g3⟩ := am_fg hc hp t z (by omega)
      refine ⟨?_, af_step hc.2 hp (by omega) ⟨g1, g2⟩ g3⟩
      rw [amnF, amnG, ← i1]
      by_cases w : (1 : Int32) < (amnF val part (-1, 1000000) t).2
      · rw [if_pos w]
      · rw [if_neg w, if_neg]
        rw [g3] at w ⊢
        rw [e]
        have w2 : ¬ 1 < q := fun z => w ((nI_lt2 (a := 1) (by omega) (by omega)).mpr z)
        rw [nI_lt2 (by omega) (by omega)]; omega
theorem ag_0 {val part : Nat → Int32} {t : Nat} : (amnG val part (-1, nI 0 + 1) t).1 = -1 := by
  have h : ¬ (1 : Int32) < (amnG val part (-1, nI 0 + 1) 0).2 := by show ¬ (1 : Int32) < nI 0 + 1; decide
  have := amnG_stop h t
  rw [Nat.zero_add] at this
  rw [this]; rfl
theorem at_0 {part : Nat → Int32} {N : Nat} (h : ∀ t, t < N → part t = 0) : ∀ t, t ≤ N → amT part t = (-1, 1000000)
  | 0, _ => rfl
  | t + 1, ht => by rw [amT, h t (by omega), if_neg (by decide), at_0 h t (by omega)]
theorem af_ok {val part : Nat → Int32} {c N : Nat} (hc : c < 1000) (hp : pB c part N) {X : Int32 × Int32} {q : Nat} (hq : 1 ≤ q ∧ q ≤ c ∧ X.2 = nI q) : ∀ t, t ≤ N → ∃ q', 1 ≤ q' ∧ q' ≤ c ∧ (amnF val part X t).2 = nI q'
  | 0, _ => ⟨q, hq⟩
  | t + 1, h => by
    obtain ⟨q', g1, g2, g3⟩ := af_ok hc hp hq t (by omega)
    exact af_step hc hp (by omega) ⟨g1, g2⟩ g3
theorem af_1s {val part : Nat → Int32} {c N : Nat} (hc : c < 1000) (hp : pB c part N) {X : Int32 × Int32} (h1 : X.2 = nI 1) : ∀ t, t ≤ N → amnF val part X t = X
  | 0, _ => rfl
  | t + 1, h => by
    obtain ⟨x, e, g1, g2⟩ := hp t (by omega)
    rw [amnF, af_1s hc hp h1 t (by omega), if_neg]
    rw [h1, e, nI_lt2 (by omega) (by omega)]; omega
theorem af_r {val part : Nat → Int32} {r1 r2 : Int32 × Int32} (h1 : part 0 < r1.2) (h2 : part 0 < r2.2) : ∀ t, 1 ≤ t → amnF val part r1 t = amnF val part r2 t
  | 0, h => absurd h (by decide)
  | t + 1, _ => by
    rcases Nat.eq_zero_or_pos t with z | z
    · subst z
      rw [amnF, amnF, amnF, amnF, if_pos h1, if_pos h2]
    · rw [amnF, amnF, af_r h1 h2 t z]
theorem lk_eq {val part : Nat → Nat → Int32} {c N : Nat} (hc : 1 ≤ c ∧ c < 1000) (hp : ∀ x, x < N → pB c (part x) 9) : ∀ x, 1 ≤ x → x ≤ N → lookR val part (-1, 1000000) x = lookC val part (-1, nI c + 1) x ∧ ∃ q, 1 ≤ q ∧ q ≤ c ∧ (lookR val part (-1, 1000000) x).2 = nI q
  | 0, h, _ => absurd h (by decide)
  | x + 1, _, h => by
    have hpx := hp x (by omega)
    have lt1 : (1 : Int32) < nI (c + 1) := (nI_lt2 (a := 1) (by omega) (by omega)).mpr (by omega)
    rcases Nat.eq_zero_or_pos x with z | z
    · subst z
      obtain ⟨y, e, h1, h2⟩ := hpx 0 (by decide)
      have l2 : part 0 0 < nI c + 1 := by rw [e, nI_1]; exact (nI_lt2 (by omega) (by omega)).mpr (by omega)
      have l3 : part 0 0 < 1000000 := by rw [e]; exact (nI_ltI (a := y) (b := 1000000) (by omega) (by omega)).mpr (by omega)
      have a1 : lookR val part (-1, 1000000) (0 + 1) = amnF (val 0) (part 0) (-1, 1000000) 9 := rfl
      have a2 : lookC val part (-1, nI c + 1) (0 + 1) = amnF (val 0) (part 0) (-1, nI c + 1) 9 := by
        rw [lookC, lookC]; exact if_pos (by rw [nI_1]; exact lt1)
      rw [a1, a2]
      exact ⟨af_r l3 l2 9 (by decide), (am_fg hc hpx 9 (by decide) (by decide)).2⟩
    · obtain ⟨i1, q, g1, g2, g3⟩ := lk_eq hc hp x z (by omega)
      refine ⟨?_, af_ok hc.2 hpx ⟨g1, g2, g3⟩ 9 (by decide)⟩
      rw [lookR, lookC, ← i1]
      by_cases w : (1 : Int32) < (lookR val part (-1, 1000000) x).2
      · rw [if_pos w]
      · rw [if_neg w]
        rw [g3] at w
        have w2 : q = 1 := by
          rcases Nat.lt_or_ge 1 q with z2 | z2
          · exact absurd ((nI_lt2 (a := 1) (by omega) (by omega)).mpr z2) w
          · omega
        rw [w2] at g3
        exact af_1s hc.2 hpx g3 9 (by decide)
theorem lc_0 {val part : Nat → Nat → Int32} {t : Nat} : (lookC val part (-1, nI 0 + 1) t).1 = -1 := by
  have h : ¬ (1 : Int32) < (lookC val part (-1, nI 0 + 1) 0).2 := by show ¬ (1 : Int32) < nI 0 + 1; decide
  have := lookC_stop h t
  rw [Nat.zero_add] at this
  rw [this]; rfl
def q6 (b0 b1 b2 b3 b4 b5 : Bool) (g : Nat) : Bool := if g = 0 then b0 else if g = 1 then b1 else if g = 2 then b2 else if g = 3 then b3 else if g = 4 then b4 else if g = 5 then b5 else false
theorem q6_eq {P : Nat → Bool} : ∀ g, g < 6 → q6 (P 0) (P 1) (P 2) (P 3) (P 4) (P 5) g = P g := by
  intro g h2
  rcases (show g = 0 ∨ g = 1 ∨ g = 2 ∨ g = 3 ∨ g = 4 ∨ g = 5 by omega) with rfl | rfl | rfl | rfl | rfl | rfl <;> rfl
theorem or6_fin : ∀ b0 b1 b2 b3 b4 b5 : Bool, (∀ i, i < 6 → tb (orF (q6 b0 b1 b2 b3 b4 b5) 6) i = q6 b0 b1 b2 b3 b4 b5 i) ∧ bc (orF (q6 b0 b1 b2 b3 b4 b5) 6) = cntF (q6 b0 b1 b2 b3 b4 b5) 6 ∧ (0 < orF (q6 b0 b1 b2 b3 b4 b5) 6 ↔ 1 ≤ cN (q6 b0 b1 b2 b3 b4 b5) 6) := by decide +kernel
theorem cN_cong {P Q : Nat → Bool} : ∀ {n : Nat}, (∀ k, k < n → P k = Q k) → cN P n = cN Q n
  | 0, _ => rfl
  | n + 1, h => by rw [cN, cN, cN_cong (n := n) (fun k hk => h k (by omega)), h n (by omega)]
theorem or6 (P : Nat → Bool) : (∀ i, i < 6 → tb (orF P 6) i = P i) ∧ bc (orF P 6) = nI (cN P 6) ∧ (0 < orF P 6 ↔ 1 ≤ cN P 6) := by
  have h := or6_fin (P 0) (P 1) (P 2) (P 3) (P 4) (P 5)
  rw [orF_cong (n := 6) (q6_eq (P := P)), cntF_cong (n := 6) (q6_eq (P := P)), cN_cong (n := 6) (q6_eq (P := P)), cN_eq] at h
  exact ⟨fun i hi => (h.1 i hi).trans (q6_eq i hi), h.2⟩
theorem or10_fin : ∀ b1 b2 b3 b4 b5 b6 b7 b8 b9 : Bool, (∀ i, i < 10 → tb (orF (fun g => decide (1 ≤ g) && q9 b1 b2 b3 b4 b5 b6 b7 b8 b9 g) 10) i = (decide (1 ≤ i) && q9 b1 b2 b3 b4 b5 b6 b7 b8 b9 i)) ∧ bc (orF (fun g => decide (1 ≤ g) && q9 b1 b2 b3 b4 b5 b6 b7 b8 b9 g) 10) = cntF (fun g => decide (1 ≤ g) && q9 b1 b2 b3 b4 b5 b6 b7 b8 b9 g) 10 := by decide +kernel
theorem or10 (P : Nat → Bool) : (∀ i, i < 10 → tb (orF (fun g => decide (1 ≤ g) && P g) 10) i = (decide (1 ≤ i) && P i)) ∧ bc (orF (fun g => decide (1 ≤ g) && P g) 10) = nI (cN (fun g => decide (1 ≤ g) && P g) 10) := by
  have h := or10_fin (P 1) (P 2) (P 3) (P 4) (P 5) (P 6) (P 7) (P 8) (P 9)
  have e : ∀ k, k < 10 → (decide (1 ≤ k) && q9 (P 1) (P 2) (P 3) (P 4) (P 5) (P 6) (P 7) (P 8) (P 9) k) = (decide (1 ≤ k) && P k) := fun k hk => by
    rcases Nat.eq_zero_or_pos k with rfl | q
    · rfl
    · rw [q9_eq k q hk]
  rw [orF_cong (n := 10) e, cntF_cong (n := 10) e, cN_eq] at h
  exact ⟨fun i hi => (h.1 i hi).trans (e i hi), h.2⟩
/-- the most alike: at least one, at most all -/
theorem mx_b {Q : Nat → Bool} {g : Nat → Nat} {c : Nat} (hg : ∀ i, g i ≤ c) (hc : c < 1000) : ∀ n, ∃ y, maxF Q (fun i => nI (g i)) n = nI y ∧ y ≤ c ∧ ∀ i, i < n → Q i = true → g i ≤ y
  | 0 => ⟨0, rfl, Nat.zero_le _, fun i hi => absurd hi (Nat.not_lt_zero _)⟩
  | n + 1 => by
    obtain ⟨y, e, h1, h2⟩ := mx_b (Q := Q) hg hc n
    rw [maxF, e]
    have hgn := hg n
    cases hq : Q n
    · refine ⟨y, by simp, h1, fun i hi hQ => ?_⟩
      by_cases z : i = n
      · subst z; rw [hq] at hQ; cases hQ
      · exact h2 i (by omega) hQ
    · rw [if_pos rfl]
      by_cases w : y < g n
      · refine ⟨g n, if_pos ((nI_lt2 (by omega) (by omega)).mpr w), hgn, fun i hi hQ => ?_⟩
        by_cases z : i = n
        · subst z; exact Nat.le_refl _
        · have := h2 i (by omega) hQ; omega
      · refine ⟨y, if_neg (fun z => w ((nI_lt2 (by omega) (by omega)).mp z)), h1, fun i hi hQ => ?_⟩
        by_cases z : i = n
        · subst z; omega
        · exact h2 i (by omega) hQ
theorem mal_b {K : Int32} {f : Nat → Int32} {P : Nat → Bool} (hK : ∀ i, i < 6 → tb K i = P i) (hc : 1 ≤ cN P 6) : ∃ q, mal K f = nI q ∧ 1 ≤ q ∧ q ≤ cN P 6 := by
  have hP : cN P 6 ≤ 6 := cN_le 6
  have e : mal K f = maxF (tb K) (fun i => nI (cN (fun j => tb K j && decide (f j = f i)) 6)) 6 := maxF_cong (fun i hi => ⟨rfl, cN_eq 6⟩)
  have hle : ∀ i, cN (fun j => tb K j && decide (f j = f i)) 6 ≤ cN P 6 := fun i => cN_mono 6 (fun k hk h => by rw [Bool.and_eq_true] at h; rw [← hK k hk]; exact h.1)
  obtain ⟨y, e2, h1, h2⟩ := mx_b (Q := tb K) hle (by omega) 6
  obtain ⟨k, hk, hPk⟩ := cN_ex 6 hc
  have h3 := h2 k hk (by rw [hK k hk]; exact hPk)
  have h4 : 1 ≤ cN (fun j => tb K j && decide (f j = f k)) 6 := cN_pos (k := k) 6 hk (by rw [hK k hk, hPk, decide_eq_true rfl]; rfl)
  exact ⟨y, by rw [e, e2], by omega, h1⟩
section TLK
variable {B B' : Nat} {wide : Int32} {wd ck : Nat → Int32} {n : Nat} {pf : Nat → Int32} {sn : Nat} {sf : Nat → Int32} {nn : Nat} {nf : Nat → Int32} {mn : Nat} {mf : Nat → Int32} {u : Nat} {uf a : Nat → Int32}
theorem max_c {x y : Nat} (hx : x < 10000) (hy : y < 10000) : (if nI y < nI x then nI x else nI y) = nI (max x y) ∧ (if nI x < nI y then nI y else nI x) = nI (max x y) := by
  rcases Nat.lt_trichotomy x y with h | h | h
  · rw [if_neg (fun z => by have := (nI_lt2 hy hx).mp z; omega), if_pos ((nI_lt2 hx hy).mpr h), Nat.max_eq_right (by omega)]; exact ⟨rfl, rfl⟩
  · subst h; rw [if_neg (fun z => by have := (nI_lt2 hy hy).mp z; omega), Nat.max_self]; exact ⟨rfl, rfl⟩
  · rw [if_pos ((nI_lt2 hy hx).mpr h), if_neg (fun z => by have := (nI_lt2 hx hy).mp z; omega), Nat.max_eq_left (by omega)]; exact ⟨rfl, rfl⟩
theorem gpt_eq (h : VR B wide wd ck n pf sn sf nn nf mn mf u uf a) {k t : Nat} (hk : k < n) {b : Bool} : gpt wide ck wd pf k t (wts wide ck wd pf sf sn) b = teA a sn k t b 10 := by
  refine cntF_cong (fun g hg => ?_)
  rw [wts_eq h, (or10 (fun g => hwA a (nI g) sn)).1 g hg, ov_eq h hk]
  cases decide (1 ≤ g) <;> simp
theorem tell_eq (h : VR B wide wd ck n pf sn sf nn nf mn mf u uf a) {k : Nat} (hk : k < n) : (amT (teM a sn k) 24).1 = (amnG nI (fun t => if gpt wide ck wd pf k t (wts wide ck wd pf sf sn) true < gpt wide ck wd pf k t (wts wide ck wd pf sf sn) false then gpt wide ck wd pf k t (wts wide ck wd pf sf sn) false else gpt wide ck wd pf k t (wts wide ck wd pf sf sn) true) (-1, bc (wts wide ck wd pf sf sn) + 1) 24).1 := by
  have hA : ∀ t b, teA a sn k t b 10 = nI (cN (fun g => (decide (1 ≤ g) && hwA a (nI g) sn) && (ovA a k t (nI g) == b)) 10) := fun t b => by
    rw [teA, ← cN_eq]; exact cntF_cong (fun g _ => (Bool.and_assoc _ _ _).symm)
  have hsp : ∀ t, cN (fun g => (decide (1 ≤ g) && hwA a (nI g) sn) && (ovA a k t (nI g) == true)) 10 + cN (fun g => (decide (1 ≤ g) && hwA a (nI g) sn) && (ovA a k t (nI g) == false)) 10 = cN (fun g => decide (1 ≤ g) && hwA a (nI g) sn) 10 := fun t => cN_split 10
  have hb : bc (wts wide ck wd pf sf sn) = nI (cN (fun g => decide (1 ≤ g) && hwA a (nI g) sn) 10) := by rw [wts_eq h]; exact (or10 (fun g => hwA a (nI g) sn)).2
  have hle : cN (fun g => decide (1 ≤ g) && hwA a (nI g) sn) 10 ≤ 10 := cN_le 10
  have hf : (fun t => if gpt wide ck wd pf k t (wts wide ck wd pf sf sn) true < gpt wide ck wd pf k t (wts wide ck wd pf sf sn) false then gpt wide ck wd pf k t (wts wide ck wd pf sf sn) false else gpt wide ck wd pf k t (wts wide ck wd pf sf sn) true) = teM a sn k := by
    funext t
    rw [gpt_eq h hk, gpt_eq h hk, teM, hA, hA]
    have h1 := hsp t
    rw [(max_c (by omega) (by omega)).1, (max_c (by omega) (by omega)).2]
  rw [hf, hb]
  have hM : ∀ t, teM a sn k t = nI (max (cN (fun g => (decide (1 ≤ g) && hwA a (nI g) sn) && (ovA a k t (nI g) == true)) 10) (cN (fun g => (decide (1 ≤ g) && hwA a (nI g) sn) && (ovA a k t (nI g) == false)) 10)) := fun t => by
    have h1 := hsp t
    rw [teM, hA, hA, (max_c (by omega) (by omega)).1]
  generalize cN (fun g => decide (1 ≤ g) && hwA a (nI g) sn) 10 = c at *
  rcases Nat.eq_zero_or_pos c with z | z
  · subst z
    rw [ag_0, at_0 (N := 24) (fun t _ => by rw [hM t]; have := hsp t; rw [show max (cN (fun g => (decide (1 ≤ g) && hwA a (nI g) sn) && (ovA a k t (nI g) == true)) 10) (cN (fun g => (decide (1 ≤ g) && hwA a (nI g) sn) && (ovA a k t (nI g) == false)) 10) = 0 by omega]; rfl) 24 (Nat.le_refl _)]
  · have hp : pB c (teM a sn k) 24 := fun t _ => ⟨_, hM t, by have := hsp t; omega, by have := hsp t; omega⟩
    rw [am_tf (by omega) hp 24 (Nat.le_refl _), (am_fg ⟨z, by omega⟩ hp 24 (by decide) (Nat.le_refl _)).1]
theorem ask_eq {K : Int32} {P : Nat → Bool} (hK : K = orF P 6) {f : Nat → Nat → Int32} : (if 0 < K then (amnF nI (fun t => mal K (f t)) (-1, 1000000) 24).1 else -1) = (amnG nI (fun t => mal K (f t)) (-1, bc K + 1) 24).1 := by
  obtain ⟨h1, h2, h3⟩ := or6 P
  rw [← hK] at h1 h2 h3
  have hle : cN P 6 ≤ 6 := cN_le 6
  rw [h2]
  rcases Nat.eq_zero_or_pos (cN P 6) with z | z
  · rw [if_neg (fun q => by have := h3.mp q; omega), z, ag_0]
  · rw [if_pos (h3.mpr z), (am_fg ⟨z, by omega⟩ (fun t _ => mal_b h1 z) 24 (by decide) (Nat.le_refl _)).1]
theorem look_eq {K : Int32} {P : Nat → Bool} (hK : K = orF P 6) {val : Nat → Nat → Int32} {f : Nat → Nat → Nat → Int32} : (if 0 < K then (lookR val (fun x w => mal K (f x w)) (-1, 1000000) 31).1 else -1) = (lookC val (fun x w => mal K (f x w)) (-1, bc K + 1) 31).1 := by
  obtain ⟨h1, h2, h3⟩ := or6 P
  rw [← hK] at h1 h2 h3
  have hle : cN P 6 ≤ 6 := cN_le 6
  rw [h2]
  rcases Nat.eq_zero_or_pos (cN P 6) with z | z
  · rw [if_neg (fun q => by have := h3.mp q; omega), z, lc_0]
  · rw [if_pos (h3.mpr z), (lk_eq ⟨z, by omega⟩ (fun x _ t _ => mal_b h1 z) 31 (by decide) (Nat.le_refl _)).1]
end TLK
