/-! rallies: what can be reached, and from where one is done in time -/
theorem tb_set {y : Int32} {k b : Nat} (hk : k < 32) (hb : b < 32) : tb (y ||| ((1 : Int32) <<< (nI k &&& 31))) b = (tb y b || decide (b = k)) := by
  rw [tb_bt hb, tb_bt hb, b_or, b_shl k hk 1 hb, b_1 _ (by omega)]
  congr 1
  by_cases e : b = k
  · subst e; simp
  · rcases Nat.lt_or_ge b k with q | q
    · rw [decide_eq_false (show ¬ k ≤ b by omega), decide_eq_false e]; rfl
    · rw [decide_eq_false (show ¬ b - k = 0 by omega), decide_eq_false e, Bool.and_false]
theorem tb_one {k b : Nat} (hk : k < 32) (hb : b < 32) : tb ((1 : Int32) <<< (nI k &&& 31)) b = decide (b = k) := by
  have h := tb_set (y := 0) hk hb
  rw [show (0 : Int32) ||| ((1 : Int32) <<< (nI k &&& 31)) = (1 : Int32) <<< (nI k &&& 31) from Int32.zero_or] at h
  rw [h, tb_bt hb, b_0, Bool.false_or]
theorem tb_0 {b : Nat} (hb : b < 32) : tb 0 b = false := by rw [tb_bt hb, b_0]
def Rc (my : Nat → Nat → Nat → Bool) (td s0 : Nat) : Nat → Nat → Prop
  | 0 => fun sp => sp = s0
  | t + 1 => fun sp => ∃ s, s < 256 ∧ Rc my td s0 t s ∧ ∃ j, j < 8 ∧ my t s j = true ∧ afN td s j = sp
def Fw (my : Nat → Nat → Nat → Bool) (td m : Nat) : Nat → Nat → Prop
  | 0 => fun sp => sp % 128 = td
  | r + 1 => fun sp => ∃ j, j < 8 ∧ my (m - (r + 1)) sp j = true ∧ Fw my td m r (afN td sp j)
section RW
variable {my : Nat → Nat → Nat → Bool} {td s0 m : Nat}
theorem Rc_lt (h0 : s0 < 256) : ∀ t sp, Rc my td s0 t sp → sp < 256
  | 0, sp, h => by rw [show sp = s0 from h]; exact h0
  | t + 1, sp, ⟨s, hs, _, j, _, _, e⟩ => by rw [← e]; exact af_lt hs
theorem Rc_Fw (h0 : s0 < 256) : ∀ t, t ≤ m → ((∃ sp, Rc my td s0 t sp ∧ Fw my td m (m - t) sp) ↔ Fw my td m m s0)
  | 0, _ => ⟨fun ⟨sp, h1, h2⟩ => by rw [show sp = s0 from h1] at h2; exact h2, fun h => ⟨s0, rfl, h⟩⟩
  | t + 1, ht => by
    rw [← Rc_Fw h0 t (by omega), show m - t = (m - (t + 1)) + 1 by omega]
    constructor
    · rintro ⟨sp, ⟨s, hs, hr, j, hj, hm, e⟩, hF⟩
      refine ⟨s, hr, j, hj, ?_, ?_⟩
      · rw [show m - (m - (t + 1) + 1) = t by omega]; exact hm
      · rw [e]; exact hF
    · rintro ⟨s, hr, j, hj, hm, hF⟩
      rw [show m - (m - (t + 1) + 1) = t by omega] at hm
      exact ⟨_, ⟨s, Rc_lt h0 t s hr, hr, j, hj, hm, rfl⟩, hF⟩
theorem Rc_full (h0 : s0 < 256) : (∃ sp, Rc my td s0 m sp ∧ sp % 128 = td) ↔ Fw my td m m s0 := by
  have h := Rc_Fw (my := my) (td := td) (m := m) h0 m (Nat.le_refl _)
  rw [Nat.sub_self] at h
  exact h
end RW
section SP
variable {car : Nat → Int32} {td t : Nat} {f : Nat → Int32}
theorem sprI_o {s x b : Nat} (ht : t < 20) (hb : b < 32) (hne : b ≠ t + 1) : ∀ j, tb (sprI car td t s f j x) b = tb (f x) b
  | 0 => rfl
  | j + 1 => by
    have ih := fun y => sprI_o (s := s) (x := y) ht hb hne j
    rw [sprI]
    split
    · by_cases e : x = afN td s j
      · subst e; rw [pk_us, tb_set (by omega) hb, decide_eq_false hne, Bool.or_false]; exact ih _
      · rw [pk_un e]; exact ih _
    · exact ih _
theorem sprI_n {s x : Nat} (ht : t < 20) : ∀ j, tb (sprI car td t s f j x) (t + 1) = true ↔ (tb (f x) (t + 1) = true ∨ ∃ i, i < j ∧ myN car s t i = true ∧ afN td s i = x)
  | 0 => ⟨fun h => Or.inl h, fun h => h.elim id (fun ⟨i, hi, _⟩ => absurd hi (Nat.not_lt_zero _))⟩
  | j + 1 => by
    have ih := fun y => sprI_n (s := s) (x := y) ht j
    rw [sprI]
    cases hm : myN car s t j
    · rw [if_neg (by decide), ih x]
      refine or_congr Iff.rfl ⟨fun ⟨i, hi, q⟩ => ⟨i, by omega, q⟩, fun ⟨i, hi, q⟩ => ⟨i, ?_, q⟩⟩
      rcases Nat.lt_or_ge i j with z | z
      · exact z
      · rw [show i = j by omega, hm] at q; cases q.1
    · rw [if_pos rfl]
      by_cases e : x = afN td s j
      · subst e
        rw [pk_us, tb_set (by omega) (by omega), decide_eq_true rfl, Bool.or_true]
        exact ⟨fun _ => Or.inr ⟨j, by omega, hm, rfl⟩, fun _ => rfl⟩
      · rw [pk_un e, ih x]
        refine or_congr Iff.rfl ⟨fun ⟨i, hi, q⟩ => ⟨i, by omega, q⟩, fun ⟨i, hi, q⟩ => ⟨i, ?_, q⟩⟩
        rcases Nat.lt_or_ge i j with z | z
        · exact z
        · rw [show i = j by omega] at q; exact absurd q.2.symm e
theorem sprO_o {x b : Nat} (ht : t < 20) (hb : b < 32) (hne : b ≠ t + 1) : ∀ s, tb (sprO car td t f s x) b = tb (f x) b
  | 0 => rfl
  | s + 1 => by
    rw [sprO]
    split
    · rw [sprI_o ht hb hne]; exact sprO_o ht hb hne s
    · exact sprO_o ht hb hne s
theorem sprO_n {x : Nat} (ht : t < 20) : ∀ s, tb (sprO car td t f s x) (t + 1) = true ↔ (tb (f x) (t + 1) = true ∨ ∃ q, q < s ∧ tb (f q) t = true ∧ ∃ i, i < 8 ∧ myN car q t i = true ∧ afN td q i = x)
  | 0 => ⟨fun h => Or.inl h, fun h => h.elim id (fun ⟨i, hi, _⟩ => absurd hi (Nat.not_lt_zero _))⟩
  | s + 1 => by
    have ih := sprO_n (x := x) ht s
    have eo : tb (sprO car td t f s s) t = tb (f s) t := sprO_o ht (by omega) (by omega) s
    rw [sprO, eo]
    cases hc : tb (f s) t
    · rw [if_neg (by decide), ih]
      refine or_congr Iff.rfl ⟨fun ⟨i, hi, q⟩ => ⟨i, by omega, q⟩, fun ⟨i, hi, q⟩ => ⟨i, ?_, q⟩⟩
      rcases Nat.lt_or_ge i s with z | z
      · exact z
      · rw [show i = s by omega, hc] at q; cases q.1
    · rw [if_pos rfl, sprI_n ht 8, ih]
      constructor
      · rintro ((h | ⟨q, hq, h⟩) | h)
        · exact Or.inl h
        · exact Or.inr ⟨q, by omega, h⟩
        · exact Or.inr ⟨s, by omega, hc, h⟩
      · rintro (h | ⟨q, hq, h⟩)
        · exact Or.inl (Or.inl h)
        · rcases Nat.lt_or_ge q s with z | z
          · exact Or.inl (Or.inr ⟨q, z, h⟩)
          · rw [show q = s by omega] at h; exact Or.inr h.2
end SP
section FRq
variable {co : Nat → Int32 → Int32} {car0 r0 : Nat → Int32} {td : Nat}
theorem frC_at {q : Nat} (hq : q < 2) : ∀ T t, t < T → frC co car0 T (2 * t + q) = co t (nI q)
  | T + 1, t, h => by
    rw [frC]
    rcases (show q = 0 ∨ q = 1 by omega) with rfl | rfl
    · rw [pk_un (by omega)]
      by_cases e : t = T
      · subst e; rw [Nat.add_zero, pk_us]; rfl
      · rw [pk_un (by omega)]; exact frC_at (by omega) T t (by omega)
    · by_cases e : t = T
      · subst e; rw [pk_us]; rfl
      · rw [pk_un (by omega), pk_un (by omega)]; exact frC_at (by omega) T t (by omega)
/-- who may, told by the valley alone -/
def myA (co : Nat → Int32 → Int32) (t sp j : Nat) : Bool := if j = 0 then true else tb (co t (nI (sp / 128 % 2))) (j - 1)
theorem my_A {T t sp j : Nat} (h : t < T) : myN (frC co car0 T) sp t j = myA co t sp j := by
  unfold myN myA
  rw [frC_at (Nat.mod_lt _ (by decide)) T t h]
/-- the bits of what is reached -/
theorem frR_b {fh : Nat} {rea : Nat → Int32} (hf : fh < 2) : ∀ T, T ≤ 20 → ∀ b, b ≤ 20 → ∀ sp, sp < 256 → (tb (frR co car0 td (r00 fh rea) T sp) b = true ↔ (b ≤ T ∧ Rc (myA co) td (fh * 128) b sp))
  | 0, _, b, hb, sp, hsp => by
    rw [frR, r00]
    by_cases e : sp = fh * 128
    · subst e
      rw [pk_us]
      have z := tb_one (k := 0) (b := b) (by omega) (by omega)
      rw [show (1 : Int32) <<< (nI 0 &&& 31) = 1 from by decide] at z
      rw [z, decide_eq_true_eq]
      constructor
      · rintro rfl; exact ⟨Nat.le_refl _, rfl⟩
      · rintro ⟨h, _⟩; omega
    · rw [pk_un e, if_pos hsp, tb_0 (by omega)]
      constructor
      · intro h; cases h
      · rintro ⟨h, h2⟩
        rw [show b = 0 by omega] at h2
        exact absurd h2 e
  | T + 1, hT, b, hb, sp, hsp => by
    have ih := frR_b (rea := rea) hf T (by omega)
    rw [frR]
    by_cases e : b = T + 1
    · subst e
      rw [sprO_n (by omega) 256, ih (T + 1) hb sp hsp]
      constructor
      · rintro (⟨h, _⟩ | ⟨q, hq, h1, i, hi, h2, h3⟩)
        · omega
        · refine ⟨Nat.le_refl _, q, hq, ((ih T (by omega) q hq).mp h1).2, i, hi, ?_, h3⟩
          rw [← my_A (car0 := car0) (Nat.lt_succ_self T)]; exact h2
      · rintro ⟨_, q, hq, h1, i, hi, h2, h3⟩
        refine Or.inr ⟨q, hq, (ih T (by omega) q hq).mpr ⟨Nat.le_refl _, h1⟩, i, hi, ?_, h3⟩
        rw [my_A (Nat.lt_succ_self T)]; exact h2
    · rw [sprO_o (by omega) (by omega) e 256, ih b hb sp hsp]
      exact and_congr_left' (by omega)
end FRq
