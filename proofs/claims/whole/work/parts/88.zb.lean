/-! rallies: the class's way back -/
theorem first_lt {p : Nat → Bool} {n : Nat} : fa_first p n < n ↔ ∃ j, j < n ∧ p j = true := by
  constructor
  · intro h; exact ⟨_, h, fa_first_yes p n h⟩
  · rintro ⟨j, hj, hp⟩
    rcases Nat.lt_or_ge (fa_first p n) n with q | q
    · exact q
    · have := fa_first_no p n j (by omega)
      rw [this] at hp; cases hp
theorem or_128 : ∀ z, z < 128 → z ||| 128 = z + 128 := by decide +kernel
section WB
variable {car rea : Nat → Int32} {td t : Nat} {f : Nat → Int32}
theorem wbI_o {x b : Nat} (ht : t < 20) (hb : b < 32) (hne : b ≠ t) : ∀ s, tb (wbI car rea td t f s x) b = tb (f x) b
  | 0 => rfl
  | s + 1 => by
    have ih := fun y => wbI_o (x := y) ht hb hne s
    rw [wbI]
    split
    · by_cases e : x = s
      · subst e; rw [pk_us, tb_set (by omega) hb, decide_eq_false hne, Bool.or_false]; exact ih _
      · rw [pk_un e]; exact ih _
    · exact ih _
theorem wbI_f {x : Nat} (ht : t < 20) (s : Nat) : fsN car (wbI car rea td t f s) td x t = fsN car f td x t := by
  unfold fsN
  refine first_cong (fun k _ => ?_)
  unfold fsQ
  rw [wbI_o ht (by omega) (by omega)]
theorem wbI_n {x : Nat} (ht : t < 20) : ∀ s, tb (wbI car rea td t f s x) t = true ↔ (tb (f x) t = true ∨ (x < s ∧ tb (rea x) t = true ∧ fsN car f td x t < 8))
  | 0 => ⟨fun h => Or.inl h, fun h => h.elim id (fun h => absurd h.1 (Nat.not_lt_zero _))⟩
  | s + 1 => by
    have ih := wbI_n (x := x) ht s
    have h8 : fsN car f td s t ≤ 8 := fa_first_le _ 8
    rw [wbI, wbI_f ht s]
    cases hc : (tb (rea s) t && !(decide (fsN car f td s t = 8)))
    · rw [if_neg (by decide), ih]
      refine or_congr Iff.rfl ⟨fun ⟨h1, h2⟩ => ⟨by omega, h2⟩, fun ⟨h1, h2, h3⟩ => ⟨?_, h2, h3⟩⟩
      rcases Nat.lt_or_ge x s with z | z
      · exact z
      · have e : x = s := by omega
        subst e
        rw [h2, decide_eq_false (by omega)] at hc; cases hc
    · rw [if_pos rfl]
      rw [Bool.and_eq_true, Bool.not_eq_true', decide_eq_false_iff_not] at hc
      by_cases e : x = s
      · subst e
        rw [pk_us, tb_set (by omega) (by omega), decide_eq_true rfl, Bool.or_true]
        exact ⟨fun _ => Or.inr ⟨by omega, hc.1, by omega⟩, fun _ => rfl⟩
      · rw [pk_un e, ih]
        exact or_congr Iff.rfl (and_congr_left' (by omega))
end WB
theorem wb0_b {td m b sp : Nat} {fin : Nat → Int32} (htd : td < 128) (hm : m ≤ 20) (hb : b ≤ 20) (hsp : sp < 256) : tb (wb0 td m fin sp) b = true ↔ (b = m ∧ sp % 128 = td) := by
  unfold wb0
  rw [or_128 td htd]
  by_cases e1 : sp = td + 128
  · subst e1
    rw [pk_us, tb_one (by omega) (by omega), decide_eq_true_eq]
    exact ⟨fun h => ⟨h, by omega⟩, fun h => h.1⟩
  · rw [pk_un e1]
    by_cases e2 : sp = td
    · subst e2
      rw [pk_us, tb_one (by omega) (by omega), decide_eq_true_eq]
      exact ⟨fun h => ⟨h, by omega⟩, fun h => h.1⟩
    · rw [pk_un e2, if_pos hsp, tb_0 (by omega)]
      exact ⟨fun h => (by cases h), fun h => (by omega)⟩
section WBq
variable {co : Nat → Int32 → Int32} {car0 rea fin : Nat → Int32} {td m M fh : Nat}
theorem wbO_b (hf : fh < 2) (htd : td < 128) (hm : m ≤ M) (hM : M ≤ 20) : ∀ d, d ≤ m →
    (∀ b, b < m - d → ∀ sp, sp < 256 → tb (wbO (frC co car0 M) (frR co car0 td (r00 fh rea) M) td m (wb0 td m fin) d sp) b = false) ∧
    (∀ b, m - d ≤ b → b ≤ m → ∀ sp, sp < 256 → Rc (myA co) td (fh * 128) b sp → (tb (wbO (frC co car0 M) (frR co car0 td (r00 fh rea) M) td m (wb0 td m fin) d sp) b = true ↔ Fw (myA co) td m (m - b) sp))
  | 0, _ => by
    refine ⟨fun b hb sp hsp => ?_, fun b hb hb2 sp hsp _ => ?_⟩
    · rw [wbO, Bool.eq_false_iff]
      intro h
      have := (wb0_b htd (by omega) (by omega) hsp).mp h
      omega
    · have e : b = m := by omega
      subst e
      rw [wbO, wb0_b htd (by omega) (by omega) hsp, Nat.sub_self]
      exact ⟨fun h => h.2, fun h => ⟨rfl, h⟩⟩
  | d + 1, hd => by
    obtain ⟨i1, i2⟩ := wbO_b hf htd hm hM d (by omega)
    rw [wbO]
    generalize wbO (frC co car0 M) (frR co car0 td (r00 fh rea) M) td m (wb0 td m fin) d = W at i1 i2
    have et : m - 1 - d = m - (d + 1) := by omega
    rw [et]
    refine ⟨fun b hb sp hsp => ?_, fun b hb hb2 sp hsp hR => ?_⟩
    · rw [wbI_o (by omega) (by omega) (by omega)]; exact i1 b (by omega) sp hsp
    · by_cases e : b = m - (d + 1)
      · rw [← e]
        have hR' : tb (frR co car0 td (r00 fh rea) M sp) b = true := (frR_b hf M hM b (by omega) sp hsp).mpr ⟨by omega, hR⟩
        rw [wbI_n (by omega), hR', i1 b (by omega) sp hsp]
        rw [show m - b = (m - (b + 1)) + 1 by omega]
        have key : fsN (frC co car0 M) W td sp b < 8 ↔ Fw (myA co) td m (m - (b + 1) + 1) sp := by
          unfold fsN
          rw [first_lt]
          show _ ↔ ∃ j, j < 8 ∧ myA co (m - (m - (b + 1) + 1)) sp j = true ∧ Fw (myA co) td m (m - (b + 1)) (afN td sp j)
          rw [show m - (m - (b + 1) + 1) = b by omega]
          refine exists_congr (fun j => and_congr_right (fun hj => ?_))
          unfold fsQ
          rw [Bool.and_eq_true, my_A (by omega)]
          refine and_congr_right (fun hmy => ?_)
          exact i2 (b + 1) (by omega) (by omega) _ (af_lt hsp) ⟨sp, hsp, hR, j, hj, hmy, rfl⟩
        rw [← key]
        exact ⟨fun h => h.elim (fun z => by cases z) (fun z => z.2.2), fun h => Or.inr ⟨hsp, rfl, h⟩⟩
      · rw [wbI_o (by omega) (by omega) e]; exact i2 b (by omega) hb2 sp hsp hR
end WBq
