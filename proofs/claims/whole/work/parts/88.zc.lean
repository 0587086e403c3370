/-! rallies: the reference's soonest hours -/
theorem b_nI {x i : Nat} (hi : i < 32) : bt (nI x) i = x.testBit i := by
  show (BitVec.ofNat 32 x).getLsbD i = _
  rw [BitVec.getLsbD_ofNat, decide_eq_true hi, Bool.true_and]
theorem full_iff {td set : Nat} (htd : td < 128) : (nI td &&& (nI set ^^^ (-1)) = 0) ↔ set &&& td = td := by
  constructor
  · intro h
    refine Nat.eq_of_testBit_eq (fun i => ?_)
    rw [Nat.testBit_and]
    rcases Nat.lt_or_ge i 32 with q | q
    · have e := b_and (nI td) (nI set ^^^ (-1)) i
      rw [h, b_0, b_xor, b_m1 i q, b_nI q, b_nI q] at e
      cases h1 : td.testBit i <;> cases h2 : set.testBit i <;> simp_all
    · rw [Nat.testBit_lt_two_pow (Nat.lt_of_lt_of_le (show td < 2 ^ 7 from htd) (Nat.pow_le_pow_right (by decide) (by omega))), Bool.and_false]
  · intro h
    refine b_ext (fun i hi => ?_)
    have e : (set &&& td).testBit i = td.testBit i := by rw [h]
    rw [Nat.testBit_and] at e
    rw [b_and, b_0, b_xor, b_m1 i hi, b_nI hi, b_nI hi]
    cases h1 : td.testBit i <;> cases h2 : set.testBit i <;> simp_all
/-- the class's spot of the reference's -/
def spt (td hill set : Nat) : Nat := hill * 128 + (set &&& td)
theorem x_128 : ∀ z, z < 128 → z ^^^ 128 = 128 + z ∧ (128 + z) ^^^ 128 = z ∧ 128 ||| z = 128 + z := by decide +kernel
theorem an_lt {td x : Nat} (htd : td < 128) : x &&& td < 128 := Nat.lt_of_le_of_lt Nat.and_le_right htd
theorem spt_lt {td hill set : Nat} (htd : td < 128) (hh : hill < 2) : spt td hill set < 256 := by
  have := an_lt (x := set) htd
  unfold spt; omega
theorem spt_m {td hill set : Nat} (htd : td < 128) : spt td hill set % 128 = set &&& td := by
  have := an_lt (x := set) htd
  unfold spt; omega
theorem spt_h {td hill set : Nat} (htd : td < 128) (hh : hill < 2) : spt td hill set / 128 % 2 = hill := by
  have := an_lt (x := set) htd
  unfold spt; omega
theorem spt_af {td hill set p : Nat} (htd : td < 128) (hh : hill < 2) : afN td (spt td hill set) (p + 1) = spt td (1 - hill) (set ||| 2 ^ p) := by
  have h1 := an_lt (x := set) htd
  have h2 : td &&& 2 ^ p < 128 := by rw [Nat.and_comm]; exact an_lt htd
  have e : (set ||| 2 ^ p) &&& td = (set &&& td) ||| (td &&& 2 ^ p) := by
    refine Nat.eq_of_testBit_eq (fun i => ?_)
    rw [Nat.testBit_and, Nat.testBit_or, Nat.testBit_or, Nat.testBit_and, Nat.testBit_and]
    cases set.testBit i <;> cases td.testBit i <;> cases (2 ^ p).testBit i <;> rfl
  unfold afN spt
  rw [if_neg (by omega), Nat.add_sub_cancel, e]
  generalize set &&& td = x at *
  generalize td &&& 2 ^ p = y at *
  have h3 : x ||| y < 128 := Nat.or_lt_two_pow (n := 7) h1 h2
  rcases (show hill = 0 ∨ hill = 1 by omega) with rfl | rfl
  · rw [Nat.zero_mul, Nat.zero_add, (x_128 x h1).1, ← (x_128 x h1).2.2, Nat.or_assoc, (x_128 _ h3).2.2]; omega
  · rw [Nat.one_mul, (x_128 x h1).2.1]; omega
theorem Fw_full {my : Nat → Nat → Nat → Bool} {td m : Nat} (h0 : ∀ t sp, my t sp 0 = true) : ∀ r sp, sp % 128 = td → Fw my td m r sp
  | 0, _, h => h
  | r + 1, sp, h => ⟨0, by decide, h0 _ _, Fw_full h0 r sp h⟩
section SOq
variable {a : Nat → Int32} {n hr td : Nat}
theorem soL_full {h hill set : Nat} {nxt : Nat → Nat → Int32} (hF : nI td &&& (nI set ^^^ (-1)) = 0) (p : Nat) : soL a hr td h nxt hill set p = nI h := by
  have e0 : soL a hr td h nxt hill set 0 = nI h := by rw [soL, if_pos hF]
  have := soL_stop (a := a) (hr := hr) (td := td) (h := h) (hill := hill) (set := set) (p := 0) (nxt := nxt) (by rw [e0, fa_lt]; omega) p
  rw [Nat.zero_add, e0] at this
  exact this
theorem soL_no {h hill set : Nat} {nxt : Nat → Nat → Int32} {V : Nat → Nat → Nat} (hh : h ≤ 20) (hV : ∀ x y, nxt x y = nI (V x y) ∧ h + 1 ≤ V x y ∧ V x y ≤ 1000000) (hF : ¬ nI td &&& (nI set ^^^ (-1)) = 0) : ∀ p, ∃ v, soL a hr td h nxt hill set p = nI v ∧ h + 1 ≤ v ∧ v ≤ 1000000 ∧ ∀ m, (v ≤ m ↔ (V hill set ≤ m ∨ ∃ q, q < p ∧ soP a hr h hill q = true ∧ V (1 - hill) (set ||| 2 ^ q) ≤ m))
  | 0 => ⟨V hill set, by rw [soL, if_neg hF]; exact (hV _ _).1, (hV _ _).2.1, (hV _ _).2.2, fun m => ⟨fun h => Or.inl h, fun h => h.elim id (fun ⟨q, hq, _⟩ => absurd hq (Nat.not_lt_zero _))⟩⟩
  | p + 1 => by
    obtain ⟨v, e, h1, h2, h3⟩ := soL_no hh hV hF p
    obtain ⟨w1, w2, w3⟩ := hV (1 - hill) (set ||| 2 ^ p)
    rw [soL, e, if_pos (nI_lt (by omega) (by omega))]
    have old : ∀ m, (∃ q, q < p + 1 ∧ soP a hr h hill q = true ∧ V (1 - hill) (set ||| 2 ^ q) ≤ m) ↔ ((∃ q, q < p ∧ soP a hr h hill q = true ∧ V (1 - hill) (set ||| 2 ^ q) ≤ m) ∨ (soP a hr h hill p = true ∧ V (1 - hill) (set ||| 2 ^ p) ≤ m)) := fun m => by
      constructor
      · rintro ⟨q, hq, z⟩
        rcases Nat.lt_or_ge q p with y | y
        · exact Or.inl ⟨q, y, z⟩
        · rw [show q = p by omega] at z; exact Or.inr z
      · rintro (⟨q, hq, z⟩ | z)
        · exact ⟨q, by omega, z⟩
        · exact ⟨p, by omega, z⟩
    cases hp : soP a hr h hill p
    · rw [if_neg (by decide)]
      refine ⟨v, rfl, h1, h2, fun m => ?_⟩
      rw [h3 m, old m, hp]; simp
    · rw [if_pos rfl, w1]
      by_cases c : V (1 - hill) (set ||| 2 ^ p) < v
      · rw [if_pos (nI_lt c (by omega))]
        refine ⟨_, rfl, w2, w3, fun m => ?_⟩
        rw [old m, ← or_assoc, ← h3 m, hp]
        constructor
        · intro z; exact Or.inr ⟨rfl, z⟩
        · rintro (z | z)
          · omega
          · exact z.2
      · rw [if_neg (fun z => c ((nI_ltI (by omega) (by omega)).mp z))]
        refine ⟨v, rfl, h1, h2, fun m => ?_⟩
        rw [old m, ← or_assoc, ← h3 m, hp]
        constructor
        · intro z; exact Or.inl z
        · rintro (z | z)
          · exact z
          · have := z.2; omega
variable {co : Nat → Int32 → Int32}
theorem so_Fw (hn : n ≤ 7) (htd : td < 128) (hco : ∀ t hill q, hill < 2 → q < 7 → tb (co t (nI hill)) q = (decide (q < n) && soP a hr t hill q)) : ∀ d, d ≤ 20 → ∀ hill set, ∃ v, soD a n hr td d hill set = nI v ∧ 20 - d ≤ v ∧ v ≤ 1000000 ∧ ∀ m, 20 - d ≤ m → m ≤ 20 → hill < 2 → (v ≤ m ↔ Fw (myA co) td m (m - (20 - d)) (spt td hill set))
  | 0, _, hill, set => by
    have e0 : soD a n hr td 0 hill set = if nI td &&& (nI set ^^^ (-1)) = 0 then nI 20 else 1000000 := rfl
    rw [e0]
    by_cases hF : nI td &&& (nI set ^^^ (-1)) = 0
    · rw [if_pos hF]
      refine ⟨20, rfl, by omega, by omega, fun m h1 h2 _ => ?_⟩
      rw [show m - (20 - 0) = 0 by omega]
      show _ ↔ spt td hill set % 128 = td
      rw [spt_m htd]
      exact ⟨fun _ => (full_iff htd).mp hF, fun _ => by omega⟩
    · rw [if_neg hF]
      refine ⟨1000000, rfl, by omega, by omega, fun m h1 h2 _ => ?_⟩
      rw [show m - (20 - 0) = 0 by omega]
      show _ ↔ spt td hill set % 128 = td
      rw [spt_m htd]
      exact ⟨fun _ => by omega, fun h => absurd ((full_iff htd).mpr h) hF⟩
  | d + 1, hd, hill, set => by
    have ih := so_Fw hn htd hco d (by omega)
    rw [soD]
    by_cases hF : nI td &&& (nI set ^^^ (-1)) = 0
    · refine ⟨20 - (d + 1), soL_full hF n, Nat.le_refl _, by omega, fun m h1 h2 _ => ⟨fun _ => ?_, fun _ => h1⟩⟩
      exact Fw_full (fun _ _ => rfl) _ _ (by rw [spt_m htd]; exact (full_iff htd).mp hF)
    · have hV : ∃ V : Nat → Nat → Nat, ∀ x y, soD a n hr td d x y = nI (V x y) ∧ 20 - d ≤ V x y ∧ V x y ≤ 1000000 ∧ ∀ m, 20 - d ≤ m → m ≤ 20 → x < 2 → (V x y ≤ m ↔ Fw (myA co) td m (m - (20 - d)) (spt td x y)) :=
        ⟨fun x y => Classical.choose (ih x y), fun x y => Classical.choose_spec (ih x y)⟩
      obtain ⟨V, hV⟩ := hV
      obtain ⟨v, e, h1, h2, h3⟩ := soL_no (a := a) (hr := hr) (h := 20 - (d + 1)) (hill := hill) (nxt := soD a n hr td d) (V := V) (by omega) (fun x y => ⟨(hV x y).1, by have := (hV x y).2.1; omega, (hV x y).2.2.1⟩) hF n
      refine ⟨v, e, by omega, h2, fun m g1 g2 hh => ?_⟩
      rcases Nat.lt_or_ge (20 - (d + 1)) m with q | q
      · rw [h3 m, (hV hill set).2.2.2 m (by omega) g2 hh, show m - (20 - (d + 1)) = (m - (20 - d)) + 1 by omega]
        have e9 : m - (m - (20 - d) + 1) = 20 - (d + 1) := by omega
        have hA : ∀ p, p < n → (V (1 - hill) (set ||| 2 ^ p) ≤ m ↔ Fw (myA co) td m (m - (20 - d)) (afN td (spt td hill set) (p + 1))) := fun p hp => by
          rw [spt_af htd hh]; exact (hV _ _).2.2.2 m (by omega) g2 (by omega)
        constructor
        · rintro (z | ⟨p, hp, z1, z2⟩)
          · exact ⟨0, by decide, rfl, z⟩
          · refine ⟨p + 1, by omega, ?_, (hA p hp).mp z2⟩
            rw [e9, myA, if_neg (by omega), spt_h htd hh, Nat.add_sub_cancel, hco _ _ _ hh (by omega), decide_eq_true hp, z1]; rfl
        · rintro ⟨j, hj, z1, z2⟩
          rcases j with _ | p
          · exact Or.inl z2
          · rw [e9, myA, if_neg (by omega), spt_h htd hh, Nat.add_sub_cancel, hco _ _ _ hh (by omega), Bool.and_eq_true, decide_eq_true_eq] at z1
            exact Or.inr ⟨p, z1.1, z1.2, (hA p z1.1).mpr z2⟩
      · have em : m - (20 - (d + 1)) = 0 := by omega
        rw [em]
        show _ ↔ spt td hill set % 128 = td
        rw [spt_m htd]
        exact ⟨fun _ => by omega, fun h => absurd ((full_iff htd).mpr h) hF⟩
end SOq
