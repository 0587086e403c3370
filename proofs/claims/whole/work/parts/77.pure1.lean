/-! what each call leaves: class and reference stay together -/
theorem IR.mono {B B' : Nat} {k j : Int32} {wide : Int32} {wd ck : Nat → Int32} {n : Nat} {pf : Nat → Int32} {sn : Nat} {sf : Nat → Int32} {nn : Nat} {nf : Nat → Int32} {mn : Nat} {mf : Nat → Int32} {u : Nat} {uf a : Nat → Int32} (h : IR B k j wide wd ck n pf sn sf nn nf mn mf u uf a) (hb : B ≤ B') : IR B' k j wide wd ck n pf sn sf nn nf mn mf u uf a :=
  ⟨h.1, h.2.imp id (fun q => ⟨q.1, q.2.mono hb⟩)⟩
theorem iw_ex {x : Int32} {m : Nat} (h : iw x 0 (nI m) = true) (hm : m < 2 ^ 31) : ∃ k : Nat, k ≤ m ∧ x = nI k := by
  have h1 : (0 : Int32) ≤ x ∧ x ≤ nI m := by simpa [iw] using h
  obtain ⟨j, hj, rfl⟩ := nI_of (x := x) (Int32.not_lt.mpr h1.1)
  exact ⟨j, (nI_leI hj hm).mp h1.2, rfl⟩
theorem iw_rg {x lo hi : Int32} (h : iw x lo hi = true) : Rg x lo.toInt hi.toInt := by
  have h1 : lo ≤ x ∧ x ≤ hi := by simpa [iw] using h
  rw [fa_le, fa_le] at h1; exact h1
theorem iw_01 {x : Int32} (h : iw x 0 1 = true) : x = 0 ∨ x = 1 := by
  obtain ⟨k, hk, rfl⟩ := iw_ex (m := 1) h (by decide)
  rcases (show k = 0 ∨ k = 1 by omega) with rfl | rfl
  · exact Or.inl rfl
  · exact Or.inr rfl
theorem seven {P : Nat → Prop} (h0 : P 0) (h1 : P 1) (h2 : P 2) (h3 : P 3) (h4 : P 4) (h5 : P 5) (h6 : P 6) : ∀ i, i < 7 → P i := by
  intro i hi
  rcases (show i = 0 ∨ i = 1 ∨ i = 2 ∨ i = 3 ∨ i = 4 ∨ i = 5 ∨ i = 6 by omega) with rfl | rfl | rfl | rfl | rfl | rfl | rfl <;> assumption
theorem bg_lo {a : Nat → Int32} {w : Int32} {i : Nat} (h : i < 103) (h5 : i ≠ 5) (h7 : i ≠ 7) (h9 : i ≠ 9) : bgA a w i = 0 := by
  unfold bgA; rw [pk_un h9, pk_un h7, pk_un h5]; exact if_pos h
theorem ckO_0 {B : Nat} {ck : Nat → Int32} : ckO B (dC0 ck) := ⟨⟨0, rfl, by decide⟩, ⟨0, rfl, by decide⟩, Or.inr rfl, (show Rg 1 1 9 from ⟨by decide, by decide⟩), ⟨0, rfl, Nat.zero_le _⟩, ⟨0, rfl, Nat.zero_le _⟩⟩
section VP
variable {B B' : Nat} {wide : Int32} {wd ck : Nat → Int32} {n : Nat} {pf : Nat → Int32} {sn : Nat} {sf : Nat → Int32} {nn : Nat} {nf : Nat → Int32} {mn : Nat} {mf : Nat → Int32} {u : Nat} {uf a a' ck' : Nat → Int32}
theorem VR_start {w : Int32} : VR B w (dW0 wd) (dC0 ck) 0 pf 0 sf 0 nf 0 mf 0 uf (bgA a w) := by
  refine ⟨⟨by omega, by omega, by omega, by omega, by omega⟩, ⟨fun i hi => ?_, fun i hi => absurd hi (Nat.not_lt_zero _), fun i hi => absurd hi (Nat.not_lt_zero _), fun i hi => absurd hi (Nat.not_lt_zero _), fun i hi => absurd hi (Nat.not_lt_zero _)⟩, ⟨ckO_0, fun j hj => absurd hj (Nat.not_lt_zero _)⟩, ⟨rfl, rfl, rfl, rfl, rfl, rfl⟩, ⟨seven rfl rfl rfl rfl rfl rfl rfl, fun i hi => ?_, fun k hk => absurd hk (Nat.not_lt_zero _)⟩, ⟨fun i hi => absurd hi (by omega), fun i hi => absurd hi (by omega), fun i hi => absurd hi (by omega), fun i hi => absurd hi (by omega)⟩⟩
  · rw [dW0, if_pos hi]; exact ⟨by decide, by decide⟩
  · rw [dW0, if_pos hi]; exact bg_lo (by omega) (by omega) (by omega) (by omega)
theorem VR_ck (h : VR B wide wd ck n pf sn sf nn nf mn mf u uf a) (hb : B ≤ B') (hc : ckO B' ck') (h1 : ∀ i, i < 7 → a' (6 + i) = ck' i) (h2 : ∀ i, i < 6 ∨ 13 ≤ i → a' i = a i) : VR B' wide wd ck' n pf sn sf nn nf mn mf u uf a' := by
  obtain ⟨g1, g2, ⟨-, g3⟩, ⟨p0, p1, p2, p3, p4, p5⟩, ⟨-, q2, q3⟩, ⟨r1, r2, r3, r4⟩⟩ := h
  have H (i : Nat) (hi : i < 6) : a' i = a i := h2 i (Or.inl hi)
  have H2 (i : Nat) (hi : 13 ≤ i) : a' i = a i := h2 i (Or.inr hi)
  refine ⟨g1, g2, ⟨hc, fun j hj => (g3 j hj).mono hb⟩, ⟨by rw [H 0 (by omega)]; exact p0, by rw [H 1 (by omega)]; exact p1, by rw [H 2 (by omega)]; exact p2, by rw [H 3 (by omega)]; exact p3, by rw [H 4 (by omega)]; exact p4, by rw [H 5 (by omega)]; exact p5⟩, ⟨h1, fun i hi => by rw [H2 _ (by omega)]; exact q2 i hi, fun k hk => ⟨by rw [H2 _ (by omega)]; exact (q3 k hk).1, by rw [H2 _ (by omega)]; exact (q3 k hk).2.1, by rw [H2 _ (by omega)]; exact (q3 k hk).2.2⟩⟩, ⟨fun i hi => by rw [H2 _ (by omega)]; exact r1 i hi, fun i hi => by rw [H2 _ (by omega)]; exact r2 i hi, fun i hi => by rw [H2 _ (by omega)]; exact r3 i hi, fun i hi => by rw [H2 _ (by omega)]; exact r4 i hi⟩⟩
theorem svA_hi {u i : Nat} (hu : u < 8) (h : 103 ≤ i) : svA a u i = if 103 + 7 * u ≤ i ∧ i < 103 + 7 * u + 7 then a (6 + (i - (103 + 7 * u))) else a i := by
  unfold svA
  rw [if_neg (by omega), pk_un (by omega)]; rfl
theorem svA_8 {i : Nat} (h : 103 ≤ i) (h2 : i < 159) : svA a 8 i = if i < 152 then a (i + 7) else a (6 + (i - 152)) := by
  unfold svA
  rw [if_pos rfl, pk_un (by omega)]
  by_cases q : i < 152
  · rw [if_pos q, fb_put_out (Or.inl q), pk_un (by omega), fb_put_in h (by omega)]
    show a (110 + (i - 103)) = _
    congr 1; omega
  · rw [if_neg q, fb_put_in (by omega) (by omega)]; rfl
theorem pu_lt {u i : Nat} (hu : u < 8) : pu u uf ck i = if u * 7 ≤ i ∧ i < u * 7 + 7 then ck (0 + (i - u * 7)) else uf i := by
  unfold pu; rw [if_neg (by omega)]; rfl
theorem pu_8 {i : Nat} (h2 : i < 56) : pu 8 uf ck i = if i < 49 then uf (i + 7) else ck (i - 49) := by
  unfold pu
  rw [if_pos (by decide)]
  by_cases q : i < 49
  · rw [if_pos q, pk_cpy_out (Or.inl q), pk_cpy_in (by omega) (by omega)]; congr 1; omega
  · rw [if_neg q, pk_cpy_in (by omega) (by omega)]; congr 1; omega
theorem VR_save (h : VR B wide wd ck n pf sn sf nn nf mn mf u uf a) : VR B wide wd ck n pf sn sf nn nf mn mf (pun u) (pu u uf ck) (svA a u) := by
  obtain ⟨⟨n1, n2, n3, n4, n5⟩, g2, ⟨g3, g4⟩, ⟨p0, p1, p2, p3, p4, p5⟩, ⟨q1, q2, q3⟩, ⟨r1, r2, r3, r4⟩⟩ := h
  have lo (i : Nat) (hi : i < 103) (h4 : i ≠ 4) : svA a u i = a i := svA_lo hi h4
  have hpu : pun u ≤ 8 := by unfold pun; split <;> omega
  have key : (∀ i, i < pun u * 7 → svA a u (103 + i) = pu u uf ck i) ∧ ∀ j, j < pun u → ckO B (fun i => pu u uf ck (7 * j + i)) := by
    rcases Nat.lt_or_ge u 8 with q | q
    · have e : pun u = u + 1 := by unfold pun; rw [if_neg (by omega)]
      rw [e]
      refine ⟨fun i hi => ?_, fun j hj => ?_⟩
      · rw [svA_hi q (by omega), pu_lt q]
        by_cases z : u * 7 ≤ i ∧ i < u * 7 + 7
        · rw [if_pos (by omega), if_pos z, show 103 + i - (103 + 7 * u) = 0 + (i - u * 7) by omega]
          exact q1 _ (by omega)
        · rw [if_neg (by omega), if_neg z]; exact r4 i (by omega)
      · rcases Nat.lt_or_ge j u with z | z
        · refine (g4 j z).cong (fun i hi => ?_)
          rw [pu_lt q, if_neg (by omega)]
        · refine g3.cong (fun i hi => ?_)
          rw [pu_lt q, if_pos (by omega)]; congr 1; omega
    · have e8 : u = 8 := by omega
      subst e8
      have e : pun 8 = 8 := rfl
      rw [e]
      refine ⟨fun i hi => ?_, fun j hj => ?_⟩
      · rw [svA_8 (by omega) (by omega), pu_8 (by omega)]
        by_cases z : i < 49
        · rw [if_pos (by omega), if_pos z, show 103 + i + 7 = 103 + (i + 7) by omega]; exact r4 (i + 7) (by omega)
        · rw [if_neg (by omega), if_neg z, show 103 + i - 152 = i - 49 by omega]; exact q1 (i - 49) (by omega)
      · rcases Nat.lt_or_ge j 7 with z | z
        · refine (g4 (j + 1) (by omega)).cong (fun i hi => ?_)
          rw [pu_8 (by omega), if_pos (by omega)]; congr 1; omega
        · refine g3.cong (fun i hi => ?_)
          rw [pu_8 (by omega), if_neg (by omega)]; congr 1; omega
  have e4 : svA a u 4 = nI (pun u) := by
    unfold svA pun
    rcases Nat.lt_or_ge u 8 with q | q
    · rw [if_neg (by omega), if_neg (by omega), pk_us]
    · rw [if_pos (by omega), if_pos (by omega), pk_us]
  refine ⟨⟨n1, n2, n3, n4, hpu⟩, g2, ⟨g3, key.2⟩, ⟨by rw [lo 0 (by omega) (by omega)]; exact p0, by rw [lo 1 (by omega) (by omega)]; exact p1, by rw [lo 2 (by omega) (by omega)]; exact p2, by rw [lo 3 (by omega) (by omega)]; exact p3, e4, by rw [lo 5 (by omega) (by omega)]; exact p5⟩, ⟨fun i hi => by rw [lo _ (by omega) (by omega)]; exact q1 i hi, fun i hi => by rw [lo _ (by omega) (by omega)]; exact q2 i hi, fun k hk => ⟨by rw [lo _ (by omega) (by omega)]; exact (q3 k hk).1, by rw [lo _ (by omega) (by omega)]; exact (q3 k hk).2.1, by rw [lo _ (by omega) (by omega)]; exact (q3 k hk).2.2⟩⟩, ⟨fun i hi => by rw [lo _ (by omega) (by omega)]; exact r1 i hi, fun i hi => by rw [lo _ (by omega) (by omega)]; exact r2 i hi, fun i hi => by rw [lo _ (by omega) (by omega)]; exact r3 i hi, key.1⟩⟩
theorem VR_wind {h9 : Nat} {w : Int32} (h : VR B wide wd ck n pf sn sf nn nf mn mf u uf a) (hh : h9 < 6) (hw : iw w (-4) 4 = true) : VR B wide (upd wd h9 w) ck n pf sn sf nn nf mn mf 0 uf (upd (upd a (13 + h9) w) 4 0) := by
  obtain ⟨⟨n1, n2, n3, n4, n5⟩, ⟨w1, w2, w3, w4, w5⟩, ⟨g3, g4⟩, ⟨p0, p1, p2, p3, p4, p5⟩, ⟨q1, q2, q3⟩, ⟨r1, r2, r3, r4⟩⟩ := h
  have lo (i : Nat) (hi : i < 13 ∨ 19 ≤ i) (h4 : i ≠ 4) : upd (upd a (13 + h9) w) 4 0 i = a i := by rw [pk_un h4, pk_un (by omega)]
  refine ⟨⟨n1, n2, n3, n4, by omega⟩, ⟨fun i hi => ?_, w2, w3, w4, w5⟩, ⟨g3, fun j hj => absurd hj (Nat.not_lt_zero _)⟩, ⟨by rw [lo 0 (by omega) (by omega)]; exact p0, by rw [lo 1 (by omega) (by omega)]; exact p1, by rw [lo 2 (by omega) (by omega)]; exact p2, by rw [lo 3 (by omega) (by omega)]; exact p3, pk_us, by rw [lo 5 (by omega) (by omega)]; exact p5⟩, ⟨fun i hi => by rw [lo _ (by omega) (by omega)]; exact q1 i hi, fun i hi => ?_, fun k hk => ⟨by rw [lo _ (by omega) (by omega)]; exact (q3 k hk).1, by rw [lo _ (by omega) (by omega)]; exact (q3 k hk).2.1, by rw [lo _ (by omega) (by omega)]; exact (q3 k hk).2.2⟩⟩, ⟨fun i hi => by rw [lo _ (by omega) (by omega)]; exact r1 i hi, fun i hi => by rw [lo _ (by omega) (by omega)]; exact r2 i hi, fun i hi => by rw [lo _ (by omega) (by omega)]; exact r3 i hi, fun i hi => absurd hi (by omega)⟩⟩
  · by_cases e : i = h9
    · subst e; rw [pk_us]; exact (iw_rg hw).w (by decide) (by decide)
    · rw [pk_un e]; exact w1 i hi
  · rw [pk_un (by omega)]
    by_cases e : i = h9
    · subst e; rw [pk_us, pk_us]
    · rw [pk_un (by omega), pk_un e]; exact q2 i hi
theorem VR_player {kd hl_ am : Int32} (h : VR B wide wd ck n pf sn sf nn nf mn mf u uf a) (hn7 : n < 7) (h2 : iw hl_ 0 1 = true) (h3 : iw am 1 9 = true) : VR B wide wd ck (n + 1) (upd (upd (upd pf (n * 3 + 0) kd) (n * 3 + 1) hl_) (n * 3 + 2) am) sn sf nn nf mn mf 0 uf (upd (upd (upd (upd (upd a (19 + n) kd) (26 + n) hl_) (33 + n) am) 0 (nI (n + 1))) 4 0) := by
  obtain ⟨⟨n1, n2, n3, n4, n5⟩, ⟨w1, w2, w3, w4, w5⟩, ⟨g3, g4⟩, ⟨p0, p1, p2, p3, p4, p5⟩, ⟨q1, q2, q3⟩, ⟨r1, r2, r3, r4⟩⟩ := h
  have lo (i : Nat) (hi : i < 19 ∨ 40 ≤ i) (h4 : i ≠ 4) (h0 : i ≠ 0) : upd (upd (upd (upd (upd a (19 + n) kd) (26 + n) hl_) (33 + n) am) 0 (nI (n + 1))) 4 0 i = a i := by rw [pk_un h4, pk_un h0, pk_un (by omega), pk_un (by omega), pk_un (by omega)]
  have pfo (j : Nat) (hj : j < n * 3) : upd (upd (upd pf (n * 3 + 0) kd) (n * 3 + 1) hl_) (n * 3 + 2) am j = pf j := by rw [pk_un (by omega), pk_un (by omega), pk_un (by omega)]
  have pf1 : upd (upd (upd pf (n * 3 + 0) kd) (n * 3 + 1) hl_) (n * 3 + 2) am (n * 3 + 1) = hl_ := by rw [pk_un (by omega), pk_us]
  have pf0 : upd (upd (upd pf (n * 3 + 0) kd) (n * 3 + 1) hl_) (n * 3 + 2) am (n * 3 + 0) = kd := by rw [pk_un (by omega), pk_un (by omega), pk_us]
  refine ⟨⟨by omega, n2, n3, n4, by omega⟩, ⟨w1, fun i hi => ?_, fun i hi => ?_, fun i hi => ?_, w5⟩, ⟨g3, fun j hj => absurd hj (Nat.not_lt_zero _)⟩, ⟨by rw [pk_un (by decide), pk_us], by rw [lo 1 (by omega) (by omega) (by omega)]; exact p1, by rw [lo 2 (by omega) (by omega) (by omega)]; exact p2, by rw [lo 3 (by omega) (by omega) (by omega)]; exact p3, pk_us, by rw [lo 5 (by omega) (by omega) (by omega)]; exact p5⟩, ⟨fun i hi => by rw [lo _ (by omega) (by omega) (by omega)]; exact q1 i hi, fun i hi => by rw [lo _ (by omega) (by omega) (by omega)]; exact q2 i hi, fun k hk => ?_⟩, ⟨fun i hi => by rw [lo _ (by omega) (by omega) (by omega)]; exact r1 i hi, fun i hi => by rw [lo _ (by omega) (by omega) (by omega)]; exact r2 i hi, fun i hi => by rw [lo _ (by omega) (by omega) (by omega)]; exact r3 i hi, fun i hi => absurd hi (by omega)⟩⟩
  · by_cases e : i = n
    · subst e; rw [pk_us]; exact (iw_rg h3).w (by decide) (by decide)
    · rw [pfo _ (by omega)]; exact w2 i (by omega)
  · by_cases e : i = n
    · subst e; rw [pf1]; exact iw_01 h2
    · rw [pfo _ (by omega)]; exact w3 i (by omega)
  · obtain ⟨k, t, z1, z2, z3, z4⟩ := w4 i hi
    exact ⟨k, t, by omega, z2, z3, z4⟩
  · by_cases e : k = n
    · subst e
      rw [pf0, pf1, pk_us, pk_un (by omega), pk_un (by omega), pk_un (by omega), pk_un (by omega), pk_us, pk_un (by omega), pk_un (by omega), pk_un (by omega), pk_us, pk_un (by omega), pk_un (by omega), pk_us]
      exact ⟨rfl, rfl, rfl⟩
    · have z := q3 k (by omega)
      rw [pfo _ (by omega), pfo _ (by omega), pfo _ (by omega)]
      rw [pk_un (by omega), pk_un (by omega), pk_un (by omega), pk_un (by omega), pk_un (by omega), pk_un (by omega), pk_un (by omega), pk_un (by omega), pk_un (by omega), pk_un (by omega), pk_un (by omega), pk_un (by omega), pk_un (by omega), pk_un (by omega), pk_un (by omega)]
      exact z
end VP
