/-! rallies: both find the same -/
theorem tb_or {x y : Int32} {b : Nat} (hb : b < 32) : tb (x ||| y) b = (tb x b || tb y b) := by rw [tb_bt hb, tb_bt hb, tb_bt hb, b_or]
section RYc
variable {B : Nat} {wide : Int32} {wd ck : Nat → Int32} {n : Nat} {pf : Nat → Int32} {sn : Nat} {sf : Nat → Int32} {nn : Nat} {nf : Nat → Int32} {mn : Nat} {mf : Nat → Int32} {u : Nat} {uf a : Nat → Int32}
theorem co_so {hr : Nat} (h : VR B wide wd ck n pf sn sf nn nf mn mf u uf a) : ∀ t hill q, hill < 2 → q < 7 → tb (cof wide ck wd pf n hr t (nI hill)) q = (decide (q < n) && soP a hr t hill q) := by
  intro t hill q hh hq
  have hn := h.1.1
  rw [tb_bt (by omega), cof, b_orF n (by omega) q (by omega)]
  by_cases hqn : q < n
  · congr 1
    unfold soP
    rw [cr_eq h hqn, (h.2.2.2.2.1.2.2 q hqn).2.1]
    by_cases e : pf (q * 3 + 1) = nI hill
    · rw [e]
    · rw [decide_eq_false e, Bool.false_and, Bool.false_and]
  · rw [decide_eq_false hqn, Bool.false_and, Bool.false_and]
end RYc
section RYd
variable {co : Nat → Int32 → Int32} {car0 rea fin a : Nat → Int32} {td fh n hr : Nat}
theorem sp_0 : fh * 128 = spt td fh 0 := by rw [spt, Nat.zero_and, Nat.add_zero]
theorem frD_iff (hf : fh < 2) (htd : td < 128) {t v : Nat} (ht : t < 20) (hv : v ≤ t + 1 ↔ Fw (myA co) td (t + 1) (t + 1) (fh * 128)) : frD co car0 td (r00 fh rea) t = true ↔ v ≤ t + 1 := by
  rw [hv, ← Rc_full (by omega), frD, tb_or (by omega), Bool.or_eq_true, or_128 td htd, frR_b hf (t + 1) (by omega) (t + 1) (by omega) td (by omega), frR_b hf (t + 1) (by omega) (t + 1) (by omega) (td + 128) (by omega)]
  constructor
  · rintro (⟨_, h⟩ | ⟨_, h⟩)
    · exact ⟨_, h, by omega⟩
    · exact ⟨_, h, by omega⟩
  · rintro ⟨sp, h, e⟩
    have hl := Rc_lt (show fh * 128 < 256 by omega) _ _ h
    rcases (show sp = td ∨ sp = td + 128 by omega) with q | q
    · exact Or.inl ⟨Nat.le_refl _, q ▸ h⟩
    · exact Or.inr ⟨Nat.le_refl _, q ▸ h⟩
theorem fr_val (hf : fh < 2) (htd : td < 128) (h0 : td ≠ 0) {v : Nat} (hv : ∀ m, m ≤ 20 → (v ≤ m ↔ Fw (myA co) td m m (fh * 128))) : 1 ≤ v ∧ (v ≤ 20 → frV co car0 td (r00 fh rea) = nI v ∧ frM co car0 td (r00 fh rea) = v) ∧ (¬ v ≤ 20 → frV co car0 td (r00 fh rea) = -1) := by
  have h1 : 1 ≤ v := by
    rcases Nat.eq_zero_or_pos v with e | e
    · have := (hv 0 (by omega)).mp (by omega)
      replace this : fh * 128 % 128 = td := this
      omega
    · exact e
  have hD : ∀ t, t < 20 → (frD co car0 td (r00 fh rea) t = true ↔ v ≤ t + 1) := fun t ht => frD_iff hf htd ht (hv (t + 1) (by omega))
  refine ⟨h1, fun h2 => ?_, fun h2 => ?_⟩
  · have e : frN co car0 td (r00 fh rea) = v - 1 := first_eq (by omega) (fun k hk => by
      rw [Bool.eq_false_iff]; intro z; have := (hD k (by omega)).mp z; omega) ((hD (v - 1) (by omega)).mpr (by omega))
    rw [frV, frM, e, if_pos (by omega), if_pos (by omega), show v - 1 + 1 = v by omega]
    exact ⟨rfl, rfl⟩
  · have e : frN co car0 td (r00 fh rea) = 20 := first_all (fun k hk => by
      rw [Bool.eq_false_iff]; intro z; have := (hD k (by omega)).mp z; omega)
    rw [frV, e, if_neg (by omega)]
/-- who strikes in which hour: both the same -/
theorem sk_eq {m : Nat} (hf : fh < 2) (hn : n ≤ 7) (htd : td < 128) (hm : m ≤ 20) (hco : ∀ t hill q, hill < 2 → q < 7 → tb (co t (nI hill)) q = (decide (q < n) && soP a hr t hill q)) (hF : Fw (myA co) td m m (fh * 128)) {car W : Nat → Int32} (ecar : car = frC co car0 m) (eW : W = wbO (frC co car0 m) (frR co car0 td (r00 fh rea) m) td m (wb0 td m fin) m) :
    ∀ t, t ≤ m → (Rc (myA co) td (fh * 128) t (spS car W td (fh * 128) t) ∧ Fw (myA co) td m (m - t) (spS car W td (fh * 128) t) ∧ spS car W td (fh * 128) t = spt td (skR a n hr td m fh t).1 (skR a n hr td m fh t).2.1 ∧ (skR a n hr td m fh t).1 < 2) ∧
      (∀ s, s < t → fsN car W td (spS car W td (fh * 128) s) s < 8 ∧ nI (fsN car W td (spS car W td (fh * 128) s) s) - 1 = (skR a n hr td m fh (s + 1)).2.2 ∧ (nI m < soD a n hr td (20 - (s + 1)) (skR a n hr td m fh s).1 (skR a n hr td m fh s).2.1 → wfN a n hr td s (skR a n hr td m fh s).1 (skR a n hr td m fh s).2.1 m < n))
  | 0, _ => ⟨⟨rfl, hF, sp_0, hf⟩, fun s hs => absurd hs (Nat.not_lt_zero _)⟩
  | t + 1, ht => by
    obtain ⟨⟨i1, i2, i3, i4⟩, i5⟩ := sk_eq hf hn htd hm hco hF ecar eW t (by omega)
    have hW := (wbO_b (co := co) (car0 := car0) (rea := rea) (fin := fin) hf htd (Nat.le_refl m) hm m (Nat.le_refl _)).2
    rw [← eW] at hW
    have hsp : spS car W td (fh * 128) t < 256 := spS_lt (by omega) t
    have es : spS car W td (fh * 128) (t + 1) = afN td (spS car W td (fh * 128) t) (fsN car W td (spS car W td (fh * 128) t) t) := rfl
    have ek : skR a n hr td m fh (t + 1) = if nI m < soD a n hr td (20 - (t + 1)) (skR a n hr td m fh t).1 (skR a n hr td m fh t).2.1 then (1 - (skR a n hr td m fh t).1, (skR a n hr td m fh t).2.1 ||| 2 ^ wfN a n hr td t (skR a n hr td m fh t).1 (skR a n hr td m fh t).2.1 m, nI (wfN a n hr td t (skR a n hr td m fh t).1 (skR a n hr td m fh t).2.1 m)) else ((skR a n hr td m fh t).1, (skR a n hr td m fh t).2.1, -1) := rfl
    generalize hs9 : spS car W td (fh * 128) t = sp at i1 i2 i3 hsp es
    generalize hS : skR a n hr td m fh t = S at i3 i4 ek
    obtain ⟨hill, set, z9⟩ := S
    replace i3 : sp = spt td hill set := i3
    replace i4 : hill < 2 := i4
    dsimp only at ek
    have hQ : ∀ j, j < 8 → (fsQ car W td sp t j = true ↔ (myA co t sp j = true ∧ Fw (myA co) td m (m - (t + 1)) (afN td sp j))) := fun j hj => by
      unfold fsQ
      rw [Bool.and_eq_true, ecar, my_A (by omega)]
      refine and_congr_right (fun hmy => ?_)
      exact hW (t + 1) (by omega) ht _ (af_lt hsp) ⟨sp, hsp, i1, j, hj, hmy, rfl⟩
    have hD : ∀ x y, x < 2 → (¬ nI m < soD a n hr td (20 - (t + 1)) x y ↔ Fw (myA co) td m (m - (t + 1)) (spt td x y)) := fun x y hx => by
      obtain ⟨v, e, h1, h2, h3⟩ := so_Fw hn htd hco (20 - (t + 1)) (by omega) x y
      have := h3 m (by omega) hm hx
      rw [show 20 - (20 - (t + 1)) = t + 1 by omega] at this
      rw [← this, e, nI_ltI (by omega) (by omega)]
      omega
    have h8 : fsN car W td sp t < 8 := by
      rw [show m - t = (m - (t + 1)) + 1 by omega] at i2
      obtain ⟨j, hj, h1, h2⟩ := i2
      rw [show m - (m - (t + 1) + 1) = t by omega] at h1
      exact first_lt.mpr ⟨j, hj, (hQ j hj).mpr ⟨h1, h2⟩⟩
    have hy : fsQ car W td sp t (fsN car W td sp t) = true := fa_first_yes _ 8 h8
    have hno : ∀ k, k < fsN car W td sp t → fsQ car W td sp t k = false := fa_first_no (fsQ car W td sp t) 8
    have hR1 : Rc (myA co) td (fh * 128) (t + 1) (spS car W td (fh * 128) (t + 1)) := by
      rw [es]; exact ⟨sp, hsp, i1, _, h8, ((hQ _ h8).mp hy).1, rfl⟩
    have hF1 : Fw (myA co) td m (m - (t + 1)) (spS car W td (fh * 128) (t + 1)) := by
      rw [es]; exact ((hQ _ h8).mp hy).2
    have fin9 : spS car W td (fh * 128) (t + 1) = spt td (skR a n hr td m fh (t + 1)).1 (skR a n hr td m fh (t + 1)).2.1 ∧ (skR a n hr td m fh (t + 1)).1 < 2 ∧ nI (fsN car W td sp t) - 1 = (skR a n hr td m fh (t + 1)).2.2 ∧ (nI m < soD a n hr td (20 - (t + 1)) hill set → wfN a n hr td t hill set m < n) := by
      by_cases c : nI m < soD a n hr td (20 - (t + 1)) hill set
      · rw [if_pos c] at ek
        have n0 : ¬ fsN car W td sp t = 0 := fun e => by
          rw [e] at hy
          have z : Fw (myA co) td m (m - (t + 1)) sp := ((hQ 0 (by omega)).mp hy).2
          rw [i3] at z
          exact (hD hill set i4).mpr z c
        obtain ⟨j, ej⟩ : ∃ j, fsN car W td sp t = j + 1 := ⟨fsN car W td sp t - 1, by omega⟩
        have hmy : ∀ p, p < 7 → myA co t sp (p + 1) = (decide (p < n) && soP a hr t hill p) := fun p hp => by
          rw [myA, if_neg (by omega), i3, spt_h htd i4, Nat.add_sub_cancel, hco _ _ _ i4 hp]
        have haf : ∀ p, (Fw (myA co) td m (m - (t + 1)) (afN td sp (p + 1)) ↔ ¬ nI m < soD a n hr td (20 - (t + 1)) (1 - hill) (set ||| 2 ^ p)) := fun p => by
          rw [i3, spt_af htd i4]; exact (hD _ _ (by omega)).symm
        have hw : ∀ p, p < n → (wfQ a n hr td t hill set m p = true ↔ fsQ car W td sp t (p + 1) = true) := fun p hp => by
          rw [hQ (p + 1) (by omega), hmy p (by omega), haf p, wfQ, Bool.and_eq_true, Bool.and_eq_true, Bool.not_eq_true', decide_eq_false_iff_not, decide_eq_true hp]; simp
        rw [ej] at hy hno es h8
        have hjn : j < n := by
          have z := ((hQ (j + 1) h8).mp hy).1
          rw [hmy j (by omega), Bool.and_eq_true, decide_eq_true_eq] at z
          exact z.1
        have ew : wfN a n hr td t hill set m = j := first_eq hjn (fun k hk => by
          rw [Bool.eq_false_iff]; intro z
          have z2 := (hw k (by omega)).mp z
          rw [hno (k + 1) (by omega)] at z2; cases z2) ((hw j hjn).mpr hy)
        rw [ek, ew, ej]
        exact ⟨by rw [es, i3, spt_af htd i4], by show 1 - hill < 2; omega, by rw [nI_m1 (by omega), Nat.add_sub_cancel], fun _ => hjn⟩
      · rw [if_neg c] at ek
        have e0 : fsN car W td sp t = 0 := first_eq (by omega) (fun k hk => absurd hk (Nat.not_lt_zero _)) ((hQ 0 (by omega)).mpr ⟨rfl, by
          show Fw (myA co) td m (m - (t + 1)) sp
          rw [i3]; exact (hD hill set i4).mp c⟩)
        rw [ek, e0]
        rw [e0] at es
        exact ⟨by rw [es]; exact i3, i4, by show nI 0 - 1 = (-1 : Int32); decide, fun h => absurd h c⟩
    refine ⟨⟨hR1, hF1, fin9.1, fin9.2.1⟩, fun s hs => ?_⟩
    rcases Nat.lt_or_ge s t with q | q
    · exact i5 s q
    · rw [show s = t by omega, hs9, hS]
      exact ⟨h8, fin9.2.2.1, fin9.2.2.2⟩
end RYd
section RYe
variable {B : Nat} {wide : Int32} {wd ck : Nat → Int32} {n : Nat} {pf : Nat → Int32} {sn : Nat} {sf : Nat → Int32} {nn : Nat} {nf : Nat → Int32} {mn : Nat} {mf : Nat → Int32} {u : Nat} {uf a : Nat → Int32} {car rea fin : Nat → Int32} {hr fh pl : Nat}
/-- the fewest hours: both the same -/
theorem rl_both (h : VR B wide wd ck n pf sn sf nn nf mn mf u uf a) (hf : fh < 2) (hpl : pl < 2 ^ n) :
    (∃ v, v ≤ 20 ∧ fwF wide ck wd pf n hr fh pl car rea = nI v ∧ rlF a n hr pl fh = nI v ∧ (v ≠ 0 → pl ≠ 0 ∧ ck 3 = 1 ∧ frM (cof wide ck wd pf n hr) car pl (r00 fh rea) = v ∧ Fw (myA (cof wide ck wd pf n hr)) pl v v (fh * 128))) ∨
    (fwF wide ck wd pf n hr fh pl car rea = -1 ∧ ∃ v, rlF a n hr pl fh = nI v ∧ 20 < v ∧ v ≤ 1000000) := by
  have hn := h.1.1
  have htd : pl < 128 := Nat.lt_of_lt_of_le hpl (pw7 hn).2
  have e9 : a 9 = ck 3 := h.2.2.2.2.1.1 3 (by decide)
  obtain ⟨v, e, h1, h2, h3⟩ := so_Fw hn htd (co_so (hr := hr) h) 20 (Nat.le_refl _) fh 0
  have hv : ∀ m, m ≤ 20 → (v ≤ m ↔ Fw (myA (cof wide ck wd pf n hr)) pl m m (fh * 128)) := fun m hm => by
    have := h3 m (by omega) hm hf
    rw [Nat.sub_self, Nat.sub_zero, ← sp_0] at this
    exact this
  by_cases h0 : pl = 0
  · left
    have e0 : v = 0 := by
      have := (hv 0 (by omega)).mpr (by show fh * 128 % 128 = pl; omega)
      omega
    subst e0
    refine ⟨0, by omega, by rw [fwF, if_pos h0]; rfl, ?_, fun z => absurd rfl z⟩
    rw [rlF, e, if_pos h0]
    exact ite_self _
  · by_cases hu : ck 3 = 1
    · obtain ⟨g1, g2, g3⟩ := fr_val (car0 := car) (rea := rea) hf htd h0 hv
      rw [fwF, if_neg h0, if_pos hu, rlF, e9, if_pos hu, e]
      by_cases q : v ≤ 20
      · exact Or.inl ⟨v, q, (g2 q).1, rfl, fun _ => ⟨h0, hu, (g2 q).2, (hv v q).mp (Nat.le_refl _)⟩⟩
      · exact Or.inr ⟨g3 q, v, rfl, by omega, h2⟩
    · right
      rw [fwF, if_neg h0, if_neg hu, rlF, e9, if_neg hu, if_neg h0]
      exact ⟨rfl, 1000000, rfl, by omega, by omega⟩
end RYe
theorem pl_ex {n : Nat} {p : Int32} (hn : n ≤ 7) (h : iw p 0 (((1 : Int32) <<< (nI n &&& 31)) - 1) = true) : ∃ pl, pl < 2 ^ n ∧ p = nI pl := by
  have hp := pw7 hn
  rw [sh1 n (by omega), nI_dec1 (by omega)] at h
  obtain ⟨k, hk, e⟩ := iw_ex (m := 2 ^ n - 1) h (by omega)
  exact ⟨k, by omega, e⟩
theorem k_ge {k : Int32} (h1 : -2 ≤ k) (h2 : ¬ k = -1) (h3 : ¬ k = -2) : 0 ≤ k := by
  rw [fa_le] at *
  rw [fa_eq] at h2 h3
  rw [show (-2 : Int32).toInt = -2 from by decide] at h1 h3
  rw [show (-1 : Int32).toInt = -1 from by decide] at h2
  rw [show (0 : Int32).toInt = 0 from by decide]; omega
theorem k_nlt {k : Int32} (h1 : -2 ≤ k) : ¬ k < -2 := by
  rw [fa_le] at h1
  rw [fa_lt]; omega
theorem k_ex {k : Int32} {v : Nat} (h0 : 0 ≤ k) (hv : v ≤ 20) (h : k < nI v) : ∃ j, j < v ∧ k = nI j := by
  obtain ⟨j, hj, rfl⟩ := nI_of (x := k) (Int32.not_lt.mpr h0)
  exact ⟨j, (nI_ltI hj (by omega)).mp h, rfl⟩
theorem nI_n0 {v : Nat} (hv : v ≤ 20) : ¬ nI v < 0 := by
  have := (nI_leI (a := 0) (b := v) (by omega) (by omega)).mpr (by omega)
  intro h; rw [fa_lt] at h; rw [fa_le] at this
  rw [show (nI 0).toInt = (0 : Int32).toInt from rfl] at this; omega
theorem nI_20 {v : Nat} (hv : v ≤ 20) : ¬ (20 : Int32) < nI v := fun h => by
  have := (nI_ltI (a := 20) (b := v) (by omega) (by omega)).mp h; omega
theorem skV_s {car fin : Nat → Int32} {td f0 k : Nat} : skV car fin td f0 (k + 1) = nI (fsN car fin td (spS car fin td f0 k) k) - 1 := rfl
