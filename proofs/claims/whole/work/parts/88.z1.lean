/-! centuries: both go through the same strokes -/
theorem crA_c2 {b d : Nat → Int32} {k hr : Nat} {hill : Int32} (hk : k < 7) (h : ∀ i, i < 40 → (i < 8 ∨ 13 ≤ i) → b i = d i) : crA b k hr hill = crA d k hr hill := by
  have hm : hr % 6 < 6 := Nat.mod_lt _ (by decide)
  unfold crA
  rw [← rcA_eq, ← rcA_eq, h 5 (by decide) (by omega), h 6 (by decide) (by omega), h 7 (by decide) (by omega), h (19 + k) (by omega) (by omega), h (33 + k) (by omega) (by omega), h (13 + hr % 6) (by omega) (by omega)]
theorem gh_o2 {h : Nat → Int32} {o : Bool} {i : Nat} (q : i < 8 ∨ 13 ≤ i) : ghA h o i = h i := by
  unfold ghA
  rw [pk_un (by omega)]
  cases o
  · rw [if_neg (by decide), pk_un (by omega), pk_un (by omega), pk_un (by omega)]
  · rw [if_pos rfl, pk_un (by omega), pk_un (by omega)]
section CE
variable {B B' : Nat} {wide : Int32} {wd ck : Nat → Int32} {n : Nat} {pf : Nat → Int32} {sn : Nat} {sf : Nat → Int32} {nn : Nat} {nf : Nat → Int32} {mn : Nat} {mf : Nat → Int32} {u : Nat} {uf a hf : Nat → Int32}
theorem ce_step (h : VR B wide wd ck n pf sn sf nn nf mn mf u uf a) {x : Int64} {t : Nat} {S : Int32 × Int32 × Int32} {T : (Nat → Int32) × Int32} (i1 : T.1 8 = S.1) (i2 : T.1 9 = S.2.1) (i3 : S.2.1 = 0 ∨ S.2.1 = 1) (i4 : T.2 = S.2.2) (i5 : ∀ j, j < 40 → (j < 8 ∨ 13 ≤ j) → T.1 j = a j)
    {hl : Int32} {on c : Bool} (ehl : hl = if S.2.1 = 0 then cpH x else S.1) (eon : on = onb n pf (cpP x) hl) (ec : c = decide (wide ≤ rch ck wd pf (cpP x).toNatClampNeg t (pf ((cpP x).toNatClampNeg * 3 + 1)) (ck 1))) :
    (ctN n t x T).1 8 = (if bI on = 0 then hl else if bI c = 0 then hl else 1 - hl) ∧ (ctN n t x T).1 9 = (if bI on = 0 then (if S.2.1 = 0 then 1 else S.2.1) else bI c) ∧ ((if bI on = 0 then (if S.2.1 = 0 then 1 else S.2.1) else bI c) = 0 ∨ (if bI on = 0 then (if S.2.1 = 0 then 1 else S.2.1) else bI c) = 1) ∧ (ctN n t x T).2 = (if bI on = 0 then S.2.2 else if bI c = 0 then S.2.2 else S.2.2 + 1) ∧ ∀ j, j < 40 → (j < 8 ∨ 13 ≤ j) → (ctN n t x T).1 j = a j := by
  have hn := h.1.1
  have h8 : ctH T.1 x 8 = hl := by
    unfold ctH; rw [i2, ehl]
    by_cases q : S.2.1 = 0
    · rw [if_pos q, if_pos q, pk_us]
    · rw [if_neg q, if_neg q]; exact i1
  have h9 : ctH T.1 x 9 = 1 := by
    unfold ctH; rw [i2]
    by_cases q : S.2.1 = 0
    · rw [if_pos q, pk_un (by decide), pk_us]
    · rw [if_neg q, i2]; exact i3.resolve_left q
  have hj : ∀ j, j < 40 → (j < 8 ∨ 13 ≤ j) → ctH T.1 x j = a j := fun j h1 h2 => by
    unfold ctH
    split
    · rw [pk_un (by omega), pk_un (by omega)]; exact i5 j h1 h2
    · exact i5 j h1 h2
  have hup : (if S.2.1 = 0 then 1 else S.2.1) = (1 : Int32) := by
    by_cases q : S.2.1 = 0
    · rw [if_pos q]
    · rw [if_neg q]; exact i3.resolve_left q
  rw [hup]
  cases hon : on
  · have hf : okp n (cpP x) = false ∨ ((cpP x).toNatClampNeg < 1000 ∧ cpP x = nI (cpP x).toNatClampNeg ∧ atA (ctH T.1 x) (cpP x).toNatClampNeg = false) := by
      cases ho : okp n (cpP x)
      · exact Or.inl rfl
      · obtain ⟨k, hk, ek⟩ := okp_ex ho
        have e2 : (cpP x).toNatClampNeg = k := cl_eq ek (by omega)
        refine Or.inr ⟨by omega, by rw [e2]; exact ek, ?_⟩
        rw [e2, atA, h9, h8, hj (26 + k) (by omega) (by omega), (h.2.2.2.2.1.2.2 k hk).2.1]
        rw [hon, onb, ho, e2] at eon
        rw [Bool.true_and] at eon
        rw [← eon]; rfl
    rw [ctN_f hf]
    refine ⟨?_, ?_, Or.inr rfl, i4, fun j h1 h2 => ?_⟩
    · dsimp only
      rw [pk_un (by decide)]; exact h8
    · dsimp only
      rw [pk_un (by decide)]; exact h9
    · dsimp only
      rw [pk_un (by omega)]; exact hj j h1 h2
  · rw [hon] at eon
    have ho : okp n (cpP x) = true := on_ok eon.symm
    obtain ⟨k, hk, ek⟩ := okp_ex ho
    have e2 : (cpP x).toNatClampNeg = k := cl_eq ek (by omega)
    have hside : pf (k * 3 + 1) = hl := by
      rw [onb, ho, e2, Bool.true_and] at eon
      exact of_decide_eq_true eon.symm
    have hat : atA (ctH T.1 x) k = true := by
      rw [atA, h9, h8, hj (26 + k) (by omega) (by omega), (h.2.2.2.2.1.2.2 k hk).2.1, hside, decide_eq_true rfl, decide_eq_true rfl]; rfl
    have hcr : crA (ctH T.1 x) k t (ctH T.1 x 8) = c := by
      rw [crA_c2 (d := a) (by omega) hj, cr_eq h hk, h8, ec, e2, hside]
    rw [ctN_t ho (by omega) ek hat, hcr]
    have e12 : ∀ j, j < 40 → (j < 8 ∨ 13 ≤ j) → ghA (ctH T.1 x) c j = a j := fun j h1 h2 => by
      rw [gh_o2 h2]; exact hj j h1 h2
    have b1 : ¬ bI true = 0 := by decide
    rw [if_neg b1, if_neg b1, if_neg b1]
    cases c
    · refine ⟨?_, rfl, Or.inl rfl, ?_, e12⟩
      · show ctH T.1 x 8 = _
        rw [h8]; rfl
      · show T.2 + 0 = _
        rw [Int32.add_zero, i4]; rfl
    · refine ⟨?_, ?_, Or.inr rfl, ?_, e12⟩
      · show 1 - ctH T.1 x 8 = _
        rw [h8]; rfl
      · exact h9
      · show T.2 + 1 = _
        rw [i4]; rfl
def ceN (wide : Int32) (ck wd pf : Nat → Int32) (n hr i : Nat) (x : Int64) (S : Int32 × Int32 × Int32) : Int32 × Int32 × Int32 :=
    (if bI (onb n pf (cpP x) (if S.2.1 = 0 then cpH x else S.1)) = 0 then (if S.2.1 = 0 then cpH x else S.1) else (if bI (ceC wide ck wd pf hr i (cpP x)) = 0 then (if S.2.1 = 0 then cpH x else S.1) else 1 - (if S.2.1 = 0 then cpH x else S.1)),
     if bI (onb n pf (cpP x) (if S.2.1 = 0 then cpH x else S.1)) = 0 then (if S.2.1 = 0 then 1 else S.2.1) else bI (ceC wide ck wd pf hr i (cpP x)),
     if bI (onb n pf (cpP x) (if S.2.1 = 0 then cpH x else S.1)) = 0 then S.2.2 else (if bI (ceC wide ck wd pf hr i (cpP x)) = 0 then S.2.2 else S.2.2 + 1))
theorem ceS_s {hr i : Nat} {sd : Int32} : ceS wide ck wd pf n hr sd (i + 1) = ceN wide ck wd pf n hr i (ceX sd (i + 1)) (ceS wide ck wd pf n hr sd i) := rfl
def ceR (a : Nat → Int32) (S : Int32 × Int32 × Int32) (T : (Nat → Int32) × Int32) : Prop := T.1 8 = S.1 ∧ T.1 9 = S.2.1 ∧ (S.2.1 = 0 ∨ S.2.1 = 1) ∧ T.2 = S.2.2 ∧ ∀ j, j < 40 → (j < 8 ∨ 13 ≤ j) → T.1 j = a j
theorem ce_step2 (h : VR B wide wd ck n pf sn sf nn nf mn mf u uf a) {x : Int64} {hr i : Nat} {S : Int32 × Int32 × Int32} {T : (Nat → Int32) × Int32} (R : ceR a S T) : ceR a (ceN wide ck wd pf n hr i x S) (ctN n (hr + i) x T) :=
  ce_step h R.1 R.2.1 R.2.2.1 R.2.2.2.1 R.2.2.2.2 (x := x) (t := hr + i) (hl := if S.2.1 = 0 then cpH x else S.1) (on := onb n pf (cpP x) (if S.2.1 = 0 then cpH x else S.1)) (c := ceC wide ck wd pf hr i (cpP x)) rfl rfl rfl
theorem ce_0 (h : VR B wide wd ck n pf sn sf nn nf mn mf u uf a) {hr : Nat} {sd : Int32} : ceR a (ceS wide ck wd pf n hr sd 0) (ctS (fa_fill a hf 40) n hr sd 0) := by
  have ea := h.2.2.2.2.1.1
  have h3 := h.2.2.1.1.2.2.1
  have e9 : fa_fill a hf 40 9 = bI (decide (ck 3 = 1)) := by
    rw [fa_fill_in (by decide), show a 9 = ck 3 from ea 3 (by decide)]
    rcases h3 with e | e <;> rw [e] <;> rfl
  refine ⟨?_, e9, ?_, rfl, fun j h1 h2 => fa_fill_in h1⟩
  · show fa_fill a hf 40 8 = ck 2
    rw [fa_fill_in (by decide)]; exact ea 2 (by decide)
  · show bI (decide (ck 3 = 1)) = 0 ∨ bI (decide (ck 3 = 1)) = 1
    cases decide (ck 3 = 1)
    · exact Or.inl rfl
    · exact Or.inr rfl
theorem ce_sim (h : VR B wide wd ck n pf sn sf nn nf mn mf u uf a) {hr : Nat} {sd : Int32} : ∀ i, ceR a (ceS wide ck wd pf n hr sd i) (ctS (fa_fill a hf 40) n hr sd i)
  | 0 => ce_0 h
  | i + 1 => by
    rw [ct_b, ceS_s]
    exact ce_step2 h (ce_sim h i)
end CE
