/-! a whole text: both read the same -/
section RDr
variable {f : Nat → Int32} {tn s : Nat} {b : Nat → Int32} {pn : Nat}
theorem nx_ge (h : s ≤ tn) : s ≤ nx f tn s := Nat.le_trans (tkE_b h).1 (scan_b (tkE_b h).2).1
theorem nx_gt (h : s ≤ tn) (h3 : tkT f tn s = 3) : s + 1 ≤ nx f tn s := by
  by_cases a : tn ≤ s
  · rw [tkT, if_pos a] at h3; exact absurd h3 (by decide)
  · rw [tkT, if_neg a] at h3
    cases c : isLe (f s)
    · rw [c] at h3; simp only [Bool.false_eq_true, if_false] at h3
      cases d : isFi (f s)
      · rw [nx, tkE, if_neg a, c, d]; simp only [Bool.false_eq_true, if_false]; exact (scan_b (by omega)).1
      · rw [d] at h3; simp only [if_true] at h3
        by_cases e : scan isFi f tn s - s ≤ 2
        · rw [if_pos e] at h3; exact absurd h3 (by decide)
        · rw [if_neg e] at h3; exact absurd h3 (by decide)
    · rw [c] at h3; simp only [if_true] at h3; exact absurd h3 (by decide)
theorem gws_ge (h : s ≤ tn) : ∀ m, s ≤ (gws f tn s b m).1
  | 0 => nx_ge h
  | m + 1 => Nat.le_trans (gws_ge h m) (nx_ge (gws_b h m))
theorem gvW_ge (h : s ≤ tn) : s ≤ (gvW f tn s b).2.1 := by
  unfold gvW; generalize gwn f tn s b = m; exact gws_ge h m
theorem gvK_ge (h : s ≤ tn) : s ≤ (gvK f tn s b).2.1 := by
  have h1 := nx_b (f := f) h
  have h2 := nx_b (f := f) h1
  have g1 : s ≤ nx f tn s := nx_ge h
  have g2 := Nat.le_trans g1 (nx_ge (f := f) h1)
  have g3 := Nat.le_trans g2 (nx_ge (f := f) h2)
  unfold gvK; (repeat' split) <;> assumption
theorem gvP_ge (h : s ≤ tn) : s ≤ (gvP f tn s b pn).2.1 := by
  have h1 := nx_b (f := f) h
  have h2 := nx_b (f := f) h1
  have h3 := nx_b (f := f) h2
  have g0 := Nat.le_refl s
  have g1 : s ≤ nx f tn s := nx_ge h
  have g2 := Nat.le_trans g1 (nx_ge (f := f) h1)
  have g3 := Nat.le_trans g2 (nx_ge (f := f) h2)
  have g4 := Nat.le_trans g3 (nx_ge (f := f) h3)
  unfold gvP; (repeat' split) <;> assumption
theorem gvT_ge (h : s ≤ tn) : s ≤ (gvT f tn s b pn).2.1 := by
  have h1 := nx_b (f := f) h
  have g1 : s ≤ nx f tn s := nx_ge h
  have g2 := Nat.le_trans g1 (nx_ge (f := f) h1)
  unfold gvT; (repeat' split) <;> assumption
theorem gvU_ge (h : s ≤ tn) : s ≤ (gvU f tn s b).2.1 := by
  have h1 := nx_b (f := f) h
  have g0 := Nat.le_refl s
  have g1 : s ≤ nx f tn s := nx_ge h
  have g2 := Nat.le_trans g1 (nx_ge (f := f) h1)
  unfold gvU; (repeat' split) <;> assumption
theorem gvH_ge (h : s ≤ tn) : s ≤ (gvH f tn s b).2.1 := by
  have h1 := nx_b (f := f) h
  have g1 : s ≤ nx f tn s := nx_ge h
  have g2 := Nat.le_trans g1 (nx_ge (f := f) h1)
  unfold gvH; (repeat' split) <;> assumption
theorem gvI_ge (h : s ≤ tn) : s ≤ (gvI f tn s b pn).2.1 := by
  unfold gvI
  split
  · exact gvW_ge h
  split
  · exact gvK_ge h
  split
  · exact gvP_ge h
  split
  · exact gvT_ge h
  split
  · exact gvU_ge h
  split
  · exact gvH_ge h
  · exact Nat.le_refl s
theorem rdV_p (h : (rdV f tn s).1 = true) : (rdV f tn s).2 = nx f tn (nx f tn (nx f tn s)) ∧ tkT f tn (nx f tn (nx f tn s)) = 3 := by
  unfold rdV at h ⊢
  cases h1 : wrd f (tkT f tn s) s (tkE f tn s) 0
  · rw [h1] at h; cases h
  · rw [h1] at h
    cases h2 : iw (nmb f tn (nx f tn s)) 1 40
    · rw [h2] at h; cases h
    · rw [h2] at h
      simp only [if_true] at h ⊢
      have h3 := of_decide_eq_true h
      exact ⟨stp_t h3, h3⟩
/-- how they stand behind so many items -/
def RSq (f : Nat → Int32) (tn p : Nat) (w : Int32) (wd ck pf b : Nat → Int32) (i : Nat) : Prop :=
  (rst f tn p w wd ck pf i).1 = (gst f tn p b i).1 ∧ VD i w (rst f tn p w wd ck pf i).2.1 (rst f tn p w wd ck pf i).2.2.1 (rst f tn p w wd ck pf i).2.2.2.1 (rst f tn p w wd ck pf i).2.2.2.2 (gst f tn p b i).2 ∧ (rst f tn p w wd ck pf i).1 ≤ tn ∧ i + 1 ≤ (rst f tn p w wd ck pf i).1
variable {p : Nat} {w : Int32} {wd ck pf : Nat → Int32} {i : Nat}
theorem RSq_n (h : RSq f tn p w wd ck pf b i) : (gst f tn p b i).2 0 = nI (rst f tn p w wd ck pf i).2.2.2.1 ∧ ((gst f tn p b i).2 0).toNatClampNeg = (rst f tn p w wd ck pf i).2.2.2.1 := by
  have e := h.2.1.2.2.2.1.1
  have q := h.2.1.1.1
  exact ⟨e, by rw [e, nI_clamp (by omega)]⟩
theorem RSq_I (h : RSq f tn p w wd ck pf b i) (hi : i ≤ 400) : RI i f tn w (rsI f tn p w wd ck pf i) (gsI f tn p b i) := by
  unfold rsI gsI
  rw [(RSq_n h).2, ← h.1]
  exact it_eq h.2.1 hi
theorem RSq_s (h : RSq f tn p w wd ck pf b i) (hi : i ≤ 400) (ho : (rsI f tn p w wd ck pf i).1 = true) : RSq f tn p w wd ck pf b (i + 1) := by
  have z := RSq_I h hi
  obtain ⟨z1, -, z3⟩ := z
  obtain ⟨y1, y2⟩ := z3 ho
  have e1 : rst f tn p w wd ck pf (i + 1) = (rsI f tn p w wd ck pf i).2 := rfl
  have e2 : gst f tn p b (i + 1) = (nx f tn (gsI f tn p b i).2.1, (gsI f tn p b i).2.2) := rfl
  have hs : (gst f tn p b i).1 ≤ tn := by rw [← h.1]; exact h.2.2.1
  have l1 : (gsI f tn p b i).2.1 ≤ tn := gvI_le hs
  have l2 : (gst f tn p b i).1 ≤ (gsI f tn p b i).2.1 := gvI_ge hs
  have t3 : tkT f tn (gsI f tn p b i).2.1 = 3 := by
    rw [ho] at z1
    have := z1.symm
    rw [Bool.and_eq_true, decide_eq_true_eq] at this
    exact this.2
  have l3 := nx_gt l1 t3
  have l4 := nx_b (f := f) l1
  have l5 := h.2.2.2
  rw [h.1] at l5
  unfold RSq
  rw [e1, e2]
  exact ⟨y1, y2, by rw [y1]; exact l4, by rw [y1]; omega⟩
theorem RSq_all (h0 : RSq f tn p w wd ck pf b 0) : ∀ i, i ≤ 400 → (∀ q, q < i → (rsI f tn p w wd ck pf q).1 = true) → RSq f tn p w wd ck pf b i
  | 0, _, _ => h0
  | i + 1, hi, hq => RSq_s (RSq_all h0 i (by omega) (fun q hq2 => hq q (by omega))) (by omega) (hq i (by omega))
theorem RSq_0 {wd ck b : Nat → Int32} (h1 : p ≤ tn) (h2 : 1 ≤ p) : RSq f tn p w (dW0 wd) (dC0 ck) pf (bgA b w) 0 := ⟨rfl, VR_start, h1, h2⟩
/-- it stops -/
theorem RSq_stop (htn : tn ≤ 150) (h0 : RSq f tn p w wd ck pf b 0) : ∃ N, N < 150 ∧ (∀ q, q < N → ¬ tkT f tn (rst f tn p w wd ck pf q).1 = 0 ∧ (rsI f tn p w wd ck pf q).1 = true) ∧ (∀ q, q ≤ N → RSq f tn p w wd ck pf b q) ∧ (tkT f tn (rst f tn p w wd ck pf N).1 = 0 ∨ (¬ tkT f tn (rst f tn p w wd ck pf N).1 = 0 ∧ (rsI f tn p w wd ck pf N).1 = false)) := by
  have key : ∃ i, i < 150 ∧ (tkT f tn (rst f tn p w wd ck pf i).1 = 0 ∨ (rsI f tn p w wd ck pf i).1 = false) := by
    apply Classical.byContradiction
    intro hc
    have hall : ∀ i, i < 150 → (rsI f tn p w wd ck pf i).1 = true := fun i hi => by
      cases e : (rsI f tn p w wd ck pf i).1
      · exact absurd ⟨i, hi, Or.inr e⟩ hc
      · rfl
    have z := RSq_all h0 149 (by omega) (fun q hq => hall q (by omega))
    refine hc ⟨149, by omega, Or.inl ?_⟩
    rw [tkT, if_pos]
    have := z.2.2.2
    omega
  obtain ⟨N, hN, hP, hno⟩ := fb_first (p := fun i => tkT f tn (rst f tn p w wd ck pf i).1 = 0 ∨ (rsI f tn p w wd ck pf i).1 = false) key
  have hb : ∀ q, q < N → ¬ tkT f tn (rst f tn p w wd ck pf q).1 = 0 ∧ (rsI f tn p w wd ck pf q).1 = true := fun q hq => by
    refine ⟨fun e => hno q hq (Or.inl e), ?_⟩
    cases e : (rsI f tn p w wd ck pf q).1
    · exact absurd (Or.inr e) (hno q hq)
    · rfl
  refine ⟨N, hN, hb, fun q hq => RSq_all h0 q (by omega) (fun k hk => (hb k (by omega)).2), ?_⟩
  by_cases e : tkT f tn (rst f tn p w wd ck pf N).1 = 0
  · exact Or.inl e
  · exact Or.inr ⟨e, hP.resolve_left e⟩
theorem RSq_c (h : RSq f tn p w wd ck pf b i) : rIv tn (rst f tn p w wd ck pf i) := ⟨h.2.2.1, h.2.1.1.1, h.2.1.2.2.1.1.1, h.2.1.2.1.2.1, h.2.1.2.1.1, h.2.1.2.2.1.1.2.2.2.1⟩
theorem RSq_m (h : RSq f tn p w wd ck pf b i) : gJv (gst f tn p b i) := by
  obtain ⟨e1, e2⟩ := RSq_n h
  refine ⟨by rw [e2]; exact e1, by rw [e2]; exact h.2.1.1.1, ?_⟩
  obtain ⟨hr, eh, hh⟩ := h.2.1.2.2.1.1.1
  exact ⟨hr, (h.2.1.2.2.2.2.1.1 6 (by decide)).trans eh, by omega⟩
theorem RSq_mI (h : RSq f tn p w wd ck pf b i) (hi : i ≤ 400) (ho : (rsI f tn p w wd ck pf i).1 = true) : (gsI f tn p b i).1 = true ∧ tkT f tn (gsI f tn p b i).2.1 = 3 := by
  have z := (RSq_I h hi).1
  rw [ho] at z
  have := z.symm
  rw [Bool.and_eq_true, decide_eq_true_eq] at this
  exact this
theorem RSq_mb (h : RSq f tn p w wd ck pf b i) (hi : i ≤ 400) (ho : (rsI f tn p w wd ck pf i).1 = false) : ((gsI f tn p b i).1 && decide (tkT f tn (gsI f tn p b i).2.1 = 3)) = false ∧ (rsI f tn p w wd ck pf i).2.1 = (gsI f tn p b i).2.1 := by
  have z := RSq_I h hi
  refine ⟨?_, z.2.1 ho⟩
  rw [← z.1]; exact ho
end RDr
section RDs
variable {B : Nat} {wide : Int32} {wd ck : Nat → Int32} {n : Nat} {pf sf nf mf uf a wd' ck' pf' sf' nf' mf' uf' a' : Nat → Int32}
theorem VR_cong0 (h : VR B wide wd ck n pf 0 sf 0 nf 0 mf 0 uf a) (c1 : ∀ i, i < 6 → wd' i = wd i) (c2 : ∀ i, i < 7 → ck' i = ck i) (c3 : ∀ i, i < n * 3 → pf' i = pf i) (c8 : ∀ i, i < 103 → a' i = a i) : VR B wide wd' ck' n pf' 0 sf' 0 nf' 0 mf' 0 uf' a' := by
  obtain ⟨⟨n1, n2, n3, n4, n5⟩, ⟨w1, w2, w3, w4, w5⟩, ⟨g3, g4⟩, ⟨p0, p1, p2, p3, p4, p5⟩, ⟨q1, q2, q3⟩, ⟨r1, r2, r3, r4⟩⟩ := h
  refine ⟨⟨n1, n2, n3, n4, n5⟩, ⟨fun i hi => by rw [c1 i hi]; exact w1 i hi, fun i hi => by rw [c3 _ (by omega)]; exact w2 i hi, fun i hi => by rw [c3 _ (by omega)]; exact w3 i hi, fun i hi => absurd hi (Nat.not_lt_zero _), fun i hi => absurd hi (Nat.not_lt_zero _)⟩, ⟨g3.cong c2, fun j hj => absurd hj (Nat.not_lt_zero _)⟩, ⟨by rw [c8 _ (by omega)]; exact p0, by rw [c8 _ (by omega)]; exact p1, by rw [c8 _ (by omega)]; exact p2, by rw [c8 _ (by omega)]; exact p3, by rw [c8 _ (by omega)]; exact p4, by rw [c8 _ (by omega)]; exact p5⟩, ⟨fun i hi => by rw [c8 _ (by omega), c2 i hi]; exact q1 i hi, fun i hi => by rw [c8 _ (by omega), c1 i hi]; exact q2 i hi, fun k hk => ⟨by rw [c8 _ (by omega), c3 _ (by omega)]; exact (q3 k hk).1, by rw [c8 _ (by omega), c3 _ (by omega)]; exact (q3 k hk).2.1, by rw [c8 _ (by omega), c3 _ (by omega)]; exact (q3 k hk).2.2⟩⟩, ⟨fun i hi => absurd hi (by omega), fun i hi => absurd hi (by omega), fun i hi => absurd hi (by omega), fun i hi => absurd hi (by omega)⟩⟩
theorem VD_live {owd ock opf b : Nat → Int32} (h : VD B wide wd ck n pf b) : VR B wide (va_cpy wd owd 0 0 6) (va_cpy ck ock 0 0 7) n (va_cpy pf opf 0 0 (n * 3)) 0 sf' 0 nf' 0 mf' 0 uf' (fa_fill b a 103) :=
  VR_cong0 h (fun i hi => cp0 hi) (fun i hi => cp0 hi) (fun i hi => cp0 hi) (fun i hi => fa_fill_in hi)
end RDs
