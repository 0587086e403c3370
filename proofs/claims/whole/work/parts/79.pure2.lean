/-! strokes -/
section VQ
variable {B B' : Nat} {wide : Int32} {wd ck : Nat → Int32} {n : Nat} {pf : Nat → Int32} {sn : Nat} {sf : Nat → Int32} {nn : Nat} {nf : Nat → Int32} {mn : Nat} {mf : Nat → Int32} {u : Nat} {uf a : Nat → Int32}
theorem rc_eq (h : VR B wide wd ck n pf sn sf nn nf mn mf u uf a) {k t : Nat} (hk : k < n) {hill g : Int32} : rcA a k t hill g = rch ck wd pf k t hill g := by
  obtain ⟨-, -, -, -, ⟨ea, ew, ep⟩, -⟩ := h
  rw [← rcA_eq, rch, show a 6 = ck 0 from ea 0 (by decide), (ep k hk).1, (ep k hk).2.2, ew (t % 6) (Nat.mod_lt _ (by decide))]
theorem cr_eq (h : VR B wide wd ck n pf sn sf nn nf mn mf u uf a) {k t : Nat} (hk : k < n) {hill : Int32} : crA a k t hill = decide (wide ≤ rch ck wd pf k t hill (ck 1)) := by
  rw [crA, rc_eq h hk]
  obtain ⟨-, -, -, ⟨-, -, -, -, -, e5⟩, ⟨ea, -, -⟩, -⟩ := h
  rw [e5, show a 7 = ck 1 from ea 1 (by decide)]
theorem at_eq (h : VR B wide wd ck n pf sn sf nn nf mn mf u uf a) {k : Nat} (hk : k < n) : atA a k = (decide (ck 3 = 1) && decide (pf (k * 3 + 1) = ck 2)) := by
  obtain ⟨-, -, -, -, ⟨ea, -, ep⟩, -⟩ := h
  rw [atA, show a 9 = ck 3 from ea 3 (by decide), show a 8 = ck 2 from ea 2 (by decide), (ep k hk).2.1]
theorem ch_eq (h : VR B wide wd ck n pf sn sf nn nf mn mf u uf a) {k : Nat} (hk : k < n) : chA a k = (decide (ck 3 = 1) && (onb n pf (nI k) (ck 2) && decide (ck 6 < 9999))) := by
  have hn : n ≤ 7 := h.1.1
  rw [chA, at_eq h hk, onb_nI (by omega) hk]
  obtain ⟨-, -, -, -, ⟨ea, -, -⟩, -⟩ := h
  rw [show a 12 = ck 6 from ea 6 (by decide), Bool.and_assoc]
theorem lt9 {hr : Nat} (h : hr < 100000) : (nI hr < 9999) ↔ hr < 9999 := nI_ltI (a := hr) (b := 9999) (by omega) (by omega)
theorem ckO_lps {ck : Nat → Int32} {j : Nat} (h : ckO B ck) (hj : j < 1000) : ckO B (lps ck (nI j)) ∧ lps ck (nI j) 6 = (if 9999 < ck 6 + nI j then 9999 else ck 6 + nI j) := by
  obtain ⟨⟨hr, eh, hh⟩, h2, h3, h4, h5, h6⟩ := h
  have e1 : ck 6 + nI j = nI (hr + j) := by rw [eh, nI_add]
  have e2 : (nI (hr + j) < 9999) ↔ hr + j < 9999 := lt9 (by omega)
  have e3 : ((9999 : Int32) < nI (hr + j)) ↔ 9999 < hr + j := nI_ltI (a := 9999) (b := hr + j) (by omega) (by omega)
  have e6 : lps ck (nI j) 6 = (if nI (hr + j) < 9999 then nI (hr + j) else 9999) := by rw [lps, pk_us, e1]
  refine ⟨⟨?_, h2, h3, h4, h5, h6⟩, ?_⟩
  · rw [e6]
    by_cases q : hr + j < 9999
    · rw [if_pos (e2.mpr q)]; exact ⟨hr + j, rfl, by omega⟩
    · rw [if_neg (fun z => q (e2.mp z))]; exact ⟨9999, rfl, by omega⟩
  · rw [e6, e1]
    rcases Nat.lt_trichotomy (hr + j) 9999 with q | q | q
    · rw [if_pos (e2.mpr q), if_neg (fun z => by have := e3.mp z; omega)]
    · rw [if_neg (fun z => by have := e2.mp z; omega), if_neg (fun z => by have := e3.mp z; omega), q]; rfl
    · rw [if_neg (fun z => by have := e2.mp z; omega), if_pos (e3.mpr q)]
theorem mr_1 {x : Nat} (h : x < 9999) : mrA (nI x) = nI x + 1 := by rw [mrA, if_pos ((lt9 (by omega)).mpr h)]
theorem ck_stk {ck a : Nat → Int32} {ov : Bool} (hB : B ≤ 400) (h : ckO B ck) (h6 : ck 6 < 9999) (e : ∀ i, i < 7 → a (6 + i) = ck i) : ckO (B + 1) (stk ck ov) ∧ ∀ i, i < 7 → ghA a ov (6 + i) = stk ck ov i := by
  have h0 := h
  obtain ⟨⟨hr, eh, hh⟩, ⟨fh, eh2, hf⟩, h3, h4, ⟨x, ex, hx⟩, ⟨y, ey, hy⟩⟩ := h
  have hr9 : hr < 9999 := by rw [eh] at h6; exact (lt9 (by omega)).mp h6
  have a6 := e 0 (by decide); have a7 := e 1 (by decide); have a8 := e 2 (by decide); have a9 := e 3 (by decide); have a10 := e 4 (by decide); have a11 := e 5 (by decide); have a12 := e 6 (by decide)
  have hmin : (if nI hr + 1 < 9999 then nI hr + 1 else 9999) = nI (hr + 1) := by
    rw [nI_1]
    by_cases q : hr + 1 < 9999
    · rw [if_pos ((lt9 (by omega)).mpr q)]
    · rw [if_neg (fun z => q ((lt9 (by omega)).mp z)), show hr + 1 = 9999 by omega]; rfl
  cases ov
  · have c : ∀ i, stk ck false i = upd (upd (upd (upd ck 3 0) 5 (ck 5 + 1)) 4 0) 6 (nI (hr + 1)) i := by
      intro i
      show upd _ 6 _ i = _
      rw [show (if (false = true) then upd (upd ck 2 (1 - ck 2)) 4 (ck 4 + 1) else upd (upd (upd ck 3 0) 5 (ck 5 + 1)) 4 0) = upd (upd (upd ck 3 0) 5 (ck 5 + 1)) 4 0 from rfl, show upd (upd (upd ck 3 0) 5 (ck 5 + 1)) 4 0 6 = ck 6 from rfl, eh, hmin]
    refine ⟨?_, ?_⟩
    · unfold ckO
      rw [c 6, c 2, c 3, c 1, c 4, c 5]
      exact ⟨⟨hr + 1, rfl, by omega⟩, ⟨fh, eh2, hf⟩, Or.inl rfl, h4, ⟨0, rfl, by omega⟩, ⟨y + 1, by show ck 5 + 1 = _; rw [ey, nI_1], by omega⟩⟩
    · refine seven ?_ ?_ ?_ ?_ ?_ ?_ ?_ <;> rw [c]
      · exact a6
      · exact a7
      · exact a8
      · rfl
      · rfl
      · show mrA (a 11) = ck 5 + 1
        rw [show a 11 = ck 5 from a11, ey, mr_1 (by omega)]
      · show a 12 + 1 = nI (hr + 1)
        rw [show a 12 = ck 6 from a12, eh, nI_1]
  · have c : ∀ i, stk ck true i = upd (upd (upd ck 2 (1 - ck 2)) 4 (ck 4 + 1)) 6 (nI (hr + 1)) i := by
      intro i
      show upd _ 6 _ i = _
      rw [show (if (true = true) then upd (upd ck 2 (1 - ck 2)) 4 (ck 4 + 1) else upd (upd (upd ck 3 0) 5 (ck 5 + 1)) 4 0) = upd (upd ck 2 (1 - ck 2)) 4 (ck 4 + 1) from rfl, show upd (upd ck 2 (1 - ck 2)) 4 (ck 4 + 1) 6 = ck 6 from rfl, eh, hmin]
    refine ⟨?_, ?_⟩
    · unfold ckO
      rw [c 6, c 2, c 3, c 1, c 4, c 5]
      exact ⟨⟨hr + 1, rfl, by omega⟩, ⟨1 - fh, by show 1 - ck 2 = _; rw [eh2]; exact hl_e hf, by omega⟩, h3, h4, ⟨x + 1, by show ck 4 + 1 = _; rw [ex, nI_1], by omega⟩, ⟨y, ey, by omega⟩⟩
    · refine seven ?_ ?_ ?_ ?_ ?_ ?_ ?_ <;> rw [c]
      · exact a6
      · exact a7
      · show 1 - a 8 = 1 - ck 2
        rw [show a 8 = ck 2 from a8]
      · exact a9
      · show mrA (a 10) = ck 4 + 1
        rw [show a 10 = ck 4 from a10, ex, mr_1 (by omega)]
      · exact a11
      · show a 12 + 1 = nI (hr + 1)
        rw [show a 12 = ck 6 from a12, eh, nI_1]
theorem gh_out {h : Nat → Int32} {o : Bool} {i : Nat} (q : i < 6 ∨ 13 ≤ i) : ghA h o i = h i := by
  unfold ghA
  rw [pk_un (by omega)]
  cases o
  · rw [if_neg (by decide), pk_un (by omega), pk_un (by omega), pk_un (by omega)]
  · rw [if_pos rfl, pk_un (by omega), pk_un (by omega)]
theorem VR_hit (h : VR B wide wd ck n pf sn sf nn nf mn mf u uf a) (hB : B ≤ 400) {k hr : Nat} (hk : k < n) (hc : chA a k = true) (eh : ck 6 = nI hr) :
    crA (svA a u) k hr (svA a u 8) = decide (wide ≤ rch ck wd pf k hr (pf (k * 3 + 1)) (ck 1)) ∧ VR (B + 1) wide wd (stk ck (decide (wide ≤ rch ck wd pf k hr (pf (k * 3 + 1)) (ck 1)))) n pf sn sf nn nf mn mf (pun u) (pu u uf ck) (ghA (svA a u) (crA (svA a u) k hr (svA a u 8))) := by
  have hs := VR_save h
  have e8 : svA a u 8 = pf (k * 3 + 1) := by
    rw [svA_lo (by decide) (by decide)]
    rw [chA, at_eq h hk] at hc
    simp only [Bool.and_eq_true, decide_eq_true_eq] at hc
    rw [hc.1.2]; exact h.2.2.2.2.1.1 2 (by decide)
  have h6 : ck 6 < 9999 := by
    rw [ch_eq h hk] at hc
    simp only [Bool.and_eq_true, decide_eq_true_eq] at hc
    exact hc.2.2
  have e := cr_eq hs hk (t := hr) (hill := svA a u 8)
  rw [e8] at e ⊢
  refine ⟨e, ?_⟩
  rw [e]
  have z := ck_stk (ov := decide (wide ≤ rch ck wd pf k hr (pf (k * 3 + 1)) (ck 1))) hB hs.2.2.1.1 h6 hs.2.2.2.2.1.1
  exact VR_ck hs (by omega) z.1 z.2 (fun i hi => gh_out hi)
theorem VR_pick {h9 : Int32} (h : VR B wide wd ck n pf sn sf nn nf mn mf u uf a) (h1 : iw h9 0 1 = true) : VR B wide wd (upd (upd ck 2 h9) 3 1) n pf sn sf nn nf mn mf (pun u) (pu u uf ck) (upd (upd (svA a u) 9 1) 8 h9) := by
  have hs := VR_save h
  have q := hs.2.2.2.2.1.1
  obtain ⟨c1, ⟨fh, eh2, hf⟩, c3, c4, c5, c6⟩ := hs.2.2.1.1
  refine VR_ck hs (Nat.le_refl _) ⟨c1, ?_, Or.inr rfl, c4, c5, c6⟩ (seven (q 0 (by decide)) (q 1 (by decide)) rfl rfl (q 4 (by decide)) (q 5 (by decide)) (q 6 (by decide))) (fun i hi => by rw [pk_un (by omega), pk_un (by omega)])
  show ∃ fh : Nat, h9 = nI fh ∧ fh < 2
  rcases iw_01 h1 with rfl | rfl
  · exact ⟨0, rfl, by decide⟩
  · exact ⟨1, rfl, by decide⟩
theorem VR_cock {k9 g9 : Int32} (h : VR B wide wd ck n pf sn sf nn nf mn mf u uf a) (h2 : iw g9 1 9 = true) : VR B wide wd (upd (upd ck 0 k9) 1 g9) n pf sn sf nn nf mn mf (pun u) (pu u uf ck) (upd (upd (svA a u) 6 k9) 7 g9) := by
  have hs := VR_save h
  have q := hs.2.2.2.2.1.1
  obtain ⟨c1, c2, c3, c4, c5, c6⟩ := hs.2.2.1.1
  exact VR_ck hs (Nat.le_refl _) ⟨c1, c2, c3, (iw_rg h2).w (by decide) (by decide), c5, c6⟩ (seven rfl rfl (q 2 (by decide)) (q 3 (by decide)) (q 4 (by decide)) (q 5 (by decide)) (q 6 (by decide))) (fun i hi => by rw [pk_un (by omega), pk_un (by omega)])
theorem VR_hours {j : Nat} (h : VR B wide wd ck n pf sn sf nn nf mn mf u uf a) (hj : j < 1000) : glA (svA a u) (nI j) 12 = lps ck (nI j) 6 ∧ VR B wide wd (lps ck (nI j)) n pf sn sf nn nf mn mf (pun u) (pu u uf ck) (glA (svA a u) (nI j)) := by
  have hs := VR_save h
  have q := hs.2.2.2.2.1.1
  obtain ⟨z1, z2⟩ := ckO_lps hs.2.2.1.1 hj
  have e : glA (svA a u) (nI j) 12 = lps ck (nI j) 6 := by
    rw [glA, pk_us, z2, show svA a u 12 = ck 6 from q 6 (by decide)]
  exact ⟨e, VR_ck hs (Nat.le_refl _) z1 (seven (q 0 (by decide)) (q 1 (by decide)) (q 2 (by decide)) (q 3 (by decide)) (q 4 (by decide)) (q 5 (by decide)) e) (fun i hi => by rw [glA, pk_un (by omega)])⟩
theorem VR_undo (h : VR B wide wd ck n pf sn sf nn nf mn mf u uf a) (hu : 0 < u) : unA a u 12 = va_cpy uf ck ((u - 1) * 7) 0 7 6 ∧ VR B wide wd (va_cpy uf ck ((u - 1) * 7) 0 7) n pf sn sf nn nf mn mf (u - 1) uf (unA a u) := by
  have hc (i : Nat) (hi : i < 7) : va_cpy uf ck ((u - 1) * 7) 0 7 i = uf (7 * (u - 1) + i) := by
    rw [pk_cpy_in (by omega) (by omega)]; congr 1; omega
  obtain ⟨⟨n1, n2, n3, n4, n5⟩, g2, ⟨g3, g4⟩, ⟨p0, p1, p2, p3, p4, p5⟩, ⟨q1, q2, q3⟩, ⟨r1, r2, r3, r4⟩⟩ := h
  have ho (i : Nat) (hi : i < 6 ∨ 13 ≤ i) (h4 : i ≠ 4) : unA a u i = a i := by unfold unA; rw [fb_put_out (by omega), pk_un h4]
  have hi (i : Nat) (hi : i < 7) : unA a u (6 + i) = va_cpy uf ck ((u - 1) * 7) 0 7 i := by
    rw [hc i hi]; unfold unA; rw [fb_put_in (by omega) (by omega)]
    show a (103 + 7 * (u - 1) + (6 + i - 6)) = _
    rw [show 103 + 7 * (u - 1) + (6 + i - 6) = 103 + (7 * (u - 1) + i) by omega]
    exact r4 _ (by omega)
  refine ⟨hi 6 (by decide), ⟨n1, n2, n3, n4, by omega⟩, g2, ⟨(g4 (u - 1) (by omega)).cong hc, fun j hj => g4 j (by omega)⟩, ⟨by rw [ho 0 (by omega) (by omega)]; exact p0, by rw [ho 1 (by omega) (by omega)]; exact p1, by rw [ho 2 (by omega) (by omega)]; exact p2, by rw [ho 3 (by omega) (by omega)]; exact p3, ?_, by rw [ho 5 (by omega) (by omega)]; exact p5⟩, ⟨hi, fun i hi => by rw [ho _ (by omega) (by omega)]; exact q2 i hi, fun k hk => ⟨by rw [ho _ (by omega) (by omega)]; exact (q3 k hk).1, by rw [ho _ (by omega) (by omega)]; exact (q3 k hk).2.1, by rw [ho _ (by omega) (by omega)]; exact (q3 k hk).2.2⟩⟩, ⟨fun i hi => by rw [ho _ (by omega) (by omega)]; exact r1 i hi, fun i hi => by rw [ho _ (by omega) (by omega)]; exact r2 i hi, fun i hi => by rw [ho _ (by omega) (by omega)]; exact r3 i hi, fun i hi => by rw [ho _ (by omega) (by omega)]; exact r4 i (by omega)⟩⟩
  unfold unA; rw [fb_put_out (by omega), pk_us]
theorem orF_0 {P : Nat → Bool} : ∀ {n : Nat}, (∀ k, k < n → P k = false) → orF P n = 0
  | 0, _ => rfl
  | n + 1, h => by rw [orF, h n (by omega), orF_0 (n := n) (fun k hk => h k (by omega))]; rfl
theorem may_up (h : VR B wide wd ck n pf sn sf nn nf mn mf u uf a) (hup : ck 3 = 1) {hr : Nat} : orF (fun i => atA a i && crA a i hr (a 8)) n = orF (fun i => decide (pf (i * 3 + 1) = ck 2) && decide (wide ≤ rch ck wd pf i hr (pf (i * 3 + 1)) (ck 1))) n := by
  refine orF_cong (fun k hk => ?_)
  rw [at_eq h hk, cr_eq h hk, decide_eq_true hup, Bool.true_and, show a 8 = ck 2 from h.2.2.2.2.1.1 2 (by decide)]
  by_cases q : pf (k * 3 + 1) = ck 2
  · rw [q]
  · rw [decide_eq_false q, Bool.false_and, Bool.false_and]
theorem may_down (h : VR B wide wd ck n pf sn sf nn nf mn mf u uf a) (hup : ¬ ck 3 = 1) {hr : Nat} : orF (fun i => atA a i && crA a i hr (a 8)) n = 0 :=
  orF_0 (fun k hk => by rw [at_eq h hk, decide_eq_false hup]; rfl)
end VQ
theorem iw_lo {x hi : Int32} (h : iw x 1 hi = true) : iw x 0 hi = true := by
  have h1 : (1 : Int32) ≤ x ∧ x ≤ hi := by simpa [iw] using h
  have h2 : (0 : Int32) ≤ x := by
    rw [fa_le]
    have := h1.1
    rw [fa_le, show (1 : Int32).toInt = 1 from by decide] at this
    rw [show (0 : Int32).toInt = 0 from by decide]; omega
  simp [iw, h2, h1.2]
theorem iw_56 {x : Int32} (h : iw x 0 6 = false) : iw x 0 5 = false := by
  cases q : iw x 0 5
  · rfl
  · obtain ⟨k, hk, rfl⟩ := iw_ex (m := 5) q (by decide)
    rw [show iw (nI k) 0 6 = true from iw_nI (m := 6) (by omega) (by omega)] at h; cases h
