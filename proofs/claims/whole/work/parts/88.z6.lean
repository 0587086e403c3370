/-! a text: both read the same -/
def VD (B : Nat) (wide : Int32) (wd ck : Nat → Int32) (n : Nat) (pf b : Nat → Int32) : Prop := VR B wide wd ck n pf 0 (fun _ => 0) 0 (fun _ => 0) 0 (fun _ => 0) 0 (fun _ => 0) b
section RDq
variable {B B' : Nat} {wide : Int32} {wd ck : Nat → Int32} {n : Nat} {pf b f : Nat → Int32} {tn s : Nat}
theorem VD.mono (h : VD B wide wd ck n pf b) (hb : B ≤ B') : VD B' wide wd ck n pf b := VR.mono h hb
theorem VD_4 {X : Nat → Int32} (h : VD B wide wd ck n pf (upd X 4 0)) (e : X 4 = 0) : VD B wide wd ck n pf X :=
  VR_cong h (fun _ _ => rfl) (fun _ _ => rfl) (fun _ _ => rfl) (fun _ _ => rfl) (fun _ _ => rfl) (fun _ _ => rfl) (fun _ _ => rfl) (fun i _ => by
    by_cases q : i = 4
    · subst q; rw [pk_us]; exact e
    · rw [pk_un q])
theorem VD_e4 (h : VD B wide wd ck n pf b) : b 4 = 0 := h.2.2.2.1.2.2.2.2.1
theorem VD_wind {m : Nat} {w : Int32} (h : VD B wide wd ck n pf b) (hm : m < 6) (hw : iw w (-4) 4 = true) : VD B wide (upd wd m w) ck n pf (upd b (13 + m) w) :=
  VD_4 (VR_wind h hm hw) (by rw [pk_un (by omega)]; exact VD_e4 h)
theorem VD_player {kd hl am : Int32} (h : VD B wide wd ck n pf b) (hn : n < 7) (h2 : iw hl 0 1 = true) (h3 : iw am 1 9 = true) : VD B wide wd ck (n + 1) (upd (upd (upd pf (n * 3 + 0) kd) (n * 3 + 1) hl) (n * 3 + 2) am) (upd (upd (upd (upd b (19 + n) kd) (26 + n) hl) (33 + n) am) 0 (nI (n + 1))) :=
  VD_4 (VR_player h hn h2 h3) (by rw [pk_un (by omega), pk_un (by omega), pk_un (by omega), pk_un (by omega)]; exact VD_e4 h)
theorem VD_cock {k g : Int32} (h : VD B wide wd ck n pf b) (h2 : iw g 1 9 = true) : VD B wide wd (upd (upd ck 0 k) 1 g) n pf (upd (upd b 6 k) 7 g) := by
  have q := h.2.2.2.2.1.1
  obtain ⟨c1, c2, c3, c4, c5, c6⟩ := h.2.2.1.1
  exact VR_ck h (Nat.le_refl _) ⟨c1, c2, c3, (iw_rg h2).w (by decide) (by decide), c5, c6⟩ (seven rfl rfl (q 2 (by decide)) (q 3 (by decide)) (q 4 (by decide)) (q 5 (by decide)) (q 6 (by decide))) (fun i hi => by rw [pk_un (by omega), pk_un (by omega)])
theorem VD_pick {h9 : Int32} (h : VD B wide wd ck n pf b) (h1 : iw h9 0 1 = true) : VD B wide wd (upd (upd ck 2 h9) 3 1) n pf (upd (upd b 9 1) 8 h9) := by
  have q := h.2.2.2.2.1.1
  obtain ⟨c1, ⟨fh, eh2, hf⟩, c3, c4, c5, c6⟩ := h.2.2.1.1
  refine VR_ck h (Nat.le_refl _) ⟨c1, ?_, Or.inr rfl, c4, c5, c6⟩ (seven (q 0 (by decide)) (q 1 (by decide)) rfl rfl (q 4 (by decide)) (q 5 (by decide)) (q 6 (by decide))) (fun i hi => by rw [pk_un (by omega), pk_un (by omega)])
  show ∃ fh : Nat, h9 = nI fh ∧ fh < 2
  rcases iw_01 h1 with rfl | rfl
  · exact ⟨0, rfl, by decide⟩
  · exact ⟨1, rfl, by decide⟩
theorem VD_hours {j : Nat} (h : VD B wide wd ck n pf b) (hj : j < 1000) : VD B wide wd (lps ck (nI j)) n pf (glA b (nI j)) := by
  have q := h.2.2.2.2.1.1
  obtain ⟨z1, z2⟩ := ckO_lps h.2.2.1.1 hj
  have e : glA b (nI j) 12 = lps ck (nI j) 6 := by rw [glA, pk_us, z2, show b 12 = ck 6 from q 6 (by decide)]
  exact VR_ck h (Nat.le_refl _) z1 (seven (q 0 (by decide)) (q 1 (by decide)) (q 2 (by decide)) (q 3 (by decide)) (q 4 (by decide)) (q 5 (by decide)) e) (fun i hi => by rw [glA, pk_un (by omega)])
theorem VD_hit (h : VD B wide wd ck n pf b) (hB : B ≤ 400) {k hr : Nat} (hk : k < n) (hc : chA b k = true) (eh : ck 6 = nI hr) :
    VD (B + 1) wide wd (stk ck (decide (wide ≤ rch ck wd pf k hr (pf (k * 3 + 1)) (ck 1)))) n pf (ghA b (crA b k hr (b 8))) := by
  have e8 : b 8 = pf (k * 3 + 1) := by
    rw [chA, at_eq h hk] at hc
    simp only [Bool.and_eq_true, decide_eq_true_eq] at hc
    rw [hc.1.2]; exact h.2.2.2.2.1.1 2 (by decide)
  have h6 : ck 6 < 9999 := by
    rw [ch_eq h hk] at hc
    simp only [Bool.and_eq_true, decide_eq_true_eq] at hc
    exact hc.2.2
  rw [cr_eq h hk, e8]
  have z := ck_stk (ov := decide (wide ≤ rch ck wd pf k hr (pf (k * 3 + 1)) (ck 1))) hB h.2.2.1.1 h6 h.2.2.2.2.1.1
  exact VR_ck h (by omega) z.1 z.2 (fun i hi => gh_out hi)
/-- an item, as each reads it -/
def RI (B : Nat) (f : Nat → Int32) (tn : Nat) (wide : Int32) (r : Bool × Nat × (Nat → Int32) × (Nat → Int32) × Nat × (Nat → Int32)) (g : Bool × Nat × (Nat → Int32)) : Prop :=
  r.1 = (g.1 && decide (tkT f tn g.2.1 = 3)) ∧ (r.1 = false → r.2.1 = g.2.1) ∧ (r.1 = true → r.2.1 = nx f tn g.2.1 ∧ VD (B + 1) wide r.2.2.1 r.2.2.2.1 r.2.2.2.2.1 r.2.2.2.2.2 g.2.2)
theorem RI_f {q : Nat} {X : (Nat → Int32) × (Nat → Int32) × Nat × (Nat → Int32)} {b' : Nat → Int32} : RI B f tn wide (false, q, X) (false, q, b') := ⟨rfl, fun _ => rfl, fun h => by cases h⟩
theorem RI_ok {q : Nat} {X : (Nat → Int32) × (Nat → Int32) × Nat × (Nat → Int32)} {b' : Nat → Int32} (h : VD (B + 1) wide X.1 X.2.1 X.2.2.1 X.2.2.2 b') : RI B f tn wide (decide (tkT f tn q = 3), stp f tn q, X) (true, q, b') :=
  ⟨(Bool.true_and _).symm, fun e => stp_f (of_decide_eq_false e), fun e => ⟨stp_t (of_decide_eq_true e), h⟩⟩
theorem iK (h : VD B wide wd ck n pf b) : RI B f tn wide ((rdK f tn s ck).1, (rdK f tn s ck).2.1, wd, (rdK f tn s ck).2.2, n, pf) (gvK f tn s b) := by
  unfold rdK gvK
  cases h1 : iw (nmb f tn (nx f tn s)) 0 5
  · simp only [Bool.false_eq_true, if_false]; exact RI_f
  · cases h2 : iw (nmb f tn (nx f tn (nx f tn s))) 1 9
    · simp only [Bool.false_eq_true, if_false, if_true]; exact RI_f
    · simp only [if_true]; exact RI_ok ((VD_cock h h2).mono (by omega))
theorem iP (h : VD B wide wd ck n pf b) : RI B f tn wide ((rdP f tn s n pf).1, (rdP f tn s n pf).2.1, wd, ck, (rdP f tn s n pf).2.2.1, (rdP f tn s n pf).2.2.2) (gvP f tn s b n) := by
  have hn := h.1.1
  unfold rdP gvP
  by_cases h7 : n = 7
  · rw [if_pos (show 7 ≤ n by omega), if_pos h7]; exact RI_f
  · rw [if_neg (show ¬ 7 ≤ n by omega), if_neg h7]
    cases h1 : iw (nmb f tn (nx f tn s)) 0 5
    · simp only [Bool.false_eq_true, if_false]; exact RI_f
    · cases h2 : iw (nmb f tn (nx f tn (nx f tn s))) 0 1
      · simp only [Bool.false_eq_true, if_false, if_true]; exact RI_f
      · cases h3 : iw (nmb f tn (nx f tn (nx f tn (nx f tn s)))) 1 9
        · simp only [Bool.false_eq_true, if_false, if_true]; exact RI_f
        · simp only [if_true]; exact RI_ok ((VD_player h (by omega) h2 h3).mono (by omega))
theorem iU (h : VD B wide wd ck n pf b) : RI B f tn wide ((rdU f tn s ck).1, (rdU f tn s ck).2.1, wd, (rdU f tn s ck).2.2, n, pf) (gvU f tn s b) := by
  have e9 : b 9 = ck 3 := h.2.2.2.2.1.1 3 (by decide)
  unfold rdU gvU
  rw [e9]
  by_cases hu : ck 3 = 1
  · rw [if_pos hu, if_pos hu]; exact RI_f
  · rw [if_neg hu, if_neg hu]
    cases h1 : iw (nmb f tn (nx f tn s)) 0 1
    · simp only [Bool.false_eq_true, if_false]; exact RI_f
    · simp only [if_true]; exact RI_ok ((VD_pick h h1).mono (by omega))
theorem iH (h : VD B wide wd ck n pf b) : RI B f tn wide ((rdH f tn s ck).1, (rdH f tn s ck).2.1, wd, (rdH f tn s ck).2.2, n, pf) (gvH f tn s b) := by
  unfold rdH gvH
  cases h1 : iw (nmb f tn (nx f tn s)) 1 99
  · simp only [Bool.false_eq_true, if_false]; exact RI_f
  · simp only [if_true]
    obtain ⟨j, hj, ej⟩ := iw_ex (m := 99) (iw_lo h1) (by decide)
    rw [ej]
    exact RI_ok ((VD_hours h (by omega)).mono (by omega))
theorem iT (h : VD B wide wd ck n pf b) (hB : B ≤ 400) : RI B f tn wide ((rdT f tn s wide ck wd n pf).1, (rdT f tn s wide ck wd n pf).2.1, wd, (rdT f tn s wide ck wd n pf).2.2, n, pf) (gvT f tn s b n) := by
  have hn := h.1.1
  unfold rdT gvT
  generalize nmb f tn (nx f tn s) = p
  cases ho : okp n p
  · have e : (decide (ck 3 = 1) && (onb n pf p (ck 2) && decide (ck 6 < 9999))) = false := by rw [onb, ho]; simp
    rw [e]
    simp only [Bool.false_eq_true, if_false, Bool.false_and]; exact RI_f
  · obtain ⟨k, hk, ek⟩ := okp_ex ho
    subst ek
    rw [nI_clamp (by omega), ← ch_eq h hk, Bool.true_and]
    cases hc : chA b k
    · simp only [Bool.false_eq_true, if_false]; exact RI_f
    · simp only [if_true]
      obtain ⟨hr, eh, hh⟩ := h.2.2.1.1.1
      have e12 : b 12 = nI hr := (h.2.2.2.2.1.1 6 (by decide)).trans eh
      rw [eh, e12, nI_clamp (by omega)]
      exact RI_ok (VD_hit h hB hk hc eh)
theorem ws_p {wd b : Nat → Int32} : ∀ m, (rdws f tn s wd m).1 = (gws f tn s b m).1
  | 0 => rfl
  | m + 1 => by rw [rdws, gws]; show nx f tn _ = nx f tn _; rw [ws_p m]
theorem ws_n {wd b : Nat → Int32} : rdwn f tn s wd = gwn f tn s b := first_cong (fun m _ => by rw [ws_p m])
theorem iw_w {x : Int32} (h : iw x 0 8 = true) : iw (x - 4) (-4) 4 = true := by
  obtain ⟨k, hk, rfl⟩ := iw_ex (m := 8) h (by decide)
  rcases (show k = 0 ∨ k = 1 ∨ k = 2 ∨ k = 3 ∨ k = 4 ∨ k = 5 ∨ k = 6 ∨ k = 7 ∨ k = 8 by omega) with rfl | rfl | rfl | rfl | rfl | rfl | rfl | rfl | rfl <;> decide
theorem ws_v (h : VD B wide wd ck n pf b) : ∀ m, m ≤ gwn f tn s b → VD B wide (rdws f tn s wd m).2 ck n pf (gws f tn s b m).2
  | 0, _ => h
  | m + 1, hm => by
    have h6 : gwn f tn s b ≤ 6 := fa_first_le _ 6
    have hz := fa_first_no (fun m => !(iw (nmb f tn (gws f tn s b m).1) 0 8)) 6 m hm
    have hok : iw (nmb f tn (gws f tn s b m).1) 0 8 = true := by simpa using hz
    have ih := ws_v h m (by omega)
    rw [rdws, gws]
    show VD B wide (upd (rdws f tn s wd m).2 m (nmb f tn (rdws f tn s wd m).1 - 4)) ck n pf (upd (gws f tn s b m).2 (13 + m) (nmb f tn (gws f tn s b m).1 - 4))
    rw [ws_p (b := b) m]
    exact VD_wind ih (by omega) (iw_w hok)
theorem iW (h : VD B wide wd ck n pf b) : RI B f tn wide ((rdW f tn s wd).1, (rdW f tn s wd).2.1, (rdW f tn s wd).2.2, ck, n, pf) (gvW f tn s b) := by
  have hv := ws_v h (f := f) (tn := tn) (s := s) (gwn f tn s b) (Nat.le_refl _)
  have hp := ws_p (f := f) (tn := tn) (s := s) (wd := wd) (b := b) (gwn f tn s b)
  unfold rdW gvW
  rw [ws_n (b := b)]
  generalize gwn f tn s b = M at *
  rw [hp]
  generalize (gws f tn s b M).1 = q at *
  generalize (gws f tn s b M).2 = b2 at *
  generalize (rdws f tn s wd M).2 = w2 at *
  refine ⟨?_, fun e => ?_, fun e => ?_⟩
  · show (decide (0 < M) && decide (tkT f tn q = 3)) = ((decide (0 < M) && decide (tkT f tn q = 3)) && decide (tkT f tn q = 3))
    rw [Bool.and_assoc, Bool.and_self]
  · replace e : (decide (0 < M) && decide (tkT f tn q = 3)) = false := e
    show (if 0 < M then stp f tn q else q) = q
    by_cases z : 0 < M
    · rw [decide_eq_true z, Bool.true_and] at e
      rw [if_pos z, stp_f (of_decide_eq_false e)]
    · rw [if_neg z]
  · replace e : (decide (0 < M) && decide (tkT f tn q = 3)) = true := e
    rw [Bool.and_eq_true, decide_eq_true_eq, decide_eq_true_eq] at e
    refine ⟨?_, hv.mono (by omega)⟩
    show (if 0 < M then stp f tn q else q) = nx f tn q
    rw [if_pos e.1, stp_t e.2]
theorem it_eq (h : VD B wide wd ck n pf b) (hB : B ≤ 400) : RI B f tn wide (rdI f tn s wide wd ck n pf) (gvI f tn s b n) := by
  unfold rdI gvI
  split
  · exact iW h
  split
  · exact iK h
  split
  · exact iP h
  split
  · exact iT h hB
  split
  · exact iU h
  split
  · exact iH h
  · exact RI_f
end RDq
