/-! two who call, odds, counts, images -/
section YO
variable {B B' : Nat} {wide : Int32} {wd ck : Nat → Int32} {n : Nat} {pf : Nat → Int32} {sn : Nat} {sf : Nat → Int32} {nn : Nat} {nf : Nat → Int32} {mn : Nat} {mf : Nat → Int32} {u : Nat} {uf a hf : Nat → Int32}
theorem yo_c (h : VR B wide wd ck n pf sn sf nn nf mn mf u uf a) {ka kb : Nat} (ha : ka < n) (hb : kb < n) : (atA a ka && atA a kb) = (decide (ck 3 = 1) && (onb n pf (nI ka) (ck 2) && onb n pf (nI kb) (ck 2))) := by
  have hn := h.1.1
  rw [at_eq h ha, at_eq h hb, onb_nI (by omega) ha, onb_nI (by omega) hb]
  cases decide (ck 3 = 1) <;> cases decide (pf (ka * 3 + 1) = ck 2) <;> rfl
theorem yo_r (h : VR B wide wd ck n pf sn sf nn nf mn mf u uf a) {k hr : Nat} (hk : k < n) (ho : onb n pf (nI k) (ck 2) = true) : crA a k hr (a 8) = decide (wide ≤ rch ck wd pf k hr (pf (k * 3 + 1)) (ck 1)) := by
  have hn := h.1.1
  rw [onb_nI (by omega) hk, decide_eq_true_eq] at ho
  rw [cr_eq h hk, ho, show a 8 = ck 2 from h.2.2.2.2.1.1 2 (by decide)]
theorem yo_eq (h : VR B wide wd ck n pf sn sf nn nf mn mf u uf a) {ka kb hr : Nat} (ha : ka < n) (hb : kb < n) (o1 : onb n pf (nI ka) (ck 2) = true) (o2 : onb n pf (nI kb) (ck 2) = true) :
    orF (fun i => rs (nI i &&& (1 : Int32)) (nI i >>> ((1 : Int32) &&& 31)) (bI (crA a ka hr (a 8))) (bI (crA a kb hr (a 8)))) 4 = orF (fun i => rs (nI i &&& (1 : Int32)) (nI i >>> ((1 : Int32) &&& 31)) (bI (decide (wide ≤ rch ck wd pf ka hr (pf (ka * 3 + 1)) (ck 1)))) (bI (decide (wide ≤ rch ck wd pf kb hr (pf (kb * 3 + 1)) (ck 1))))) 4 := by
  rw [yo_r h ha o1, yo_r h hb o2]
theorem gu_w {w : Int32} (h : Rg w (-4) 4) : guW w = (if (-4) < w - 4 then w - 4 else (-4)) := by
  have r4 : Rg 4 4 4 := ⟨by decide, by decide⟩
  obtain ⟨e, -⟩ := h.sub r4 (by decide) (by decide)
  rw [show (4 : Int32).toInt = 4 from by decide] at e
  have e4 : (-4 : Int32).toInt = -4 := by decide
  unfold guW
  by_cases q : w < 0
  · rw [if_pos q, if_neg]
    rw [fa_lt] at q ⊢
    rw [show (0 : Int32).toInt = 0 from by decide] at q
    omega
  · rw [if_neg q]
    by_cases q2 : (-4) < w - 4
    · rw [if_pos q2]
    · rw [if_neg q2, fa_eq]
      rw [fa_lt] at q q2
      rw [show (0 : Int32).toInt = 0 from by decide] at q
      omega
theorem gu_h {w : Int32} {hr k : Nat} (h : VR B wide wd ck n pf sn sf nn nf mn mf u uf a) (hk : k < n) : crA (upd (fa_fill a hf 40) (13 + hr % 6) w) k hr (a (26 + k)) = decide (wide ≤ fl (ck 0) (ck 1) (bl (pf (k * 3 + 0)) (pf (k * 3 + 2)) (nI (hr % 24))) (hp (pf (k * 3 + 1)) w)) := by
  have hn := h.1.1
  have hm : hr % 6 < 6 := Nat.mod_lt _ (by decide)
  obtain ⟨-, -, -, ⟨-, -, -, -, -, e5⟩, ⟨ea, -, ep⟩, -⟩ := h
  have H (j : Nat) (hj : j < 40) (h2 : j ≠ 13 + hr % 6) : upd (fa_fill a hf 40) (13 + hr % 6) w j = a j := by rw [pk_un h2, fa_fill_in hj]
  rw [crA, ← rcA_eq, pk_us, H 5 (by omega) (by omega), H 6 (by omega) (by omega), H 7 (by omega) (by omega), H (19 + k) (by omega) (by omega), H (33 + k) (by omega) (by omega), e5, show a 6 = ck 0 from ea 0 (by decide), show a 7 = ck 1 from ea 1 (by decide), (ep k hk).1, (ep k hk).2.1, (ep k hk).2.2]
theorem it_n {P : Prop} [Decidable P] {x : Nat} : (if P then nI x else 0) = nI (if P then x else 0) := by split <;> rfl
theorem gu_eq (h : VR B wide wd ck n pf sn sf nn nf mn mf u uf a) {k hr c : Nat} (hk : k < n) (hc : c < 11) :
    ((if decide (wide ≤ fl (ck 0) (ck 1) (bl (pf (k * 3 + 0)) (pf (k * 3 + 2)) (nI (hr % 24))) (hp (pf (k * 3 + 1)) (wd (hr % 6)))) then 10 - nI c else 0) + (if decide (wide ≤ fl (ck 0) (ck 1) (bl (pf (k * 3 + 0)) (pf (k * 3 + 2)) (nI (hr % 24))) (hp (pf (k * 3 + 1)) (if (-4) < wd (hr % 6) - 4 then wd (hr % 6) - 4 else (-4)))) then nI c else 0)) = nI ((if crA a k hr (a (26 + k)) = true then 10 - c else 0) + (if crA (upd (fa_fill a hf 40) (13 + hr % 6) (guW (a (13 + hr % 6)))) k hr (a (26 + k)) = true then c else 0)) := by
  have hm : hr % 6 < 6 := Nat.mod_lt _ (by decide)
  have ew := h.2.2.2.2.1.2.1
  have hw := h.2.1.1
  rw [gu_h h hk, cr_eq h hk, rch, (h.2.2.2.2.1.2.2 k hk).2.1, ew _ hm, gu_w (hw _ hm)]
  have e10 : (10 : Int32) - nI c = nI (10 - c) := pk_sub (a := 10) (b := c) (by omega)
  rw [e10, ← nI_add]
  congr 1
  · exact it_n
  · exact it_n
theorem gu_pr {x y : Int32} (e : x = y) : PR_ (ktF x 9).1 (ktF x 9).2 (ktF y 9).1.toInt64 (ktF y 9).2.toInt64 := by subst e; exact ⟨rfl, rfl⟩
end YO
theorem iw_2 {x : Int32} (h : iw x 0 1 = false) : ¬ x = 0 ∧ ¬ x = 1 := ⟨fun e => by subst e; exact absurd h (by decide), fun e => by subst e; exact absurd h (by decide)⟩
def q7 (b0 b1 b2 b3 b4 b5 b6 : Bool) (g : Nat) : Bool := if g = 0 then b0 else if g = 1 then b1 else if g = 2 then b2 else if g = 3 then b3 else if g = 4 then b4 else if g = 5 then b5 else if g = 6 then b6 else false
theorem q7_eq {P : Nat → Bool} : ∀ g, g < 7 → q7 (P 0) (P 1) (P 2) (P 3) (P 4) (P 5) (P 6) g = P g := by
  intro g h2
  rcases (show g = 0 ∨ g = 1 ∨ g = 2 ∨ g = 3 ∨ g = 4 ∨ g = 5 ∨ g = 6 by omega) with rfl | rfl | rfl | rfl | rfl | rfl | rfl <;> rfl
theorem or7_fin : ∀ b0 b1 b2 b3 b4 b5 b6 : Bool, ∀ n, n < 8 → bc (orF (q7 b0 b1 b2 b3 b4 b5 b6) n) = cntF (q7 b0 b1 b2 b3 b4 b5 b6) n ∧ (orF (q7 b0 b1 b2 b3 b4 b5 b6) n = 0 ↔ cN (q7 b0 b1 b2 b3 b4 b5 b6) n = 0) ∧ ∀ i, i < 7 → tb (orF (q7 b0 b1 b2 b3 b4 b5 b6) n) i = (decide (i < n) && q7 b0 b1 b2 b3 b4 b5 b6 i) := by decide +kernel
theorem or7 (P : Nat → Bool) {n : Nat} (hn : n ≤ 7) : bc (orF P n) = cntF P n ∧ (orF P n = 0 ↔ cN P n = 0) ∧ ∀ i, i < 7 → tb (orF P n) i = (decide (i < n) && P i) := by
  have h := or7_fin (P 0) (P 1) (P 2) (P 3) (P 4) (P 5) (P 6) n (by omega)
  have e : ∀ k, k < n → q7 (P 0) (P 1) (P 2) (P 3) (P 4) (P 5) (P 6) k = P k := fun k hk => q7_eq k (by omega)
  rw [orF_cong e, cntF_cong e, cN_cong e] at h
  exact ⟨h.1, h.2.1, fun i hi => by rw [h.2.2 i hi, q7_eq i hi]⟩
section CN9
variable {B B' : Nat} {wide : Int32} {wd ck : Nat → Int32} {n : Nat} {pf : Nat → Int32} {sn : Nat} {sf : Nat → Int32} {nn : Nat} {nf : Nat → Int32} {mn : Nat} {mf : Nat → Int32} {u : Nat} {uf a hf : Nat → Int32}
theorem sm_c {f : Nat → Int32} {P : Nat → Bool} : ∀ n, (∀ k, k < n → f k = bI (P k)) → smF f n = cntF P n
  | 0, _ => rfl
  | n + 1, h => by
    rw [smF, cntF, sm_c n (fun k hk => h k (by omega)), h n (by omega)]
    cases P n
    · exact Int32.add_zero _
    · rfl
theorem ct_eq (h : VR B wide wd ck n pf sn sf nn nf mn mf u uf a) {tn j : Nat} (hj : j < 9) : ctV a n tn j = hmV (nI j) wide ck pf n sn nn mn u tn := by
  obtain ⟨⟨n1, -⟩, ⟨-, -, w3, -⟩, -, ⟨p0, p1, p2, p3, p4, p5⟩, ⟨q1, -, q3⟩, -⟩ := h
  rcases (show j = 0 ∨ j = 1 ∨ j = 2 ∨ j = 3 ∨ j = 4 ∨ j = 5 ∨ j = 6 ∨ j = 7 ∨ j = 8 by omega) with rfl | rfl | rfl | rfl | rfl | rfl | rfl | rfl | rfl
  · rfl
  · show smF (fun p => a (26 + p)) n = bc (orF (fun i => decide (pf (i * 3 + 1) = 1)) n)
    rw [(or7 _ n1).1]
    refine sm_c n (fun k hk => ?_)
    rw [(q3 k hk).2.1]
    rcases w3 k hk with e | e <;> rw [e] <;> rfl
  · exact q1 6 (by decide)
  · exact p5
  · exact p1
  · exact p2
  · exact p3
  · exact p4
  · rfl
theorem fd_cong {h : Int64} {f g : Nat → Int32} : ∀ {n : Nat}, (∀ i, i < n → f i = g i) → fd h f n = fd h g n
  | 0, _ => rfl
  | n + 1, e => by rw [fd, fd, fd_cong (n := n) (fun i hi => e i (by omega)), e n (by omega)]
theorem dg_eq (h : VR B wide wd ck n pf sn sf nn nf mn mf u uf a) {tn : Nat} {ab be : Int32} {mab mbe : Int64} (hp : PR_ ab be mab mbe) :
    31 * (31 * fd (fd (fd (fd (fd (fd (fd 1663 (ctV a n tn) 9) (fun i => a (6 + i)) 6) (fun i => a (13 + i)) 6) (pfA a) (n * 3)) (fun i => a (40 + i)) (3 * sn)) (fun i => a (55 + i)) (4 * nn)) (fun i => a (79 + i)) (4 * mn) + mab) + mbe = 31 * (31 * fd (fd (fd (fd (fd (fd (fd 1663 (fun i => hmV (nI i) wide ck pf n sn nn mn u tn) 9) ck 6) wd 6) pf (n * 3)) sf (sn * 3)) nf (nn * 4)) mf (mn * 4) + ab.toInt64) + be.toInt64 := by
  have h0 := h
  obtain ⟨-, -, -, -, ⟨q1, q2, q3⟩, ⟨r1, r2, r3, -⟩⟩ := h
  rw [hp.1, hp.2, Nat.mul_comm 3 sn, Nat.mul_comm 4 nn, Nat.mul_comm 4 mn, fd_cong (n := 9) (f := ctV a n tn) (fun i hi => ct_eq h0 hi), fd_cong (n := 6) (f := fun i => a (6 + i)) (fun i hi => q1 i (by omega)), fd_cong (n := 6) (f := fun i => a (13 + i)) q2, fd_cong (f := pfA a) (g := pf) ?_, fd_cong (f := fun i => a (40 + i)) r1, fd_cong (f := fun i => a (55 + i)) r2, fd_cong (f := fun i => a (79 + i)) r3]
  intro i hi
  have hk : i / 3 < n := by omega
  have z := q3 (i / 3) hk
  rcases (show i % 3 = 0 ∨ i % 3 = 1 ∨ i % 3 = 2 by omega) with e | e | e
  · rw [show i = i / 3 * 3 + 0 by omega, pfA_0, z.1]
  · rw [show i = i / 3 * 3 + 1 by omega, pfA_1, z.2.1]
  · rw [show i = i / 3 * 3 + 2 by omega, pfA_2, z.2.2]
theorem VR_cong {wd' ck' pf' sf' nf' mf' uf' a' : Nat → Int32} (h : VR B wide wd ck n pf sn sf nn nf mn mf u uf a) (c1 : ∀ i, i < 6 → wd' i = wd i) (c2 : ∀ i, i < 7 → ck' i = ck i) (c3 : ∀ i, i < n * 3 → pf' i = pf i) (c4 : ∀ i, i < sn * 3 → sf' i = sf i) (c5 : ∀ i, i < nn * 4 → nf' i = nf i) (c6 : ∀ i, i < mn * 4 → mf' i = mf i) (c7 : ∀ i, i < u * 7 → uf' i = uf i) (c8 : ∀ i, i < 159 → a' i = a i) : VR B wide wd' ck' n pf' sn sf' nn nf' mn mf' u uf' a' := by
  obtain ⟨⟨n1, n2, n3, n4, n5⟩, ⟨w1, w2, w3, w4, w5⟩, ⟨g3, g4⟩, ⟨p0, p1, p2, p3, p4, p5⟩, ⟨q1, q2, q3⟩, ⟨r1, r2, r3, r4⟩⟩ := h
  refine ⟨⟨n1, n2, n3, n4, n5⟩, ⟨fun i hi => by rw [c1 i hi]; exact w1 i hi, fun i hi => by rw [c3 _ (by omega)]; exact w2 i hi, fun i hi => by rw [c3 _ (by omega)]; exact w3 i hi, fun i hi => by rw [c4 _ (by omega), c4 _ (by omega)]; exact w4 i hi, fun i hi => by rw [c5 _ (by omega), c5 _ (by omega), c5 _ (by omega)]; exact w5 i hi⟩, ⟨g3.cong c2, fun j hj => (g4 j hj).cong (fun i hi => c7 _ (by omega))⟩, ⟨by rw [c8 _ (by omega)]; exact p0, by rw [c8 _ (by omega)]; exact p1, by rw [c8 _ (by omega)]; exact p2, by rw [c8 _ (by omega)]; exact p3, by rw [c8 _ (by omega)]; exact p4, by rw [c8 _ (by omega)]; exact p5⟩, ⟨fun i hi => by rw [c8 _ (by omega), c2 i hi]; exact q1 i hi, fun i hi => by rw [c8 _ (by omega), c1 i hi]; exact q2 i hi, fun k hk => ⟨by rw [c8 _ (by omega), c3 _ (by omega)]; exact (q3 k hk).1, by rw [c8 _ (by omega), c3 _ (by omega)]; exact (q3 k hk).2.1, by rw [c8 _ (by omega), c3 _ (by omega)]; exact (q3 k hk).2.2⟩⟩, ⟨fun i hi => by rw [c8 _ (by omega), c4 i hi]; exact r1 i hi, fun i hi => by rw [c8 _ (by omega), c5 i hi]; exact r2 i hi, fun i hi => by rw [c8 _ (by omega), c6 i hi]; exact r3 i hi, fun i hi => by rw [c8 _ (by omega), c7 i hi]; exact r4 i hi⟩⟩
theorem cp0 {f g : Nat → Int32} {m i : Nat} (h : i < m) : va_cpy f g 0 0 m i = f i := by rw [pk_cpy_in (by omega) (by omega)]; congr 1; omega
theorem VR_copy {owd ock opf osf onf omf ouf a' : Nat → Int32} (h : VR B wide wd ck n pf sn sf nn nf mn mf u uf a) (c8 : ∀ i, i < 159 → a' i = a i) : VR B wide (va_cpy wd owd 0 0 6) (va_cpy ck ock 0 0 7) n (va_cpy pf opf 0 0 (n * 3)) sn (va_cpy sf osf 0 0 (sn * 3)) nn (va_cpy nf onf 0 0 (nn * 4)) mn (va_cpy mf omf 0 0 (mn * 4)) u (va_cpy uf ouf 0 0 (u * 7)) a' :=
  VR_cong h (fun i hi => cp0 hi) (fun i hi => cp0 hi) (fun i hi => cp0 hi) (fun i hi => cp0 hi) (fun i hi => cp0 hi) (fun i hi => cp0 hi) (fun i hi => cp0 hi) c8
theorem IR_a {k j j' : Int32} {a' : Nat → Int32} (h : IR B k j wide wd ck n pf sn sf nn nf mn mf u uf a) (hj : j' = j) (c8 : ∀ i, i < 159 → a' i = a i) : IR B k j' wide wd ck n pf sn sf nn nf mn mf u uf a' :=
  ⟨hj.trans h.1, h.2.imp id (fun q => ⟨q.1, VR_cong q.2 (fun _ _ => rfl) (fun _ _ => rfl) (fun _ _ => rfl) (fun _ _ => rfl) (fun _ _ => rfl) (fun _ _ => rfl) (fun _ _ => rfl) c8⟩)⟩
end CN9
