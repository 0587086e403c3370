/-! what was seen, noted, marked -/
section VS3
variable {B B' : Nat} {wide : Int32} {wd ck : Nat → Int32} {n : Nat} {pf : Nat → Int32} {sn : Nat} {sf : Nat → Int32} {nn : Nat} {nf : Nat → Int32} {mn : Nat} {mf : Nat → Int32} {u : Nat} {uf a : Nat → Int32}
theorem VR_seen {k t : Nat} {o : Int32} (h : VR B wide wd ck n pf sn sf nn nf mn mf u uf a) (hs : sn < 5) (hk : k < n) (ht : t < 100) : VR B wide wd ck n pf (sn + 1) (upd (upd (upd sf (sn * 3 + 0) (nI k)) (sn * 3 + 1) (nI t)) (sn * 3 + 2) o) nn nf mn mf u uf (upd (upd (upd (upd a (40 + 3 * sn) (nI k)) (40 + 3 * sn + 1) (nI t)) (40 + 3 * sn + 2) o) 1 (nI (sn + 1))) := by
  obtain ⟨⟨n1, n2, n3, n4, n5⟩, ⟨w1, w2, w3, w4, w5⟩, ⟨g3, g4⟩, ⟨p0, p1, p2, p3, p4, p5⟩, ⟨q1, q2, q3⟩, ⟨r1, r2, r3, r4⟩⟩ := h
  have lo (i : Nat) (hi : i < 40 ∨ 55 ≤ i) (h1 : i ≠ 1) : upd (upd (upd (upd a (40 + 3 * sn) (nI k)) (40 + 3 * sn + 1) (nI t)) (40 + 3 * sn + 2) o) 1 (nI (sn + 1)) i = a i := by rw [pk_un h1, pk_un (by omega), pk_un (by omega), pk_un (by omega)]
  refine ⟨⟨n1, by omega, n3, n4, n5⟩, ⟨w1, w2, w3, fun i hi => ?_, w5⟩, ⟨g3, g4⟩, ⟨by rw [lo 0 (by omega) (by omega)]; exact p0, pk_us, by rw [lo 2 (by omega) (by omega)]; exact p2, by rw [lo 3 (by omega) (by omega)]; exact p3, by rw [lo 4 (by omega) (by omega)]; exact p4, by rw [lo 5 (by omega) (by omega)]; exact p5⟩, ⟨fun i hi => by rw [lo _ (by omega) (by omega)]; exact q1 i hi, fun i hi => by rw [lo _ (by omega) (by omega)]; exact q2 i hi, fun k hk => ⟨by rw [lo _ (by omega) (by omega)]; exact (q3 k hk).1, by rw [lo _ (by omega) (by omega)]; exact (q3 k hk).2.1, by rw [lo _ (by omega) (by omega)]; exact (q3 k hk).2.2⟩⟩, ⟨fun i hi => ?_, fun i hi => by rw [lo _ (by omega) (by omega)]; exact r2 i hi, fun i hi => by rw [lo _ (by omega) (by omega)]; exact r3 i hi, fun i hi => by rw [lo _ (by omega) (by omega)]; exact r4 i hi⟩⟩
  · by_cases e : i = sn
    · subst e
      exact ⟨k, t, hk, ht, by rw [pk_un (by omega), pk_un (by omega), pk_us], by rw [pk_un (by omega), pk_us]⟩
    · obtain ⟨k', t', z1, z2, z3, z4⟩ := w4 i (by omega)
      exact ⟨k', t', z1, z2, by rw [pk_un (by omega), pk_un (by omega), pk_un (by omega)]; exact z3, by rw [pk_un (by omega), pk_un (by omega), pk_un (by omega)]; exact z4⟩
  · rw [pk_un (by omega)]
    rcases (show i < sn * 3 ∨ i = sn * 3 + 0 ∨ i = sn * 3 + 1 ∨ i = sn * 3 + 2 by omega) with e | e | e | e
    · rw [pk_un (by omega), pk_un (by omega), pk_un (by omega), pk_un (by omega), pk_un (by omega), pk_un (by omega)]; exact r1 i e
    · subst e
      rw [pk_un (by omega), pk_un (by omega), show 40 + (sn * 3 + 0) = 40 + 3 * sn by omega, pk_us, pk_un (by omega), pk_un (by omega), pk_us]
    · subst e
      rw [pk_un (by omega), show 40 + (sn * 3 + 1) = 40 + 3 * sn + 1 by omega, pk_us, pk_un (by omega), pk_us]
    · subst e
      rw [show 40 + (sn * 3 + 2) = 40 + 3 * sn + 2 by omega, pk_us, pk_us]
theorem four_in {f a : Nat → Int32} {z m i : Nat} {x0 x1 x2 x3 : Int32} (h : ∀ i, i < m * 4 → a (z + i) = f i) (hi : i < (m + 1) * 4) :
    upd (upd (upd (upd a (z + 4 * m) x0) (z + 4 * m + 1) x1) (z + 4 * m + 2) x2) (z + 4 * m + 3) x3 (z + i) = upd (upd (upd (upd f (m * 4 + 0) x0) (m * 4 + 1) x1) (m * 4 + 2) x2) (m * 4 + 3) x3 i := by
  rcases (show i < m * 4 ∨ i = m * 4 + 0 ∨ i = m * 4 + 1 ∨ i = m * 4 + 2 ∨ i = m * 4 + 3 by omega) with e | e | e | e | e
  · rw [pk_un (by omega), pk_un (by omega), pk_un (by omega), pk_un (by omega), pk_un (by omega), pk_un (by omega), pk_un (by omega), pk_un (by omega)]; exact h i e
  · subst e
    rw [pk_un (by omega), pk_un (by omega), pk_un (by omega), show z + (m * 4 + 0) = z + 4 * m by omega, pk_us, pk_un (by omega), pk_un (by omega), pk_un (by omega), pk_us]
  · subst e
    rw [pk_un (by omega), pk_un (by omega), show z + (m * 4 + 1) = z + 4 * m + 1 by omega, pk_us, pk_un (by omega), pk_un (by omega), pk_us]
  · subst e
    rw [pk_un (by omega), show z + (m * 4 + 2) = z + 4 * m + 2 by omega, pk_us, pk_un (by omega), pk_us]
  · subst e
    rw [show z + (m * 4 + 3) = z + 4 * m + 3 by omega, pk_us, pk_us]
theorem four_out {a : Nat → Int32} {z i : Nat} {x0 x1 x2 x3 : Int32} (h : i < z ∨ z + 4 ≤ i) : upd (upd (upd (upd a z x0) (z + 1) x1) (z + 2) x2) (z + 3) x3 i = a i := by
  rw [pk_un (by omega), pk_un (by omega), pk_un (by omega), pk_un (by omega)]
theorem VR_note {g x w y : Int32} (h : VR B wide wd ck n pf sn sf nn nf mn mf u uf a) (hs : nn < 6) (h1 : iw g 1 9 = true) (h2 : iw x 0 30 = true) (h3 : iw w (-4) 4 = true) : VR B wide wd ck n pf sn sf (nn + 1) (upd (upd (upd (upd nf (nn * 4 + 0) g) (nn * 4 + 1) x) (nn * 4 + 2) w) (nn * 4 + 3) y) mn mf u uf (upd (upd (upd (upd (upd a (55 + 4 * nn) g) (55 + 4 * nn + 1) x) (55 + 4 * nn + 2) w) (55 + 4 * nn + 3) y) 2 (nI (nn + 1))) := by
  obtain ⟨⟨n1, n2, n3, n4, n5⟩, ⟨w1, w2, w3, w4, w5⟩, ⟨g3, g4⟩, ⟨p0, p1, p2, p3, p4, p5⟩, ⟨q1, q2, q3⟩, ⟨r1, r2, r3, r4⟩⟩ := h
  have lo (i : Nat) (hi : i < 55 ∨ 79 ≤ i) (h2 : i ≠ 2) : upd (upd (upd (upd (upd a (55 + 4 * nn) g) (55 + 4 * nn + 1) x) (55 + 4 * nn + 2) w) (55 + 4 * nn + 3) y) 2 (nI (nn + 1)) i = a i := by rw [pk_un h2, four_out (by omega)]
  refine ⟨⟨n1, n2, by omega, n4, n5⟩, ⟨w1, w2, w3, w4, fun i hi => ?_⟩, ⟨g3, g4⟩, ⟨by rw [lo 0 (by omega) (by omega)]; exact p0, by rw [lo 1 (by omega) (by omega)]; exact p1, pk_us, by rw [lo 3 (by omega) (by omega)]; exact p3, by rw [lo 4 (by omega) (by omega)]; exact p4, by rw [lo 5 (by omega) (by omega)]; exact p5⟩, ⟨fun i hi => by rw [lo _ (by omega) (by omega)]; exact q1 i hi, fun i hi => by rw [lo _ (by omega) (by omega)]; exact q2 i hi, fun k hk => ⟨by rw [lo _ (by omega) (by omega)]; exact (q3 k hk).1, by rw [lo _ (by omega) (by omega)]; exact (q3 k hk).2.1, by rw [lo _ (by omega) (by omega)]; exact (q3 k hk).2.2⟩⟩, ⟨fun i hi => by rw [lo _ (by omega) (by omega)]; exact r1 i hi, fun i hi => by rw [pk_un (by omega)]; exact four_in r2 hi, fun i hi => by rw [lo _ (by omega) (by omega)]; exact r3 i hi, fun i hi => by rw [lo _ (by omega) (by omega)]; exact r4 i hi⟩⟩
  by_cases e : i = nn
  · subst e
    rw [pk_un (by omega), pk_un (by omega), pk_un (by omega), pk_us, pk_un (by omega), pk_un (by omega), pk_us, pk_un (by omega), pk_us]
    exact ⟨(iw_rg h1).w (by decide) (by decide), (iw_rg h2).w (by decide) (by decide), (iw_rg h3).w (by decide) (by decide)⟩
  · rw [four_out (z := nn * 4 + 0) (by omega), four_out (z := nn * 4 + 0) (by omega), four_out (z := nn * 4 + 0) (by omega)]
    exact w5 i (by omega)
theorem VR_mark {p b t x : Int32} (h : VR B wide wd ck n pf sn sf nn nf mn mf u uf a) (hs : mn < 6) : VR B wide wd ck n pf sn sf nn nf (mn + 1) (upd (upd (upd (upd mf (mn * 4 + 0) p) (mn * 4 + 1) b) (mn * 4 + 2) t) (mn * 4 + 3) x) u uf (upd (upd (upd (upd (upd a (79 + 4 * mn) p) (79 + 4 * mn + 1) b) (79 + 4 * mn + 2) t) (79 + 4 * mn + 3) x) 3 (nI (mn + 1))) := by
  obtain ⟨⟨n1, n2, n3, n4, n5⟩, ⟨w1, w2, w3, w4, w5⟩, ⟨g3, g4⟩, ⟨p0, p1, p2, p3, p4, p5⟩, ⟨q1, q2, q3⟩, ⟨r1, r2, r3, r4⟩⟩ := h
  have lo (i : Nat) (hi : i < 79 ∨ 103 ≤ i) (h2 : i ≠ 3) : upd (upd (upd (upd (upd a (79 + 4 * mn) p) (79 + 4 * mn + 1) b) (79 + 4 * mn + 2) t) (79 + 4 * mn + 3) x) 3 (nI (mn + 1)) i = a i := by rw [pk_un h2, four_out (by omega)]
  exact ⟨⟨n1, n2, n3, by omega, n5⟩, ⟨w1, w2, w3, w4, w5⟩, ⟨g3, g4⟩, ⟨by rw [lo 0 (by omega) (by omega)]; exact p0, by rw [lo 1 (by omega) (by omega)]; exact p1, by rw [lo 2 (by omega) (by omega)]; exact p2, pk_us, by rw [lo 4 (by omega) (by omega)]; exact p4, by rw [lo 5 (by omega) (by omega)]; exact p5⟩, ⟨fun i hi => by rw [lo _ (by omega) (by omega)]; exact q1 i hi, fun i hi => by rw [lo _ (by omega) (by omega)]; exact q2 i hi, fun k hk => ⟨by rw [lo _ (by omega) (by omega)]; exact (q3 k hk).1, by rw [lo _ (by omega) (by omega)]; exact (q3 k hk).2.1, by rw [lo _ (by omega) (by omega)]; exact (q3 k hk).2.2⟩⟩, ⟨fun i hi => by rw [lo _ (by omega) (by omega)]; exact r1 i hi, fun i hi => by rw [lo _ (by omega) (by omega)]; exact r2 i hi, fun i hi => by rw [pk_un (by omega)]; exact four_in r3 hi, fun i hi => by rw [lo _ (by omega) (by omega)]; exact r4 i hi⟩⟩
theorem VR_f0 (h : VR B wide wd ck n pf sn sf nn nf mn mf u uf a) : VR B wide wd ck n pf 0 sf nn nf mn mf u uf (upd a (1 + 0) 0) := by
  obtain ⟨⟨n1, n2, n3, n4, n5⟩, ⟨w1, w2, w3, w4, w5⟩, ⟨g3, g4⟩, ⟨p0, p1, p2, p3, p4, p5⟩, ⟨q1, q2, q3⟩, ⟨r1, r2, r3, r4⟩⟩ := h
  exact ⟨⟨n1, by omega, n3, n4, n5⟩, ⟨w1, w2, w3, fun i hi => absurd hi (Nat.not_lt_zero _), w5⟩, ⟨g3, g4⟩, ⟨p0, rfl, p2, p3, p4, p5⟩, ⟨fun i hi => by rw [pk_un (by omega)]; exact q1 i hi, fun i hi => by rw [pk_un (by omega)]; exact q2 i hi, fun k hk => by rw [pk_un (by omega), pk_un (by omega), pk_un (by omega)]; exact q3 k hk⟩, ⟨fun i hi => absurd hi (by omega), fun i hi => by rw [pk_un (by omega)]; exact r2 i hi, fun i hi => by rw [pk_un (by omega)]; exact r3 i hi, fun i hi => by rw [pk_un (by omega)]; exact r4 i hi⟩⟩
theorem VR_f1 (h : VR B wide wd ck n pf sn sf nn nf mn mf u uf a) : VR B wide wd ck n pf sn sf 0 nf mn mf u uf (upd a (1 + 1) 0) := by
  obtain ⟨⟨n1, n2, n3, n4, n5⟩, ⟨w1, w2, w3, w4, w5⟩, ⟨g3, g4⟩, ⟨p0, p1, p2, p3, p4, p5⟩, ⟨q1, q2, q3⟩, ⟨r1, r2, r3, r4⟩⟩ := h
  exact ⟨⟨n1, n2, by omega, n4, n5⟩, ⟨w1, w2, w3, w4, fun i hi => absurd hi (Nat.not_lt_zero _)⟩, ⟨g3, g4⟩, ⟨p0, p1, rfl, p3, p4, p5⟩, ⟨fun i hi => by rw [pk_un (by omega)]; exact q1 i hi, fun i hi => by rw [pk_un (by omega)]; exact q2 i hi, fun k hk => by rw [pk_un (by omega), pk_un (by omega), pk_un (by omega)]; exact q3 k hk⟩, ⟨fun i hi => by rw [pk_un (by omega)]; exact r1 i hi, fun i hi => absurd hi (by omega), fun i hi => by rw [pk_un (by omega)]; exact r3 i hi, fun i hi => by rw [pk_un (by omega)]; exact r4 i hi⟩⟩
theorem VR_f2 (h : VR B wide wd ck n pf sn sf nn nf mn mf u uf a) : VR B wide wd ck n pf sn sf nn nf 0 mf u uf (upd a (1 + 2) 0) := by
  obtain ⟨⟨n1, n2, n3, n4, n5⟩, ⟨w1, w2, w3, w4, w5⟩, ⟨g3, g4⟩, ⟨p0, p1, p2, p3, p4, p5⟩, ⟨q1, q2, q3⟩, ⟨r1, r2, r3, r4⟩⟩ := h
  exact ⟨⟨n1, n2, n3, by omega, n5⟩, ⟨w1, w2, w3, w4, w5⟩, ⟨g3, g4⟩, ⟨p0, p1, p2, rfl, p4, p5⟩, ⟨fun i hi => by rw [pk_un (by omega)]; exact q1 i hi, fun i hi => by rw [pk_un (by omega)]; exact q2 i hi, fun k hk => by rw [pk_un (by omega), pk_un (by omega), pk_un (by omega)]; exact q3 k hk⟩, ⟨fun i hi => by rw [pk_un (by omega)]; exact r1 i hi, fun i hi => by rw [pk_un (by omega)]; exact r2 i hi, fun i hi => absurd hi (by omega), fun i hi => by rw [pk_un (by omega)]; exact r4 i hi⟩⟩
/-- guesses -/
theorem ov_eq (h : VR B wide wd ck n pf sn sf nn nf mn mf u uf a) {k t : Nat} (hk : k < n) {g : Int32} : ovA a k t g = decide (wide ≤ rch ck wd pf k t (pf (k * 3 + 1)) g) := by
  rw [ovA, rc_eq h hk]
  obtain ⟨-, -, -, ⟨-, -, -, -, -, e5⟩, ⟨-, -, ep⟩, -⟩ := h
  rw [e5, (ep k hk).2.1]
theorem oS_of (h : VR B wide wd ck n pf sn sf nn nf mn mf u uf a) : oSA a sn := by
  obtain ⟨⟨n1, -⟩, ⟨-, -, -, w4, -⟩, -, -, -, ⟨r1, -⟩⟩ := h
  intro i hi
  obtain ⟨k, t, z1, z2, z3, z4⟩ := w4 i hi
  refine ⟨k, t, by omega, z2, ?_, ?_⟩
  · rw [← z3, ← r1 (i * 3 + 0) (by omega)]; congr 1; omega
  · rw [← z4, ← r1 (i * 3 + 1) (by omega)]; congr 1; omega
theorem hw_eq (h : VR B wide wd ck n pf sn sf nn nf mn mf u uf a) {g : Int32} : hwA a g sn = allB (sB wide ck wd pf sf g) sn := by
  refine allB_cong (fun i hi => ?_)
  have r1 := h.2.2.2.2.2.1
  obtain ⟨k, t, z1, z2, z3, z4⟩ := h.2.1.2.2.2.1 i hi
  have hn := h.1.1
  have a0 : a (40 + 3 * i) = sf (i * 3 + 0) := by rw [← r1 (i * 3 + 0) (by omega)]; congr 1; omega
  have a1 : a (40 + 3 * i + 1) = sf (i * 3 + 1) := by rw [← r1 (i * 3 + 1) (by omega)]; congr 1; omega
  have a2 : a (40 + 3 * i + 2) = sf (i * 3 + 2) := by rw [← r1 (i * 3 + 2) (by omega)]; congr 1; omega
  rw [a0, a1, a2, sB, z3, z4, nI_clamp (by omega), nI_clamp (by omega), ov_eq h z1]
theorem nc_eq (h : VR B wide wd ck n pf sn sf nn nf mn mf u uf a) {kind : Int32} : ncA a kind nn = allB (nB nf kind) nn := by
  refine allB_cong (fun i hi => ?_)
  have r2 := h.2.2.2.2.2.2.1
  have e (j : Nat) (hj : j < 4) : a (55 + 4 * i + j) = nf (i * 4 + j) := by rw [← r2 (i * 4 + j) (by omega)]; congr 1; omega
  have e0 : a (55 + 4 * i) = nf (i * 4 + 0) := e 0 (by decide)
  rw [nB, ← e0, ← e 1 (by decide), ← e 2 (by decide), ← e 3 (by decide)]
theorem mc_eq (h : VR B wide wd ck n pf sn sf nn nf mn mf u uf a) {p kind : Int32} : mcA a p kind mn = allB (mB mf p kind) mn := by
  refine allB_cong (fun i hi => ?_)
  have r3 := h.2.2.2.2.2.2.2.1
  have e (j : Nat) (hj : j < 4) : a (79 + 4 * i + j) = mf (i * 4 + j) := by rw [← r3 (i * 4 + j) (by omega)]; congr 1; omega
  have e0 : a (79 + 4 * i) = mf (i * 4 + 0) := e 0 (by decide)
  rw [mB, ← e0, ← e 1 (by decide), ← e 2 (by decide), ← e 3 (by decide)]
theorem kc_eq (h : VR B wide wd ck n pf sn sf nn nf mn mf u uf a) : kcA a nn = orF (fun i => allB (nB nf (nI i)) nn) 6 := orF_cong (fun k _ => nc_eq h)
theorem kp_eq (h : VR B wide wd ck n pf sn sf nn nf mn mf u uf a) {p : Int32} : kpA a p mn = orF (fun i => allB (mB mf p (nI i)) mn) 6 := orF_cong (fun k _ => mc_eq h)
end VS3
def q9 (b1 b2 b3 b4 b5 b6 b7 b8 b9 : Bool) (g : Nat) : Bool := if g = 1 then b1 else if g = 2 then b2 else if g = 3 then b3 else if g = 4 then b4 else if g = 5 then b5 else if g = 6 then b6 else if g = 7 then b7 else if g = 8 then b8 else if g = 9 then b9 else false
theorem q9_eq {P : Nat → Bool} : ∀ g, 1 ≤ g → g < 10 → q9 (P 1) (P 2) (P 3) (P 4) (P 5) (P 6) (P 7) (P 8) (P 9) g = P g := by
  intro g h1 h2
  rcases (show g = 1 ∨ g = 2 ∨ g = 3 ∨ g = 4 ∨ g = 5 ∨ g = 6 ∨ g = 7 ∨ g = 8 ∨ g = 9 by omega) with rfl | rfl | rfl | rfl | rfl | rfl | rfl | rfl | rfl <;> rfl
theorem hv_fin : ∀ b1 b2 b3 b4 b5 b6 b7 b8 b9 : Bool, bc (orF (fun g => decide (1 ≤ g) && q9 b1 b2 b3 b4 b5 b6 b7 b8 b9 g) 10) = (hvF (q9 b1 b2 b3 b4 b5 b6 b7 b8 b9) 9).1 ∧ lwb (orF (fun g => decide (1 ≤ g) && q9 b1 b2 b3 b4 b5 b6 b7 b8 b9 g) 10) = (hvF (q9 b1 b2 b3 b4 b5 b6 b7 b8 b9) 9).2.1 ∧ hgb (orF (fun g => decide (1 ≤ g) && q9 b1 b2 b3 b4 b5 b6 b7 b8 b9 g) 10) = (hvF (q9 b1 b2 b3 b4 b5 b6 b7 b8 b9) 9).2.2 := by decide +kernel
theorem hvF_cong {P Q : Nat → Bool} : ∀ {n : Nat}, (∀ k, 1 ≤ k → k ≤ n → P k = Q k) → hvF P n = hvF Q n
  | 0, _ => rfl
  | n + 1, h => by rw [hvF, hvF, hvF_cong (n := n) (fun k h1 h2 => h k h1 (by omega)), h (n + 1) (by omega) (by omega)]
theorem hv_all (P : Nat → Bool) : bc (orF (fun g => decide (1 ≤ g) && P g) 10) = (hvF P 9).1 ∧ lwb (orF (fun g => decide (1 ≤ g) && P g) 10) = (hvF P 9).2.1 ∧ hgb (orF (fun g => decide (1 ≤ g) && P g) 10) = (hvF P 9).2.2 := by
  have h := hv_fin (P 1) (P 2) (P 3) (P 4) (P 5) (P 6) (P 7) (P 8) (P 9)
  have e1 : orF (fun g => decide (1 ≤ g) && q9 (P 1) (P 2) (P 3) (P 4) (P 5) (P 6) (P 7) (P 8) (P 9) g) 10 = orF (fun g => decide (1 ≤ g) && P g) 10 := orF_cong (fun k hk => by
    rcases Nat.eq_zero_or_pos k with rfl | q
    · rfl
    · rw [q9_eq k q hk])
  have e2 : hvF (q9 (P 1) (P 2) (P 3) (P 4) (P 5) (P 6) (P 7) (P 8) (P 9)) 9 = hvF P 9 := hvF_cong (fun k h1 h2 => q9_eq k h1 (by omega))
  rw [e1, e2] at h
  exact h
theorem iw_3 {x : Int32} (h : iw x 0 2 = false) : ¬ x = 0 ∧ ¬ x = 1 ∧ ¬ x = 2 := by
  refine ⟨fun e => ?_, fun e => ?_, fun e => ?_⟩ <;> (subst e; exact absurd h (by decide))
section HVY
variable {B B' : Nat} {wide : Int32} {wd ck : Nat → Int32} {n : Nat} {pf : Nat → Int32} {sn : Nat} {sf : Nat → Int32} {nn : Nat} {nf : Nat → Int32} {mn : Nat} {mf : Nat → Int32} {u : Nat} {uf a : Nat → Int32}
theorem wts_eq (h : VR B wide wd ck n pf sn sf nn nf mn mf u uf a) : wts wide ck wd pf sf sn = orF (fun g => decide (1 ≤ g) && hwA a (nI g) sn) 10 := orF_cong (fun k _ => by rw [hw_eq h])
theorem heavy_eq0 (h : VR B wide wd ck n pf sn sf nn nf mn mf u uf a) : (hvF (fun g => hwA a (nI g) sn) 9).1 = bc (wts wide ck wd pf sf sn) := by rw [wts_eq h]; exact (hv_all (fun g => hwA a (nI g) sn)).1.symm
theorem heavy_eq1 (h : VR B wide wd ck n pf sn sf nn nf mn mf u uf a) : (hvF (fun g => hwA a (nI g) sn) 9).2.1 = lwb (wts wide ck wd pf sf sn) := by rw [wts_eq h]; exact (hv_all (fun g => hwA a (nI g) sn)).2.1.symm
theorem heavy_eq2 (h : VR B wide wd ck n pf sn sf nn nf mn mf u uf a) : (hvF (fun g => hwA a (nI g) sn) 9).2.2 = hgb (wts wide ck wd pf sf sn) := by rw [wts_eq h]; exact (hv_all (fun g => hwA a (nI g) sn)).2.2.symm
end HVY
