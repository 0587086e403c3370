theorem ac_of {args : Array Value} {s : State} {ty : FieldType} (hn : ∀ C, ty ≠ .object C) (h : (Cond.arrayClass ty).before args s = true) : ∃ cA : ClassId, ArrOfT s cA ty ∧ va_RA s cA ty := by
  obtain ⟨cA, kA, comp, h1, h2, h3⟩ := Cond.arrayClass_spec h
  refine ⟨cA, fun n z => ⟨fun k h => (by cases h), kA, h2, comp, h3⟩, ?_⟩
  cases ty <;> first | exact h1 | exact absurd rfl (hn _)
def tmS (i : Nat) : Term := .string RX5 (sk_i.getD i 0)
set_option maxRecDepth 100000 in
theorem nsF_in : ∀ q ∈ ns_F, Cond.fieldLinkNest q.1 q.2.1 q.2.2.1 q.2.2.2.1 q.2.2.2.2.1 q.2.2.2.2.2 ∈ lw_tbl := by decide +kernel
set_option maxRecDepth 100000 in
theorem nsM_in : ∀ q ∈ ns_M, Cond.methodLinkNest q.1 q.2.1 q.2.2.1 q.2.2.2 ∈ lw_tbl := by decide +kernel
set_option maxRecDepth 100000 in
theorem sr_in : ∀ i, i < 7 → Cond.stringRef RX5 (sk_i.getD i 0) (sk_t.getD i "") ∈ lw_tbl := by decide +kernel
def flN : List Cond := flatC (Jvm.Cond.and given_1 narrow_1)
set_option maxRecDepth 100000 in
theorem fn_ex : ∀ i, i < 7 → Cond.exactly (tmS i) "java/lang/String" ∈ flN := by decide +kernel
set_option maxRecDepth 100000 in
theorem fn_co : ∀ i, i < 7 → Cond.eq (.field (tmS i) "java/lang/String" "coder" "B") (.int 0) ∈ flN := by decide +kernel
set_option maxRecDepth 100000 in
theorem fn_ar : ∀ i, i < 7 → Cond.arrayOf (.field (tmS i) "java/lang/String" "value" "[B") .byte ∈ flN := by decide +kernel
set_option maxRecDepth 100000 in
theorem fn_le : ∀ i, i < 7 → Cond.eq (.length (.field (tmS i) "java/lang/String" "value" "[B")) (.int (Int32.ofNat (sk_n.getD i 0))) ∈ flN := by decide +kernel
set_option maxRecDepth 100000 in
theorem fn_el : ∀ i, i < 7 → ∀ j, j < sk_n.getD i 0 → Cond.eq (.elem (.field (tmS i) "java/lang/String" "value" "[B") (.int (Int32.ofNat j))) (.int ((sk_b.getD i []).getD j 0)) ∈ flN := by decide +kernel
set_option maxRecDepth 100000 in
theorem fn_ne : ∀ i, i < 7 → ∀ j, j < 7 → i ≠ j → (Cond.not (Cond.eq (tmS i) (tmS j)) ∈ flN ∨ Cond.not (Cond.eq (tmS j) (tmS i)) ∈ flN) := by decide +kernel
set_option maxRecDepth 100000 in
theorem fn_cs : Cond.eq (.static "java/lang/String" "COMPACT_STRINGS" "Z") (.int 1) ∈ flN := by decide +kernel
set_option maxRecDepth 100000 in
theorem fn_sf : Cond.isRef (.static "jdk/internal/util/Preconditions" "SIOOBE_FORMATTER" "Ljava/util/function/BiFunction;") ∈ flN := by decide +kernel
set_option maxRecDepth 100000 in
theorem ls_cs : Cond.laysStatic "java/lang/String" "COMPACT_STRINGS" "Z" ∈ lw_tbl ∧ Cond.initialized "java/lang/String" ∈ lw_tbl ∧ Cond.laysStatic "jdk/internal/util/Preconditions" "SIOOBE_FORMATTER" "Ljava/util/function/BiFunction;" ∈ lw_tbl ∧ Cond.initialized "jdk/internal/util/Preconditions" ∈ lw_tbl := by decide +kernel

set_option maxHeartbeats 4000000 in
theorem start_G {s : State} {b : Nat} (hts : ∀ w ∈ lw_tbl, w.before #[Value.ref b] s = true) (hgv : (Jvm.Cond.and given_1 narrow_1).before #[Value.ref b] s = true) : ∃ G : gT, gK G s ∧ gE G (fun q => s.heap.size ≤ q) s s.heap := by
  have hfl : ∀ c ∈ flN, c.before #[Value.ref b] s = true := flat_of_before _ hgv
  have hA : ∀ a : Nat, a < s.heap.size → ¬ (fun q => s.heap.size ≤ q) a := fun a h => Nat.not_le.mpr h
  obtain ⟨c0, i0, k0⟩ := u_known (C := RX1) (T := TX1) (N := 1) (n := 1) hts inX1 (hts _ (lg_tbl k_it_X1))
  obtain ⟨c1, i1, k1⟩ := u_known (C := RX3) (T := TX3) (N := 2) (n := 2) hts inX3 (hts _ (lg_tbl k_it_X3))
  obtain ⟨c2, i2, k2⟩ := u_known (C := RX4) (T := TX4) (N := 5) (n := 5) hts inX4 (hts _ (lg_tbl k_it_X4))
  obtain ⟨c3, i3, k3⟩ := u_known (C := RX5) (T := TX5) (N := 3) (n := 3) hts inX5 (hts _ (lg_tbl k_it_X5))
  obtain ⟨c4, i4, k4⟩ := u_known (C := RX6) (T := TX6) (N := 4) (n := 4) hts inX6 (hts _ (lg_tbl k_it_X6))
  obtain ⟨c5, i5, k5⟩ := u_known (C := RX7) (T := TX7) (N := 2) (n := 2) hts inX7 (hts _ (lg_tbl k_it_X7))
  obtain ⟨c6, i6, k6⟩ := u_known (C := RX8) (T := TX8) (N := 5) (n := 5) hts inX8 (hts _ (lg_tbl k_it_X8))
  obtain ⟨c7, i7, k7⟩ := u_known (C := RX9) (T := TX9) (N := 8) (n := 8) hts inX9 (hts _ (lg_tbl k_it_X9))
  obtain ⟨c8, i8, k8⟩ := u_known (C := RX10) (T := TX10) (N := 14) (n := 14) hts inX10 (hts _ (lg_tbl k_it_X10))
  obtain ⟨c9, i9, k9⟩ := u_known (C := RX11) (T := TX11) (N := 17) (n := 17) hts inX11 (hts _ (lg_tbl k_it_X11))
  obtain ⟨dC, dI, hKc⟩ : ∃ (dC : Nat → ClassId) (dI : Nat → Nat → Nat), ∀ (k : Nat) (q : vw_C), vwCl[k]? = some q → u_Kn s q.1 q.2.1 q.2.2 (dC k) (dI k) := by
    refine ⟨fun k => if k = 0 then c0 else if k = 1 then c1 else if k = 2 then c2 else if k = 3 then c3 else if k = 4 then c4 else if k = 5 then c5 else if k = 6 then c6 else if k = 7 then c7 else if k = 8 then c8 else c9, fun k => if k = 0 then i0 else if k = 1 then i1 else if k = 2 then i2 else if k = 3 then i3 else if k = 4 then i4 else if k = 5 then i5 else if k = 6 then i6 else if k = 7 then i7 else if k = 8 then i8 else i9, ?_⟩
    intro k q hq
    match k, hq with
    | 0, hq => cases hq; exact k0
    | 1, hq => cases hq; exact k1
    | 2, hq => cases hq; exact k2
    | 3, hq => cases hq; exact k3
    | 4, hq => cases hq; exact k4
    | 5, hq => cases hq; exact k5
    | 6, hq => cases hq; exact k6
    | 7, hq => cases hq; exact k7
    | 8, hq => cases hq; exact k8
    | 9, hq => cases hq; exact k9
    | k + 10, hq => simp [vwCl] at hq
  obtain ⟨cA, a1, a2⟩ := ac_of (ty := .int) (fun C h => by cases h) (hts _ (lg_tbl k_ac_int))
  obtain ⟨cZ, z1, z2⟩ := ac_of (ty := .boolean) (fun C h => by cases h) (hts _ (lg_tbl k_ac_boolean))
  obtain ⟨adK, adV, hS, hE⟩ := vk_Sof (N := 7) (tm := tmS) (len := sk_n) (byt := sk_b) (A := fun q => s.heap.size ≤ q) (by decide +kernel) (fun i hi => hfl _ (fn_ex i hi)) (fun i hi => hfl _ (fn_co i hi)) (fun i hi => hfl _ (fn_ar i hi)) (fun i hi => hfl _ (fn_le i hi)) (fun i hi j hj => hfl _ (fn_el i hi j hj)) (fun i j hi hj hn => (fn_ne i hi j hj hn).imp (hfl _) (hfl _)) hA
  refine ⟨((dC, dI), cA, cZ, adK, adV), ⟨hKc, fun k q hq => ?_⟩, fun q hq => va_Nw.of rfl (hts _ (nsF_in q hq)), fun q hq => va_Nw.of rfl (hts _ (nsM_in q hq)), fun i hi => vk_R.of (hts _ (sr_in i hi)) (hE i hi), hS, ?_, ?_⟩
  · match k, hq with
    | 0, hq => cases hq; exact ⟨a1, a2⟩
    | 1, hq => cases hq; exact ⟨z1, z2⟩
    | k + 2, hq => simp at hq
  · have h := hfl _ fn_cs
    refine va_Zof (args := #[Value.ref b]) (hts _ ls_cs.1) (hts _ ls_cs.2.1) ?_ hA
    exact va_eqv h rfl
  · exact va_Zqof (args := #[Value.ref b]) (hts _ ls_cs.2.2.1) (hts _ ls_cs.2.2.2) (hfl _ fn_sf) hA

