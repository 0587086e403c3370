set_option maxHeartbeats 4000000 in
set_option maxRecDepth 100000 in
theorem c_J0_coder_7d493 (l : Launch) (G : gT) (i : Nat) (hi : i < 7) : MI l G yJ0_coder_7d493 cJ0_coder_7d493 1 .byte ({ frames := 0, cells := 0, slots := 0, locals := 0 }) [.ref (G.2.2.2.1 i)] [] (fun (r : Int32) w1 => (r = 0) ∧ w1 = []) := by
  refine MI.mk (by decide) (Nat.le_of_ble_eq_true rfl) ?_
  intro p_ e_ s_ m_ ar_ be_ me_ cd_ A_ ls C hrt hW hl
  have hx := C.1; have hb := C.2.1; have hown := C.2.2.2.1; have ht := C.2.2.2.2.1
  replace hl : lv_has ls 1 [(0, .ref (G.2.2.2.1 i))] := hl
  generalize hQ : MQ be_ _ ar_ s_ 0 0 A_ = Q
  have hSt := C.2.2.2.2.2.2.2.2.2.2.2.1
  have hZs := C.2.2.2.2.2.2.2.2.2.2.2.2.1
  have hZq := C.2.2.2.2.2.2.2.2.2.2.2.2.2
  refine va_gets hx hb hZs hW.2.2 hown (ht _ k_fl_J0_38) (fun _ h9 => h9) dJ0_coder_7d493_0 ?_
  refine lv_if_eq (tgt := 13) hx hb dJ0_coder_7d493_3 (by decide) (fun c_540 => ?_) (fun c_540 => ?_)
  · exfalso; exact absurd c_540 (by decide)
  · refine lv_aload_n hx hb dJ0_coder_7d493_6 rfl (lv_at hl 0 rfl) ?_
    refine vk_getf hx hb (hSt.1 i hi).2.1 hW.2.2 hown (ht _ k_fl_J0_15) (fun _ h9 => h9) dJ0_coder_7d493_7 ?_
    refine lv_goto (tgt := 14) hx hb dJ0_coder_7d493_10 (by decide) ?_
    subst hQ
    exact g_zret (v := 0) C hW hrt (by first | rfl | exact bI_nar _ | (simp only [c_540]; (repeat' split) <;> rfl)) ⟨by rfl, rfl⟩ dJ0_coder_7d493_14
set_option maxHeartbeats 4000000 in
set_option maxRecDepth 100000 in
theorem c_J0_isLatin1_aae02 (l : Launch) (G : gT) (i : Nat) (hi : i < 7) : MI l G yJ0_isLatin1_aae02 cJ0_isLatin1_aae02 1 .boolean ({ frames := 0, cells := 0, slots := 0, locals := 0 }) [.ref (G.2.2.2.1 i)] [] (fun (r : Int32) w1 => (r = 1) ∧ w1 = []) := by
  refine MI.mk (by decide) (Nat.le_of_ble_eq_true rfl) ?_
  intro p_ e_ s_ m_ ar_ be_ me_ cd_ A_ ls C hrt hW hl
  have hx := C.1; have hb := C.2.1; have hown := C.2.2.2.1; have ht := C.2.2.2.2.1
  replace hl : lv_has ls 1 [(0, .ref (G.2.2.2.1 i))] := hl
  generalize hQ : MQ be_ _ ar_ s_ 0 0 A_ = Q
  have hSt := C.2.2.2.2.2.2.2.2.2.2.2.1
  have hZs := C.2.2.2.2.2.2.2.2.2.2.2.2.1
  have hZq := C.2.2.2.2.2.2.2.2.2.2.2.2.2
  refine va_gets hx hb hZs hW.2.2 hown (ht _ k_fl_J0_38) (fun _ h9 => h9) dJ0_isLatin1_aae02_0 ?_
  refine lv_if_eq (tgt := 17) hx hb dJ0_isLatin1_aae02_3 (by decide) (fun c_541 => ?_) (fun c_541 => ?_)
  · exfalso; exact absurd c_541 (by decide)
  · refine lv_aload_n hx hb dJ0_isLatin1_aae02_6 rfl (lv_at hl 0 rfl) ?_
    refine vk_getf hx hb (hSt.1 i hi).2.1 hW.2.2 hown (ht _ k_fl_J0_15) (fun _ h9 => h9) dJ0_isLatin1_aae02_7 ?_
    refine lv_if_ne (tgt := 17) hx hb dJ0_isLatin1_aae02_10 (by decide) (fun c_542 => ?_) (fun c_542 => ?_)
    · exfalso; exact c_542 rfl
    · refine lv_iconst (v := 1) hx hb dJ0_isLatin1_aae02_13 (by decide) ?_
      refine lv_goto (tgt := 18) hx hb dJ0_isLatin1_aae02_14 (by decide) ?_
      subst hQ
      exact g_zret (v := 1) C hW hrt (by first | rfl | exact bI_nar _ | (simp only [c_541, c_542]; (repeat' split) <;> rfl)) ⟨by rfl, rfl⟩ dJ0_isLatin1_aae02_18
set_option maxHeartbeats 4000000 in
set_option maxRecDepth 100000 in
theorem c_J0_length_8abf5 (l : Launch) (G : gT) (i : Nat) (hi : i < 7) : MI l G yJ0_length_8abf5 cJ0_length_8abf5 1 .int ({ frames := 1, cells := 0, slots := 0, locals := 20 }) [.ref (G.2.2.2.1 i)] [] (fun (r : Int32) w1 => (r = nI (sk_n.getD i 0)) ∧ w1 = []) := by
  refine MI.mk (by decide) (Nat.le_of_ble_eq_true rfl) ?_
  intro p_ e_ s_ m_ ar_ be_ me_ cd_ A_ ls C hrt hW hl
  have hx := C.1; have hb := C.2.1; have hown := C.2.2.2.1; have ht := C.2.2.2.2.1
  replace hl : lv_has ls 1 [(0, .ref (G.2.2.2.1 i))] := hl
  generalize hQ : MQ be_ _ ar_ s_ 0 0 A_ = Q
  have hSt := C.2.2.2.2.2.2.2.2.2.2.2.1
  have hZs := C.2.2.2.2.2.2.2.2.2.2.2.2.1
  have hZq := C.2.2.2.2.2.2.2.2.2.2.2.2.2
  refine lv_aload_n hx hb dJ0_length_8abf5_0 rfl (lv_at hl 0 rfl) ?_
  refine vk_getf hx hb (hSt.1 i hi).2.2.1 hW.2.2 hown (ht _ k_fl_J0_9) (fun _ h9 => h9) dJ0_length_8abf5_1 ?_
  refine va_tlen (v := nI (sk_n.getD i 0)) hx hb (hSt.1 i hi).2.2.2 hW.2.2 rfl dJ0_length_8abf5_4 ?_
  refine lv_aload_n hx hb dJ0_length_8abf5_5 rfl (lv_at hl 0 rfl) ?_
  refine g_fi C hW [] rfl (g_runVS (i := i) (As := []) (rest := [.int (nI (sk_n.getD i 0))]) (wc := []) C hW hl (c_J0_coder_7d493 l G i (by first | assumption | decide | omega) _) k_ml_J0_335 q_J0_coder_7d493 (by decide) [] rfl rfl (by first | assumption | decide | omega) rfl rfl (Nat.le_of_ble_eq_true rfl) dJ0_length_8abf5_6 (by decide)) (fun r_543 er_543 => ?_)
  clear hW; intro H locs hW
  subst er_543
  refine lv_ishr hx hb dJ0_length_8abf5_9 ?_
  refine lv_as (y := nI (sk_n.getD i 0)) (nI_shr0 (by have := sk_len i hi; omega)) ?_
  subst hQ
  exact g_iret (v := (nI (sk_n.getD i 0))) C hW hrt ⟨by rfl, rfl⟩ dJ0_length_8abf5_10
set_option maxHeartbeats 4000000 in
set_option maxRecDepth 100000 in
theorem c_J3_checkIndex_8e157 (l : Launch) (G : gT) (k m9 : Nat) (hb_ : k < m9 ∧ m9 < 1000) : MI l G yJ3_checkIndex_8e157 cJ3_checkIndex_8e157 3 .int ({ frames := 0, cells := 0, slots := 0, locals := 0 }) [.int (nI k), .int (nI m9), .null] [] (fun (r : Int32) w1 => (r = nI k) ∧ w1 = []) := by
  refine MI.mk (by decide) (Nat.le_of_ble_eq_true rfl) ?_
  intro p_ e_ s_ m_ ar_ be_ me_ cd_ A_ ls C hrt hW hl
  have hx := C.1; have hb := C.2.1; have hown := C.2.2.2.1; have ht := C.2.2.2.2.1
  replace hl : lv_has ls 3 [(0, .int (nI k)), (1, .int (nI m9)), (2, .null)] := hl
  generalize hQ : MQ be_ _ ar_ s_ 0 0 A_ = Q
  refine lv_iload_n hx hb dJ3_checkIndex_8e157_0 rfl (lv_at hl 0 rfl) ?_
  refine lv_if_lt (tgt := 9) hx hb dJ3_checkIndex_8e157_1 (by decide) (fun c_544 => ?_) (fun c_544 => ?_)
  · replace c_544 := Int32.not_le.mpr c_544
    have c_544n : ¬ 0 ≤ k := fun q => c_544 ((nI_leI (a := 0) (b := k) (by omega) (by omega)).mpr q)
    exfalso; omega
  · replace c_544 := Int32.not_lt.mp c_544
    have c_544n : 0 ≤ k := (nI_leI (a := 0) (b := k) (by omega) (by omega)).mp c_544
    refine lv_iload_n hx hb dJ3_checkIndex_8e157_4 rfl (lv_at hl 0 rfl) ?_
    refine lv_iload_n hx hb dJ3_checkIndex_8e157_5 rfl (lv_at hl 1 rfl) ?_
    refine lv_icmp_lt (tgt := 16) hx hb dJ3_checkIndex_8e157_6 (by decide) (fun c_545 => ?_) (fun c_545 => ?_)
    · replace c_545 := Int32.not_le.mpr c_545
      have c_545n : ¬ m9 ≤ k := fun q => c_545 ((nI_leI (a := m9) (b := k) (by omega) (by omega)).mpr q)
      refine lv_iload_n hx hb dJ3_checkIndex_8e157_16 rfl (lv_at hl 0 rfl) ?_
      subst hQ
      exact g_iret (v := (nI k)) C hW hrt ⟨by rfl, rfl⟩ dJ3_checkIndex_8e157_17
    · replace c_545 := Int32.not_lt.mp c_545
      have c_545n : m9 ≤ k := (nI_leI (a := m9) (b := k) (by omega) (by omega)).mp c_545
      exfalso; omega
set_option maxHeartbeats 4000000 in
set_option maxRecDepth 100000 in
theorem c_J3_checkIndex_r (l : Launch) (G : gT) (k m9 t9 : Nat) (hb_ : k < m9 ∧ m9 < 1000) : MI l G yJ3_checkIndex_8e157 cJ3_checkIndex_8e157 3 .int ({ frames := 0, cells := 0, slots := 0, locals := 0 }) [.int (nI k), .int (nI m9), .ref t9] [] (fun (r : Int32) w1 => (r = nI k) ∧ w1 = []) := by
  refine MI.mk (by decide) (Nat.le_of_ble_eq_true rfl) ?_
  intro p_ e_ s_ m_ ar_ be_ me_ cd_ A_ ls C hrt hW hl
  have hx := C.1; have hb := C.2.1; have hown := C.2.2.2.1; have ht := C.2.2.2.2.1
  replace hl : lv_has ls 3 [(0, .int (nI k)), (1, .int (nI m9)), (2, .ref t9)] := hl
  generalize hQ : MQ be_ _ ar_ s_ 0 0 A_ = Q
  refine lv_iload_n hx hb dJ3_checkIndex_8e157_0 rfl (lv_at hl 0 rfl) ?_
  refine lv_if_lt (tgt := 9) hx hb dJ3_checkIndex_8e157_1 (by decide) (fun c_546 => ?_) (fun c_546 => ?_)
  · replace c_546 := Int32.not_le.mpr c_546
    have c_546n : ¬ 0 ≤ k := fun q => c_546 ((nI_leI (a := 0) (b := k) (by omega) (by omega)).mpr q)
    exfalso; omega
  · replace c_546 := Int32.not_lt.mp c_546
    have c_546n : 0 ≤ k := (nI_leI (a := 0) (b := k) (by omega) (by omega)).mp c_546
    refine lv_iload_n hx hb dJ3_checkIndex_8e157_4 rfl (lv_at hl 0 rfl) ?_
    refine lv_iload_n hx hb dJ3_checkIndex_8e157_5 rfl (lv_at hl 1 rfl) ?_
    refine lv_icmp_lt (tgt := 16) hx hb dJ3_checkIndex_8e157_6 (by decide) (fun c_547 => ?_) (fun c_547 => ?_)
    · replace c_547 := Int32.not_le.mpr c_547
      have c_547n : ¬ m9 ≤ k := fun q => c_547 ((nI_leI (a := m9) (b := k) (by omega) (by omega)).mpr q)
      refine lv_iload_n hx hb dJ3_checkIndex_8e157_16 rfl (lv_at hl 0 rfl) ?_
      subst hQ
      exact g_iret (v := (nI k)) C hW hrt ⟨by rfl, rfl⟩ dJ3_checkIndex_8e157_17
    · replace c_547 := Int32.not_lt.mp c_547
      have c_547n : m9 ≤ k := (nI_leI (a := m9) (b := k) (by omega) (by omega)).mp c_547
      exfalso; omega
set_option maxHeartbeats 4000000 in
set_option maxRecDepth 100000 in
theorem c_J0_checkIndex_df160 (l : Launch) (G : gT) (k m9 : Nat) (hb_ : k < m9 ∧ m9 < 1000) : MV l G yJ0_checkIndex_df160 cJ0_checkIndex_df160 2 ({ frames := 1, cells := 0, slots := 0, locals := 22 }) [.int (nI k), .int (nI m9)] [] (fun w1 => ∃ u_ : Unit, (True) ∧ w1 = []) := by
  refine MV.mk (by decide) (Nat.le_of_ble_eq_true rfl) ?_
  intro p_ e_ s_ m_ ar_ be_ me_ cd_ A_ ls C hrt hW hl
  have hx := C.1; have hb := C.2.1; have hown := C.2.2.2.1; have ht := C.2.2.2.2.1
  replace hl : lv_has ls 2 [(0, .int (nI k)), (1, .int (nI m9))] := hl
  generalize hQ : MQ be_ _ ar_ s_ 0 0 A_ = Q
  have hSt := C.2.2.2.2.2.2.2.2.2.2.2.1
  have hZs := C.2.2.2.2.2.2.2.2.2.2.2.2.1
  have hZq := C.2.2.2.2.2.2.2.2.2.2.2.2.2
  refine lv_iload_n hx hb dJ0_checkIndex_df160_0 rfl (lv_at hl 0 rfl) ?_
  refine lv_iload_n hx hb dJ0_checkIndex_df160_1 rfl (lv_at hl 1 rfl) ?_
  rcases hZq with hZq | ⟨tq9, hZq⟩
  · refine va_gets (v := .null) hx hb hZq hW.2.2 hown (ht _ k_fl_J0_1053) (fun _ h9 => h9) dJ0_checkIndex_df160_2 ?_
    refine g_fi C hW [] rfl (g_runS (As := [.int (nI k), .int (nI m9), .null]) (rest := []) (wc := []) C hW hl (c_J3_checkIndex_8e157 l G k m9 (by first | assumption | omega) _) k_ml_J0_1059 q_J3_checkIndex_8e157 (by decide) [] rfl rfl rfl rfl (Nat.le_of_ble_eq_true rfl) dJ0_checkIndex_df160_5 (by decide)) (fun r_548 er_548 => ?_)
    clear hW; intro H locs hW
    subst er_548
    refine lv_pop hx hb dJ0_checkIndex_df160_8 rfl ?_
    subst hQ
    exact g_vret C hW hrt ⟨(), trivial, by rfl⟩ dJ0_checkIndex_df160_9
  · refine va_gets (v := .ref tq9) hx hb hZq hW.2.2 hown (ht _ k_fl_J0_1053) (fun _ h9 => h9) dJ0_checkIndex_df160_2 ?_
    refine g_fi C hW [] rfl (g_runS (As := [.int (nI k), .int (nI m9), .ref tq9]) (rest := []) (wc := []) C hW hl (c_J3_checkIndex_r l G k m9 tq9 (by first | assumption | omega) _) k_ml_J0_1059 q_J3_checkIndex_8e157 (by decide) [] rfl rfl rfl rfl (Nat.le_of_ble_eq_true rfl) dJ0_checkIndex_df160_5 (by decide)) (fun r_549 er_549 => ?_)
    clear hW; intro H locs hW
    subst er_549
    refine lv_pop hx hb dJ0_checkIndex_df160_8 rfl ?_
    subst hQ
    exact g_vret C hW hrt ⟨(), trivial, by rfl⟩ dJ0_checkIndex_df160_9
set_option maxHeartbeats 4000000 in
set_option maxRecDepth 100000 in
theorem c_J1_charAt_3b067 (l : Launch) (G : gT) (i k : Nat) (hi : i < 7) (hk : k < sk_n.getD i 0) : MI l G yJ1_charAt_3b067 cJ1_charAt_3b067 2 .char ({ frames := 2, cells := 0, slots := 0, locals := 43 }) [.ref (G.2.2.2.2 i), .int (nI k)] [] (fun (r : Int32) w1 => (r = chS i k) ∧ w1 = []) := by
  refine MI.mk (by decide) (Nat.le_of_ble_eq_true rfl) ?_
  intro p_ e_ s_ m_ ar_ be_ me_ cd_ A_ ls C hrt hW hl
  have hx := C.1; have hb := C.2.1; have hown := C.2.2.2.1; have ht := C.2.2.2.2.1
  replace hl : lv_has ls 2 [(0, .ref (G.2.2.2.2 i)), (1, .int (nI k))] := hl
  generalize hQ : MQ be_ _ ar_ s_ 0 0 A_ = Q
  have hSt := C.2.2.2.2.2.2.2.2.2.2.2.1
  have hZs := C.2.2.2.2.2.2.2.2.2.2.2.2.1
  have hZq := C.2.2.2.2.2.2.2.2.2.2.2.2.2
  have hk7 := sk_len i hi
  refine lv_iload_n hx hb dJ1_charAt_3b067_0 rfl (lv_at hl 1 rfl) ?_
  refine lv_aload_n hx hb dJ1_charAt_3b067_1 rfl (lv_at hl 0 rfl) ?_
  refine va_tlen (v := nI (sk_n.getD i 0)) hx hb (hSt.1 i hi).2.2.2 hW.2.2 rfl dJ1_charAt_3b067_2 ?_
  refine g_fvw (wr := []) (ww := fun (u_ : Unit) => []) (w2 := fun (u_ : Unit) => []) C hW [] [] [] rfl rfl (by decide) (by decide) (by decide) (fun _ => rfl) (g_runS (As := [.int (nI k), .int (nI (sk_n.getD i 0))]) (rest := []) (wc := []) C hW hl (c_J0_checkIndex_df160 l G k (sk_n.getD i 0) (by first | assumption | omega) _) k_ml_J1_9 q_J0_checkIndex_df160 (by decide) [] rfl rfl rfl rfl (Nat.le_of_ble_eq_true rfl) dJ1_charAt_3b067_3 (by decide)) (fun _ er_550 => ?_)
  clear hW; intro H locs hW
  replace hW : Wd G A_ s_.heap [] H locs := hW
  refine lv_aload_n hx hb dJ1_charAt_3b067_6 rfl (lv_at hl 0 rfl) ?_
  refine lv_iload_n hx hb dJ1_charAt_3b067_7 rfl (lv_at hl 1 rfl) ?_
  refine va_tb (v := .int ((sk_b.getD i []).getD k 0)) hx hb (hSt.1 i hi).2.2.2 hW.2.2 (vp_in_nI (n := k) (by assumption) (by omega)) (by rw [nI_clamp (by omega)]) dJ1_charAt_3b067_8 ?_
  refine lv_sipush (v := 255) hx hb dJ1_charAt_3b067_9 (by decide) ?_
  refine lv_iand hx hb dJ1_charAt_3b067_12 ?_
  refine lv_i2c hx hb dJ1_charAt_3b067_13 rfl ?_
  refine lv_as (y := chS i k) (ch_ok i hi k (by omega)) ?_
  subst hQ
  exact g_zret (v := (chS i k)) C hW hrt (by exact ch_nar hi (by omega)) ⟨by rfl, rfl⟩ dJ1_charAt_3b067_14
set_option maxHeartbeats 4000000 in
set_option maxRecDepth 100000 in
theorem c_J0_charAt_5068e (l : Launch) (G : gT) (i k : Nat) (hi : i < 7) (hk : k < sk_n.getD i 0) : MI l G yJ0_charAt_5068e cJ0_charAt_5068e 2 .char ({ frames := 3, cells := 0, slots := 0, locals := 64 }) [.ref (G.2.2.2.1 i), .int (nI k)] [] (fun (r : Int32) w1 => (r = chS i k) ∧ w1 = []) := by
  refine MI.mk (by decide) (Nat.le_of_ble_eq_true rfl) ?_
  intro p_ e_ s_ m_ ar_ be_ me_ cd_ A_ ls C hrt hW hl
  have hx := C.1; have hb := C.2.1; have hown := C.2.2.2.1; have ht := C.2.2.2.2.1
  replace hl : lv_has ls 2 [(0, .ref (G.2.2.2.1 i)), (1, .int (nI k))] := hl
  generalize hQ : MQ be_ _ ar_ s_ 0 0 A_ = Q
  have hSt := C.2.2.2.2.2.2.2.2.2.2.2.1
  have hZs := C.2.2.2.2.2.2.2.2.2.2.2.2.1
  have hZq := C.2.2.2.2.2.2.2.2.2.2.2.2.2
  have hk7 := sk_len i hi
  refine lv_aload_n hx hb dJ0_charAt_5068e_0 rfl (lv_at hl 0 rfl) ?_
  refine g_fi C hW [] rfl (g_runVS (i := i) (As := []) (rest := []) (wc := []) C hW hl (c_J0_isLatin1_aae02 l G i (by first | assumption | decide | omega) _) k_ml_J0_492 q_J0_isLatin1_aae02 (by decide) [] rfl rfl (by first | assumption | decide | omega) rfl rfl (Nat.le_of_ble_eq_true rfl) dJ0_charAt_5068e_1 (by decide)) (fun r_552 er_552 => ?_)
  clear hW; intro H locs hW
  subst er_552
  refine lv_if_eq (tgt := 16) hx hb dJ0_charAt_5068e_4 (by decide) (fun c_553 => ?_) (fun c_553 => ?_)
  · exfalso; exact absurd c_553 (by decide)
  · refine lv_aload_n hx hb dJ0_charAt_5068e_7 rfl (lv_at hl 0 rfl) ?_
    refine vk_getf hx hb (hSt.1 i hi).2.2.1 hW.2.2 hown (ht _ k_fl_J0_9) (fun _ h9 => h9) dJ0_charAt_5068e_8 ?_
    refine lv_iload_n hx hb dJ0_charAt_5068e_11 rfl (lv_at hl 1 rfl) ?_
    refine g_fi C hW [] rfl (g_runS (As := [.ref (G.2.2.2.2 i), .int (nI k)]) (rest := []) (wc := []) C hW hl (c_J1_charAt_3b067 l G i k (by first | assumption | decide | omega) (by first | assumption | omega) _) k_ml_J0_495 q_J1_charAt_3b067 (by decide) [] rfl rfl rfl rfl (Nat.le_of_ble_eq_true rfl) dJ0_charAt_5068e_12 (by decide)) (fun r_554 er_554 => ?_)
    clear hW H locs; intro H locs hW
    subst er_554
    subst hQ
    exact g_zret (v := (chS i k)) C hW hrt (by exact ch_nar hi (by omega)) ⟨by rfl, rfl⟩ dJ0_charAt_5068e_15
set_option maxHeartbeats 4000000 in
set_option maxRecDepth 100000 in
theorem c_X8_isWord (l : Launch) (G : gT) (tx tq n : Nat) (tok : Int32) (s e9 i : Nat) (f : Nat → Int32) (hi : i < 7) (hb_ : s ≤ e9 ∧ e9 ≤ 150) : MI l G yX8_isWord cX8_isWord 3 .boolean ({ frames := 4, cells := 0, slots := 0, locals := 85 }) [.ref tx, .ref (G.2.2.2.1 i)] [(tx, .inr (6, [.ref tq, .int (nI n), .int tok, .int (nI s), .int (nI e9)])), (tq, .inl (G.2.1, 150, .inl f))] (fun (r : Int32) w1 => (r = bI (wrd f tok s e9 i)) ∧ w1 = [(tx, .inr (6, [.ref tq, .int (nI n), .int tok, .int (nI s), .int (nI e9)])), (tq, .inl (G.2.1, 150, .inl f))]) := by
  refine MI.mk (by decide) (Nat.le_of_ble_eq_true rfl) ?_
  intro p_ e_ s_ m_ ar_ be_ me_ cd_ A_ ls C hrt hW hl
  have hx := C.1; have hb := C.2.1; have hown := C.2.2.2.1; have ht := C.2.2.2.2.1
  replace hl : lv_has ls 3 [(0, .ref tx), (1, .ref (G.2.2.2.1 i))] := hl
  generalize hQ : MQ be_ _ ar_ s_ 0 0 A_ = Q
  have hk7 := sk_len i hi
  refine lv_aload_n hx hb dX8_isWord_0 rfl (lv_at hl 0 rfl) ?_
  refine g_get (k := 2) (v := .int tok) C hW 0 rfl rfl jnX8 (by decide) k_fl_X8_19 rfl dX8_isWord_1 ?_
  refine lv_iconst (v := 1) hx hb dX8_isWord_4 (by decide) ?_
  refine lv_icmp_ne (tgt := 24) hx hb dX8_isWord_5 (by decide) (fun c_555 => ?_) (fun c_555 => ?_)
  · refine lv_iconst (v := 0) hx hb dX8_isWord_24 (by decide) ?_
    subst hQ
    exact g_zret (v := 0) C hW hrt (by first | rfl | exact bI_nar _ | (simp only [c_555]; (repeat' split) <;> rfl)) ⟨by first | (rw [wrd, decide_eq_false c_555]; rfl) | (rw [wrd, decide_eq_false (p := e9 - s = sk_n.getD i 0) , Bool.false_and, Bool.and_false]; rfl), rfl⟩ dX8_isWord_25
  · have hw1 := c_555
    refine lv_aload_n hx hb dX8_isWord_8 rfl (lv_at hl 0 rfl) ?_
    refine g_get (k := 4) (v := .int (nI e9)) C hW 0 rfl rfl jnX8 (by decide) k_fl_X8_25 rfl dX8_isWord_9 ?_
    refine lv_aload_n hx hb dX8_isWord_12 rfl (lv_at hl 0 rfl) ?_
    refine g_get (k := 3) (v := .int (nI s)) C hW 0 rfl rfl jnX8 (by decide) k_fl_X8_22 rfl dX8_isWord_13 ?_
    refine lv_isub hx hb dX8_isWord_16 ?_
    refine lv_as (y := nI (e9 - s)) (len_eq hb_.1) ?_
    refine lv_aload_n hx hb dX8_isWord_17 rfl (lv_at hl 1 rfl) ?_
    refine g_fi C hW [] rfl (g_runVS (i := i) (As := []) (rest := [.int (nI (e9 - s))]) (wc := []) C hW hl (c_J0_length_8abf5 l G i (by first | assumption | decide | omega) _) k_ml_X8_42 q_J0_length_8abf5 (by decide) [] rfl rfl (by first | assumption | decide | omega) rfl rfl (Nat.le_of_ble_eq_true rfl) dX8_isWord_18 (by decide)) (fun r_556 er_556 => ?_)
    clear hW; intro H locs hW
    subst er_556
    refine lv_icmp_eq (tgt := 26) hx hb dX8_isWord_21 (by decide) (fun c_557 => ?_) (fun c_557 => ?_)
    · have c_557n : (e9 - s) = (sk_n.getD i 0) := (nI_eq (a := (e9 - s)) (b := (sk_n.getD i 0)) (by omega) (by omega)).mp c_557
      have hw2 := c_557n
      refine lv_iconst (v := 0) hx hb dX8_isWord_26 (by decide) ?_
      refine lv_istore_n (lv' := [(2, .int 0), (0, .ref tx), (1, .ref (G.2.2.2.1 i))]) hx hb dX8_isWord_27 rfl hl (by decide) rfl ?_
      clear hl ls; intro ls hl
      have K_558 : ∀ (n_ : Nat) (k : Nat) (x_559 : Int32) (_ : x_559 = nI k) (_ : k ≤ sk_n.getD i 0) (_ : allB (fun k => decide (f (s + k) = chS i k)) k = true) (_ : sk_n.getD i 0 - k < n_) (H : Heap) (locs : List Loc) (ls : Array Slot), Wd G A_ s_.heap [(tx, .inr (6, [.ref tq, .int (nI n), .int tok, .int (nI s), .int (nI e9)])), (tq, .inl (G.2.1, 150, .inl f))] H locs → lv_has ls 3 [(2, .int x_559), (0, .ref tx), (1, .ref (G.2.2.2.1 i))] → W p_ l e_ ({ frames := 4, cells := 0, slots := 0, locals := 85 }) s_ m_ ar_ be_ me_ cd_ H locs 0 0 Q (F0 m_ 28 ls []) := by
        intro n_
        induction n_ with
        | zero => intro k x_559 ex_559 hk ha hm_; exact absurd hm_ (Nat.not_lt_zero _)
        | succ n_ ihK_558 =>
          intro k x_559 ex_559 hk ha hm_ H locs ls hW hl
          subst ex_559
          refine lv_iload_n hx hb dX8_isWord_28 rfl (lv_at hl 0 rfl) ?_
          refine lv_aload_n hx hb dX8_isWord_29 rfl (lv_at hl 2 rfl) ?_
          refine g_fi C hW [] rfl (g_runVS (i := i) (As := []) (rest := [.int (nI k)]) (wc := []) C hW hl (c_J0_length_8abf5 l G i (by first | assumption | decide | omega) _) k_ml_X8_42 q_J0_length_8abf5 (by decide) [] rfl rfl (by first | assumption | decide | omega) rfl rfl (Nat.le_of_ble_eq_true rfl) dX8_isWord_30 (by decide)) (fun r_560 er_560 => ?_)
          clear hW H locs; intro H locs hW
          subst er_560
          refine lv_icmp_ge (tgt := 75) hx hb dX8_isWord_33 (by decide) (fun c_561 => ?_) (fun c_561 => ?_)
          · replace c_561 := Int32.not_lt.mpr c_561
            have c_561n : ¬ k < (sk_n.getD i 0) := fun q => c_561 ((nI_ltI (a := k) (b := (sk_n.getD i 0)) (by omega) (by omega)).mpr q)
            refine lv_iconst (v := 1) hx hb dX8_isWord_75 (by decide) ?_
            subst hQ
            exact g_zret (v := 1) C hW hrt (by first | rfl | exact bI_nar _ | (simp only [c_555, c_557, c_557n, c_561, c_561n]; (repeat' split) <;> rfl)) ⟨by (rw [wrd, decide_eq_true hw1, decide_eq_true hw2, show sk_n.getD i 0 = k by omega, ha]; rfl), rfl⟩ dX8_isWord_76
          · replace c_561 := Int32.not_le.mp c_561
            have c_561n : k < (sk_n.getD i 0) := (nI_ltI (a := k) (b := (sk_n.getD i 0)) (by omega) (by omega)).mp c_561
            refine lv_aload_n hx hb dX8_isWord_36 rfl (lv_at hl 1 rfl) ?_
            refine g_get (k := 3) (v := .int (nI s)) C hW 0 rfl rfl jnX8 (by decide) k_fl_X8_22 rfl dX8_isWord_37 ?_
            refine lv_iload_n hx hb dX8_isWord_40 rfl (lv_at hl 0 rfl) ?_
            refine lv_iadd hx hb dX8_isWord_41 ?_
            refine lv_as (y := nI (s + k)) (nI_add _ _) ?_
            refine lv_sipush (v := 150) hx hb dX8_isWord_42 (by decide) ?_
            refine lv_icmp_ge (tgt := 75) hx hb dX8_isWord_45 (by decide) (fun c_562 => ?_) (fun c_562 => ?_)
            · replace c_562 := Int32.not_lt.mpr c_562
              have c_562n : ¬ (s + k) < 150 := fun q => c_562 ((nI_ltI (a := (s + k)) (b := 150) (by omega) (by omega)).mpr q)
              exfalso; omega
            · replace c_562 := Int32.not_le.mp c_562
              have c_562n : (s + k) < 150 := (nI_ltI (a := (s + k)) (b := 150) (by omega) (by omega)).mp c_562
              refine lv_aload_n hx hb dX8_isWord_48 rfl (lv_at hl 1 rfl) ?_
              refine g_get (k := 0) (v := .ref tq) C hW 0 rfl rfl jnX8 (by decide) k_fl_X8_11 rfl dX8_isWord_49 ?_
              refine lv_aload_n hx hb dX8_isWord_52 rfl (lv_at hl 1 rfl) ?_
              refine g_get (k := 3) (v := .int (nI s)) C hW 0 rfl rfl jnX8 (by decide) k_fl_X8_22 rfl dX8_isWord_53 ?_
              refine lv_iload_n hx hb dX8_isWord_56 rfl (lv_at hl 0 rfl) ?_
              refine lv_iadd hx hb dX8_isWord_57 ?_
              refine lv_as (y := nI (s + k)) (nI_add _ _) ?_
              refine g_ald C hW 1 rfl (ix_in (show (nI (s + k)) = nI (s + k) from (by first | rfl | (simp only [nI_lit, nI_add, pk_mul]; done) | (simp only [nI_lit, nI_add, pk_mul]; congr 1; omega))) (by omega) (by omega)) dX8_isWord_58 ?_
              refine lv_as (y := f (s + k)) (by rw [show (nI (s + k)).toNatClampNeg = (s + k) from ix_cl (show (nI (s + k)) = nI (s + k) from (by first | rfl | (simp only [nI_lit, nI_add, pk_mul]; done) | (simp only [nI_lit, nI_add, pk_mul]; congr 1; omega))) (Nat.lt_of_lt_of_le (m := 150) (by omega) (by omega))]) ?_
              refine lv_aload_n hx hb dX8_isWord_59 rfl (lv_at hl 2 rfl) ?_
              refine lv_iload_n hx hb dX8_isWord_60 rfl (lv_at hl 0 rfl) ?_
              refine g_fi C hW [] rfl (g_runVS (i := i) (As := [.int (nI k)]) (rest := [.int (f (s + k))]) (wc := []) C hW hl (c_J0_charAt_5068e l G i k (by first | assumption | decide | omega) (by first | assumption | omega) _) k_ml_X8_48 q_J0_charAt_5068e (by decide) [] rfl rfl (by first | assumption | decide | omega) rfl rfl (Nat.le_of_ble_eq_true rfl) dX8_isWord_61 (by decide)) (fun r_563 er_563 => ?_)
              clear hW H locs; intro H locs hW
              subst er_563
              refine lv_icmp_eq (tgt := 69) hx hb dX8_isWord_64 (by decide) (fun c_564 => ?_) (fun c_564 => ?_)
              · refine lv_iinc (v := (nI k) + 1) (lv' := [(2, .int ((nI k) + 1)), (0, .ref tx), (1, .ref (G.2.2.2.1 i))]) hx hb dX8_isWord_69 hl (k := 0) rfl rfl (by decide) rfl ?_
                clear hl ls; intro ls hl
                refine lv_goto (tgt := 28) hx hb dX8_isWord_72 (by decide) ?_
                exact ihK_558 (k + 1) ((nI k) + 1) (by exact nI_1 _) (by first | omega | assumption | (simp; done)) (by (rw [allB, ha, Bool.true_and]; exact decide_eq_true c_564)) (by omega) _ _ _ hW (lv_sub hl [0, 1, 2] rfl)
              · refine lv_iconst (v := 0) hx hb dX8_isWord_67 (by decide) ?_
                subst hQ
                exact g_zret (v := 0) C hW hrt (by first | rfl | exact bI_nar _ | (simp only [c_555, c_557, c_557n, c_561, c_561n, c_562, c_562n, c_564]; (repeat' split) <;> rfl)) ⟨by (rw [wrd, allB_false (show k < sk_n.getD i 0 by omega) (decide_eq_false c_564), Bool.and_false, Bool.and_false]; rfl), rfl⟩ dX8_isWord_68
      exact K_558 _ 0 0 (by first | exact rfl | (simp; done)) (by first | omega | assumption | (simp; done)) (by rfl) (Nat.lt_succ_self _) _ _ _ hW (lv_sub hl [0, 1, 2] rfl)
    · have c_557n : ¬ (e9 - s) = (sk_n.getD i 0) := fun q => c_557 ((nI_eq (a := (e9 - s)) (b := (sk_n.getD i 0)) (by omega) (by omega)).mpr q)
      refine lv_iconst (v := 0) hx hb dX8_isWord_24 (by decide) ?_
      subst hQ
      exact g_zret (v := 0) C hW hrt (by first | rfl | exact bI_nar _ | (simp only [c_555, c_557, c_557n]; (repeat' split) <;> rfl)) ⟨by first | (rw [wrd, decide_eq_false c_557]; rfl) | (rw [wrd, decide_eq_false (p := e9 - s = sk_n.getD i 0) c_557n, Bool.false_and, Bool.and_false]; rfl), rfl⟩ dX8_isWord_25
