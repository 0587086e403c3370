set_option maxHeartbeats 4000000 in
set_option maxRecDepth 100000 in
theorem c_X4_after (l : Launch) (G : gT) (ra rc rr rf td : Nat) (fst_ : Int32) (sp j : Nat) (htd : td < 128) (hsp : sp < 256) (hj8 : j < 8) : MI l G yX4_after cX4_after 3 .int ({ frames := 0, cells := 0, slots := 0, locals := 0 }) [.ref ra, .int (nI sp), .int (nI j - 1)] [(ra, .inr (2, [.ref rc, .ref rr, .ref rf, .int (nI td), .int fst_]))] (fun (r : Int32) w1 => (r = nI (afN td sp j)) ∧ w1 = [(ra, .inr (2, [.ref rc, .ref rr, .ref rf, .int (nI td), .int fst_]))]) := by
  refine MI.mk (by decide) (Nat.le_of_ble_eq_true rfl) ?_
  intro p_ e_ s_ m_ ar_ be_ me_ cd_ A_ ls C hrt hW hl
  have hx := C.1; have hb := C.2.1; have hown := C.2.2.2.1; have ht := C.2.2.2.2.1
  replace hl : lv_has ls 3 [(0, .ref ra), (1, .int (nI sp)), (2, .int (nI j - 1))] := hl
  generalize hQ : MQ be_ _ ar_ s_ 0 0 A_ = Q
  refine lv_iload_n hx hb dX4_after_0 rfl (lv_at hl 2 rfl) ?_
  refine lv_iconst (v := (-1)) hx hb dX4_after_1 (by decide) ?_
  refine lv_icmp_ne (tgt := 9) hx hb dX4_after_2 (by decide) (fun c_407 => ?_) (fun c_407 => ?_)
  · refine lv_iload_n hx hb dX4_after_9 rfl (lv_at hl 1 rfl) ?_
    refine lv_sipush (v := 128) hx hb dX4_after_10 (by decide) ?_
    refine lv_ixor hx hb dX4_after_13 ?_
    refine lv_aload_n hx hb dX4_after_14 rfl (lv_at hl 0 rfl) ?_
    refine g_get (k := 3) (v := .int (nI td)) C hW 0 rfl rfl jnX4 (by decide) k_fl_X4_21 rfl dX4_after_15 ?_
    refine lv_iconst (v := 1) hx hb dX4_after_18 (by decide) ?_
    refine lv_iload_n hx hb dX4_after_19 rfl (lv_at hl 2 rfl) ?_
    refine lv_as (y := nI (j - 1)) (nI_m1 (fun q => c_407 ((m1_eq (by omega)).mpr q))) ?_
    refine lv_ishl hx hb dX4_after_20 ?_
    refine lv_iand hx hb dX4_after_21 ?_
    refine lv_ior hx hb dX4_after_22 ?_
    refine lv_sipush (v := 255) hx hb dX4_after_23 (by decide) ?_
    refine lv_iand hx hb dX4_after_26 ?_
    subst hQ
    exact g_iret (v := ((((nI sp) ^^^ (128 : Int32)) ||| ((nI td) &&& ((1 : Int32) <<< ((nI (j - 1)) &&& 31)))) &&& (255 : Int32))) C hW hrt ⟨by first | (rw [afN, if_pos ((m1_eq (by omega)).mp c_407)]; done) | exact af_eq htd hsp (fun q => c_407 ((m1_eq (by omega)).mpr q)) hj8, rfl⟩ dX4_after_27
  · refine lv_iload_n hx hb dX4_after_5 rfl (lv_at hl 1 rfl) ?_
    refine lv_goto (tgt := 27) hx hb dX4_after_6 (by decide) ?_
    subst hQ
    exact g_iret (v := (nI sp)) C hW hrt ⟨by first | (rw [afN, if_pos ((m1_eq (by omega)).mp c_407)]; done) | exact af_eq htd hsp (fun q => c_407 ((m1_eq (by omega)).mpr q)) hj8, rfl⟩ dX4_after_27
set_option maxHeartbeats 4000000 in
set_option maxRecDepth 100000 in
theorem c_X4_mayStep (l : Launch) (G : gT) (ra rc rr rf td : Nat) (fst_ : Int32) (car : Nat → Int32) (sp t j : Nat) (hsp : sp < 256) (htt : t < 20) (hj8 : j < 8) : MI l G yX4_mayStep cX4_mayStep 6 .boolean ({ frames := 0, cells := 0, slots := 0, locals := 0 }) [.ref ra, .int (nI sp), .int (nI t), .int (nI j - 1)] [(ra, .inr (2, [.ref rc, .ref rr, .ref rf, .int (nI td), .int fst_])), (rc, .inl (G.2.1, 40, .inl car))] (fun (r : Int32) w1 => (r = bI (myN car sp t j)) ∧ w1 = [(ra, .inr (2, [.ref rc, .ref rr, .ref rf, .int (nI td), .int fst_])), (rc, .inl (G.2.1, 40, .inl car))]) := by
  refine MI.mk (by decide) (Nat.le_of_ble_eq_true rfl) ?_
  intro p_ e_ s_ m_ ar_ be_ me_ cd_ A_ ls C hrt hW hl
  have hx := C.1; have hb := C.2.1; have hown := C.2.2.2.1; have ht := C.2.2.2.2.1
  replace hl : lv_has ls 6 [(0, .ref ra), (1, .int (nI sp)), (2, .int (nI t)), (3, .int (nI j - 1))] := hl
  generalize hQ : MQ be_ _ ar_ s_ 0 0 A_ = Q
  refine lv_iload_n hx hb dX4_mayStep_0 rfl (lv_at hl 3 rfl) ?_
  refine lv_iconst (v := (-1)) hx hb dX4_mayStep_1 (by decide) ?_
  refine lv_icmp_ne (tgt := 7) hx hb dX4_mayStep_2 (by decide) (fun c_408 => ?_) (fun c_408 => ?_)
  · have c2z := c_408
    refine lv_iload_n hx hb dX4_mayStep_7 rfl (lv_at hl 1 rfl) ?_
    refine lv_bipush (v := 7) hx hb dX4_mayStep_8 (by decide) ?_
    refine lv_ishr hx hb dX4_mayStep_10 ?_
    refine lv_iconst (v := 1) hx hb dX4_mayStep_11 (by decide) ?_
    refine lv_iand hx hb dX4_mayStep_12 ?_
    refine lv_as (y := nI (sp / 128 % 2)) (hill_eq hsp) ?_
    refine lv_istore (lv' := [(4, .int (nI (sp / 128 % 2))), (0, .ref ra), (1, .int (nI sp)), (2, .int (nI t)), (3, .int (nI j - 1))]) hx hb dX4_mayStep_13 hl (by decide) rfl ?_
    clear hl ls; intro ls hl
    refine lv_iconst (v := 2) hx hb dX4_mayStep_15 (by decide) ?_
    refine lv_iload_n hx hb dX4_mayStep_16 rfl (lv_at hl 3 rfl) ?_
    refine lv_imul hx hb dX4_mayStep_17 ?_
    refine lv_iload hx hb dX4_mayStep_18 (lv_at hl 0 rfl) ?_
    refine lv_iadd hx hb dX4_mayStep_20 ?_
    refine lv_as (y := nI (2 * t + sp / 128 % 2)) (row_eq _ _) ?_
    refine lv_istore (lv' := [(5, .int (nI (2 * t + sp / 128 % 2))), (4, .int (nI (sp / 128 % 2))), (0, .ref ra), (1, .int (nI sp)), (2, .int (nI t)), (3, .int (nI j - 1))]) hx hb dX4_mayStep_21 hl (by decide) rfl ?_
    clear hl ls; intro ls hl
    refine lv_iload hx hb dX4_mayStep_23 (lv_at hl 0 rfl) ?_
    refine lv_if_lt (tgt := 53) hx hb dX4_mayStep_25 (by decide) (fun c_409 => ?_) (fun c_409 => ?_)
    · replace c_409 := Int32.not_le.mpr c_409
      have c_409n : ¬ 0 ≤ (2 * t + sp / 128 % 2) := fun q => c_409 ((nI_leI (a := 0) (b := (2 * t + sp / 128 % 2)) (by omega) (by omega)).mpr q)
      exfalso; omega
    · replace c_409 := Int32.not_lt.mp c_409
      have c_409n : 0 ≤ (2 * t + sp / 128 % 2) := (nI_leI (a := 0) (b := (2 * t + sp / 128 % 2)) (by omega) (by omega)).mp c_409
      refine lv_iload hx hb dX4_mayStep_28 (lv_at hl 0 rfl) ?_
      refine lv_bipush (v := 40) hx hb dX4_mayStep_30 (by decide) ?_
      refine lv_icmp_ge (tgt := 53) hx hb dX4_mayStep_32 (by decide) (fun c_410 => ?_) (fun c_410 => ?_)
      · replace c_410 := Int32.not_lt.mpr c_410
        have c_410n : ¬ (2 * t + sp / 128 % 2) < 40 := fun q => c_410 ((nI_ltI (a := (2 * t + sp / 128 % 2)) (b := 40) (by omega) (by omega)).mpr q)
        exfalso; omega
      · replace c_410 := Int32.not_le.mp c_410
        have c_410n : (2 * t + sp / 128 % 2) < 40 := (nI_ltI (a := (2 * t + sp / 128 % 2)) (b := 40) (by omega) (by omega)).mp c_410
        refine lv_aload_n hx hb dX4_mayStep_35 rfl (lv_at hl 2 rfl) ?_
        refine g_get (k := 0) (v := .ref rc) C hW 0 rfl rfl jnX4 (by decide) k_fl_X4_11 rfl dX4_mayStep_36 ?_
        refine lv_iload hx hb dX4_mayStep_39 (lv_at hl 0 rfl) ?_
        refine g_ald C hW 1 rfl (ix_in (show (nI (2 * t + sp / 128 % 2)) = nI (2 * t + sp / 128 % 2) from (by first | rfl | (simp only [nI_lit, nI_add, pk_mul]; done) | (simp only [nI_lit, nI_add, pk_mul]; congr 1; omega))) (by omega) (by omega)) dX4_mayStep_41 ?_
        refine lv_as (y := car (2 * t + sp / 128 % 2)) (by rw [show (nI (2 * t + sp / 128 % 2)).toNatClampNeg = (2 * t + sp / 128 % 2) from ix_cl (show (nI (2 * t + sp / 128 % 2)) = nI (2 * t + sp / 128 % 2) from (by first | rfl | (simp only [nI_lit, nI_add, pk_mul]; done) | (simp only [nI_lit, nI_add, pk_mul]; congr 1; omega))) (Nat.lt_of_lt_of_le (m := 40) (by omega) (by omega))]) ?_
        refine lv_iload_n hx hb dX4_mayStep_42 rfl (lv_at hl 5 rfl) ?_
        refine lv_as (y := nI (j - 1)) (nI_m1 (fun q => c2z ((m1_eq (by omega)).mpr q))) ?_
        refine lv_ishr hx hb dX4_mayStep_43 ?_
        refine lv_iconst (v := 1) hx hb dX4_mayStep_44 (by decide) ?_
        refine lv_iand hx hb dX4_mayStep_45 ?_
        have J_413 : ∀ (y_412 : Int32) (_ : y_412 = (if (((car (2 * t + sp / 128 % 2)) >>> ((nI (j - 1)) &&& 31)) &&& (1 : Int32)) = 0 then 0 else 1)), ∀ (H : Heap) (locs : List Loc) (ls : Array Slot), Wd G A_ s_.heap [(ra, .inr (2, [.ref rc, .ref rr, .ref rf, .int (nI td), .int fst_])), (rc, .inl (G.2.1, 40, .inl car))] H locs → lv_has ls 6 [(5, .int (nI (2 * t + sp / 128 % 2))), (4, .int (nI (sp / 128 % 2))), (0, .ref ra), (1, .int (nI sp)), (2, .int (nI t)), (3, .int (nI j - 1))] → W p_ l e_ ({ frames := 0, cells := 0, slots := 0, locals := 0 }) s_ m_ ar_ be_ me_ cd_ H locs 0 0 Q (F0 m_ 54 ls [.int y_412]) := by
          intro y_412 ey_412 H locs ls hW hl
          subst hQ
          exact g_zret (v := y_412) C hW hrt (by first | rfl | exact bI_nar _ | (simp only [c_408, c_409, c_409n, c_410, c_410n, ey_412]; (repeat' split) <;> rfl)) ⟨by (rw [myN, if_neg (fun q => c2z ((m1_eq (by omega)).mpr q))]; simp only [ey_412]; exact tb_if), rfl⟩ dX4_mayStep_54
        refine lv_if_eq (tgt := 53) hx hb dX4_mayStep_46 (by decide) (fun c_411 => ?_) (fun c_411 => ?_)
        · refine lv_iconst (v := 0) hx hb dX4_mayStep_53 (by decide) ?_
          exact J_413 0 (by first | (simp only [c_411, if_true, if_false, reduceIte]; done) | (simp [c_411]; done) | rfl) _ _ _ hW (lv_sub hl [0, 1, 2, 3, 4, 5] rfl)
        · refine lv_iconst (v := 1) hx hb dX4_mayStep_49 (by decide) ?_
          refine lv_goto (tgt := 54) hx hb dX4_mayStep_50 (by decide) ?_
          exact J_413 1 (by first | (simp only [c_411, if_true, if_false, reduceIte]; done) | (simp [c_411]; done) | rfl) _ _ _ hW (lv_sub hl [0, 1, 2, 3, 4, 5] rfl)
  · refine lv_iconst (v := 1) hx hb dX4_mayStep_5 (by decide) ?_
    subst hQ
    exact g_zret (v := 1) C hW hrt (by first | rfl | exact bI_nar _ | (simp only [c_408]; (repeat' split) <;> rfl)) ⟨by (rw [myN, if_pos ((m1_eq (by omega)).mp c_408)]; rfl), rfl⟩ dX4_mayStep_6
set_option maxHeartbeats 4000000 in
set_option maxRecDepth 100000 in
theorem c_X4_firstStep (l : Launch) (G : gT) (ra rc rr rf td : Nat) (fst_ : Int32) (car fin : Nat → Int32) (sp t : Nat) (htd : td < 128) (hsp : sp < 256) (htt : t < 20) : MI l G yX4_firstStep cX4_firstStep 4 .int ({ frames := 1, cells := 0, slots := 0, locals := 25 }) [.ref ra, .int (nI sp), .int (nI t)] [(ra, .inr (2, [.ref rc, .ref rr, .ref rf, .int (nI td), .int fst_])), (rc, .inl (G.2.1, 40, .inl car)), (rf, .inl (G.2.1, 256, .inl fin))] (fun (r : Int32) w1 => (r = fsV car fin td sp t) ∧ w1 = [(ra, .inr (2, [.ref rc, .ref rr, .ref rf, .int (nI td), .int fst_])), (rc, .inl (G.2.1, 40, .inl car)), (rf, .inl (G.2.1, 256, .inl fin))]) := by
  refine MI.mk (by decide) (Nat.le_of_ble_eq_true rfl) ?_
  intro p_ e_ s_ m_ ar_ be_ me_ cd_ A_ ls C hrt hW hl
  have hx := C.1; have hb := C.2.1; have hown := C.2.2.2.1; have ht := C.2.2.2.2.1
  replace hl : lv_has ls 4 [(0, .ref ra), (1, .int (nI sp)), (2, .int (nI t))] := hl
  generalize hQ : MQ be_ _ ar_ s_ 0 0 A_ = Q
  refine lv_iconst (v := (-1)) hx hb dX4_firstStep_0 (by decide) ?_
  refine lv_istore_n (lv' := [(3, .int (-1)), (0, .ref ra), (1, .int (nI sp)), (2, .int (nI t))]) hx hb dX4_firstStep_1 rfl hl (by decide) rfl ?_
  clear hl ls; intro ls hl
  have K_414 : ∀ (n_ : Nat) (j : Nat) (x_415 : Int32) (_ : x_415 = nI j - 1) (_ : j ≤ 8) (_ : ∀ i, i < j → fsQ car fin td sp t i = false) (_ : 8 - j < n_) (H : Heap) (locs : List Loc) (ls : Array Slot), Wd G A_ s_.heap [(ra, .inr (2, [.ref rc, .ref rr, .ref rf, .int (nI td), .int fst_])), (rc, .inl (G.2.1, 40, .inl car)), (rf, .inl (G.2.1, 256, .inl fin))] H locs → lv_has ls 4 [(3, .int x_415), (0, .ref ra), (1, .int (nI sp)), (2, .int (nI t))] → W p_ l e_ ({ frames := 1, cells := 0, slots := 0, locals := 25 }) s_ m_ ar_ be_ me_ cd_ H locs 0 0 Q (F0 m_ 2 ls []) := by
    intro n_
    induction n_ with
    | zero => intro j x_415 ex_415 hj hz hm_; exact absurd hm_ (Nat.not_lt_zero _)
    | succ n_ ihK_414 =>
      intro j x_415 ex_415 hj hz hm_ H locs ls hW hl
      subst ex_415
      refine lv_iload_n hx hb dX4_firstStep_2 rfl (lv_at hl 0 rfl) ?_
      refine lv_bipush (v := 7) hx hb dX4_firstStep_3 (by decide) ?_
      refine lv_icmp_ge (tgt := 46) hx hb dX4_firstStep_5 (by decide) (fun c_416 => ?_) (fun c_416 => ?_)
      · replace c_416 := Int32.not_lt.mpr c_416
        have hj8 : ¬ j < 8 := fun q => c_416 ((m1_lt (by omega)).mpr q)
        refine lv_bipush (v := (-9)) hx hb dX4_firstStep_46 (by decide) ?_
        subst hQ
        exact g_iret (v := (-9)) C hW hrt ⟨by (have e : j = 8 := by omega); (subst e; exact fsv_8 hz), rfl⟩ dX4_firstStep_48
      · replace c_416 := Int32.not_le.mp c_416
        have hj8 : j < 8 := (m1_lt (by omega)).mp c_416
        refine lv_aload_n hx hb dX4_firstStep_8 rfl (lv_at hl 1 rfl) ?_
        refine lv_iload_n hx hb dX4_firstStep_9 rfl (lv_at hl 2 rfl) ?_
        refine lv_iload_n hx hb dX4_firstStep_10 rfl (lv_at hl 3 rfl) ?_
        refine lv_iload_n hx hb dX4_firstStep_11 rfl (lv_at hl 0 rfl) ?_
        refine g_fi C hW [0, 1] rfl (g_runV (As := [.int (nI sp), .int (nI t), .int (nI j - 1)]) (rest := []) (wc := [(ra, .inr (2, [.ref rc, .ref rr, .ref rf, .int (nI td), .int fst_])), (rc, .inl (G.2.1, 40, .inl car))]) (q0 := 0) (ci := 2) C hW hl (c_X4_mayStep l G ra rc rr rf td fst_ car sp t j (by first | assumption | omega) (by first | assumption | omega) (by first | assumption | omega) _) k_ml_X4_69 q_X4_mayStep (by decide) [0, 1] rfl rfl rfl rfl rfl rfl (Nat.le_of_ble_eq_true rfl) dX4_firstStep_12 (by decide)) (fun r_417 er_417 => ?_)
        clear hW H locs; intro H locs hW
        subst er_417
        refine lv_if_eq (tgt := 40) hx hb dX4_firstStep_15 (by decide) (fun c_418 => ?_) (fun c_418 => ?_)
        · refine lv_iinc (v := (nI j - 1) + 1) (lv' := [(3, .int ((nI j - 1) + 1)), (0, .ref ra), (1, .int (nI sp)), (2, .int (nI t))]) hx hb dX4_firstStep_40 hl (k := 0) rfl rfl (by decide) rfl ?_
          clear hl ls; intro ls hl
          refine lv_goto (tgt := 2) hx hb dX4_firstStep_43 (by decide) ?_
          exact ihK_414 (j + 1) ((nI j - 1) + 1) (by exact m1_s j) (by first | omega | assumption | (simp; done)) (by exact lt_s hz (by rw [fsQ]; first | (rw [bI_0.mp c_418]; rfl) | (rw [bI_ne.mp c_416, tbf c_418]; rfl))) (by omega) _ _ _ hW (lv_sub hl [0, 1, 2, 3] rfl)
        · refine lv_aload_n hx hb dX4_firstStep_18 rfl (lv_at hl 1 rfl) ?_
          refine g_get (k := 2) (v := .ref rf) C hW 0 rfl rfl jnX4 (by decide) k_fl_X4_18 rfl dX4_firstStep_19 ?_
          refine lv_aload_n hx hb dX4_firstStep_22 rfl (lv_at hl 1 rfl) ?_
          refine lv_iload_n hx hb dX4_firstStep_23 rfl (lv_at hl 2 rfl) ?_
          refine lv_iload_n hx hb dX4_firstStep_24 rfl (lv_at hl 0 rfl) ?_
          refine g_fi C hW [0] rfl (g_runV (As := [.int (nI sp), .int (nI j - 1)]) (rest := [.ref rf]) (wc := [(ra, .inr (2, [.ref rc, .ref rr, .ref rf, .int (nI td), .int fst_]))]) (q0 := 0) (ci := 2) C hW hl (c_X4_after l G ra rc rr rf td fst_ sp j (by first | assumption | omega) (by first | assumption | omega) (by first | assumption | omega) _) k_ml_X4_66 q_X4_after (by decide) [0] rfl rfl rfl rfl rfl rfl (Nat.le_of_ble_eq_true rfl) dX4_firstStep_25 (by decide)) (fun r_419 er_419 => ?_)
          clear hW H locs; intro H locs hW
          subst er_419
          refine g_ald C hW 2 rfl (ix_in (show (nI (afN td sp j)) = nI (afN td sp j) from (by first | rfl | (simp only [nI_lit, nI_add, pk_mul]; done) | (simp only [nI_lit, nI_add, pk_mul]; congr 1; omega))) (by exact af_lt hsp) (by omega)) dX4_firstStep_28 ?_
          refine lv_as (y := fin (afN td sp j)) (by rw [show (nI (afN td sp j)).toNatClampNeg = (afN td sp j) from ix_cl (show (nI (afN td sp j)) = nI (afN td sp j) from (by first | rfl | (simp only [nI_lit, nI_add, pk_mul]; done) | (simp only [nI_lit, nI_add, pk_mul]; congr 1; omega))) (Nat.lt_of_lt_of_le (m := 256) (by exact af_lt hsp) (by omega))]) ?_
          refine lv_iload_n hx hb dX4_firstStep_29 rfl (lv_at hl 3 rfl) ?_
          refine lv_iconst (v := 1) hx hb dX4_firstStep_30 (by decide) ?_
          refine lv_iadd hx hb dX4_firstStep_31 ?_
          refine lv_as (y := nI (t + 1)) (nI_1 t) ?_
          refine lv_ishr hx hb dX4_firstStep_32 ?_
          refine lv_iconst (v := 1) hx hb dX4_firstStep_33 (by decide) ?_
          refine lv_iand hx hb dX4_firstStep_34 ?_
          refine lv_if_eq (tgt := 40) hx hb dX4_firstStep_35 (by decide) (fun c_420 => ?_) (fun c_420 => ?_)
          · refine lv_iinc (v := (nI j - 1) + 1) (lv' := [(3, .int ((nI j - 1) + 1)), (0, .ref ra), (1, .int (nI sp)), (2, .int (nI t))]) hx hb dX4_firstStep_40 hl (k := 0) rfl rfl (by decide) rfl ?_
            clear hl ls; intro ls hl
            refine lv_goto (tgt := 2) hx hb dX4_firstStep_43 (by decide) ?_
            exact ihK_414 (j + 1) ((nI j - 1) + 1) (by exact m1_s j) (by first | omega | assumption | (simp; done)) (by exact lt_s hz (by rw [fsQ]; first | (rw [bI_0.mp c_420]; rfl) | (rw [bI_ne.mp c_418, tbf c_420]; rfl))) (by omega) _ _ _ hW (lv_sub hl [0, 1, 2, 3] rfl)
          · refine lv_iload_n hx hb dX4_firstStep_38 rfl (lv_at hl 0 rfl) ?_
            subst hQ
            exact g_iret (v := (nI j - 1)) C hW hrt ⟨by exact fsv_j hj8 hz (by rw [fsQ, bI_ne.mp c_418, tbt c_420]; rfl), rfl⟩ dX4_firstStep_39
  exact K_414 _ 0 (-1) (by decide) (by first | omega | assumption | (simp; done)) (by exact lt_0) (Nat.lt_succ_self _) _ _ _ hW (lv_sub hl [0, 1, 2, 3] rfl)
set_option maxHeartbeats 4000000 in
set_option maxRecDepth 100000 in
theorem c_X4_spread (l : Launch) (G : gT) (ra rc rr rf td : Nat) (fst_ : Int32) (car f0 : Nat → Int32) (t : Nat) (htd : td < 128) (htt : t < 20) : MV l G yX4_spread cX4_spread 4 ({ frames := 1, cells := 0, slots := 0, locals := 25 }) [.ref ra, .int (nI t)] [(ra, .inr (2, [.ref rc, .ref rr, .ref rf, .int (nI td), .int fst_])), (rc, .inl (G.2.1, 40, .inl car)), (rr, .inl (G.2.1, 256, .inl f0))] (fun w1 => ∃ u_ : Unit, (True) ∧ w1 = [(ra, .inr (2, [.ref rc, .ref rr, .ref rf, .int (nI td), .int fst_])), (rc, .inl (G.2.1, 40, .inl car)), (rr, .inl (G.2.1, 256, .inl (sprO car td t f0 256)))]) := by
  refine MV.mk (by decide) (Nat.le_of_ble_eq_true rfl) ?_
  intro p_ e_ s_ m_ ar_ be_ me_ cd_ A_ ls C hrt hW hl
  have hx := C.1; have hb := C.2.1; have hown := C.2.2.2.1; have ht := C.2.2.2.2.1
  replace hl : lv_has ls 4 [(0, .ref ra), (1, .int (nI t))] := hl
  generalize hQ : MQ be_ _ ar_ s_ 0 0 A_ = Q
  refine lv_iconst (v := 0) hx hb dX4_spread_0 (by decide) ?_
  refine lv_istore_n (lv' := [(2, .int 0), (0, .ref ra), (1, .int (nI t))]) hx hb dX4_spread_1 rfl hl (by decide) rfl ?_
  clear hl ls; intro ls hl
  have K_421 : ∀ (n_ : Nat) (sp : Nat) (x_422 : Int32) (g_423 : Nat → Int32) (_ : x_422 = nI sp) (_ : g_423 = sprO car td t f0 sp) (_ : sp ≤ 256) (_ : 256 - sp < n_) (H : Heap) (locs : List Loc) (ls : Array Slot), Wd G A_ s_.heap [(ra, .inr (2, [.ref rc, .ref rr, .ref rf, .int (nI td), .int fst_])), (rc, .inl (G.2.1, 40, .inl car)), (rr, .inl (G.2.1, 256, .inl g_423))] H locs → lv_has ls 4 [(2, .int x_422), (0, .ref ra), (1, .int (nI t))] → W p_ l e_ ({ frames := 1, cells := 0, slots := 0, locals := 25 }) s_ m_ ar_ be_ me_ cd_ H locs 0 0 Q (F0 m_ 2 ls []) := by
    intro n_
    induction n_ with
    | zero => intro sp x_422 g_423 ex_422 eg_423 hsp9 hm_; exact absurd hm_ (Nat.not_lt_zero _)
    | succ n_ ihK_421 =>
      intro sp x_422 g_423 ex_422 eg_423 hsp9 hm_ H locs ls hW hl
      subst ex_422
      subst eg_423
      refine lv_iload_n hx hb dX4_spread_2 rfl (lv_at hl 0 rfl) ?_
      refine lv_sipush (v := 256) hx hb dX4_spread_3 (by decide) ?_
      refine lv_icmp_ge (tgt := 71) hx hb dX4_spread_6 (by decide) (fun c_424 => ?_) (fun c_424 => ?_)
      · replace c_424 := Int32.not_lt.mpr c_424
        have c_424n : ¬ sp < 256 := fun q => c_424 ((nI_ltI (a := sp) (b := 256) (by omega) (by omega)).mpr q)
        subst hQ
        exact g_vret C hW hrt ⟨(), trivial, by rw [show sp = 256 by omega]⟩ dX4_spread_71
      · replace c_424 := Int32.not_le.mp c_424
        have c_424n : sp < 256 := (nI_ltI (a := sp) (b := 256) (by omega) (by omega)).mp c_424
        refine lv_aload_n hx hb dX4_spread_9 rfl (lv_at hl 1 rfl) ?_
        refine g_get (k := 1) (v := .ref rr) C hW 0 rfl rfl jnX4 (by decide) k_fl_X4_15 rfl dX4_spread_10 ?_
        refine lv_iload_n hx hb dX4_spread_13 rfl (lv_at hl 0 rfl) ?_
        refine g_ald C hW 2 rfl (ix_in (show (nI sp) = nI sp from (by first | rfl | (simp only [nI_lit, nI_add, pk_mul]; done) | (simp only [nI_lit, nI_add, pk_mul]; congr 1; omega))) (by omega) (by omega)) dX4_spread_14 ?_
        refine lv_as (y := (sprO car td t f0 sp) sp) (by rw [show (nI sp).toNatClampNeg = sp from nI_clamp (by omega)]) ?_
        refine lv_iload_n hx hb dX4_spread_15 rfl (lv_at hl 2 rfl) ?_
        refine lv_ishr hx hb dX4_spread_16 ?_
        refine lv_iconst (v := 1) hx hb dX4_spread_17 (by decide) ?_
        refine lv_iand hx hb dX4_spread_18 ?_
        refine lv_if_eq (tgt := 65) hx hb dX4_spread_19 (by decide) (fun c_425 => ?_) (fun c_425 => ?_)
        · refine lv_iinc (v := (nI sp) + 1) (lv' := [(2, .int ((nI sp) + 1)), (0, .ref ra), (1, .int (nI t))]) hx hb dX4_spread_65 hl (k := 0) rfl rfl (by decide) rfl ?_
          clear hl ls; intro ls hl
          refine lv_goto (tgt := 2) hx hb dX4_spread_68 (by decide) ?_
          exact ihK_421 (sp + 1) ((nI sp) + 1) (sprO car td t f0 sp) (by exact nI_1 _) (by first | (rw [sprO, if_pos hgo]; done) | (rw [sprO, if_neg (by rw [tbf c_425]; decide)])) (by first | omega | assumption | (simp; done)) (by omega) _ _ _ hW (lv_sub hl [0, 1, 2] rfl)
        · have hgo := tbt c_425
          refine lv_iconst (v := (-1)) hx hb dX4_spread_22 (by decide) ?_
          refine lv_istore_n (lv' := [(3, .int (-1)), (2, .int (nI sp)), (0, .ref ra), (1, .int (nI t))]) hx hb dX4_spread_23 rfl hl (by decide) rfl ?_
          clear hl ls; intro ls hl
          have K_426 : ∀ (n_ : Nat) (j : Nat) (x_427 : Int32) (g_428 : Nat → Int32) (_ : x_427 = nI j - 1) (_ : g_428 = (sprI car td t sp (sprO car td t f0 sp) j)) (_ : j ≤ 8) (_ : 8 - j < n_) (H : Heap) (locs : List Loc) (ls : Array Slot), Wd G A_ s_.heap [(ra, .inr (2, [.ref rc, .ref rr, .ref rf, .int (nI td), .int fst_])), (rc, .inl (G.2.1, 40, .inl car)), (rr, .inl (G.2.1, 256, .inl g_428))] H locs → lv_has ls 4 [(3, .int x_427), (2, .int (nI sp)), (0, .ref ra), (1, .int (nI t))] → W p_ l e_ ({ frames := 1, cells := 0, slots := 0, locals := 25 }) s_ m_ ar_ be_ me_ cd_ H locs 0 0 Q (F0 m_ 24 ls []) := by
            intro n_
            induction n_ with
            | zero => intro j x_427 g_428 ex_427 eg_428 hj hm_; exact absurd hm_ (Nat.not_lt_zero _)
            | succ n_ ihK_426 =>
              intro j x_427 g_428 ex_427 eg_428 hj hm_ H locs ls hW hl
              subst ex_427
              subst eg_428
              refine lv_iload_n hx hb dX4_spread_24 rfl (lv_at hl 0 rfl) ?_
              refine lv_bipush (v := 7) hx hb dX4_spread_25 (by decide) ?_
              refine lv_icmp_ge (tgt := 65) hx hb dX4_spread_27 (by decide) (fun c_429 => ?_) (fun c_429 => ?_)
              · replace c_429 := Int32.not_lt.mpr c_429
                have hj8 : ¬ j < 8 := fun q => c_429 ((m1_lt (by omega)).mpr q)
                obtain rfl : j = 8 := by omega
                refine lv_iinc (v := (nI sp) + 1) (lv' := [(2, .int ((nI sp) + 1)), (3, .int (nI 8 - 1)), (0, .ref ra), (1, .int (nI t))]) hx hb dX4_spread_65 hl (k := 1) rfl rfl (by decide) rfl ?_
                clear hl ls; intro ls hl
                refine lv_goto (tgt := 2) hx hb dX4_spread_68 (by decide) ?_
                exact ihK_421 (sp + 1) ((nI sp) + 1) (sprI car td t sp (sprO car td t f0 sp) 8) (by exact nI_1 _) (by first | (rw [sprO, if_pos hgo]; done) | (rw [sprO, if_neg (by rw [tbf c_429]; decide)])) (by first | omega | assumption | (simp; done)) (by omega) _ _ _ hW (lv_sub hl [0, 2, 3] rfl)
              · replace c_429 := Int32.not_le.mp c_429
                have hj8 : j < 8 := (m1_lt (by omega)).mp c_429
                refine lv_aload_n hx hb dX4_spread_30 rfl (lv_at hl 2 rfl) ?_
                refine lv_iload_n hx hb dX4_spread_31 rfl (lv_at hl 1 rfl) ?_
                refine lv_iload_n hx hb dX4_spread_32 rfl (lv_at hl 3 rfl) ?_
                refine lv_iload_n hx hb dX4_spread_33 rfl (lv_at hl 0 rfl) ?_
                refine g_fi C hW [0, 1] rfl (g_runV (As := [.int (nI sp), .int (nI t), .int (nI j - 1)]) (rest := []) (wc := [(ra, .inr (2, [.ref rc, .ref rr, .ref rf, .int (nI td), .int fst_])), (rc, .inl (G.2.1, 40, .inl car))]) (q0 := 0) (ci := 2) C hW hl (c_X4_mayStep l G ra rc rr rf td fst_ car sp t j (by first | assumption | omega) (by first | assumption | omega) (by first | assumption | omega) _) k_ml_X4_69 q_X4_mayStep (by decide) [0, 1] rfl rfl rfl rfl rfl rfl (Nat.le_of_ble_eq_true rfl) dX4_spread_34 (by decide)) (fun r_431 er_431 => ?_)
                clear hW H locs; intro H locs hW
                subst er_431
                have J_436 : ∀ (g_435 : Nat → Int32) (_ : g_435 = (if (bI (myN car sp t j)) = 0 then (sprI car td t sp (sprO car td t f0 sp) j) else upd (sprI car td t sp (sprO car td t f0 sp) j) (afN td sp j) (((sprI car td t sp (sprO car td t f0 sp) j) (afN td sp j)) ||| ((1 : Int32) <<< ((nI (t + 1)) &&& 31))))), ∀ (H : Heap) (locs : List Loc) (ls : Array Slot), Wd G A_ s_.heap [(ra, .inr (2, [.ref rc, .ref rr, .ref rf, .int (nI td), .int fst_])), (rc, .inl (G.2.1, 40, .inl car)), (rr, .inl (G.2.1, 256, .inl g_435))] H locs → lv_has ls 4 [(3, .int (nI j - 1)), (2, .int (nI sp)), (0, .ref ra), (1, .int (nI t))] → W p_ l e_ ({ frames := 1, cells := 0, slots := 0, locals := 25 }) s_ m_ ar_ be_ me_ cd_ H locs 0 0 Q (F0 m_ 59 ls []) := by
                  intro g_435 eg_435 H locs ls hW hl
                  refine lv_iinc (v := (nI j - 1) + 1) (lv' := [(3, .int ((nI j - 1) + 1)), (2, .int (nI sp)), (0, .ref ra), (1, .int (nI t))]) hx hb dX4_spread_59 hl (k := 0) rfl rfl (by decide) rfl ?_
                  clear hl ls; intro ls hl
                  refine lv_goto (tgt := 24) hx hb dX4_spread_62 (by decide) ?_
                  exact ihK_426 (j + 1) ((nI j - 1) + 1) g_435 (by exact m1_s j) (by (simp only [eg_435, sprI, bstepf])) (by first | omega | assumption | (simp; done)) (by omega) _ _ _ hW (lv_sub hl [0, 1, 2, 3] rfl)
                refine lv_if_eq (tgt := 59) hx hb dX4_spread_37 (by decide) (fun c_432 => ?_) (fun c_432 => ?_)
                · exact J_436 (sprI car td t sp (sprO car td t f0 sp) j) (by first | (simp only [c_432, if_true, if_false, reduceIte]; done) | (simp [c_432]; done) | rfl) _ _ _ hW (lv_sub hl [0, 1, 2, 3] rfl)
                · refine lv_aload_n hx hb dX4_spread_40 rfl (lv_at hl 2 rfl) ?_
                  refine g_get (k := 1) (v := .ref rr) C hW 0 rfl rfl jnX4 (by decide) k_fl_X4_15 rfl dX4_spread_41 ?_
                  refine lv_aload_n hx hb dX4_spread_44 rfl (lv_at hl 2 rfl) ?_
                  refine lv_iload_n hx hb dX4_spread_45 rfl (lv_at hl 1 rfl) ?_
                  refine lv_iload_n hx hb dX4_spread_46 rfl (lv_at hl 0 rfl) ?_
                  refine g_fi C hW [0] rfl (g_runV (As := [.int (nI sp), .int (nI j - 1)]) (rest := [.ref rr]) (wc := [(ra, .inr (2, [.ref rc, .ref rr, .ref rf, .int (nI td), .int fst_]))]) (q0 := 0) (ci := 2) C hW hl (c_X4_after l G ra rc rr rf td fst_ sp j (by first | assumption | omega) (by first | assumption | omega) (by first | assumption | omega) _) k_ml_X4_66 q_X4_after (by decide) [0] rfl rfl rfl rfl rfl rfl (Nat.le_of_ble_eq_true rfl) dX4_spread_47 (by decide)) (fun r_437 er_437 => ?_)
                  clear hW H locs; intro H locs hW
                  subst er_437
                  refine lv_dup2_11 hx hb dX4_spread_50 rfl rfl ?_
                  refine g_ald C hW 2 rfl (ix_in (show (nI (afN td sp j)) = nI (afN td sp j) from (by first | rfl | (simp only [nI_lit, nI_add, pk_mul]; done) | (simp only [nI_lit, nI_add, pk_mul]; congr 1; omega))) (by exact af_lt (by omega)) (by omega)) dX4_spread_51 ?_
                  refine lv_as (y := (sprI car td t sp (sprO car td t f0 sp) j) (afN td sp j)) (by rw [show (nI (afN td sp j)).toNatClampNeg = (afN td sp j) from ix_cl (show (nI (afN td sp j)) = nI (afN td sp j) from (by first | rfl | (simp only [nI_lit, nI_add, pk_mul]; done) | (simp only [nI_lit, nI_add, pk_mul]; congr 1; omega))) (Nat.lt_of_lt_of_le (m := 256) (by exact af_lt (by omega)) (by omega))]) ?_
                  refine lv_iconst (v := 1) hx hb dX4_spread_52 (by decide) ?_
                  refine lv_iload_n hx hb dX4_spread_53 rfl (lv_at hl 3 rfl) ?_
                  refine lv_iconst (v := 1) hx hb dX4_spread_54 (by decide) ?_
                  refine lv_iadd hx hb dX4_spread_55 ?_
                  refine lv_as (y := nI (t + 1)) (nI_1 t) ?_
                  refine lv_ishl hx hb dX4_spread_56 ?_
                  refine lv_ior hx hb dX4_spread_57 ?_
                  refine g_ast (w' := [(ra, .inr (2, [.ref rc, .ref rr, .ref rf, .int (nI td), .int fst_])), (rc, .inl (G.2.1, 40, .inl car)), (rr, .inl (G.2.1, 256, .inl (upd (sprI car td t sp (sprO car td t f0 sp) j) (afN td sp j) (((sprI car td t sp (sprO car td t f0 sp) j) (afN td sp j)) ||| ((1 : Int32) <<< ((nI (t + 1)) &&& 31))))))]) C hW 2 rfl (ix_in (show (nI (afN td sp j)) = nI (afN td sp j) from (by first | rfl | (simp only [nI_lit, nI_add, pk_mul]; done) | (simp only [nI_lit, nI_add, pk_mul]; congr 1; omega))) (by exact af_lt (by omega)) (by omega)) (by rw [show (nI (afN td sp j)).toNatClampNeg = (afN td sp j) from ix_cl (show (nI (afN td sp j)) = nI (afN td sp j) from (by first | rfl | (simp only [nI_lit, nI_add, pk_mul]; done) | (simp only [nI_lit, nI_add, pk_mul]; congr 1; omega))) (Nat.lt_of_lt_of_le (m := 256) (by exact af_lt (by omega)) (by omega))]; rfl) dX4_spread_58 ?_
                  clear hW H locs; intro H locs hW
                  exact J_436 (upd (sprI car td t sp (sprO car td t f0 sp) j) (afN td sp j) (((sprI car td t sp (sprO car td t f0 sp) j) (afN td sp j)) ||| ((1 : Int32) <<< ((nI (t + 1)) &&& 31)))) (by first | (simp only [c_432, if_true, if_false, reduceIte]; done) | (simp [c_432]; done) | rfl) _ _ _ hW (lv_sub hl [0, 1, 2, 3] rfl)
          exact K_426 _ 0 (-1) (sprO car td t f0 sp) (by decide) (by exact rfl) (by first | omega | assumption | (simp; done)) (Nat.lt_succ_self _) _ _ _ hW (lv_sub hl [0, 1, 2, 3] rfl)
  exact K_421 _ 0 0 f0 (by first | exact rfl | (simp; done)) (by first | exact rfl | (simp; done)) (by first | omega | assumption | (simp; done)) (Nat.lt_succ_self _) _ _ _ hW (lv_sub hl [0, 1, 2] rfl)
