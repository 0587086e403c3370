set_option maxHeartbeats 4000000 in
set_option maxRecDepth 100000 in
theorem c_X10_part_bad (l : Launch) (G : gT) (v : Nat) (to iv jv rd st ra og : Nat) (k1 k2 ab be bds nos fls : Int32) (x9 : Int32) (h1 : iw x9 0 1 = false) : ML l G yX10_part cX10_part 2 ({ frames := 1, cells := 0, slots := 0, locals := 22 }) [.ref to, .int x9] [(to, .inr (8, [.ref v, .ref iv, .ref jv, .int k1, .int k2, .ref rd, .ref st, .ref ra, .ref og, .int ab, .int be, .int bds, .int nos, .int fls]))] (fun (r : Int64) w1 => ∃ u_ : Unit, (r = (-2)) ∧ w1 = [(to, .inr (8, [.ref v, .ref iv, .ref jv, .int k1, .int k2, .ref rd, .ref st, .ref ra, .ref og, .int ab, .int be, .int (bds + 1), .int nos, .int fls]))]) := by
  refine ML.mk (by decide) (Nat.le_of_ble_eq_true rfl) ?_
  intro p_ e_ s_ m_ ar_ be_ me_ cd_ A_ ls C hrt hW hl
  have hx := C.1; have hb := C.2.1; have hown := C.2.2.2.1; have ht := C.2.2.2.2.1
  replace hl : lv_has ls 2 [(0, .ref to), (1, .int x9)] := hl
  generalize hQ : MQ be_ _ ar_ s_ 0 0 A_ = Q
  refine lv_iload_n hx hb dX10_part_0 rfl (lv_at hl 1 rfl) ?_
  refine lv_iconst (v := 0) hx hb dX10_part_1 (by decide) ?_
  refine lv_iconst (v := 1) hx hb dX10_part_2 (by decide) ?_
  refine g_fi C hW [] rfl (g_runS (As := [.int x9, .int 0, .int 1]) (rest := []) (wc := []) C hW hl (c_X10_isWithin l G x9 0 1  _) k_ml_X10_73 q_X10_isWithin (by decide) [] rfl rfl rfl rfl (Nat.le_of_ble_eq_true rfl) dX10_part_3 (by decide)) (fun r_2570 er_2570 => ?_)
  clear hW; intro H locs hW
  refine lv_as (y := bI (iw x9 0 1)) er_2570 ?_
  clear er_2570 r_2570
  refine lv_if_ne (tgt := 17) hx hb dX10_part_6 (by decide) (fun c_2571 => ?_) (fun c_2571 => ?_)
  · exfalso; exact dd0 (by first | assumption | exact decide_eq_false (by first | assumption | omega)) c_2571
  · refine lv_aload_n hx hb dX10_part_9 rfl (lv_at hl 0 rfl) ?_
    refine lv_bipush (v := (-2)) hx hb dX10_part_10 (by decide) ?_
    refine g_fiw (wr := []) (ww := fun (u_ : Unit) => [(to, .inr (8, [.ref v, .ref iv, .ref jv, .int k1, .int k2, .ref rd, .ref st, .ref ra, .ref og, .int ab, .int be, .int (bds + 1), .int nos, .int fls]))]) (w2 := fun (u_ : Unit) => [(to, .inr (8, [.ref v, .ref iv, .ref jv, .int k1, .int k2, .ref rd, .ref st, .ref ra, .ref og, .int ab, .int be, .int (bds + 1), .int nos, .int fls]))]) C hW [0] [] [0] rfl rfl (by decide) (by decide) (by decide) (fun _ => rfl) (g_runV (As := [.int (-2)]) (rest := []) (wc := [(to, .inr (8, [.ref v, .ref iv, .ref jv, .int k1, .int k2, .ref rd, .ref st, .ref ra, .ref og, .int ab, .int be, .int bds, .int nos, .int fls]))]) (q0 := 0) (ci := 8) C hW hl (c_X10_refuseBad l G v to iv jv rd st ra og k1 k2 ab be bds nos fls (-2)  _) k_ml_X10_77 q_X10_refuseBad (by decide) [0] rfl rfl rfl rfl rfl rfl (Nat.le_of_ble_eq_true rfl) dX10_part_12 (by decide)) (fun r_2572 _ er_2572 => ?_)
    clear hW H locs; intro H locs hW
    refine lv_as (y := (-2)) er_2572 ?_
    clear er_2572 r_2572
    replace hW : Wd G A_ s_.heap [(to, .inr (8, [.ref v, .ref iv, .ref jv, .int k1, .int k2, .ref rd, .ref st, .ref ra, .ref og, .int ab, .int be, .int (bds + 1), .int nos, .int fls]))] H locs := hW
    refine lv_i2l hx hb dX10_part_15 rfl ?_
    subst hQ
    exact g_lret (v := (((-2) : Int32).toInt64)) C hW hrt ⟨(), by decide, by rfl⟩ dX10_part_16
set_option maxHeartbeats 4000000 in
set_option maxRecDepth 100000 in
theorem c_X11_part_0 (l : Launch) (G : gT) (mo al ke ik rq so ha te bt an vs : Nat) (mab mbe : Int64) (bL tA tL tK tV : Int32)  : ML l G yX11_part cX11_part 2 ({ frames := 0, cells := 0, slots := 0, locals := 0 }) [.ref mo, .int 0] [(mo, .inr (9, [.ref al, .ref ke, .ref ik, .ref rq, .long mab, .long mbe, .ref so, .ref ha, .ref te, .ref bt, .int bL, .int tA, .int tL, .int tK, .int tV, .ref an, .ref vs]))] (fun (r : Int64) w1 => (r = mab) ∧ w1 = [(mo, .inr (9, [.ref al, .ref ke, .ref ik, .ref rq, .long mab, .long mbe, .ref so, .ref ha, .ref te, .ref bt, .int bL, .int tA, .int tL, .int tK, .int tV, .ref an, .ref vs]))]) := by
  refine ML.mk (by decide) (Nat.le_of_ble_eq_true rfl) ?_
  intro p_ e_ s_ m_ ar_ be_ me_ cd_ A_ ls C hrt hW hl
  have hx := C.1; have hb := C.2.1; have hown := C.2.2.2.1; have ht := C.2.2.2.2.1
  replace hl : lv_has ls 2 [(0, .ref mo), (1, .int 0)] := hl
  generalize hQ : MQ be_ _ ar_ s_ 0 0 A_ = Q
  refine lv_iload_n hx hb dX11_part_0 rfl (lv_at hl 1 rfl) ?_
  refine lv_if_ne (tgt := 11) hx hb dX11_part_1 (by decide) (fun c_2574 => ?_) (fun c_2574 => ?_)
  · exfalso; exact c_2574 rfl
  · refine lv_aload_n hx hb dX11_part_4 rfl (lv_at hl 0 rfl) ?_
    refine g_get (k := 4) (v := .long mab) C hW 0 rfl rfl jnX11 (by decide) k_fl_X11_197 rfl dX11_part_5 ?_
    refine lv_goto (tgt := 30) hx hb dX11_part_8 (by decide) ?_
    subst hQ
    exact g_lret (v := mab) C hW hrt ⟨by rfl, rfl⟩ dX11_part_30
set_option maxHeartbeats 4000000 in
set_option maxRecDepth 100000 in
theorem c_X11_part_1 (l : Launch) (G : gT) (mo al ke ik rq so ha te bt an vs : Nat) (mab mbe : Int64) (bL tA tL tK tV : Int32)  : ML l G yX11_part cX11_part 2 ({ frames := 0, cells := 0, slots := 0, locals := 0 }) [.ref mo, .int 1] [(mo, .inr (9, [.ref al, .ref ke, .ref ik, .ref rq, .long mab, .long mbe, .ref so, .ref ha, .ref te, .ref bt, .int bL, .int tA, .int tL, .int tK, .int tV, .ref an, .ref vs]))] (fun (r : Int64) w1 => (r = mbe) ∧ w1 = [(mo, .inr (9, [.ref al, .ref ke, .ref ik, .ref rq, .long mab, .long mbe, .ref so, .ref ha, .ref te, .ref bt, .int bL, .int tA, .int tL, .int tK, .int tV, .ref an, .ref vs]))]) := by
  refine ML.mk (by decide) (Nat.le_of_ble_eq_true rfl) ?_
  intro p_ e_ s_ m_ ar_ be_ me_ cd_ A_ ls C hrt hW hl
  have hx := C.1; have hb := C.2.1; have hown := C.2.2.2.1; have ht := C.2.2.2.2.1
  replace hl : lv_has ls 2 [(0, .ref mo), (1, .int 1)] := hl
  generalize hQ : MQ be_ _ ar_ s_ 0 0 A_ = Q
  refine lv_iload_n hx hb dX11_part_0 rfl (lv_at hl 1 rfl) ?_
  refine lv_if_ne (tgt := 11) hx hb dX11_part_1 (by decide) (fun c_2575 => ?_) (fun c_2575 => ?_)
  · refine lv_iload_n hx hb dX11_part_11 rfl (lv_at hl 1 rfl) ?_
    refine lv_iconst (v := 1) hx hb dX11_part_12 (by decide) ?_
    refine lv_icmp_ne (tgt := 23) hx hb dX11_part_13 (by decide) (fun c_2576 => ?_) (fun c_2576 => ?_)
    · exfalso; exact c_2576 rfl
    · refine lv_aload_n hx hb dX11_part_16 rfl (lv_at hl 0 rfl) ?_
      refine g_get (k := 5) (v := .long mbe) C hW 0 rfl rfl jnX11 (by decide) k_fl_X11_23 rfl dX11_part_17 ?_
      refine lv_goto (tgt := 30) hx hb dX11_part_20 (by decide) ?_
      subst hQ
      exact g_lret (v := mbe) C hW hrt ⟨by rfl, rfl⟩ dX11_part_30
  · exfalso; exact absurd c_2575 (by decide)
set_option maxHeartbeats 4000000 in
set_option maxRecDepth 100000 in
theorem c_X11_part_bad (l : Launch) (G : gT) (mo al ke ik rq so ha te bt an vs : Nat) (mab mbe : Int64) (bL tA tL tK tV : Int32) (rv : Nat → Int32) (x9 : Int32) (hx0 : ¬ x9 = 0) (hx1 : ¬ x9 = 1) : ML l G yX11_part cX11_part 2 ({ frames := 1, cells := 0, slots := 0, locals := 21 }) [.ref mo, .int x9] [(mo, .inr (9, [.ref al, .ref ke, .ref ik, .ref rq, .long mab, .long mbe, .ref so, .ref ha, .ref te, .ref bt, .int bL, .int tA, .int tL, .int tK, .int tV, .ref an, .ref vs])), (rq, .inl (G.2.1, 3, .inl rv))] (fun (r : Int64) w1 => ∃ u_ : Unit, (r = (-2)) ∧ w1 = [(mo, .inr (9, [.ref al, .ref ke, .ref ik, .ref rq, .long mab, .long mbe, .ref so, .ref ha, .ref te, .ref bt, .int bL, .int tA, .int tL, .int tK, .int tV, .ref an, .ref vs])), (rq, .inl (G.2.1, 3, .inl (upd rv 0 (rv 0 + 1))))]) := by
  refine ML.mk (by decide) (Nat.le_of_ble_eq_true rfl) ?_
  intro p_ e_ s_ m_ ar_ be_ me_ cd_ A_ ls C hrt hW hl
  have hx := C.1; have hb := C.2.1; have hown := C.2.2.2.1; have ht := C.2.2.2.2.1
  replace hl : lv_has ls 2 [(0, .ref mo), (1, .int x9)] := hl
  generalize hQ : MQ be_ _ ar_ s_ 0 0 A_ = Q
  refine lv_iload_n hx hb dX11_part_0 rfl (lv_at hl 1 rfl) ?_
  refine lv_if_ne (tgt := 11) hx hb dX11_part_1 (by decide) (fun c_2577 => ?_) (fun c_2577 => ?_)
  · refine lv_iload_n hx hb dX11_part_11 rfl (lv_at hl 1 rfl) ?_
    refine lv_iconst (v := 1) hx hb dX11_part_12 (by decide) ?_
    refine lv_icmp_ne (tgt := 23) hx hb dX11_part_13 (by decide) (fun c_2578 => ?_) (fun c_2578 => ?_)
    · refine lv_aload_n hx hb dX11_part_23 rfl (lv_at hl 0 rfl) ?_
      refine lv_bipush (v := (-2)) hx hb dX11_part_24 (by decide) ?_
      refine g_fiw (wr := []) (ww := fun (u_ : Unit) => [(mo, .inr (9, [.ref al, .ref ke, .ref ik, .ref rq, .long mab, .long mbe, .ref so, .ref ha, .ref te, .ref bt, .int bL, .int tA, .int tL, .int tK, .int tV, .ref an, .ref vs])), (rq, .inl (G.2.1, 3, .inl (upd rv 0 (rv 0 + 1))))]) (w2 := fun (u_ : Unit) => [(mo, .inr (9, [.ref al, .ref ke, .ref ik, .ref rq, .long mab, .long mbe, .ref so, .ref ha, .ref te, .ref bt, .int bL, .int tA, .int tL, .int tK, .int tV, .ref an, .ref vs])), (rq, .inl (G.2.1, 3, .inl (upd rv 0 (rv 0 + 1))))]) C hW [0, 1] [] [0, 1] rfl rfl (by decide) (by decide) (by decide) (fun _ => rfl) (g_runV (As := [.int (-2)]) (rest := []) (wc := [(mo, .inr (9, [.ref al, .ref ke, .ref ik, .ref rq, .long mab, .long mbe, .ref so, .ref ha, .ref te, .ref bt, .int bL, .int tA, .int tL, .int tK, .int tV, .ref an, .ref vs])), (rq, .inl (G.2.1, 3, .inl rv))]) (q0 := 0) (ci := 9) C hW hl (c_X11_bad l G mo al ke ik rq so ha te bt an vs mab mbe bL tA tL tK tV rv (-2)  _) k_ml_X11_67 q_X11_bad (by decide) [0, 1] rfl rfl rfl rfl rfl rfl (Nat.le_of_ble_eq_true rfl) dX11_part_26 (by decide)) (fun r_2579 _ er_2579 => ?_)
      clear hW; intro H locs hW
      refine lv_as (y := (-2)) er_2579 ?_
      clear er_2579 r_2579
      replace hW : Wd G A_ s_.heap [(mo, .inr (9, [.ref al, .ref ke, .ref ik, .ref rq, .long mab, .long mbe, .ref so, .ref ha, .ref te, .ref bt, .int bL, .int tA, .int tL, .int tK, .int tV, .ref an, .ref vs])), (rq, .inl (G.2.1, 3, .inl (upd rv 0 (rv 0 + 1))))] H locs := hW
      refine lv_i2l hx hb dX11_part_29 rfl ?_
      subst hQ
      exact g_lret (v := (((-2) : Int32).toInt64)) C hW hrt ⟨(), by decide, by rfl⟩ dX11_part_30
    · exfalso; exact hx1 c_2578
  · exfalso; exact hx0 c_2577
set_option maxHeartbeats 4000000 in
set_option maxRecDepth 100000 in
theorem c_X11_image_ok (l : Launch) (G : gT) (mo al ke ik rq so ha te bt an vs : Nat) (mab mbe : Int64) (bL tA tL tK tV : Int32) (a : Nat → Int32) (kf jf : Nat → Int32) (i : Nat) (hi : i < 2) : MI l G yX11_image cX11_image 3 .int ({ frames := 1, cells := 0, slots := 0, locals := 25 }) [.ref mo, .int (nI i)] [(mo, .inr (9, [.ref al, .ref ke, .ref ik, .ref rq, .long mab, .long mbe, .ref so, .ref ha, .ref te, .ref bt, .int bL, .int tA, .int tL, .int tK, .int tV, .ref an, .ref vs])), (al, .inl (G.2.1, 159, .inl a)), (ke, .inl (G.2.1, 318, .inl kf)), (ik, .inl (G.2.2.1, 2, .inl jf))] (fun (r : Int32) w1 => ∃ u_ : Unit, (r = 1) ∧ w1 = [(mo, .inr (9, [.ref al, .ref ke, .ref ik, .ref rq, .long mab, .long mbe, .ref so, .ref ha, .ref te, .ref bt, .int bL, .int tA, .int tL, .int tK, .int tV, .ref an, .ref vs])), (al, .inl (G.2.1, 159, .inl a)), (ke, .inl (G.2.1, 318, .inl (fb_put kf a (159 * i) 159))), (ik, .inl (G.2.2.1, 2, .inl (upd jf i 1)))]) := by
  refine MI.mk (by decide) (Nat.le_of_ble_eq_true rfl) ?_
  intro p_ e_ s_ m_ ar_ be_ me_ cd_ A_ ls C hrt hW hl
  have hx := C.1; have hb := C.2.1; have hown := C.2.2.2.1; have ht := C.2.2.2.2.1
  replace hl : lv_has ls 3 [(0, .ref mo), (1, .int (nI i))] := hl
  generalize hQ : MQ be_ _ ar_ s_ 0 0 A_ = Q
  refine lv_iload_n hx hb dX11_image_0 rfl (lv_at hl 1 rfl) ?_
  refine lv_i2l hx hb dX11_image_1 rfl ?_
  refine lv_lconst (v := 0) hx hb dX11_image_2 (by decide) ?_
  refine lv_lconst (v := 1) hx hb dX11_image_3 (by decide) ?_
  refine g_fi C hW [] rfl (g_runS (As := [.long ((nI i).toInt64), .long 0, .long 1]) (rest := []) (wc := []) C hW hl (c_X11_in l G (nI i) 0 1 0 1 (by first | rfl | decide) (by first | rfl | decide) _) k_ml_X11_53 q_X11_in (by decide) [] rfl rfl rfl rfl (Nat.le_of_ble_eq_true rfl) dX11_image_4 (by decide)) (fun r_2581 er_2581 => ?_)
  clear hW; intro H locs hW
  refine lv_as (y := bI (iw (nI i) 0 1)) er_2581 ?_
  clear er_2581 r_2581
  refine lv_if_ne (tgt := 17) hx hb dX11_image_7 (by decide) (fun c_2582 => ?_) (fun c_2582 => ?_)
  · refine lv_iconst (v := 0) hx hb dX11_image_17 (by decide) ?_
    refine lv_istore_n (lv' := [(2, .int 0), (0, .ref mo), (1, .int (nI i))]) hx hb dX11_image_18 rfl hl (by decide) rfl ?_
    clear hl ls; intro ls hl
    have K_2583 : ∀ (n_ : Nat) (j : Nat) (x_2584 : Int32) (g_2585 : Nat → Int32) (_ : x_2584 = nI j) (_ : g_2585 = (fb_put kf a (159 * i) j)) (_ : j ≤ 159) (_ : 159 - j < n_) (H : Heap) (locs : List Loc) (ls : Array Slot), Wd G A_ s_.heap [(mo, .inr (9, [.ref al, .ref ke, .ref ik, .ref rq, .long mab, .long mbe, .ref so, .ref ha, .ref te, .ref bt, .int bL, .int tA, .int tL, .int tK, .int tV, .ref an, .ref vs])), (al, .inl (G.2.1, 159, .inl a)), (ke, .inl (G.2.1, 318, .inl g_2585)), (ik, .inl (G.2.2.1, 2, .inl jf))] H locs → lv_has ls 3 [(2, .int x_2584), (0, .ref mo), (1, .int (nI i))] → W p_ l e_ ({ frames := 1, cells := 0, slots := 0, locals := 25 }) s_ m_ ar_ be_ me_ cd_ H locs 0 0 Q (F0 m_ 19 ls []) := by
      intro n_
      induction n_ with
      | zero => intro j x_2584 g_2585 ex_2584 eg_2585 hj hm_; exact absurd hm_ (Nat.not_lt_zero _)
      | succ n_ ihK_2583 =>
        intro j x_2584 g_2585 ex_2584 eg_2585 hj hm_ H locs ls hW hl
        subst ex_2584
        subst eg_2585
        refine lv_iload_n hx hb dX11_image_19 rfl (lv_at hl 0 rfl) ?_
        refine lv_sipush (v := 159) hx hb dX11_image_20 (by decide) ?_
        refine lv_icmp_ge (tgt := 50) hx hb dX11_image_23 (by decide) (fun c_2586 => ?_) (fun c_2586 => ?_)
        · replace c_2586 := Int32.not_lt.mpr c_2586
          have c_2586n : ¬ j < 159 := fun q => c_2586 ((nI_ltI (a := j) (b := 159) (by omega) (by omega)).mpr q)
          obtain rfl : j = 159 := by omega
          refine lv_aload_n hx hb dX11_image_50 rfl (lv_at hl 1 rfl) ?_
          refine g_get (k := 2) (v := .ref ik) C hW 0 rfl rfl jnX11 (by decide) k_fl_X11_16 rfl dX11_image_51 ?_
          refine lv_iload_n hx hb dX11_image_54 rfl (lv_at hl 2 rfl) ?_
          refine lv_iconst (v := 1) hx hb dX11_image_55 (by decide) ?_
          refine g_zast (w' := [(mo, .inr (9, [.ref al, .ref ke, .ref ik, .ref rq, .long mab, .long mbe, .ref so, .ref ha, .ref te, .ref bt, .int bL, .int tA, .int tL, .int tK, .int tV, .ref an, .ref vs])), (al, .inl (G.2.1, 159, .inl a)), (ke, .inl (G.2.1, 318, .inl (fb_put kf a (159 * i) 159))), (ik, .inl (G.2.2.1, 2, .inl (upd jf i 1)))]) C hW 3 rfl (ix_in (show (nI i) = nI i from (by first | rfl | (simp only [nI_lit, nI_add, pk_mul]; done) | (simp only [nI_lit, nI_add, pk_mul]; congr 1; omega))) (by omega) (by omega)) (by rw [show (nI i).toNatClampNeg = i from nI_clamp (by omega)]; rfl) dX11_image_56 ?_
          clear hW H locs; intro H locs hW
          refine lv_iconst (v := 1) hx hb dX11_image_57 (by decide) ?_
          subst hQ
          exact g_iret (v := 1) C hW hrt ⟨(), by rfl, by rfl⟩ dX11_image_58
        · replace c_2586 := Int32.not_le.mp c_2586
          have c_2586n : j < 159 := (nI_ltI (a := j) (b := 159) (by omega) (by omega)).mp c_2586
          refine lv_aload_n hx hb dX11_image_26 rfl (lv_at hl 1 rfl) ?_
          refine g_get (k := 1) (v := .ref ke) C hW 0 rfl rfl jnX11 (by decide) k_fl_X11_13 rfl dX11_image_27 ?_
          refine lv_sipush (v := 159) hx hb dX11_image_30 (by decide) ?_
          refine lv_iload_n hx hb dX11_image_33 rfl (lv_at hl 2 rfl) ?_
          refine lv_imul hx hb dX11_image_34 ?_
          refine lv_iload_n hx hb dX11_image_35 rfl (lv_at hl 0 rfl) ?_
          refine lv_iadd hx hb dX11_image_36 ?_
          refine lv_aload_n hx hb dX11_image_37 rfl (lv_at hl 1 rfl) ?_
          refine g_get (k := 0) (v := .ref al) C hW 0 rfl rfl jnX11 (by decide) k_fl_X11_7 rfl dX11_image_38 ?_
          refine lv_iload_n hx hb dX11_image_41 rfl (lv_at hl 0 rfl) ?_
          refine g_ald C hW 1 rfl (ix_in (show (nI j) = nI j from (by first | rfl | (simp only [nI_lit, nI_add, pk_mul]; done) | (simp only [nI_lit, nI_add, pk_mul]; congr 1; omega))) (by omega) (by omega)) dX11_image_42 ?_
          refine lv_as (y := a j) (by rw [show (nI j).toNatClampNeg = j from nI_clamp (by omega)]) ?_
          refine g_ast (w' := [(mo, .inr (9, [.ref al, .ref ke, .ref ik, .ref rq, .long mab, .long mbe, .ref so, .ref ha, .ref te, .ref bt, .int bL, .int tA, .int tL, .int tK, .int tV, .ref an, .ref vs])), (al, .inl (G.2.1, 159, .inl a)), (ke, .inl (G.2.1, 318, .inl (upd (fb_put kf a (159 * i) j) (159 * i + j) (a j)))), (ik, .inl (G.2.2.1, 2, .inl jf))]) C hW 2 rfl (ix_in (show ((159 * (nI i)) + (nI j)) = nI (159 * i + j) from (by first | rfl | (simp only [nI_lit, nI_add, pk_mul]; done) | (simp only [nI_lit, nI_add, pk_mul]; congr 1; omega))) (by omega) (by omega)) (by rw [show ((159 * (nI i)) + (nI j)).toNatClampNeg = (159 * i + j) from ix_cl (show ((159 * (nI i)) + (nI j)) = nI (159 * i + j) from (by first | rfl | (simp only [nI_lit, nI_add, pk_mul]; done) | (simp only [nI_lit, nI_add, pk_mul]; congr 1; omega))) (Nat.lt_of_lt_of_le (m := 318) (by omega) (by omega))]; rfl) dX11_image_43 ?_
          clear hW H locs; intro H locs hW
          refine lv_iinc (v := (nI j) + 1) (lv' := [(2, .int ((nI j) + 1)), (0, .ref mo), (1, .int (nI i))]) hx hb dX11_image_44 hl (k := 0) rfl rfl (by decide) rfl ?_
          clear hl ls; intro ls hl
          refine lv_goto (tgt := 19) hx hb dX11_image_47 (by decide) ?_
          exact ihK_2583 (j + 1) ((nI j) + 1) (upd (fb_put kf a (159 * i) j) (159 * i + j) (a j)) (by exact nI_1 _) (by exact fb_put_succ _ _ _ _) (by first | omega | assumption | (simp; done)) (by omega) _ _ _ hW (lv_sub hl [0, 1, 2] rfl)
    exact K_2583 _ 0 0 kf (by first | exact rfl | (simp; done)) (by exact (fb_put_0 _ _ _).symm) (by first | omega | assumption | (simp; done)) (Nat.lt_succ_self _) _ _ _ hW (lv_sub hl [0, 1, 2] rfl)
  · exfalso; exact dd (iw_nI (m := 1) (by omega) (by omega)) c_2582
set_option maxHeartbeats 4000000 in
set_option maxRecDepth 100000 in
theorem c_X11_from_ok (l : Launch) (G : gT) (mo al ke ik rq so ha te bt an vs : Nat) (mab mbe : Int64) (bL tA tL tK tV : Int32) (a : Nat → Int32) (kf jf : Nat → Int32) (i : Nat) (hi : i < 2) (hk1 : ¬ jf i = 0) : MI l G yX11_from cX11_from 3 .int ({ frames := 1, cells := 0, slots := 0, locals := 25 }) [.ref mo, .int (nI i)] [(mo, .inr (9, [.ref al, .ref ke, .ref ik, .ref rq, .long mab, .long mbe, .ref so, .ref ha, .ref te, .ref bt, .int bL, .int tA, .int tL, .int tK, .int tV, .ref an, .ref vs])), (al, .inl (G.2.1, 159, .inl a)), (ke, .inl (G.2.1, 318, .inl kf)), (ik, .inl (G.2.2.1, 2, .inl jf))] (fun (r : Int32) w1 => ∃ u_ : Unit, (r = 1) ∧ w1 = [(mo, .inr (9, [.ref al, .ref ke, .ref ik, .ref rq, .long mab, .long mbe, .ref so, .ref ha, .ref te, .ref bt, .int bL, .int tA, .int tL, .int tK, .int tV, .ref an, .ref vs])), (al, .inl (G.2.1, 159, .inl (fa_fill (fun k => kf (159 * i + k)) a 159))), (ke, .inl (G.2.1, 318, .inl kf)), (ik, .inl (G.2.2.1, 2, .inl jf))]) := by
  refine MI.mk (by decide) (Nat.le_of_ble_eq_true rfl) ?_
  intro p_ e_ s_ m_ ar_ be_ me_ cd_ A_ ls C hrt hW hl
  have hx := C.1; have hb := C.2.1; have hown := C.2.2.2.1; have ht := C.2.2.2.2.1
  replace hl : lv_has ls 3 [(0, .ref mo), (1, .int (nI i))] := hl
  generalize hQ : MQ be_ _ ar_ s_ 0 0 A_ = Q
  refine lv_iload_n hx hb dX11_from_0 rfl (lv_at hl 1 rfl) ?_
  refine lv_i2l hx hb dX11_from_1 rfl ?_
  refine lv_lconst (v := 0) hx hb dX11_from_2 (by decide) ?_
  refine lv_lconst (v := 1) hx hb dX11_from_3 (by decide) ?_
  refine g_fi C hW [] rfl (g_runS (As := [.long ((nI i).toInt64), .long 0, .long 1]) (rest := []) (wc := []) C hW hl (c_X11_in l G (nI i) 0 1 0 1 (by first | rfl | decide) (by first | rfl | decide) _) k_ml_X11_53 q_X11_in (by decide) [] rfl rfl rfl rfl (Nat.le_of_ble_eq_true rfl) dX11_from_4 (by decide)) (fun r_2587 er_2587 => ?_)
  clear hW; intro H locs hW
  refine lv_as (y := bI (iw (nI i) 0 1)) er_2587 ?_
  clear er_2587 r_2587
  refine lv_if_ne (tgt := 17) hx hb dX11_from_7 (by decide) (fun c_2588 => ?_) (fun c_2588 => ?_)
  · refine lv_aload_n hx hb dX11_from_17 rfl (lv_at hl 0 rfl) ?_
    refine g_get (k := 2) (v := .ref ik) C hW 0 rfl rfl jnX11 (by decide) k_fl_X11_16 rfl dX11_from_18 ?_
    refine lv_iload_n hx hb dX11_from_21 rfl (lv_at hl 1 rfl) ?_
    refine g_zald C hW 3 rfl (ix_in (show (nI i) = nI i from (by first | rfl | (simp only [nI_lit, nI_add, pk_mul]; done) | (simp only [nI_lit, nI_add, pk_mul]; congr 1; omega))) (by omega) (by omega)) dX11_from_22 ?_
    refine lv_as (y := jf i) (by rw [show (nI i).toNatClampNeg = i from nI_clamp (by omega)]) ?_
    refine lv_if_ne (tgt := 31) hx hb dX11_from_23 (by decide) (fun c_2589 => ?_) (fun c_2589 => ?_)
    · refine lv_iconst (v := 0) hx hb dX11_from_31 (by decide) ?_
      refine lv_istore_n (lv' := [(2, .int 0), (0, .ref mo), (1, .int (nI i))]) hx hb dX11_from_32 rfl hl (by decide) rfl ?_
      clear hl ls; intro ls hl
      have K_2590 : ∀ (n_ : Nat) (j : Nat) (x_2591 : Int32) (g_2592 : Nat → Int32) (_ : x_2591 = nI j) (_ : g_2592 = (fa_fill (fun k => kf (159 * i + k)) a j)) (_ : j ≤ 159) (_ : 159 - j < n_) (H : Heap) (locs : List Loc) (ls : Array Slot), Wd G A_ s_.heap [(mo, .inr (9, [.ref al, .ref ke, .ref ik, .ref rq, .long mab, .long mbe, .ref so, .ref ha, .ref te, .ref bt, .int bL, .int tA, .int tL, .int tK, .int tV, .ref an, .ref vs])), (al, .inl (G.2.1, 159, .inl g_2592)), (ke, .inl (G.2.1, 318, .inl kf)), (ik, .inl (G.2.2.1, 2, .inl jf))] H locs → lv_has ls 3 [(2, .int x_2591), (0, .ref mo), (1, .int (nI i))] → W p_ l e_ ({ frames := 1, cells := 0, slots := 0, locals := 25 }) s_ m_ ar_ be_ me_ cd_ H locs 0 0 Q (F0 m_ 33 ls []) := by
        intro n_
        induction n_ with
        | zero => intro j x_2591 g_2592 ex_2591 eg_2592 hj hm_; exact absurd hm_ (Nat.not_lt_zero _)
        | succ n_ ihK_2590 =>
          intro j x_2591 g_2592 ex_2591 eg_2592 hj hm_ H locs ls hW hl
          subst ex_2591
          subst eg_2592
          refine lv_iload_n hx hb dX11_from_33 rfl (lv_at hl 0 rfl) ?_
          refine lv_sipush (v := 159) hx hb dX11_from_34 (by decide) ?_
          refine lv_icmp_ge (tgt := 64) hx hb dX11_from_37 (by decide) (fun c_2593 => ?_) (fun c_2593 => ?_)
          · replace c_2593 := Int32.not_lt.mpr c_2593
            have c_2593n : ¬ j < 159 := fun q => c_2593 ((nI_ltI (a := j) (b := 159) (by omega) (by omega)).mpr q)
            refine lv_iconst (v := 1) hx hb dX11_from_64 (by decide) ?_
            subst hQ
            exact g_iret (v := 1) C hW hrt ⟨(), by rfl, by (rw [show j = 159 by omega])⟩ dX11_from_65
          · replace c_2593 := Int32.not_le.mp c_2593
            have c_2593n : j < 159 := (nI_ltI (a := j) (b := 159) (by omega) (by omega)).mp c_2593
            refine lv_aload_n hx hb dX11_from_40 rfl (lv_at hl 1 rfl) ?_
            refine g_get (k := 0) (v := .ref al) C hW 0 rfl rfl jnX11 (by decide) k_fl_X11_7 rfl dX11_from_41 ?_
            refine lv_iload_n hx hb dX11_from_44 rfl (lv_at hl 0 rfl) ?_
            refine lv_aload_n hx hb dX11_from_45 rfl (lv_at hl 1 rfl) ?_
            refine g_get (k := 1) (v := .ref ke) C hW 0 rfl rfl jnX11 (by decide) k_fl_X11_13 rfl dX11_from_46 ?_
            refine lv_sipush (v := 159) hx hb dX11_from_49 (by decide) ?_
            refine lv_iload_n hx hb dX11_from_52 rfl (lv_at hl 2 rfl) ?_
            refine lv_imul hx hb dX11_from_53 ?_
            refine lv_iload_n hx hb dX11_from_54 rfl (lv_at hl 0 rfl) ?_
            refine lv_iadd hx hb dX11_from_55 ?_
            refine g_ald C hW 2 rfl (ix_in (show ((159 * (nI i)) + (nI j)) = nI (159 * i + j) from (by first | rfl | (simp only [nI_lit, nI_add, pk_mul]; done) | (simp only [nI_lit, nI_add, pk_mul]; congr 1; omega))) (by omega) (by omega)) dX11_from_56 ?_
            refine lv_as (y := kf (159 * i + j)) (by rw [show ((159 * (nI i)) + (nI j)).toNatClampNeg = (159 * i + j) from ix_cl (show ((159 * (nI i)) + (nI j)) = nI (159 * i + j) from (by first | rfl | (simp only [nI_lit, nI_add, pk_mul]; done) | (simp only [nI_lit, nI_add, pk_mul]; congr 1; omega))) (Nat.lt_of_lt_of_le (m := 318) (by omega) (by omega))]) ?_
            refine g_ast (w' := [(mo, .inr (9, [.ref al, .ref ke, .ref ik, .ref rq, .long mab, .long mbe, .ref so, .ref ha, .ref te, .ref bt, .int bL, .int tA, .int tL, .int tK, .int tV, .ref an, .ref vs])), (al, .inl (G.2.1, 159, .inl (upd (fa_fill (fun k => kf (159 * i + k)) a j) j (kf (159 * i + j))))), (ke, .inl (G.2.1, 318, .inl kf)), (ik, .inl (G.2.2.1, 2, .inl jf))]) C hW 1 rfl (ix_in (show (nI j) = nI j from (by first | rfl | (simp only [nI_lit, nI_add, pk_mul]; done) | (simp only [nI_lit, nI_add, pk_mul]; congr 1; omega))) (by omega) (by omega)) (by rw [show (nI j).toNatClampNeg = j from nI_clamp (by omega)]; rfl) dX11_from_57 ?_
            clear hW H locs; intro H locs hW
            refine lv_iinc (v := (nI j) + 1) (lv' := [(2, .int ((nI j) + 1)), (0, .ref mo), (1, .int (nI i))]) hx hb dX11_from_58 hl (k := 0) rfl rfl (by decide) rfl ?_
            clear hl ls; intro ls hl
            refine lv_goto (tgt := 33) hx hb dX11_from_61 (by decide) ?_
            exact ihK_2590 (j + 1) ((nI j) + 1) (upd (fa_fill (fun k => kf (159 * i + k)) a j) j (kf (159 * i + j))) (by exact nI_1 _) (by exact fa_fill_succ (fun k => kf (159 * i + k)) a j) (by first | omega | assumption | (simp; done)) (by omega) _ _ _ hW (lv_sub hl [0, 1, 2] rfl)
      exact K_2590 _ 0 0 a (by first | exact rfl | (simp; done)) (by exact (fa_fill_0 _ _).symm) (by first | omega | assumption | (simp; done)) (Nat.lt_succ_self _) _ _ _ hW (lv_sub hl [0, 1, 2] rfl)
    · exfalso; exact hk1 c_2589
  · exfalso; exact dd (iw_nI (m := 1) (by omega) (by omega)) c_2588
set_option maxHeartbeats 4000000 in
set_option maxRecDepth 100000 in
theorem c_X11_from_no (l : Launch) (G : gT) (mo al ke ik rq so ha te bt an vs : Nat) (mab mbe : Int64) (bL tA tL tK tV : Int32) (rv : Nat → Int32) (jf : Nat → Int32) (i : Nat) (hi : i < 2) (hk1 : jf i = 0) : MI l G yX11_from cX11_from 3 .int ({ frames := 1, cells := 0, slots := 0, locals := 25 }) [.ref mo, .int (nI i)] [(mo, .inr (9, [.ref al, .ref ke, .ref ik, .ref rq, .long mab, .long mbe, .ref so, .ref ha, .ref te, .ref bt, .int bL, .int tA, .int tL, .int tK, .int tV, .ref an, .ref vs])), (rq, .inl (G.2.1, 3, .inl rv)), (ik, .inl (G.2.2.1, 2, .inl jf))] (fun (r : Int32) w1 => ∃ u_ : Unit, (r = (-3)) ∧ w1 = [(mo, .inr (9, [.ref al, .ref ke, .ref ik, .ref rq, .long mab, .long mbe, .ref so, .ref ha, .ref te, .ref bt, .int bL, .int tA, .int tL, .int tK, .int tV, .ref an, .ref vs])), (rq, .inl (G.2.1, 3, .inl (upd rv 1 (rv 1 + 1)))), (ik, .inl (G.2.2.1, 2, .inl jf))]) := by
  refine MI.mk (by decide) (Nat.le_of_ble_eq_true rfl) ?_
  intro p_ e_ s_ m_ ar_ be_ me_ cd_ A_ ls C hrt hW hl
  have hx := C.1; have hb := C.2.1; have hown := C.2.2.2.1; have ht := C.2.2.2.2.1
  replace hl : lv_has ls 3 [(0, .ref mo), (1, .int (nI i))] := hl
  generalize hQ : MQ be_ _ ar_ s_ 0 0 A_ = Q
  refine lv_iload_n hx hb dX11_from_0 rfl (lv_at hl 1 rfl) ?_
  refine lv_i2l hx hb dX11_from_1 rfl ?_
  refine lv_lconst (v := 0) hx hb dX11_from_2 (by decide) ?_
  refine lv_lconst (v := 1) hx hb dX11_from_3 (by decide) ?_
  refine g_fi C hW [] rfl (g_runS (As := [.long ((nI i).toInt64), .long 0, .long 1]) (rest := []) (wc := []) C hW hl (c_X11_in l G (nI i) 0 1 0 1 (by first | rfl | decide) (by first | rfl | decide) _) k_ml_X11_53 q_X11_in (by decide) [] rfl rfl rfl rfl (Nat.le_of_ble_eq_true rfl) dX11_from_4 (by decide)) (fun r_2594 er_2594 => ?_)
  clear hW; intro H locs hW
  refine lv_as (y := bI (iw (nI i) 0 1)) er_2594 ?_
  clear er_2594 r_2594
  refine lv_if_ne (tgt := 17) hx hb dX11_from_7 (by decide) (fun c_2595 => ?_) (fun c_2595 => ?_)
  · refine lv_aload_n hx hb dX11_from_17 rfl (lv_at hl 0 rfl) ?_
    refine g_get (k := 2) (v := .ref ik) C hW 0 rfl rfl jnX11 (by decide) k_fl_X11_16 rfl dX11_from_18 ?_
    refine lv_iload_n hx hb dX11_from_21 rfl (lv_at hl 1 rfl) ?_
    refine g_zald C hW 2 rfl (ix_in (show (nI i) = nI i from (by first | rfl | (simp only [nI_lit, nI_add, pk_mul]; done) | (simp only [nI_lit, nI_add, pk_mul]; congr 1; omega))) (by omega) (by omega)) dX11_from_22 ?_
    refine lv_as (y := jf i) (by rw [show (nI i).toNatClampNeg = i from nI_clamp (by omega)]) ?_
    refine lv_if_ne (tgt := 31) hx hb dX11_from_23 (by decide) (fun c_2596 => ?_) (fun c_2596 => ?_)
    · exfalso; exact c_2596 hk1
    · refine lv_aload_n hx hb dX11_from_26 rfl (lv_at hl 0 rfl) ?_
      refine g_fiw (wr := [(ik, .inl (G.2.2.1, 2, .inl jf))]) (ww := fun (u_ : Unit) => [(mo, .inr (9, [.ref al, .ref ke, .ref ik, .ref rq, .long mab, .long mbe, .ref so, .ref ha, .ref te, .ref bt, .int bL, .int tA, .int tL, .int tK, .int tV, .ref an, .ref vs])), (rq, .inl (G.2.1, 3, .inl (upd rv 1 (rv 1 + 1))))]) (w2 := fun (u_ : Unit) => [(mo, .inr (9, [.ref al, .ref ke, .ref ik, .ref rq, .long mab, .long mbe, .ref so, .ref ha, .ref te, .ref bt, .int bL, .int tA, .int tL, .int tK, .int tV, .ref an, .ref vs])), (rq, .inl (G.2.1, 3, .inl (upd rv 1 (rv 1 + 1)))), (ik, .inl (G.2.2.1, 2, .inl jf))]) C hW [0, 1] [2] [1, 2, 0] rfl rfl (by decide) (by decide) (by decide) (fun _ => rfl) (g_runV (As := []) (rest := []) (wc := [(mo, .inr (9, [.ref al, .ref ke, .ref ik, .ref rq, .long mab, .long mbe, .ref so, .ref ha, .ref te, .ref bt, .int bL, .int tA, .int tL, .int tK, .int tV, .ref an, .ref vs])), (rq, .inl (G.2.1, 3, .inl rv))]) (q0 := 0) (ci := 9) C hW hl (c_X11_no l G mo al ke ik rq so ha te bt an vs mab mbe bL tA tL tK tV rv  _) k_ml_X11_124 q_X11_no (by decide) [0, 1] rfl rfl rfl rfl rfl rfl (Nat.le_of_ble_eq_true rfl) dX11_from_27 (by decide)) (fun r_2597 _ er_2597 => ?_)
      clear hW H locs; intro H locs hW
      refine lv_as (y := (-3)) er_2597 ?_
      clear er_2597 r_2597
      replace hW : Wd G A_ s_.heap [(mo, .inr (9, [.ref al, .ref ke, .ref ik, .ref rq, .long mab, .long mbe, .ref so, .ref ha, .ref te, .ref bt, .int bL, .int tA, .int tL, .int tK, .int tV, .ref an, .ref vs])), (rq, .inl (G.2.1, 3, .inl (upd rv 1 (rv 1 + 1)))), (ik, .inl (G.2.2.1, 2, .inl jf))] H locs := hW
      subst hQ
      exact g_iret (v := (-3)) C hW hrt ⟨(), by rfl, by rfl⟩ dX11_from_30
  · exfalso; exact dd (iw_nI (m := 1) (by omega) (by omega)) c_2595
set_option maxHeartbeats 4000000 in
set_option maxRecDepth 100000 in
theorem c_X11_image_bad (l : Launch) (G : gT) (mo al ke ik rq so ha te bt an vs : Nat) (mab mbe : Int64) (bL tA tL tK tV : Int32) (rv : Nat → Int32) (x9 : Int32) (hbad : iw x9 0 1 = false) : MI l G yX11_image cX11_image 3 .int ({ frames := 1, cells := 0, slots := 0, locals := 25 }) [.ref mo, .int x9] [(mo, .inr (9, [.ref al, .ref ke, .ref ik, .ref rq, .long mab, .long mbe, .ref so, .ref ha, .ref te, .ref bt, .int bL, .int tA, .int tL, .int tK, .int tV, .ref an, .ref vs])), (rq, .inl (G.2.1, 3, .inl rv))] (fun (r : Int32) w1 => ∃ u_ : Unit, (r = (-2)) ∧ w1 = [(mo, .inr (9, [.ref al, .ref ke, .ref ik, .ref rq, .long mab, .long mbe, .ref so, .ref ha, .ref te, .ref bt, .int bL, .int tA, .int tL, .int tK, .int tV, .ref an, .ref vs])), (rq, .inl (G.2.1, 3, .inl (upd rv 0 (rv 0 + 1))))]) := by
  refine MI.mk (by decide) (Nat.le_of_ble_eq_true rfl) ?_
  intro p_ e_ s_ m_ ar_ be_ me_ cd_ A_ ls C hrt hW hl
  have hx := C.1; have hb := C.2.1; have hown := C.2.2.2.1; have ht := C.2.2.2.2.1
  replace hl : lv_has ls 3 [(0, .ref mo), (1, .int x9)] := hl
  generalize hQ : MQ be_ _ ar_ s_ 0 0 A_ = Q
  refine lv_iload_n hx hb dX11_image_0 rfl (lv_at hl 1 rfl) ?_
  refine lv_i2l hx hb dX11_image_1 rfl ?_
  refine lv_lconst (v := 0) hx hb dX11_image_2 (by decide) ?_
  refine lv_lconst (v := 1) hx hb dX11_image_3 (by decide) ?_
  refine g_fi C hW [] rfl (g_runS (As := [.long x9.toInt64, .long 0, .long 1]) (rest := []) (wc := []) C hW hl (c_X11_in l G x9 0 1 0 1 (by first | rfl | decide) (by first | rfl | decide) _) k_ml_X11_53 q_X11_in (by decide) [] rfl rfl rfl rfl (Nat.le_of_ble_eq_true rfl) dX11_image_4 (by decide)) (fun r_2599 er_2599 => ?_)
  clear hW; intro H locs hW
  refine lv_as (y := bI (iw x9 0 1)) er_2599 ?_
  clear er_2599 r_2599
  refine lv_if_ne (tgt := 17) hx hb dX11_image_7 (by decide) (fun c_2600 => ?_) (fun c_2600 => ?_)
  · exfalso; simp [bI_ne.mp c_2600, if_true, if_false, reduceIte, Bool.false_eq_true] at hbad
  · refine lv_aload_n hx hb dX11_image_10 rfl (lv_at hl 0 rfl) ?_
    refine lv_bipush (v := (-2)) hx hb dX11_image_11 (by decide) ?_
    refine g_fiw (wr := []) (ww := fun (u_ : Unit) => [(mo, .inr (9, [.ref al, .ref ke, .ref ik, .ref rq, .long mab, .long mbe, .ref so, .ref ha, .ref te, .ref bt, .int bL, .int tA, .int tL, .int tK, .int tV, .ref an, .ref vs])), (rq, .inl (G.2.1, 3, .inl (upd rv 0 (rv 0 + 1))))]) (w2 := fun (u_ : Unit) => [(mo, .inr (9, [.ref al, .ref ke, .ref ik, .ref rq, .long mab, .long mbe, .ref so, .ref ha, .ref te, .ref bt, .int bL, .int tA, .int tL, .int tK, .int tV, .ref an, .ref vs])), (rq, .inl (G.2.1, 3, .inl (upd rv 0 (rv 0 + 1))))]) C hW [0, 1] [] [0, 1] rfl rfl (by decide) (by decide) (by decide) (fun _ => rfl) (g_runV (As := [.int (-2)]) (rest := []) (wc := [(mo, .inr (9, [.ref al, .ref ke, .ref ik, .ref rq, .long mab, .long mbe, .ref so, .ref ha, .ref te, .ref bt, .int bL, .int tA, .int tL, .int tK, .int tV, .ref an, .ref vs])), (rq, .inl (G.2.1, 3, .inl rv))]) (q0 := 0) (ci := 9) C hW hl (c_X11_bad l G mo al ke ik rq so ha te bt an vs mab mbe bL tA tL tK tV rv (-2)  _) k_ml_X11_67 q_X11_bad (by decide) [0, 1] rfl rfl rfl rfl rfl rfl (Nat.le_of_ble_eq_true rfl) dX11_image_13 (by decide)) (fun r_2601 _ er_2601 => ?_)
    clear hW H locs; intro H locs hW
    refine lv_as (y := (-2)) er_2601 ?_
    clear er_2601 r_2601
    replace hW : Wd G A_ s_.heap [(mo, .inr (9, [.ref al, .ref ke, .ref ik, .ref rq, .long mab, .long mbe, .ref so, .ref ha, .ref te, .ref bt, .int bL, .int tA, .int tL, .int tK, .int tV, .ref an, .ref vs])), (rq, .inl (G.2.1, 3, .inl (upd rv 0 (rv 0 + 1))))] H locs := hW
    subst hQ
    exact g_iret (v := (-2)) C hW hrt ⟨(), by rfl, by rfl⟩ dX11_image_16
set_option maxHeartbeats 4000000 in
set_option maxRecDepth 100000 in
theorem c_X11_from_bad (l : Launch) (G : gT) (mo al ke ik rq so ha te bt an vs : Nat) (mab mbe : Int64) (bL tA tL tK tV : Int32) (rv : Nat → Int32) (x9 : Int32) (hbad : iw x9 0 1 = false) : MI l G yX11_from cX11_from 3 .int ({ frames := 1, cells := 0, slots := 0, locals := 25 }) [.ref mo, .int x9] [(mo, .inr (9, [.ref al, .ref ke, .ref ik, .ref rq, .long mab, .long mbe, .ref so, .ref ha, .ref te, .ref bt, .int bL, .int tA, .int tL, .int tK, .int tV, .ref an, .ref vs])), (rq, .inl (G.2.1, 3, .inl rv))] (fun (r : Int32) w1 => ∃ u_ : Unit, (r = (-2)) ∧ w1 = [(mo, .inr (9, [.ref al, .ref ke, .ref ik, .ref rq, .long mab, .long mbe, .ref so, .ref ha, .ref te, .ref bt, .int bL, .int tA, .int tL, .int tK, .int tV, .ref an, .ref vs])), (rq, .inl (G.2.1, 3, .inl (upd rv 0 (rv 0 + 1))))]) := by
  refine MI.mk (by decide) (Nat.le_of_ble_eq_true rfl) ?_
  intro p_ e_ s_ m_ ar_ be_ me_ cd_ A_ ls C hrt hW hl
  have hx := C.1; have hb := C.2.1; have hown := C.2.2.2.1; have ht := C.2.2.2.2.1
  replace hl : lv_has ls 3 [(0, .ref mo), (1, .int x9)] := hl
  generalize hQ : MQ be_ _ ar_ s_ 0 0 A_ = Q
  refine lv_iload_n hx hb dX11_from_0 rfl (lv_at hl 1 rfl) ?_
  refine lv_i2l hx hb dX11_from_1 rfl ?_
  refine lv_lconst (v := 0) hx hb dX11_from_2 (by decide) ?_
  refine lv_lconst (v := 1) hx hb dX11_from_3 (by decide) ?_
  refine g_fi C hW [] rfl (g_runS (As := [.long x9.toInt64, .long 0, .long 1]) (rest := []) (wc := []) C hW hl (c_X11_in l G x9 0 1 0 1 (by first | rfl | decide) (by first | rfl | decide) _) k_ml_X11_53 q_X11_in (by decide) [] rfl rfl rfl rfl (Nat.le_of_ble_eq_true rfl) dX11_from_4 (by decide)) (fun r_2603 er_2603 => ?_)
  clear hW; intro H locs hW
  refine lv_as (y := bI (iw x9 0 1)) er_2603 ?_
  clear er_2603 r_2603
  refine lv_if_ne (tgt := 17) hx hb dX11_from_7 (by decide) (fun c_2604 => ?_) (fun c_2604 => ?_)
  · exfalso; simp [bI_ne.mp c_2604, if_true, if_false, reduceIte, Bool.false_eq_true] at hbad
  · refine lv_aload_n hx hb dX11_from_10 rfl (lv_at hl 0 rfl) ?_
    refine lv_bipush (v := (-2)) hx hb dX11_from_11 (by decide) ?_
    refine g_fiw (wr := []) (ww := fun (u_ : Unit) => [(mo, .inr (9, [.ref al, .ref ke, .ref ik, .ref rq, .long mab, .long mbe, .ref so, .ref ha, .ref te, .ref bt, .int bL, .int tA, .int tL, .int tK, .int tV, .ref an, .ref vs])), (rq, .inl (G.2.1, 3, .inl (upd rv 0 (rv 0 + 1))))]) (w2 := fun (u_ : Unit) => [(mo, .inr (9, [.ref al, .ref ke, .ref ik, .ref rq, .long mab, .long mbe, .ref so, .ref ha, .ref te, .ref bt, .int bL, .int tA, .int tL, .int tK, .int tV, .ref an, .ref vs])), (rq, .inl (G.2.1, 3, .inl (upd rv 0 (rv 0 + 1))))]) C hW [0, 1] [] [0, 1] rfl rfl (by decide) (by decide) (by decide) (fun _ => rfl) (g_runV (As := [.int (-2)]) (rest := []) (wc := [(mo, .inr (9, [.ref al, .ref ke, .ref ik, .ref rq, .long mab, .long mbe, .ref so, .ref ha, .ref te, .ref bt, .int bL, .int tA, .int tL, .int tK, .int tV, .ref an, .ref vs])), (rq, .inl (G.2.1, 3, .inl rv))]) (q0 := 0) (ci := 9) C hW hl (c_X11_bad l G mo al ke ik rq so ha te bt an vs mab mbe bL tA tL tK tV rv (-2)  _) k_ml_X11_67 q_X11_bad (by decide) [0, 1] rfl rfl rfl rfl rfl rfl (Nat.le_of_ble_eq_true rfl) dX11_from_13 (by decide)) (fun r_2605 _ er_2605 => ?_)
    clear hW H locs; intro H locs hW
    refine lv_as (y := (-2)) er_2605 ?_
    clear er_2605 r_2605
    replace hW : Wd G A_ s_.heap [(mo, .inr (9, [.ref al, .ref ke, .ref ik, .ref rq, .long mab, .long mbe, .ref so, .ref ha, .ref te, .ref bt, .int bL, .int tA, .int tL, .int tK, .int tV, .ref an, .ref vs])), (rq, .inl (G.2.1, 3, .inl (upd rv 0 (rv 0 + 1))))] H locs := hW
    subst hQ
    exact g_iret (v := (-2)) C hW hrt ⟨(), by rfl, by rfl⟩ dX11_from_16
set_option maxHeartbeats 4000000 in
set_option maxRecDepth 100000 in
theorem c_X11_status_ok (l : Launch) (G : gT) (mo al ke ik rq so ha te bt an vs : Nat) (mab mbe : Int64) (bL tA tL tK tV : Int32) (rv : Nat → Int32) (j : Nat) (hj : j < 3) : MI l G yX11_status cX11_status 2 .int ({ frames := 1, cells := 0, slots := 0, locals := 25 }) [.ref mo, .int (nI j)] [(mo, .inr (9, [.ref al, .ref ke, .ref ik, .ref rq, .long mab, .long mbe, .ref so, .ref ha, .ref te, .ref bt, .int bL, .int tA, .int tL, .int tK, .int tV, .ref an, .ref vs])), (rq, .inl (G.2.1, 3, .inl rv))] (fun (r : Int32) w1 => (r = rv j) ∧ w1 = [(mo, .inr (9, [.ref al, .ref ke, .ref ik, .ref rq, .long mab, .long mbe, .ref so, .ref ha, .ref te, .ref bt, .int bL, .int tA, .int tL, .int tK, .int tV, .ref an, .ref vs])), (rq, .inl (G.2.1, 3, .inl rv))]) := by
  refine MI.mk (by decide) (Nat.le_of_ble_eq_true rfl) ?_
  intro p_ e_ s_ m_ ar_ be_ me_ cd_ A_ ls C hrt hW hl
  have hx := C.1; have hb := C.2.1; have hown := C.2.2.2.1; have ht := C.2.2.2.2.1
  replace hl : lv_has ls 2 [(0, .ref mo), (1, .int (nI j))] := hl
  generalize hQ : MQ be_ _ ar_ s_ 0 0 A_ = Q
  refine lv_iload_n hx hb dX11_status_0 rfl (lv_at hl 1 rfl) ?_
  refine lv_i2l hx hb dX11_status_1 rfl ?_
  refine lv_lconst (v := 0) hx hb dX11_status_2 (by decide) ?_
  refine lv_ldc2 (v := 2) hx hb hown (ht _ k_cg_X11_167) dX11_status_3 ?_
  refine g_fi C hW [] rfl (g_runS (As := [.long ((nI j).toInt64), .long 0, .long 2]) (rest := []) (wc := []) C hW hl (c_X11_in l G (nI j) 0 2 0 2 (by first | rfl | decide) (by first | rfl | decide) _) k_ml_X11_53 q_X11_in (by decide) [] rfl rfl rfl rfl (Nat.le_of_ble_eq_true rfl) dX11_status_6 (by decide)) (fun r_2607 er_2607 => ?_)
  clear hW; intro H locs hW
  refine lv_as (y := bI (iw (nI j) 0 2)) er_2607 ?_
  clear er_2607 r_2607
  refine lv_if_eq (tgt := 21) hx hb dX11_status_9 (by decide) (fun c_2608 => ?_) (fun c_2608 => ?_)
  · exfalso; exact dd (iw_nI (m := 2) (by omega) (by omega)) c_2608
  · refine lv_aload_n hx hb dX11_status_12 rfl (lv_at hl 0 rfl) ?_
    refine g_get (k := 3) (v := .ref rq) C hW 0 rfl rfl jnX11 (by decide) k_fl_X11_20 rfl dX11_status_13 ?_
    refine lv_iload_n hx hb dX11_status_16 rfl (lv_at hl 1 rfl) ?_
    refine g_ald C hW 1 rfl (ix_in (show (nI j) = nI j from (by first | rfl | (simp only [nI_lit, nI_add, pk_mul]; done) | (simp only [nI_lit, nI_add, pk_mul]; congr 1; omega))) (by omega) (by omega)) dX11_status_17 ?_
    refine lv_as (y := rv j) (by rw [show (nI j).toNatClampNeg = j from ix_cl (show (nI j) = nI j from (by first | rfl | (simp only [nI_lit, nI_add, pk_mul]; done) | (simp only [nI_lit, nI_add, pk_mul]; congr 1; omega))) (Nat.lt_of_lt_of_le (m := 3) (by omega) (by omega))]) ?_
    refine lv_goto (tgt := 26) hx hb dX11_status_18 (by decide) ?_
    subst hQ
    exact g_iret (v := (rv j)) C hW hrt ⟨by rfl, rfl⟩ dX11_status_26
set_option maxHeartbeats 4000000 in
set_option maxRecDepth 100000 in
theorem c_X11_status_bad (l : Launch) (G : gT) (mo al ke ik rq so ha te bt an vs : Nat) (mab mbe : Int64) (bL tA tL tK tV : Int32) (rv : Nat → Int32) (x9 : Int32) (hbad : iw x9 0 2 = false) : MI l G yX11_status cX11_status 2 .int ({ frames := 1, cells := 0, slots := 0, locals := 25 }) [.ref mo, .int x9] [(mo, .inr (9, [.ref al, .ref ke, .ref ik, .ref rq, .long mab, .long mbe, .ref so, .ref ha, .ref te, .ref bt, .int bL, .int tA, .int tL, .int tK, .int tV, .ref an, .ref vs])), (rq, .inl (G.2.1, 3, .inl rv))] (fun (r : Int32) w1 => ∃ u_ : Unit, (r = (-1)) ∧ w1 = [(mo, .inr (9, [.ref al, .ref ke, .ref ik, .ref rq, .long mab, .long mbe, .ref so, .ref ha, .ref te, .ref bt, .int bL, .int tA, .int tL, .int tK, .int tV, .ref an, .ref vs])), (rq, .inl (G.2.1, 3, .inl (upd rv 0 (rv 0 + 1))))]) := by
  refine MI.mk (by decide) (Nat.le_of_ble_eq_true rfl) ?_
  intro p_ e_ s_ m_ ar_ be_ me_ cd_ A_ ls C hrt hW hl
  have hx := C.1; have hb := C.2.1; have hown := C.2.2.2.1; have ht := C.2.2.2.2.1
  replace hl : lv_has ls 2 [(0, .ref mo), (1, .int x9)] := hl
  generalize hQ : MQ be_ _ ar_ s_ 0 0 A_ = Q
  refine lv_iload_n hx hb dX11_status_0 rfl (lv_at hl 1 rfl) ?_
  refine lv_i2l hx hb dX11_status_1 rfl ?_
  refine lv_lconst (v := 0) hx hb dX11_status_2 (by decide) ?_
  refine lv_ldc2 (v := 2) hx hb hown (ht _ k_cg_X11_167) dX11_status_3 ?_
  refine g_fi C hW [] rfl (g_runS (As := [.long x9.toInt64, .long 0, .long 2]) (rest := []) (wc := []) C hW hl (c_X11_in l G x9 0 2 0 2 (by first | rfl | decide) (by first | rfl | decide) _) k_ml_X11_53 q_X11_in (by decide) [] rfl rfl rfl rfl (Nat.le_of_ble_eq_true rfl) dX11_status_6 (by decide)) (fun r_2609 er_2609 => ?_)
  clear hW; intro H locs hW
  refine lv_as (y := bI (iw x9 0 2)) er_2609 ?_
  clear er_2609 r_2609
  refine lv_if_eq (tgt := 21) hx hb dX11_status_9 (by decide) (fun c_2610 => ?_) (fun c_2610 => ?_)
  · refine lv_aload_n hx hb dX11_status_21 rfl (lv_at hl 0 rfl) ?_
    refine lv_iconst (v := (-1)) hx hb dX11_status_22 (by decide) ?_
    refine g_fiw (wr := []) (ww := fun (u_ : Unit) => [(mo, .inr (9, [.ref al, .ref ke, .ref ik, .ref rq, .long mab, .long mbe, .ref so, .ref ha, .ref te, .ref bt, .int bL, .int tA, .int tL, .int tK, .int tV, .ref an, .ref vs])), (rq, .inl (G.2.1, 3, .inl (upd rv 0 (rv 0 + 1))))]) (w2 := fun (u_ : Unit) => [(mo, .inr (9, [.ref al, .ref ke, .ref ik, .ref rq, .long mab, .long mbe, .ref so, .ref ha, .ref te, .ref bt, .int bL, .int tA, .int tL, .int tK, .int tV, .ref an, .ref vs])), (rq, .inl (G.2.1, 3, .inl (upd rv 0 (rv 0 + 1))))]) C hW [0, 1] [] [0, 1] rfl rfl (by decide) (by decide) (by decide) (fun _ => rfl) (g_runV (As := [.int (-1)]) (rest := []) (wc := [(mo, .inr (9, [.ref al, .ref ke, .ref ik, .ref rq, .long mab, .long mbe, .ref so, .ref ha, .ref te, .ref bt, .int bL, .int tA, .int tL, .int tK, .int tV, .ref an, .ref vs])), (rq, .inl (G.2.1, 3, .inl rv))]) (q0 := 0) (ci := 9) C hW hl (c_X11_bad l G mo al ke ik rq so ha te bt an vs mab mbe bL tA tL tK tV rv (-1)  _) k_ml_X11_67 q_X11_bad (by decide) [0, 1] rfl rfl rfl rfl rfl rfl (Nat.le_of_ble_eq_true rfl) dX11_status_23 (by decide)) (fun r_2611 _ er_2611 => ?_)
    clear hW H locs; intro H locs hW
    refine lv_as (y := (-1)) er_2611 ?_
    clear er_2611 r_2611
    replace hW : Wd G A_ s_.heap [(mo, .inr (9, [.ref al, .ref ke, .ref ik, .ref rq, .long mab, .long mbe, .ref so, .ref ha, .ref te, .ref bt, .int bL, .int tA, .int tL, .int tK, .int tV, .ref an, .ref vs])), (rq, .inl (G.2.1, 3, .inl (upd rv 0 (rv 0 + 1))))] H locs := hW
    subst hQ
    exact g_iret (v := (-1)) C hW hrt ⟨(), by rfl, by rfl⟩ dX11_status_26
  · exfalso; simp [bI_ne.mp c_2610, if_true, if_false, reduceIte, Bool.false_eq_true] at hbad
