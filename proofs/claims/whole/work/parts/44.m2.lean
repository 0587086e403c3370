set_option maxHeartbeats 4000000 in
set_option maxRecDepth 100000 in
theorem c_X11_valley_ok (l : Launch) (G : gT) (mo al ke ik rq so ha te bt an vs : Nat) (mab mbe : Int64) (bL tA tL tK tV : Int32) (a : Nat → Int32) (n : Nat) (w9 : Int32) (h1 : iw w9 1 40 = true) (e0 : a 0 = nI n) : MI l G yX11_valley cX11_valley 3 .int ({ frames := 1, cells := 0, slots := 0, locals := 25 }) [.ref mo, .int w9] [(mo, .inr (9, [.ref al, .ref ke, .ref ik, .ref rq, .long mab, .long mbe, .ref so, .ref ha, .ref te, .ref bt, .int bL, .int tA, .int tL, .int tK, .int tV, .ref an, .ref vs])), (al, .inl (G.2.1, 159, .inl a))] (fun (r : Int32) w1 => ∃ u_ : Unit, (r = nI n) ∧ w1 = [(mo, .inr (9, [.ref al, .ref ke, .ref ik, .ref rq, .long mab, .long mbe, .ref so, .ref ha, .ref te, .ref bt, .int bL, .int tA, .int tL, .int tK, .int tV, .ref an, .ref vs])), (al, .inl (G.2.1, 159, .inl (bgA a w9)))]) := by
  refine MI.mk (by decide) (Nat.le_of_ble_eq_true rfl) ?_
  intro p_ e_ s_ m_ ar_ be_ me_ cd_ A_ ls C hrt hW hl
  have hx := C.1; have hb := C.2.1; have hown := C.2.2.2.1; have ht := C.2.2.2.2.1
  replace hl : lv_has ls 3 [(0, .ref mo), (1, .int w9)] := hl
  generalize hQ : MQ be_ _ ar_ s_ 0 0 A_ = Q
  refine lv_iload_n hx hb dX11_valley_0 rfl (lv_at hl 1 rfl) ?_
  refine lv_i2l hx hb dX11_valley_1 rfl ?_
  refine lv_lconst (v := 1) hx hb dX11_valley_2 (by decide) ?_
  refine lv_ldc2 (v := 40) hx hb hown (ht _ k_cg_X11_65) dX11_valley_3 ?_
  refine g_fi C hW [] rfl (g_runS (As := [.long w9.toInt64, .long 1, .long 40]) (rest := []) (wc := []) C hW hl (c_X11_in l G w9 1 40 1 40 (by first | rfl | decide) (by first | rfl | decide) _) k_ml_X11_53 q_X11_in (by decide) [] rfl rfl rfl rfl (Nat.le_of_ble_eq_true rfl) dX11_valley_6 (by decide)) (fun r_1380 er_1380 => ?_)
  clear hW; intro H locs hW
  refine lv_as (y := bI (iw w9 1 40)) er_1380 ?_
  clear er_1380 r_1380
  refine lv_if_ne (tgt := 19) hx hb dX11_valley_9 (by decide) (fun c_1381 => ?_) (fun c_1381 => ?_)
  · refine lv_aload_n hx hb dX11_valley_19 rfl (lv_at hl 0 rfl) ?_
    refine g_fi C hW [0, 1] rfl (g_runV (As := []) (rest := []) (wc := [(mo, .inr (9, [.ref al, .ref ke, .ref ik, .ref rq, .long mab, .long mbe, .ref so, .ref ha, .ref te, .ref bt, .int bL, .int tA, .int tL, .int tK, .int tV, .ref an, .ref vs])), (al, .inl (G.2.1, 159, .inl a))]) (q0 := 0) (ci := 9) C hW hl (c_X11_many l G mo al ke ik rq so ha te bt an vs mab mbe bL tA tL tK tV a n (by first | assumption | omega) _) k_ml_X11_49 q_X11_many (by decide) [0, 1] rfl rfl rfl rfl rfl rfl (Nat.le_of_ble_eq_true rfl) dX11_valley_20 (by decide)) (fun r_1382 er_1382 => ?_)
    clear hW H locs; intro H locs hW
    refine lv_as (y := nI n) er_1382 ?_
    clear er_1382 r_1382
    refine lv_istore_n (lv' := [(2, .int (nI n)), (0, .ref mo), (1, .int w9)]) hx hb dX11_valley_23 rfl hl (by decide) rfl ?_
    clear hl ls; intro ls hl
    refine lv_aload_n hx hb dX11_valley_24 rfl (lv_at hl 1 rfl) ?_
    refine g_get (k := 0) (v := .ref al) C hW 0 rfl rfl jnX11 (by decide) k_fl_X11_7 rfl dX11_valley_25 ?_
    refine lv_iload_n hx hb dX11_valley_28 rfl (lv_at hl 2 rfl) ?_
    refine g_fvw (wr := [(mo, .inr (9, [.ref al, .ref ke, .ref ik, .ref rq, .long mab, .long mbe, .ref so, .ref ha, .ref te, .ref bt, .int bL, .int tA, .int tL, .int tK, .int tV, .ref an, .ref vs]))]) (ww := fun (u_ : Unit) => [(al, .inl (G.2.1, 159, .inl (bgA a w9)))]) (w2 := fun (u_ : Unit) => [(mo, .inr (9, [.ref al, .ref ke, .ref ik, .ref rq, .long mab, .long mbe, .ref so, .ref ha, .ref te, .ref bt, .int bL, .int tA, .int tL, .int tK, .int tV, .ref an, .ref vs])), (al, .inl (G.2.1, 159, .inl (bgA a w9)))]) C hW [1] [0] [0, 1] rfl rfl (by decide) (by decide) (by decide) (fun _ => rfl) (g_runS (As := [.ref al, .int w9]) (rest := []) (wc := [(al, .inl (G.2.1, 159, .inl a))]) C hW hl (c_X11_begin l G al 159 a w9 (by first | assumption | omega) _) k_ml_X11_45 q_X11_begin (by decide) [1] rfl rfl rfl rfl (Nat.le_of_ble_eq_true rfl) dX11_valley_29 (by decide)) (fun _ er_1383 => ?_)
    clear hW H locs; intro H locs hW
    replace hW : Wd G A_ s_.heap [(mo, .inr (9, [.ref al, .ref ke, .ref ik, .ref rq, .long mab, .long mbe, .ref so, .ref ha, .ref te, .ref bt, .int bL, .int tA, .int tL, .int tK, .int tV, .ref an, .ref vs])), (al, .inl (G.2.1, 159, .inl (bgA a w9)))] H locs := hW
    refine lv_iload_n hx hb dX11_valley_32 rfl (lv_at hl 0 rfl) ?_
    subst hQ
    exact g_iret (v := (nI n)) C hW hrt ⟨(), by rfl, by rfl⟩ dX11_valley_33
  · exfalso; exact dd (by first | assumption | exact okp_nI (by omega) (by assumption) | exact decide_eq_true (by first | assumption | omega)) c_1381
set_option maxHeartbeats 4000000 in
set_option maxRecDepth 100000 in
theorem c_X11_valley_bad (l : Launch) (G : gT) (mo al ke ik rq so ha te bt an vs : Nat) (mab mbe : Int64) (bL tA tL tK tV : Int32) (rv : Nat → Int32) (w9 : Int32) (hbad : iw w9 1 40 = false) : MI l G yX11_valley cX11_valley 3 .int ({ frames := 1, cells := 0, slots := 0, locals := 25 }) [.ref mo, .int w9] [(mo, .inr (9, [.ref al, .ref ke, .ref ik, .ref rq, .long mab, .long mbe, .ref so, .ref ha, .ref te, .ref bt, .int bL, .int tA, .int tL, .int tK, .int tV, .ref an, .ref vs])), (rq, .inl (G.2.1, 3, .inl rv))] (fun (r : Int32) w1 => ∃ u_ : Unit, (r = (-2)) ∧ w1 = [(mo, .inr (9, [.ref al, .ref ke, .ref ik, .ref rq, .long mab, .long mbe, .ref so, .ref ha, .ref te, .ref bt, .int bL, .int tA, .int tL, .int tK, .int tV, .ref an, .ref vs])), (rq, .inl (G.2.1, 3, .inl (upd rv 0 (rv 0 + 1))))]) := by
  refine MI.mk (by decide) (Nat.le_of_ble_eq_true rfl) ?_
  intro p_ e_ s_ m_ ar_ be_ me_ cd_ A_ ls C hrt hW hl
  have hx := C.1; have hb := C.2.1; have hown := C.2.2.2.1; have ht := C.2.2.2.2.1
  replace hl : lv_has ls 3 [(0, .ref mo), (1, .int w9)] := hl
  generalize hQ : MQ be_ _ ar_ s_ 0 0 A_ = Q
  refine lv_iload_n hx hb dX11_valley_0 rfl (lv_at hl 1 rfl) ?_
  refine lv_i2l hx hb dX11_valley_1 rfl ?_
  refine lv_lconst (v := 1) hx hb dX11_valley_2 (by decide) ?_
  refine lv_ldc2 (v := 40) hx hb hown (ht _ k_cg_X11_65) dX11_valley_3 ?_
  refine g_fi C hW [] rfl (g_runS (As := [.long w9.toInt64, .long 1, .long 40]) (rest := []) (wc := []) C hW hl (c_X11_in l G w9 1 40 1 40 (by first | rfl | decide) (by first | rfl | decide) _) k_ml_X11_53 q_X11_in (by decide) [] rfl rfl rfl rfl (Nat.le_of_ble_eq_true rfl) dX11_valley_6 (by decide)) (fun r_1385 er_1385 => ?_)
  clear hW; intro H locs hW
  refine lv_as (y := bI (iw w9 1 40)) er_1385 ?_
  clear er_1385 r_1385
  refine lv_if_ne (tgt := 19) hx hb dX11_valley_9 (by decide) (fun c_1386 => ?_) (fun c_1386 => ?_)
  · exfalso; simp [bI_ne.mp c_1386, if_true, if_false, reduceIte, Bool.false_eq_true] at hbad
  · refine lv_aload_n hx hb dX11_valley_12 rfl (lv_at hl 0 rfl) ?_
    refine lv_bipush (v := (-2)) hx hb dX11_valley_13 (by decide) ?_
    refine g_fiw (wr := []) (ww := fun (u_ : Unit) => [(mo, .inr (9, [.ref al, .ref ke, .ref ik, .ref rq, .long mab, .long mbe, .ref so, .ref ha, .ref te, .ref bt, .int bL, .int tA, .int tL, .int tK, .int tV, .ref an, .ref vs])), (rq, .inl (G.2.1, 3, .inl (upd rv 0 (rv 0 + 1))))]) (w2 := fun (u_ : Unit) => [(mo, .inr (9, [.ref al, .ref ke, .ref ik, .ref rq, .long mab, .long mbe, .ref so, .ref ha, .ref te, .ref bt, .int bL, .int tA, .int tL, .int tK, .int tV, .ref an, .ref vs])), (rq, .inl (G.2.1, 3, .inl (upd rv 0 (rv 0 + 1))))]) C hW [0, 1] [] [0, 1] rfl rfl (by decide) (by decide) (by decide) (fun _ => rfl) (g_runV (As := [.int (-2)]) (rest := []) (wc := [(mo, .inr (9, [.ref al, .ref ke, .ref ik, .ref rq, .long mab, .long mbe, .ref so, .ref ha, .ref te, .ref bt, .int bL, .int tA, .int tL, .int tK, .int tV, .ref an, .ref vs])), (rq, .inl (G.2.1, 3, .inl rv))]) (q0 := 0) (ci := 9) C hW hl (c_X11_bad l G mo al ke ik rq so ha te bt an vs mab mbe bL tA tL tK tV rv (-2)  _) k_ml_X11_67 q_X11_bad (by decide) [0, 1] rfl rfl rfl rfl rfl rfl (Nat.le_of_ble_eq_true rfl) dX11_valley_15 (by decide)) (fun r_1387 _ er_1387 => ?_)
    clear hW H locs; intro H locs hW
    refine lv_as (y := (-2)) er_1387 ?_
    clear er_1387 r_1387
    replace hW : Wd G A_ s_.heap [(mo, .inr (9, [.ref al, .ref ke, .ref ik, .ref rq, .long mab, .long mbe, .ref so, .ref ha, .ref te, .ref bt, .int bL, .int tA, .int tL, .int tK, .int tV, .ref an, .ref vs])), (rq, .inl (G.2.1, 3, .inl (upd rv 0 (rv 0 + 1))))] H locs := hW
    subst hQ
    exact g_iret (v := (-2)) C hW hrt ⟨(), by rfl, by rfl⟩ dX11_valley_18
set_option maxHeartbeats 4000000 in
set_option maxRecDepth 100000 in
theorem c_X11_wind_ok (l : Launch) (G : gT) (mo al ke ik rq so ha te bt an vs : Nat) (mab mbe : Int64) (bL tA tL tK tV : Int32) (a : Nat → Int32) (h : Nat) (w9 : Int32) (h1 : h < 6) (h2 : iw w9 (-4) 4 = true) : MI l G yX11_wind cX11_wind 4 .int ({ frames := 2, cells := 0, slots := 0, locals := 45 }) [.ref mo, .int (nI h), .int w9] [(mo, .inr (9, [.ref al, .ref ke, .ref ik, .ref rq, .long mab, .long mbe, .ref so, .ref ha, .ref te, .ref bt, .int bL, .int tA, .int tL, .int tK, .int tV, .ref an, .ref vs])), (al, .inl (G.2.1, 159, .inl a))] (fun (r : Int32) w1 => ∃ u_ : Unit, (r = a (13 + h)) ∧ w1 = [(mo, .inr (9, [.ref al, .ref ke, .ref ik, .ref rq, .long mab, .long mbe, .ref so, .ref ha, .ref te, .ref bt, .int bL, .int tA, .int tL, .int tK, .int tV, .ref an, .ref vs])), (al, .inl (G.2.1, 159, .inl (upd (upd a (13 + h) w9) 4 0)))]) := by
  refine MI.mk (by decide) (Nat.le_of_ble_eq_true rfl) ?_
  intro p_ e_ s_ m_ ar_ be_ me_ cd_ A_ ls C hrt hW hl
  have hx := C.1; have hb := C.2.1; have hown := C.2.2.2.1; have ht := C.2.2.2.2.1
  replace hl : lv_has ls 4 [(0, .ref mo), (1, .int (nI h)), (2, .int w9)] := hl
  generalize hQ : MQ be_ _ ar_ s_ 0 0 A_ = Q
  refine lv_iload_n hx hb dX11_wind_0 rfl (lv_at hl 1 rfl) ?_
  refine lv_i2l hx hb dX11_wind_1 rfl ?_
  refine lv_lconst (v := 0) hx hb dX11_wind_2 (by decide) ?_
  refine lv_ldc2 (v := 5) hx hb hown (ht _ k_cg_X11_57) dX11_wind_3 ?_
  refine g_fi C hW [] rfl (g_runS (As := [.long ((nI h).toInt64), .long 0, .long 5]) (rest := []) (wc := []) C hW hl (c_X11_in l G (nI h) 0 5 0 5 (by first | rfl | decide) (by first | rfl | decide) _) k_ml_X11_53 q_X11_in (by decide) [] rfl rfl rfl rfl (Nat.le_of_ble_eq_true rfl) dX11_wind_6 (by decide)) (fun r_1389 er_1389 => ?_)
  clear hW; intro H locs hW
  refine lv_as (y := bI (iw (nI h) 0 5)) er_1389 ?_
  clear er_1389 r_1389
  refine lv_if_eq (tgt := 19) hx hb dX11_wind_9 (by decide) (fun c_1390 => ?_) (fun c_1390 => ?_)
  · exfalso; exact dd (iw_nI (m := 5) (by omega) (by omega)) c_1390
  · refine lv_iload_n hx hb dX11_wind_12 rfl (lv_at hl 2 rfl) ?_
    refine g_fi C hW [] rfl (g_runS (As := [.int w9]) (rest := []) (wc := []) C hW hl (c_X11_isWind l G w9  _) k_ml_X11_71 q_X11_isWind (by decide) [] rfl rfl rfl rfl (Nat.le_of_ble_eq_true rfl) dX11_wind_13 (by decide)) (fun r_1391 er_1391 => ?_)
    clear hW H locs; intro H locs hW
    refine lv_as (y := bI (iw w9 (-4) 4)) er_1391 ?_
    clear er_1391 r_1391
    refine lv_if_ne (tgt := 26) hx hb dX11_wind_16 (by decide) (fun c_1392 => ?_) (fun c_1392 => ?_)
    · refine lv_aload_n hx hb dX11_wind_26 rfl (lv_at hl 0 rfl) ?_
      refine g_get (k := 0) (v := .ref al) C hW 0 rfl rfl jnX11 (by decide) k_fl_X11_7 rfl dX11_wind_27 ?_
      refine lv_bipush (v := 13) hx hb dX11_wind_30 (by decide) ?_
      refine lv_iload_n hx hb dX11_wind_32 rfl (lv_at hl 1 rfl) ?_
      refine lv_iadd hx hb dX11_wind_33 ?_
      refine g_ald C hW 1 rfl (ix_in (show (13 + (nI h)) = nI (13 + h) from (by first | rfl | (simp only [nI_lit, nI_add, pk_mul]; done) | (simp only [nI_lit, nI_add, pk_mul]; congr 1; omega))) (by omega) (by omega)) dX11_wind_34 ?_
      refine lv_as (y := a (13 + h)) (by rw [show (13 + (nI h)).toNatClampNeg = (13 + h) from ix_cl (show (13 + (nI h)) = nI (13 + h) from (by first | rfl | (simp only [nI_lit, nI_add, pk_mul]; done) | (simp only [nI_lit, nI_add, pk_mul]; congr 1; omega))) (Nat.lt_of_lt_of_le (m := 159) (by omega) (by omega))]) ?_
      refine lv_istore_n (lv' := [(3, .int (a (13 + h))), (0, .ref mo), (1, .int (nI h)), (2, .int w9)]) hx hb dX11_wind_35 rfl hl (by decide) rfl ?_
      clear hl ls; intro ls hl
      refine lv_aload_n hx hb dX11_wind_36 rfl (lv_at hl 1 rfl) ?_
      refine g_get (k := 0) (v := .ref al) C hW 0 rfl rfl jnX11 (by decide) k_fl_X11_7 rfl dX11_wind_37 ?_
      refine lv_bipush (v := 13) hx hb dX11_wind_40 (by decide) ?_
      refine lv_iload_n hx hb dX11_wind_42 rfl (lv_at hl 2 rfl) ?_
      refine lv_iadd hx hb dX11_wind_43 ?_
      refine lv_iload_n hx hb dX11_wind_44 rfl (lv_at hl 3 rfl) ?_
      refine g_ast (w' := [(mo, .inr (9, [.ref al, .ref ke, .ref ik, .ref rq, .long mab, .long mbe, .ref so, .ref ha, .ref te, .ref bt, .int bL, .int tA, .int tL, .int tK, .int tV, .ref an, .ref vs])), (al, .inl (G.2.1, 159, .inl (upd a (13 + h) w9)))]) C hW 1 rfl (ix_in (show (13 + (nI h)) = nI (13 + h) from (by first | rfl | (simp only [nI_lit, nI_add, pk_mul]; done) | (simp only [nI_lit, nI_add, pk_mul]; congr 1; omega))) (by omega) (by omega)) (by rw [show (13 + (nI h)).toNatClampNeg = (13 + h) from ix_cl (show (13 + (nI h)) = nI (13 + h) from (by first | rfl | (simp only [nI_lit, nI_add, pk_mul]; done) | (simp only [nI_lit, nI_add, pk_mul]; congr 1; omega))) (Nat.lt_of_lt_of_le (m := 159) (by omega) (by omega))]; rfl) dX11_wind_45 ?_
      clear hW H locs; intro H locs hW
      refine lv_aload_n hx hb dX11_wind_46 rfl (lv_at hl 1 rfl) ?_
      refine g_get (k := 0) (v := .ref al) C hW 0 rfl rfl jnX11 (by decide) k_fl_X11_7 rfl dX11_wind_47 ?_
      refine lv_iconst (v := 4) hx hb dX11_wind_50 (by decide) ?_
      refine lv_iconst (v := 0) hx hb dX11_wind_51 (by decide) ?_
      refine g_ast (w' := [(mo, .inr (9, [.ref al, .ref ke, .ref ik, .ref rq, .long mab, .long mbe, .ref so, .ref ha, .ref te, .ref bt, .int bL, .int tA, .int tL, .int tK, .int tV, .ref an, .ref vs])), (al, .inl (G.2.1, 159, .inl (upd (upd a (13 + h) w9) 4 0)))]) C hW 1 rfl (vp_in_nI (n := 4) (by omega) (by omega)) (by rw [show (4 : Int32).toNatClampNeg = 4 from rfl]; rfl) dX11_wind_52 ?_
      clear hW H locs; intro H locs hW
      refine lv_iload_n hx hb dX11_wind_53 rfl (lv_at hl 0 rfl) ?_
      subst hQ
      exact g_iret (v := (a (13 + h))) C hW hrt ⟨(), by rfl, by rfl⟩ dX11_wind_54
    · exfalso; exact dd (by first | assumption | exact okp_nI (by omega) (by assumption) | exact decide_eq_true (by first | assumption | omega)) c_1392
set_option maxHeartbeats 4000000 in
set_option maxRecDepth 100000 in
theorem c_X11_wind_bad (l : Launch) (G : gT) (mo al ke ik rq so ha te bt an vs : Nat) (mab mbe : Int64) (bL tA tL tK tV : Int32) (rv : Nat → Int32) (h9 w9 : Int32) (hbad : (iw h9 0 5 && iw w9 (-4) 4) = false) : MI l G yX11_wind cX11_wind 4 .int ({ frames := 2, cells := 0, slots := 0, locals := 45 }) [.ref mo, .int h9, .int w9] [(mo, .inr (9, [.ref al, .ref ke, .ref ik, .ref rq, .long mab, .long mbe, .ref so, .ref ha, .ref te, .ref bt, .int bL, .int tA, .int tL, .int tK, .int tV, .ref an, .ref vs])), (rq, .inl (G.2.1, 3, .inl rv))] (fun (r : Int32) w1 => ∃ u_ : Unit, (r = (-10)) ∧ w1 = [(mo, .inr (9, [.ref al, .ref ke, .ref ik, .ref rq, .long mab, .long mbe, .ref so, .ref ha, .ref te, .ref bt, .int bL, .int tA, .int tL, .int tK, .int tV, .ref an, .ref vs])), (rq, .inl (G.2.1, 3, .inl (upd rv 0 (rv 0 + 1))))]) := by
  refine MI.mk (by decide) (Nat.le_of_ble_eq_true rfl) ?_
  intro p_ e_ s_ m_ ar_ be_ me_ cd_ A_ ls C hrt hW hl
  have hx := C.1; have hb := C.2.1; have hown := C.2.2.2.1; have ht := C.2.2.2.2.1
  replace hl : lv_has ls 4 [(0, .ref mo), (1, .int h9), (2, .int w9)] := hl
  generalize hQ : MQ be_ _ ar_ s_ 0 0 A_ = Q
  refine lv_iload_n hx hb dX11_wind_0 rfl (lv_at hl 1 rfl) ?_
  refine lv_i2l hx hb dX11_wind_1 rfl ?_
  refine lv_lconst (v := 0) hx hb dX11_wind_2 (by decide) ?_
  refine lv_ldc2 (v := 5) hx hb hown (ht _ k_cg_X11_57) dX11_wind_3 ?_
  refine g_fi C hW [] rfl (g_runS (As := [.long h9.toInt64, .long 0, .long 5]) (rest := []) (wc := []) C hW hl (c_X11_in l G h9 0 5 0 5 (by first | rfl | decide) (by first | rfl | decide) _) k_ml_X11_53 q_X11_in (by decide) [] rfl rfl rfl rfl (Nat.le_of_ble_eq_true rfl) dX11_wind_6 (by decide)) (fun r_1393 er_1393 => ?_)
  clear hW; intro H locs hW
  refine lv_as (y := bI (iw h9 0 5)) er_1393 ?_
  clear er_1393 r_1393
  have J_1397 : ∀ (H : Heap) (locs : List Loc) (ls : Array Slot), Wd G A_ s_.heap [(mo, .inr (9, [.ref al, .ref ke, .ref ik, .ref rq, .long mab, .long mbe, .ref so, .ref ha, .ref te, .ref bt, .int bL, .int tA, .int tL, .int tK, .int tV, .ref an, .ref vs])), (rq, .inl (G.2.1, 3, .inl rv))] H locs → lv_has ls 4 [(0, .ref mo), (1, .int h9), (2, .int w9)] → W p_ l e_ ({ frames := 2, cells := 0, slots := 0, locals := 45 }) s_ m_ ar_ be_ me_ cd_ H locs 0 0 Q (F0 m_ 19 ls []) := by
    intro  H locs ls hW hl
    refine lv_aload_n hx hb dX11_wind_19 rfl (lv_at hl 0 rfl) ?_
    refine lv_bipush (v := (-10)) hx hb dX11_wind_20 (by decide) ?_
    refine g_fiw (wr := []) (ww := fun (u_ : Unit) => [(mo, .inr (9, [.ref al, .ref ke, .ref ik, .ref rq, .long mab, .long mbe, .ref so, .ref ha, .ref te, .ref bt, .int bL, .int tA, .int tL, .int tK, .int tV, .ref an, .ref vs])), (rq, .inl (G.2.1, 3, .inl (upd rv 0 (rv 0 + 1))))]) (w2 := fun (u_ : Unit) => [(mo, .inr (9, [.ref al, .ref ke, .ref ik, .ref rq, .long mab, .long mbe, .ref so, .ref ha, .ref te, .ref bt, .int bL, .int tA, .int tL, .int tK, .int tV, .ref an, .ref vs])), (rq, .inl (G.2.1, 3, .inl (upd rv 0 (rv 0 + 1))))]) C hW [0, 1] [] [0, 1] rfl rfl (by decide) (by decide) (by decide) (fun _ => rfl) (g_runV (As := [.int (-10)]) (rest := []) (wc := [(mo, .inr (9, [.ref al, .ref ke, .ref ik, .ref rq, .long mab, .long mbe, .ref so, .ref ha, .ref te, .ref bt, .int bL, .int tA, .int tL, .int tK, .int tV, .ref an, .ref vs])), (rq, .inl (G.2.1, 3, .inl rv))]) (q0 := 0) (ci := 9) C hW hl (c_X11_bad l G mo al ke ik rq so ha te bt an vs mab mbe bL tA tL tK tV rv (-10)  _) k_ml_X11_67 q_X11_bad (by decide) [0, 1] rfl rfl rfl rfl rfl rfl (Nat.le_of_ble_eq_true rfl) dX11_wind_22 (by decide)) (fun r_1398 _ er_1398 => ?_)
    clear hW H locs; intro H locs hW
    refine lv_as (y := (-10)) er_1398 ?_
    clear er_1398 r_1398
    replace hW : Wd G A_ s_.heap [(mo, .inr (9, [.ref al, .ref ke, .ref ik, .ref rq, .long mab, .long mbe, .ref so, .ref ha, .ref te, .ref bt, .int bL, .int tA, .int tL, .int tK, .int tV, .ref an, .ref vs])), (rq, .inl (G.2.1, 3, .inl (upd rv 0 (rv 0 + 1))))] H locs := hW
    subst hQ
    exact g_iret (v := (-10)) C hW hrt ⟨(), by rfl, by rfl⟩ dX11_wind_25
  refine lv_if_eq (tgt := 19) hx hb dX11_wind_9 (by decide) (fun c_1394 => ?_) (fun c_1394 => ?_)
  · exact J_1397  _ _ _ hW (lv_sub hl [0, 1, 2] rfl)
  · refine lv_iload_n hx hb dX11_wind_12 rfl (lv_at hl 2 rfl) ?_
    refine g_fi C hW [] rfl (g_runS (As := [.int w9]) (rest := []) (wc := []) C hW hl (c_X11_isWind l G w9  _) k_ml_X11_71 q_X11_isWind (by decide) [] rfl rfl rfl rfl (Nat.le_of_ble_eq_true rfl) dX11_wind_13 (by decide)) (fun r_1400 er_1400 => ?_)
    clear hW H locs; intro H locs hW
    refine lv_as (y := bI (iw w9 (-4) 4)) er_1400 ?_
    clear er_1400 r_1400
    refine lv_if_ne (tgt := 26) hx hb dX11_wind_16 (by decide) (fun c_1401 => ?_) (fun c_1401 => ?_)
    · exfalso; simp [bI_ne.mp c_1394, bI_ne.mp c_1401, if_true, if_false, reduceIte, Bool.false_eq_true] at hbad
    · exact J_1397  _ _ _ hW (lv_sub hl [0, 1, 2] rfl)
set_option maxHeartbeats 4000000 in
set_option maxRecDepth 100000 in
theorem c_X11_layPlayer (l : Launch) (G : gT) (of zL : Nat) (a : Nat → Int32) (n : Nat) (kd hl_ am : Int32) (hL : 40 ≤ zL ∧ zL ≤ 159) (e0 : a 0 = nI n) (hn : n < 7) : MV l G yX11_layPlayer cX11_layPlayer 5 ({ frames := 0, cells := 0, slots := 0, locals := 0 }) [.ref of, .int kd, .int hl_, .int am] [(of, .inl (G.2.1, zL, .inl a))] (fun w1 => ∃ u_ : Unit, (True) ∧ w1 = [(of, .inl (G.2.1, zL, .inl (upd (upd (upd (upd a (19 + n) kd) (26 + n) hl_) (33 + n) am) 0 (nI (n + 1)))))]) := by
  refine MV.mk (by decide) (Nat.le_of_ble_eq_true rfl) ?_
  intro p_ e_ s_ m_ ar_ be_ me_ cd_ A_ ls C hrt hW hl
  have hx := C.1; have hb := C.2.1; have hown := C.2.2.2.1; have ht := C.2.2.2.2.1
  replace hl : lv_has ls 5 [(0, .ref of), (1, .int kd), (2, .int hl_), (3, .int am)] := hl
  generalize hQ : MQ be_ _ ar_ s_ 0 0 A_ = Q
  refine lv_aload_n hx hb dX11_layPlayer_0 rfl (lv_at hl 0 rfl) ?_
  refine lv_iconst (v := 0) hx hb dX11_layPlayer_1 (by decide) ?_
  refine g_ald C hW 0 rfl (vp_in_nI (n := 0) (by omega) (by omega)) dX11_layPlayer_2 ?_
  refine lv_as (y := a 0) (rfl) ?_
  refine lv_as (y := nI n) (e0) ?_
  refine lv_istore (lv' := [(4, .int (nI n)), (0, .ref of), (1, .int kd), (2, .int hl_), (3, .int am)]) hx hb dX11_layPlayer_3 hl (by decide) rfl ?_
  clear hl ls; intro ls hl
  refine lv_aload_n hx hb dX11_layPlayer_5 rfl (lv_at hl 1 rfl) ?_
  refine lv_bipush (v := 19) hx hb dX11_layPlayer_6 (by decide) ?_
  refine lv_iload hx hb dX11_layPlayer_8 (lv_at hl 0 rfl) ?_
  refine lv_iadd hx hb dX11_layPlayer_10 ?_
  refine lv_iload_n hx hb dX11_layPlayer_11 rfl (lv_at hl 2 rfl) ?_
  refine g_ast (w' := [(of, .inl (G.2.1, zL, .inl (upd a (19 + n) kd)))]) C hW 0 rfl (ix_in (show (19 + (nI n)) = nI (19 + n) from (by first | rfl | (simp only [nI_lit, nI_add, pk_mul]; done) | (simp only [nI_lit, nI_add, pk_mul]; congr 1; omega))) (by omega) (by omega)) (by rw [show (19 + (nI n)).toNatClampNeg = (19 + n) from ix_cl (show (19 + (nI n)) = nI (19 + n) from (by first | rfl | (simp only [nI_lit, nI_add, pk_mul]; done) | (simp only [nI_lit, nI_add, pk_mul]; congr 1; omega))) (Nat.lt_of_lt_of_le (m := zL) (by omega) (by omega))]; rfl) dX11_layPlayer_12 ?_
  clear hW; intro H locs hW
  refine lv_aload_n hx hb dX11_layPlayer_13 rfl (lv_at hl 1 rfl) ?_
  refine lv_bipush (v := 26) hx hb dX11_layPlayer_14 (by decide) ?_
  refine lv_iload hx hb dX11_layPlayer_16 (lv_at hl 0 rfl) ?_
  refine lv_iadd hx hb dX11_layPlayer_18 ?_
  refine lv_iload_n hx hb dX11_layPlayer_19 rfl (lv_at hl 3 rfl) ?_
  refine g_ast (w' := [(of, .inl (G.2.1, zL, .inl (upd (upd a (19 + n) kd) (26 + n) hl_)))]) C hW 0 rfl (ix_in (show (26 + (nI n)) = nI (26 + n) from (by first | rfl | (simp only [nI_lit, nI_add, pk_mul]; done) | (simp only [nI_lit, nI_add, pk_mul]; congr 1; omega))) (by omega) (by omega)) (by rw [show (26 + (nI n)).toNatClampNeg = (26 + n) from ix_cl (show (26 + (nI n)) = nI (26 + n) from (by first | rfl | (simp only [nI_lit, nI_add, pk_mul]; done) | (simp only [nI_lit, nI_add, pk_mul]; congr 1; omega))) (Nat.lt_of_lt_of_le (m := zL) (by omega) (by omega))]; rfl) dX11_layPlayer_20 ?_
  clear hW H locs; intro H locs hW
  refine lv_aload_n hx hb dX11_layPlayer_21 rfl (lv_at hl 1 rfl) ?_
  refine lv_bipush (v := 33) hx hb dX11_layPlayer_22 (by decide) ?_
  refine lv_iload hx hb dX11_layPlayer_24 (lv_at hl 0 rfl) ?_
  refine lv_iadd hx hb dX11_layPlayer_26 ?_
  refine lv_iload_n hx hb dX11_layPlayer_27 rfl (lv_at hl 4 rfl) ?_
  refine g_ast (w' := [(of, .inl (G.2.1, zL, .inl (upd (upd (upd a (19 + n) kd) (26 + n) hl_) (33 + n) am)))]) C hW 0 rfl (ix_in (show (33 + (nI n)) = nI (33 + n) from (by first | rfl | (simp only [nI_lit, nI_add, pk_mul]; done) | (simp only [nI_lit, nI_add, pk_mul]; congr 1; omega))) (by omega) (by omega)) (by rw [show (33 + (nI n)).toNatClampNeg = (33 + n) from ix_cl (show (33 + (nI n)) = nI (33 + n) from (by first | rfl | (simp only [nI_lit, nI_add, pk_mul]; done) | (simp only [nI_lit, nI_add, pk_mul]; congr 1; omega))) (Nat.lt_of_lt_of_le (m := zL) (by omega) (by omega))]; rfl) dX11_layPlayer_28 ?_
  clear hW H locs; intro H locs hW
  refine lv_aload_n hx hb dX11_layPlayer_29 rfl (lv_at hl 1 rfl) ?_
  refine lv_iconst (v := 0) hx hb dX11_layPlayer_30 (by decide) ?_
  refine lv_dup2_11 hx hb dX11_layPlayer_31 rfl rfl ?_
  refine g_ald C hW 0 rfl (vp_in_nI (n := 0) (by omega) (by omega)) dX11_layPlayer_32 ?_
  refine lv_as (y := (upd (upd (upd a (19 + n) kd) (26 + n) hl_) (33 + n) am) 0) (rfl) ?_
  refine lv_as (y := nI n) (by rw [pk_un (by omega), pk_un (by omega), pk_un (by omega)]; exact e0) ?_
  refine lv_iconst (v := 1) hx hb dX11_layPlayer_33 (by decide) ?_
  refine lv_iadd hx hb dX11_layPlayer_34 ?_
  refine lv_as (y := nI (n + 1)) (nI_1 n) ?_
  refine g_ast (w' := [(of, .inl (G.2.1, zL, .inl (upd (upd (upd (upd a (19 + n) kd) (26 + n) hl_) (33 + n) am) 0 (nI (n + 1)))))]) C hW 0 rfl (vp_in_nI (n := 0) (by omega) (by omega)) (by rw [show (0 : Int32).toNatClampNeg = 0 from rfl]; rfl) dX11_layPlayer_35 ?_
  clear hW H locs; intro H locs hW
  subst hQ
  exact g_vret C hW hrt ⟨(), trivial, by rfl⟩ dX11_layPlayer_36
set_option maxHeartbeats 4000000 in
set_option maxRecDepth 100000 in
theorem c_X11_player_ok (l : Launch) (G : gT) (mo al ke ik rq so ha te bt an vs : Nat) (mab mbe : Int64) (bL tA tL tK tV : Int32) (a : Nat → Int32) (n : Nat) (kd hl_ am : Int32) (h1 : iw kd 0 5 = true) (h2 : iw hl_ 0 1 = true) (h3 : iw am 1 9 = true) (e0 : a 0 = nI n) (hn : n < 7) : MI l G yX11_player cX11_player 4 .int ({ frames := 2, cells := 0, slots := 0, locals := 45 }) [.ref mo, .int kd, .int hl_, .int am] [(mo, .inr (9, [.ref al, .ref ke, .ref ik, .ref rq, .long mab, .long mbe, .ref so, .ref ha, .ref te, .ref bt, .int bL, .int tA, .int tL, .int tK, .int tV, .ref an, .ref vs])), (al, .inl (G.2.1, 159, .inl a))] (fun (r : Int32) w1 => ∃ u_ : Unit, (r = nI n) ∧ w1 = [(mo, .inr (9, [.ref al, .ref ke, .ref ik, .ref rq, .long mab, .long mbe, .ref so, .ref ha, .ref te, .ref bt, .int bL, .int tA, .int tL, .int tK, .int tV, .ref an, .ref vs])), (al, .inl (G.2.1, 159, .inl (upd (upd (upd (upd (upd a (19 + n) kd) (26 + n) hl_) (33 + n) am) 0 (nI (n + 1))) 4 0)))]) := by
  refine MI.mk (by decide) (Nat.le_of_ble_eq_true rfl) ?_
  intro p_ e_ s_ m_ ar_ be_ me_ cd_ A_ ls C hrt hW hl
  have hx := C.1; have hb := C.2.1; have hown := C.2.2.2.1; have ht := C.2.2.2.2.1
  replace hl : lv_has ls 4 [(0, .ref mo), (1, .int kd), (2, .int hl_), (3, .int am)] := hl
  generalize hQ : MQ be_ _ ar_ s_ 0 0 A_ = Q
  refine lv_iload_n hx hb dX11_player_0 rfl (lv_at hl 1 rfl) ?_
  refine g_fi C hW [] rfl (g_runS (As := [.int kd]) (rest := []) (wc := []) C hW hl (c_X11_isKind l G kd  _) k_ml_X11_75 q_X11_isKind (by decide) [] rfl rfl rfl rfl (Nat.le_of_ble_eq_true rfl) dX11_player_1 (by decide)) (fun r_1402 er_1402 => ?_)
  clear hW; intro H locs hW
  refine lv_as (y := bI (iw kd 0 5)) er_1402 ?_
  clear er_1402 r_1402
  refine lv_if_eq (tgt := 21) hx hb dX11_player_4 (by decide) (fun c_1403 => ?_) (fun c_1403 => ?_)
  · exfalso; exact dd (by first | assumption | exact okp_nI (by omega) (by assumption) | exact decide_eq_true (by first | assumption | omega)) c_1403
  · refine lv_iload_n hx hb dX11_player_7 rfl (lv_at hl 2 rfl) ?_
    refine g_fi C hW [] rfl (g_runS (As := [.int hl_]) (rest := []) (wc := []) C hW hl (c_X11_isHill l G hl_  _) k_ml_X11_78 q_X11_isHill (by decide) [] rfl rfl rfl rfl (Nat.le_of_ble_eq_true rfl) dX11_player_8 (by decide)) (fun r_1404 er_1404 => ?_)
    clear hW H locs; intro H locs hW
    refine lv_as (y := bI (iw hl_ 0 1)) er_1404 ?_
    clear er_1404 r_1404
    refine lv_if_eq (tgt := 21) hx hb dX11_player_11 (by decide) (fun c_1405 => ?_) (fun c_1405 => ?_)
    · exfalso; exact dd (by first | assumption | exact okp_nI (by omega) (by assumption) | exact decide_eq_true (by first | assumption | omega)) c_1405
    · refine lv_iload_n hx hb dX11_player_14 rfl (lv_at hl 3 rfl) ?_
      refine g_fi C hW [] rfl (g_runS (As := [.int am]) (rest := []) (wc := []) C hW hl (c_X11_isNine l G am  _) k_ml_X11_81 q_X11_isNine (by decide) [] rfl rfl rfl rfl (Nat.le_of_ble_eq_true rfl) dX11_player_15 (by decide)) (fun r_1406 er_1406 => ?_)
      clear hW H locs; intro H locs hW
      refine lv_as (y := bI (iw am 1 9)) er_1406 ?_
      clear er_1406 r_1406
      refine lv_if_ne (tgt := 28) hx hb dX11_player_18 (by decide) (fun c_1407 => ?_) (fun c_1407 => ?_)
      · refine lv_aload_n hx hb dX11_player_28 rfl (lv_at hl 0 rfl) ?_
        refine g_fi C hW [0, 1] rfl (g_runV (As := []) (rest := []) (wc := [(mo, .inr (9, [.ref al, .ref ke, .ref ik, .ref rq, .long mab, .long mbe, .ref so, .ref ha, .ref te, .ref bt, .int bL, .int tA, .int tL, .int tK, .int tV, .ref an, .ref vs])), (al, .inl (G.2.1, 159, .inl a))]) (q0 := 0) (ci := 9) C hW hl (c_X11_many l G mo al ke ik rq so ha te bt an vs mab mbe bL tA tL tK tV a n (by first | assumption | omega) _) k_ml_X11_49 q_X11_many (by decide) [0, 1] rfl rfl rfl rfl rfl rfl (Nat.le_of_ble_eq_true rfl) dX11_player_29 (by decide)) (fun r_1408 er_1408 => ?_)
        clear hW H locs; intro H locs hW
        refine lv_as (y := nI n) er_1408 ?_
        clear er_1408 r_1408
        refine lv_bipush (v := 7) hx hb dX11_player_32 (by decide) ?_
        refine lv_icmp_ne (tgt := 42) hx hb dX11_player_34 (by decide) (fun c_1409 => ?_) (fun c_1409 => ?_)
        · have c_1409n : ¬ n = 7 := fun q => c_1409 ((nI_eq (a := n) (b := 7) (by omega) (by omega)).mpr q)
          refine lv_aload_n hx hb dX11_player_42 rfl (lv_at hl 0 rfl) ?_
          refine g_get (k := 0) (v := .ref al) C hW 0 rfl rfl jnX11 (by decide) k_fl_X11_7 rfl dX11_player_43 ?_
          refine lv_iload_n hx hb dX11_player_46 rfl (lv_at hl 1 rfl) ?_
          refine lv_iload_n hx hb dX11_player_47 rfl (lv_at hl 2 rfl) ?_
          refine lv_iload_n hx hb dX11_player_48 rfl (lv_at hl 3 rfl) ?_
          refine g_fvw (wr := [(mo, .inr (9, [.ref al, .ref ke, .ref ik, .ref rq, .long mab, .long mbe, .ref so, .ref ha, .ref te, .ref bt, .int bL, .int tA, .int tL, .int tK, .int tV, .ref an, .ref vs]))]) (ww := fun (u_ : Unit) => [(al, .inl (G.2.1, 159, .inl (upd (upd (upd (upd a (19 + n) kd) (26 + n) hl_) (33 + n) am) 0 (nI (n + 1)))))]) (w2 := fun (u_ : Unit) => [(mo, .inr (9, [.ref al, .ref ke, .ref ik, .ref rq, .long mab, .long mbe, .ref so, .ref ha, .ref te, .ref bt, .int bL, .int tA, .int tL, .int tK, .int tV, .ref an, .ref vs])), (al, .inl (G.2.1, 159, .inl (upd (upd (upd (upd a (19 + n) kd) (26 + n) hl_) (33 + n) am) 0 (nI (n + 1)))))]) C hW [1] [0] [0, 1] rfl rfl (by decide) (by decide) (by decide) (fun _ => rfl) (g_runS (As := [.ref al, .int kd, .int hl_, .int am]) (rest := []) (wc := [(al, .inl (G.2.1, 159, .inl a))]) C hW hl (c_X11_layPlayer l G al 159 a n kd hl_ am (by first | assumption | omega) (by exact e0) (by first | assumption | omega) _) k_ml_X11_87 q_X11_layPlayer (by decide) [1] rfl rfl rfl rfl (Nat.le_of_ble_eq_true rfl) dX11_player_49 (by decide)) (fun _ er_1410 => ?_)
          clear hW H locs; intro H locs hW
          replace hW : Wd G A_ s_.heap [(mo, .inr (9, [.ref al, .ref ke, .ref ik, .ref rq, .long mab, .long mbe, .ref so, .ref ha, .ref te, .ref bt, .int bL, .int tA, .int tL, .int tK, .int tV, .ref an, .ref vs])), (al, .inl (G.2.1, 159, .inl (upd (upd (upd (upd a (19 + n) kd) (26 + n) hl_) (33 + n) am) 0 (nI (n + 1)))))] H locs := hW
          refine lv_aload_n hx hb dX11_player_52 rfl (lv_at hl 0 rfl) ?_
          refine g_get (k := 0) (v := .ref al) C hW 0 rfl rfl jnX11 (by decide) k_fl_X11_7 rfl dX11_player_53 ?_
          refine lv_iconst (v := 4) hx hb dX11_player_56 (by decide) ?_
          refine lv_iconst (v := 0) hx hb dX11_player_57 (by decide) ?_
          refine g_ast (w' := [(mo, .inr (9, [.ref al, .ref ke, .ref ik, .ref rq, .long mab, .long mbe, .ref so, .ref ha, .ref te, .ref bt, .int bL, .int tA, .int tL, .int tK, .int tV, .ref an, .ref vs])), (al, .inl (G.2.1, 159, .inl (upd (upd (upd (upd (upd a (19 + n) kd) (26 + n) hl_) (33 + n) am) 0 (nI (n + 1))) 4 0)))]) C hW 1 rfl (vp_in_nI (n := 4) (by omega) (by omega)) (by rw [show (4 : Int32).toNatClampNeg = 4 from rfl]; rfl) dX11_player_58 ?_
          clear hW H locs; intro H locs hW
          refine lv_aload_n hx hb dX11_player_59 rfl (lv_at hl 0 rfl) ?_
          refine g_fi C hW [0, 1] rfl (g_runV (As := []) (rest := []) (wc := [(mo, .inr (9, [.ref al, .ref ke, .ref ik, .ref rq, .long mab, .long mbe, .ref so, .ref ha, .ref te, .ref bt, .int bL, .int tA, .int tL, .int tK, .int tV, .ref an, .ref vs])), (al, .inl (G.2.1, 159, .inl (upd (upd (upd (upd (upd a (19 + n) kd) (26 + n) hl_) (33 + n) am) 0 (nI (n + 1))) 4 0)))]) (q0 := 0) (ci := 9) C hW hl (c_X11_many l G mo al ke ik rq so ha te bt an vs mab mbe bL tA tL tK tV (upd (upd (upd (upd (upd a (19 + n) kd) (26 + n) hl_) (33 + n) am) 0 (nI (n + 1))) 4 0) (n + 1) (by exact rfl) _) k_ml_X11_49 q_X11_many (by decide) [0, 1] rfl rfl rfl rfl rfl rfl (Nat.le_of_ble_eq_true rfl) dX11_player_60 (by decide)) (fun r_1412 er_1412 => ?_)
          clear hW H locs; intro H locs hW
          refine lv_as (y := nI (n + 1)) er_1412 ?_
          clear er_1412 r_1412
          refine lv_iconst (v := 1) hx hb dX11_player_63 (by decide) ?_
          refine lv_isub hx hb dX11_player_64 ?_
          refine lv_as (y := nI n) (nI_pred n) ?_
          subst hQ
          exact g_iret (v := (nI n)) C hW hrt ⟨(), by rfl, by rfl⟩ dX11_player_65
        · have c_1409n : n = 7 := (nI_eq (a := n) (b := 7) (by omega) (by omega)).mp c_1409
          exfalso; omega
      · exfalso; exact dd (by first | assumption | exact okp_nI (by omega) (by assumption) | exact decide_eq_true (by first | assumption | omega)) c_1407
set_option maxHeartbeats 4000000 in
set_option maxRecDepth 100000 in
theorem c_X11_player_full (l : Launch) (G : gT) (mo al ke ik rq so ha te bt an vs : Nat) (mab mbe : Int64) (bL tA tL tK tV : Int32) (rv : Nat → Int32) (a : Nat → Int32) (n : Nat) (kd hl_ am : Int32) (h1 : iw kd 0 5 = true) (h2 : iw hl_ 0 1 = true) (h3 : iw am 1 9 = true) (e0 : a 0 = nI n) (hn : n = 7) : MI l G yX11_player cX11_player 4 .int ({ frames := 2, cells := 0, slots := 0, locals := 45 }) [.ref mo, .int kd, .int hl_, .int am] [(mo, .inr (9, [.ref al, .ref ke, .ref ik, .ref rq, .long mab, .long mbe, .ref so, .ref ha, .ref te, .ref bt, .int bL, .int tA, .int tL, .int tK, .int tV, .ref an, .ref vs])), (al, .inl (G.2.1, 159, .inl a)), (rq, .inl (G.2.1, 3, .inl rv))] (fun (r : Int32) w1 => ∃ u_ : Unit, (r = (-4)) ∧ w1 = [(mo, .inr (9, [.ref al, .ref ke, .ref ik, .ref rq, .long mab, .long mbe, .ref so, .ref ha, .ref te, .ref bt, .int bL, .int tA, .int tL, .int tK, .int tV, .ref an, .ref vs])), (al, .inl (G.2.1, 159, .inl a)), (rq, .inl (G.2.1, 3, .inl (upd rv 2 (rv 2 + 1))))]) := by
  refine MI.mk (by decide) (Nat.le_of_ble_eq_true rfl) ?_
  intro p_ e_ s_ m_ ar_ be_ me_ cd_ A_ ls C hrt hW hl
  have hx := C.1; have hb := C.2.1; have hown := C.2.2.2.1; have ht := C.2.2.2.2.1
  replace hl : lv_has ls 4 [(0, .ref mo), (1, .int kd), (2, .int hl_), (3, .int am)] := hl
  generalize hQ : MQ be_ _ ar_ s_ 0 0 A_ = Q
  refine lv_iload_n hx hb dX11_player_0 rfl (lv_at hl 1 rfl) ?_
  refine g_fi C hW [] rfl (g_runS (As := [.int kd]) (rest := []) (wc := []) C hW hl (c_X11_isKind l G kd  _) k_ml_X11_75 q_X11_isKind (by decide) [] rfl rfl rfl rfl (Nat.le_of_ble_eq_true rfl) dX11_player_1 (by decide)) (fun r_1413 er_1413 => ?_)
  clear hW; intro H locs hW
  refine lv_as (y := bI (iw kd 0 5)) er_1413 ?_
  clear er_1413 r_1413
  refine lv_if_eq (tgt := 21) hx hb dX11_player_4 (by decide) (fun c_1414 => ?_) (fun c_1414 => ?_)
  · exfalso; exact dd (by first | assumption | exact okp_nI (by omega) (by assumption) | exact decide_eq_true (by first | assumption | omega)) c_1414
  · refine lv_iload_n hx hb dX11_player_7 rfl (lv_at hl 2 rfl) ?_
    refine g_fi C hW [] rfl (g_runS (As := [.int hl_]) (rest := []) (wc := []) C hW hl (c_X11_isHill l G hl_  _) k_ml_X11_78 q_X11_isHill (by decide) [] rfl rfl rfl rfl (Nat.le_of_ble_eq_true rfl) dX11_player_8 (by decide)) (fun r_1415 er_1415 => ?_)
    clear hW H locs; intro H locs hW
    refine lv_as (y := bI (iw hl_ 0 1)) er_1415 ?_
    clear er_1415 r_1415
    refine lv_if_eq (tgt := 21) hx hb dX11_player_11 (by decide) (fun c_1416 => ?_) (fun c_1416 => ?_)
    · exfalso; exact dd (by first | assumption | exact okp_nI (by omega) (by assumption) | exact decide_eq_true (by first | assumption | omega)) c_1416
    · refine lv_iload_n hx hb dX11_player_14 rfl (lv_at hl 3 rfl) ?_
      refine g_fi C hW [] rfl (g_runS (As := [.int am]) (rest := []) (wc := []) C hW hl (c_X11_isNine l G am  _) k_ml_X11_81 q_X11_isNine (by decide) [] rfl rfl rfl rfl (Nat.le_of_ble_eq_true rfl) dX11_player_15 (by decide)) (fun r_1417 er_1417 => ?_)
      clear hW H locs; intro H locs hW
      refine lv_as (y := bI (iw am 1 9)) er_1417 ?_
      clear er_1417 r_1417
      refine lv_if_ne (tgt := 28) hx hb dX11_player_18 (by decide) (fun c_1418 => ?_) (fun c_1418 => ?_)
      · refine lv_aload_n hx hb dX11_player_28 rfl (lv_at hl 0 rfl) ?_
        refine g_fi C hW [0, 1] rfl (g_runV (As := []) (rest := []) (wc := [(mo, .inr (9, [.ref al, .ref ke, .ref ik, .ref rq, .long mab, .long mbe, .ref so, .ref ha, .ref te, .ref bt, .int bL, .int tA, .int tL, .int tK, .int tV, .ref an, .ref vs])), (al, .inl (G.2.1, 159, .inl a))]) (q0 := 0) (ci := 9) C hW hl (c_X11_many l G mo al ke ik rq so ha te bt an vs mab mbe bL tA tL tK tV a n (by first | assumption | omega) _) k_ml_X11_49 q_X11_many (by decide) [0, 1] rfl rfl rfl rfl rfl rfl (Nat.le_of_ble_eq_true rfl) dX11_player_29 (by decide)) (fun r_1419 er_1419 => ?_)
        clear hW H locs; intro H locs hW
        refine lv_as (y := nI n) er_1419 ?_
        clear er_1419 r_1419
        refine lv_bipush (v := 7) hx hb dX11_player_32 (by decide) ?_
        refine lv_icmp_ne (tgt := 42) hx hb dX11_player_34 (by decide) (fun c_1420 => ?_) (fun c_1420 => ?_)
        · have c_1420n : ¬ n = 7 := fun q => c_1420 ((nI_eq (a := n) (b := 7) (by omega) (by omega)).mpr q)
          exfalso; omega
        · have c_1420n : n = 7 := (nI_eq (a := n) (b := 7) (by omega) (by omega)).mp c_1420
          refine lv_aload_n hx hb dX11_player_37 rfl (lv_at hl 0 rfl) ?_
          refine g_fiw (wr := [(al, .inl (G.2.1, 159, .inl a))]) (ww := fun (u_ : Unit) => [(mo, .inr (9, [.ref al, .ref ke, .ref ik, .ref rq, .long mab, .long mbe, .ref so, .ref ha, .ref te, .ref bt, .int bL, .int tA, .int tL, .int tK, .int tV, .ref an, .ref vs])), (rq, .inl (G.2.1, 3, .inl (upd rv 2 (rv 2 + 1))))]) (w2 := fun (u_ : Unit) => [(mo, .inr (9, [.ref al, .ref ke, .ref ik, .ref rq, .long mab, .long mbe, .ref so, .ref ha, .ref te, .ref bt, .int bL, .int tA, .int tL, .int tK, .int tV, .ref an, .ref vs])), (al, .inl (G.2.1, 159, .inl a)), (rq, .inl (G.2.1, 3, .inl (upd rv 2 (rv 2 + 1))))]) C hW [0, 2] [1] [1, 0, 2] rfl rfl (by decide) (by decide) (by decide) (fun _ => rfl) (g_runV (As := []) (rest := []) (wc := [(mo, .inr (9, [.ref al, .ref ke, .ref ik, .ref rq, .long mab, .long mbe, .ref so, .ref ha, .ref te, .ref bt, .int bL, .int tA, .int tL, .int tK, .int tV, .ref an, .ref vs])), (rq, .inl (G.2.1, 3, .inl rv))]) (q0 := 0) (ci := 9) C hW hl (c_X11_full l G mo al ke ik rq so ha te bt an vs mab mbe bL tA tL tK tV rv  _) k_ml_X11_84 q_X11_full (by decide) [0, 2] rfl rfl rfl rfl rfl rfl (Nat.le_of_ble_eq_true rfl) dX11_player_38 (by decide)) (fun r_1421 _ er_1421 => ?_)
          clear hW H locs; intro H locs hW
          refine lv_as (y := (-4)) er_1421 ?_
          clear er_1421 r_1421
          replace hW : Wd G A_ s_.heap [(mo, .inr (9, [.ref al, .ref ke, .ref ik, .ref rq, .long mab, .long mbe, .ref so, .ref ha, .ref te, .ref bt, .int bL, .int tA, .int tL, .int tK, .int tV, .ref an, .ref vs])), (al, .inl (G.2.1, 159, .inl a)), (rq, .inl (G.2.1, 3, .inl (upd rv 2 (rv 2 + 1))))] H locs := hW
          subst hQ
          exact g_iret (v := (-4)) C hW hrt ⟨(), by rfl, by rfl⟩ dX11_player_41
      · exfalso; exact dd (by first | assumption | exact okp_nI (by omega) (by assumption) | exact decide_eq_true (by first | assumption | omega)) c_1418
set_option maxHeartbeats 4000000 in
set_option maxRecDepth 100000 in
theorem c_X11_player_bad (l : Launch) (G : gT) (mo al ke ik rq so ha te bt an vs : Nat) (mab mbe : Int64) (bL tA tL tK tV : Int32) (rv : Nat → Int32) (kd hl_ am : Int32) (hbad : (iw kd 0 5 && (iw hl_ 0 1 && iw am 1 9)) = false) : MI l G yX11_player cX11_player 4 .int ({ frames := 2, cells := 0, slots := 0, locals := 45 }) [.ref mo, .int kd, .int hl_, .int am] [(mo, .inr (9, [.ref al, .ref ke, .ref ik, .ref rq, .long mab, .long mbe, .ref so, .ref ha, .ref te, .ref bt, .int bL, .int tA, .int tL, .int tK, .int tV, .ref an, .ref vs])), (rq, .inl (G.2.1, 3, .inl rv))] (fun (r : Int32) w1 => ∃ u_ : Unit, (r = (-2)) ∧ w1 = [(mo, .inr (9, [.ref al, .ref ke, .ref ik, .ref rq, .long mab, .long mbe, .ref so, .ref ha, .ref te, .ref bt, .int bL, .int tA, .int tL, .int tK, .int tV, .ref an, .ref vs])), (rq, .inl (G.2.1, 3, .inl (upd rv 0 (rv 0 + 1))))]) := by
  refine MI.mk (by decide) (Nat.le_of_ble_eq_true rfl) ?_
  intro p_ e_ s_ m_ ar_ be_ me_ cd_ A_ ls C hrt hW hl
  have hx := C.1; have hb := C.2.1; have hown := C.2.2.2.1; have ht := C.2.2.2.2.1
  replace hl : lv_has ls 4 [(0, .ref mo), (1, .int kd), (2, .int hl_), (3, .int am)] := hl
  generalize hQ : MQ be_ _ ar_ s_ 0 0 A_ = Q
  refine lv_iload_n hx hb dX11_player_0 rfl (lv_at hl 1 rfl) ?_
  refine g_fi C hW [] rfl (g_runS (As := [.int kd]) (rest := []) (wc := []) C hW hl (c_X11_isKind l G kd  _) k_ml_X11_75 q_X11_isKind (by decide) [] rfl rfl rfl rfl (Nat.le_of_ble_eq_true rfl) dX11_player_1 (by decide)) (fun r_1423 er_1423 => ?_)
  clear hW; intro H locs hW
  refine lv_as (y := bI (iw kd 0 5)) er_1423 ?_
  clear er_1423 r_1423
  have J_1429 : ∀ (H : Heap) (locs : List Loc) (ls : Array Slot), Wd G A_ s_.heap [(mo, .inr (9, [.ref al, .ref ke, .ref ik, .ref rq, .long mab, .long mbe, .ref so, .ref ha, .ref te, .ref bt, .int bL, .int tA, .int tL, .int tK, .int tV, .ref an, .ref vs])), (rq, .inl (G.2.1, 3, .inl rv))] H locs → lv_has ls 4 [(0, .ref mo), (1, .int kd), (2, .int hl_), (3, .int am)] → W p_ l e_ ({ frames := 2, cells := 0, slots := 0, locals := 45 }) s_ m_ ar_ be_ me_ cd_ H locs 0 0 Q (F0 m_ 21 ls []) := by
    intro  H locs ls hW hl
    refine lv_aload_n hx hb dX11_player_21 rfl (lv_at hl 0 rfl) ?_
    refine lv_bipush (v := (-2)) hx hb dX11_player_22 (by decide) ?_
    refine g_fiw (wr := []) (ww := fun (u_ : Unit) => [(mo, .inr (9, [.ref al, .ref ke, .ref ik, .ref rq, .long mab, .long mbe, .ref so, .ref ha, .ref te, .ref bt, .int bL, .int tA, .int tL, .int tK, .int tV, .ref an, .ref vs])), (rq, .inl (G.2.1, 3, .inl (upd rv 0 (rv 0 + 1))))]) (w2 := fun (u_ : Unit) => [(mo, .inr (9, [.ref al, .ref ke, .ref ik, .ref rq, .long mab, .long mbe, .ref so, .ref ha, .ref te, .ref bt, .int bL, .int tA, .int tL, .int tK, .int tV, .ref an, .ref vs])), (rq, .inl (G.2.1, 3, .inl (upd rv 0 (rv 0 + 1))))]) C hW [0, 1] [] [0, 1] rfl rfl (by decide) (by decide) (by decide) (fun _ => rfl) (g_runV (As := [.int (-2)]) (rest := []) (wc := [(mo, .inr (9, [.ref al, .ref ke, .ref ik, .ref rq, .long mab, .long mbe, .ref so, .ref ha, .ref te, .ref bt, .int bL, .int tA, .int tL, .int tK, .int tV, .ref an, .ref vs])), (rq, .inl (G.2.1, 3, .inl rv))]) (q0 := 0) (ci := 9) C hW hl (c_X11_bad l G mo al ke ik rq so ha te bt an vs mab mbe bL tA tL tK tV rv (-2)  _) k_ml_X11_67 q_X11_bad (by decide) [0, 1] rfl rfl rfl rfl rfl rfl (Nat.le_of_ble_eq_true rfl) dX11_player_24 (by decide)) (fun r_1430 _ er_1430 => ?_)
    clear hW H locs; intro H locs hW
    refine lv_as (y := (-2)) er_1430 ?_
    clear er_1430 r_1430
    replace hW : Wd G A_ s_.heap [(mo, .inr (9, [.ref al, .ref ke, .ref ik, .ref rq, .long mab, .long mbe, .ref so, .ref ha, .ref te, .ref bt, .int bL, .int tA, .int tL, .int tK, .int tV, .ref an, .ref vs])), (rq, .inl (G.2.1, 3, .inl (upd rv 0 (rv 0 + 1))))] H locs := hW
    subst hQ
    exact g_iret (v := (-2)) C hW hrt ⟨(), by rfl, by rfl⟩ dX11_player_27
  refine lv_if_eq (tgt := 21) hx hb dX11_player_4 (by decide) (fun c_1424 => ?_) (fun c_1424 => ?_)
  · exact J_1429  _ _ _ hW (lv_sub hl [0, 1, 2, 3] rfl)
  · refine lv_iload_n hx hb dX11_player_7 rfl (lv_at hl 2 rfl) ?_
    refine g_fi C hW [] rfl (g_runS (As := [.int hl_]) (rest := []) (wc := []) C hW hl (c_X11_isHill l G hl_  _) k_ml_X11_78 q_X11_isHill (by decide) [] rfl rfl rfl rfl (Nat.le_of_ble_eq_true rfl) dX11_player_8 (by decide)) (fun r_1432 er_1432 => ?_)
    clear hW H locs; intro H locs hW
    refine lv_as (y := bI (iw hl_ 0 1)) er_1432 ?_
    clear er_1432 r_1432
    refine lv_if_eq (tgt := 21) hx hb dX11_player_11 (by decide) (fun c_1433 => ?_) (fun c_1433 => ?_)
    · exact J_1429  _ _ _ hW (lv_sub hl [0, 1, 2, 3] rfl)
    · refine lv_iload_n hx hb dX11_player_14 rfl (lv_at hl 3 rfl) ?_
      refine g_fi C hW [] rfl (g_runS (As := [.int am]) (rest := []) (wc := []) C hW hl (c_X11_isNine l G am  _) k_ml_X11_81 q_X11_isNine (by decide) [] rfl rfl rfl rfl (Nat.le_of_ble_eq_true rfl) dX11_player_15 (by decide)) (fun r_1434 er_1434 => ?_)
      clear hW H locs; intro H locs hW
      refine lv_as (y := bI (iw am 1 9)) er_1434 ?_
      clear er_1434 r_1434
      refine lv_if_ne (tgt := 28) hx hb dX11_player_18 (by decide) (fun c_1435 => ?_) (fun c_1435 => ?_)
      · exfalso; simp [bI_ne.mp c_1424, bI_ne.mp c_1433, bI_ne.mp c_1435, if_true, if_false, reduceIte, Bool.false_eq_true] at hbad
      · exact J_1429  _ _ _ hW (lv_sub hl [0, 1, 2, 3] rfl)
set_option maxHeartbeats 4000000 in
set_option maxRecDepth 100000 in
theorem c_X11_fliesAs (l : Launch) (G : gT) (kd g x w : Int32)  : MI l G yX11_fliesAs cX11_fliesAs 6 .int ({ frames := 0, cells := 0, slots := 0, locals := 0 }) [.int kd, .int g, .int x, .int w] [] (fun (r : Int32) w1 => (r = fl kd g x w) ∧ w1 = []) := by
  refine MI.mk (by decide) (Nat.le_of_ble_eq_true rfl) ?_
  intro p_ e_ s_ m_ ar_ be_ me_ cd_ A_ ls C hrt hW hl
  have hx := C.1; have hb := C.2.1; have hown := C.2.2.2.1; have ht := C.2.2.2.2.1
  replace hl : lv_has ls 6 [(0, .int kd), (1, .int g), (2, .int x), (3, .int w)] := hl
  generalize hQ : MQ be_ _ ar_ s_ 0 0 A_ = Q
  refine lv_iload_n hx hb dX11_fliesAs_0 rfl (lv_at hl 2 rfl) ?_
  refine lv_iload_n hx hb dX11_fliesAs_1 rfl (lv_at hl 3 rfl) ?_
  refine lv_iadd hx hb dX11_fliesAs_2 ?_
  refine lv_iload_n hx hb dX11_fliesAs_3 rfl (lv_at hl 1 rfl) ?_
  have J_1438 : ∀ (y_1437 : Int32) (_ : y_1437 = (if g < (x + w) then (x + w) - g else 0)), ∀ (H : Heap) (locs : List Loc) (ls : Array Slot), Wd G A_ s_.heap [] H locs → lv_has ls 6 [(0, .int kd), (1, .int g), (2, .int x), (3, .int w)] → W p_ l e_ ({ frames := 0, cells := 0, slots := 0, locals := 0 }) s_ m_ ar_ be_ me_ cd_ H locs 0 0 Q (F0 m_ 16 ls [.int y_1437]) := by
    intro y_1437 ey_1437 H locs ls hW hl
    refine lv_istore (lv' := [(4, .int y_1437), (0, .int kd), (1, .int g), (2, .int x), (3, .int w)]) hx hb dX11_fliesAs_16 hl (by decide) rfl ?_
    clear hl ls; intro ls hl
    refine lv_iload hx hb dX11_fliesAs_18 (lv_at hl 0 rfl) ?_
    refine lv_iconst (v := 2) hx hb dX11_fliesAs_20 (by decide) ?_
    refine lv_iadd hx hb dX11_fliesAs_21 ?_
    refine lv_istore (lv' := [(5, .int (y_1437 + 2)), (4, .int y_1437), (0, .int kd), (1, .int g), (2, .int x), (3, .int w)]) hx hb dX11_fliesAs_22 hl (by decide) rfl ?_
    clear hl ls; intro ls hl
    refine lv_iload_n hx hb dX11_fliesAs_24 rfl (lv_at hl 2 rfl) ?_
    by_cases c_1439 : kd = 1
    · refine lv_as c_1439 (lv_tableIn (tgt := 60) hx hb dX11_fliesAs_25 (by decide) (by decide) rfl (by decide) ?_)
      refine lv_iload hx hb dX11_fliesAs_60 (lv_at hl 0 rfl) ?_
      subst hQ
      exact g_iret (v := (y_1437 + 2)) C hW hrt ⟨by first | rfl | (simp only [fl, ey_1437, c_1439, if_true, if_false, reduceIte]; done) | (simp [fl, ey_1437, c_1439]; done) | (simp_all [fl]; done) | (simp only [fl, ey_1437, c_1439]; (repeat' split) <;> first | rfl | (simp_all; done)), rfl⟩ dX11_fliesAs_62
    by_cases c_1440 : kd = 2
    · refine lv_as c_1440 (lv_tableIn (tgt := 63) hx hb dX11_fliesAs_25 (by decide) (by decide) rfl (by decide) ?_)
      refine lv_iload hx hb dX11_fliesAs_63 (lv_at hl 1 rfl) ?_
      refine lv_iconst (v := 1) hx hb dX11_fliesAs_65 (by decide) ?_
      refine lv_iadd hx hb dX11_fliesAs_66 ?_
      refine lv_iconst (v := 2) hx hb dX11_fliesAs_67 (by decide) ?_
      refine lv_idiv hx hb dX11_fliesAs_68 (by decide) ?_
      subst hQ
      exact g_iret (v := ((y_1437 + 1) / 2)) C hW hrt ⟨by first | rfl | (simp only [fl, ey_1437, c_1439, c_1440, if_true, if_false, reduceIte]; done) | (simp [fl, ey_1437, c_1439, c_1440]; done) | (simp_all [fl]; done) | (simp only [fl, ey_1437, c_1439, c_1440]; (repeat' split) <;> first | rfl | (simp_all; done)), rfl⟩ dX11_fliesAs_69
    by_cases c_1441 : kd = 3
    · refine lv_as c_1441 (lv_tableIn (tgt := 70) hx hb dX11_fliesAs_25 (by decide) (by decide) rfl (by decide) ?_)
      refine lv_iload_n hx hb dX11_fliesAs_70 rfl (lv_at hl 3 rfl) ?_
      refine lv_iconst (v := 2) hx hb dX11_fliesAs_71 (by decide) ?_
      refine lv_icmp_gt (tgt := 82) hx hb dX11_fliesAs_72 (by decide) (fun c_1442 => ?_) (fun c_1442 => ?_)
      · replace c_1442 := Int32.not_le.mpr c_1442
        refine lv_iload hx hb dX11_fliesAs_82 (lv_at hl 0 rfl) ?_
        subst hQ
        exact g_iret (v := (y_1437 + 2)) C hW hrt ⟨by first | rfl | (simp only [fl, ey_1437, c_1439, c_1440, c_1441, c_1442, if_true, if_false, reduceIte]; done) | (simp [fl, ey_1437, c_1439, c_1440, c_1441, c_1442]; done) | (simp_all [fl]; done) | (simp only [fl, ey_1437, c_1439, c_1440, c_1441, c_1442]; (repeat' split) <;> first | rfl | (simp_all; done)), rfl⟩ dX11_fliesAs_84
      · replace c_1442 := Int32.not_lt.mp c_1442
        refine lv_iload hx hb dX11_fliesAs_75 (lv_at hl 0 rfl) ?_
        refine lv_iconst (v := 3) hx hb dX11_fliesAs_77 (by decide) ?_
        refine lv_iadd hx hb dX11_fliesAs_78 ?_
        refine lv_goto (tgt := 84) hx hb dX11_fliesAs_79 (by decide) ?_
        subst hQ
        exact g_iret (v := ((y_1437 + 2) + 3)) C hW hrt ⟨by first | rfl | (simp only [fl, ey_1437, c_1439, c_1440, c_1441, c_1442, if_true, if_false, reduceIte]; done) | (simp [fl, ey_1437, c_1439, c_1440, c_1441, c_1442]; done) | (simp_all [fl]; done) | (simp only [fl, ey_1437, c_1439, c_1440, c_1441, c_1442]; (repeat' split) <;> first | rfl | (simp_all; done)), rfl⟩ dX11_fliesAs_84
    by_cases c_1443 : kd = 4
    · refine lv_as c_1443 (lv_tableIn (tgt := 85) hx hb dX11_fliesAs_25 (by decide) (by decide) rfl (by decide) ?_)
      refine lv_iload hx hb dX11_fliesAs_85 (lv_at hl 1 rfl) ?_
      refine lv_iload_n hx hb dX11_fliesAs_87 rfl (lv_at hl 4 rfl) ?_
      refine lv_iconst (v := 2) hx hb dX11_fliesAs_88 (by decide) ?_
      refine lv_idiv hx hb dX11_fliesAs_89 (by decide) ?_
      refine lv_icmp_ge (tgt := 99) hx hb dX11_fliesAs_90 (by decide) (fun c_1444 => ?_) (fun c_1444 => ?_)
      · replace c_1444 := Int32.not_lt.mpr c_1444
        refine lv_iload hx hb dX11_fliesAs_99 (lv_at hl 1 rfl) ?_
        subst hQ
        exact g_iret (v := y_1437) C hW hrt ⟨by first | rfl | (simp only [fl, ey_1437, c_1439, c_1440, c_1441, c_1443, c_1444, if_true, if_false, reduceIte]; done) | (simp [fl, ey_1437, c_1439, c_1440, c_1441, c_1443, c_1444]; done) | (simp_all [fl]; done) | (simp only [fl, ey_1437, c_1439, c_1440, c_1441, c_1443, c_1444]; (repeat' split) <;> first | rfl | (simp_all; done)), rfl⟩ dX11_fliesAs_101
      · replace c_1444 := Int32.not_le.mp c_1444
        refine lv_iload_n hx hb dX11_fliesAs_93 rfl (lv_at hl 4 rfl) ?_
        refine lv_iconst (v := 2) hx hb dX11_fliesAs_94 (by decide) ?_
        refine lv_idiv hx hb dX11_fliesAs_95 (by decide) ?_
        refine lv_goto (tgt := 101) hx hb dX11_fliesAs_96 (by decide) ?_
        subst hQ
        exact g_iret (v := (x / 2)) C hW hrt ⟨by first | rfl | (simp only [fl, ey_1437, c_1439, c_1440, c_1441, c_1443, c_1444, if_true, if_false, reduceIte]; done) | (simp [fl, ey_1437, c_1439, c_1440, c_1441, c_1443, c_1444]; done) | (simp_all [fl]; done) | (simp only [fl, ey_1437, c_1439, c_1440, c_1441, c_1443, c_1444]; (repeat' split) <;> first | rfl | (simp_all; done)), rfl⟩ dX11_fliesAs_101
    by_cases c_1445 : kd = 5
    · refine lv_as c_1445 (lv_tableIn (tgt := 102) hx hb dX11_fliesAs_25 (by decide) (by decide) rfl (by decide) ?_)
      refine lv_iconst (v := 2) hx hb dX11_fliesAs_102 (by decide) ?_
      refine lv_iload hx hb dX11_fliesAs_103 (lv_at hl 0 rfl) ?_
      refine lv_imul hx hb dX11_fliesAs_105 ?_
      refine lv_iload_n hx hb dX11_fliesAs_106 rfl (lv_at hl 3 rfl) ?_
      refine lv_icmp_le (tgt := 119) hx hb dX11_fliesAs_107 (by decide) (fun c_1446 => ?_) (fun c_1446 => ?_)
      · replace c_1446 := Int32.not_lt.mpr c_1446
        refine lv_iconst (v := 0) hx hb dX11_fliesAs_119 (by decide) ?_
        subst hQ
        exact g_iret (v := 0) C hW hrt ⟨by (subst ey_1437; rw [c_1445, fl_5]; first | exact (if_pos c_1446).symm | exact (if_neg c_1446).symm), rfl⟩ dX11_fliesAs_120
      · replace c_1446 := Int32.not_le.mp c_1446
        refine lv_iconst (v := 2) hx hb dX11_fliesAs_110 (by decide) ?_
        refine lv_iload hx hb dX11_fliesAs_111 (lv_at hl 0 rfl) ?_
        refine lv_imul hx hb dX11_fliesAs_113 ?_
        refine lv_iload_n hx hb dX11_fliesAs_114 rfl (lv_at hl 3 rfl) ?_
        refine lv_isub hx hb dX11_fliesAs_115 ?_
        refine lv_goto (tgt := 120) hx hb dX11_fliesAs_116 (by decide) ?_
        subst hQ
        exact g_iret (v := ((2 * (y_1437 + 2)) - g)) C hW hrt ⟨by (subst ey_1437; rw [c_1445, fl_5]; first | exact (if_pos c_1446).symm | exact (if_neg c_1446).symm), rfl⟩ dX11_fliesAs_120
    refine lv_tableOut (tgt := 121) hx hb dX11_fliesAs_25 (by have q0 := sw_ne (z := 1) c_1439 (by decide); have q1 := sw_ne (z := 2) c_1440 (by decide); have q2 := sw_ne (z := 3) c_1441 (by decide); have q3 := sw_ne (z := 4) c_1443 (by decide); have q4 := sw_ne (z := 5) c_1445 (by decide); omega) (by decide) ?_
    refine lv_iload hx hb dX11_fliesAs_121 (lv_at hl 1 rfl) ?_
    subst hQ
    exact g_iret (v := y_1437) C hW hrt ⟨by first | rfl | (simp only [fl, ey_1437, c_1439, c_1440, c_1441, c_1443, c_1445, if_true, if_false, reduceIte]; done) | (simp [fl, ey_1437, c_1439, c_1440, c_1441, c_1443, c_1445]; done) | (simp_all [fl]; done) | (simp only [fl, ey_1437, c_1439, c_1440, c_1441, c_1443, c_1445]; (repeat' split) <;> first | rfl | (simp_all; done)), rfl⟩ dX11_fliesAs_123
  refine lv_icmp_le (tgt := 15) hx hb dX11_fliesAs_4 (by decide) (fun c_1436 => ?_) (fun c_1436 => ?_)
  · replace c_1436 := Int32.not_lt.mpr c_1436
    refine lv_iconst (v := 0) hx hb dX11_fliesAs_15 (by decide) ?_
    exact J_1438 0 (by first | (simp only [c_1436, if_true, if_false, reduceIte]; done) | (simp [c_1436]; done) | rfl | (rw [if_neg c_1436]; done)) _ _ _ hW (lv_sub hl [0, 1, 2, 3] rfl)
  · replace c_1436 := Int32.not_le.mp c_1436
    refine lv_iload_n hx hb dX11_fliesAs_7 rfl (lv_at hl 2 rfl) ?_
    refine lv_iload_n hx hb dX11_fliesAs_8 rfl (lv_at hl 3 rfl) ?_
    refine lv_iadd hx hb dX11_fliesAs_9 ?_
    refine lv_iload_n hx hb dX11_fliesAs_10 rfl (lv_at hl 1 rfl) ?_
    refine lv_isub hx hb dX11_fliesAs_11 ?_
    refine lv_goto (tgt := 16) hx hb dX11_fliesAs_12 (by decide) ?_
    exact J_1438 ((x + w) - g) (by first | (simp only [c_1436, if_true, if_false, reduceIte]; done) | (simp [c_1436]; done) | rfl | (rw [if_pos c_1436]; done)) _ _ _ hW (lv_sub hl [0, 1, 2, 3] rfl)
set_option maxHeartbeats 4000000 in
set_option maxRecDepth 100000 in
theorem c_X11_hitsAs (l : Launch) (G : gT) (kd b t : Int32)  : MI l G yX11_hitsAs cX11_hitsAs 5 .int ({ frames := 0, cells := 0, slots := 0, locals := 0 }) [.int kd, .int b, .int t] [] (fun (r : Int32) w1 => (r = bl kd b t) ∧ w1 = []) := by
  refine MI.mk (by decide) (Nat.le_of_ble_eq_true rfl) ?_
  intro p_ e_ s_ m_ ar_ be_ me_ cd_ A_ ls C hrt hW hl
  have hx := C.1; have hb := C.2.1; have hown := C.2.2.2.1; have ht := C.2.2.2.2.1
  replace hl : lv_has ls 5 [(0, .int kd), (1, .int b), (2, .int t)] := hl
  generalize hQ : MQ be_ _ ar_ s_ 0 0 A_ = Q
  refine lv_iload_n hx hb dX11_hitsAs_0 rfl (lv_at hl 1 rfl) ?_
  refine lv_bipush (v := 6) hx hb dX11_hitsAs_1 (by decide) ?_
  refine lv_iadd hx hb dX11_hitsAs_3 ?_
  refine lv_istore_n (lv' := [(3, .int (b + 6)), (0, .int kd), (1, .int b), (2, .int t)]) hx hb dX11_hitsAs_4 rfl hl (by decide) rfl ?_
  clear hl ls; intro ls hl
  refine lv_iload_n hx hb dX11_hitsAs_5 rfl (lv_at hl 0 rfl) ?_
  refine lv_iconst (v := 1) hx hb dX11_hitsAs_6 (by decide) ?_
  refine lv_iadd hx hb dX11_hitsAs_7 ?_
  refine lv_iconst (v := 2) hx hb dX11_hitsAs_8 (by decide) ?_
  refine lv_idiv hx hb dX11_hitsAs_9 (by decide) ?_
  refine lv_istore (lv' := [(4, .int (((b + 6) + 1) / 2)), (3, .int (b + 6)), (0, .int kd), (1, .int b), (2, .int t)]) hx hb dX11_hitsAs_10 hl (by decide) rfl ?_
  clear hl ls; intro ls hl
  refine lv_iload_n hx hb dX11_hitsAs_12 rfl (lv_at hl 2 rfl) ?_
  by_cases c_1447 : kd = 1
  · refine lv_as c_1447 (lv_tableIn (tgt := 48) hx hb dX11_hitsAs_13 (by decide) (by decide) rfl (by decide) ?_)
    refine lv_iload hx hb dX11_hitsAs_48 (lv_at hl 0 rfl) ?_
    subst hQ
    exact g_iret (v := (((b + 6) + 1) / 2)) C hW hrt ⟨by first | rfl | (simp only [bl, c_1447, if_true, if_false, reduceIte]; done) | (simp [bl, c_1447]; done) | (simp_all [bl]; done) | (simp only [bl, c_1447]; (repeat' split) <;> first | rfl | (simp_all; done)), rfl⟩ dX11_hitsAs_50
  by_cases c_1448 : kd = 2
  · refine lv_as c_1448 (lv_tableIn (tgt := 51) hx hb dX11_hitsAs_13 (by decide) (by decide) rfl (by decide) ?_)
    refine lv_iload_n hx hb dX11_hitsAs_51 rfl (lv_at hl 1 rfl) ?_
    refine lv_iconst (v := 5) hx hb dX11_hitsAs_52 (by decide) ?_
    refine lv_iadd hx hb dX11_hitsAs_53 ?_
    subst hQ
    exact g_iret (v := ((b + 6) + 5)) C hW hrt ⟨by first | rfl | (simp only [bl, c_1447, c_1448, if_true, if_false, reduceIte]; done) | (simp [bl, c_1447, c_1448]; done) | (simp_all [bl]; done) | (simp only [bl, c_1447, c_1448]; (repeat' split) <;> first | rfl | (simp_all; done)), rfl⟩ dX11_hitsAs_54
  by_cases c_1449 : kd = 3
  · refine lv_as c_1449 (lv_tableIn (tgt := 55) hx hb dX11_hitsAs_13 (by decide) (by decide) rfl (by decide) ?_)
    refine lv_iload_n hx hb dX11_hitsAs_55 rfl (lv_at hl 4 rfl) ?_
    refine lv_bipush (v := 6) hx hb dX11_hitsAs_56 (by decide) ?_
    refine lv_icmp_ge (tgt := 65) hx hb dX11_hitsAs_58 (by decide) (fun c_1450 => ?_) (fun c_1450 => ?_)
    · replace c_1450 := Int32.not_lt.mpr c_1450
      refine lv_iload hx hb dX11_hitsAs_65 (lv_at hl 0 rfl) ?_
      subst hQ
      exact g_iret (v := (((b + 6) + 1) / 2)) C hW hrt ⟨by first | rfl | (simp only [bl, c_1447, c_1448, c_1449, c_1450, if_true, if_false, reduceIte]; done) | (simp [bl, c_1447, c_1448, c_1449, c_1450]; done) | (simp_all [bl]; done) | (simp only [bl, c_1447, c_1448, c_1449, c_1450]; (repeat' split) <;> first | rfl | (simp_all; done)), rfl⟩ dX11_hitsAs_67
    · replace c_1450 := Int32.not_le.mp c_1450
      refine lv_iconst (v := 0) hx hb dX11_hitsAs_61 (by decide) ?_
      refine lv_goto (tgt := 67) hx hb dX11_hitsAs_62 (by decide) ?_
      subst hQ
      exact g_iret (v := 0) C hW hrt ⟨by first | rfl | (simp only [bl, c_1447, c_1448, c_1449, c_1450, if_true, if_false, reduceIte]; done) | (simp [bl, c_1447, c_1448, c_1449, c_1450]; done) | (simp_all [bl]; done) | (simp only [bl, c_1447, c_1448, c_1449, c_1450]; (repeat' split) <;> first | rfl | (simp_all; done)), rfl⟩ dX11_hitsAs_67
  by_cases c_1451 : kd = 4
  · refine lv_as c_1451 (lv_tableIn (tgt := 68) hx hb dX11_hitsAs_13 (by decide) (by decide) rfl (by decide) ?_)
    refine lv_iload_n hx hb dX11_hitsAs_68 rfl (lv_at hl 4 rfl) ?_
    refine lv_bipush (v := 7) hx hb dX11_hitsAs_69 (by decide) ?_
    refine lv_irem hx hb dX11_hitsAs_71 (by decide) ?_
    refine lv_if_ne (tgt := 79) hx hb dX11_hitsAs_72 (by decide) (fun c_1452 => ?_) (fun c_1452 => ?_)
    · refine lv_iload_n hx hb dX11_hitsAs_79 rfl (lv_at hl 1 rfl) ?_
      subst hQ
      exact g_iret (v := (b + 6)) C hW hrt ⟨by first | rfl | (simp only [bl, c_1447, c_1448, c_1449, c_1451, c_1452, if_true, if_false, reduceIte]; done) | (simp [bl, c_1447, c_1448, c_1449, c_1451, c_1452]; done) | (simp_all [bl]; done) | (simp only [bl, c_1447, c_1448, c_1449, c_1451, c_1452]; (repeat' split) <;> first | rfl | (simp_all; done)), rfl⟩ dX11_hitsAs_80
    · refine lv_iconst (v := 1) hx hb dX11_hitsAs_75 (by decide) ?_
      refine lv_goto (tgt := 80) hx hb dX11_hitsAs_76 (by decide) ?_
      subst hQ
      exact g_iret (v := 1) C hW hrt ⟨by first | rfl | (simp only [bl, c_1447, c_1448, c_1449, c_1451, c_1452, if_true, if_false, reduceIte]; done) | (simp [bl, c_1447, c_1448, c_1449, c_1451, c_1452]; done) | (simp_all [bl]; done) | (simp only [bl, c_1447, c_1448, c_1449, c_1451, c_1452]; (repeat' split) <;> first | rfl | (simp_all; done)), rfl⟩ dX11_hitsAs_80
  by_cases c_1453 : kd = 5
  · refine lv_as c_1453 (lv_tableIn (tgt := 81) hx hb dX11_hitsAs_13 (by decide) (by decide) rfl (by decide) ?_)
    refine lv_iload_n hx hb dX11_hitsAs_81 rfl (lv_at hl 4 rfl) ?_
    refine lv_bipush (v := 18) hx hb dX11_hitsAs_82 (by decide) ?_
    refine lv_icmp_lt (tgt := 94) hx hb dX11_hitsAs_84 (by decide) (fun c_1454 => ?_) (fun c_1454 => ?_)
    · replace c_1454 := Int32.not_le.mpr c_1454
      refine lv_iload_n hx hb dX11_hitsAs_94 rfl (lv_at hl 1 rfl) ?_
      refine lv_iconst (v := 5) hx hb dX11_hitsAs_95 (by decide) ?_
      refine lv_iadd hx hb dX11_hitsAs_96 ?_
      subst hQ
      exact g_iret (v := ((b + 6) + 5)) C hW hrt ⟨by first | rfl | (simp only [bl, c_1447, c_1448, c_1449, c_1451, c_1453, c_1454, if_true, if_false, reduceIte]; done) | (simp [bl, c_1447, c_1448, c_1449, c_1451, c_1453, c_1454]; done) | (simp_all [bl]; done) | (simp only [bl, c_1447, c_1448, c_1449, c_1451, c_1453, c_1454]; (repeat' split) <;> first | rfl | (simp_all; done)), rfl⟩ dX11_hitsAs_97
    · replace c_1454 := Int32.not_lt.mp c_1454
      refine lv_iload_n hx hb dX11_hitsAs_87 rfl (lv_at hl 1 rfl) ?_
      refine lv_bipush (v := 9) hx hb dX11_hitsAs_88 (by decide) ?_
      refine lv_iadd hx hb dX11_hitsAs_90 ?_
      refine lv_goto (tgt := 97) hx hb dX11_hitsAs_91 (by decide) ?_
      subst hQ
      exact g_iret (v := ((b + 6) + 9)) C hW hrt ⟨by first | rfl | (simp only [bl, c_1447, c_1448, c_1449, c_1451, c_1453, c_1454, if_true, if_false, reduceIte]; done) | (simp [bl, c_1447, c_1448, c_1449, c_1451, c_1453, c_1454]; done) | (simp_all [bl]; done) | (simp only [bl, c_1447, c_1448, c_1449, c_1451, c_1453, c_1454]; (repeat' split) <;> first | rfl | (simp_all; done)), rfl⟩ dX11_hitsAs_97
  refine lv_tableOut (tgt := 98) hx hb dX11_hitsAs_13 (by have q0 := sw_ne (z := 1) c_1447 (by decide); have q1 := sw_ne (z := 2) c_1448 (by decide); have q2 := sw_ne (z := 3) c_1449 (by decide); have q3 := sw_ne (z := 4) c_1451 (by decide); have q4 := sw_ne (z := 5) c_1453 (by decide); omega) (by decide) ?_
  refine lv_iload_n hx hb dX11_hitsAs_98 rfl (lv_at hl 1 rfl) ?_
  subst hQ
  exact g_iret (v := (b + 6)) C hW hrt ⟨by first | rfl | (simp only [bl, c_1447, c_1448, c_1449, c_1451, c_1453, if_true, if_false, reduceIte]; done) | (simp [bl, c_1447, c_1448, c_1449, c_1451, c_1453]; done) | (simp_all [bl]; done) | (simp only [bl, c_1447, c_1448, c_1449, c_1451, c_1453]; (repeat' split) <;> first | rfl | (simp_all; done)), rfl⟩ dX11_hitsAs_99
set_option maxHeartbeats 4000000 in
set_option maxRecDepth 100000 in
theorem c_X11_helps (l : Launch) (G : gT) (of zL : Nat) (a : Nat → Int32) (hl_ : Int32) (hr : Nat) (hL : 40 ≤ zL ∧ zL ≤ 159) (hh : hr < 20000) : MI l G yX11_helps cX11_helps 4 .int ({ frames := 0, cells := 0, slots := 0, locals := 0 }) [.ref of, .int hl_, .int (nI hr)] [(of, .inl (G.2.1, zL, .inl a))] (fun (r : Int32) w1 => (r = hp hl_ (a (13 + hr % 6))) ∧ w1 = [(of, .inl (G.2.1, zL, .inl a))]) := by
  refine MI.mk (by decide) (Nat.le_of_ble_eq_true rfl) ?_
  intro p_ e_ s_ m_ ar_ be_ me_ cd_ A_ ls C hrt hW hl
  have hx := C.1; have hb := C.2.1; have hown := C.2.2.2.1; have ht := C.2.2.2.2.1
  replace hl : lv_has ls 4 [(0, .ref of), (1, .int hl_), (2, .int (nI hr))] := hl
  generalize hQ : MQ be_ _ ar_ s_ 0 0 A_ = Q
  refine lv_aload_n hx hb dX11_helps_0 rfl (lv_at hl 0 rfl) ?_
  refine lv_bipush (v := 13) hx hb dX11_helps_1 (by decide) ?_
  refine lv_iload_n hx hb dX11_helps_3 rfl (lv_at hl 2 rfl) ?_
  refine lv_bipush (v := 6) hx hb dX11_helps_4 (by decide) ?_
  refine lv_irem hx hb dX11_helps_6 (by decide) ?_
  refine lv_as (y := nI (hr % 6)) (pk_rem (by omega) (by decide) (by decide)) ?_
  refine lv_iadd hx hb dX11_helps_7 ?_
  refine g_ald C hW 0 rfl (ix_in (show (13 + (nI (hr % 6))) = nI (13 + hr % 6) from (by first | rfl | (simp only [nI_lit, nI_add, pk_mul]; done) | (simp only [nI_lit, nI_add, pk_mul]; congr 1; omega))) (by omega) (by omega)) dX11_helps_8 ?_
  refine lv_as (y := a (13 + hr % 6)) (by rw [show (13 + (nI (hr % 6))).toNatClampNeg = (13 + hr % 6) from ix_cl (show (13 + (nI (hr % 6))) = nI (13 + hr % 6) from (by first | rfl | (simp only [nI_lit, nI_add, pk_mul]; done) | (simp only [nI_lit, nI_add, pk_mul]; congr 1; omega))) (Nat.lt_of_lt_of_le (m := zL) (by omega) (by omega))]) ?_
  refine lv_istore_n (lv' := [(3, .int (a (13 + hr % 6))), (0, .ref of), (1, .int hl_), (2, .int (nI hr))]) hx hb dX11_helps_9 rfl hl (by decide) rfl ?_
  clear hl ls; intro ls hl
  refine lv_iload_n hx hb dX11_helps_10 rfl (lv_at hl 2 rfl) ?_
  have J_1457 : ∀ (y_1456 : Int32) (_ : y_1456 = (if hl_ = 0 then a (13 + hr % 6) else -(a (13 + hr % 6)))), ∀ (H : Heap) (locs : List Loc) (ls : Array Slot), Wd G A_ s_.heap [(of, .inl (G.2.1, zL, .inl a))] H locs → lv_has ls 4 [(3, .int (a (13 + hr % 6))), (0, .ref of), (1, .int hl_), (2, .int (nI hr))] → W p_ l e_ ({ frames := 0, cells := 0, slots := 0, locals := 0 }) s_ m_ ar_ be_ me_ cd_ H locs 0 0 Q (F0 m_ 20 ls [.int y_1456]) := by
    intro y_1456 ey_1456 H locs ls hW hl
    subst hQ
    exact g_iret (v := y_1456) C hW hrt ⟨by first | rfl | (simp only [hp, ey_1456, if_true, if_false, reduceIte]; done) | (simp [hp, ey_1456]; done) | (simp_all [hp]; done) | (simp only [hp, ey_1456]; (repeat' split) <;> first | rfl | (simp_all; done)), rfl⟩ dX11_helps_20
  refine lv_if_ne (tgt := 18) hx hb dX11_helps_11 (by decide) (fun c_1455 => ?_) (fun c_1455 => ?_)
  · refine lv_iload_n hx hb dX11_helps_18 rfl (lv_at hl 0 rfl) ?_
    refine lv_ineg hx hb dX11_helps_19 ?_
    exact J_1457 (-(a (13 + hr % 6))) (by first | (simp only [c_1455, if_true, if_false, reduceIte]; done) | (simp [c_1455]; done) | rfl | (rw [if_neg c_1455]; done)) _ _ _ hW (lv_sub hl [0, 1, 2, 3] rfl)
  · refine lv_iload_n hx hb dX11_helps_14 rfl (lv_at hl 0 rfl) ?_
    refine lv_goto (tgt := 20) hx hb dX11_helps_15 (by decide) ?_
    exact J_1457 (a (13 + hr % 6)) (by first | (simp only [c_1455, if_true, if_false, reduceIte]; done) | (simp [c_1455]; done) | rfl | (rw [if_pos c_1455]; done)) _ _ _ hW (lv_sub hl [0, 1, 2, 3] rfl)
set_option maxHeartbeats 4000000 in
set_option maxRecDepth 100000 in
theorem c_X11_reachFrom (l : Launch) (G : gT) (of zL : Nat) (a : Nat → Int32) (k hr : Nat) (hl_ g : Int32) (hL : 40 ≤ zL ∧ zL ≤ 159) (hh : hr < 20000) (hk : k < 7) : MI l G yX11_reachFrom cX11_reachFrom 5 .int ({ frames := 1, cells := 0, slots := 0, locals := 25 }) [.ref of, .int (nI k), .int hl_, .int (nI hr), .int g] [(of, .inl (G.2.1, zL, .inl a))] (fun (r : Int32) w1 => (r = rcA a k hr hl_ g) ∧ w1 = [(of, .inl (G.2.1, zL, .inl a))]) := by
  refine MI.mk (by decide) (Nat.le_of_ble_eq_true rfl) ?_
  intro p_ e_ s_ m_ ar_ be_ me_ cd_ A_ ls C hrt hW hl
  have hx := C.1; have hb := C.2.1; have hown := C.2.2.2.1; have ht := C.2.2.2.2.1
  replace hl : lv_has ls 5 [(0, .ref of), (1, .int (nI k)), (2, .int hl_), (3, .int (nI hr)), (4, .int g)] := hl
  generalize hQ : MQ be_ _ ar_ s_ 0 0 A_ = Q
  refine lv_aload_n hx hb dX11_reachFrom_0 rfl (lv_at hl 0 rfl) ?_
  refine lv_bipush (v := 6) hx hb dX11_reachFrom_1 (by decide) ?_
  refine g_ald C hW 0 rfl (vp_in_nI (n := 6) (by omega) (by omega)) dX11_reachFrom_3 ?_
  refine lv_as (y := a 6) (rfl) ?_
  refine lv_iload hx hb dX11_reachFrom_4 (lv_at hl 4 rfl) ?_
  refine lv_aload_n hx hb dX11_reachFrom_6 rfl (lv_at hl 0 rfl) ?_
  refine lv_bipush (v := 19) hx hb dX11_reachFrom_7 (by decide) ?_
  refine lv_iload_n hx hb dX11_reachFrom_9 rfl (lv_at hl 1 rfl) ?_
  refine lv_iadd hx hb dX11_reachFrom_10 ?_
  refine g_ald C hW 0 rfl (ix_in (show (19 + (nI k)) = nI (19 + k) from (by first | rfl | (simp only [nI_lit, nI_add, pk_mul]; done) | (simp only [nI_lit, nI_add, pk_mul]; congr 1; omega))) (by omega) (by omega)) dX11_reachFrom_11 ?_
  refine lv_as (y := a (19 + k)) (by rw [show (19 + (nI k)).toNatClampNeg = (19 + k) from ix_cl (show (19 + (nI k)) = nI (19 + k) from (by first | rfl | (simp only [nI_lit, nI_add, pk_mul]; done) | (simp only [nI_lit, nI_add, pk_mul]; congr 1; omega))) (Nat.lt_of_lt_of_le (m := zL) (by omega) (by omega))]) ?_
  refine lv_aload_n hx hb dX11_reachFrom_12 rfl (lv_at hl 0 rfl) ?_
  refine lv_bipush (v := 33) hx hb dX11_reachFrom_13 (by decide) ?_
  refine lv_iload_n hx hb dX11_reachFrom_15 rfl (lv_at hl 1 rfl) ?_
  refine lv_iadd hx hb dX11_reachFrom_16 ?_
  refine g_ald C hW 0 rfl (ix_in (show (33 + (nI k)) = nI (33 + k) from (by first | rfl | (simp only [nI_lit, nI_add, pk_mul]; done) | (simp only [nI_lit, nI_add, pk_mul]; congr 1; omega))) (by omega) (by omega)) dX11_reachFrom_17 ?_
  refine lv_as (y := a (33 + k)) (by rw [show (33 + (nI k)).toNatClampNeg = (33 + k) from ix_cl (show (33 + (nI k)) = nI (33 + k) from (by first | rfl | (simp only [nI_lit, nI_add, pk_mul]; done) | (simp only [nI_lit, nI_add, pk_mul]; congr 1; omega))) (Nat.lt_of_lt_of_le (m := zL) (by omega) (by omega))]) ?_
  refine lv_iload_n hx hb dX11_reachFrom_18 rfl (lv_at hl 3 rfl) ?_
  refine lv_bipush (v := 24) hx hb dX11_reachFrom_19 (by decide) ?_
  refine lv_irem hx hb dX11_reachFrom_21 (by decide) ?_
  refine lv_as (y := nI (hr % 24)) (pk_rem (by omega) (by decide) (by decide)) ?_
  refine g_fi C hW [] rfl (g_runS (As := [.int (a (19 + k)), .int (a (33 + k)), .int (nI (hr % 24))]) (rest := [.int g, .int (a 6)]) (wc := []) C hW hl (c_X11_hitsAs l G (a (19 + k)) (a (33 + k)) (nI (hr % 24))  _) k_ml_X11_91 q_X11_hitsAs (by decide) [] rfl rfl rfl rfl (Nat.le_of_ble_eq_true rfl) dX11_reachFrom_22 (by decide)) (fun r_1458 er_1458 => ?_)
  clear hW; intro H locs hW
  refine lv_as (y := bl (a (19 + k)) (a (33 + k)) (nI (hr % 24))) er_1458 ?_
  clear er_1458 r_1458
  refine lv_aload_n hx hb dX11_reachFrom_25 rfl (lv_at hl 0 rfl) ?_
  refine lv_iload_n hx hb dX11_reachFrom_26 rfl (lv_at hl 2 rfl) ?_
  refine lv_iload_n hx hb dX11_reachFrom_27 rfl (lv_at hl 3 rfl) ?_
  refine g_fi C hW [0] rfl (g_runS (As := [.ref of, .int hl_, .int (nI hr)]) (rest := [.int (bl (a (19 + k)) (a (33 + k)) (nI (hr % 24))), .int g, .int (a 6)]) (wc := [(of, .inl (G.2.1, zL, .inl a))]) C hW hl (c_X11_helps l G of zL a hl_ hr (by first | assumption | omega) (by first | assumption | omega) _) k_ml_X11_95 q_X11_helps (by decide) [0] rfl rfl rfl rfl (Nat.le_of_ble_eq_true rfl) dX11_reachFrom_28 (by decide)) (fun r_1459 er_1459 => ?_)
  clear hW H locs; intro H locs hW
  refine lv_as (y := hp hl_ (a (13 + hr % 6))) er_1459 ?_
  clear er_1459 r_1459
  refine g_fi C hW [] rfl (g_runS (As := [.int (a 6), .int g, .int (bl (a (19 + k)) (a (33 + k)) (nI (hr % 24))), .int (hp hl_ (a (13 + hr % 6)))]) (rest := []) (wc := []) C hW hl (c_X11_fliesAs l G (a 6) g (bl (a (19 + k)) (a (33 + k)) (nI (hr % 24))) (hp hl_ (a (13 + hr % 6)))  _) k_ml_X11_99 q_X11_fliesAs (by decide) [] rfl rfl rfl rfl (Nat.le_of_ble_eq_true rfl) dX11_reachFrom_31 (by decide)) (fun r_1460 er_1460 => ?_)
  clear hW H locs; intro H locs hW
  refine lv_as (y := fl (a 6) g (bl (a (19 + k)) (a (33 + k)) (nI (hr % 24))) (hp hl_ (a (13 + hr % 6)))) er_1460 ?_
  clear er_1460 r_1460
  subst hQ
  exact g_iret (v := (fl (a 6) g (bl (a (19 + k)) (a (33 + k)) (nI (hr % 24))) (hp hl_ (a (13 + hr % 6))))) C hW hrt ⟨by exact rcA_eq a k hr hl_ g, rfl⟩ dX11_reachFrom_34
set_option maxHeartbeats 4000000 in
set_option maxRecDepth 100000 in
theorem c_X11_carries (l : Launch) (G : gT) (of zL : Nat) (a : Nat → Int32) (k hr : Nat) (hl_ : Int32) (hL : 40 ≤ zL ∧ zL ≤ 159) (hh : hr < 20000) (hk : k < 7) : MI l G yX11_carries cX11_carries 4 .boolean ({ frames := 2, cells := 0, slots := 0, locals := 49 }) [.ref of, .int (nI k), .int hl_, .int (nI hr)] [(of, .inl (G.2.1, zL, .inl a))] (fun (r : Int32) w1 => (r = bI (crA a k hr hl_)) ∧ w1 = [(of, .inl (G.2.1, zL, .inl a))]) := by
  refine MI.mk (by decide) (Nat.le_of_ble_eq_true rfl) ?_
  intro p_ e_ s_ m_ ar_ be_ me_ cd_ A_ ls C hrt hW hl
  have hx := C.1; have hb := C.2.1; have hown := C.2.2.2.1; have ht := C.2.2.2.2.1
  replace hl : lv_has ls 4 [(0, .ref of), (1, .int (nI k)), (2, .int hl_), (3, .int (nI hr))] := hl
  generalize hQ : MQ be_ _ ar_ s_ 0 0 A_ = Q
  refine lv_aload_n hx hb dX11_carries_0 rfl (lv_at hl 0 rfl) ?_
  refine lv_iload_n hx hb dX11_carries_1 rfl (lv_at hl 1 rfl) ?_
  refine lv_iload_n hx hb dX11_carries_2 rfl (lv_at hl 2 rfl) ?_
  refine lv_iload_n hx hb dX11_carries_3 rfl (lv_at hl 3 rfl) ?_
  refine lv_aload_n hx hb dX11_carries_4 rfl (lv_at hl 0 rfl) ?_
  refine lv_bipush (v := 7) hx hb dX11_carries_5 (by decide) ?_
  refine g_ald C hW 0 rfl (vp_in_nI (n := 7) (by omega) (by omega)) dX11_carries_7 ?_
  refine lv_as (y := a 7) (rfl) ?_
  refine g_fi C hW [0] rfl (g_runS (As := [.ref of, .int (nI k), .int hl_, .int (nI hr), .int (a 7)]) (rest := []) (wc := [(of, .inl (G.2.1, zL, .inl a))]) C hW hl (c_X11_reachFrom l G of zL a k hr hl_ (a 7) (by first | assumption | omega) (by first | assumption | omega) (by first | assumption | omega) _) k_ml_X11_103 q_X11_reachFrom (by decide) [0] rfl rfl rfl rfl (Nat.le_of_ble_eq_true rfl) dX11_carries_8 (by decide)) (fun r_1461 er_1461 => ?_)
  clear hW; intro H locs hW
  refine lv_as (y := rcA a k hr hl_ (a 7)) er_1461 ?_
  clear er_1461 r_1461
  refine lv_aload_n hx hb dX11_carries_11 rfl (lv_at hl 0 rfl) ?_
  refine lv_iconst (v := 5) hx hb dX11_carries_12 (by decide) ?_
  refine g_ald C hW 0 rfl (vp_in_nI (n := 5) (by omega) (by omega)) dX11_carries_13 ?_
  refine lv_as (y := a 5) (rfl) ?_
  have J_1464 : ∀ (y_1463 : Int32) (_ : y_1463 = (if (a 5) ≤ (rcA a k hr hl_ (a 7)) then 1 else 0)), ∀ (H : Heap) (locs : List Loc) (ls : Array Slot), Wd G A_ s_.heap [(of, .inl (G.2.1, zL, .inl a))] H locs → lv_has ls 4 [(0, .ref of), (1, .int (nI k)), (2, .int hl_), (3, .int (nI hr))] → W p_ l e_ ({ frames := 2, cells := 0, slots := 0, locals := 49 }) s_ m_ ar_ be_ me_ cd_ H locs 0 0 Q (F0 m_ 22 ls [.int y_1463]) := by
    intro y_1463 ey_1463 H locs ls hW hl
    subst hQ
    exact g_zret (v := y_1463) C hW hrt (by (simp only [ey_1463]; rw [bI_if]; exact bI_nar _)) ⟨by (simp only [ey_1463]; exact bI_if), rfl⟩ dX11_carries_22
  refine lv_icmp_lt (tgt := 21) hx hb dX11_carries_14 (by decide) (fun c_1462 => ?_) (fun c_1462 => ?_)
  · replace c_1462 := Int32.not_le.mpr c_1462
    refine lv_iconst (v := 0) hx hb dX11_carries_21 (by decide) ?_
    exact J_1464 0 (by first | (simp only [c_1462, if_true, if_false, reduceIte]; done) | (simp [c_1462]; done) | rfl | (rw [if_neg c_1462]; done)) _ _ _ hW (lv_sub hl [0, 1, 2, 3] rfl)
  · replace c_1462 := Int32.not_lt.mp c_1462
    refine lv_iconst (v := 1) hx hb dX11_carries_17 (by decide) ?_
    refine lv_goto (tgt := 22) hx hb dX11_carries_18 (by decide) ?_
    exact J_1464 1 (by first | (simp only [c_1462, if_true, if_false, reduceIte]; done) | (simp [c_1462]; done) | rfl | (rw [if_pos c_1462]; done)) _ _ _ hW (lv_sub hl [0, 1, 2, 3] rfl)
