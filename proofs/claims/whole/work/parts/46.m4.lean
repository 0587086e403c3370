set_option maxHeartbeats 4000000 in
set_option maxRecDepth 100000 in
theorem c_X11_hits_ok (l : Launch) (G : gT) (mo al ke ik rq so ha te bt an vs : Nat) (mab mbe : Int64) (bL tA tL tK tV : Int32) (a : Nat → Int32) (n u k hr : Nat) (hk : k < n) (hn : n ≤ 7) (e0 : a 0 = nI n) (e4 : a 4 = nI u) (hu : u ≤ 8) (e12 : a 12 = nI hr) (hh : hr < 10000) (hcs : chA a k = true) : MI l G yX11_hits cX11_hits 2 .int ({ frames := 4, cells := 0, slots := 0, locals := 94 }) [.ref mo, .int (nI k)] [(mo, .inr (9, [.ref al, .ref ke, .ref ik, .ref rq, .long mab, .long mbe, .ref so, .ref ha, .ref te, .ref bt, .int bL, .int tA, .int tL, .int tK, .int tV, .ref an, .ref vs])), (al, .inl (G.2.1, 159, .inl a))] (fun (r : Int32) w1 => ∃ u_ : Unit, (r = bI (crA (svA a u) k hr (svA a u 8))) ∧ w1 = [(mo, .inr (9, [.ref al, .ref ke, .ref ik, .ref rq, .long mab, .long mbe, .ref so, .ref ha, .ref te, .ref bt, .int bL, .int tA, .int tL, .int tK, .int tV, .ref an, .ref vs])), (al, .inl (G.2.1, 159, .inl (ghA (svA a u) (crA (svA a u) k hr (svA a u 8)))))]) := by
  refine MI.mk (by decide) (Nat.le_of_ble_eq_true rfl) ?_
  intro p_ e_ s_ m_ ar_ be_ me_ cd_ A_ ls C hrt hW hl
  have hx := C.1; have hb := C.2.1; have hown := C.2.2.2.1; have ht := C.2.2.2.2.1
  replace hl : lv_has ls 2 [(0, .ref mo), (1, .int (nI k))] := hl
  generalize hQ : MQ be_ _ ar_ s_ 0 0 A_ = Q
  refine lv_aload_n hx hb dX11_hits_0 rfl (lv_at hl 0 rfl) ?_
  refine lv_iload_n hx hb dX11_hits_1 rfl (lv_at hl 1 rfl) ?_
  refine g_fi C hW [0, 1] rfl (g_runV (As := [.int (nI k)]) (rest := []) (wc := [(mo, .inr (9, [.ref al, .ref ke, .ref ik, .ref rq, .long mab, .long mbe, .ref so, .ref ha, .ref te, .ref bt, .int bL, .int tA, .int tL, .int tK, .int tV, .ref an, .ref vs])), (al, .inl (G.2.1, 159, .inl a))]) (q0 := 0) (ci := 9) C hW hl (c_X11_isPlayer l G mo al ke ik rq so ha te bt an vs mab mbe bL tA tL tK tV a n (nI k) (by first | assumption | omega) (by first | assumption | omega) _) k_ml_X11_118 q_X11_isPlayer (by decide) [0, 1] rfl rfl rfl rfl rfl rfl (Nat.le_of_ble_eq_true rfl) dX11_hits_2 (by decide)) (fun r_1501 er_1501 => ?_)
  clear hW; intro H locs hW
  refine lv_as (y := bI (okp n (nI k))) er_1501 ?_
  clear er_1501 r_1501
  refine lv_if_ne (tgt := 15) hx hb dX11_hits_5 (by decide) (fun c_1502 => ?_) (fun c_1502 => ?_)
  · refine lv_aload_n hx hb dX11_hits_15 rfl (lv_at hl 0 rfl) ?_
    refine g_get (k := 0) (v := .ref al) C hW 0 rfl rfl jnX11 (by decide) k_fl_X11_7 rfl dX11_hits_16 ?_
    refine lv_iload_n hx hb dX11_hits_19 rfl (lv_at hl 1 rfl) ?_
    refine g_fi C hW [1] rfl (g_runS (As := [.ref al, .int (nI k)]) (rest := []) (wc := [(al, .inl (G.2.1, 159, .inl a))]) C hW hl (c_X11_canHit l G al 159 a k (by first | assumption | omega) (by first | assumption | omega) _) k_ml_X11_121 q_X11_canHit (by decide) [1] rfl rfl rfl rfl (Nat.le_of_ble_eq_true rfl) dX11_hits_20 (by decide)) (fun r_1503 er_1503 => ?_)
    clear hW H locs; intro H locs hW
    refine lv_as (y := bI (chA a k)) er_1503 ?_
    clear er_1503 r_1503
    refine lv_if_ne (tgt := 31) hx hb dX11_hits_23 (by decide) (fun c_1504 => ?_) (fun c_1504 => ?_)
    · refine lv_aload_n hx hb dX11_hits_31 rfl (lv_at hl 0 rfl) ?_
      refine g_fvw (wr := []) (ww := fun (u_ : Unit) => [(mo, .inr (9, [.ref al, .ref ke, .ref ik, .ref rq, .long mab, .long mbe, .ref so, .ref ha, .ref te, .ref bt, .int bL, .int tA, .int tL, .int tK, .int tV, .ref an, .ref vs])), (al, .inl (G.2.1, 159, .inl (svA a u)))]) (w2 := fun (u_ : Unit) => [(mo, .inr (9, [.ref al, .ref ke, .ref ik, .ref rq, .long mab, .long mbe, .ref so, .ref ha, .ref te, .ref bt, .int bL, .int tA, .int tL, .int tK, .int tV, .ref an, .ref vs])), (al, .inl (G.2.1, 159, .inl (svA a u)))]) C hW [0, 1] [] [0, 1] rfl rfl (by decide) (by decide) (by decide) (fun _ => rfl) (g_runV (As := []) (rest := []) (wc := [(mo, .inr (9, [.ref al, .ref ke, .ref ik, .ref rq, .long mab, .long mbe, .ref so, .ref ha, .ref te, .ref bt, .int bL, .int tA, .int tL, .int tK, .int tV, .ref an, .ref vs])), (al, .inl (G.2.1, 159, .inl a))]) (q0 := 0) (ci := 9) C hW hl (c_X11_save l G mo al ke ik rq so ha te bt an vs mab mbe bL tA tL tK tV a u (by first | assumption | omega) (by first | assumption | omega) _) k_ml_X11_127 q_X11_save (by decide) [0, 1] rfl rfl rfl rfl rfl rfl (Nat.le_of_ble_eq_true rfl) dX11_hits_32 (by decide)) (fun _ er_1505 => ?_)
      clear hW H locs; intro H locs hW
      replace hW : Wd G A_ s_.heap [(mo, .inr (9, [.ref al, .ref ke, .ref ik, .ref rq, .long mab, .long mbe, .ref so, .ref ha, .ref te, .ref bt, .int bL, .int tA, .int tL, .int tK, .int tV, .ref an, .ref vs])), (al, .inl (G.2.1, 159, .inl (svA a u)))] H locs := hW
      refine lv_aload_n hx hb dX11_hits_35 rfl (lv_at hl 0 rfl) ?_
      refine g_get (k := 0) (v := .ref al) C hW 0 rfl rfl jnX11 (by decide) k_fl_X11_7 rfl dX11_hits_36 ?_
      refine lv_iload_n hx hb dX11_hits_39 rfl (lv_at hl 1 rfl) ?_
      refine g_fiw (wr := [(mo, .inr (9, [.ref al, .ref ke, .ref ik, .ref rq, .long mab, .long mbe, .ref so, .ref ha, .ref te, .ref bt, .int bL, .int tA, .int tL, .int tK, .int tV, .ref an, .ref vs]))]) (ww := fun (u_ : Unit) => [(al, .inl (G.2.1, 159, .inl (ghA (svA a u) (crA (svA a u) k hr ((svA a u) 8)))))]) (w2 := fun (u_ : Unit) => [(mo, .inr (9, [.ref al, .ref ke, .ref ik, .ref rq, .long mab, .long mbe, .ref so, .ref ha, .ref te, .ref bt, .int bL, .int tA, .int tL, .int tK, .int tV, .ref an, .ref vs])), (al, .inl (G.2.1, 159, .inl (ghA (svA a u) (crA (svA a u) k hr ((svA a u) 8)))))]) C hW [1] [0] [0, 1] rfl rfl (by decide) (by decide) (by decide) (fun _ => rfl) (g_runS (As := [.ref al, .int (nI k)]) (rest := []) (wc := [(al, .inl (G.2.1, 159, .inl (svA a u)))]) C hW hl (c_X11_goHit l G al 159 (svA a u) k hr (by first | assumption | omega) (by first | assumption | omega) (by (rw [svA_lo (by decide) (by decide)]; assumption)) (by first | assumption | omega) _) k_ml_X11_130 q_X11_goHit (by decide) [1] rfl rfl rfl rfl (Nat.le_of_ble_eq_true rfl) dX11_hits_40 (by decide)) (fun r_1507 _ er_1507 => ?_)
      clear hW H locs; intro H locs hW
      refine lv_as (y := bI (crA (svA a u) k hr ((svA a u) 8))) er_1507 ?_
      clear er_1507 r_1507
      replace hW : Wd G A_ s_.heap [(mo, .inr (9, [.ref al, .ref ke, .ref ik, .ref rq, .long mab, .long mbe, .ref so, .ref ha, .ref te, .ref bt, .int bL, .int tA, .int tL, .int tK, .int tV, .ref an, .ref vs])), (al, .inl (G.2.1, 159, .inl (ghA (svA a u) (crA (svA a u) k hr ((svA a u) 8)))))] H locs := hW
      subst hQ
      exact g_iret (v := (bI (crA (svA a u) k hr ((svA a u) 8)))) C hW hrt ⟨(), by rfl, by rfl⟩ dX11_hits_43
    · exfalso; exact dd (by first | assumption | exact okp_nI (by omega) (by assumption) | exact decide_eq_true (by first | assumption | omega)) c_1504
  · exfalso; exact dd (okp_nI (by omega) (by assumption)) c_1502
set_option maxHeartbeats 4000000 in
set_option maxRecDepth 100000 in
theorem c_X11_hits_no (l : Launch) (G : gT) (mo al ke ik rq so ha te bt an vs : Nat) (mab mbe : Int64) (bL tA tL tK tV : Int32) (rv : Nat → Int32) (a : Nat → Int32) (n k : Nat) (hk : k < n) (hn : n ≤ 7) (e0 : a 0 = nI n) (hcs : chA a k = false) : MI l G yX11_hits cX11_hits 2 .int ({ frames := 2, cells := 0, slots := 0, locals := 46 }) [.ref mo, .int (nI k)] [(mo, .inr (9, [.ref al, .ref ke, .ref ik, .ref rq, .long mab, .long mbe, .ref so, .ref ha, .ref te, .ref bt, .int bL, .int tA, .int tL, .int tK, .int tV, .ref an, .ref vs])), (al, .inl (G.2.1, 159, .inl a)), (rq, .inl (G.2.1, 3, .inl rv))] (fun (r : Int32) w1 => ∃ u_ : Unit, (r = (-3)) ∧ w1 = [(mo, .inr (9, [.ref al, .ref ke, .ref ik, .ref rq, .long mab, .long mbe, .ref so, .ref ha, .ref te, .ref bt, .int bL, .int tA, .int tL, .int tK, .int tV, .ref an, .ref vs])), (al, .inl (G.2.1, 159, .inl a)), (rq, .inl (G.2.1, 3, .inl (upd rv 1 (rv 1 + 1))))]) := by
  refine MI.mk (by decide) (Nat.le_of_ble_eq_true rfl) ?_
  intro p_ e_ s_ m_ ar_ be_ me_ cd_ A_ ls C hrt hW hl
  have hx := C.1; have hb := C.2.1; have hown := C.2.2.2.1; have ht := C.2.2.2.2.1
  replace hl : lv_has ls 2 [(0, .ref mo), (1, .int (nI k))] := hl
  generalize hQ : MQ be_ _ ar_ s_ 0 0 A_ = Q
  refine lv_aload_n hx hb dX11_hits_0 rfl (lv_at hl 0 rfl) ?_
  refine lv_iload_n hx hb dX11_hits_1 rfl (lv_at hl 1 rfl) ?_
  refine g_fi C hW [0, 1] rfl (g_runV (As := [.int (nI k)]) (rest := []) (wc := [(mo, .inr (9, [.ref al, .ref ke, .ref ik, .ref rq, .long mab, .long mbe, .ref so, .ref ha, .ref te, .ref bt, .int bL, .int tA, .int tL, .int tK, .int tV, .ref an, .ref vs])), (al, .inl (G.2.1, 159, .inl a))]) (q0 := 0) (ci := 9) C hW hl (c_X11_isPlayer l G mo al ke ik rq so ha te bt an vs mab mbe bL tA tL tK tV a n (nI k) (by first | assumption | omega) (by first | assumption | omega) _) k_ml_X11_118 q_X11_isPlayer (by decide) [0, 1] rfl rfl rfl rfl rfl rfl (Nat.le_of_ble_eq_true rfl) dX11_hits_2 (by decide)) (fun r_1509 er_1509 => ?_)
  clear hW; intro H locs hW
  refine lv_as (y := bI (okp n (nI k))) er_1509 ?_
  clear er_1509 r_1509
  refine lv_if_ne (tgt := 15) hx hb dX11_hits_5 (by decide) (fun c_1510 => ?_) (fun c_1510 => ?_)
  · refine lv_aload_n hx hb dX11_hits_15 rfl (lv_at hl 0 rfl) ?_
    refine g_get (k := 0) (v := .ref al) C hW 0 rfl rfl jnX11 (by decide) k_fl_X11_7 rfl dX11_hits_16 ?_
    refine lv_iload_n hx hb dX11_hits_19 rfl (lv_at hl 1 rfl) ?_
    refine g_fi C hW [1] rfl (g_runS (As := [.ref al, .int (nI k)]) (rest := []) (wc := [(al, .inl (G.2.1, 159, .inl a))]) C hW hl (c_X11_canHit l G al 159 a k (by first | assumption | omega) (by first | assumption | omega) _) k_ml_X11_121 q_X11_canHit (by decide) [1] rfl rfl rfl rfl (Nat.le_of_ble_eq_true rfl) dX11_hits_20 (by decide)) (fun r_1511 er_1511 => ?_)
    clear hW H locs; intro H locs hW
    refine lv_as (y := bI (chA a k)) er_1511 ?_
    clear er_1511 r_1511
    refine lv_if_ne (tgt := 31) hx hb dX11_hits_23 (by decide) (fun c_1512 => ?_) (fun c_1512 => ?_)
    · exfalso; exact dd0 (by first | assumption | exact decide_eq_false (by first | assumption | omega)) c_1512
    · refine lv_aload_n hx hb dX11_hits_26 rfl (lv_at hl 0 rfl) ?_
      refine g_fiw (wr := [(al, .inl (G.2.1, 159, .inl a))]) (ww := fun (u_ : Unit) => [(mo, .inr (9, [.ref al, .ref ke, .ref ik, .ref rq, .long mab, .long mbe, .ref so, .ref ha, .ref te, .ref bt, .int bL, .int tA, .int tL, .int tK, .int tV, .ref an, .ref vs])), (rq, .inl (G.2.1, 3, .inl (upd rv 1 (rv 1 + 1))))]) (w2 := fun (u_ : Unit) => [(mo, .inr (9, [.ref al, .ref ke, .ref ik, .ref rq, .long mab, .long mbe, .ref so, .ref ha, .ref te, .ref bt, .int bL, .int tA, .int tL, .int tK, .int tV, .ref an, .ref vs])), (al, .inl (G.2.1, 159, .inl a)), (rq, .inl (G.2.1, 3, .inl (upd rv 1 (rv 1 + 1))))]) C hW [0, 2] [1] [1, 0, 2] rfl rfl (by decide) (by decide) (by decide) (fun _ => rfl) (g_runV (As := []) (rest := []) (wc := [(mo, .inr (9, [.ref al, .ref ke, .ref ik, .ref rq, .long mab, .long mbe, .ref so, .ref ha, .ref te, .ref bt, .int bL, .int tA, .int tL, .int tK, .int tV, .ref an, .ref vs])), (rq, .inl (G.2.1, 3, .inl rv))]) (q0 := 0) (ci := 9) C hW hl (c_X11_no l G mo al ke ik rq so ha te bt an vs mab mbe bL tA tL tK tV rv  _) k_ml_X11_124 q_X11_no (by decide) [0, 2] rfl rfl rfl rfl rfl rfl (Nat.le_of_ble_eq_true rfl) dX11_hits_27 (by decide)) (fun r_1513 _ er_1513 => ?_)
      clear hW H locs; intro H locs hW
      refine lv_as (y := (-3)) er_1513 ?_
      clear er_1513 r_1513
      replace hW : Wd G A_ s_.heap [(mo, .inr (9, [.ref al, .ref ke, .ref ik, .ref rq, .long mab, .long mbe, .ref so, .ref ha, .ref te, .ref bt, .int bL, .int tA, .int tL, .int tK, .int tV, .ref an, .ref vs])), (al, .inl (G.2.1, 159, .inl a)), (rq, .inl (G.2.1, 3, .inl (upd rv 1 (rv 1 + 1))))] H locs := hW
      subst hQ
      exact g_iret (v := (-3)) C hW hrt ⟨(), by rfl, by rfl⟩ dX11_hits_30
  · exfalso; exact dd (okp_nI (by omega) (by assumption)) c_1510
set_option maxHeartbeats 4000000 in
set_option maxRecDepth 100000 in
theorem c_X11_hits_bad (l : Launch) (G : gT) (mo al ke ik rq so ha te bt an vs : Nat) (mab mbe : Int64) (bL tA tL tK tV : Int32) (rv : Nat → Int32) (a : Nat → Int32) (n : Nat) (p9 : Int32) (e0 : a 0 = nI n) (hn : n ≤ 7) (hbad : okp n p9 = false) : MI l G yX11_hits cX11_hits 2 .int ({ frames := 2, cells := 0, slots := 0, locals := 46 }) [.ref mo, .int p9] [(mo, .inr (9, [.ref al, .ref ke, .ref ik, .ref rq, .long mab, .long mbe, .ref so, .ref ha, .ref te, .ref bt, .int bL, .int tA, .int tL, .int tK, .int tV, .ref an, .ref vs])), (al, .inl (G.2.1, 159, .inl a)), (rq, .inl (G.2.1, 3, .inl rv))] (fun (r : Int32) w1 => ∃ u_ : Unit, (r = (-2)) ∧ w1 = [(mo, .inr (9, [.ref al, .ref ke, .ref ik, .ref rq, .long mab, .long mbe, .ref so, .ref ha, .ref te, .ref bt, .int bL, .int tA, .int tL, .int tK, .int tV, .ref an, .ref vs])), (al, .inl (G.2.1, 159, .inl a)), (rq, .inl (G.2.1, 3, .inl (upd rv 0 (rv 0 + 1))))]) := by
  refine MI.mk (by decide) (Nat.le_of_ble_eq_true rfl) ?_
  intro p_ e_ s_ m_ ar_ be_ me_ cd_ A_ ls C hrt hW hl
  have hx := C.1; have hb := C.2.1; have hown := C.2.2.2.1; have ht := C.2.2.2.2.1
  replace hl : lv_has ls 2 [(0, .ref mo), (1, .int p9)] := hl
  generalize hQ : MQ be_ _ ar_ s_ 0 0 A_ = Q
  refine lv_aload_n hx hb dX11_hits_0 rfl (lv_at hl 0 rfl) ?_
  refine lv_iload_n hx hb dX11_hits_1 rfl (lv_at hl 1 rfl) ?_
  refine g_fi C hW [0, 1] rfl (g_runV (As := [.int p9]) (rest := []) (wc := [(mo, .inr (9, [.ref al, .ref ke, .ref ik, .ref rq, .long mab, .long mbe, .ref so, .ref ha, .ref te, .ref bt, .int bL, .int tA, .int tL, .int tK, .int tV, .ref an, .ref vs])), (al, .inl (G.2.1, 159, .inl a))]) (q0 := 0) (ci := 9) C hW hl (c_X11_isPlayer l G mo al ke ik rq so ha te bt an vs mab mbe bL tA tL tK tV a n p9 (by first | assumption | omega) (by first | assumption | omega) _) k_ml_X11_118 q_X11_isPlayer (by decide) [0, 1] rfl rfl rfl rfl rfl rfl (Nat.le_of_ble_eq_true rfl) dX11_hits_2 (by decide)) (fun r_1515 er_1515 => ?_)
  clear hW; intro H locs hW
  refine lv_as (y := bI (okp n p9)) er_1515 ?_
  clear er_1515 r_1515
  refine lv_if_ne (tgt := 15) hx hb dX11_hits_5 (by decide) (fun c_1516 => ?_) (fun c_1516 => ?_)
  · exfalso; simp [bI_ne.mp c_1516, if_true, if_false, reduceIte, Bool.false_eq_true] at hbad
  · refine lv_aload_n hx hb dX11_hits_8 rfl (lv_at hl 0 rfl) ?_
    refine lv_bipush (v := (-2)) hx hb dX11_hits_9 (by decide) ?_
    refine g_fiw (wr := [(al, .inl (G.2.1, 159, .inl a))]) (ww := fun (u_ : Unit) => [(mo, .inr (9, [.ref al, .ref ke, .ref ik, .ref rq, .long mab, .long mbe, .ref so, .ref ha, .ref te, .ref bt, .int bL, .int tA, .int tL, .int tK, .int tV, .ref an, .ref vs])), (rq, .inl (G.2.1, 3, .inl (upd rv 0 (rv 0 + 1))))]) (w2 := fun (u_ : Unit) => [(mo, .inr (9, [.ref al, .ref ke, .ref ik, .ref rq, .long mab, .long mbe, .ref so, .ref ha, .ref te, .ref bt, .int bL, .int tA, .int tL, .int tK, .int tV, .ref an, .ref vs])), (al, .inl (G.2.1, 159, .inl a)), (rq, .inl (G.2.1, 3, .inl (upd rv 0 (rv 0 + 1))))]) C hW [0, 2] [1] [1, 0, 2] rfl rfl (by decide) (by decide) (by decide) (fun _ => rfl) (g_runV (As := [.int (-2)]) (rest := []) (wc := [(mo, .inr (9, [.ref al, .ref ke, .ref ik, .ref rq, .long mab, .long mbe, .ref so, .ref ha, .ref te, .ref bt, .int bL, .int tA, .int tL, .int tK, .int tV, .ref an, .ref vs])), (rq, .inl (G.2.1, 3, .inl rv))]) (q0 := 0) (ci := 9) C hW hl (c_X11_bad l G mo al ke ik rq so ha te bt an vs mab mbe bL tA tL tK tV rv (-2)  _) k_ml_X11_67 q_X11_bad (by decide) [0, 2] rfl rfl rfl rfl rfl rfl (Nat.le_of_ble_eq_true rfl) dX11_hits_11 (by decide)) (fun r_1517 _ er_1517 => ?_)
    clear hW H locs; intro H locs hW
    refine lv_as (y := (-2)) er_1517 ?_
    clear er_1517 r_1517
    replace hW : Wd G A_ s_.heap [(mo, .inr (9, [.ref al, .ref ke, .ref ik, .ref rq, .long mab, .long mbe, .ref so, .ref ha, .ref te, .ref bt, .int bL, .int tA, .int tL, .int tK, .int tV, .ref an, .ref vs])), (al, .inl (G.2.1, 159, .inl a)), (rq, .inl (G.2.1, 3, .inl (upd rv 0 (rv 0 + 1))))] H locs := hW
    subst hQ
    exact g_iret (v := (-2)) C hW hrt ⟨(), by rfl, by rfl⟩ dX11_hits_14
set_option maxHeartbeats 4000000 in
set_option maxRecDepth 100000 in
theorem c_X11_picks_ok (l : Launch) (G : gT) (mo al ke ik rq so ha te bt an vs : Nat) (mab mbe : Int64) (bL tA tL tK tV : Int32) (a : Nat → Int32) (u : Nat) (h9 : Int32) (e4 : a 4 = nI u) (hu : u ≤ 8) (h1 : iw h9 0 1 = true) (hup : ¬ a 9 = 1) : MI l G yX11_picks cX11_picks 2 .int ({ frames := 2, cells := 0, slots := 0, locals := 45 }) [.ref mo, .int h9] [(mo, .inr (9, [.ref al, .ref ke, .ref ik, .ref rq, .long mab, .long mbe, .ref so, .ref ha, .ref te, .ref bt, .int bL, .int tA, .int tL, .int tK, .int tV, .ref an, .ref vs])), (al, .inl (G.2.1, 159, .inl a))] (fun (r : Int32) w1 => ∃ u_ : Unit, (r = a 11) ∧ w1 = [(mo, .inr (9, [.ref al, .ref ke, .ref ik, .ref rq, .long mab, .long mbe, .ref so, .ref ha, .ref te, .ref bt, .int bL, .int tA, .int tL, .int tK, .int tV, .ref an, .ref vs])), (al, .inl (G.2.1, 159, .inl (upd (upd (svA a u) 9 1) 8 h9)))]) := by
  refine MI.mk (by decide) (Nat.le_of_ble_eq_true rfl) ?_
  intro p_ e_ s_ m_ ar_ be_ me_ cd_ A_ ls C hrt hW hl
  have hx := C.1; have hb := C.2.1; have hown := C.2.2.2.1; have ht := C.2.2.2.2.1
  replace hl : lv_has ls 2 [(0, .ref mo), (1, .int h9)] := hl
  generalize hQ : MQ be_ _ ar_ s_ 0 0 A_ = Q
  refine lv_iload_n hx hb dX11_picks_0 rfl (lv_at hl 1 rfl) ?_
  refine g_fi C hW [] rfl (g_runS (As := [.int h9]) (rest := []) (wc := []) C hW hl (c_X11_isHill l G h9  _) k_ml_X11_78 q_X11_isHill (by decide) [] rfl rfl rfl rfl (Nat.le_of_ble_eq_true rfl) dX11_picks_1 (by decide)) (fun r_1519 er_1519 => ?_)
  clear hW; intro H locs hW
  refine lv_as (y := bI (iw h9 0 1)) er_1519 ?_
  clear er_1519 r_1519
  refine lv_if_ne (tgt := 14) hx hb dX11_picks_4 (by decide) (fun c_1520 => ?_) (fun c_1520 => ?_)
  · refine lv_aload_n hx hb dX11_picks_14 rfl (lv_at hl 0 rfl) ?_
    refine g_get (k := 0) (v := .ref al) C hW 0 rfl rfl jnX11 (by decide) k_fl_X11_7 rfl dX11_picks_15 ?_
    refine lv_bipush (v := 9) hx hb dX11_picks_18 (by decide) ?_
    refine g_ald C hW 1 rfl (vp_in_nI (n := 9) (by omega) (by omega)) dX11_picks_20 ?_
    refine lv_as (y := a 9) (rfl) ?_
    refine lv_iconst (v := 1) hx hb dX11_picks_21 (by decide) ?_
    refine lv_icmp_ne (tgt := 30) hx hb dX11_picks_22 (by decide) (fun c_1521 => ?_) (fun c_1521 => ?_)
    · refine lv_aload_n hx hb dX11_picks_30 rfl (lv_at hl 0 rfl) ?_
      refine g_fvw (wr := []) (ww := fun (u_ : Unit) => [(mo, .inr (9, [.ref al, .ref ke, .ref ik, .ref rq, .long mab, .long mbe, .ref so, .ref ha, .ref te, .ref bt, .int bL, .int tA, .int tL, .int tK, .int tV, .ref an, .ref vs])), (al, .inl (G.2.1, 159, .inl (svA a u)))]) (w2 := fun (u_ : Unit) => [(mo, .inr (9, [.ref al, .ref ke, .ref ik, .ref rq, .long mab, .long mbe, .ref so, .ref ha, .ref te, .ref bt, .int bL, .int tA, .int tL, .int tK, .int tV, .ref an, .ref vs])), (al, .inl (G.2.1, 159, .inl (svA a u)))]) C hW [0, 1] [] [0, 1] rfl rfl (by decide) (by decide) (by decide) (fun _ => rfl) (g_runV (As := []) (rest := []) (wc := [(mo, .inr (9, [.ref al, .ref ke, .ref ik, .ref rq, .long mab, .long mbe, .ref so, .ref ha, .ref te, .ref bt, .int bL, .int tA, .int tL, .int tK, .int tV, .ref an, .ref vs])), (al, .inl (G.2.1, 159, .inl a))]) (q0 := 0) (ci := 9) C hW hl (c_X11_save l G mo al ke ik rq so ha te bt an vs mab mbe bL tA tL tK tV a u (by first | assumption | omega) (by first | assumption | omega) _) k_ml_X11_127 q_X11_save (by decide) [0, 1] rfl rfl rfl rfl rfl rfl (Nat.le_of_ble_eq_true rfl) dX11_picks_31 (by decide)) (fun _ er_1522 => ?_)
      clear hW H locs; intro H locs hW
      replace hW : Wd G A_ s_.heap [(mo, .inr (9, [.ref al, .ref ke, .ref ik, .ref rq, .long mab, .long mbe, .ref so, .ref ha, .ref te, .ref bt, .int bL, .int tA, .int tL, .int tK, .int tV, .ref an, .ref vs])), (al, .inl (G.2.1, 159, .inl (svA a u)))] H locs := hW
      refine lv_aload_n hx hb dX11_picks_34 rfl (lv_at hl 0 rfl) ?_
      refine g_get (k := 0) (v := .ref al) C hW 0 rfl rfl jnX11 (by decide) k_fl_X11_7 rfl dX11_picks_35 ?_
      refine lv_bipush (v := 9) hx hb dX11_picks_38 (by decide) ?_
      refine lv_iconst (v := 1) hx hb dX11_picks_40 (by decide) ?_
      refine g_ast (w' := [(mo, .inr (9, [.ref al, .ref ke, .ref ik, .ref rq, .long mab, .long mbe, .ref so, .ref ha, .ref te, .ref bt, .int bL, .int tA, .int tL, .int tK, .int tV, .ref an, .ref vs])), (al, .inl (G.2.1, 159, .inl (upd (svA a u) 9 1)))]) C hW 1 rfl (vp_in_nI (n := 9) (by omega) (by omega)) (by rw [show (9 : Int32).toNatClampNeg = 9 from rfl]; rfl) dX11_picks_41 ?_
      clear hW H locs; intro H locs hW
      refine lv_aload_n hx hb dX11_picks_42 rfl (lv_at hl 0 rfl) ?_
      refine g_get (k := 0) (v := .ref al) C hW 0 rfl rfl jnX11 (by decide) k_fl_X11_7 rfl dX11_picks_43 ?_
      refine lv_bipush (v := 8) hx hb dX11_picks_46 (by decide) ?_
      refine lv_iload_n hx hb dX11_picks_48 rfl (lv_at hl 1 rfl) ?_
      refine g_ast (w' := [(mo, .inr (9, [.ref al, .ref ke, .ref ik, .ref rq, .long mab, .long mbe, .ref so, .ref ha, .ref te, .ref bt, .int bL, .int tA, .int tL, .int tK, .int tV, .ref an, .ref vs])), (al, .inl (G.2.1, 159, .inl (upd (upd (svA a u) 9 1) 8 h9)))]) C hW 1 rfl (vp_in_nI (n := 8) (by omega) (by omega)) (by rw [show (8 : Int32).toNatClampNeg = 8 from rfl]; rfl) dX11_picks_49 ?_
      clear hW H locs; intro H locs hW
      refine lv_aload_n hx hb dX11_picks_50 rfl (lv_at hl 0 rfl) ?_
      refine g_get (k := 0) (v := .ref al) C hW 0 rfl rfl jnX11 (by decide) k_fl_X11_7 rfl dX11_picks_51 ?_
      refine lv_bipush (v := 11) hx hb dX11_picks_54 (by decide) ?_
      refine g_ald C hW 1 rfl (vp_in_nI (n := 11) (by omega) (by omega)) dX11_picks_56 ?_
      refine lv_as (y := (upd (upd (svA a u) 9 1) 8 h9) 11) (rfl) ?_
      subst hQ
      exact g_iret (v := ((upd (upd (svA a u) 9 1) 8 h9) 11)) C hW hrt ⟨(), by (rw [pk_un (by decide), pk_un (by decide), svA_lo (by decide) (by decide)]), by rfl⟩ dX11_picks_57
    · exfalso; exact hup c_1521
  · exfalso; exact dd (by first | assumption | exact okp_nI (by omega) (by assumption) | exact decide_eq_true (by first | assumption | omega)) c_1520
set_option maxHeartbeats 4000000 in
set_option maxRecDepth 100000 in
theorem c_X11_picks_no (l : Launch) (G : gT) (mo al ke ik rq so ha te bt an vs : Nat) (mab mbe : Int64) (bL tA tL tK tV : Int32) (rv : Nat → Int32) (a : Nat → Int32) (h9 : Int32) (h1 : iw h9 0 1 = true) (hup : a 9 = 1) : MI l G yX11_picks cX11_picks 2 .int ({ frames := 2, cells := 0, slots := 0, locals := 45 }) [.ref mo, .int h9] [(mo, .inr (9, [.ref al, .ref ke, .ref ik, .ref rq, .long mab, .long mbe, .ref so, .ref ha, .ref te, .ref bt, .int bL, .int tA, .int tL, .int tK, .int tV, .ref an, .ref vs])), (al, .inl (G.2.1, 159, .inl a)), (rq, .inl (G.2.1, 3, .inl rv))] (fun (r : Int32) w1 => ∃ u_ : Unit, (r = (-3)) ∧ w1 = [(mo, .inr (9, [.ref al, .ref ke, .ref ik, .ref rq, .long mab, .long mbe, .ref so, .ref ha, .ref te, .ref bt, .int bL, .int tA, .int tL, .int tK, .int tV, .ref an, .ref vs])), (al, .inl (G.2.1, 159, .inl a)), (rq, .inl (G.2.1, 3, .inl (upd rv 1 (rv 1 + 1))))]) := by
  refine MI.mk (by decide) (Nat.le_of_ble_eq_true rfl) ?_
  intro p_ e_ s_ m_ ar_ be_ me_ cd_ A_ ls C hrt hW hl
  have hx := C.1; have hb := C.2.1; have hown := C.2.2.2.1; have ht := C.2.2.2.2.1
  replace hl : lv_has ls 2 [(0, .ref mo), (1, .int h9)] := hl
  generalize hQ : MQ be_ _ ar_ s_ 0 0 A_ = Q
  refine lv_iload_n hx hb dX11_picks_0 rfl (lv_at hl 1 rfl) ?_
  refine g_fi C hW [] rfl (g_runS (As := [.int h9]) (rest := []) (wc := []) C hW hl (c_X11_isHill l G h9  _) k_ml_X11_78 q_X11_isHill (by decide) [] rfl rfl rfl rfl (Nat.le_of_ble_eq_true rfl) dX11_picks_1 (by decide)) (fun r_1524 er_1524 => ?_)
  clear hW; intro H locs hW
  refine lv_as (y := bI (iw h9 0 1)) er_1524 ?_
  clear er_1524 r_1524
  refine lv_if_ne (tgt := 14) hx hb dX11_picks_4 (by decide) (fun c_1525 => ?_) (fun c_1525 => ?_)
  · refine lv_aload_n hx hb dX11_picks_14 rfl (lv_at hl 0 rfl) ?_
    refine g_get (k := 0) (v := .ref al) C hW 0 rfl rfl jnX11 (by decide) k_fl_X11_7 rfl dX11_picks_15 ?_
    refine lv_bipush (v := 9) hx hb dX11_picks_18 (by decide) ?_
    refine g_ald C hW 1 rfl (vp_in_nI (n := 9) (by omega) (by omega)) dX11_picks_20 ?_
    refine lv_as (y := a 9) (rfl) ?_
    refine lv_iconst (v := 1) hx hb dX11_picks_21 (by decide) ?_
    refine lv_icmp_ne (tgt := 30) hx hb dX11_picks_22 (by decide) (fun c_1526 => ?_) (fun c_1526 => ?_)
    · exfalso; exact c_1526 hup
    · refine lv_aload_n hx hb dX11_picks_25 rfl (lv_at hl 0 rfl) ?_
      refine g_fiw (wr := [(al, .inl (G.2.1, 159, .inl a))]) (ww := fun (u_ : Unit) => [(mo, .inr (9, [.ref al, .ref ke, .ref ik, .ref rq, .long mab, .long mbe, .ref so, .ref ha, .ref te, .ref bt, .int bL, .int tA, .int tL, .int tK, .int tV, .ref an, .ref vs])), (rq, .inl (G.2.1, 3, .inl (upd rv 1 (rv 1 + 1))))]) (w2 := fun (u_ : Unit) => [(mo, .inr (9, [.ref al, .ref ke, .ref ik, .ref rq, .long mab, .long mbe, .ref so, .ref ha, .ref te, .ref bt, .int bL, .int tA, .int tL, .int tK, .int tV, .ref an, .ref vs])), (al, .inl (G.2.1, 159, .inl a)), (rq, .inl (G.2.1, 3, .inl (upd rv 1 (rv 1 + 1))))]) C hW [0, 2] [1] [1, 0, 2] rfl rfl (by decide) (by decide) (by decide) (fun _ => rfl) (g_runV (As := []) (rest := []) (wc := [(mo, .inr (9, [.ref al, .ref ke, .ref ik, .ref rq, .long mab, .long mbe, .ref so, .ref ha, .ref te, .ref bt, .int bL, .int tA, .int tL, .int tK, .int tV, .ref an, .ref vs])), (rq, .inl (G.2.1, 3, .inl rv))]) (q0 := 0) (ci := 9) C hW hl (c_X11_no l G mo al ke ik rq so ha te bt an vs mab mbe bL tA tL tK tV rv  _) k_ml_X11_124 q_X11_no (by decide) [0, 2] rfl rfl rfl rfl rfl rfl (Nat.le_of_ble_eq_true rfl) dX11_picks_26 (by decide)) (fun r_1527 _ er_1527 => ?_)
      clear hW H locs; intro H locs hW
      refine lv_as (y := (-3)) er_1527 ?_
      clear er_1527 r_1527
      replace hW : Wd G A_ s_.heap [(mo, .inr (9, [.ref al, .ref ke, .ref ik, .ref rq, .long mab, .long mbe, .ref so, .ref ha, .ref te, .ref bt, .int bL, .int tA, .int tL, .int tK, .int tV, .ref an, .ref vs])), (al, .inl (G.2.1, 159, .inl a)), (rq, .inl (G.2.1, 3, .inl (upd rv 1 (rv 1 + 1))))] H locs := hW
      subst hQ
      exact g_iret (v := (-3)) C hW hrt ⟨(), by rfl, by rfl⟩ dX11_picks_29
  · exfalso; exact dd (by first | assumption | exact okp_nI (by omega) (by assumption) | exact decide_eq_true (by first | assumption | omega)) c_1525
set_option maxHeartbeats 4000000 in
set_option maxRecDepth 100000 in
theorem c_X11_picks_bad (l : Launch) (G : gT) (mo al ke ik rq so ha te bt an vs : Nat) (mab mbe : Int64) (bL tA tL tK tV : Int32) (rv : Nat → Int32) (h9 : Int32) (hbad : iw h9 0 1 = false) : MI l G yX11_picks cX11_picks 2 .int ({ frames := 2, cells := 0, slots := 0, locals := 45 }) [.ref mo, .int h9] [(mo, .inr (9, [.ref al, .ref ke, .ref ik, .ref rq, .long mab, .long mbe, .ref so, .ref ha, .ref te, .ref bt, .int bL, .int tA, .int tL, .int tK, .int tV, .ref an, .ref vs])), (rq, .inl (G.2.1, 3, .inl rv))] (fun (r : Int32) w1 => ∃ u_ : Unit, (r = (-2)) ∧ w1 = [(mo, .inr (9, [.ref al, .ref ke, .ref ik, .ref rq, .long mab, .long mbe, .ref so, .ref ha, .ref te, .ref bt, .int bL, .int tA, .int tL, .int tK, .int tV, .ref an, .ref vs])), (rq, .inl (G.2.1, 3, .inl (upd rv 0 (rv 0 + 1))))]) := by
  refine MI.mk (by decide) (Nat.le_of_ble_eq_true rfl) ?_
  intro p_ e_ s_ m_ ar_ be_ me_ cd_ A_ ls C hrt hW hl
  have hx := C.1; have hb := C.2.1; have hown := C.2.2.2.1; have ht := C.2.2.2.2.1
  replace hl : lv_has ls 2 [(0, .ref mo), (1, .int h9)] := hl
  generalize hQ : MQ be_ _ ar_ s_ 0 0 A_ = Q
  refine lv_iload_n hx hb dX11_picks_0 rfl (lv_at hl 1 rfl) ?_
  refine g_fi C hW [] rfl (g_runS (As := [.int h9]) (rest := []) (wc := []) C hW hl (c_X11_isHill l G h9  _) k_ml_X11_78 q_X11_isHill (by decide) [] rfl rfl rfl rfl (Nat.le_of_ble_eq_true rfl) dX11_picks_1 (by decide)) (fun r_1529 er_1529 => ?_)
  clear hW; intro H locs hW
  refine lv_as (y := bI (iw h9 0 1)) er_1529 ?_
  clear er_1529 r_1529
  refine lv_if_ne (tgt := 14) hx hb dX11_picks_4 (by decide) (fun c_1530 => ?_) (fun c_1530 => ?_)
  · exfalso; simp [bI_ne.mp c_1530, if_true, if_false, reduceIte, Bool.false_eq_true] at hbad
  · refine lv_aload_n hx hb dX11_picks_7 rfl (lv_at hl 0 rfl) ?_
    refine lv_bipush (v := (-2)) hx hb dX11_picks_8 (by decide) ?_
    refine g_fiw (wr := []) (ww := fun (u_ : Unit) => [(mo, .inr (9, [.ref al, .ref ke, .ref ik, .ref rq, .long mab, .long mbe, .ref so, .ref ha, .ref te, .ref bt, .int bL, .int tA, .int tL, .int tK, .int tV, .ref an, .ref vs])), (rq, .inl (G.2.1, 3, .inl (upd rv 0 (rv 0 + 1))))]) (w2 := fun (u_ : Unit) => [(mo, .inr (9, [.ref al, .ref ke, .ref ik, .ref rq, .long mab, .long mbe, .ref so, .ref ha, .ref te, .ref bt, .int bL, .int tA, .int tL, .int tK, .int tV, .ref an, .ref vs])), (rq, .inl (G.2.1, 3, .inl (upd rv 0 (rv 0 + 1))))]) C hW [0, 1] [] [0, 1] rfl rfl (by decide) (by decide) (by decide) (fun _ => rfl) (g_runV (As := [.int (-2)]) (rest := []) (wc := [(mo, .inr (9, [.ref al, .ref ke, .ref ik, .ref rq, .long mab, .long mbe, .ref so, .ref ha, .ref te, .ref bt, .int bL, .int tA, .int tL, .int tK, .int tV, .ref an, .ref vs])), (rq, .inl (G.2.1, 3, .inl rv))]) (q0 := 0) (ci := 9) C hW hl (c_X11_bad l G mo al ke ik rq so ha te bt an vs mab mbe bL tA tL tK tV rv (-2)  _) k_ml_X11_67 q_X11_bad (by decide) [0, 1] rfl rfl rfl rfl rfl rfl (Nat.le_of_ble_eq_true rfl) dX11_picks_10 (by decide)) (fun r_1531 _ er_1531 => ?_)
    clear hW H locs; intro H locs hW
    refine lv_as (y := (-2)) er_1531 ?_
    clear er_1531 r_1531
    replace hW : Wd G A_ s_.heap [(mo, .inr (9, [.ref al, .ref ke, .ref ik, .ref rq, .long mab, .long mbe, .ref so, .ref ha, .ref te, .ref bt, .int bL, .int tA, .int tL, .int tK, .int tV, .ref an, .ref vs])), (rq, .inl (G.2.1, 3, .inl (upd rv 0 (rv 0 + 1))))] H locs := hW
    subst hQ
    exact g_iret (v := (-2)) C hW hrt ⟨(), by rfl, by rfl⟩ dX11_picks_13
set_option maxHeartbeats 4000000 in
set_option maxRecDepth 100000 in
theorem c_X11_cock_ok (l : Launch) (G : gT) (mo al ke ik rq so ha te bt an vs : Nat) (mab mbe : Int64) (bL tA tL tK tV : Int32) (a : Nat → Int32) (u : Nat) (k9 g9 : Int32) (e4 : a 4 = nI u) (hu : u ≤ 8) (h1 : iw k9 0 5 = true) (h2 : iw g9 1 9 = true) : MI l G yX11_cock cX11_cock 4 .int ({ frames := 2, cells := 0, slots := 0, locals := 45 }) [.ref mo, .int k9, .int g9] [(mo, .inr (9, [.ref al, .ref ke, .ref ik, .ref rq, .long mab, .long mbe, .ref so, .ref ha, .ref te, .ref bt, .int bL, .int tA, .int tL, .int tK, .int tV, .ref an, .ref vs])), (al, .inl (G.2.1, 159, .inl a))] (fun (r : Int32) w1 => ∃ u_ : Unit, (r = a 7) ∧ w1 = [(mo, .inr (9, [.ref al, .ref ke, .ref ik, .ref rq, .long mab, .long mbe, .ref so, .ref ha, .ref te, .ref bt, .int bL, .int tA, .int tL, .int tK, .int tV, .ref an, .ref vs])), (al, .inl (G.2.1, 159, .inl (upd (upd (svA a u) 6 k9) 7 g9)))]) := by
  refine MI.mk (by decide) (Nat.le_of_ble_eq_true rfl) ?_
  intro p_ e_ s_ m_ ar_ be_ me_ cd_ A_ ls C hrt hW hl
  have hx := C.1; have hb := C.2.1; have hown := C.2.2.2.1; have ht := C.2.2.2.2.1
  replace hl : lv_has ls 4 [(0, .ref mo), (1, .int k9), (2, .int g9)] := hl
  generalize hQ : MQ be_ _ ar_ s_ 0 0 A_ = Q
  refine lv_iload_n hx hb dX11_cock_0 rfl (lv_at hl 1 rfl) ?_
  refine g_fi C hW [] rfl (g_runS (As := [.int k9]) (rest := []) (wc := []) C hW hl (c_X11_isKind l G k9  _) k_ml_X11_75 q_X11_isKind (by decide) [] rfl rfl rfl rfl (Nat.le_of_ble_eq_true rfl) dX11_cock_1 (by decide)) (fun r_1533 er_1533 => ?_)
  clear hW; intro H locs hW
  refine lv_as (y := bI (iw k9 0 5)) er_1533 ?_
  clear er_1533 r_1533
  refine lv_if_eq (tgt := 14) hx hb dX11_cock_4 (by decide) (fun c_1534 => ?_) (fun c_1534 => ?_)
  · exfalso; exact dd (by first | assumption | exact okp_nI (by omega) (by assumption) | exact decide_eq_true (by first | assumption | omega)) c_1534
  · refine lv_iload_n hx hb dX11_cock_7 rfl (lv_at hl 2 rfl) ?_
    refine g_fi C hW [] rfl (g_runS (As := [.int g9]) (rest := []) (wc := []) C hW hl (c_X11_isNine l G g9  _) k_ml_X11_81 q_X11_isNine (by decide) [] rfl rfl rfl rfl (Nat.le_of_ble_eq_true rfl) dX11_cock_8 (by decide)) (fun r_1535 er_1535 => ?_)
    clear hW H locs; intro H locs hW
    refine lv_as (y := bI (iw g9 1 9)) er_1535 ?_
    clear er_1535 r_1535
    refine lv_if_ne (tgt := 21) hx hb dX11_cock_11 (by decide) (fun c_1536 => ?_) (fun c_1536 => ?_)
    · refine lv_aload_n hx hb dX11_cock_21 rfl (lv_at hl 0 rfl) ?_
      refine g_get (k := 0) (v := .ref al) C hW 0 rfl rfl jnX11 (by decide) k_fl_X11_7 rfl dX11_cock_22 ?_
      refine lv_bipush (v := 7) hx hb dX11_cock_25 (by decide) ?_
      refine g_ald C hW 1 rfl (vp_in_nI (n := 7) (by omega) (by omega)) dX11_cock_27 ?_
      refine lv_as (y := a 7) (rfl) ?_
      refine lv_istore_n (lv' := [(3, .int (a 7)), (0, .ref mo), (1, .int k9), (2, .int g9)]) hx hb dX11_cock_28 rfl hl (by decide) rfl ?_
      clear hl ls; intro ls hl
      refine lv_aload_n hx hb dX11_cock_29 rfl (lv_at hl 1 rfl) ?_
      refine g_fvw (wr := []) (ww := fun (u_ : Unit) => [(mo, .inr (9, [.ref al, .ref ke, .ref ik, .ref rq, .long mab, .long mbe, .ref so, .ref ha, .ref te, .ref bt, .int bL, .int tA, .int tL, .int tK, .int tV, .ref an, .ref vs])), (al, .inl (G.2.1, 159, .inl (svA a u)))]) (w2 := fun (u_ : Unit) => [(mo, .inr (9, [.ref al, .ref ke, .ref ik, .ref rq, .long mab, .long mbe, .ref so, .ref ha, .ref te, .ref bt, .int bL, .int tA, .int tL, .int tK, .int tV, .ref an, .ref vs])), (al, .inl (G.2.1, 159, .inl (svA a u)))]) C hW [0, 1] [] [0, 1] rfl rfl (by decide) (by decide) (by decide) (fun _ => rfl) (g_runV (As := []) (rest := []) (wc := [(mo, .inr (9, [.ref al, .ref ke, .ref ik, .ref rq, .long mab, .long mbe, .ref so, .ref ha, .ref te, .ref bt, .int bL, .int tA, .int tL, .int tK, .int tV, .ref an, .ref vs])), (al, .inl (G.2.1, 159, .inl a))]) (q0 := 0) (ci := 9) C hW hl (c_X11_save l G mo al ke ik rq so ha te bt an vs mab mbe bL tA tL tK tV a u (by first | assumption | omega) (by first | assumption | omega) _) k_ml_X11_127 q_X11_save (by decide) [0, 1] rfl rfl rfl rfl rfl rfl (Nat.le_of_ble_eq_true rfl) dX11_cock_30 (by decide)) (fun _ er_1537 => ?_)
      clear hW H locs; intro H locs hW
      replace hW : Wd G A_ s_.heap [(mo, .inr (9, [.ref al, .ref ke, .ref ik, .ref rq, .long mab, .long mbe, .ref so, .ref ha, .ref te, .ref bt, .int bL, .int tA, .int tL, .int tK, .int tV, .ref an, .ref vs])), (al, .inl (G.2.1, 159, .inl (svA a u)))] H locs := hW
      refine lv_aload_n hx hb dX11_cock_33 rfl (lv_at hl 1 rfl) ?_
      refine g_get (k := 0) (v := .ref al) C hW 0 rfl rfl jnX11 (by decide) k_fl_X11_7 rfl dX11_cock_34 ?_
      refine lv_bipush (v := 6) hx hb dX11_cock_37 (by decide) ?_
      refine lv_iload_n hx hb dX11_cock_39 rfl (lv_at hl 2 rfl) ?_
      refine g_ast (w' := [(mo, .inr (9, [.ref al, .ref ke, .ref ik, .ref rq, .long mab, .long mbe, .ref so, .ref ha, .ref te, .ref bt, .int bL, .int tA, .int tL, .int tK, .int tV, .ref an, .ref vs])), (al, .inl (G.2.1, 159, .inl (upd (svA a u) 6 k9)))]) C hW 1 rfl (vp_in_nI (n := 6) (by omega) (by omega)) (by rw [show (6 : Int32).toNatClampNeg = 6 from rfl]; rfl) dX11_cock_40 ?_
      clear hW H locs; intro H locs hW
      refine lv_aload_n hx hb dX11_cock_41 rfl (lv_at hl 1 rfl) ?_
      refine g_get (k := 0) (v := .ref al) C hW 0 rfl rfl jnX11 (by decide) k_fl_X11_7 rfl dX11_cock_42 ?_
      refine lv_bipush (v := 7) hx hb dX11_cock_45 (by decide) ?_
      refine lv_iload_n hx hb dX11_cock_47 rfl (lv_at hl 3 rfl) ?_
      refine g_ast (w' := [(mo, .inr (9, [.ref al, .ref ke, .ref ik, .ref rq, .long mab, .long mbe, .ref so, .ref ha, .ref te, .ref bt, .int bL, .int tA, .int tL, .int tK, .int tV, .ref an, .ref vs])), (al, .inl (G.2.1, 159, .inl (upd (upd (svA a u) 6 k9) 7 g9)))]) C hW 1 rfl (vp_in_nI (n := 7) (by omega) (by omega)) (by rw [show (7 : Int32).toNatClampNeg = 7 from rfl]; rfl) dX11_cock_48 ?_
      clear hW H locs; intro H locs hW
      refine lv_iload_n hx hb dX11_cock_49 rfl (lv_at hl 0 rfl) ?_
      subst hQ
      exact g_iret (v := (a 7)) C hW hrt ⟨(), by rfl, by rfl⟩ dX11_cock_50
    · exfalso; exact dd (by first | assumption | exact okp_nI (by omega) (by assumption) | exact decide_eq_true (by first | assumption | omega)) c_1536
set_option maxHeartbeats 4000000 in
set_option maxRecDepth 100000 in
theorem c_X11_cock_bad (l : Launch) (G : gT) (mo al ke ik rq so ha te bt an vs : Nat) (mab mbe : Int64) (bL tA tL tK tV : Int32) (rv : Nat → Int32) (k9 g9 : Int32) (hbad : (iw k9 0 5 && iw g9 1 9) = false) : MI l G yX11_cock cX11_cock 4 .int ({ frames := 2, cells := 0, slots := 0, locals := 45 }) [.ref mo, .int k9, .int g9] [(mo, .inr (9, [.ref al, .ref ke, .ref ik, .ref rq, .long mab, .long mbe, .ref so, .ref ha, .ref te, .ref bt, .int bL, .int tA, .int tL, .int tK, .int tV, .ref an, .ref vs])), (rq, .inl (G.2.1, 3, .inl rv))] (fun (r : Int32) w1 => ∃ u_ : Unit, (r = (-2)) ∧ w1 = [(mo, .inr (9, [.ref al, .ref ke, .ref ik, .ref rq, .long mab, .long mbe, .ref so, .ref ha, .ref te, .ref bt, .int bL, .int tA, .int tL, .int tK, .int tV, .ref an, .ref vs])), (rq, .inl (G.2.1, 3, .inl (upd rv 0 (rv 0 + 1))))]) := by
  refine MI.mk (by decide) (Nat.le_of_ble_eq_true rfl) ?_
  intro p_ e_ s_ m_ ar_ be_ me_ cd_ A_ ls C hrt hW hl
  have hx := C.1; have hb := C.2.1; have hown := C.2.2.2.1; have ht := C.2.2.2.2.1
  replace hl : lv_has ls 4 [(0, .ref mo), (1, .int k9), (2, .int g9)] := hl
  generalize hQ : MQ be_ _ ar_ s_ 0 0 A_ = Q
  refine lv_iload_n hx hb dX11_cock_0 rfl (lv_at hl 1 rfl) ?_
  refine g_fi C hW [] rfl (g_runS (As := [.int k9]) (rest := []) (wc := []) C hW hl (c_X11_isKind l G k9  _) k_ml_X11_75 q_X11_isKind (by decide) [] rfl rfl rfl rfl (Nat.le_of_ble_eq_true rfl) dX11_cock_1 (by decide)) (fun r_1539 er_1539 => ?_)
  clear hW; intro H locs hW
  refine lv_as (y := bI (iw k9 0 5)) er_1539 ?_
  clear er_1539 r_1539
  have J_1543 : ∀ (H : Heap) (locs : List Loc) (ls : Array Slot), Wd G A_ s_.heap [(mo, .inr (9, [.ref al, .ref ke, .ref ik, .ref rq, .long mab, .long mbe, .ref so, .ref ha, .ref te, .ref bt, .int bL, .int tA, .int tL, .int tK, .int tV, .ref an, .ref vs])), (rq, .inl (G.2.1, 3, .inl rv))] H locs → lv_has ls 4 [(0, .ref mo), (1, .int k9), (2, .int g9)] → W p_ l e_ ({ frames := 2, cells := 0, slots := 0, locals := 45 }) s_ m_ ar_ be_ me_ cd_ H locs 0 0 Q (F0 m_ 14 ls []) := by
    intro  H locs ls hW hl
    refine lv_aload_n hx hb dX11_cock_14 rfl (lv_at hl 0 rfl) ?_
    refine lv_bipush (v := (-2)) hx hb dX11_cock_15 (by decide) ?_
    refine g_fiw (wr := []) (ww := fun (u_ : Unit) => [(mo, .inr (9, [.ref al, .ref ke, .ref ik, .ref rq, .long mab, .long mbe, .ref so, .ref ha, .ref te, .ref bt, .int bL, .int tA, .int tL, .int tK, .int tV, .ref an, .ref vs])), (rq, .inl (G.2.1, 3, .inl (upd rv 0 (rv 0 + 1))))]) (w2 := fun (u_ : Unit) => [(mo, .inr (9, [.ref al, .ref ke, .ref ik, .ref rq, .long mab, .long mbe, .ref so, .ref ha, .ref te, .ref bt, .int bL, .int tA, .int tL, .int tK, .int tV, .ref an, .ref vs])), (rq, .inl (G.2.1, 3, .inl (upd rv 0 (rv 0 + 1))))]) C hW [0, 1] [] [0, 1] rfl rfl (by decide) (by decide) (by decide) (fun _ => rfl) (g_runV (As := [.int (-2)]) (rest := []) (wc := [(mo, .inr (9, [.ref al, .ref ke, .ref ik, .ref rq, .long mab, .long mbe, .ref so, .ref ha, .ref te, .ref bt, .int bL, .int tA, .int tL, .int tK, .int tV, .ref an, .ref vs])), (rq, .inl (G.2.1, 3, .inl rv))]) (q0 := 0) (ci := 9) C hW hl (c_X11_bad l G mo al ke ik rq so ha te bt an vs mab mbe bL tA tL tK tV rv (-2)  _) k_ml_X11_67 q_X11_bad (by decide) [0, 1] rfl rfl rfl rfl rfl rfl (Nat.le_of_ble_eq_true rfl) dX11_cock_17 (by decide)) (fun r_1544 _ er_1544 => ?_)
    clear hW H locs; intro H locs hW
    refine lv_as (y := (-2)) er_1544 ?_
    clear er_1544 r_1544
    replace hW : Wd G A_ s_.heap [(mo, .inr (9, [.ref al, .ref ke, .ref ik, .ref rq, .long mab, .long mbe, .ref so, .ref ha, .ref te, .ref bt, .int bL, .int tA, .int tL, .int tK, .int tV, .ref an, .ref vs])), (rq, .inl (G.2.1, 3, .inl (upd rv 0 (rv 0 + 1))))] H locs := hW
    subst hQ
    exact g_iret (v := (-2)) C hW hrt ⟨(), by rfl, by rfl⟩ dX11_cock_20
  refine lv_if_eq (tgt := 14) hx hb dX11_cock_4 (by decide) (fun c_1540 => ?_) (fun c_1540 => ?_)
  · exact J_1543  _ _ _ hW (lv_sub hl [0, 1, 2] rfl)
  · refine lv_iload_n hx hb dX11_cock_7 rfl (lv_at hl 2 rfl) ?_
    refine g_fi C hW [] rfl (g_runS (As := [.int g9]) (rest := []) (wc := []) C hW hl (c_X11_isNine l G g9  _) k_ml_X11_81 q_X11_isNine (by decide) [] rfl rfl rfl rfl (Nat.le_of_ble_eq_true rfl) dX11_cock_8 (by decide)) (fun r_1546 er_1546 => ?_)
    clear hW H locs; intro H locs hW
    refine lv_as (y := bI (iw g9 1 9)) er_1546 ?_
    clear er_1546 r_1546
    refine lv_if_ne (tgt := 21) hx hb dX11_cock_11 (by decide) (fun c_1547 => ?_) (fun c_1547 => ?_)
    · exfalso; simp [bI_ne.mp c_1540, bI_ne.mp c_1547, if_true, if_false, reduceIte, Bool.false_eq_true] at hbad
    · exact J_1543  _ _ _ hW (lv_sub hl [0, 1, 2] rfl)
set_option maxHeartbeats 4000000 in
set_option maxRecDepth 100000 in
theorem c_X11_goHours (l : Launch) (G : gT) (of zL : Nat) (a : Nat → Int32) (n9 : Int32) (hL : 40 ≤ zL ∧ zL ≤ 159) : MV l G yX11_goHours cX11_goHours 2 ({ frames := 0, cells := 0, slots := 0, locals := 0 }) [.ref of, .int n9] [(of, .inl (G.2.1, zL, .inl a))] (fun w1 => ∃ u_ : Unit, (True) ∧ w1 = [(of, .inl (G.2.1, zL, .inl (glA a n9)))]) := by
  refine MV.mk (by decide) (Nat.le_of_ble_eq_true rfl) ?_
  intro p_ e_ s_ m_ ar_ be_ me_ cd_ A_ ls C hrt hW hl
  have hx := C.1; have hb := C.2.1; have hown := C.2.2.2.1; have ht := C.2.2.2.2.1
  replace hl : lv_has ls 2 [(0, .ref of), (1, .int n9)] := hl
  generalize hQ : MQ be_ _ ar_ s_ 0 0 A_ = Q
  refine lv_aload_n hx hb dX11_goHours_0 rfl (lv_at hl 0 rfl) ?_
  refine lv_bipush (v := 12) hx hb dX11_goHours_1 (by decide) ?_
  refine lv_aload_n hx hb dX11_goHours_3 rfl (lv_at hl 0 rfl) ?_
  refine lv_bipush (v := 12) hx hb dX11_goHours_4 (by decide) ?_
  refine g_ald C hW 0 rfl (vp_in_nI (n := 12) (by omega) (by omega)) dX11_goHours_6 ?_
  refine lv_as (y := a 12) (rfl) ?_
  refine lv_iload_n hx hb dX11_goHours_7 rfl (lv_at hl 1 rfl) ?_
  refine lv_iadd hx hb dX11_goHours_8 ?_
  refine lv_sipush (v := 9999) hx hb dX11_goHours_9 (by decide) ?_
  have J_1550 : ∀ (y_1549 : Int32) (_ : y_1549 = (if 9999 < ((a 12) + n9) then 9999 else (a 12) + n9)), ∀ (H : Heap) (locs : List Loc) (ls : Array Slot), Wd G A_ s_.heap [(of, .inl (G.2.1, zL, .inl a))] H locs → lv_has ls 2 [(0, .ref of), (1, .int n9)] → W p_ l e_ ({ frames := 0, cells := 0, slots := 0, locals := 0 }) s_ m_ ar_ be_ me_ cd_ H locs 0 0 Q (F0 m_ 27 ls [.int y_1549, .int 12, .ref of]) := by
    intro y_1549 ey_1549 H locs ls hW hl
    refine g_ast (w' := [(of, .inl (G.2.1, zL, .inl (upd a 12 y_1549)))]) C hW 0 rfl (vp_in_nI (n := 12) (by omega) (by omega)) (by rw [show (12 : Int32).toNatClampNeg = 12 from rfl]; rfl) dX11_goHours_27 ?_
    clear hW H locs; intro H locs hW
    subst hQ
    exact g_vret C hW hrt ⟨(), trivial, by (simp only [ey_1549]; rfl)⟩ dX11_goHours_28
  refine lv_icmp_le (tgt := 21) hx hb dX11_goHours_12 (by decide) (fun c_1548 => ?_) (fun c_1548 => ?_)
  · replace c_1548 := Int32.not_lt.mpr c_1548
    refine lv_aload_n hx hb dX11_goHours_21 rfl (lv_at hl 0 rfl) ?_
    refine lv_bipush (v := 12) hx hb dX11_goHours_22 (by decide) ?_
    refine g_ald C hW 0 rfl (vp_in_nI (n := 12) (by omega) (by omega)) dX11_goHours_24 ?_
    refine lv_as (y := a 12) (rfl) ?_
    refine lv_iload_n hx hb dX11_goHours_25 rfl (lv_at hl 1 rfl) ?_
    refine lv_iadd hx hb dX11_goHours_26 ?_
    exact J_1550 ((a 12) + n9) (by first | (simp only [c_1548, if_true, if_false, reduceIte]; done) | (simp [c_1548]; done) | rfl | (rw [if_neg c_1548]; done)) _ _ _ hW (lv_sub hl [0, 1] rfl)
  · replace c_1548 := Int32.not_le.mp c_1548
    refine lv_sipush (v := 9999) hx hb dX11_goHours_15 (by decide) ?_
    refine lv_goto (tgt := 27) hx hb dX11_goHours_18 (by decide) ?_
    exact J_1550 9999 (by first | (simp only [c_1548, if_true, if_false, reduceIte]; done) | (simp [c_1548]; done) | rfl | (rw [if_pos c_1548]; done)) _ _ _ hW (lv_sub hl [0, 1] rfl)
set_option maxHeartbeats 4000000 in
set_option maxRecDepth 100000 in
theorem c_X11_hours_ok (l : Launch) (G : gT) (mo al ke ik rq so ha te bt an vs : Nat) (mab mbe : Int64) (bL tA tL tK tV : Int32) (a : Nat → Int32) (u : Nat) (n9 : Int32) (e4 : a 4 = nI u) (hu : u ≤ 8) (h1 : iw n9 1 99 = true) : MI l G yX11_hours cX11_hours 2 .int ({ frames := 1, cells := 0, slots := 0, locals := 25 }) [.ref mo, .int n9] [(mo, .inr (9, [.ref al, .ref ke, .ref ik, .ref rq, .long mab, .long mbe, .ref so, .ref ha, .ref te, .ref bt, .int bL, .int tA, .int tL, .int tK, .int tV, .ref an, .ref vs])), (al, .inl (G.2.1, 159, .inl a))] (fun (r : Int32) w1 => ∃ u_ : Unit, (r = glA (svA a u) n9 12) ∧ w1 = [(mo, .inr (9, [.ref al, .ref ke, .ref ik, .ref rq, .long mab, .long mbe, .ref so, .ref ha, .ref te, .ref bt, .int bL, .int tA, .int tL, .int tK, .int tV, .ref an, .ref vs])), (al, .inl (G.2.1, 159, .inl (glA (svA a u) n9)))]) := by
  refine MI.mk (by decide) (Nat.le_of_ble_eq_true rfl) ?_
  intro p_ e_ s_ m_ ar_ be_ me_ cd_ A_ ls C hrt hW hl
  have hx := C.1; have hb := C.2.1; have hown := C.2.2.2.1; have ht := C.2.2.2.2.1
  replace hl : lv_has ls 2 [(0, .ref mo), (1, .int n9)] := hl
  generalize hQ : MQ be_ _ ar_ s_ 0 0 A_ = Q
  refine lv_iload_n hx hb dX11_hours_0 rfl (lv_at hl 1 rfl) ?_
  refine lv_i2l hx hb dX11_hours_1 rfl ?_
  refine lv_lconst (v := 1) hx hb dX11_hours_2 (by decide) ?_
  refine lv_ldc2 (v := 99) hx hb hown (ht _ k_cg_X11_134) dX11_hours_3 ?_
  refine g_fi C hW [] rfl (g_runS (As := [.long n9.toInt64, .long 1, .long 99]) (rest := []) (wc := []) C hW hl (c_X11_in l G n9 1 99 1 99 (by first | rfl | decide) (by first | rfl | decide) _) k_ml_X11_53 q_X11_in (by decide) [] rfl rfl rfl rfl (Nat.le_of_ble_eq_true rfl) dX11_hours_6 (by decide)) (fun r_1551 er_1551 => ?_)
  clear hW; intro H locs hW
  refine lv_as (y := bI (iw n9 1 99)) er_1551 ?_
  clear er_1551 r_1551
  refine lv_if_ne (tgt := 19) hx hb dX11_hours_9 (by decide) (fun c_1552 => ?_) (fun c_1552 => ?_)
  · refine lv_aload_n hx hb dX11_hours_19 rfl (lv_at hl 0 rfl) ?_
    refine g_fvw (wr := []) (ww := fun (u_ : Unit) => [(mo, .inr (9, [.ref al, .ref ke, .ref ik, .ref rq, .long mab, .long mbe, .ref so, .ref ha, .ref te, .ref bt, .int bL, .int tA, .int tL, .int tK, .int tV, .ref an, .ref vs])), (al, .inl (G.2.1, 159, .inl (svA a u)))]) (w2 := fun (u_ : Unit) => [(mo, .inr (9, [.ref al, .ref ke, .ref ik, .ref rq, .long mab, .long mbe, .ref so, .ref ha, .ref te, .ref bt, .int bL, .int tA, .int tL, .int tK, .int tV, .ref an, .ref vs])), (al, .inl (G.2.1, 159, .inl (svA a u)))]) C hW [0, 1] [] [0, 1] rfl rfl (by decide) (by decide) (by decide) (fun _ => rfl) (g_runV (As := []) (rest := []) (wc := [(mo, .inr (9, [.ref al, .ref ke, .ref ik, .ref rq, .long mab, .long mbe, .ref so, .ref ha, .ref te, .ref bt, .int bL, .int tA, .int tL, .int tK, .int tV, .ref an, .ref vs])), (al, .inl (G.2.1, 159, .inl a))]) (q0 := 0) (ci := 9) C hW hl (c_X11_save l G mo al ke ik rq so ha te bt an vs mab mbe bL tA tL tK tV a u (by first | assumption | omega) (by first | assumption | omega) _) k_ml_X11_127 q_X11_save (by decide) [0, 1] rfl rfl rfl rfl rfl rfl (Nat.le_of_ble_eq_true rfl) dX11_hours_20 (by decide)) (fun _ er_1553 => ?_)
    clear hW H locs; intro H locs hW
    replace hW : Wd G A_ s_.heap [(mo, .inr (9, [.ref al, .ref ke, .ref ik, .ref rq, .long mab, .long mbe, .ref so, .ref ha, .ref te, .ref bt, .int bL, .int tA, .int tL, .int tK, .int tV, .ref an, .ref vs])), (al, .inl (G.2.1, 159, .inl (svA a u)))] H locs := hW
    refine lv_aload_n hx hb dX11_hours_23 rfl (lv_at hl 0 rfl) ?_
    refine g_get (k := 0) (v := .ref al) C hW 0 rfl rfl jnX11 (by decide) k_fl_X11_7 rfl dX11_hours_24 ?_
    refine lv_iload_n hx hb dX11_hours_27 rfl (lv_at hl 1 rfl) ?_
    refine g_fvw (wr := [(mo, .inr (9, [.ref al, .ref ke, .ref ik, .ref rq, .long mab, .long mbe, .ref so, .ref ha, .ref te, .ref bt, .int bL, .int tA, .int tL, .int tK, .int tV, .ref an, .ref vs]))]) (ww := fun (u_ : Unit) => [(al, .inl (G.2.1, 159, .inl (glA (svA a u) n9)))]) (w2 := fun (u_ : Unit) => [(mo, .inr (9, [.ref al, .ref ke, .ref ik, .ref rq, .long mab, .long mbe, .ref so, .ref ha, .ref te, .ref bt, .int bL, .int tA, .int tL, .int tK, .int tV, .ref an, .ref vs])), (al, .inl (G.2.1, 159, .inl (glA (svA a u) n9)))]) C hW [1] [0] [0, 1] rfl rfl (by decide) (by decide) (by decide) (fun _ => rfl) (g_runS (As := [.ref al, .int n9]) (rest := []) (wc := [(al, .inl (G.2.1, 159, .inl (svA a u)))]) C hW hl (c_X11_goHours l G al 159 (svA a u) n9 (by first | assumption | omega) _) k_ml_X11_136 q_X11_goHours (by decide) [1] rfl rfl rfl rfl (Nat.le_of_ble_eq_true rfl) dX11_hours_28 (by decide)) (fun _ er_1555 => ?_)
    clear hW H locs; intro H locs hW
    replace hW : Wd G A_ s_.heap [(mo, .inr (9, [.ref al, .ref ke, .ref ik, .ref rq, .long mab, .long mbe, .ref so, .ref ha, .ref te, .ref bt, .int bL, .int tA, .int tL, .int tK, .int tV, .ref an, .ref vs])), (al, .inl (G.2.1, 159, .inl (glA (svA a u) n9)))] H locs := hW
    refine lv_aload_n hx hb dX11_hours_31 rfl (lv_at hl 0 rfl) ?_
    refine g_get (k := 0) (v := .ref al) C hW 0 rfl rfl jnX11 (by decide) k_fl_X11_7 rfl dX11_hours_32 ?_
    refine lv_bipush (v := 12) hx hb dX11_hours_35 (by decide) ?_
    refine g_ald C hW 1 rfl (vp_in_nI (n := 12) (by omega) (by omega)) dX11_hours_37 ?_
    refine lv_as (y := (glA (svA a u) n9) 12) (rfl) ?_
    subst hQ
    exact g_iret (v := ((glA (svA a u) n9) 12)) C hW hrt ⟨(), by rfl, by rfl⟩ dX11_hours_38
  · exfalso; exact dd (by first | assumption | exact okp_nI (by omega) (by assumption) | exact decide_eq_true (by first | assumption | omega)) c_1552
set_option maxHeartbeats 4000000 in
set_option maxRecDepth 100000 in
theorem c_X11_hours_bad (l : Launch) (G : gT) (mo al ke ik rq so ha te bt an vs : Nat) (mab mbe : Int64) (bL tA tL tK tV : Int32) (rv : Nat → Int32) (n9 : Int32) (hbad : iw n9 1 99 = false) : MI l G yX11_hours cX11_hours 2 .int ({ frames := 1, cells := 0, slots := 0, locals := 25 }) [.ref mo, .int n9] [(mo, .inr (9, [.ref al, .ref ke, .ref ik, .ref rq, .long mab, .long mbe, .ref so, .ref ha, .ref te, .ref bt, .int bL, .int tA, .int tL, .int tK, .int tV, .ref an, .ref vs])), (rq, .inl (G.2.1, 3, .inl rv))] (fun (r : Int32) w1 => ∃ u_ : Unit, (r = (-2)) ∧ w1 = [(mo, .inr (9, [.ref al, .ref ke, .ref ik, .ref rq, .long mab, .long mbe, .ref so, .ref ha, .ref te, .ref bt, .int bL, .int tA, .int tL, .int tK, .int tV, .ref an, .ref vs])), (rq, .inl (G.2.1, 3, .inl (upd rv 0 (rv 0 + 1))))]) := by
  refine MI.mk (by decide) (Nat.le_of_ble_eq_true rfl) ?_
  intro p_ e_ s_ m_ ar_ be_ me_ cd_ A_ ls C hrt hW hl
  have hx := C.1; have hb := C.2.1; have hown := C.2.2.2.1; have ht := C.2.2.2.2.1
  replace hl : lv_has ls 2 [(0, .ref mo), (1, .int n9)] := hl
  generalize hQ : MQ be_ _ ar_ s_ 0 0 A_ = Q
  refine lv_iload_n hx hb dX11_hours_0 rfl (lv_at hl 1 rfl) ?_
  refine lv_i2l hx hb dX11_hours_1 rfl ?_
  refine lv_lconst (v := 1) hx hb dX11_hours_2 (by decide) ?_
  refine lv_ldc2 (v := 99) hx hb hown (ht _ k_cg_X11_134) dX11_hours_3 ?_
  refine g_fi C hW [] rfl (g_runS (As := [.long n9.toInt64, .long 1, .long 99]) (rest := []) (wc := []) C hW hl (c_X11_in l G n9 1 99 1 99 (by first | rfl | decide) (by first | rfl | decide) _) k_ml_X11_53 q_X11_in (by decide) [] rfl rfl rfl rfl (Nat.le_of_ble_eq_true rfl) dX11_hours_6 (by decide)) (fun r_1557 er_1557 => ?_)
  clear hW; intro H locs hW
  refine lv_as (y := bI (iw n9 1 99)) er_1557 ?_
  clear er_1557 r_1557
  refine lv_if_ne (tgt := 19) hx hb dX11_hours_9 (by decide) (fun c_1558 => ?_) (fun c_1558 => ?_)
  · exfalso; simp [bI_ne.mp c_1558, if_true, if_false, reduceIte, Bool.false_eq_true] at hbad
  · refine lv_aload_n hx hb dX11_hours_12 rfl (lv_at hl 0 rfl) ?_
    refine lv_bipush (v := (-2)) hx hb dX11_hours_13 (by decide) ?_
    refine g_fiw (wr := []) (ww := fun (u_ : Unit) => [(mo, .inr (9, [.ref al, .ref ke, .ref ik, .ref rq, .long mab, .long mbe, .ref so, .ref ha, .ref te, .ref bt, .int bL, .int tA, .int tL, .int tK, .int tV, .ref an, .ref vs])), (rq, .inl (G.2.1, 3, .inl (upd rv 0 (rv 0 + 1))))]) (w2 := fun (u_ : Unit) => [(mo, .inr (9, [.ref al, .ref ke, .ref ik, .ref rq, .long mab, .long mbe, .ref so, .ref ha, .ref te, .ref bt, .int bL, .int tA, .int tL, .int tK, .int tV, .ref an, .ref vs])), (rq, .inl (G.2.1, 3, .inl (upd rv 0 (rv 0 + 1))))]) C hW [0, 1] [] [0, 1] rfl rfl (by decide) (by decide) (by decide) (fun _ => rfl) (g_runV (As := [.int (-2)]) (rest := []) (wc := [(mo, .inr (9, [.ref al, .ref ke, .ref ik, .ref rq, .long mab, .long mbe, .ref so, .ref ha, .ref te, .ref bt, .int bL, .int tA, .int tL, .int tK, .int tV, .ref an, .ref vs])), (rq, .inl (G.2.1, 3, .inl rv))]) (q0 := 0) (ci := 9) C hW hl (c_X11_bad l G mo al ke ik rq so ha te bt an vs mab mbe bL tA tL tK tV rv (-2)  _) k_ml_X11_67 q_X11_bad (by decide) [0, 1] rfl rfl rfl rfl rfl rfl (Nat.le_of_ble_eq_true rfl) dX11_hours_15 (by decide)) (fun r_1559 _ er_1559 => ?_)
    clear hW H locs; intro H locs hW
    refine lv_as (y := (-2)) er_1559 ?_
    clear er_1559 r_1559
    replace hW : Wd G A_ s_.heap [(mo, .inr (9, [.ref al, .ref ke, .ref ik, .ref rq, .long mab, .long mbe, .ref so, .ref ha, .ref te, .ref bt, .int bL, .int tA, .int tL, .int tK, .int tV, .ref an, .ref vs])), (rq, .inl (G.2.1, 3, .inl (upd rv 0 (rv 0 + 1))))] H locs := hW
    subst hQ
    exact g_iret (v := (-2)) C hW hrt ⟨(), by rfl, by rfl⟩ dX11_hours_18
set_option maxHeartbeats 4000000 in
set_option maxRecDepth 100000 in
theorem c_X11_undo_ok (l : Launch) (G : gT) (mo al ke ik rq so ha te bt an vs : Nat) (mab mbe : Int64) (bL tA tL tK tV : Int32) (a : Nat → Int32) (u : Nat) (e4 : a 4 = nI u) (hu : u ≤ 8) (hu0 : 0 < u) : MI l G yX11_undo cX11_undo 2 .int ({ frames := 0, cells := 0, slots := 0, locals := 0 }) [.ref mo] [(mo, .inr (9, [.ref al, .ref ke, .ref ik, .ref rq, .long mab, .long mbe, .ref so, .ref ha, .ref te, .ref bt, .int bL, .int tA, .int tL, .int tK, .int tV, .ref an, .ref vs])), (al, .inl (G.2.1, 159, .inl a))] (fun (r : Int32) w1 => ∃ u_ : Unit, (r = unA a u 12) ∧ w1 = [(mo, .inr (9, [.ref al, .ref ke, .ref ik, .ref rq, .long mab, .long mbe, .ref so, .ref ha, .ref te, .ref bt, .int bL, .int tA, .int tL, .int tK, .int tV, .ref an, .ref vs])), (al, .inl (G.2.1, 159, .inl (unA a u)))]) := by
  refine MI.mk (by decide) (Nat.le_of_ble_eq_true rfl) ?_
  intro p_ e_ s_ m_ ar_ be_ me_ cd_ A_ ls C hrt hW hl
  have hx := C.1; have hb := C.2.1; have hown := C.2.2.2.1; have ht := C.2.2.2.2.1
  replace hl : lv_has ls 2 [(0, .ref mo)] := hl
  generalize hQ : MQ be_ _ ar_ s_ 0 0 A_ = Q
  refine lv_aload_n hx hb dX11_undo_0 rfl (lv_at hl 0 rfl) ?_
  refine g_get (k := 0) (v := .ref al) C hW 0 rfl rfl jnX11 (by decide) k_fl_X11_7 rfl dX11_undo_1 ?_
  refine lv_iconst (v := 4) hx hb dX11_undo_4 (by decide) ?_
  refine g_ald C hW 1 rfl (vp_in_nI (n := 4) (by omega) (by omega)) dX11_undo_5 ?_
  refine lv_as (y := a 4) (rfl) ?_
  refine lv_as (y := nI u) (e4) ?_
  refine lv_if_ne (tgt := 14) hx hb dX11_undo_6 (by decide) (fun c_1561 => ?_) (fun c_1561 => ?_)
  · have c_1561n : ¬ u = 0 := fun q => c_1561 ((nI_eq (a := u) (b := 0) (by omega) (by omega)).mpr q)
    refine lv_aload_n hx hb dX11_undo_14 rfl (lv_at hl 0 rfl) ?_
    refine g_get (k := 0) (v := .ref al) C hW 0 rfl rfl jnX11 (by decide) k_fl_X11_7 rfl dX11_undo_15 ?_
    refine lv_iconst (v := 4) hx hb dX11_undo_18 (by decide) ?_
    refine lv_dup2_11 hx hb dX11_undo_19 rfl rfl ?_
    refine g_ald C hW 1 rfl (vp_in_nI (n := 4) (by omega) (by omega)) dX11_undo_20 ?_
    refine lv_as (y := a 4) (rfl) ?_
    refine lv_as (y := nI u) (e4) ?_
    refine lv_iconst (v := 1) hx hb dX11_undo_21 (by decide) ?_
    refine lv_isub hx hb dX11_undo_22 ?_
    refine lv_as (y := nI (u - 1)) (nI_dec1 hu0) ?_
    refine g_ast (w' := [(mo, .inr (9, [.ref al, .ref ke, .ref ik, .ref rq, .long mab, .long mbe, .ref so, .ref ha, .ref te, .ref bt, .int bL, .int tA, .int tL, .int tK, .int tV, .ref an, .ref vs])), (al, .inl (G.2.1, 159, .inl (upd a 4 (nI (u - 1)))))]) C hW 1 rfl (vp_in_nI (n := 4) (by omega) (by omega)) (by rw [show (4 : Int32).toNatClampNeg = 4 from rfl]; rfl) dX11_undo_23 ?_
    clear hW; intro H locs hW
    refine lv_iconst (v := 0) hx hb dX11_undo_24 (by decide) ?_
    refine lv_istore_n (lv' := [(1, .int 0), (0, .ref mo)]) hx hb dX11_undo_25 rfl hl (by decide) rfl ?_
    clear hl ls; intro ls hl
    have K_1562 : ∀ (n_ : Nat) (j : Nat) (x_1563 : Int32) (g_1564 : Nat → Int32) (_ : x_1563 = nI j) (_ : g_1564 = (fb_put (upd a 4 (nI (u - 1))) (fun k => a (103 + 7 * (u - 1) + k)) 6 j)) (_ : j ≤ 7) (_ : 7 - j < n_) (H : Heap) (locs : List Loc) (ls : Array Slot), Wd G A_ s_.heap [(mo, .inr (9, [.ref al, .ref ke, .ref ik, .ref rq, .long mab, .long mbe, .ref so, .ref ha, .ref te, .ref bt, .int bL, .int tA, .int tL, .int tK, .int tV, .ref an, .ref vs])), (al, .inl (G.2.1, 159, .inl g_1564))] H locs → lv_has ls 2 [(1, .int x_1563), (0, .ref mo)] → W p_ l e_ ({ frames := 0, cells := 0, slots := 0, locals := 0 }) s_ m_ ar_ be_ me_ cd_ H locs 0 0 Q (F0 m_ 26 ls []) := by
      intro n_
      induction n_ with
      | zero => intro j x_1563 g_1564 ex_1563 eg_1564 hj hm_; exact absurd hm_ (Nat.not_lt_zero _)
      | succ n_ ihK_1562 =>
        intro j x_1563 g_1564 ex_1563 eg_1564 hj hm_ H locs ls hW hl
        subst ex_1563
        subst eg_1564
        refine lv_iload_n hx hb dX11_undo_26 rfl (lv_at hl 0 rfl) ?_
        refine lv_bipush (v := 7) hx hb dX11_undo_27 (by decide) ?_
        refine lv_icmp_ge (tgt := 66) hx hb dX11_undo_29 (by decide) (fun c_1565 => ?_) (fun c_1565 => ?_)
        · replace c_1565 := Int32.not_lt.mpr c_1565
          have c_1565n : ¬ j < 7 := fun q => c_1565 ((nI_ltI (a := j) (b := 7) (by omega) (by omega)).mpr q)
          obtain rfl : j = 7 := by omega
          refine lv_aload_n hx hb dX11_undo_66 rfl (lv_at hl 1 rfl) ?_
          refine g_get (k := 0) (v := .ref al) C hW 0 rfl rfl jnX11 (by decide) k_fl_X11_7 rfl dX11_undo_67 ?_
          refine lv_bipush (v := 12) hx hb dX11_undo_70 (by decide) ?_
          refine g_ald C hW 1 rfl (vp_in_nI (n := 12) (by omega) (by omega)) dX11_undo_72 ?_
          refine lv_as (y := (fb_put (upd a 4 (nI (u - 1))) (fun k => a (103 + 7 * (u - 1) + k)) 6 7) 12) (rfl) ?_
          subst hQ
          exact g_iret (v := ((fb_put (upd a 4 (nI (u - 1))) (fun k => a (103 + 7 * (u - 1) + k)) 6 7) 12)) C hW hrt ⟨(), by rfl, by rfl⟩ dX11_undo_73
        · replace c_1565 := Int32.not_le.mp c_1565
          have c_1565n : j < 7 := (nI_ltI (a := j) (b := 7) (by omega) (by omega)).mp c_1565
          refine lv_aload_n hx hb dX11_undo_32 rfl (lv_at hl 1 rfl) ?_
          refine g_get (k := 0) (v := .ref al) C hW 0 rfl rfl jnX11 (by decide) k_fl_X11_7 rfl dX11_undo_33 ?_
          refine lv_bipush (v := 6) hx hb dX11_undo_36 (by decide) ?_
          refine lv_iload_n hx hb dX11_undo_38 rfl (lv_at hl 0 rfl) ?_
          refine lv_iadd hx hb dX11_undo_39 ?_
          refine lv_aload_n hx hb dX11_undo_40 rfl (lv_at hl 1 rfl) ?_
          refine g_get (k := 0) (v := .ref al) C hW 0 rfl rfl jnX11 (by decide) k_fl_X11_7 rfl dX11_undo_41 ?_
          refine lv_bipush (v := 103) hx hb dX11_undo_44 (by decide) ?_
          refine lv_bipush (v := 7) hx hb dX11_undo_46 (by decide) ?_
          refine lv_aload_n hx hb dX11_undo_48 rfl (lv_at hl 1 rfl) ?_
          refine g_get (k := 0) (v := .ref al) C hW 0 rfl rfl jnX11 (by decide) k_fl_X11_7 rfl dX11_undo_49 ?_
          refine lv_iconst (v := 4) hx hb dX11_undo_52 (by decide) ?_
          refine g_ald C hW 1 rfl (vp_in_nI (n := 4) (by omega) (by omega)) dX11_undo_53 ?_
          refine lv_as (y := (fb_put (upd a 4 (nI (u - 1))) (fun k => a (103 + 7 * (u - 1) + k)) 6 j) 4) (rfl) ?_
          refine lv_as (y := nI (u - 1)) (by rw [fb_put_out (by omega), pk_us]) ?_
          refine lv_imul hx hb dX11_undo_54 ?_
          refine lv_iadd hx hb dX11_undo_55 ?_
          refine lv_iload_n hx hb dX11_undo_56 rfl (lv_at hl 0 rfl) ?_
          refine lv_iadd hx hb dX11_undo_57 ?_
          refine g_ald C hW 1 rfl (ix_in (show ((103 + (7 * (nI (u - 1)))) + (nI j)) = nI (103 + 7 * (u - 1) + j) from (by first | rfl | (simp only [nI_lit, nI_add, pk_mul]; done) | (simp only [nI_lit, nI_add, pk_mul]; congr 1; omega))) (by omega) (by omega)) dX11_undo_58 ?_
          refine lv_as (y := (fb_put (upd a 4 (nI (u - 1))) (fun k => a (103 + 7 * (u - 1) + k)) 6 j) (103 + 7 * (u - 1) + j)) (by rw [show ((103 + (7 * (nI (u - 1)))) + (nI j)).toNatClampNeg = (103 + 7 * (u - 1) + j) from ix_cl (show ((103 + (7 * (nI (u - 1)))) + (nI j)) = nI (103 + 7 * (u - 1) + j) from (by first | rfl | (simp only [nI_lit, nI_add, pk_mul]; done) | (simp only [nI_lit, nI_add, pk_mul]; congr 1; omega))) (Nat.lt_of_lt_of_le (m := 159) (by omega) (by omega))]) ?_
          refine lv_as (y := a (103 + 7 * (u - 1) + j)) (by rw [fb_put_out (by omega), pk_un (by omega)]) ?_
          refine g_ast (w' := [(mo, .inr (9, [.ref al, .ref ke, .ref ik, .ref rq, .long mab, .long mbe, .ref so, .ref ha, .ref te, .ref bt, .int bL, .int tA, .int tL, .int tK, .int tV, .ref an, .ref vs])), (al, .inl (G.2.1, 159, .inl (upd (fb_put (upd a 4 (nI (u - 1))) (fun k => a (103 + 7 * (u - 1) + k)) 6 j) (6 + j) (a (103 + 7 * (u - 1) + j)))))]) C hW 1 rfl (ix_in (show (6 + (nI j)) = nI (6 + j) from (by first | rfl | (simp only [nI_lit, nI_add, pk_mul]; done) | (simp only [nI_lit, nI_add, pk_mul]; congr 1; omega))) (by omega) (by omega)) (by rw [show (6 + (nI j)).toNatClampNeg = (6 + j) from ix_cl (show (6 + (nI j)) = nI (6 + j) from (by first | rfl | (simp only [nI_lit, nI_add, pk_mul]; done) | (simp only [nI_lit, nI_add, pk_mul]; congr 1; omega))) (Nat.lt_of_lt_of_le (m := 159) (by omega) (by omega))]; rfl) dX11_undo_59 ?_
          clear hW H locs; intro H locs hW
          refine lv_iinc (v := (nI j) + 1) (lv' := [(1, .int ((nI j) + 1)), (0, .ref mo)]) hx hb dX11_undo_60 hl (k := 0) rfl rfl (by decide) rfl ?_
          clear hl ls; intro ls hl
          refine lv_goto (tgt := 26) hx hb dX11_undo_63 (by decide) ?_
          exact ihK_1562 (j + 1) ((nI j) + 1) (upd (fb_put (upd a 4 (nI (u - 1))) (fun k => a (103 + 7 * (u - 1) + k)) 6 j) (6 + j) (a (103 + 7 * (u - 1) + j))) (by exact nI_1 _) (by exact fb_put_succ _ (fun k => a (103 + 7 * (u - 1) + k)) 6 j) (by first | omega | assumption | (simp; done)) (by omega) _ _ _ hW (lv_sub hl [0, 1] rfl)
    exact K_1562 _ 0 0 (upd a 4 (nI (u - 1))) (by first | exact rfl | (simp; done)) (by exact (fb_put_0 _ _ _).symm) (by first | omega | assumption | (simp; done)) (Nat.lt_succ_self _) _ _ _ hW (lv_sub hl [0, 1] rfl)
  · have c_1561n : u = 0 := (nI_eq (a := u) (b := 0) (by omega) (by omega)).mp c_1561
    exfalso; omega
set_option maxHeartbeats 4000000 in
set_option maxRecDepth 100000 in
theorem c_X11_undo_no (l : Launch) (G : gT) (mo al ke ik rq so ha te bt an vs : Nat) (mab mbe : Int64) (bL tA tL tK tV : Int32) (rv : Nat → Int32) (a : Nat → Int32) (e4 : a 4 = 0) : MI l G yX11_undo cX11_undo 2 .int ({ frames := 1, cells := 0, slots := 0, locals := 20 }) [.ref mo] [(mo, .inr (9, [.ref al, .ref ke, .ref ik, .ref rq, .long mab, .long mbe, .ref so, .ref ha, .ref te, .ref bt, .int bL, .int tA, .int tL, .int tK, .int tV, .ref an, .ref vs])), (al, .inl (G.2.1, 159, .inl a)), (rq, .inl (G.2.1, 3, .inl rv))] (fun (r : Int32) w1 => ∃ u_ : Unit, (r = (-3)) ∧ w1 = [(mo, .inr (9, [.ref al, .ref ke, .ref ik, .ref rq, .long mab, .long mbe, .ref so, .ref ha, .ref te, .ref bt, .int bL, .int tA, .int tL, .int tK, .int tV, .ref an, .ref vs])), (al, .inl (G.2.1, 159, .inl a)), (rq, .inl (G.2.1, 3, .inl (upd rv 1 (rv 1 + 1))))]) := by
  refine MI.mk (by decide) (Nat.le_of_ble_eq_true rfl) ?_
  intro p_ e_ s_ m_ ar_ be_ me_ cd_ A_ ls C hrt hW hl
  have hx := C.1; have hb := C.2.1; have hown := C.2.2.2.1; have ht := C.2.2.2.2.1
  replace hl : lv_has ls 2 [(0, .ref mo)] := hl
  generalize hQ : MQ be_ _ ar_ s_ 0 0 A_ = Q
  refine lv_aload_n hx hb dX11_undo_0 rfl (lv_at hl 0 rfl) ?_
  refine g_get (k := 0) (v := .ref al) C hW 0 rfl rfl jnX11 (by decide) k_fl_X11_7 rfl dX11_undo_1 ?_
  refine lv_iconst (v := 4) hx hb dX11_undo_4 (by decide) ?_
  refine g_ald C hW 1 rfl (vp_in_nI (n := 4) (by omega) (by omega)) dX11_undo_5 ?_
  refine lv_as (y := a 4) (rfl) ?_
  refine lv_if_ne (tgt := 14) hx hb dX11_undo_6 (by decide) (fun c_1566 => ?_) (fun c_1566 => ?_)
  · exfalso; exact c_1566 e4
  · refine lv_aload_n hx hb dX11_undo_9 rfl (lv_at hl 0 rfl) ?_
    refine g_fiw (wr := [(al, .inl (G.2.1, 159, .inl a))]) (ww := fun (u_ : Unit) => [(mo, .inr (9, [.ref al, .ref ke, .ref ik, .ref rq, .long mab, .long mbe, .ref so, .ref ha, .ref te, .ref bt, .int bL, .int tA, .int tL, .int tK, .int tV, .ref an, .ref vs])), (rq, .inl (G.2.1, 3, .inl (upd rv 1 (rv 1 + 1))))]) (w2 := fun (u_ : Unit) => [(mo, .inr (9, [.ref al, .ref ke, .ref ik, .ref rq, .long mab, .long mbe, .ref so, .ref ha, .ref te, .ref bt, .int bL, .int tA, .int tL, .int tK, .int tV, .ref an, .ref vs])), (al, .inl (G.2.1, 159, .inl a)), (rq, .inl (G.2.1, 3, .inl (upd rv 1 (rv 1 + 1))))]) C hW [0, 2] [1] [1, 0, 2] rfl rfl (by decide) (by decide) (by decide) (fun _ => rfl) (g_runV (As := []) (rest := []) (wc := [(mo, .inr (9, [.ref al, .ref ke, .ref ik, .ref rq, .long mab, .long mbe, .ref so, .ref ha, .ref te, .ref bt, .int bL, .int tA, .int tL, .int tK, .int tV, .ref an, .ref vs])), (rq, .inl (G.2.1, 3, .inl rv))]) (q0 := 0) (ci := 9) C hW hl (c_X11_no l G mo al ke ik rq so ha te bt an vs mab mbe bL tA tL tK tV rv  _) k_ml_X11_124 q_X11_no (by decide) [0, 2] rfl rfl rfl rfl rfl rfl (Nat.le_of_ble_eq_true rfl) dX11_undo_10 (by decide)) (fun r_1567 _ er_1567 => ?_)
    clear hW; intro H locs hW
    refine lv_as (y := (-3)) er_1567 ?_
    clear er_1567 r_1567
    replace hW : Wd G A_ s_.heap [(mo, .inr (9, [.ref al, .ref ke, .ref ik, .ref rq, .long mab, .long mbe, .ref so, .ref ha, .ref te, .ref bt, .int bL, .int tA, .int tL, .int tK, .int tV, .ref an, .ref vs])), (al, .inl (G.2.1, 159, .inl a)), (rq, .inl (G.2.1, 3, .inl (upd rv 1 (rv 1 + 1))))] H locs := hW
    subst hQ
    exact g_iret (v := (-3)) C hW hrt ⟨(), by rfl, by rfl⟩ dX11_undo_13
set_option maxHeartbeats 4000000 in
set_option maxRecDepth 100000 in
theorem c_X11_now_6 (l : Launch) (G : gT) (mo al ke ik rq so ha te bt an vs : Nat) (mab mbe : Int64) (bL tA tL tK tV : Int32) (a : Nat → Int32) (hr : Nat) (e12 : a 12 = nI hr) (hh : hr < 10000) : MI l G yX11_now cX11_now 2 .int ({ frames := 1, cells := 0, slots := 0, locals := 25 }) [.ref mo, .int 6] [(mo, .inr (9, [.ref al, .ref ke, .ref ik, .ref rq, .long mab, .long mbe, .ref so, .ref ha, .ref te, .ref bt, .int bL, .int tA, .int tL, .int tK, .int tV, .ref an, .ref vs])), (al, .inl (G.2.1, 159, .inl a))] (fun (r : Int32) w1 => (r = hp (a 8) (a (13 + hr % 6))) ∧ w1 = [(mo, .inr (9, [.ref al, .ref ke, .ref ik, .ref rq, .long mab, .long mbe, .ref so, .ref ha, .ref te, .ref bt, .int bL, .int tA, .int tL, .int tK, .int tV, .ref an, .ref vs])), (al, .inl (G.2.1, 159, .inl a))]) := by
  refine MI.mk (by decide) (Nat.le_of_ble_eq_true rfl) ?_
  intro p_ e_ s_ m_ ar_ be_ me_ cd_ A_ ls C hrt hW hl
  have hx := C.1; have hb := C.2.1; have hown := C.2.2.2.1; have ht := C.2.2.2.2.1
  replace hl : lv_has ls 2 [(0, .ref mo), (1, .int 6)] := hl
  generalize hQ : MQ be_ _ ar_ s_ 0 0 A_ = Q
  refine lv_iload_n hx hb dX11_now_0 rfl (lv_at hl 1 rfl) ?_
  refine lv_i2l hx hb dX11_now_1 rfl ?_
  refine lv_lconst (v := 0) hx hb dX11_now_2 (by decide) ?_
  refine lv_ldc2 (v := 6) hx hb hown (ht _ k_cg_X11_139) dX11_now_3 ?_
  refine g_fi C hW [] rfl (g_runS (As := [.long ((6 : Int32).toInt64), .long 0, .long 6]) (rest := []) (wc := []) C hW hl (c_X11_in l G (6 : Int32) 0 6 0 6 (by first | rfl | decide) (by first | rfl | decide) _) k_ml_X11_53 q_X11_in (by decide) [] rfl rfl rfl rfl (Nat.le_of_ble_eq_true rfl) dX11_now_6 (by decide)) (fun r_1569 er_1569 => ?_)
  clear hW; intro H locs hW
  refine lv_as (y := bI (iw (6 : Int32) 0 6)) er_1569 ?_
  clear er_1569 r_1569
  refine lv_if_ne (tgt := 19) hx hb dX11_now_9 (by decide) (fun c_1570 => ?_) (fun c_1570 => ?_)
  · refine lv_iload_n hx hb dX11_now_19 rfl (lv_at hl 1 rfl) ?_
    refine lv_bipush (v := 6) hx hb dX11_now_20 (by decide) ?_
    refine lv_icmp_ne (tgt := 49) hx hb dX11_now_22 (by decide) (fun c_1571 => ?_) (fun c_1571 => ?_)
    · exfalso; exact c_1571 rfl
    · refine lv_aload_n hx hb dX11_now_25 rfl (lv_at hl 0 rfl) ?_
      refine g_get (k := 0) (v := .ref al) C hW 0 rfl rfl jnX11 (by decide) k_fl_X11_7 rfl dX11_now_26 ?_
      refine lv_aload_n hx hb dX11_now_29 rfl (lv_at hl 0 rfl) ?_
      refine g_get (k := 0) (v := .ref al) C hW 0 rfl rfl jnX11 (by decide) k_fl_X11_7 rfl dX11_now_30 ?_
      refine lv_bipush (v := 8) hx hb dX11_now_33 (by decide) ?_
      refine g_ald C hW 1 rfl (vp_in_nI (n := 8) (by omega) (by omega)) dX11_now_35 ?_
      refine lv_as (y := a 8) (rfl) ?_
      refine lv_aload_n hx hb dX11_now_36 rfl (lv_at hl 0 rfl) ?_
      refine g_get (k := 0) (v := .ref al) C hW 0 rfl rfl jnX11 (by decide) k_fl_X11_7 rfl dX11_now_37 ?_
      refine lv_bipush (v := 12) hx hb dX11_now_40 (by decide) ?_
      refine g_ald C hW 1 rfl (vp_in_nI (n := 12) (by omega) (by omega)) dX11_now_42 ?_
      refine lv_as (y := a 12) (rfl) ?_
      refine lv_as (y := nI hr) (e12) ?_
      refine g_fi C hW [1] rfl (g_runS (As := [.ref al, .int (a 8), .int (nI hr)]) (rest := []) (wc := [(al, .inl (G.2.1, 159, .inl a))]) C hW hl (c_X11_helps l G al 159 a (a 8) hr (by first | assumption | omega) (by first | assumption | omega) _) k_ml_X11_95 q_X11_helps (by decide) [1] rfl rfl rfl rfl (Nat.le_of_ble_eq_true rfl) dX11_now_43 (by decide)) (fun r_1572 er_1572 => ?_)
      clear hW H locs; intro H locs hW
      refine lv_as (y := hp (a 8) (a (13 + hr % 6))) er_1572 ?_
      clear er_1572 r_1572
      refine lv_goto (tgt := 58) hx hb dX11_now_46 (by decide) ?_
      subst hQ
      exact g_iret (v := (hp (a 8) (a (13 + hr % 6)))) C hW hrt ⟨by rfl, rfl⟩ dX11_now_58
  · exfalso; exact dd (by decide) c_1570
set_option maxHeartbeats 4000000 in
set_option maxRecDepth 100000 in
theorem c_X11_now_ok (l : Launch) (G : gT) (mo al ke ik rq so ha te bt an vs : Nat) (mab mbe : Int64) (bL tA tL tK tV : Int32) (a : Nat → Int32) (j : Nat) (hj : j < 6) : MI l G yX11_now cX11_now 2 .int ({ frames := 1, cells := 0, slots := 0, locals := 25 }) [.ref mo, .int (nI j)] [(mo, .inr (9, [.ref al, .ref ke, .ref ik, .ref rq, .long mab, .long mbe, .ref so, .ref ha, .ref te, .ref bt, .int bL, .int tA, .int tL, .int tK, .int tV, .ref an, .ref vs])), (al, .inl (G.2.1, 159, .inl a))] (fun (r : Int32) w1 => (r = a (6 + j)) ∧ w1 = [(mo, .inr (9, [.ref al, .ref ke, .ref ik, .ref rq, .long mab, .long mbe, .ref so, .ref ha, .ref te, .ref bt, .int bL, .int tA, .int tL, .int tK, .int tV, .ref an, .ref vs])), (al, .inl (G.2.1, 159, .inl a))]) := by
  refine MI.mk (by decide) (Nat.le_of_ble_eq_true rfl) ?_
  intro p_ e_ s_ m_ ar_ be_ me_ cd_ A_ ls C hrt hW hl
  have hx := C.1; have hb := C.2.1; have hown := C.2.2.2.1; have ht := C.2.2.2.2.1
  replace hl : lv_has ls 2 [(0, .ref mo), (1, .int (nI j))] := hl
  generalize hQ : MQ be_ _ ar_ s_ 0 0 A_ = Q
  refine lv_iload_n hx hb dX11_now_0 rfl (lv_at hl 1 rfl) ?_
  refine lv_i2l hx hb dX11_now_1 rfl ?_
  refine lv_lconst (v := 0) hx hb dX11_now_2 (by decide) ?_
  refine lv_ldc2 (v := 6) hx hb hown (ht _ k_cg_X11_139) dX11_now_3 ?_
  refine g_fi C hW [] rfl (g_runS (As := [.long ((nI j).toInt64), .long 0, .long 6]) (rest := []) (wc := []) C hW hl (c_X11_in l G (nI j) 0 6 0 6 (by first | rfl | decide) (by first | rfl | decide) _) k_ml_X11_53 q_X11_in (by decide) [] rfl rfl rfl rfl (Nat.le_of_ble_eq_true rfl) dX11_now_6 (by decide)) (fun r_1573 er_1573 => ?_)
  clear hW; intro H locs hW
  refine lv_as (y := bI (iw (nI j) 0 6)) er_1573 ?_
  clear er_1573 r_1573
  refine lv_if_ne (tgt := 19) hx hb dX11_now_9 (by decide) (fun c_1574 => ?_) (fun c_1574 => ?_)
  · refine lv_iload_n hx hb dX11_now_19 rfl (lv_at hl 1 rfl) ?_
    refine lv_bipush (v := 6) hx hb dX11_now_20 (by decide) ?_
    refine lv_icmp_ne (tgt := 49) hx hb dX11_now_22 (by decide) (fun c_1575 => ?_) (fun c_1575 => ?_)
    · have c_1575n : ¬ j = 6 := fun q => c_1575 ((nI_eq (a := j) (b := 6) (by omega) (by omega)).mpr q)
      refine lv_aload_n hx hb dX11_now_49 rfl (lv_at hl 0 rfl) ?_
      refine g_get (k := 0) (v := .ref al) C hW 0 rfl rfl jnX11 (by decide) k_fl_X11_7 rfl dX11_now_50 ?_
      refine lv_bipush (v := 6) hx hb dX11_now_53 (by decide) ?_
      refine lv_iload_n hx hb dX11_now_55 rfl (lv_at hl 1 rfl) ?_
      refine lv_iadd hx hb dX11_now_56 ?_
      refine g_ald C hW 1 rfl (ix_in (show (6 + (nI j)) = nI (6 + j) from (by first | rfl | (simp only [nI_lit, nI_add, pk_mul]; done) | (simp only [nI_lit, nI_add, pk_mul]; congr 1; omega))) (by omega) (by omega)) dX11_now_57 ?_
      refine lv_as (y := a (6 + j)) (by rw [show (6 + (nI j)).toNatClampNeg = (6 + j) from ix_cl (show (6 + (nI j)) = nI (6 + j) from (by first | rfl | (simp only [nI_lit, nI_add, pk_mul]; done) | (simp only [nI_lit, nI_add, pk_mul]; congr 1; omega))) (Nat.lt_of_lt_of_le (m := 159) (by omega) (by omega))]) ?_
      subst hQ
      exact g_iret (v := (a (6 + j))) C hW hrt ⟨by rfl, rfl⟩ dX11_now_58
    · have c_1575n : j = 6 := (nI_eq (a := j) (b := 6) (by omega) (by omega)).mp c_1575
      exfalso; omega
  · exfalso; exact dd (iw_nI (m := 6) (by omega) (by omega)) c_1574
set_option maxHeartbeats 4000000 in
set_option maxRecDepth 100000 in
theorem c_X11_now_bad (l : Launch) (G : gT) (mo al ke ik rq so ha te bt an vs : Nat) (mab mbe : Int64) (bL tA tL tK tV : Int32) (rv : Nat → Int32) (x9 : Int32) (hbad : iw x9 0 6 = false) : MI l G yX11_now cX11_now 2 .int ({ frames := 1, cells := 0, slots := 0, locals := 25 }) [.ref mo, .int x9] [(mo, .inr (9, [.ref al, .ref ke, .ref ik, .ref rq, .long mab, .long mbe, .ref so, .ref ha, .ref te, .ref bt, .int bL, .int tA, .int tL, .int tK, .int tV, .ref an, .ref vs])), (rq, .inl (G.2.1, 3, .inl rv))] (fun (r : Int32) w1 => ∃ u_ : Unit, (r = (-10)) ∧ w1 = [(mo, .inr (9, [.ref al, .ref ke, .ref ik, .ref rq, .long mab, .long mbe, .ref so, .ref ha, .ref te, .ref bt, .int bL, .int tA, .int tL, .int tK, .int tV, .ref an, .ref vs])), (rq, .inl (G.2.1, 3, .inl (upd rv 0 (rv 0 + 1))))]) := by
  refine MI.mk (by decide) (Nat.le_of_ble_eq_true rfl) ?_
  intro p_ e_ s_ m_ ar_ be_ me_ cd_ A_ ls C hrt hW hl
  have hx := C.1; have hb := C.2.1; have hown := C.2.2.2.1; have ht := C.2.2.2.2.1
  replace hl : lv_has ls 2 [(0, .ref mo), (1, .int x9)] := hl
  generalize hQ : MQ be_ _ ar_ s_ 0 0 A_ = Q
  refine lv_iload_n hx hb dX11_now_0 rfl (lv_at hl 1 rfl) ?_
  refine lv_i2l hx hb dX11_now_1 rfl ?_
  refine lv_lconst (v := 0) hx hb dX11_now_2 (by decide) ?_
  refine lv_ldc2 (v := 6) hx hb hown (ht _ k_cg_X11_139) dX11_now_3 ?_
  refine g_fi C hW [] rfl (g_runS (As := [.long x9.toInt64, .long 0, .long 6]) (rest := []) (wc := []) C hW hl (c_X11_in l G x9 0 6 0 6 (by first | rfl | decide) (by first | rfl | decide) _) k_ml_X11_53 q_X11_in (by decide) [] rfl rfl rfl rfl (Nat.le_of_ble_eq_true rfl) dX11_now_6 (by decide)) (fun r_1576 er_1576 => ?_)
  clear hW; intro H locs hW
  refine lv_as (y := bI (iw x9 0 6)) er_1576 ?_
  clear er_1576 r_1576
  refine lv_if_ne (tgt := 19) hx hb dX11_now_9 (by decide) (fun c_1577 => ?_) (fun c_1577 => ?_)
  · exfalso; simp [bI_ne.mp c_1577, if_true, if_false, reduceIte, Bool.false_eq_true] at hbad
  · refine lv_aload_n hx hb dX11_now_12 rfl (lv_at hl 0 rfl) ?_
    refine lv_bipush (v := (-10)) hx hb dX11_now_13 (by decide) ?_
    refine g_fiw (wr := []) (ww := fun (u_ : Unit) => [(mo, .inr (9, [.ref al, .ref ke, .ref ik, .ref rq, .long mab, .long mbe, .ref so, .ref ha, .ref te, .ref bt, .int bL, .int tA, .int tL, .int tK, .int tV, .ref an, .ref vs])), (rq, .inl (G.2.1, 3, .inl (upd rv 0 (rv 0 + 1))))]) (w2 := fun (u_ : Unit) => [(mo, .inr (9, [.ref al, .ref ke, .ref ik, .ref rq, .long mab, .long mbe, .ref so, .ref ha, .ref te, .ref bt, .int bL, .int tA, .int tL, .int tK, .int tV, .ref an, .ref vs])), (rq, .inl (G.2.1, 3, .inl (upd rv 0 (rv 0 + 1))))]) C hW [0, 1] [] [0, 1] rfl rfl (by decide) (by decide) (by decide) (fun _ => rfl) (g_runV (As := [.int (-10)]) (rest := []) (wc := [(mo, .inr (9, [.ref al, .ref ke, .ref ik, .ref rq, .long mab, .long mbe, .ref so, .ref ha, .ref te, .ref bt, .int bL, .int tA, .int tL, .int tK, .int tV, .ref an, .ref vs])), (rq, .inl (G.2.1, 3, .inl rv))]) (q0 := 0) (ci := 9) C hW hl (c_X11_bad l G mo al ke ik rq so ha te bt an vs mab mbe bL tA tL tK tV rv (-10)  _) k_ml_X11_67 q_X11_bad (by decide) [0, 1] rfl rfl rfl rfl rfl rfl (Nat.le_of_ble_eq_true rfl) dX11_now_15 (by decide)) (fun r_1578 _ er_1578 => ?_)
    clear hW H locs; intro H locs hW
    refine lv_as (y := (-10)) er_1578 ?_
    clear er_1578 r_1578
    replace hW : Wd G A_ s_.heap [(mo, .inr (9, [.ref al, .ref ke, .ref ik, .ref rq, .long mab, .long mbe, .ref so, .ref ha, .ref te, .ref bt, .int bL, .int tA, .int tL, .int tK, .int tV, .ref an, .ref vs])), (rq, .inl (G.2.1, 3, .inl (upd rv 0 (rv 0 + 1))))] H locs := hW
    subst hQ
    exact g_iret (v := (-10)) C hW hrt ⟨(), by rfl, by rfl⟩ dX11_now_18
set_option maxHeartbeats 4000000 in
set_option maxRecDepth 100000 in
theorem c_X11_of_0 (l : Launch) (G : gT) (mo al ke ik rq so ha te bt an vs : Nat) (mab mbe : Int64) (bL tA tL tK tV : Int32) (a : Nat → Int32) (n k : Nat) (hk : k < n) (hn : n ≤ 7) (e0 : a 0 = nI n) : MI l G yX11_of cX11_of 3 .int ({ frames := 2, cells := 0, slots := 0, locals := 46 }) [.ref mo, .int (nI k), .int 0] [(mo, .inr (9, [.ref al, .ref ke, .ref ik, .ref rq, .long mab, .long mbe, .ref so, .ref ha, .ref te, .ref bt, .int bL, .int tA, .int tL, .int tK, .int tV, .ref an, .ref vs])), (al, .inl (G.2.1, 159, .inl a))] (fun (r : Int32) w1 => (r = a (19 + k)) ∧ w1 = [(mo, .inr (9, [.ref al, .ref ke, .ref ik, .ref rq, .long mab, .long mbe, .ref so, .ref ha, .ref te, .ref bt, .int bL, .int tA, .int tL, .int tK, .int tV, .ref an, .ref vs])), (al, .inl (G.2.1, 159, .inl a))]) := by
  refine MI.mk (by decide) (Nat.le_of_ble_eq_true rfl) ?_
  intro p_ e_ s_ m_ ar_ be_ me_ cd_ A_ ls C hrt hW hl
  have hx := C.1; have hb := C.2.1; have hown := C.2.2.2.1; have ht := C.2.2.2.2.1
  replace hl : lv_has ls 3 [(0, .ref mo), (1, .int (nI k)), (2, .int 0)] := hl
  generalize hQ : MQ be_ _ ar_ s_ 0 0 A_ = Q
  refine lv_aload_n hx hb dX11_of_0 rfl (lv_at hl 0 rfl) ?_
  refine lv_iload_n hx hb dX11_of_1 rfl (lv_at hl 1 rfl) ?_
  refine g_fi C hW [0, 1] rfl (g_runV (As := [.int (nI k)]) (rest := []) (wc := [(mo, .inr (9, [.ref al, .ref ke, .ref ik, .ref rq, .long mab, .long mbe, .ref so, .ref ha, .ref te, .ref bt, .int bL, .int tA, .int tL, .int tK, .int tV, .ref an, .ref vs])), (al, .inl (G.2.1, 159, .inl a))]) (q0 := 0) (ci := 9) C hW hl (c_X11_isPlayer l G mo al ke ik rq so ha te bt an vs mab mbe bL tA tL tK tV a n (nI k) (by first | assumption | omega) (by first | assumption | omega) _) k_ml_X11_118 q_X11_isPlayer (by decide) [0, 1] rfl rfl rfl rfl rfl rfl (Nat.le_of_ble_eq_true rfl) dX11_of_2 (by decide)) (fun r_1580 er_1580 => ?_)
  clear hW; intro H locs hW
  refine lv_as (y := bI (okp n (nI k))) er_1580 ?_
  clear er_1580 r_1580
  refine lv_if_eq (tgt := 20) hx hb dX11_of_5 (by decide) (fun c_1581 => ?_) (fun c_1581 => ?_)
  · exfalso; exact dd (okp_nI (by omega) (by assumption)) c_1581
  · refine lv_iload_n hx hb dX11_of_8 rfl (lv_at hl 2 rfl) ?_
    refine lv_i2l hx hb dX11_of_9 rfl ?_
    refine lv_lconst (v := 0) hx hb dX11_of_10 (by decide) ?_
    refine lv_ldc2 (v := 3) hx hb hown (ht _ k_cg_X11_141) dX11_of_11 ?_
    refine g_fi C hW [] rfl (g_runS (As := [.long ((0 : Int32).toInt64), .long 0, .long 3]) (rest := []) (wc := []) C hW hl (c_X11_in l G (0 : Int32) 0 3 0 3 (by first | rfl | decide) (by first | rfl | decide) _) k_ml_X11_53 q_X11_in (by decide) [] rfl rfl rfl rfl (Nat.le_of_ble_eq_true rfl) dX11_of_14 (by decide)) (fun r_1582 er_1582 => ?_)
    clear hW H locs; intro H locs hW
    refine lv_as (y := bI (iw (0 : Int32) 0 3)) er_1582 ?_
    clear er_1582 r_1582
    refine lv_if_ne (tgt := 27) hx hb dX11_of_17 (by decide) (fun c_1583 => ?_) (fun c_1583 => ?_)
    · refine lv_iload_n hx hb dX11_of_27 rfl (lv_at hl 2 rfl) ?_
      by_cases c_1584 : (0 : Int32) = 0
      · refine lv_as c_1584 (lv_tableIn (tgt := 56) hx hb dX11_of_28 (by decide) (by decide) rfl (by decide) ?_)
        refine lv_aload_n hx hb dX11_of_56 rfl (lv_at hl 0 rfl) ?_
        refine g_get (k := 0) (v := .ref al) C hW 0 rfl rfl jnX11 (by decide) k_fl_X11_7 rfl dX11_of_57 ?_
        refine lv_bipush (v := 19) hx hb dX11_of_60 (by decide) ?_
        refine lv_iload_n hx hb dX11_of_62 rfl (lv_at hl 1 rfl) ?_
        refine lv_iadd hx hb dX11_of_63 ?_
        refine g_ald C hW 1 rfl (ix_in (show (19 + (nI k)) = nI (19 + k) from (by first | rfl | (simp only [nI_lit, nI_add, pk_mul]; done) | (simp only [nI_lit, nI_add, pk_mul]; congr 1; omega))) (by omega) (by omega)) dX11_of_64 ?_
        refine lv_as (y := a (19 + k)) (by rw [show (19 + (nI k)).toNatClampNeg = (19 + k) from ix_cl (show (19 + (nI k)) = nI (19 + k) from (by first | rfl | (simp only [nI_lit, nI_add, pk_mul]; done) | (simp only [nI_lit, nI_add, pk_mul]; congr 1; omega))) (Nat.lt_of_lt_of_le (m := 159) (by omega) (by omega))]) ?_
        subst hQ
        exact g_iret (v := (a (19 + k))) C hW hrt ⟨by rfl, rfl⟩ dX11_of_65
      by_cases c_1585 : (0 : Int32) = 1
      · exfalso; exact absurd c_1585 (by decide)
      by_cases c_1586 : (0 : Int32) = 2
      · exfalso; exact absurd c_1586 (by decide)
      exfalso; exact c_1584 rfl
    · exfalso; exact dd (by decide) c_1583
set_option maxHeartbeats 4000000 in
set_option maxRecDepth 100000 in
theorem c_X11_of_1 (l : Launch) (G : gT) (mo al ke ik rq so ha te bt an vs : Nat) (mab mbe : Int64) (bL tA tL tK tV : Int32) (a : Nat → Int32) (n k : Nat) (hk : k < n) (hn : n ≤ 7) (e0 : a 0 = nI n) : MI l G yX11_of cX11_of 3 .int ({ frames := 2, cells := 0, slots := 0, locals := 46 }) [.ref mo, .int (nI k), .int 1] [(mo, .inr (9, [.ref al, .ref ke, .ref ik, .ref rq, .long mab, .long mbe, .ref so, .ref ha, .ref te, .ref bt, .int bL, .int tA, .int tL, .int tK, .int tV, .ref an, .ref vs])), (al, .inl (G.2.1, 159, .inl a))] (fun (r : Int32) w1 => (r = a (26 + k)) ∧ w1 = [(mo, .inr (9, [.ref al, .ref ke, .ref ik, .ref rq, .long mab, .long mbe, .ref so, .ref ha, .ref te, .ref bt, .int bL, .int tA, .int tL, .int tK, .int tV, .ref an, .ref vs])), (al, .inl (G.2.1, 159, .inl a))]) := by
  refine MI.mk (by decide) (Nat.le_of_ble_eq_true rfl) ?_
  intro p_ e_ s_ m_ ar_ be_ me_ cd_ A_ ls C hrt hW hl
  have hx := C.1; have hb := C.2.1; have hown := C.2.2.2.1; have ht := C.2.2.2.2.1
  replace hl : lv_has ls 3 [(0, .ref mo), (1, .int (nI k)), (2, .int 1)] := hl
  generalize hQ : MQ be_ _ ar_ s_ 0 0 A_ = Q
  refine lv_aload_n hx hb dX11_of_0 rfl (lv_at hl 0 rfl) ?_
  refine lv_iload_n hx hb dX11_of_1 rfl (lv_at hl 1 rfl) ?_
  refine g_fi C hW [0, 1] rfl (g_runV (As := [.int (nI k)]) (rest := []) (wc := [(mo, .inr (9, [.ref al, .ref ke, .ref ik, .ref rq, .long mab, .long mbe, .ref so, .ref ha, .ref te, .ref bt, .int bL, .int tA, .int tL, .int tK, .int tV, .ref an, .ref vs])), (al, .inl (G.2.1, 159, .inl a))]) (q0 := 0) (ci := 9) C hW hl (c_X11_isPlayer l G mo al ke ik rq so ha te bt an vs mab mbe bL tA tL tK tV a n (nI k) (by first | assumption | omega) (by first | assumption | omega) _) k_ml_X11_118 q_X11_isPlayer (by decide) [0, 1] rfl rfl rfl rfl rfl rfl (Nat.le_of_ble_eq_true rfl) dX11_of_2 (by decide)) (fun r_1587 er_1587 => ?_)
  clear hW; intro H locs hW
  refine lv_as (y := bI (okp n (nI k))) er_1587 ?_
  clear er_1587 r_1587
  refine lv_if_eq (tgt := 20) hx hb dX11_of_5 (by decide) (fun c_1588 => ?_) (fun c_1588 => ?_)
  · exfalso; exact dd (okp_nI (by omega) (by assumption)) c_1588
  · refine lv_iload_n hx hb dX11_of_8 rfl (lv_at hl 2 rfl) ?_
    refine lv_i2l hx hb dX11_of_9 rfl ?_
    refine lv_lconst (v := 0) hx hb dX11_of_10 (by decide) ?_
    refine lv_ldc2 (v := 3) hx hb hown (ht _ k_cg_X11_141) dX11_of_11 ?_
    refine g_fi C hW [] rfl (g_runS (As := [.long ((1 : Int32).toInt64), .long 0, .long 3]) (rest := []) (wc := []) C hW hl (c_X11_in l G (1 : Int32) 0 3 0 3 (by first | rfl | decide) (by first | rfl | decide) _) k_ml_X11_53 q_X11_in (by decide) [] rfl rfl rfl rfl (Nat.le_of_ble_eq_true rfl) dX11_of_14 (by decide)) (fun r_1589 er_1589 => ?_)
    clear hW H locs; intro H locs hW
    refine lv_as (y := bI (iw (1 : Int32) 0 3)) er_1589 ?_
    clear er_1589 r_1589
    refine lv_if_ne (tgt := 27) hx hb dX11_of_17 (by decide) (fun c_1590 => ?_) (fun c_1590 => ?_)
    · refine lv_iload_n hx hb dX11_of_27 rfl (lv_at hl 2 rfl) ?_
      by_cases c_1591 : (1 : Int32) = 0
      · exfalso; exact absurd c_1591 (by decide)
      by_cases c_1592 : (1 : Int32) = 1
      · refine lv_as c_1592 (lv_tableIn (tgt := 66) hx hb dX11_of_28 (by decide) (by decide) rfl (by decide) ?_)
        refine lv_aload_n hx hb dX11_of_66 rfl (lv_at hl 0 rfl) ?_
        refine g_get (k := 0) (v := .ref al) C hW 0 rfl rfl jnX11 (by decide) k_fl_X11_7 rfl dX11_of_67 ?_
        refine lv_bipush (v := 26) hx hb dX11_of_70 (by decide) ?_
        refine lv_iload_n hx hb dX11_of_72 rfl (lv_at hl 1 rfl) ?_
        refine lv_iadd hx hb dX11_of_73 ?_
        refine g_ald C hW 1 rfl (ix_in (show (26 + (nI k)) = nI (26 + k) from (by first | rfl | (simp only [nI_lit, nI_add, pk_mul]; done) | (simp only [nI_lit, nI_add, pk_mul]; congr 1; omega))) (by omega) (by omega)) dX11_of_74 ?_
        refine lv_as (y := a (26 + k)) (by rw [show (26 + (nI k)).toNatClampNeg = (26 + k) from ix_cl (show (26 + (nI k)) = nI (26 + k) from (by first | rfl | (simp only [nI_lit, nI_add, pk_mul]; done) | (simp only [nI_lit, nI_add, pk_mul]; congr 1; omega))) (Nat.lt_of_lt_of_le (m := 159) (by omega) (by omega))]) ?_
        subst hQ
        exact g_iret (v := (a (26 + k))) C hW hrt ⟨by rfl, rfl⟩ dX11_of_75
      by_cases c_1593 : (1 : Int32) = 2
      · exfalso; exact absurd c_1593 (by decide)
      exfalso; exact c_1592 rfl
    · exfalso; exact dd (by decide) c_1590
set_option maxHeartbeats 4000000 in
set_option maxRecDepth 100000 in
theorem c_X11_of_2 (l : Launch) (G : gT) (mo al ke ik rq so ha te bt an vs : Nat) (mab mbe : Int64) (bL tA tL tK tV : Int32) (a : Nat → Int32) (n k : Nat) (hk : k < n) (hn : n ≤ 7) (e0 : a 0 = nI n) : MI l G yX11_of cX11_of 3 .int ({ frames := 2, cells := 0, slots := 0, locals := 46 }) [.ref mo, .int (nI k), .int 2] [(mo, .inr (9, [.ref al, .ref ke, .ref ik, .ref rq, .long mab, .long mbe, .ref so, .ref ha, .ref te, .ref bt, .int bL, .int tA, .int tL, .int tK, .int tV, .ref an, .ref vs])), (al, .inl (G.2.1, 159, .inl a))] (fun (r : Int32) w1 => (r = a (33 + k)) ∧ w1 = [(mo, .inr (9, [.ref al, .ref ke, .ref ik, .ref rq, .long mab, .long mbe, .ref so, .ref ha, .ref te, .ref bt, .int bL, .int tA, .int tL, .int tK, .int tV, .ref an, .ref vs])), (al, .inl (G.2.1, 159, .inl a))]) := by
  refine MI.mk (by decide) (Nat.le_of_ble_eq_true rfl) ?_
  intro p_ e_ s_ m_ ar_ be_ me_ cd_ A_ ls C hrt hW hl
  have hx := C.1; have hb := C.2.1; have hown := C.2.2.2.1; have ht := C.2.2.2.2.1
  replace hl : lv_has ls 3 [(0, .ref mo), (1, .int (nI k)), (2, .int 2)] := hl
  generalize hQ : MQ be_ _ ar_ s_ 0 0 A_ = Q
  refine lv_aload_n hx hb dX11_of_0 rfl (lv_at hl 0 rfl) ?_
  refine lv_iload_n hx hb dX11_of_1 rfl (lv_at hl 1 rfl) ?_
  refine g_fi C hW [0, 1] rfl (g_runV (As := [.int (nI k)]) (rest := []) (wc := [(mo, .inr (9, [.ref al, .ref ke, .ref ik, .ref rq, .long mab, .long mbe, .ref so, .ref ha, .ref te, .ref bt, .int bL, .int tA, .int tL, .int tK, .int tV, .ref an, .ref vs])), (al, .inl (G.2.1, 159, .inl a))]) (q0 := 0) (ci := 9) C hW hl (c_X11_isPlayer l G mo al ke ik rq so ha te bt an vs mab mbe bL tA tL tK tV a n (nI k) (by first | assumption | omega) (by first | assumption | omega) _) k_ml_X11_118 q_X11_isPlayer (by decide) [0, 1] rfl rfl rfl rfl rfl rfl (Nat.le_of_ble_eq_true rfl) dX11_of_2 (by decide)) (fun r_1594 er_1594 => ?_)
  clear hW; intro H locs hW
  refine lv_as (y := bI (okp n (nI k))) er_1594 ?_
  clear er_1594 r_1594
  refine lv_if_eq (tgt := 20) hx hb dX11_of_5 (by decide) (fun c_1595 => ?_) (fun c_1595 => ?_)
  · exfalso; exact dd (okp_nI (by omega) (by assumption)) c_1595
  · refine lv_iload_n hx hb dX11_of_8 rfl (lv_at hl 2 rfl) ?_
    refine lv_i2l hx hb dX11_of_9 rfl ?_
    refine lv_lconst (v := 0) hx hb dX11_of_10 (by decide) ?_
    refine lv_ldc2 (v := 3) hx hb hown (ht _ k_cg_X11_141) dX11_of_11 ?_
    refine g_fi C hW [] rfl (g_runS (As := [.long ((2 : Int32).toInt64), .long 0, .long 3]) (rest := []) (wc := []) C hW hl (c_X11_in l G (2 : Int32) 0 3 0 3 (by first | rfl | decide) (by first | rfl | decide) _) k_ml_X11_53 q_X11_in (by decide) [] rfl rfl rfl rfl (Nat.le_of_ble_eq_true rfl) dX11_of_14 (by decide)) (fun r_1596 er_1596 => ?_)
    clear hW H locs; intro H locs hW
    refine lv_as (y := bI (iw (2 : Int32) 0 3)) er_1596 ?_
    clear er_1596 r_1596
    refine lv_if_ne (tgt := 27) hx hb dX11_of_17 (by decide) (fun c_1597 => ?_) (fun c_1597 => ?_)
    · refine lv_iload_n hx hb dX11_of_27 rfl (lv_at hl 2 rfl) ?_
      by_cases c_1598 : (2 : Int32) = 0
      · exfalso; exact absurd c_1598 (by decide)
      by_cases c_1599 : (2 : Int32) = 1
      · exfalso; exact absurd c_1599 (by decide)
      by_cases c_1600 : (2 : Int32) = 2
      · refine lv_as c_1600 (lv_tableIn (tgt := 76) hx hb dX11_of_28 (by decide) (by decide) rfl (by decide) ?_)
        refine lv_aload_n hx hb dX11_of_76 rfl (lv_at hl 0 rfl) ?_
        refine g_get (k := 0) (v := .ref al) C hW 0 rfl rfl jnX11 (by decide) k_fl_X11_7 rfl dX11_of_77 ?_
        refine lv_bipush (v := 33) hx hb dX11_of_80 (by decide) ?_
        refine lv_iload_n hx hb dX11_of_82 rfl (lv_at hl 1 rfl) ?_
        refine lv_iadd hx hb dX11_of_83 ?_
        refine g_ald C hW 1 rfl (ix_in (show (33 + (nI k)) = nI (33 + k) from (by first | rfl | (simp only [nI_lit, nI_add, pk_mul]; done) | (simp only [nI_lit, nI_add, pk_mul]; congr 1; omega))) (by omega) (by omega)) dX11_of_84 ?_
        refine lv_as (y := a (33 + k)) (by rw [show (33 + (nI k)).toNatClampNeg = (33 + k) from ix_cl (show (33 + (nI k)) = nI (33 + k) from (by first | rfl | (simp only [nI_lit, nI_add, pk_mul]; done) | (simp only [nI_lit, nI_add, pk_mul]; congr 1; omega))) (Nat.lt_of_lt_of_le (m := 159) (by omega) (by omega))]) ?_
        subst hQ
        exact g_iret (v := (a (33 + k))) C hW hrt ⟨by rfl, rfl⟩ dX11_of_85
      exfalso; exact c_1600 rfl
    · exfalso; exact dd (by decide) c_1597
set_option maxHeartbeats 4000000 in
set_option maxRecDepth 100000 in
theorem c_X11_of_3 (l : Launch) (G : gT) (mo al ke ik rq so ha te bt an vs : Nat) (mab mbe : Int64) (bL tA tL tK tV : Int32) (a : Nat → Int32) (n k hr : Nat) (hk : k < n) (hn : n ≤ 7) (e0 : a 0 = nI n) (e12 : a 12 = nI hr) (hh : hr < 10000) : MI l G yX11_of cX11_of 3 .int ({ frames := 2, cells := 0, slots := 0, locals := 46 }) [.ref mo, .int (nI k), .int 3] [(mo, .inr (9, [.ref al, .ref ke, .ref ik, .ref rq, .long mab, .long mbe, .ref so, .ref ha, .ref te, .ref bt, .int bL, .int tA, .int tL, .int tK, .int tV, .ref an, .ref vs])), (al, .inl (G.2.1, 159, .inl a))] (fun (r : Int32) w1 => (r = bl (a (19 + k)) (a (33 + k)) (nI (hr % 24))) ∧ w1 = [(mo, .inr (9, [.ref al, .ref ke, .ref ik, .ref rq, .long mab, .long mbe, .ref so, .ref ha, .ref te, .ref bt, .int bL, .int tA, .int tL, .int tK, .int tV, .ref an, .ref vs])), (al, .inl (G.2.1, 159, .inl a))]) := by
  refine MI.mk (by decide) (Nat.le_of_ble_eq_true rfl) ?_
  intro p_ e_ s_ m_ ar_ be_ me_ cd_ A_ ls C hrt hW hl
  have hx := C.1; have hb := C.2.1; have hown := C.2.2.2.1; have ht := C.2.2.2.2.1
  replace hl : lv_has ls 3 [(0, .ref mo), (1, .int (nI k)), (2, .int 3)] := hl
  generalize hQ : MQ be_ _ ar_ s_ 0 0 A_ = Q
  refine lv_aload_n hx hb dX11_of_0 rfl (lv_at hl 0 rfl) ?_
  refine lv_iload_n hx hb dX11_of_1 rfl (lv_at hl 1 rfl) ?_
  refine g_fi C hW [0, 1] rfl (g_runV (As := [.int (nI k)]) (rest := []) (wc := [(mo, .inr (9, [.ref al, .ref ke, .ref ik, .ref rq, .long mab, .long mbe, .ref so, .ref ha, .ref te, .ref bt, .int bL, .int tA, .int tL, .int tK, .int tV, .ref an, .ref vs])), (al, .inl (G.2.1, 159, .inl a))]) (q0 := 0) (ci := 9) C hW hl (c_X11_isPlayer l G mo al ke ik rq so ha te bt an vs mab mbe bL tA tL tK tV a n (nI k) (by first | assumption | omega) (by first | assumption | omega) _) k_ml_X11_118 q_X11_isPlayer (by decide) [0, 1] rfl rfl rfl rfl rfl rfl (Nat.le_of_ble_eq_true rfl) dX11_of_2 (by decide)) (fun r_1601 er_1601 => ?_)
  clear hW; intro H locs hW
  refine lv_as (y := bI (okp n (nI k))) er_1601 ?_
  clear er_1601 r_1601
  refine lv_if_eq (tgt := 20) hx hb dX11_of_5 (by decide) (fun c_1602 => ?_) (fun c_1602 => ?_)
  · exfalso; exact dd (okp_nI (by omega) (by assumption)) c_1602
  · refine lv_iload_n hx hb dX11_of_8 rfl (lv_at hl 2 rfl) ?_
    refine lv_i2l hx hb dX11_of_9 rfl ?_
    refine lv_lconst (v := 0) hx hb dX11_of_10 (by decide) ?_
    refine lv_ldc2 (v := 3) hx hb hown (ht _ k_cg_X11_141) dX11_of_11 ?_
    refine g_fi C hW [] rfl (g_runS (As := [.long ((3 : Int32).toInt64), .long 0, .long 3]) (rest := []) (wc := []) C hW hl (c_X11_in l G (3 : Int32) 0 3 0 3 (by first | rfl | decide) (by first | rfl | decide) _) k_ml_X11_53 q_X11_in (by decide) [] rfl rfl rfl rfl (Nat.le_of_ble_eq_true rfl) dX11_of_14 (by decide)) (fun r_1603 er_1603 => ?_)
    clear hW H locs; intro H locs hW
    refine lv_as (y := bI (iw (3 : Int32) 0 3)) er_1603 ?_
    clear er_1603 r_1603
    refine lv_if_ne (tgt := 27) hx hb dX11_of_17 (by decide) (fun c_1604 => ?_) (fun c_1604 => ?_)
    · refine lv_iload_n hx hb dX11_of_27 rfl (lv_at hl 2 rfl) ?_
      by_cases c_1605 : (3 : Int32) = 0
      · exfalso; exact absurd c_1605 (by decide)
      by_cases c_1606 : (3 : Int32) = 1
      · exfalso; exact absurd c_1606 (by decide)
      by_cases c_1607 : (3 : Int32) = 2
      · exfalso; exact absurd c_1607 (by decide)
      refine lv_tableOut (tgt := 86) hx hb dX11_of_28 (by have q0 := sw_ne (z := 0) c_1605 (by decide); have q1 := sw_ne (z := 1) c_1606 (by decide); have q2 := sw_ne (z := 2) c_1607 (by decide); omega) (by decide) ?_
      refine lv_aload_n hx hb dX11_of_86 rfl (lv_at hl 0 rfl) ?_
      refine g_get (k := 0) (v := .ref al) C hW 0 rfl rfl jnX11 (by decide) k_fl_X11_7 rfl dX11_of_87 ?_
      refine lv_bipush (v := 19) hx hb dX11_of_90 (by decide) ?_
      refine lv_iload_n hx hb dX11_of_92 rfl (lv_at hl 1 rfl) ?_
      refine lv_iadd hx hb dX11_of_93 ?_
      refine g_ald C hW 1 rfl (ix_in (show (19 + (nI k)) = nI (19 + k) from (by first | rfl | (simp only [nI_lit, nI_add, pk_mul]; done) | (simp only [nI_lit, nI_add, pk_mul]; congr 1; omega))) (by omega) (by omega)) dX11_of_94 ?_
      refine lv_as (y := a (19 + k)) (by rw [show (19 + (nI k)).toNatClampNeg = (19 + k) from ix_cl (show (19 + (nI k)) = nI (19 + k) from (by first | rfl | (simp only [nI_lit, nI_add, pk_mul]; done) | (simp only [nI_lit, nI_add, pk_mul]; congr 1; omega))) (Nat.lt_of_lt_of_le (m := 159) (by omega) (by omega))]) ?_
      refine lv_aload_n hx hb dX11_of_95 rfl (lv_at hl 0 rfl) ?_
      refine g_get (k := 0) (v := .ref al) C hW 0 rfl rfl jnX11 (by decide) k_fl_X11_7 rfl dX11_of_96 ?_
      refine lv_bipush (v := 33) hx hb dX11_of_99 (by decide) ?_
      refine lv_iload_n hx hb dX11_of_101 rfl (lv_at hl 1 rfl) ?_
      refine lv_iadd hx hb dX11_of_102 ?_
      refine g_ald C hW 1 rfl (ix_in (show (33 + (nI k)) = nI (33 + k) from (by first | rfl | (simp only [nI_lit, nI_add, pk_mul]; done) | (simp only [nI_lit, nI_add, pk_mul]; congr 1; omega))) (by omega) (by omega)) dX11_of_103 ?_
      refine lv_as (y := a (33 + k)) (by rw [show (33 + (nI k)).toNatClampNeg = (33 + k) from ix_cl (show (33 + (nI k)) = nI (33 + k) from (by first | rfl | (simp only [nI_lit, nI_add, pk_mul]; done) | (simp only [nI_lit, nI_add, pk_mul]; congr 1; omega))) (Nat.lt_of_lt_of_le (m := 159) (by omega) (by omega))]) ?_
      refine lv_aload_n hx hb dX11_of_104 rfl (lv_at hl 0 rfl) ?_
      refine g_get (k := 0) (v := .ref al) C hW 0 rfl rfl jnX11 (by decide) k_fl_X11_7 rfl dX11_of_105 ?_
      refine lv_bipush (v := 12) hx hb dX11_of_108 (by decide) ?_
      refine g_ald C hW 1 rfl (vp_in_nI (n := 12) (by omega) (by omega)) dX11_of_110 ?_
      refine lv_as (y := a 12) (rfl) ?_
      refine lv_as (y := nI hr) (e12) ?_
      refine lv_bipush (v := 24) hx hb dX11_of_111 (by decide) ?_
      refine lv_irem hx hb dX11_of_113 (by decide) ?_
      refine lv_as (y := nI (hr % 24)) (pk_rem (by omega) (by decide) (by decide)) ?_
      refine g_fi C hW [] rfl (g_runS (As := [.int (a (19 + k)), .int (a (33 + k)), .int (nI (hr % 24))]) (rest := []) (wc := []) C hW hl (c_X11_hitsAs l G (a (19 + k)) (a (33 + k)) (nI (hr % 24))  _) k_ml_X11_91 q_X11_hitsAs (by decide) [] rfl rfl rfl rfl (Nat.le_of_ble_eq_true rfl) dX11_of_114 (by decide)) (fun r_1608 er_1608 => ?_)
      clear hW H locs; intro H locs hW
      refine lv_as (y := bl (a (19 + k)) (a (33 + k)) (nI (hr % 24))) er_1608 ?_
      clear er_1608 r_1608
      subst hQ
      exact g_iret (v := (bl (a (19 + k)) (a (33 + k)) (nI (hr % 24)))) C hW hrt ⟨by rfl, rfl⟩ dX11_of_117
    · exfalso; exact dd (by decide) c_1604
set_option maxHeartbeats 4000000 in
set_option maxRecDepth 100000 in
theorem c_X11_of_bad (l : Launch) (G : gT) (mo al ke ik rq so ha te bt an vs : Nat) (mab mbe : Int64) (bL tA tL tK tV : Int32) (rv : Nat → Int32) (a : Nat → Int32) (n : Nat) (p9 x9 : Int32) (e0 : a 0 = nI n) (hn : n ≤ 7) (hbad : (okp n p9 && iw x9 0 3) = false) : MI l G yX11_of cX11_of 3 .int ({ frames := 2, cells := 0, slots := 0, locals := 46 }) [.ref mo, .int p9, .int x9] [(mo, .inr (9, [.ref al, .ref ke, .ref ik, .ref rq, .long mab, .long mbe, .ref so, .ref ha, .ref te, .ref bt, .int bL, .int tA, .int tL, .int tK, .int tV, .ref an, .ref vs])), (al, .inl (G.2.1, 159, .inl a)), (rq, .inl (G.2.1, 3, .inl rv))] (fun (r : Int32) w1 => ∃ u_ : Unit, (r = (-2)) ∧ w1 = [(mo, .inr (9, [.ref al, .ref ke, .ref ik, .ref rq, .long mab, .long mbe, .ref so, .ref ha, .ref te, .ref bt, .int bL, .int tA, .int tL, .int tK, .int tV, .ref an, .ref vs])), (al, .inl (G.2.1, 159, .inl a)), (rq, .inl (G.2.1, 3, .inl (upd rv 0 (rv 0 + 1))))]) := by
  refine MI.mk (by decide) (Nat.le_of_ble_eq_true rfl) ?_
  intro p_ e_ s_ m_ ar_ be_ me_ cd_ A_ ls C hrt hW hl
  have hx := C.1; have hb := C.2.1; have hown := C.2.2.2.1; have ht := C.2.2.2.2.1
  replace hl : lv_has ls 3 [(0, .ref mo), (1, .int p9), (2, .int x9)] := hl
  generalize hQ : MQ be_ _ ar_ s_ 0 0 A_ = Q
  refine lv_aload_n hx hb dX11_of_0 rfl (lv_at hl 0 rfl) ?_
  refine lv_iload_n hx hb dX11_of_1 rfl (lv_at hl 1 rfl) ?_
  refine g_fi C hW [0, 1] rfl (g_runV (As := [.int p9]) (rest := []) (wc := [(mo, .inr (9, [.ref al, .ref ke, .ref ik, .ref rq, .long mab, .long mbe, .ref so, .ref ha, .ref te, .ref bt, .int bL, .int tA, .int tL, .int tK, .int tV, .ref an, .ref vs])), (al, .inl (G.2.1, 159, .inl a))]) (q0 := 0) (ci := 9) C hW hl (c_X11_isPlayer l G mo al ke ik rq so ha te bt an vs mab mbe bL tA tL tK tV a n p9 (by first | assumption | omega) (by first | assumption | omega) _) k_ml_X11_118 q_X11_isPlayer (by decide) [0, 1] rfl rfl rfl rfl rfl rfl (Nat.le_of_ble_eq_true rfl) dX11_of_2 (by decide)) (fun r_1609 er_1609 => ?_)
  clear hW; intro H locs hW
  refine lv_as (y := bI (okp n p9)) er_1609 ?_
  clear er_1609 r_1609
  have J_1613 : ∀ (H : Heap) (locs : List Loc) (ls : Array Slot), Wd G A_ s_.heap [(mo, .inr (9, [.ref al, .ref ke, .ref ik, .ref rq, .long mab, .long mbe, .ref so, .ref ha, .ref te, .ref bt, .int bL, .int tA, .int tL, .int tK, .int tV, .ref an, .ref vs])), (al, .inl (G.2.1, 159, .inl a)), (rq, .inl (G.2.1, 3, .inl rv))] H locs → lv_has ls 3 [(0, .ref mo), (1, .int p9), (2, .int x9)] → W p_ l e_ ({ frames := 2, cells := 0, slots := 0, locals := 46 }) s_ m_ ar_ be_ me_ cd_ H locs 0 0 Q (F0 m_ 20 ls []) := by
    intro  H locs ls hW hl
    refine lv_aload_n hx hb dX11_of_20 rfl (lv_at hl 0 rfl) ?_
    refine lv_bipush (v := (-2)) hx hb dX11_of_21 (by decide) ?_
    refine g_fiw (wr := [(al, .inl (G.2.1, 159, .inl a))]) (ww := fun (u_ : Unit) => [(mo, .inr (9, [.ref al, .ref ke, .ref ik, .ref rq, .long mab, .long mbe, .ref so, .ref ha, .ref te, .ref bt, .int bL, .int tA, .int tL, .int tK, .int tV, .ref an, .ref vs])), (rq, .inl (G.2.1, 3, .inl (upd rv 0 (rv 0 + 1))))]) (w2 := fun (u_ : Unit) => [(mo, .inr (9, [.ref al, .ref ke, .ref ik, .ref rq, .long mab, .long mbe, .ref so, .ref ha, .ref te, .ref bt, .int bL, .int tA, .int tL, .int tK, .int tV, .ref an, .ref vs])), (al, .inl (G.2.1, 159, .inl a)), (rq, .inl (G.2.1, 3, .inl (upd rv 0 (rv 0 + 1))))]) C hW [0, 2] [1] [1, 0, 2] rfl rfl (by decide) (by decide) (by decide) (fun _ => rfl) (g_runV (As := [.int (-2)]) (rest := []) (wc := [(mo, .inr (9, [.ref al, .ref ke, .ref ik, .ref rq, .long mab, .long mbe, .ref so, .ref ha, .ref te, .ref bt, .int bL, .int tA, .int tL, .int tK, .int tV, .ref an, .ref vs])), (rq, .inl (G.2.1, 3, .inl rv))]) (q0 := 0) (ci := 9) C hW hl (c_X11_bad l G mo al ke ik rq so ha te bt an vs mab mbe bL tA tL tK tV rv (-2)  _) k_ml_X11_67 q_X11_bad (by decide) [0, 2] rfl rfl rfl rfl rfl rfl (Nat.le_of_ble_eq_true rfl) dX11_of_23 (by decide)) (fun r_1614 _ er_1614 => ?_)
    clear hW H locs; intro H locs hW
    refine lv_as (y := (-2)) er_1614 ?_
    clear er_1614 r_1614
    replace hW : Wd G A_ s_.heap [(mo, .inr (9, [.ref al, .ref ke, .ref ik, .ref rq, .long mab, .long mbe, .ref so, .ref ha, .ref te, .ref bt, .int bL, .int tA, .int tL, .int tK, .int tV, .ref an, .ref vs])), (al, .inl (G.2.1, 159, .inl a)), (rq, .inl (G.2.1, 3, .inl (upd rv 0 (rv 0 + 1))))] H locs := hW
    subst hQ
    exact g_iret (v := (-2)) C hW hrt ⟨(), by rfl, by rfl⟩ dX11_of_26
  refine lv_if_eq (tgt := 20) hx hb dX11_of_5 (by decide) (fun c_1610 => ?_) (fun c_1610 => ?_)
  · exact J_1613  _ _ _ hW (lv_sub hl [0, 1, 2] rfl)
  · refine lv_iload_n hx hb dX11_of_8 rfl (lv_at hl 2 rfl) ?_
    refine lv_i2l hx hb dX11_of_9 rfl ?_
    refine lv_lconst (v := 0) hx hb dX11_of_10 (by decide) ?_
    refine lv_ldc2 (v := 3) hx hb hown (ht _ k_cg_X11_141) dX11_of_11 ?_
    refine g_fi C hW [] rfl (g_runS (As := [.long x9.toInt64, .long 0, .long 3]) (rest := []) (wc := []) C hW hl (c_X11_in l G x9 0 3 0 3 (by first | rfl | decide) (by first | rfl | decide) _) k_ml_X11_53 q_X11_in (by decide) [] rfl rfl rfl rfl (Nat.le_of_ble_eq_true rfl) dX11_of_14 (by decide)) (fun r_1616 er_1616 => ?_)
    clear hW H locs; intro H locs hW
    refine lv_as (y := bI (iw x9 0 3)) er_1616 ?_
    clear er_1616 r_1616
    refine lv_if_ne (tgt := 27) hx hb dX11_of_17 (by decide) (fun c_1617 => ?_) (fun c_1617 => ?_)
    · exfalso; simp [bI_ne.mp c_1610, bI_ne.mp c_1617, if_true, if_false, reduceIte, Bool.false_eq_true] at hbad
    · exact J_1613  _ _ _ hW (lv_sub hl [0, 1, 2] rfl)
set_option maxHeartbeats 4000000 in
set_option maxRecDepth 100000 in
theorem c_X11_reach_ok (l : Launch) (G : gT) (mo al ke ik rq so ha te bt an vs : Nat) (mab mbe : Int64) (bL tA tL tK tV : Int32) (a : Nat → Int32) (n k m9 hr : Nat) (hk : k < n) (hn : n ≤ 7) (e0 : a 0 = nI n) (e12 : a 12 = nI hr) (hh : hr < 10000) (hm : m9 < 48) : MI l G yX11_reach cX11_reach 3 .int ({ frames := 2, cells := 0, slots := 0, locals := 49 }) [.ref mo, .int (nI k), .int (nI m9)] [(mo, .inr (9, [.ref al, .ref ke, .ref ik, .ref rq, .long mab, .long mbe, .ref so, .ref ha, .ref te, .ref bt, .int bL, .int tA, .int tL, .int tK, .int tV, .ref an, .ref vs])), (al, .inl (G.2.1, 159, .inl a))] (fun (r : Int32) w1 => (r = rcA a k (hr + m9) (a (26 + k)) (a 7)) ∧ w1 = [(mo, .inr (9, [.ref al, .ref ke, .ref ik, .ref rq, .long mab, .long mbe, .ref so, .ref ha, .ref te, .ref bt, .int bL, .int tA, .int tL, .int tK, .int tV, .ref an, .ref vs])), (al, .inl (G.2.1, 159, .inl a))]) := by
  refine MI.mk (by decide) (Nat.le_of_ble_eq_true rfl) ?_
  intro p_ e_ s_ m_ ar_ be_ me_ cd_ A_ ls C hrt hW hl
  have hx := C.1; have hb := C.2.1; have hown := C.2.2.2.1; have ht := C.2.2.2.2.1
  replace hl : lv_has ls 3 [(0, .ref mo), (1, .int (nI k)), (2, .int (nI m9))] := hl
  generalize hQ : MQ be_ _ ar_ s_ 0 0 A_ = Q
  refine lv_aload_n hx hb dX11_reach_0 rfl (lv_at hl 0 rfl) ?_
  refine lv_iload_n hx hb dX11_reach_1 rfl (lv_at hl 1 rfl) ?_
  refine g_fi C hW [0, 1] rfl (g_runV (As := [.int (nI k)]) (rest := []) (wc := [(mo, .inr (9, [.ref al, .ref ke, .ref ik, .ref rq, .long mab, .long mbe, .ref so, .ref ha, .ref te, .ref bt, .int bL, .int tA, .int tL, .int tK, .int tV, .ref an, .ref vs])), (al, .inl (G.2.1, 159, .inl a))]) (q0 := 0) (ci := 9) C hW hl (c_X11_isPlayer l G mo al ke ik rq so ha te bt an vs mab mbe bL tA tL tK tV a n (nI k) (by first | assumption | omega) (by first | assumption | omega) _) k_ml_X11_118 q_X11_isPlayer (by decide) [0, 1] rfl rfl rfl rfl rfl rfl (Nat.le_of_ble_eq_true rfl) dX11_reach_2 (by decide)) (fun r_1618 er_1618 => ?_)
  clear hW; intro H locs hW
  refine lv_as (y := bI (okp n (nI k))) er_1618 ?_
  clear er_1618 r_1618
  refine lv_if_eq (tgt := 20) hx hb dX11_reach_5 (by decide) (fun c_1619 => ?_) (fun c_1619 => ?_)
  · exfalso; exact dd (okp_nI (by omega) (by assumption)) c_1619
  · refine lv_iload_n hx hb dX11_reach_8 rfl (lv_at hl 2 rfl) ?_
    refine lv_i2l hx hb dX11_reach_9 rfl ?_
    refine lv_lconst (v := 0) hx hb dX11_reach_10 (by decide) ?_
    refine lv_ldc2 (v := 47) hx hb hown (ht _ k_cg_X11_143) dX11_reach_11 ?_
    refine g_fi C hW [] rfl (g_runS (As := [.long ((nI m9).toInt64), .long 0, .long 47]) (rest := []) (wc := []) C hW hl (c_X11_in l G (nI m9) 0 47 0 47 (by first | rfl | decide) (by first | rfl | decide) _) k_ml_X11_53 q_X11_in (by decide) [] rfl rfl rfl rfl (Nat.le_of_ble_eq_true rfl) dX11_reach_14 (by decide)) (fun r_1620 er_1620 => ?_)
    clear hW H locs; intro H locs hW
    refine lv_as (y := bI (iw (nI m9) 0 47)) er_1620 ?_
    clear er_1620 r_1620
    refine lv_if_ne (tgt := 27) hx hb dX11_reach_17 (by decide) (fun c_1621 => ?_) (fun c_1621 => ?_)
    · refine lv_aload_n hx hb dX11_reach_27 rfl (lv_at hl 0 rfl) ?_
      refine g_get (k := 0) (v := .ref al) C hW 0 rfl rfl jnX11 (by decide) k_fl_X11_7 rfl dX11_reach_28 ?_
      refine lv_iload_n hx hb dX11_reach_31 rfl (lv_at hl 1 rfl) ?_
      refine lv_aload_n hx hb dX11_reach_32 rfl (lv_at hl 0 rfl) ?_
      refine g_get (k := 0) (v := .ref al) C hW 0 rfl rfl jnX11 (by decide) k_fl_X11_7 rfl dX11_reach_33 ?_
      refine lv_bipush (v := 26) hx hb dX11_reach_36 (by decide) ?_
      refine lv_iload_n hx hb dX11_reach_38 rfl (lv_at hl 1 rfl) ?_
      refine lv_iadd hx hb dX11_reach_39 ?_
      refine g_ald C hW 1 rfl (ix_in (show (26 + (nI k)) = nI (26 + k) from (by first | rfl | (simp only [nI_lit, nI_add, pk_mul]; done) | (simp only [nI_lit, nI_add, pk_mul]; congr 1; omega))) (by omega) (by omega)) dX11_reach_40 ?_
      refine lv_as (y := a (26 + k)) (by rw [show (26 + (nI k)).toNatClampNeg = (26 + k) from ix_cl (show (26 + (nI k)) = nI (26 + k) from (by first | rfl | (simp only [nI_lit, nI_add, pk_mul]; done) | (simp only [nI_lit, nI_add, pk_mul]; congr 1; omega))) (Nat.lt_of_lt_of_le (m := 159) (by omega) (by omega))]) ?_
      refine lv_aload_n hx hb dX11_reach_41 rfl (lv_at hl 0 rfl) ?_
      refine g_get (k := 0) (v := .ref al) C hW 0 rfl rfl jnX11 (by decide) k_fl_X11_7 rfl dX11_reach_42 ?_
      refine lv_bipush (v := 12) hx hb dX11_reach_45 (by decide) ?_
      refine g_ald C hW 1 rfl (vp_in_nI (n := 12) (by omega) (by omega)) dX11_reach_47 ?_
      refine lv_as (y := a 12) (rfl) ?_
      refine lv_as (y := nI hr) (e12) ?_
      refine lv_iload_n hx hb dX11_reach_48 rfl (lv_at hl 2 rfl) ?_
      refine lv_iadd hx hb dX11_reach_49 ?_
      refine lv_as (y := nI (hr + m9)) (nI_add _ _) ?_
      refine lv_aload_n hx hb dX11_reach_50 rfl (lv_at hl 0 rfl) ?_
      refine g_get (k := 0) (v := .ref al) C hW 0 rfl rfl jnX11 (by decide) k_fl_X11_7 rfl dX11_reach_51 ?_
      refine lv_bipush (v := 7) hx hb dX11_reach_54 (by decide) ?_
      refine g_ald C hW 1 rfl (vp_in_nI (n := 7) (by omega) (by omega)) dX11_reach_56 ?_
      refine lv_as (y := a 7) (rfl) ?_
      refine g_fi C hW [1] rfl (g_runS (As := [.ref al, .int (nI k), .int (a (26 + k)), .int (nI (hr + m9)), .int (a 7)]) (rest := []) (wc := [(al, .inl (G.2.1, 159, .inl a))]) C hW hl (c_X11_reachFrom l G al 159 a k (hr + m9) (a (26 + k)) (a 7) (by first | assumption | omega) (by first | assumption | omega) (by first | assumption | omega) _) k_ml_X11_103 q_X11_reachFrom (by decide) [1] rfl rfl rfl rfl (Nat.le_of_ble_eq_true rfl) dX11_reach_57 (by decide)) (fun r_1622 er_1622 => ?_)
      clear hW H locs; intro H locs hW
      refine lv_as (y := rcA a k (hr + m9) (a (26 + k)) (a 7)) er_1622 ?_
      clear er_1622 r_1622
      subst hQ
      exact g_iret (v := (rcA a k (hr + m9) (a (26 + k)) (a 7))) C hW hrt ⟨by rfl, rfl⟩ dX11_reach_60
    · exfalso; exact dd (iw_nI (m := 47) (by omega) (by omega)) c_1621
set_option maxHeartbeats 4000000 in
set_option maxRecDepth 100000 in
theorem c_X11_reach_bad (l : Launch) (G : gT) (mo al ke ik rq so ha te bt an vs : Nat) (mab mbe : Int64) (bL tA tL tK tV : Int32) (rv : Nat → Int32) (a : Nat → Int32) (n : Nat) (p9 x9 : Int32) (e0 : a 0 = nI n) (hn : n ≤ 7) (hbad : (okp n p9 && iw x9 0 47) = false) : MI l G yX11_reach cX11_reach 3 .int ({ frames := 2, cells := 0, slots := 0, locals := 46 }) [.ref mo, .int p9, .int x9] [(mo, .inr (9, [.ref al, .ref ke, .ref ik, .ref rq, .long mab, .long mbe, .ref so, .ref ha, .ref te, .ref bt, .int bL, .int tA, .int tL, .int tK, .int tV, .ref an, .ref vs])), (al, .inl (G.2.1, 159, .inl a)), (rq, .inl (G.2.1, 3, .inl rv))] (fun (r : Int32) w1 => ∃ u_ : Unit, (r = (-2)) ∧ w1 = [(mo, .inr (9, [.ref al, .ref ke, .ref ik, .ref rq, .long mab, .long mbe, .ref so, .ref ha, .ref te, .ref bt, .int bL, .int tA, .int tL, .int tK, .int tV, .ref an, .ref vs])), (al, .inl (G.2.1, 159, .inl a)), (rq, .inl (G.2.1, 3, .inl (upd rv 0 (rv 0 + 1))))]) := by
  refine MI.mk (by decide) (Nat.le_of_ble_eq_true rfl) ?_
  intro p_ e_ s_ m_ ar_ be_ me_ cd_ A_ ls C hrt hW hl
  have hx := C.1; have hb := C.2.1; have hown := C.2.2.2.1; have ht := C.2.2.2.2.1
  replace hl : lv_has ls 3 [(0, .ref mo), (1, .int p9), (2, .int x9)] := hl
  generalize hQ : MQ be_ _ ar_ s_ 0 0 A_ = Q
  refine lv_aload_n hx hb dX11_reach_0 rfl (lv_at hl 0 rfl) ?_
  refine lv_iload_n hx hb dX11_reach_1 rfl (lv_at hl 1 rfl) ?_
  refine g_fi C hW [0, 1] rfl (g_runV (As := [.int p9]) (rest := []) (wc := [(mo, .inr (9, [.ref al, .ref ke, .ref ik, .ref rq, .long mab, .long mbe, .ref so, .ref ha, .ref te, .ref bt, .int bL, .int tA, .int tL, .int tK, .int tV, .ref an, .ref vs])), (al, .inl (G.2.1, 159, .inl a))]) (q0 := 0) (ci := 9) C hW hl (c_X11_isPlayer l G mo al ke ik rq so ha te bt an vs mab mbe bL tA tL tK tV a n p9 (by first | assumption | omega) (by first | assumption | omega) _) k_ml_X11_118 q_X11_isPlayer (by decide) [0, 1] rfl rfl rfl rfl rfl rfl (Nat.le_of_ble_eq_true rfl) dX11_reach_2 (by decide)) (fun r_1623 er_1623 => ?_)
  clear hW; intro H locs hW
  refine lv_as (y := bI (okp n p9)) er_1623 ?_
  clear er_1623 r_1623
  have J_1627 : ∀ (H : Heap) (locs : List Loc) (ls : Array Slot), Wd G A_ s_.heap [(mo, .inr (9, [.ref al, .ref ke, .ref ik, .ref rq, .long mab, .long mbe, .ref so, .ref ha, .ref te, .ref bt, .int bL, .int tA, .int tL, .int tK, .int tV, .ref an, .ref vs])), (al, .inl (G.2.1, 159, .inl a)), (rq, .inl (G.2.1, 3, .inl rv))] H locs → lv_has ls 3 [(0, .ref mo), (1, .int p9), (2, .int x9)] → W p_ l e_ ({ frames := 2, cells := 0, slots := 0, locals := 46 }) s_ m_ ar_ be_ me_ cd_ H locs 0 0 Q (F0 m_ 20 ls []) := by
    intro  H locs ls hW hl
    refine lv_aload_n hx hb dX11_reach_20 rfl (lv_at hl 0 rfl) ?_
    refine lv_bipush (v := (-2)) hx hb dX11_reach_21 (by decide) ?_
    refine g_fiw (wr := [(al, .inl (G.2.1, 159, .inl a))]) (ww := fun (u_ : Unit) => [(mo, .inr (9, [.ref al, .ref ke, .ref ik, .ref rq, .long mab, .long mbe, .ref so, .ref ha, .ref te, .ref bt, .int bL, .int tA, .int tL, .int tK, .int tV, .ref an, .ref vs])), (rq, .inl (G.2.1, 3, .inl (upd rv 0 (rv 0 + 1))))]) (w2 := fun (u_ : Unit) => [(mo, .inr (9, [.ref al, .ref ke, .ref ik, .ref rq, .long mab, .long mbe, .ref so, .ref ha, .ref te, .ref bt, .int bL, .int tA, .int tL, .int tK, .int tV, .ref an, .ref vs])), (al, .inl (G.2.1, 159, .inl a)), (rq, .inl (G.2.1, 3, .inl (upd rv 0 (rv 0 + 1))))]) C hW [0, 2] [1] [1, 0, 2] rfl rfl (by decide) (by decide) (by decide) (fun _ => rfl) (g_runV (As := [.int (-2)]) (rest := []) (wc := [(mo, .inr (9, [.ref al, .ref ke, .ref ik, .ref rq, .long mab, .long mbe, .ref so, .ref ha, .ref te, .ref bt, .int bL, .int tA, .int tL, .int tK, .int tV, .ref an, .ref vs])), (rq, .inl (G.2.1, 3, .inl rv))]) (q0 := 0) (ci := 9) C hW hl (c_X11_bad l G mo al ke ik rq so ha te bt an vs mab mbe bL tA tL tK tV rv (-2)  _) k_ml_X11_67 q_X11_bad (by decide) [0, 2] rfl rfl rfl rfl rfl rfl (Nat.le_of_ble_eq_true rfl) dX11_reach_23 (by decide)) (fun r_1628 _ er_1628 => ?_)
    clear hW H locs; intro H locs hW
    refine lv_as (y := (-2)) er_1628 ?_
    clear er_1628 r_1628
    replace hW : Wd G A_ s_.heap [(mo, .inr (9, [.ref al, .ref ke, .ref ik, .ref rq, .long mab, .long mbe, .ref so, .ref ha, .ref te, .ref bt, .int bL, .int tA, .int tL, .int tK, .int tV, .ref an, .ref vs])), (al, .inl (G.2.1, 159, .inl a)), (rq, .inl (G.2.1, 3, .inl (upd rv 0 (rv 0 + 1))))] H locs := hW
    subst hQ
    exact g_iret (v := (-2)) C hW hrt ⟨(), by rfl, by rfl⟩ dX11_reach_26
  refine lv_if_eq (tgt := 20) hx hb dX11_reach_5 (by decide) (fun c_1624 => ?_) (fun c_1624 => ?_)
  · exact J_1627  _ _ _ hW (lv_sub hl [0, 1, 2] rfl)
  · refine lv_iload_n hx hb dX11_reach_8 rfl (lv_at hl 2 rfl) ?_
    refine lv_i2l hx hb dX11_reach_9 rfl ?_
    refine lv_lconst (v := 0) hx hb dX11_reach_10 (by decide) ?_
    refine lv_ldc2 (v := 47) hx hb hown (ht _ k_cg_X11_143) dX11_reach_11 ?_
    refine g_fi C hW [] rfl (g_runS (As := [.long x9.toInt64, .long 0, .long 47]) (rest := []) (wc := []) C hW hl (c_X11_in l G x9 0 47 0 47 (by first | rfl | decide) (by first | rfl | decide) _) k_ml_X11_53 q_X11_in (by decide) [] rfl rfl rfl rfl (Nat.le_of_ble_eq_true rfl) dX11_reach_14 (by decide)) (fun r_1630 er_1630 => ?_)
    clear hW H locs; intro H locs hW
    refine lv_as (y := bI (iw x9 0 47)) er_1630 ?_
    clear er_1630 r_1630
    refine lv_if_ne (tgt := 27) hx hb dX11_reach_17 (by decide) (fun c_1631 => ?_) (fun c_1631 => ?_)
    · exfalso; simp [bI_ne.mp c_1624, bI_ne.mp c_1631, if_true, if_false, reduceIte, Bool.false_eq_true] at hbad
    · exact J_1627  _ _ _ hW (lv_sub hl [0, 1, 2] rfl)
set_option maxHeartbeats 4000000 in
set_option maxRecDepth 100000 in
theorem c_X11_may (l : Launch) (G : gT) (mo al ke ik rq so ha te bt an vs : Nat) (mab mbe : Int64) (bL tA tL tK tV : Int32) (a : Nat → Int32) (n hr : Nat) (e0 : a 0 = nI n) (hn : n ≤ 7) (e12 : a 12 = nI hr) (hh : hr < 10000) : MI l G yX11_may cX11_may 3 .int ({ frames := 3, cells := 0, slots := 0, locals := 72 }) [.ref mo] [(mo, .inr (9, [.ref al, .ref ke, .ref ik, .ref rq, .long mab, .long mbe, .ref so, .ref ha, .ref te, .ref bt, .int bL, .int tA, .int tL, .int tK, .int tV, .ref an, .ref vs])), (al, .inl (G.2.1, 159, .inl a))] (fun (r : Int32) w1 => (r = orF (fun i => atA a i && crA a i hr (a 8)) n) ∧ w1 = [(mo, .inr (9, [.ref al, .ref ke, .ref ik, .ref rq, .long mab, .long mbe, .ref so, .ref ha, .ref te, .ref bt, .int bL, .int tA, .int tL, .int tK, .int tV, .ref an, .ref vs])), (al, .inl (G.2.1, 159, .inl a))]) := by
  refine MI.mk (by decide) (Nat.le_of_ble_eq_true rfl) ?_
  intro p_ e_ s_ m_ ar_ be_ me_ cd_ A_ ls C hrt hW hl
  have hx := C.1; have hb := C.2.1; have hown := C.2.2.2.1; have ht := C.2.2.2.2.1
  replace hl : lv_has ls 3 [(0, .ref mo)] := hl
  generalize hQ : MQ be_ _ ar_ s_ 0 0 A_ = Q
  refine lv_iconst (v := 0) hx hb dX11_may_0 (by decide) ?_
  refine lv_istore_n (lv' := [(1, .int 0), (0, .ref mo)]) hx hb dX11_may_1 rfl hl (by decide) rfl ?_
  clear hl ls; intro ls hl
  refine lv_iconst (v := 0) hx hb dX11_may_2 (by decide) ?_
  refine lv_istore_n (lv' := [(2, .int 0), (1, .int 0), (0, .ref mo)]) hx hb dX11_may_3 rfl hl (by decide) rfl ?_
  clear hl ls; intro ls hl
  have K_1632 : ∀ (n_ : Nat) (j : Nat) (x_1633 : Int32) (x_1634 : Int32) (_ : x_1633 = nI j) (_ : x_1634 = orF (fun i => atA a i && crA a i hr (a 8)) j) (_ : j ≤ n) (_ : n - j < n_) (H : Heap) (locs : List Loc) (ls : Array Slot), Wd G A_ s_.heap [(mo, .inr (9, [.ref al, .ref ke, .ref ik, .ref rq, .long mab, .long mbe, .ref so, .ref ha, .ref te, .ref bt, .int bL, .int tA, .int tL, .int tK, .int tV, .ref an, .ref vs])), (al, .inl (G.2.1, 159, .inl a))] H locs → lv_has ls 3 [(2, .int x_1633), (1, .int x_1634), (0, .ref mo)] → W p_ l e_ ({ frames := 3, cells := 0, slots := 0, locals := 72 }) s_ m_ ar_ be_ me_ cd_ H locs 0 0 Q (F0 m_ 4 ls []) := by
    intro n_
    induction n_ with
    | zero => intro j x_1633 x_1634 ex_1633 ex_1634 hj hm_; exact absurd hm_ (Nat.not_lt_zero _)
    | succ n_ ihK_1632 =>
      intro j x_1633 x_1634 ex_1633 ex_1634 hj hm_ H locs ls hW hl
      subst ex_1633
      subst ex_1634
      refine lv_iload_n hx hb dX11_may_4 rfl (lv_at hl 0 rfl) ?_
      refine lv_aload_n hx hb dX11_may_5 rfl (lv_at hl 2 rfl) ?_
      refine g_fi C hW [0, 1] rfl (g_runV (As := []) (rest := [.int (nI j)]) (wc := [(mo, .inr (9, [.ref al, .ref ke, .ref ik, .ref rq, .long mab, .long mbe, .ref so, .ref ha, .ref te, .ref bt, .int bL, .int tA, .int tL, .int tK, .int tV, .ref an, .ref vs])), (al, .inl (G.2.1, 159, .inl a))]) (q0 := 0) (ci := 9) C hW hl (c_X11_many l G mo al ke ik rq so ha te bt an vs mab mbe bL tA tL tK tV a n (by first | assumption | omega) _) k_ml_X11_49 q_X11_many (by decide) [0, 1] rfl rfl rfl rfl rfl rfl (Nat.le_of_ble_eq_true rfl) dX11_may_6 (by decide)) (fun r_1635 er_1635 => ?_)
      clear hW H locs; intro H locs hW
      refine lv_as (y := nI n) er_1635 ?_
      clear er_1635 r_1635
      refine lv_icmp_ge (tgt := 64) hx hb dX11_may_9 (by decide) (fun c_1636 => ?_) (fun c_1636 => ?_)
      · replace c_1636 := Int32.not_lt.mpr c_1636
        have c_1636n : ¬ j < n := fun q => c_1636 ((nI_ltI (a := j) (b := n) (by omega) (by omega)).mpr q)
        refine lv_iload_n hx hb dX11_may_64 rfl (lv_at hl 1 rfl) ?_
        subst hQ
        exact g_iret (v := (orF (fun i => atA a i && crA a i hr (a 8)) j)) C hW hrt ⟨by (rw [show j = n by omega]), rfl⟩ dX11_may_65
      · replace c_1636 := Int32.not_le.mp c_1636
        have c_1636n : j < n := (nI_ltI (a := j) (b := n) (by omega) (by omega)).mp c_1636
        refine lv_iload_n hx hb dX11_may_12 rfl (lv_at hl 1 rfl) ?_
        refine lv_aload_n hx hb dX11_may_13 rfl (lv_at hl 2 rfl) ?_
        refine g_get (k := 0) (v := .ref al) C hW 0 rfl rfl jnX11 (by decide) k_fl_X11_7 rfl dX11_may_14 ?_
        refine lv_iload_n hx hb dX11_may_17 rfl (lv_at hl 0 rfl) ?_
        refine g_fi C hW [1] rfl (g_runS (As := [.ref al, .int (nI j)]) (rest := [.int (orF (fun i => atA a i && crA a i hr (a 8)) j)]) (wc := [(al, .inl (G.2.1, 159, .inl a))]) C hW hl (c_X11_isAt l G al 159 a j (by first | assumption | omega) (by first | assumption | omega) _) k_ml_X11_107 q_X11_isAt (by decide) [1] rfl rfl rfl rfl (Nat.le_of_ble_eq_true rfl) dX11_may_18 (by decide)) (fun r_1638 er_1638 => ?_)
        clear hW H locs; intro H locs hW
        refine lv_as (y := bI (atA a j)) er_1638 ?_
        clear er_1638 r_1638
        have J_1643 : ∀ (y_1642 : Int32) (_ : y_1642 = (if (bI (atA a j)) = 0 then 0 else (if (bI (crA a j hr (a 8))) = 0 then 0 else (1 : Int32) <<< ((nI j) &&& 31)))), ∀ (H : Heap) (locs : List Loc) (ls : Array Slot), Wd G A_ s_.heap [(mo, .inr (9, [.ref al, .ref ke, .ref ik, .ref rq, .long mab, .long mbe, .ref so, .ref ha, .ref te, .ref bt, .int bL, .int tA, .int tL, .int tK, .int tV, .ref an, .ref vs])), (al, .inl (G.2.1, 159, .inl a))] H locs → lv_has ls 3 [(2, .int (nI j)), (1, .int (orF (fun i => atA a i && crA a i hr (a 8)) j)), (0, .ref mo)] → W p_ l e_ ({ frames := 3, cells := 0, slots := 0, locals := 72 }) s_ m_ ar_ be_ me_ cd_ H locs 0 0 Q (F0 m_ 56 ls [.int y_1642, .int (orF (fun i => atA a i && crA a i hr (a 8)) j)]) := by
          intro y_1642 ey_1642 H locs ls hW hl
          refine lv_ior hx hb dX11_may_56 ?_
          refine lv_istore_n (lv' := [(1, .int ((orF (fun i => atA a i && crA a i hr (a 8)) j) ||| y_1642)), (2, .int (nI j)), (0, .ref mo)]) hx hb dX11_may_57 rfl hl (by decide) rfl ?_
          clear hl ls; intro ls hl
          refine lv_iinc (v := (nI j) + 1) (lv' := [(2, .int ((nI j) + 1)), (1, .int ((orF (fun i => atA a i && crA a i hr (a 8)) j) ||| y_1642)), (0, .ref mo)]) hx hb dX11_may_58 hl (k := 1) rfl rfl (by decide) rfl ?_
          clear hl ls; intro ls hl
          refine lv_goto (tgt := 4) hx hb dX11_may_61 (by decide) ?_
          exact ihK_1632 (j + 1) ((nI j) + 1) ((orF (fun i => atA a i && crA a i hr (a 8)) j) ||| y_1642) (by exact nI_1 _) (by (simp only [ey_1642]; exact or_2)) (by first | omega | assumption | (simp; done)) (by omega) _ _ _ hW (lv_sub hl [0, 1, 2] rfl)
        refine lv_if_eq (tgt := 55) hx hb dX11_may_21 (by decide) (fun c_1639 => ?_) (fun c_1639 => ?_)
        · refine lv_iconst (v := 0) hx hb dX11_may_55 (by decide) ?_
          exact J_1643 0 (by first | (simp only [c_1639, if_true, if_false, reduceIte]; done) | (simp [c_1639]; done) | rfl | (rw [if_pos c_1639]; done)) _ _ _ hW (lv_sub hl [0, 1, 2] rfl)
        · refine lv_aload_n hx hb dX11_may_24 rfl (lv_at hl 2 rfl) ?_
          refine g_get (k := 0) (v := .ref al) C hW 0 rfl rfl jnX11 (by decide) k_fl_X11_7 rfl dX11_may_25 ?_
          refine lv_iload_n hx hb dX11_may_28 rfl (lv_at hl 0 rfl) ?_
          refine lv_aload_n hx hb dX11_may_29 rfl (lv_at hl 2 rfl) ?_
          refine g_get (k := 0) (v := .ref al) C hW 0 rfl rfl jnX11 (by decide) k_fl_X11_7 rfl dX11_may_30 ?_
          refine lv_bipush (v := 8) hx hb dX11_may_33 (by decide) ?_
          refine g_ald C hW 1 rfl (vp_in_nI (n := 8) (by omega) (by omega)) dX11_may_35 ?_
          refine lv_as (y := a 8) (rfl) ?_
          refine lv_aload_n hx hb dX11_may_36 rfl (lv_at hl 2 rfl) ?_
          refine g_get (k := 0) (v := .ref al) C hW 0 rfl rfl jnX11 (by decide) k_fl_X11_7 rfl dX11_may_37 ?_
          refine lv_bipush (v := 12) hx hb dX11_may_40 (by decide) ?_
          refine g_ald C hW 1 rfl (vp_in_nI (n := 12) (by omega) (by omega)) dX11_may_42 ?_
          refine lv_as (y := a 12) (rfl) ?_
          refine lv_as (y := nI hr) (e12) ?_
          refine g_fi C hW [1] rfl (g_runS (As := [.ref al, .int (nI j), .int (a 8), .int (nI hr)]) (rest := [.int (orF (fun i => atA a i && crA a i hr (a 8)) j)]) (wc := [(al, .inl (G.2.1, 159, .inl a))]) C hW hl (c_X11_carries l G al 159 a j hr (a 8) (by first | assumption | omega) (by first | assumption | omega) (by first | assumption | omega) _) k_ml_X11_111 q_X11_carries (by decide) [1] rfl rfl rfl rfl (Nat.le_of_ble_eq_true rfl) dX11_may_43 (by decide)) (fun r_1644 er_1644 => ?_)
          clear hW H locs; intro H locs hW
          refine lv_as (y := bI (crA a j hr (a 8))) er_1644 ?_
          clear er_1644 r_1644
          refine lv_if_eq (tgt := 55) hx hb dX11_may_46 (by decide) (fun c_1645 => ?_) (fun c_1645 => ?_)
          · refine lv_iconst (v := 0) hx hb dX11_may_55 (by decide) ?_
            exact J_1643 0 (by first | (simp only [c_1639, c_1645, if_true, if_false, reduceIte]; done) | (simp [c_1639, c_1645]; done) | rfl | (rw [if_neg c_1639, if_pos c_1645]; done)) _ _ _ hW (lv_sub hl [0, 1, 2] rfl)
          · refine lv_iconst (v := 1) hx hb dX11_may_49 (by decide) ?_
            refine lv_iload_n hx hb dX11_may_50 rfl (lv_at hl 0 rfl) ?_
            refine lv_ishl hx hb dX11_may_51 ?_
            refine lv_goto (tgt := 56) hx hb dX11_may_52 (by decide) ?_
            exact J_1643 ((1 : Int32) <<< ((nI j) &&& 31)) (by first | (simp only [c_1639, c_1645, if_true, if_false, reduceIte]; done) | (simp [c_1639, c_1645]; done) | rfl | (rw [if_neg c_1639, if_neg c_1645]; done)) _ _ _ hW (lv_sub hl [0, 1, 2] rfl)
  exact K_1632 _ 0 0 0 (by first | exact rfl | (simp; done)) (by exact rfl) (by first | omega | assumption | (simp; done)) (Nat.lt_succ_self _) _ _ _ hW (lv_sub hl [0, 1, 2] rfl)
