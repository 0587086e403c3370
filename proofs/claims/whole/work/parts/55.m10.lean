set_option maxHeartbeats 4000000 in
set_option maxRecDepth 100000 in
theorem c_X11_type_ok (l : Launch) (G : gT) (mo al ke ik rq so ha te bt an vs : Nat) (mab mbe : Int64) (tA tL tK tV : Int32) (tn : Nat) (tf : Nat → Int32) (c9 : Int32) (h1 : iw c9 0 127 = true) (hn : tn < 150) : MI l G yX11_type cX11_type 2 .int ({ frames := 1, cells := 0, slots := 0, locals := 25 }) [.ref mo, .int c9] [(mo, .inr (9, [.ref al, .ref ke, .ref ik, .ref rq, .long mab, .long mbe, .ref so, .ref ha, .ref te, .ref bt, .int (nI tn), .int tA, .int tL, .int tK, .int tV, .ref an, .ref vs])), (bt, .inl (G.2.1, 150, .inl tf))] (fun (r : Int32) w1 => ∃ u_ : Unit, (r = nI (tn + 1)) ∧ w1 = [(mo, .inr (9, [.ref al, .ref ke, .ref ik, .ref rq, .long mab, .long mbe, .ref so, .ref ha, .ref te, .ref bt, .int (nI (tn + 1)), .int tA, .int tL, .int tK, .int tV, .ref an, .ref vs])), (bt, .inl (G.2.1, 150, .inl (upd tf tn c9)))]) := by
  refine MI.mk (by decide) (Nat.le_of_ble_eq_true rfl) ?_
  intro p_ e_ s_ m_ ar_ be_ me_ cd_ A_ ls C hrt hW hl
  have hx := C.1; have hb := C.2.1; have hown := C.2.2.2.1; have ht := C.2.2.2.2.1
  replace hl : lv_has ls 2 [(0, .ref mo), (1, .int c9)] := hl
  generalize hQ : MQ be_ _ ar_ s_ 0 0 A_ = Q
  refine lv_iload_n hx hb dX11_type_0 rfl (lv_at hl 1 rfl) ?_
  refine lv_i2l hx hb dX11_type_1 rfl ?_
  refine lv_lconst (v := 0) hx hb dX11_type_2 (by decide) ?_
  refine lv_ldc2 (v := 127) hx hb hown (ht _ k_cg_X11_222) dX11_type_3 ?_
  refine g_fi C hW [] rfl (g_runS (As := [.long c9.toInt64, .long 0, .long 127]) (rest := []) (wc := []) C hW hl (c_X11_in l G c9 0 127 0 127 (by first | rfl | decide) (by first | rfl | decide) _) k_ml_X11_53 q_X11_in (by decide) [] rfl rfl rfl rfl (Nat.le_of_ble_eq_true rfl) dX11_type_6 (by decide)) (fun r_2270 er_2270 => ?_)
  clear hW; intro H locs hW
  refine lv_as (y := bI (iw c9 0 127)) er_2270 ?_
  clear er_2270 r_2270
  refine lv_if_ne (tgt := 19) hx hb dX11_type_9 (by decide) (fun c_2271 => ?_) (fun c_2271 => ?_)
  · refine lv_aload_n hx hb dX11_type_19 rfl (lv_at hl 0 rfl) ?_
    refine g_get (k := 10) (v := .int (nI tn)) C hW 0 rfl rfl jnX11 (by decide) k_fl_X11_224 rfl dX11_type_20 ?_
    refine lv_sipush (v := 150) hx hb dX11_type_23 (by decide) ?_
    refine lv_icmp_ne (tgt := 34) hx hb dX11_type_26 (by decide) (fun c_2272 => ?_) (fun c_2272 => ?_)
    · have c_2272n : ¬ tn = 150 := fun q => c_2272 ((nI_eq (a := tn) (b := 150) (by omega) (by omega)).mpr q)
      refine lv_aload_n hx hb dX11_type_34 rfl (lv_at hl 0 rfl) ?_
      refine g_get (k := 9) (v := .ref bt) C hW 0 rfl rfl jnX11 (by decide) k_fl_X11_36 rfl dX11_type_35 ?_
      refine lv_aload_n hx hb dX11_type_38 rfl (lv_at hl 0 rfl) ?_
      refine g_get (k := 10) (v := .int (nI tn)) C hW 0 rfl rfl jnX11 (by decide) k_fl_X11_224 rfl dX11_type_39 ?_
      refine lv_iload_n hx hb dX11_type_42 rfl (lv_at hl 1 rfl) ?_
      refine g_ast (w' := [(mo, .inr (9, [.ref al, .ref ke, .ref ik, .ref rq, .long mab, .long mbe, .ref so, .ref ha, .ref te, .ref bt, .int (nI tn), .int tA, .int tL, .int tK, .int tV, .ref an, .ref vs])), (bt, .inl (G.2.1, 150, .inl (upd tf tn c9)))]) C hW 1 rfl (ix_in (show (nI tn) = nI tn from (by first | rfl | (simp only [nI_lit, nI_add, pk_mul]; done) | (simp only [nI_lit, nI_add, pk_mul]; congr 1; omega))) (by omega) (by omega)) (by rw [show (nI tn).toNatClampNeg = tn from nI_clamp (by omega)]; rfl) dX11_type_43 ?_
      clear hW H locs; intro H locs hW
      refine lv_aload_n hx hb dX11_type_44 rfl (lv_at hl 0 rfl) ?_
      refine lv_dup hx hb dX11_type_45 rfl ?_
      refine g_get (k := 10) (v := .int (nI tn)) C hW 0 rfl rfl jnX11 (by decide) k_fl_X11_224 rfl dX11_type_46 ?_
      refine lv_iconst (v := 1) hx hb dX11_type_49 (by decide) ?_
      refine lv_iadd hx hb dX11_type_50 ?_
      refine lv_as (y := nI (tn + 1)) (nI_1 tn) ?_
      refine g_put (k := 10) (ty := .int) (w' := [(mo, .inr (9, [.ref al, .ref ke, .ref ik, .ref rq, .long mab, .long mbe, .ref so, .ref ha, .ref te, .ref bt, .int (nI (tn + 1)), .int tA, .int tL, .int tK, .int tV, .ref an, .ref vs])), (bt, .inl (G.2.1, 150, .inl (upd tf tn c9)))]) C hW 0 rfl rfl jnX11 tyX11_ok nmX11 (by decide) k_fl_X11_224 rfl rfl rfl rfl (Nat.le_of_ble_eq_true rfl) rfl dX11_type_51 ?_
      clear hW H locs; intro H locs hW
      refine lv_aload_n hx hb dX11_type_54 rfl (lv_at hl 0 rfl) ?_
      refine g_get (k := 10) (v := .int (nI (tn + 1))) C hW 0 rfl rfl jnX11 (by decide) k_fl_X11_224 rfl dX11_type_55 ?_
      subst hQ
      exact g_iret (v := (nI (tn + 1))) C hW hrt ⟨(), by rfl, by rfl⟩ dX11_type_58
    · have c_2272n : tn = 150 := (nI_eq (a := tn) (b := 150) (by omega) (by omega)).mp c_2272
      exfalso; omega
  · exfalso; exact dd (by first | assumption | exact okp_nI (by omega) (by assumption) | exact decide_eq_true (by first | assumption | omega)) c_2271
set_option maxHeartbeats 4000000 in
set_option maxRecDepth 100000 in
theorem c_X11_type_full (l : Launch) (G : gT) (mo al ke ik rq so ha te bt an vs : Nat) (mab mbe : Int64) (tA tL tK tV : Int32) (tn : Nat) (tf : Nat → Int32) (rv : Nat → Int32) (c9 : Int32) (h1 : iw c9 0 127 = true) (hn : tn = 150) : MI l G yX11_type cX11_type 2 .int ({ frames := 1, cells := 0, slots := 0, locals := 25 }) [.ref mo, .int c9] [(mo, .inr (9, [.ref al, .ref ke, .ref ik, .ref rq, .long mab, .long mbe, .ref so, .ref ha, .ref te, .ref bt, .int (nI tn), .int tA, .int tL, .int tK, .int tV, .ref an, .ref vs])), (rq, .inl (G.2.1, 3, .inl rv))] (fun (r : Int32) w1 => ∃ u_ : Unit, (r = (-4)) ∧ w1 = [(mo, .inr (9, [.ref al, .ref ke, .ref ik, .ref rq, .long mab, .long mbe, .ref so, .ref ha, .ref te, .ref bt, .int (nI tn), .int tA, .int tL, .int tK, .int tV, .ref an, .ref vs])), (rq, .inl (G.2.1, 3, .inl (upd rv 2 (rv 2 + 1))))]) := by
  refine MI.mk (by decide) (Nat.le_of_ble_eq_true rfl) ?_
  intro p_ e_ s_ m_ ar_ be_ me_ cd_ A_ ls C hrt hW hl
  have hx := C.1; have hb := C.2.1; have hown := C.2.2.2.1; have ht := C.2.2.2.2.1
  replace hl : lv_has ls 2 [(0, .ref mo), (1, .int c9)] := hl
  generalize hQ : MQ be_ _ ar_ s_ 0 0 A_ = Q
  refine lv_iload_n hx hb dX11_type_0 rfl (lv_at hl 1 rfl) ?_
  refine lv_i2l hx hb dX11_type_1 rfl ?_
  refine lv_lconst (v := 0) hx hb dX11_type_2 (by decide) ?_
  refine lv_ldc2 (v := 127) hx hb hown (ht _ k_cg_X11_222) dX11_type_3 ?_
  refine g_fi C hW [] rfl (g_runS (As := [.long c9.toInt64, .long 0, .long 127]) (rest := []) (wc := []) C hW hl (c_X11_in l G c9 0 127 0 127 (by first | rfl | decide) (by first | rfl | decide) _) k_ml_X11_53 q_X11_in (by decide) [] rfl rfl rfl rfl (Nat.le_of_ble_eq_true rfl) dX11_type_6 (by decide)) (fun r_2273 er_2273 => ?_)
  clear hW; intro H locs hW
  refine lv_as (y := bI (iw c9 0 127)) er_2273 ?_
  clear er_2273 r_2273
  refine lv_if_ne (tgt := 19) hx hb dX11_type_9 (by decide) (fun c_2274 => ?_) (fun c_2274 => ?_)
  · refine lv_aload_n hx hb dX11_type_19 rfl (lv_at hl 0 rfl) ?_
    refine g_get (k := 10) (v := .int (nI tn)) C hW 0 rfl rfl jnX11 (by decide) k_fl_X11_224 rfl dX11_type_20 ?_
    refine lv_sipush (v := 150) hx hb dX11_type_23 (by decide) ?_
    refine lv_icmp_ne (tgt := 34) hx hb dX11_type_26 (by decide) (fun c_2275 => ?_) (fun c_2275 => ?_)
    · have c_2275n : ¬ tn = 150 := fun q => c_2275 ((nI_eq (a := tn) (b := 150) (by omega) (by omega)).mpr q)
      exfalso; omega
    · have c_2275n : tn = 150 := (nI_eq (a := tn) (b := 150) (by omega) (by omega)).mp c_2275
      refine lv_aload_n hx hb dX11_type_29 rfl (lv_at hl 0 rfl) ?_
      refine g_fiw (wr := []) (ww := fun (u_ : Unit) => [(mo, .inr (9, [.ref al, .ref ke, .ref ik, .ref rq, .long mab, .long mbe, .ref so, .ref ha, .ref te, .ref bt, .int (nI tn), .int tA, .int tL, .int tK, .int tV, .ref an, .ref vs])), (rq, .inl (G.2.1, 3, .inl (upd rv 2 (rv 2 + 1))))]) (w2 := fun (u_ : Unit) => [(mo, .inr (9, [.ref al, .ref ke, .ref ik, .ref rq, .long mab, .long mbe, .ref so, .ref ha, .ref te, .ref bt, .int (nI tn), .int tA, .int tL, .int tK, .int tV, .ref an, .ref vs])), (rq, .inl (G.2.1, 3, .inl (upd rv 2 (rv 2 + 1))))]) C hW [0, 1] [] [0, 1] rfl rfl (by decide) (by decide) (by decide) (fun _ => rfl) (g_runV (As := []) (rest := []) (wc := [(mo, .inr (9, [.ref al, .ref ke, .ref ik, .ref rq, .long mab, .long mbe, .ref so, .ref ha, .ref te, .ref bt, .int (nI tn), .int tA, .int tL, .int tK, .int tV, .ref an, .ref vs])), (rq, .inl (G.2.1, 3, .inl rv))]) (q0 := 0) (ci := 9) C hW hl (c_X11_full l G mo al ke ik rq so ha te bt an vs mab mbe (nI tn) tA tL tK tV rv  _) k_ml_X11_84 q_X11_full (by decide) [0, 1] rfl rfl rfl rfl rfl rfl (Nat.le_of_ble_eq_true rfl) dX11_type_30 (by decide)) (fun r_2276 _ er_2276 => ?_)
      clear hW H locs; intro H locs hW
      refine lv_as (y := (-4)) er_2276 ?_
      clear er_2276 r_2276
      replace hW : Wd G A_ s_.heap [(mo, .inr (9, [.ref al, .ref ke, .ref ik, .ref rq, .long mab, .long mbe, .ref so, .ref ha, .ref te, .ref bt, .int (nI tn), .int tA, .int tL, .int tK, .int tV, .ref an, .ref vs])), (rq, .inl (G.2.1, 3, .inl (upd rv 2 (rv 2 + 1))))] H locs := hW
      subst hQ
      exact g_iret (v := (-4)) C hW hrt ⟨(), by rfl, by rfl⟩ dX11_type_33
  · exfalso; exact dd (by first | assumption | exact okp_nI (by omega) (by assumption) | exact decide_eq_true (by first | assumption | omega)) c_2274
set_option maxHeartbeats 4000000 in
set_option maxRecDepth 100000 in
theorem c_X11_type_bad (l : Launch) (G : gT) (mo al ke ik rq so ha te bt an vs : Nat) (mab mbe : Int64) (bL tA tL tK tV : Int32) (rv : Nat → Int32) (c9 : Int32) (hbad : iw c9 0 127 = false) : MI l G yX11_type cX11_type 2 .int ({ frames := 1, cells := 0, slots := 0, locals := 25 }) [.ref mo, .int c9] [(mo, .inr (9, [.ref al, .ref ke, .ref ik, .ref rq, .long mab, .long mbe, .ref so, .ref ha, .ref te, .ref bt, .int bL, .int tA, .int tL, .int tK, .int tV, .ref an, .ref vs])), (rq, .inl (G.2.1, 3, .inl rv))] (fun (r : Int32) w1 => ∃ u_ : Unit, (r = (-2)) ∧ w1 = [(mo, .inr (9, [.ref al, .ref ke, .ref ik, .ref rq, .long mab, .long mbe, .ref so, .ref ha, .ref te, .ref bt, .int bL, .int tA, .int tL, .int tK, .int tV, .ref an, .ref vs])), (rq, .inl (G.2.1, 3, .inl (upd rv 0 (rv 0 + 1))))]) := by
  refine MI.mk (by decide) (Nat.le_of_ble_eq_true rfl) ?_
  intro p_ e_ s_ m_ ar_ be_ me_ cd_ A_ ls C hrt hW hl
  have hx := C.1; have hb := C.2.1; have hown := C.2.2.2.1; have ht := C.2.2.2.2.1
  replace hl : lv_has ls 2 [(0, .ref mo), (1, .int c9)] := hl
  generalize hQ : MQ be_ _ ar_ s_ 0 0 A_ = Q
  refine lv_iload_n hx hb dX11_type_0 rfl (lv_at hl 1 rfl) ?_
  refine lv_i2l hx hb dX11_type_1 rfl ?_
  refine lv_lconst (v := 0) hx hb dX11_type_2 (by decide) ?_
  refine lv_ldc2 (v := 127) hx hb hown (ht _ k_cg_X11_222) dX11_type_3 ?_
  refine g_fi C hW [] rfl (g_runS (As := [.long c9.toInt64, .long 0, .long 127]) (rest := []) (wc := []) C hW hl (c_X11_in l G c9 0 127 0 127 (by first | rfl | decide) (by first | rfl | decide) _) k_ml_X11_53 q_X11_in (by decide) [] rfl rfl rfl rfl (Nat.le_of_ble_eq_true rfl) dX11_type_6 (by decide)) (fun r_2278 er_2278 => ?_)
  clear hW; intro H locs hW
  refine lv_as (y := bI (iw c9 0 127)) er_2278 ?_
  clear er_2278 r_2278
  refine lv_if_ne (tgt := 19) hx hb dX11_type_9 (by decide) (fun c_2279 => ?_) (fun c_2279 => ?_)
  · exfalso; simp [bI_ne.mp c_2279, if_true, if_false, reduceIte, Bool.false_eq_true] at hbad
  · refine lv_aload_n hx hb dX11_type_12 rfl (lv_at hl 0 rfl) ?_
    refine lv_bipush (v := (-2)) hx hb dX11_type_13 (by decide) ?_
    refine g_fiw (wr := []) (ww := fun (u_ : Unit) => [(mo, .inr (9, [.ref al, .ref ke, .ref ik, .ref rq, .long mab, .long mbe, .ref so, .ref ha, .ref te, .ref bt, .int bL, .int tA, .int tL, .int tK, .int tV, .ref an, .ref vs])), (rq, .inl (G.2.1, 3, .inl (upd rv 0 (rv 0 + 1))))]) (w2 := fun (u_ : Unit) => [(mo, .inr (9, [.ref al, .ref ke, .ref ik, .ref rq, .long mab, .long mbe, .ref so, .ref ha, .ref te, .ref bt, .int bL, .int tA, .int tL, .int tK, .int tV, .ref an, .ref vs])), (rq, .inl (G.2.1, 3, .inl (upd rv 0 (rv 0 + 1))))]) C hW [0, 1] [] [0, 1] rfl rfl (by decide) (by decide) (by decide) (fun _ => rfl) (g_runV (As := [.int (-2)]) (rest := []) (wc := [(mo, .inr (9, [.ref al, .ref ke, .ref ik, .ref rq, .long mab, .long mbe, .ref so, .ref ha, .ref te, .ref bt, .int bL, .int tA, .int tL, .int tK, .int tV, .ref an, .ref vs])), (rq, .inl (G.2.1, 3, .inl rv))]) (q0 := 0) (ci := 9) C hW hl (c_X11_bad l G mo al ke ik rq so ha te bt an vs mab mbe bL tA tL tK tV rv (-2)  _) k_ml_X11_67 q_X11_bad (by decide) [0, 1] rfl rfl rfl rfl rfl rfl (Nat.le_of_ble_eq_true rfl) dX11_type_15 (by decide)) (fun r_2280 _ er_2280 => ?_)
    clear hW H locs; intro H locs hW
    refine lv_as (y := (-2)) er_2280 ?_
    clear er_2280 r_2280
    replace hW : Wd G A_ s_.heap [(mo, .inr (9, [.ref al, .ref ke, .ref ik, .ref rq, .long mab, .long mbe, .ref so, .ref ha, .ref te, .ref bt, .int bL, .int tA, .int tL, .int tK, .int tV, .ref an, .ref vs])), (rq, .inl (G.2.1, 3, .inl (upd rv 0 (rv 0 + 1))))] H locs := hW
    subst hQ
    exact g_iret (v := (-2)) C hW hrt ⟨(), by rfl, by rfl⟩ dX11_type_18
set_option maxHeartbeats 4000000 in
set_option maxRecDepth 100000 in
theorem c_X11_clear (l : Launch) (G : gT) (mo al ke ik rq so ha te bt an vs : Nat) (mab mbe : Int64) (tA tL tK tV : Int32) (tn : Nat) (tf : Nat → Int32)  : MI l G yX11_clear cX11_clear 2 .int ({ frames := 0, cells := 0, slots := 0, locals := 0 }) [.ref mo] [(mo, .inr (9, [.ref al, .ref ke, .ref ik, .ref rq, .long mab, .long mbe, .ref so, .ref ha, .ref te, .ref bt, .int (nI tn), .int tA, .int tL, .int tK, .int tV, .ref an, .ref vs]))] (fun (r : Int32) w1 => ∃ u_ : Unit, (r = nI tn) ∧ w1 = [(mo, .inr (9, [.ref al, .ref ke, .ref ik, .ref rq, .long mab, .long mbe, .ref so, .ref ha, .ref te, .ref bt, .int (nI 0), .int tA, .int tL, .int tK, .int tV, .ref an, .ref vs]))]) := by
  refine MI.mk (by decide) (Nat.le_of_ble_eq_true rfl) ?_
  intro p_ e_ s_ m_ ar_ be_ me_ cd_ A_ ls C hrt hW hl
  have hx := C.1; have hb := C.2.1; have hown := C.2.2.2.1; have ht := C.2.2.2.2.1
  replace hl : lv_has ls 2 [(0, .ref mo)] := hl
  generalize hQ : MQ be_ _ ar_ s_ 0 0 A_ = Q
  refine lv_aload_n hx hb dX11_clear_0 rfl (lv_at hl 0 rfl) ?_
  refine g_get (k := 10) (v := .int (nI tn)) C hW 0 rfl rfl jnX11 (by decide) k_fl_X11_224 rfl dX11_clear_1 ?_
  refine lv_istore_n (lv' := [(1, .int (nI tn)), (0, .ref mo)]) hx hb dX11_clear_4 rfl hl (by decide) rfl ?_
  clear hl ls; intro ls hl
  refine lv_aload_n hx hb dX11_clear_5 rfl (lv_at hl 1 rfl) ?_
  refine lv_iconst (v := 0) hx hb dX11_clear_6 (by decide) ?_
  refine g_put (k := 10) (ty := .int) (w' := [(mo, .inr (9, [.ref al, .ref ke, .ref ik, .ref rq, .long mab, .long mbe, .ref so, .ref ha, .ref te, .ref bt, .int 0, .int tA, .int tL, .int tK, .int tV, .ref an, .ref vs]))]) C hW 0 rfl rfl jnX11 tyX11_ok nmX11 (by decide) k_fl_X11_224 rfl rfl rfl rfl (Nat.le_of_ble_eq_true rfl) rfl dX11_clear_7 ?_
  clear hW; intro H locs hW
  refine lv_iload_n hx hb dX11_clear_10 rfl (lv_at hl 0 rfl) ?_
  subst hQ
  exact g_iret (v := (nI tn)) C hW hrt ⟨(), by rfl, by rfl⟩ dX11_clear_11
set_option maxHeartbeats 4000000 in
set_option maxRecDepth 100000 in
theorem c_X11_isSmall (l : Launch) (G : gT) (c9 : Int32)  : MI l G yX11_isSmall cX11_isSmall 1 .boolean ({ frames := 1, cells := 0, slots := 0, locals := 25 }) [.int c9] [] (fun (r : Int32) w1 => (r = bI (isLe c9)) ∧ w1 = []) := by
  refine MI.mk (by decide) (Nat.le_of_ble_eq_true rfl) ?_
  intro p_ e_ s_ m_ ar_ be_ me_ cd_ A_ ls C hrt hW hl
  have hx := C.1; have hb := C.2.1; have hown := C.2.2.2.1; have ht := C.2.2.2.2.1
  replace hl : lv_has ls 1 [(0, .int c9)] := hl
  generalize hQ : MQ be_ _ ar_ s_ 0 0 A_ = Q
  refine lv_iload_n hx hb dX11_isSmall_0 rfl (lv_at hl 0 rfl) ?_
  refine lv_i2l hx hb dX11_isSmall_1 rfl ?_
  refine lv_ldc2 (v := 97) hx hb hown (ht _ k_cg_X11_228) dX11_isSmall_2 ?_
  refine lv_ldc2 (v := 122) hx hb hown (ht _ k_cg_X11_230) dX11_isSmall_5 ?_
  refine g_fi C hW [] rfl (g_runS (As := [.long c9.toInt64, .long 97, .long 122]) (rest := []) (wc := []) C hW hl (c_X11_in l G c9 97 122 97 122 (by first | rfl | decide) (by first | rfl | decide) _) k_ml_X11_53 q_X11_in (by decide) [] rfl rfl rfl rfl (Nat.le_of_ble_eq_true rfl) dX11_isSmall_8 (by decide)) (fun r_2282 er_2282 => ?_)
  clear hW; intro H locs hW
  refine lv_as (y := bI (iw c9 97 122)) er_2282 ?_
  clear er_2282 r_2282
  subst hQ
  exact g_zret (v := (bI (iw c9 97 122))) C hW hrt (by first | exact bI_nar _ | rfl | (simp only []; (repeat' split) <;> rfl)) ⟨by rfl, rfl⟩ dX11_isSmall_11
set_option maxHeartbeats 4000000 in
set_option maxRecDepth 100000 in
theorem c_X11_isFigure (l : Launch) (G : gT) (c9 : Int32)  : MI l G yX11_isFigure cX11_isFigure 1 .boolean ({ frames := 1, cells := 0, slots := 0, locals := 25 }) [.int c9] [] (fun (r : Int32) w1 => (r = bI (isFi c9)) ∧ w1 = []) := by
  refine MI.mk (by decide) (Nat.le_of_ble_eq_true rfl) ?_
  intro p_ e_ s_ m_ ar_ be_ me_ cd_ A_ ls C hrt hW hl
  have hx := C.1; have hb := C.2.1; have hown := C.2.2.2.1; have ht := C.2.2.2.2.1
  replace hl : lv_has ls 1 [(0, .int c9)] := hl
  generalize hQ : MQ be_ _ ar_ s_ 0 0 A_ = Q
  refine lv_iload_n hx hb dX11_isFigure_0 rfl (lv_at hl 0 rfl) ?_
  refine lv_i2l hx hb dX11_isFigure_1 rfl ?_
  refine lv_ldc2 (v := 48) hx hb hown (ht _ k_cg_X11_232) dX11_isFigure_2 ?_
  refine lv_ldc2 (v := 57) hx hb hown (ht _ k_cg_X11_234) dX11_isFigure_5 ?_
  refine g_fi C hW [] rfl (g_runS (As := [.long c9.toInt64, .long 48, .long 57]) (rest := []) (wc := []) C hW hl (c_X11_in l G c9 48 57 48 57 (by first | rfl | decide) (by first | rfl | decide) _) k_ml_X11_53 q_X11_in (by decide) [] rfl rfl rfl rfl (Nat.le_of_ble_eq_true rfl) dX11_isFigure_8 (by decide)) (fun r_2283 er_2283 => ?_)
  clear hW; intro H locs hW
  refine lv_as (y := bI (iw c9 48 57)) er_2283 ?_
  clear er_2283 r_2283
  subst hQ
  exact g_zret (v := (bI (iw c9 48 57))) C hW hrt (by first | exact bI_nar _ | rfl | (simp only []; (repeat' split) <;> rfl)) ⟨by rfl, rfl⟩ dX11_isFigure_11
set_option maxHeartbeats 4000000 in
set_option maxRecDepth 100000 in
theorem c_X11_lookAt (l : Launch) (G : gT) (mo al ke ik rq so ha te bt an vs : Nat) (mab mbe : Int64) (tA tL tK tV : Int32) (tn : Nat) (tf : Nat → Int32) (f0 : Nat) (hf0 : f0 ≤ tn) (htn : tn ≤ 150) : MV l G yX11_lookAt cX11_lookAt 5 ({ frames := 2, cells := 0, slots := 0, locals := 45 }) [.ref mo, .int (nI f0)] [(mo, .inr (9, [.ref al, .ref ke, .ref ik, .ref rq, .long mab, .long mbe, .ref so, .ref ha, .ref te, .ref bt, .int (nI tn), .int tA, .int tL, .int tK, .int tV, .ref an, .ref vs])), (bt, .inl (G.2.1, 150, .inl tf))] (fun w1 => ∃ u_ : Unit, (True) ∧ w1 = [(mo, .inr (9, [.ref al, .ref ke, .ref ik, .ref rq, .long mab, .long mbe, .ref so, .ref ha, .ref te, .ref bt, .int (nI tn), .int (nI (scan isSp tf tn f0)), .int (nI (tkE tf tn (scan isSp tf tn f0) - (scan isSp tf tn f0))), .int (tkT tf tn (scan isSp tf tn f0)), .int (vlA tf tn (scan isSp tf tn f0)), .ref an, .ref vs])), (bt, .inl (G.2.1, 150, .inl tf))]) := by
  refine MV.mk (by decide) (Nat.le_of_ble_eq_true rfl) ?_
  intro p_ e_ s_ m_ ar_ be_ me_ cd_ A_ ls C hrt hW hl
  have hx := C.1; have hb := C.2.1; have hown := C.2.2.2.1; have ht := C.2.2.2.2.1
  replace hl : lv_has ls 5 [(0, .ref mo), (1, .int (nI f0))] := hl
  generalize hQ : MQ be_ _ ar_ s_ 0 0 A_ = Q
  refine lv_aload_n hx hb dX11_lookAt_0 rfl (lv_at hl 0 rfl) ?_
  refine lv_iload_n hx hb dX11_lookAt_1 rfl (lv_at hl 1 rfl) ?_
  refine g_put (k := 11) (ty := .int) (w' := [(mo, .inr (9, [.ref al, .ref ke, .ref ik, .ref rq, .long mab, .long mbe, .ref so, .ref ha, .ref te, .ref bt, .int (nI tn), .int (nI f0), .int tL, .int tK, .int tV, .ref an, .ref vs])), (bt, .inl (G.2.1, 150, .inl tf))]) C hW 0 rfl rfl jnX11 tyX11_ok nmX11 (by decide) k_fl_X11_236 rfl rfl rfl rfl (Nat.le_of_ble_eq_true rfl) rfl dX11_lookAt_2 ?_
  clear hW; intro H locs hW
  have K_2284 : ∀ (s : Nat) (f_2285 : Int32) (_ : f_2285 = nI s) (_ : s ≤ tn) (_ : scan isSp tf tn f0 = s) (H : Heap) (locs : List Loc) (ls : Array Slot), Wd G A_ s_.heap [(mo, .inr (9, [.ref al, .ref ke, .ref ik, .ref rq, .long mab, .long mbe, .ref so, .ref ha, .ref te, .ref bt, .int (nI tn), .int f_2285, .int tL, .int tK, .int tV, .ref an, .ref vs])), (bt, .inl (G.2.1, 150, .inl tf))] H locs → lv_has ls 5 [(0, .ref mo), (1, .int (nI f0))] → W p_ l e_ ({ frames := 2, cells := 0, slots := 0, locals := 45 }) s_ m_ ar_ be_ me_ cd_ H locs 0 0 Q (F0 m_ 43 ls []) := by
    intro s f_2285 ef_2285 hs he H locs ls hW hl
    subst ef_2285
    refine lv_aload_n hx hb dX11_lookAt_43 rfl (lv_at hl 0 rfl) ?_
    refine lv_iconst (v := 0) hx hb dX11_lookAt_44 (by decide) ?_
    refine g_put (k := 12) (ty := .int) (w' := [(mo, .inr (9, [.ref al, .ref ke, .ref ik, .ref rq, .long mab, .long mbe, .ref so, .ref ha, .ref te, .ref bt, .int (nI tn), .int (nI s), .int 0, .int tK, .int tV, .ref an, .ref vs])), (bt, .inl (G.2.1, 150, .inl tf))]) C hW 0 rfl rfl jnX11 tyX11_ok nmX11 (by decide) k_fl_X11_239 rfl rfl rfl rfl (Nat.le_of_ble_eq_true rfl) rfl dX11_lookAt_45 ?_
    clear hW H locs; intro H locs hW
    refine lv_aload_n hx hb dX11_lookAt_48 rfl (lv_at hl 0 rfl) ?_
    refine lv_iconst (v := 0) hx hb dX11_lookAt_49 (by decide) ?_
    refine g_put (k := 13) (ty := .int) (w' := [(mo, .inr (9, [.ref al, .ref ke, .ref ik, .ref rq, .long mab, .long mbe, .ref so, .ref ha, .ref te, .ref bt, .int (nI tn), .int (nI s), .int 0, .int 0, .int tV, .ref an, .ref vs])), (bt, .inl (G.2.1, 150, .inl tf))]) C hW 0 rfl rfl jnX11 tyX11_ok nmX11 (by decide) k_fl_X11_242 rfl rfl rfl rfl (Nat.le_of_ble_eq_true rfl) rfl dX11_lookAt_50 ?_
    clear hW H locs; intro H locs hW
    refine lv_aload_n hx hb dX11_lookAt_53 rfl (lv_at hl 0 rfl) ?_
    refine lv_iconst (v := 0) hx hb dX11_lookAt_54 (by decide) ?_
    refine g_put (k := 14) (ty := .int) (w' := [(mo, .inr (9, [.ref al, .ref ke, .ref ik, .ref rq, .long mab, .long mbe, .ref so, .ref ha, .ref te, .ref bt, .int (nI tn), .int (nI s), .int 0, .int 0, .int 0, .ref an, .ref vs])), (bt, .inl (G.2.1, 150, .inl tf))]) C hW 0 rfl rfl jnX11 tyX11_ok nmX11 (by decide) k_fl_X11_245 rfl rfl rfl rfl (Nat.le_of_ble_eq_true rfl) rfl dX11_lookAt_55 ?_
    clear hW H locs; intro H locs hW
    refine lv_aload_n hx hb dX11_lookAt_58 rfl (lv_at hl 0 rfl) ?_
    refine g_get (k := 11) (v := .int (nI s)) C hW 0 rfl rfl jnX11 (by decide) k_fl_X11_236 rfl dX11_lookAt_59 ?_
    refine lv_aload_n hx hb dX11_lookAt_62 rfl (lv_at hl 0 rfl) ?_
    refine g_get (k := 10) (v := .int (nI tn)) C hW 0 rfl rfl jnX11 (by decide) k_fl_X11_224 rfl dX11_lookAt_63 ?_
    refine lv_icmp_ne (tgt := 70) hx hb dX11_lookAt_66 (by decide) (fun c_2286 => ?_) (fun c_2286 => ?_)
    · have c_2286n : ¬ s = tn := fun q => c_2286 ((nI_eq (a := s) (b := tn) (by omega) (by omega)).mpr q)
      have hsn : s < tn := by omega
      refine lv_aload_n hx hb dX11_lookAt_70 rfl (lv_at hl 0 rfl) ?_
      refine g_get (k := 9) (v := .ref bt) C hW 0 rfl rfl jnX11 (by decide) k_fl_X11_36 rfl dX11_lookAt_71 ?_
      refine lv_aload_n hx hb dX11_lookAt_74 rfl (lv_at hl 0 rfl) ?_
      refine g_get (k := 11) (v := .int (nI s)) C hW 0 rfl rfl jnX11 (by decide) k_fl_X11_236 rfl dX11_lookAt_75 ?_
      refine g_ald C hW 1 rfl (ix_in (show (nI s) = nI s from (by first | rfl | (simp only [nI_lit, nI_add, pk_mul]; done) | (simp only [nI_lit, nI_add, pk_mul]; congr 1; omega))) (by omega) (by omega)) dX11_lookAt_78 ?_
      refine lv_as (y := tf s) (by rw [show (nI s).toNatClampNeg = s from nI_clamp (by omega)]) ?_
      refine lv_istore_n (lv' := [(2, .int (tf s)), (0, .ref mo), (1, .int (nI f0))]) hx hb dX11_lookAt_79 rfl hl (by decide) rfl ?_
      clear hl ls; intro ls hl
      refine lv_aload_n hx hb dX11_lookAt_80 rfl (lv_at hl 1 rfl) ?_
      refine lv_iload_n hx hb dX11_lookAt_81 rfl (lv_at hl 0 rfl) ?_
      refine g_fi C hW [] rfl (g_runS (As := [.int (tf s)]) (rest := [.ref mo]) (wc := []) C hW hl (c_X11_isSmall l G (tf s)  _) k_ml_X11_248 q_X11_isSmall (by decide) [] rfl rfl rfl rfl (Nat.le_of_ble_eq_true rfl) dX11_lookAt_82 (by decide)) (fun r_2287 er_2287 => ?_)
      clear hW H locs; intro H locs hW
      refine lv_as (y := bI (isLe (tf s))) er_2287 ?_
      clear er_2287 r_2287
      have J_2292 : ∀ (y_2291 : Int32) (_ : y_2291 = (if (bI (isLe (tf s))) = 0 then if (bI (isFi (tf s))) = 0 then if (tf s) = 59 then 3 else 4 else 2 else 1)), ∀ (H : Heap) (locs : List Loc) (ls : Array Slot), Wd G A_ s_.heap [(mo, .inr (9, [.ref al, .ref ke, .ref ik, .ref rq, .long mab, .long mbe, .ref so, .ref ha, .ref te, .ref bt, .int (nI tn), .int (nI s), .int 0, .int 0, .int 0, .ref an, .ref vs])), (bt, .inl (G.2.1, 150, .inl tf))] H locs → lv_has ls 5 [(2, .int (tf s)), (0, .ref mo), (1, .int (nI f0))] → W p_ l e_ ({ frames := 2, cells := 0, slots := 0, locals := 45 }) s_ m_ ar_ be_ me_ cd_ H locs 0 0 Q (F0 m_ 114 ls [.int y_2291, .ref mo]) := by
        intro y_2291 ey_2291 H locs ls hW hl
        refine lv_as (y := tk0 tf s) (by simp only [ey_2291]; exact tk_a) ?_
        refine g_put (k := 13) (ty := .int) (w' := [(mo, .inr (9, [.ref al, .ref ke, .ref ik, .ref rq, .long mab, .long mbe, .ref so, .ref ha, .ref te, .ref bt, .int (nI tn), .int (nI s), .int 0, .int (tk0 tf s), .int 0, .ref an, .ref vs])), (bt, .inl (G.2.1, 150, .inl tf))]) C hW 0 rfl rfl jnX11 tyX11_ok nmX11 (by decide) k_fl_X11_242 rfl rfl rfl rfl (Nat.le_of_ble_eq_true rfl) rfl dX11_lookAt_114 ?_
        clear hW H locs; intro H locs hW
        refine lv_aload_n hx hb dX11_lookAt_117 rfl (lv_at hl 1 rfl) ?_
        refine lv_iconst (v := 1) hx hb dX11_lookAt_118 (by decide) ?_
        refine g_put (k := 12) (ty := .int) (w' := [(mo, .inr (9, [.ref al, .ref ke, .ref ik, .ref rq, .long mab, .long mbe, .ref so, .ref ha, .ref te, .ref bt, .int (nI tn), .int (nI s), .int 1, .int (tk0 tf s), .int 0, .ref an, .ref vs])), (bt, .inl (G.2.1, 150, .inl tf))]) C hW 0 rfl rfl jnX11 tyX11_ok nmX11 (by decide) k_fl_X11_239 rfl rfl rfl rfl (Nat.le_of_ble_eq_true rfl) rfl dX11_lookAt_119 ?_
        clear hW H locs; intro H locs hW
        refine lv_aload_n hx hb dX11_lookAt_122 rfl (lv_at hl 1 rfl) ?_
        refine g_get (k := 13) (v := .int (tk0 tf s)) C hW 0 rfl rfl jnX11 (by decide) k_fl_X11_242 rfl dX11_lookAt_123 ?_
        refine lv_iconst (v := 3) hx hb dX11_lookAt_126 (by decide) ?_
        have J_2295 : ∀ (y_2294 : Int32) (_ : y_2294 = (if (tk0 tf s) < 3 then 1 else 0)), ∀ (H : Heap) (locs : List Loc) (ls : Array Slot), Wd G A_ s_.heap [(mo, .inr (9, [.ref al, .ref ke, .ref ik, .ref rq, .long mab, .long mbe, .ref so, .ref ha, .ref te, .ref bt, .int (nI tn), .int (nI s), .int 1, .int (tk0 tf s), .int 0, .ref an, .ref vs])), (bt, .inl (G.2.1, 150, .inl tf))] H locs → lv_has ls 5 [(2, .int (tf s)), (0, .ref mo), (1, .int (nI f0))] → W p_ l e_ ({ frames := 2, cells := 0, slots := 0, locals := 45 }) s_ m_ ar_ be_ me_ cd_ H locs 0 0 Q (F0 m_ 135 ls [.int y_2294]) := by
          intro y_2294 ey_2294 H locs ls hW hl
          refine lv_as (y := bI (decide (tk0 tf s < 3))) (by simp only [ey_2291, ey_2294]; exact bI_if) ?_
          refine lv_istore_n (lv' := [(3, .int (bI (decide (tk0 tf s < 3)))), (2, .int (tf s)), (0, .ref mo), (1, .int (nI f0))]) hx hb dX11_lookAt_135 rfl hl (by decide) rfl ?_
          clear hl ls; intro ls hl
          have K_2296 : ∀ (tl : Nat) (f_2297 : Int32) (_ : f_2297 = nI tl) (_ : 1 ≤ tl ∧ s + tl ≤ tn) (_ : s + tl = tkE tf tn s) (H : Heap) (locs : List Loc) (ls : Array Slot), Wd G A_ s_.heap [(mo, .inr (9, [.ref al, .ref ke, .ref ik, .ref rq, .long mab, .long mbe, .ref so, .ref ha, .ref te, .ref bt, .int (nI tn), .int (nI s), .int f_2297, .int (tk0 tf s), .int 0, .ref an, .ref vs])), (bt, .inl (G.2.1, 150, .inl tf))] H locs → lv_has ls 5 [(2, .int (tf s)), (0, .ref mo), (1, .int (nI f0))] → W p_ l e_ ({ frames := 2, cells := 0, slots := 0, locals := 45 }) s_ m_ ar_ be_ me_ cd_ H locs 0 0 Q (F0 m_ 215 ls []) := by
            intro tl f_2297 ef_2297 htl hte H locs ls hW hl
            subst ef_2297
            refine lv_iconst (v := 0) hx hb dX11_lookAt_215 (by decide) ?_
            refine lv_istore (lv' := [(4, .int 0), (2, .int (tf s)), (0, .ref mo), (1, .int (nI f0))]) hx hb dX11_lookAt_216 hl (by decide) rfl ?_
            clear hl ls; intro ls hl
            have K_2298 : ∀  (f_2299 : Int32) (_ : f_2299 = vlA tf tn s)  (H : Heap) (locs : List Loc) (ls : Array Slot), Wd G A_ s_.heap [(mo, .inr (9, [.ref al, .ref ke, .ref ik, .ref rq, .long mab, .long mbe, .ref so, .ref ha, .ref te, .ref bt, .int (nI tn), .int (nI s), .int (nI tl), .int (tk0 tf s), .int f_2299, .ref an, .ref vs])), (bt, .inl (G.2.1, 150, .inl tf))] H locs → lv_has ls 5 [(2, .int (tf s)), (0, .ref mo), (1, .int (nI f0))] → W p_ l e_ ({ frames := 2, cells := 0, slots := 0, locals := 45 }) s_ m_ ar_ be_ me_ cd_ H locs 0 0 Q (F0 m_ 274 ls []) := by
              intro f_2299 ef_2299 H locs ls hW hl
              subst ef_2299
              refine lv_aload_n hx hb dX11_lookAt_274 rfl (lv_at hl 1 rfl) ?_
              refine lv_aload_n hx hb dX11_lookAt_275 rfl (lv_at hl 1 rfl) ?_
              refine g_get (k := 13) (v := .int (tk0 tf s)) C hW 0 rfl rfl jnX11 (by decide) k_fl_X11_242 rfl dX11_lookAt_276 ?_
              refine lv_iconst (v := 2) hx hb dX11_lookAt_279 (by decide) ?_
              have J_2302 : ∀ (y_2301 : Int32) (_ : y_2301 = (if (tk0 tf s) = 2 then if 2 < (nI tl) then 4 else tk0 tf s else tk0 tf s)), ∀ (H : Heap) (locs : List Loc) (ls : Array Slot), Wd G A_ s_.heap [(mo, .inr (9, [.ref al, .ref ke, .ref ik, .ref rq, .long mab, .long mbe, .ref so, .ref ha, .ref te, .ref bt, .int (nI tn), .int (nI s), .int (nI tl), .int (tk0 tf s), .int (vlA tf tn s), .ref an, .ref vs])), (bt, .inl (G.2.1, 150, .inl tf))] H locs → lv_has ls 5 [(2, .int (tf s)), (0, .ref mo), (1, .int (nI f0))] → W p_ l e_ ({ frames := 2, cells := 0, slots := 0, locals := 45 }) s_ m_ ar_ be_ me_ cd_ H locs 0 0 Q (F0 m_ 299 ls [.int y_2301, .ref mo]) := by
                intro y_2301 ey_2301 H locs ls hW hl
                refine lv_as (y := tkT tf tn s) (by simp only [ey_2291, ey_2294, ey_2301]; exact tk_f hsn hte htn) ?_
                refine g_put (k := 13) (ty := .int) (w' := [(mo, .inr (9, [.ref al, .ref ke, .ref ik, .ref rq, .long mab, .long mbe, .ref so, .ref ha, .ref te, .ref bt, .int (nI tn), .int (nI s), .int (nI tl), .int (tkT tf tn s), .int (vlA tf tn s), .ref an, .ref vs])), (bt, .inl (G.2.1, 150, .inl tf))]) C hW 0 rfl rfl jnX11 tyX11_ok nmX11 (by decide) k_fl_X11_242 rfl rfl rfl rfl (Nat.le_of_ble_eq_true rfl) rfl dX11_lookAt_299 ?_
                clear hW H locs; intro H locs hW
                subst hQ
                exact g_vret C hW hrt ⟨(), trivial, by first | (rw [he, (tk_end (f := tf) (show tn ≤ s by omega)).1, (tk_end (f := tf) (show tn ≤ s by omega)).2, Nat.sub_self, vlA, if_pos (show tn ≤ s by omega)]; rfl) | (rw [he, ← hte, Nat.add_sub_cancel_left])⟩ dX11_lookAt_302
              refine lv_icmp_ne (tgt := 295) hx hb dX11_lookAt_280 (by decide) (fun c_2300 => ?_) (fun c_2300 => ?_)
              · refine lv_aload_n hx hb dX11_lookAt_295 rfl (lv_at hl 1 rfl) ?_
                refine g_get (k := 13) (v := .int (tk0 tf s)) C hW 0 rfl rfl jnX11 (by decide) k_fl_X11_242 rfl dX11_lookAt_296 ?_
                exact J_2302 (tk0 tf s) (by first | (simp only [c_2300, if_true, if_false, reduceIte]; done) | (simp [c_2300]; done) | rfl | (rw [if_neg c_2300]; done)) _ _ _ hW (lv_sub hl [0, 1, 2] rfl)
              · refine lv_aload_n hx hb dX11_lookAt_283 rfl (lv_at hl 1 rfl) ?_
                refine g_get (k := 12) (v := .int (nI tl)) C hW 0 rfl rfl jnX11 (by decide) k_fl_X11_239 rfl dX11_lookAt_284 ?_
                refine lv_iconst (v := 2) hx hb dX11_lookAt_287 (by decide) ?_
                refine lv_icmp_le (tgt := 295) hx hb dX11_lookAt_288 (by decide) (fun c_2303 => ?_) (fun c_2303 => ?_)
                · replace c_2303 := Int32.not_lt.mpr c_2303
                  have c_2303n : ¬ 2 < tl := fun q => c_2303 ((nI_ltI (a := 2) (b := tl) (by omega) (by omega)).mpr q)
                  refine lv_aload_n hx hb dX11_lookAt_295 rfl (lv_at hl 1 rfl) ?_
                  refine g_get (k := 13) (v := .int (tk0 tf s)) C hW 0 rfl rfl jnX11 (by decide) k_fl_X11_242 rfl dX11_lookAt_296 ?_
                  exact J_2302 (tk0 tf s) (by first | (simp only [c_2300, c_2303, if_true, if_false, reduceIte]; done) | (simp [c_2300, c_2303]; done) | rfl | (rw [if_pos c_2300, if_neg c_2303]; done)) _ _ _ hW (lv_sub hl [0, 1, 2] rfl)
                · replace c_2303 := Int32.not_le.mp c_2303
                  have c_2303n : 2 < tl := (nI_ltI (a := 2) (b := tl) (by omega) (by omega)).mp c_2303
                  refine lv_iconst (v := 4) hx hb dX11_lookAt_291 (by decide) ?_
                  refine lv_goto (tgt := 299) hx hb dX11_lookAt_292 (by decide) ?_
                  exact J_2302 4 (by first | (simp only [c_2300, c_2303, if_true, if_false, reduceIte]; done) | (simp [c_2300, c_2303]; done) | rfl | (rw [if_pos c_2300, if_pos c_2303]; done)) _ _ _ hW (lv_sub hl [0, 1, 2] rfl)
            have K_2304 : ∀ (n_ : Nat) (k : Nat) (x_2305 : Int32) (f_2306 : Int32) (_ : x_2305 = nI k) (_ : f_2306 = numF tf s k) (_ : k ≤ tl ∧ k ≤ 2 ∧ (¬ tk0 tf s = 2 → k = 0)) (_ : 2 - k < n_) (H : Heap) (locs : List Loc) (ls : Array Slot), Wd G A_ s_.heap [(mo, .inr (9, [.ref al, .ref ke, .ref ik, .ref rq, .long mab, .long mbe, .ref so, .ref ha, .ref te, .ref bt, .int (nI tn), .int (nI s), .int (nI tl), .int (tk0 tf s), .int f_2306, .ref an, .ref vs])), (bt, .inl (G.2.1, 150, .inl tf))] H locs → lv_has ls 5 [(4, .int x_2305), (2, .int (tf s)), (0, .ref mo), (1, .int (nI f0))] → W p_ l e_ ({ frames := 2, cells := 0, slots := 0, locals := 45 }) s_ m_ ar_ be_ me_ cd_ H locs 0 0 Q (F0 m_ 218 ls []) := by
              intro n_
              induction n_ with
              | zero => intro k x_2305 f_2306 ex_2305 ef_2306 hk hm_; exact absurd hm_ (Nat.not_lt_zero _)
              | succ n_ ihK_2304 =>
                intro k x_2305 f_2306 ex_2305 ef_2306 hk hm_ H locs ls hW hl
                subst ex_2305
                subst ef_2306
                refine lv_iload hx hb dX11_lookAt_218 (lv_at hl 0 rfl) ?_
                refine lv_aload_n hx hb dX11_lookAt_220 rfl (lv_at hl 2 rfl) ?_
                refine g_get (k := 12) (v := .int (nI tl)) C hW 0 rfl rfl jnX11 (by decide) k_fl_X11_239 rfl dX11_lookAt_221 ?_
                refine lv_icmp_ge (tgt := 274) hx hb dX11_lookAt_224 (by decide) (fun c_2307 => ?_) (fun c_2307 => ?_)
                · replace c_2307 := Int32.not_lt.mpr c_2307
                  have c_2307n : ¬ k < tl := fun q => c_2307 ((nI_ltI (a := k) (b := tl) (by omega) (by omega)).mpr q)
                  exact K_2298 (numF tf s k) (by exact vl_e hsn hte htl.1 ⟨hk.1, hk.2.1⟩ hk.2.2 (by first | exact Or.inl (Or.inl c_2307n) | exact Or.inl (Or.inr c_2307n) | exact Or.inr c_2307)) _ _ _ hW (lv_sub hl [1, 2, 3] rfl)
                · replace c_2307 := Int32.not_le.mp c_2307
                  have c_2307n : k < tl := (nI_ltI (a := k) (b := tl) (by omega) (by omega)).mp c_2307
                  refine lv_iload hx hb dX11_lookAt_227 (lv_at hl 0 rfl) ?_
                  refine lv_iconst (v := 2) hx hb dX11_lookAt_229 (by decide) ?_
                  refine lv_icmp_ge (tgt := 274) hx hb dX11_lookAt_230 (by decide) (fun c_2308 => ?_) (fun c_2308 => ?_)
                  · replace c_2308 := Int32.not_lt.mpr c_2308
                    have c_2308n : ¬ k < 2 := fun q => c_2308 ((nI_ltI (a := k) (b := 2) (by omega) (by omega)).mpr q)
                    exact K_2298 (numF tf s k) (by exact vl_e hsn hte htl.1 ⟨hk.1, hk.2.1⟩ hk.2.2 (by first | exact Or.inl (Or.inl c_2308n) | exact Or.inl (Or.inr c_2308n) | exact Or.inr c_2308)) _ _ _ hW (lv_sub hl [1, 2, 3] rfl)
                  · replace c_2308 := Int32.not_le.mp c_2308
                    have c_2308n : k < 2 := (nI_ltI (a := k) (b := 2) (by omega) (by omega)).mp c_2308
                    refine lv_aload_n hx hb dX11_lookAt_233 rfl (lv_at hl 2 rfl) ?_
                    refine g_get (k := 13) (v := .int (tk0 tf s)) C hW 0 rfl rfl jnX11 (by decide) k_fl_X11_242 rfl dX11_lookAt_234 ?_
                    refine lv_iconst (v := 2) hx hb dX11_lookAt_237 (by decide) ?_
                    refine lv_icmp_ne (tgt := 274) hx hb dX11_lookAt_238 (by decide) (fun c_2309 => ?_) (fun c_2309 => ?_)
                    · exact K_2298 (numF tf s k) (by exact vl_e hsn hte htl.1 ⟨hk.1, hk.2.1⟩ hk.2.2 (by first | exact Or.inl (Or.inl c_2308n) | exact Or.inl (Or.inr c_2308n) | exact Or.inr c_2309)) _ _ _ hW (lv_sub hl [1, 2, 3] rfl)
                    · refine lv_aload_n hx hb dX11_lookAt_241 rfl (lv_at hl 2 rfl) ?_
                      refine lv_bipush (v := 10) hx hb dX11_lookAt_242 (by decide) ?_
                      refine lv_aload_n hx hb dX11_lookAt_244 rfl (lv_at hl 2 rfl) ?_
                      refine g_get (k := 14) (v := .int (numF tf s k)) C hW 0 rfl rfl jnX11 (by decide) k_fl_X11_245 rfl dX11_lookAt_245 ?_
                      refine lv_imul hx hb dX11_lookAt_248 ?_
                      refine lv_aload_n hx hb dX11_lookAt_249 rfl (lv_at hl 2 rfl) ?_
                      refine g_get (k := 9) (v := .ref bt) C hW 0 rfl rfl jnX11 (by decide) k_fl_X11_36 rfl dX11_lookAt_250 ?_
                      refine lv_aload_n hx hb dX11_lookAt_253 rfl (lv_at hl 2 rfl) ?_
                      refine g_get (k := 11) (v := .int (nI s)) C hW 0 rfl rfl jnX11 (by decide) k_fl_X11_236 rfl dX11_lookAt_254 ?_
                      refine lv_iload hx hb dX11_lookAt_257 (lv_at hl 0 rfl) ?_
                      refine lv_iadd hx hb dX11_lookAt_259 ?_
                      refine lv_as (y := nI (s + k)) (nI_add _ _) ?_
                      refine g_ald C hW 1 rfl (ix_in (show (nI (s + k)) = nI (s + k) from (by first | rfl | (simp only [nI_lit, nI_add, pk_mul]; done) | (simp only [nI_lit, nI_add, pk_mul]; congr 1; omega))) (by omega) (by omega)) dX11_lookAt_260 ?_
                      refine lv_as (y := tf (s + k)) (by rw [show (nI (s + k)).toNatClampNeg = (s + k) from nI_clamp (by omega)]) ?_
                      refine lv_iadd hx hb dX11_lookAt_261 ?_
                      refine lv_bipush (v := 48) hx hb dX11_lookAt_262 (by decide) ?_
                      refine lv_isub hx hb dX11_lookAt_264 ?_
                      refine g_put (k := 14) (ty := .int) (w' := [(mo, .inr (9, [.ref al, .ref ke, .ref ik, .ref rq, .long mab, .long mbe, .ref so, .ref ha, .ref te, .ref bt, .int (nI tn), .int (nI s), .int (nI tl), .int (tk0 tf s), .int (((10 * (numF tf s k)) + (tf (s + k))) - 48), .ref an, .ref vs])), (bt, .inl (G.2.1, 150, .inl tf))]) C hW 0 rfl rfl jnX11 tyX11_ok nmX11 (by decide) k_fl_X11_245 rfl rfl rfl rfl (Nat.le_of_ble_eq_true rfl) rfl dX11_lookAt_265 ?_
                      clear hW H locs; intro H locs hW
                      refine lv_iinc (v := (nI k) + 1) (lv' := [(4, .int ((nI k) + 1)), (2, .int (tf s)), (0, .ref mo), (1, .int (nI f0))]) hx hb dX11_lookAt_268 hl (k := 0) rfl rfl (by decide) rfl ?_
                      clear hl ls; intro ls hl
                      refine lv_goto (tgt := 218) hx hb dX11_lookAt_271 (by decide) ?_
                      exact ihK_2304 (k + 1) ((nI k) + 1) (((10 * (numF tf s k)) + (tf (s + k))) - 48) (by exact nI_1 _) (by exact rfl) (by exact ⟨by omega, by omega, fun q => absurd c_2309 q⟩) (by omega) _ _ _ hW (lv_sub hl [0, 1, 2, 3] rfl)
            exact K_2304 _ 0 0 0 (by first | exact rfl | (simp; done)) (by exact rfl) (by exact ⟨by omega, by omega, fun _ => rfl⟩) (Nat.lt_succ_self _) _ _ _ hW (lv_sub hl [0, 1, 2, 3] rfl)
          have K_2310 : ∀ (n_ : Nat) (b : Bool) (tl : Nat) (x_2311 : Int32) (f_2312 : Int32) (_ : x_2311 = bI b) (_ : f_2312 = nI tl) (_ : 1 ≤ tl ∧ s + tl ≤ tn) (_ : (b = true ∧ scan (tkP tf s) tf tn (s + tl) = tkE tf tn s) ∨ (b = false ∧ s + tl = tkE tf tn s)) (_ : (if b = true then 200 - tl else 0) < n_) (H : Heap) (locs : List Loc) (ls : Array Slot), Wd G A_ s_.heap [(mo, .inr (9, [.ref al, .ref ke, .ref ik, .ref rq, .long mab, .long mbe, .ref so, .ref ha, .ref te, .ref bt, .int (nI tn), .int (nI s), .int f_2312, .int (tk0 tf s), .int 0, .ref an, .ref vs])), (bt, .inl (G.2.1, 150, .inl tf))] H locs → lv_has ls 5 [(3, .int x_2311), (2, .int (tf s)), (0, .ref mo), (1, .int (nI f0))] → W p_ l e_ ({ frames := 2, cells := 0, slots := 0, locals := 45 }) s_ m_ ar_ be_ me_ cd_ H locs 0 0 Q (F0 m_ 136 ls []) := by
            intro n_
            induction n_ with
            | zero => intro b tl x_2311 f_2312 ex_2311 ef_2312 htl hd hm_; exact absurd hm_ (Nat.not_lt_zero _)
            | succ n_ ihK_2310 =>
              intro b tl x_2311 f_2312 ex_2311 ef_2312 htl hd hm_ H locs ls hW hl
              subst ex_2311
              subst ef_2312
              refine lv_iload_n hx hb dX11_lookAt_136 rfl (lv_at hl 0 rfl) ?_
              refine lv_if_eq (tgt := 215) hx hb dX11_lookAt_137 (by decide) (fun c_2313 => ?_) (fun c_2313 => ?_)
              · exact K_2296 tl (nI tl) (by first | exact rfl | (simp; done)) (by first | omega | assumption | (simp; done)) (by first | exact tk_x hd (Or.inl (bI_0.mp c_2313)) | exact tk_x hd (Or.inr c_2286n)) _ _ _ hW (lv_sub hl [1, 2, 3] rfl)
              · have hbt := bI_ne.mp c_2313
                have hm9 : 200 - tl < n_ + 1 := by rw [if_pos hbt] at hm_; exact hm_
                refine lv_aload_n hx hb dX11_lookAt_140 rfl (lv_at hl 2 rfl) ?_
                refine g_get (k := 11) (v := .int (nI s)) C hW 0 rfl rfl jnX11 (by decide) k_fl_X11_236 rfl dX11_lookAt_141 ?_
                refine lv_aload_n hx hb dX11_lookAt_144 rfl (lv_at hl 2 rfl) ?_
                refine g_get (k := 12) (v := .int (nI tl)) C hW 0 rfl rfl jnX11 (by decide) k_fl_X11_239 rfl dX11_lookAt_145 ?_
                refine lv_iadd hx hb dX11_lookAt_148 ?_
                refine lv_as (y := nI (s + tl)) (nI_add _ _) ?_
                refine lv_aload_n hx hb dX11_lookAt_149 rfl (lv_at hl 2 rfl) ?_
                refine g_get (k := 10) (v := .int (nI tn)) C hW 0 rfl rfl jnX11 (by decide) k_fl_X11_224 rfl dX11_lookAt_150 ?_
                refine lv_icmp_ge (tgt := 215) hx hb dX11_lookAt_153 (by decide) (fun c_2314 => ?_) (fun c_2314 => ?_)
                · replace c_2314 := Int32.not_lt.mpr c_2314
                  have c_2314n : ¬ (s + tl) < tn := fun q => c_2314 ((nI_ltI (a := (s + tl)) (b := tn) (by omega) (by omega)).mpr q)
                  exact K_2296 tl (nI tl) (by first | exact rfl | (simp; done)) (by first | omega | assumption | (simp; done)) (by first | exact tk_x hd (Or.inl (bI_0.mp c_2314)) | exact tk_x hd (Or.inr c_2314n)) _ _ _ hW (lv_sub hl [1, 2, 3] rfl)
                · replace c_2314 := Int32.not_le.mp c_2314
                  have c_2314n : (s + tl) < tn := (nI_ltI (a := (s + tl)) (b := tn) (by omega) (by omega)).mp c_2314
                  have hsl : s + tl < tn := c_2314n
                  have hsc : scan (tkP tf s) tf tn (s + tl) = tkE tf tn s := (hd.resolve_right (fun q => by rw [hbt] at q; exact absurd q.1 (by decide))).2
                  refine lv_aload_n hx hb dX11_lookAt_156 rfl (lv_at hl 2 rfl) ?_
                  refine g_get (k := 9) (v := .ref bt) C hW 0 rfl rfl jnX11 (by decide) k_fl_X11_36 rfl dX11_lookAt_157 ?_
                  refine lv_aload_n hx hb dX11_lookAt_160 rfl (lv_at hl 2 rfl) ?_
                  refine g_get (k := 11) (v := .int (nI s)) C hW 0 rfl rfl jnX11 (by decide) k_fl_X11_236 rfl dX11_lookAt_161 ?_
                  refine lv_aload_n hx hb dX11_lookAt_164 rfl (lv_at hl 2 rfl) ?_
                  refine g_get (k := 12) (v := .int (nI tl)) C hW 0 rfl rfl jnX11 (by decide) k_fl_X11_239 rfl dX11_lookAt_165 ?_
                  refine lv_iadd hx hb dX11_lookAt_168 ?_
                  refine lv_as (y := nI (s + tl)) (nI_add _ _) ?_
                  refine g_ald C hW 1 rfl (ix_in (show (nI (s + tl)) = nI (s + tl) from (by first | rfl | (simp only [nI_lit, nI_add, pk_mul]; done) | (simp only [nI_lit, nI_add, pk_mul]; congr 1; omega))) (by omega) (by omega)) dX11_lookAt_169 ?_
                  refine lv_as (y := tf (s + tl)) (by rw [show (nI (s + tl)).toNatClampNeg = (s + tl) from nI_clamp (by omega)]) ?_
                  refine lv_istore (lv' := [(4, .int (tf (s + tl))), (3, .int (bI b)), (2, .int (tf s)), (0, .ref mo), (1, .int (nI f0))]) hx hb dX11_lookAt_170 hl (by decide) rfl ?_
                  clear hl ls; intro ls hl
                  refine lv_aload_n hx hb dX11_lookAt_172 rfl (lv_at hl 3 rfl) ?_
                  refine g_get (k := 13) (v := .int (tk0 tf s)) C hW 0 rfl rfl jnX11 (by decide) k_fl_X11_242 rfl dX11_lookAt_173 ?_
                  refine lv_iconst (v := 1) hx hb dX11_lookAt_176 (by decide) ?_
                  have J_2321 : ∀ (y_2320 : Int32) (_ : y_2320 = (if (tk0 tf s) = 1 then bI (isLe (tf (s + tl))) else bI (isFi (tf (s + tl))))), ∀ (H : Heap) (locs : List Loc) (ls : Array Slot), Wd G A_ s_.heap [(mo, .inr (9, [.ref al, .ref ke, .ref ik, .ref rq, .long mab, .long mbe, .ref so, .ref ha, .ref te, .ref bt, .int (nI tn), .int (nI s), .int (nI tl), .int (tk0 tf s), .int 0, .ref an, .ref vs])), (bt, .inl (G.2.1, 150, .inl tf))] H locs → lv_has ls 5 [(4, .int (tf (s + tl))), (3, .int (bI b)), (2, .int (tf s)), (0, .ref mo), (1, .int (nI f0))] → W p_ l e_ ({ frames := 2, cells := 0, slots := 0, locals := 45 }) s_ m_ ar_ be_ me_ cd_ H locs 0 0 Q (F0 m_ 193 ls [.int y_2320]) := by
                    intro y_2320 ey_2320 H locs ls hW hl
                    refine lv_as (y := bI (tkP tf s (tf (s + tl)))) (by simp only [ey_2291, ey_2294, ey_2320]; exact tk_g) ?_
                    refine lv_istore_n (lv' := [(3, .int (bI (tkP tf s (tf (s + tl))))), (4, .int (tf (s + tl))), (2, .int (tf s)), (0, .ref mo), (1, .int (nI f0))]) hx hb dX11_lookAt_193 rfl hl (by decide) rfl ?_
                    clear hl ls; intro ls hl
                    refine lv_aload_n hx hb dX11_lookAt_194 rfl (lv_at hl 3 rfl) ?_
                    refine lv_dup hx hb dX11_lookAt_195 rfl ?_
                    refine g_get (k := 12) (v := .int (nI tl)) C hW 0 rfl rfl jnX11 (by decide) k_fl_X11_239 rfl dX11_lookAt_196 ?_
                    refine lv_iload_n hx hb dX11_lookAt_199 rfl (lv_at hl 0 rfl) ?_
                    have J_2324 : ∀ (y_2323 : Int32) (_ : y_2323 = (if (bI (tkP tf s (tf (s + tl)))) = 0 then 0 else 1)), ∀ (H : Heap) (locs : List Loc) (ls : Array Slot), Wd G A_ s_.heap [(mo, .inr (9, [.ref al, .ref ke, .ref ik, .ref rq, .long mab, .long mbe, .ref so, .ref ha, .ref te, .ref bt, .int (nI tn), .int (nI s), .int (nI tl), .int (tk0 tf s), .int 0, .ref an, .ref vs])), (bt, .inl (G.2.1, 150, .inl tf))] H locs → lv_has ls 5 [(3, .int (bI (tkP tf s (tf (s + tl))))), (4, .int (tf (s + tl))), (2, .int (tf s)), (0, .ref mo), (1, .int (nI f0))] → W p_ l e_ ({ frames := 2, cells := 0, slots := 0, locals := 45 }) s_ m_ ar_ be_ me_ cd_ H locs 0 0 Q (F0 m_ 208 ls [.int y_2323, .int (nI tl), .ref mo]) := by
                      intro y_2323 ey_2323 H locs ls hW hl
                      refine lv_iadd hx hb dX11_lookAt_208 ?_
                      refine lv_as (y := nI (if tkP tf s (tf (s + tl)) = true then tl + 1 else tl)) (by simp only [ey_2291, ey_2294, ey_2320, ey_2323]; exact tk_n) ?_
                      refine g_put (k := 12) (ty := .int) (w' := [(mo, .inr (9, [.ref al, .ref ke, .ref ik, .ref rq, .long mab, .long mbe, .ref so, .ref ha, .ref te, .ref bt, .int (nI tn), .int (nI s), .int (nI (if tkP tf s (tf (s + tl)) = true then tl + 1 else tl)), .int (tk0 tf s), .int 0, .ref an, .ref vs])), (bt, .inl (G.2.1, 150, .inl tf))]) C hW 0 rfl rfl jnX11 tyX11_ok nmX11 (by decide) k_fl_X11_239 rfl rfl rfl rfl (Nat.le_of_ble_eq_true rfl) rfl dX11_lookAt_209 ?_
                      clear hW H locs; intro H locs hW
                      refine lv_goto (tgt := 136) hx hb dX11_lookAt_212 (by decide) ?_
                      exact ihK_2310 (tkP tf s (tf (s + tl))) (if tkP tf s (tf (s + tl)) = true then tl + 1 else tl) (bI (tkP tf s (tf (s + tl)))) (nI (if tkP tf s (tf (s + tl)) = true then tl + 1 else tl)) (by exact rfl) (by exact rfl) (by (split <;> omega)) (by exact tk_bk hsl hsc) (by (cases hq9 : tkP tf s (tf (s + tl)) <;> simp <;> omega)) _ _ _ hW (lv_sub hl [0, 2, 3, 4] rfl)
                    refine lv_if_eq (tgt := 207) hx hb dX11_lookAt_200 (by decide) (fun c_2322 => ?_) (fun c_2322 => ?_)
                    · refine lv_iconst (v := 0) hx hb dX11_lookAt_207 (by decide) ?_
                      exact J_2324 0 (by first | (simp only [c_2322, if_true, if_false, reduceIte]; done) | (simp [c_2322]; done) | rfl | (rw [if_pos c_2322]; done)) _ _ _ hW (lv_sub hl [0, 1, 2, 3, 4] rfl)
                    · refine lv_iconst (v := 1) hx hb dX11_lookAt_203 (by decide) ?_
                      refine lv_goto (tgt := 208) hx hb dX11_lookAt_204 (by decide) ?_
                      exact J_2324 1 (by first | (simp only [c_2322, if_true, if_false, reduceIte]; done) | (simp [c_2322]; done) | rfl | (rw [if_neg c_2322]; done)) _ _ _ hW (lv_sub hl [0, 1, 2, 3, 4] rfl)
                  refine lv_icmp_ne (tgt := 188) hx hb dX11_lookAt_177 (by decide) (fun c_2315 => ?_) (fun c_2315 => ?_)
                  · refine lv_iload hx hb dX11_lookAt_188 (lv_at hl 0 rfl) ?_
                    refine g_fi C hW [] rfl (g_runS (As := [.int (tf (s + tl))]) (rest := []) (wc := []) C hW hl (c_X11_isFigure l G (tf (s + tl))  _) k_ml_X11_251 q_X11_isFigure (by decide) [] rfl rfl rfl rfl (Nat.le_of_ble_eq_true rfl) dX11_lookAt_190 (by decide)) (fun r_2325 er_2325 => ?_)
                    clear hW H locs; intro H locs hW
                    refine lv_as (y := bI (isFi (tf (s + tl)))) er_2325 ?_
                    clear er_2325 r_2325
                    exact J_2321 (bI (isFi (tf (s + tl)))) (by first | (simp only [c_2315, if_true, if_false, reduceIte]; done) | (simp [c_2315]; done) | rfl | (rw [if_neg c_2315]; done)) _ _ _ hW (lv_sub hl [0, 1, 2, 3, 4] rfl)
                  · refine lv_iload hx hb dX11_lookAt_180 (lv_at hl 0 rfl) ?_
                    refine g_fi C hW [] rfl (g_runS (As := [.int (tf (s + tl))]) (rest := []) (wc := []) C hW hl (c_X11_isSmall l G (tf (s + tl))  _) k_ml_X11_248 q_X11_isSmall (by decide) [] rfl rfl rfl rfl (Nat.le_of_ble_eq_true rfl) dX11_lookAt_182 (by decide)) (fun r_2326 er_2326 => ?_)
                    clear hW H locs; intro H locs hW
                    refine lv_as (y := bI (isLe (tf (s + tl)))) er_2326 ?_
                    clear er_2326 r_2326
                    refine lv_goto (tgt := 193) hx hb dX11_lookAt_185 (by decide) ?_
                    exact J_2321 (bI (isLe (tf (s + tl)))) (by first | (simp only [c_2315, if_true, if_false, reduceIte]; done) | (simp [c_2315]; done) | rfl | (rw [if_pos c_2315]; done)) _ _ _ hW (lv_sub hl [0, 1, 2, 3, 4] rfl)
          exact K_2310 _ (decide (tk0 tf s < 3)) 1 (bI (decide (tk0 tf s < 3))) 1 (by exact rfl) (by exact rfl) (by first | omega | assumption | (simp; done)) (by exact tk_in hsn) (Nat.lt_succ_self _) _ _ _ hW (lv_sub hl [0, 1, 2, 3] rfl)
        refine lv_icmp_ge (tgt := 134) hx hb dX11_lookAt_127 (by decide) (fun c_2293 => ?_) (fun c_2293 => ?_)
        · replace c_2293 := Int32.not_lt.mpr c_2293
          refine lv_iconst (v := 0) hx hb dX11_lookAt_134 (by decide) ?_
          exact J_2295 0 (by first | (simp only [c_2293, if_true, if_false, reduceIte]; done) | (simp [c_2293]; done) | rfl | (rw [if_neg c_2293]; done)) _ _ _ hW (lv_sub hl [0, 1, 2] rfl)
        · replace c_2293 := Int32.not_le.mp c_2293
          refine lv_iconst (v := 1) hx hb dX11_lookAt_130 (by decide) ?_
          refine lv_goto (tgt := 135) hx hb dX11_lookAt_131 (by decide) ?_
          exact J_2295 1 (by first | (simp only [c_2293, if_true, if_false, reduceIte]; done) | (simp [c_2293]; done) | rfl | (rw [if_pos c_2293]; done)) _ _ _ hW (lv_sub hl [0, 1, 2] rfl)
      refine lv_if_eq (tgt := 92) hx hb dX11_lookAt_85 (by decide) (fun c_2288 => ?_) (fun c_2288 => ?_)
      · refine lv_iload_n hx hb dX11_lookAt_92 rfl (lv_at hl 0 rfl) ?_
        refine g_fi C hW [] rfl (g_runS (As := [.int (tf s)]) (rest := [.ref mo]) (wc := []) C hW hl (c_X11_isFigure l G (tf s)  _) k_ml_X11_251 q_X11_isFigure (by decide) [] rfl rfl rfl rfl (Nat.le_of_ble_eq_true rfl) dX11_lookAt_93 (by decide)) (fun r_2327 er_2327 => ?_)
        clear hW H locs; intro H locs hW
        refine lv_as (y := bI (isFi (tf s))) er_2327 ?_
        clear er_2327 r_2327
        refine lv_if_eq (tgt := 103) hx hb dX11_lookAt_96 (by decide) (fun c_2328 => ?_) (fun c_2328 => ?_)
        · refine lv_iload_n hx hb dX11_lookAt_103 rfl (lv_at hl 0 rfl) ?_
          refine lv_bipush (v := 59) hx hb dX11_lookAt_104 (by decide) ?_
          refine lv_icmp_ne (tgt := 113) hx hb dX11_lookAt_106 (by decide) (fun c_2329 => ?_) (fun c_2329 => ?_)
          · refine lv_iconst (v := 4) hx hb dX11_lookAt_113 (by decide) ?_
            exact J_2292 4 (by first | (simp only [c_2288, c_2328, c_2329, if_true, if_false, reduceIte]; done) | (simp [c_2288, c_2328, c_2329]; done) | rfl | (rw [if_pos c_2288, if_pos c_2328, if_neg c_2329]; done)) _ _ _ hW (lv_sub hl [0, 1, 2] rfl)
          · refine lv_iconst (v := 3) hx hb dX11_lookAt_109 (by decide) ?_
            refine lv_goto (tgt := 114) hx hb dX11_lookAt_110 (by decide) ?_
            exact J_2292 3 (by first | (simp only [c_2288, c_2328, c_2329, if_true, if_false, reduceIte]; done) | (simp [c_2288, c_2328, c_2329]; done) | rfl | (rw [if_pos c_2288, if_pos c_2328, if_pos c_2329]; done)) _ _ _ hW (lv_sub hl [0, 1, 2] rfl)
        · refine lv_iconst (v := 2) hx hb dX11_lookAt_99 (by decide) ?_
          refine lv_goto (tgt := 114) hx hb dX11_lookAt_100 (by decide) ?_
          exact J_2292 2 (by first | (simp only [c_2288, c_2328, if_true, if_false, reduceIte]; done) | (simp [c_2288, c_2328]; done) | rfl | (rw [if_pos c_2288, if_neg c_2328]; done)) _ _ _ hW (lv_sub hl [0, 1, 2] rfl)
      · refine lv_iconst (v := 1) hx hb dX11_lookAt_88 (by decide) ?_
        refine lv_goto (tgt := 114) hx hb dX11_lookAt_89 (by decide) ?_
        exact J_2292 1 (by first | (simp only [c_2288, if_true, if_false, reduceIte]; done) | (simp [c_2288]; done) | rfl | (rw [if_neg c_2288]; done)) _ _ _ hW (lv_sub hl [0, 1, 2] rfl)
    · have c_2286n : s = tn := (nI_eq (a := s) (b := tn) (by omega) (by omega)).mp c_2286
      subst hQ
      exact g_vret C hW hrt ⟨(), trivial, by first | (rw [he, (tk_end (f := tf) (show tn ≤ s by omega)).1, (tk_end (f := tf) (show tn ≤ s by omega)).2, Nat.sub_self, vlA, if_pos (show tn ≤ s by omega)]; rfl) | (rw [he, ← hte, Nat.add_sub_cancel_left])⟩ dX11_lookAt_69
  have K_2330 : ∀ (n_ : Nat) (s : Nat) (f_2331 : Int32) (_ : f_2331 = nI s) (_ : s ≤ tn) (_ : scan isSp tf tn s = scan isSp tf tn f0) (_ : tn - s < n_) (H : Heap) (locs : List Loc) (ls : Array Slot), Wd G A_ s_.heap [(mo, .inr (9, [.ref al, .ref ke, .ref ik, .ref rq, .long mab, .long mbe, .ref so, .ref ha, .ref te, .ref bt, .int (nI tn), .int f_2331, .int tL, .int tK, .int tV, .ref an, .ref vs])), (bt, .inl (G.2.1, 150, .inl tf))] H locs → lv_has ls 5 [(0, .ref mo), (1, .int (nI f0))] → W p_ l e_ ({ frames := 2, cells := 0, slots := 0, locals := 45 }) s_ m_ ar_ be_ me_ cd_ H locs 0 0 Q (F0 m_ 5 ls []) := by
    intro n_
    induction n_ with
    | zero => intro s f_2331 ef_2331 hs he1 hm_; exact absurd hm_ (Nat.not_lt_zero _)
    | succ n_ ihK_2330 =>
      intro s f_2331 ef_2331 hs he1 hm_ H locs ls hW hl
      subst ef_2331
      refine lv_aload_n hx hb dX11_lookAt_5 rfl (lv_at hl 0 rfl) ?_
      refine g_get (k := 11) (v := .int (nI s)) C hW 0 rfl rfl jnX11 (by decide) k_fl_X11_236 rfl dX11_lookAt_6 ?_
      refine lv_aload_n hx hb dX11_lookAt_9 rfl (lv_at hl 0 rfl) ?_
      refine g_get (k := 10) (v := .int (nI tn)) C hW 0 rfl rfl jnX11 (by decide) k_fl_X11_224 rfl dX11_lookAt_10 ?_
      refine lv_icmp_ge (tgt := 43) hx hb dX11_lookAt_13 (by decide) (fun c_2332 => ?_) (fun c_2332 => ?_)
      · replace c_2332 := Int32.not_lt.mpr c_2332
        have c_2332n : ¬ s < tn := fun q => c_2332 ((nI_ltI (a := s) (b := tn) (by omega) (by omega)).mpr q)
        exact K_2284 s (nI s) (by first | exact rfl | (simp; done)) (by first | omega | assumption | (simp; done)) (by (rw [← he1]; exact scan_stop (fun q => by first | omega | (rw [sp_f c_2332] at q; exact absurd q.2 (by decide))))) _ _ _ hW (lv_sub hl [0, 1] rfl)
      · replace c_2332 := Int32.not_le.mp c_2332
        have c_2332n : s < tn := (nI_ltI (a := s) (b := tn) (by omega) (by omega)).mp c_2332
        refine lv_aload_n hx hb dX11_lookAt_16 rfl (lv_at hl 0 rfl) ?_
        refine g_get (k := 9) (v := .ref bt) C hW 0 rfl rfl jnX11 (by decide) k_fl_X11_36 rfl dX11_lookAt_17 ?_
        refine lv_aload_n hx hb dX11_lookAt_20 rfl (lv_at hl 0 rfl) ?_
        refine g_get (k := 11) (v := .int (nI s)) C hW 0 rfl rfl jnX11 (by decide) k_fl_X11_236 rfl dX11_lookAt_21 ?_
        refine g_ald C hW 1 rfl (ix_in (show (nI s) = nI s from (by first | rfl | (simp only [nI_lit, nI_add, pk_mul]; done) | (simp only [nI_lit, nI_add, pk_mul]; congr 1; omega))) (by omega) (by omega)) dX11_lookAt_24 ?_
        refine lv_as (y := tf s) (by rw [show (nI s).toNatClampNeg = s from nI_clamp (by omega)]) ?_
        refine lv_bipush (v := 32) hx hb dX11_lookAt_25 (by decide) ?_
        refine lv_icmp_ne (tgt := 43) hx hb dX11_lookAt_27 (by decide) (fun c_2333 => ?_) (fun c_2333 => ?_)
        · exact K_2284 s (nI s) (by first | exact rfl | (simp; done)) (by first | omega | assumption | (simp; done)) (by (rw [← he1]; exact scan_stop (fun q => by first | omega | (rw [sp_f c_2333] at q; exact absurd q.2 (by decide))))) _ _ _ hW (lv_sub hl [0, 1] rfl)
        · refine lv_aload_n hx hb dX11_lookAt_30 rfl (lv_at hl 0 rfl) ?_
          refine lv_dup hx hb dX11_lookAt_31 rfl ?_
          refine g_get (k := 11) (v := .int (nI s)) C hW 0 rfl rfl jnX11 (by decide) k_fl_X11_236 rfl dX11_lookAt_32 ?_
          refine lv_iconst (v := 1) hx hb dX11_lookAt_35 (by decide) ?_
          refine lv_iadd hx hb dX11_lookAt_36 ?_
          refine g_put (k := 11) (ty := .int) (w' := [(mo, .inr (9, [.ref al, .ref ke, .ref ik, .ref rq, .long mab, .long mbe, .ref so, .ref ha, .ref te, .ref bt, .int (nI tn), .int ((nI s) + 1), .int tL, .int tK, .int tV, .ref an, .ref vs])), (bt, .inl (G.2.1, 150, .inl tf))]) C hW 0 rfl rfl jnX11 tyX11_ok nmX11 (by decide) k_fl_X11_236 rfl rfl rfl rfl (Nat.le_of_ble_eq_true rfl) rfl dX11_lookAt_37 ?_
          clear hW H locs; intro H locs hW
          refine lv_goto (tgt := 5) hx hb dX11_lookAt_40 (by decide) ?_
          exact ihK_2330 (s + 1) ((nI s) + 1) (by exact nI_1 _) (by first | omega | assumption | (simp; done)) (by (rw [← he1, scan_step (show s < tn by omega) (sp_t c_2333)])) (by omega) _ _ _ hW (lv_sub hl [0, 1] rfl)
  exact K_2330 _ f0 (nI f0) (by first | exact rfl | (simp; done)) (by first | omega | assumption | (simp; done)) (by rfl) (Nat.lt_succ_self _) _ _ _ hW (lv_sub hl [0, 1] rfl)
