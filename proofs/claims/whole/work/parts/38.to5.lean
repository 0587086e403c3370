set_option maxHeartbeats 4000000 in
set_option maxRecDepth 100000 in
theorem c_X10_place_all (l : Launch) (G : gT) (v vw vc vp vs vn vm vu : Nat) (wide : Int32) (vpc n : Nat) (pf : Nat → Int32) (ck wd : Nat → Int32) (to iv jv rd st ra og : Nat) (k1 k2 ab be bds nos fls : Int32) (sc : Nat) (f0 : Int32) (cr : Nat → Int32) (hr fh : Nat) (N : Nat) (hn : n ≤ 7) (eh : ck 6 = nI hr) (hh : hr < 10000) (eh2 : ck 2 = nI fh) (hf : fh < 2) (hP : okP n pf) (hWd : okW wd) (hg : Rg (ck 1) 1 9) (hup : ck 3 = 1) (eN : N = 2 ^ n) : MI l G yX10_place cX10_place 3 .int ({ frames := 5, cells := 0, slots := 0, locals := 117 }) [.ref to, .int (-1)] [(to, .inr (8, [.ref v, .ref iv, .ref jv, .int k1, .int k2, .ref rd, .ref st, .ref ra, .ref og, .int ab, .int be, .int bds, .int nos, .int fls])), (st, .inr (5, [.ref sc, .int f0])), (sc, .inl (G.2.1, 60, .inl cr)), (v, .inr (7, [.int wide, .ref vw, .ref vc, .ref vp, .ref vs, .ref vn, .ref vm, .ref vu])), (vp, .inr (4, [.int 7, .int 3, .ref vpc, .int (nI n)])), (vpc, .inl (G.2.1, 21, .inl pf)), (vc, .inl (G.2.1, 7, .inl ck)), (vw, .inl (G.2.1, 6, .inl wd))] (fun (r : Int32) w1 => ∃ u_ : Nat → Int32, (r = nI (stq (cfS wide ck wd pf n hr fh) fh (bwG (cfS wide ck wd pf n hr fh) fh n N).1)) ∧ w1 = [(to, .inr (8, [.ref v, .ref iv, .ref jv, .int k1, .int k2, .ref rd, .ref st, .ref ra, .ref og, .int ab, .int be, .int bds, .int nos, .int fls])), (st, .inr (5, [.ref sc, .int (nI fh)])), (sc, .inl (G.2.1, 60, .inl u_)), (v, .inr (7, [.int wide, .ref vw, .ref vc, .ref vp, .ref vs, .ref vn, .ref vm, .ref vu])), (vp, .inr (4, [.int 7, .int 3, .ref vpc, .int (nI n)])), (vpc, .inl (G.2.1, 21, .inl pf)), (vc, .inl (G.2.1, 7, .inl ck)), (vw, .inl (G.2.1, 6, .inl wd))]) := by
  refine MI.mk (by decide) (Nat.le_of_ble_eq_true rfl) ?_
  intro p_ e_ s_ m_ ar_ be_ me_ cd_ A_ ls C hrt hW hl
  have hx := C.1; have hb := C.2.1; have hown := C.2.2.2.1; have ht := C.2.2.2.2.1
  replace hl : lv_has ls 3 [(0, .ref to), (1, .int (-1))] := hl
  generalize hQ : MQ be_ _ ar_ s_ 0 0 A_ = Q
  refine lv_iload_n hx hb dX10_place_0 rfl (lv_at hl 1 rfl) ?_
  refine lv_iconst (v := (-1)) hx hb dX10_place_1 (by decide) ?_
  refine lv_icmp_eq (tgt := 26) hx hb dX10_place_2 (by decide) (fun c_1120 => ?_) (fun c_1120 => ?_)
  · refine lv_aload_n hx hb dX10_place_26 rfl (lv_at hl 0 rfl) ?_
    refine g_get (k := 0) (v := .ref v) C hW 0 rfl rfl jnX10 (by decide) k_fl_X10_10 rfl dX10_place_27 ?_
    refine g_fi C hW [3, 6] rfl (g_runV (As := []) (rest := []) (wc := [(v, .inr (7, [.int wide, .ref vw, .ref vc, .ref vp, .ref vs, .ref vn, .ref vm, .ref vu])), (vc, .inl (G.2.1, 7, .inl ck))]) (q0 := 0) (ci := 7) C hW hl (c_X9_isUp l G v vw vc vp vs vn vm vu wide ck  _) k_ml_X10_176 q_X9_isUp (by decide) [3, 6] rfl rfl rfl rfl rfl rfl (Nat.le_of_ble_eq_true rfl) dX10_place_30 (by decide)) (fun r_1121 er_1121 => ?_)
    clear hW; intro H locs hW
    refine lv_as (y := bI (decide (ck 3 = 1))) er_1121 ?_
    clear er_1121 r_1121
    refine lv_if_ne (tgt := 38) hx hb dX10_place_33 (by decide) (fun c_1122 => ?_) (fun c_1122 => ?_)
    · refine lv_aload_n hx hb dX10_place_38 rfl (lv_at hl 0 rfl) ?_
      refine g_get (k := 6) (v := .ref st) C hW 0 rfl rfl jnX10 (by decide) k_fl_X10_39 rfl dX10_place_39 ?_
      refine lv_aload_n hx hb dX10_place_42 rfl (lv_at hl 0 rfl) ?_
      refine g_get (k := 0) (v := .ref v) C hW 0 rfl rfl jnX10 (by decide) k_fl_X10_10 rfl dX10_place_43 ?_
      refine g_fvw (wr := [(to, .inr (8, [.ref v, .ref iv, .ref jv, .int k1, .int k2, .ref rd, .ref st, .ref ra, .ref og, .int ab, .int be, .int bds, .int nos, .int fls]))]) (ww := fun (u_ : Nat → Int32) => [(st, .inr (5, [.ref sc, .int (nI fh)])), (sc, .inl (G.2.1, 60, .inl u_)), (v, .inr (7, [.int wide, .ref vw, .ref vc, .ref vp, .ref vs, .ref vn, .ref vm, .ref vu])), (vp, .inr (4, [.int 7, .int 3, .ref vpc, .int (nI n)])), (vpc, .inl (G.2.1, 21, .inl pf)), (vc, .inl (G.2.1, 7, .inl ck)), (vw, .inl (G.2.1, 6, .inl wd))]) (w2 := fun (u_ : Nat → Int32) => [(to, .inr (8, [.ref v, .ref iv, .ref jv, .int k1, .int k2, .ref rd, .ref st, .ref ra, .ref og, .int ab, .int be, .int bds, .int nos, .int fls])), (st, .inr (5, [.ref sc, .int (nI fh)])), (sc, .inl (G.2.1, 60, .inl u_)), (v, .inr (7, [.int wide, .ref vw, .ref vc, .ref vp, .ref vs, .ref vn, .ref vm, .ref vu])), (vp, .inr (4, [.int 7, .int 3, .ref vpc, .int (nI n)])), (vpc, .inl (G.2.1, 21, .inl pf)), (vc, .inl (G.2.1, 7, .inl ck)), (vw, .inl (G.2.1, 6, .inl wd))]) C hW [1, 2, 3, 4, 5, 6, 7] [0] [0, 1, 2, 3, 4, 5, 6, 7] rfl rfl (by decide) (by decide) (by decide) (fun _ => rfl) (g_runV (As := [.ref v]) (rest := []) (wc := [(st, .inr (5, [.ref sc, .int f0])), (sc, .inl (G.2.1, 60, .inl cr)), (v, .inr (7, [.int wide, .ref vw, .ref vc, .ref vp, .ref vs, .ref vn, .ref vm, .ref vu])), (vp, .inr (4, [.int 7, .int 3, .ref vpc, .int (nI n)])), (vpc, .inl (G.2.1, 21, .inl pf)), (vc, .inl (G.2.1, 7, .inl ck)), (vw, .inl (G.2.1, 6, .inl wd))]) (q0 := 0) (ci := 5) C hW hl (c_X7_watch l G st sc f0 cr v vw vc vp vs vn vm vu wide vpc n pf ck wd hr fh (by first | assumption | omega) (by assumption) (by first | assumption | omega) (by assumption) (by first | assumption | omega) (by assumption) (by assumption) (by assumption) _) k_ml_X10_229 q_X7_watch (by decide) [1, 2, 3, 4, 5, 6, 7] rfl rfl rfl rfl rfl rfl (Nat.le_of_ble_eq_true rfl) dX10_place_46 (by decide)) (fun u_1124 er_1123 => ?_)
      clear hW H locs; intro H locs hW
      replace hW : Wd G A_ s_.heap [(to, .inr (8, [.ref v, .ref iv, .ref jv, .int k1, .int k2, .ref rd, .ref st, .ref ra, .ref og, .int ab, .int be, .int bds, .int nos, .int fls])), (st, .inr (5, [.ref sc, .int (nI fh)])), (sc, .inl (G.2.1, 60, .inl u_1124)), (v, .inr (7, [.int wide, .ref vw, .ref vc, .ref vp, .ref vs, .ref vn, .ref vm, .ref vu])), (vp, .inr (4, [.int 7, .int 3, .ref vpc, .int (nI n)])), (vpc, .inl (G.2.1, 21, .inl pf)), (vc, .inl (G.2.1, 7, .inl ck)), (vw, .inl (G.2.1, 6, .inl wd))] H locs := hW
      refine lv_aload_n hx hb dX10_place_49 rfl (lv_at hl 0 rfl) ?_
      refine g_get (k := 6) (v := .ref st) C hW 0 rfl rfl jnX10 (by decide) k_fl_X10_39 rfl dX10_place_50 ?_
      refine lv_aload_n hx hb dX10_place_53 rfl (lv_at hl 0 rfl) ?_
      refine g_get (k := 0) (v := .ref v) C hW 0 rfl rfl jnX10 (by decide) k_fl_X10_10 rfl dX10_place_54 ?_
      refine g_getN (k := 3) (v := .ref vp) (host := RX10) C hW 3 rfl rfl jnX9 (by decide) (List.mem_of_getElem? (i := 5) rfl) rfl dX10_place_57 ?_
      refine g_fi C hW [4] rfl (g_runV (As := []) (rest := [.ref st]) (wc := [(vp, .inr (4, [.int 7, .int 3, .ref vpc, .int (nI n)]))]) (q0 := 0) (ci := 4) C hW hl (c_X6_size l G vp vpc 7 3 n  _) k_ml_X10_85 q_X6_size (by decide) [4] rfl rfl rfl rfl rfl rfl (Nat.le_of_ble_eq_true rfl) dX10_place_60 (by decide)) (fun r_1125 er_1125 => ?_)
      clear hW H locs; intro H locs hW
      refine lv_as (y := nI n) er_1125 ?_
      clear er_1125 r_1125
      refine g_fi C hW [1, 2] rfl (g_runV (As := [.int (nI n)]) (rest := []) (wc := [(st, .inr (5, [.ref sc, .int (nI fh)])), (sc, .inl (G.2.1, 60, .inl u_1124))]) (q0 := 0) (ci := 5) C hW hl (c_X7_firstBestWay l G st sc fh u_1124 n N (by first | assumption | omega) (by first | assumption | omega) (by first | assumption | rfl) _) k_ml_X10_238 q_X7_firstBestWay (by decide) [1, 2] rfl rfl rfl rfl rfl rfl (Nat.le_of_ble_eq_true rfl) dX10_place_63 (by decide)) (fun r_1126 er_1126 => ?_)
      clear hW H locs; intro H locs hW
      refine lv_as (y := (bwG u_1124 fh n N).1) er_1126 ?_
      clear er_1126 r_1126
      refine lv_istore_n (lv' := [(2, .int ((bwG u_1124 fh n N).1)), (0, .ref to), (1, .int (-1))]) hx hb dX10_place_66 rfl hl (by decide) rfl ?_
      clear hl ls; intro ls hl
      refine lv_iload_n hx hb dX10_place_67 rfl (lv_at hl 2 rfl) ?_
      refine lv_iconst (v := (-1)) hx hb dX10_place_68 (by decide) ?_
      refine lv_icmp_ne (tgt := 83) hx hb dX10_place_69 (by decide) (fun c_1127 => ?_) (fun c_1127 => ?_)
      · exfalso; exact c_1127 rfl
      · refine lv_aload_n hx hb dX10_place_72 rfl (lv_at hl 1 rfl) ?_
        refine g_get (k := 6) (v := .ref st) C hW 0 rfl rfl jnX10 (by decide) k_fl_X10_39 rfl dX10_place_73 ?_
        refine lv_iload_n hx hb dX10_place_76 rfl (lv_at hl 0 rfl) ?_
        refine g_fi C hW [1, 2] rfl (g_runV (As := [.int ((bwG u_1124 fh n N).1)]) (rest := []) (wc := [(st, .inr (5, [.ref sc, .int (nI fh)])), (sc, .inl (G.2.1, 60, .inl u_1124))]) (q0 := 0) (ci := 5) C hW hl (c_X7_strokes l G st sc fh u_1124 ((bwG u_1124 fh n N).1) (by first | assumption | omega) _) k_ml_X10_235 q_X7_strokes (by decide) [1, 2] rfl rfl rfl rfl rfl rfl (Nat.le_of_ble_eq_true rfl) dX10_place_77 (by decide)) (fun r_1128 er_1128 => ?_)
        clear hW H locs; intro H locs hW
        refine lv_as (y := nI (stq u_1124 fh ((bwG u_1124 fh n N).1))) er_1128 ?_
        clear er_1128 r_1128
        refine lv_goto (tgt := 88) hx hb dX10_place_80 (by decide) ?_
        subst hQ
        exact g_iret (v := (nI (stq u_1124 fh ((bwG u_1124 fh n N).1)))) C hW hrt ⟨u_1124, by (rw [bwG_cf er_1123, stq_cf er_1123]), by rfl⟩ dX10_place_88
    · exfalso; exact dd (by first | assumption | exact okp_nI (by omega) (by assumption) | exact decide_eq_true (by first | assumption | omega)) c_1122
  · exfalso; exact c_1120 rfl
set_option maxHeartbeats 4000000 in
set_option maxRecDepth 100000 in
theorem c_X10_place_one (l : Launch) (G : gT) (v vw vc vp vs vn vm vu : Nat) (wide : Int32) (vpc n : Nat) (pf : Nat → Int32) (ck wd : Nat → Int32) (to iv jv rd st ra og : Nat) (k1 k2 ab be bds nos fls : Int32) (sc : Nat) (f0 : Int32) (cr : Nat → Int32) (hr fh : Nat) (N k : Nat) (hk : k < n) (hn : n ≤ 7) (eh : ck 6 = nI hr) (hh : hr < 10000) (eh2 : ck 2 = nI fh) (hf : fh < 2) (hP : okP n pf) (hWd : okW wd) (hg : Rg (ck 1) 1 9) (hup : ck 3 = 1) (eN : N = 2 ^ n) : MI l G yX10_place cX10_place 3 .int ({ frames := 5, cells := 0, slots := 0, locals := 117 }) [.ref to, .int (nI k)] [(to, .inr (8, [.ref v, .ref iv, .ref jv, .int k1, .int k2, .ref rd, .ref st, .ref ra, .ref og, .int ab, .int be, .int bds, .int nos, .int fls])), (st, .inr (5, [.ref sc, .int f0])), (sc, .inl (G.2.1, 60, .inl cr)), (v, .inr (7, [.int wide, .ref vw, .ref vc, .ref vp, .ref vs, .ref vn, .ref vm, .ref vu])), (vp, .inr (4, [.int 7, .int 3, .ref vpc, .int (nI n)])), (vpc, .inl (G.2.1, 21, .inl pf)), (vc, .inl (G.2.1, 7, .inl ck)), (vw, .inl (G.2.1, 6, .inl wd))] (fun (r : Int32) w1 => ∃ u_ : Nat → Int32, (r = (((bwG (cfS wide ck wd pf n hr fh) fh n N).1) >>> (nI k &&& 31)) &&& 1) ∧ w1 = [(to, .inr (8, [.ref v, .ref iv, .ref jv, .int k1, .int k2, .ref rd, .ref st, .ref ra, .ref og, .int ab, .int be, .int bds, .int nos, .int fls])), (st, .inr (5, [.ref sc, .int (nI fh)])), (sc, .inl (G.2.1, 60, .inl u_)), (v, .inr (7, [.int wide, .ref vw, .ref vc, .ref vp, .ref vs, .ref vn, .ref vm, .ref vu])), (vp, .inr (4, [.int 7, .int 3, .ref vpc, .int (nI n)])), (vpc, .inl (G.2.1, 21, .inl pf)), (vc, .inl (G.2.1, 7, .inl ck)), (vw, .inl (G.2.1, 6, .inl wd))]) := by
  refine MI.mk (by decide) (Nat.le_of_ble_eq_true rfl) ?_
  intro p_ e_ s_ m_ ar_ be_ me_ cd_ A_ ls C hrt hW hl
  have hx := C.1; have hb := C.2.1; have hown := C.2.2.2.1; have ht := C.2.2.2.2.1
  replace hl : lv_has ls 3 [(0, .ref to), (1, .int (nI k))] := hl
  generalize hQ : MQ be_ _ ar_ s_ 0 0 A_ = Q
  refine lv_iload_n hx hb dX10_place_0 rfl (lv_at hl 1 rfl) ?_
  refine lv_iconst (v := (-1)) hx hb dX10_place_1 (by decide) ?_
  refine lv_icmp_eq (tgt := 26) hx hb dX10_place_2 (by decide) (fun c_1129 => ?_) (fun c_1129 => ?_)
  · exfalso; exact nI_m1ne (by omega) c_1129
  · refine lv_aload_n hx hb dX10_place_5 rfl (lv_at hl 0 rfl) ?_
    refine g_get (k := 0) (v := .ref v) C hW 0 rfl rfl jnX10 (by decide) k_fl_X10_10 rfl dX10_place_6 ?_
    refine g_getN (k := 3) (v := .ref vp) (host := RX10) C hW 3 rfl rfl jnX9 (by decide) (List.mem_of_getElem? (i := 5) rfl) rfl dX10_place_9 ?_
    refine lv_iload_n hx hb dX10_place_12 rfl (lv_at hl 1 rfl) ?_
    refine g_fi C hW [4] rfl (g_runV (As := [.int (nI k)]) (rest := []) (wc := [(vp, .inr (4, [.int 7, .int 3, .ref vpc, .int (nI n)]))]) (q0 := 0) (ci := 4) C hW hl (c_X6_has l G vp vpc 7 3 n (nI k)  _) k_ml_X10_161 q_X6_has (by decide) [4] rfl rfl rfl rfl rfl rfl (Nat.le_of_ble_eq_true rfl) dX10_place_13 (by decide)) (fun r_1130 er_1130 => ?_)
    clear hW; intro H locs hW
    refine lv_as (y := bI (okp n (nI k))) er_1130 ?_
    clear er_1130 r_1130
    refine lv_if_ne (tgt := 26) hx hb dX10_place_16 (by decide) (fun c_1131 => ?_) (fun c_1131 => ?_)
    · refine lv_aload_n hx hb dX10_place_26 rfl (lv_at hl 0 rfl) ?_
      refine g_get (k := 0) (v := .ref v) C hW 0 rfl rfl jnX10 (by decide) k_fl_X10_10 rfl dX10_place_27 ?_
      refine g_fi C hW [3, 6] rfl (g_runV (As := []) (rest := []) (wc := [(v, .inr (7, [.int wide, .ref vw, .ref vc, .ref vp, .ref vs, .ref vn, .ref vm, .ref vu])), (vc, .inl (G.2.1, 7, .inl ck))]) (q0 := 0) (ci := 7) C hW hl (c_X9_isUp l G v vw vc vp vs vn vm vu wide ck  _) k_ml_X10_176 q_X9_isUp (by decide) [3, 6] rfl rfl rfl rfl rfl rfl (Nat.le_of_ble_eq_true rfl) dX10_place_30 (by decide)) (fun r_1132 er_1132 => ?_)
      clear hW H locs; intro H locs hW
      refine lv_as (y := bI (decide (ck 3 = 1))) er_1132 ?_
      clear er_1132 r_1132
      refine lv_if_ne (tgt := 38) hx hb dX10_place_33 (by decide) (fun c_1133 => ?_) (fun c_1133 => ?_)
      · refine lv_aload_n hx hb dX10_place_38 rfl (lv_at hl 0 rfl) ?_
        refine g_get (k := 6) (v := .ref st) C hW 0 rfl rfl jnX10 (by decide) k_fl_X10_39 rfl dX10_place_39 ?_
        refine lv_aload_n hx hb dX10_place_42 rfl (lv_at hl 0 rfl) ?_
        refine g_get (k := 0) (v := .ref v) C hW 0 rfl rfl jnX10 (by decide) k_fl_X10_10 rfl dX10_place_43 ?_
        refine g_fvw (wr := [(to, .inr (8, [.ref v, .ref iv, .ref jv, .int k1, .int k2, .ref rd, .ref st, .ref ra, .ref og, .int ab, .int be, .int bds, .int nos, .int fls]))]) (ww := fun (u_ : Nat → Int32) => [(st, .inr (5, [.ref sc, .int (nI fh)])), (sc, .inl (G.2.1, 60, .inl u_)), (v, .inr (7, [.int wide, .ref vw, .ref vc, .ref vp, .ref vs, .ref vn, .ref vm, .ref vu])), (vp, .inr (4, [.int 7, .int 3, .ref vpc, .int (nI n)])), (vpc, .inl (G.2.1, 21, .inl pf)), (vc, .inl (G.2.1, 7, .inl ck)), (vw, .inl (G.2.1, 6, .inl wd))]) (w2 := fun (u_ : Nat → Int32) => [(to, .inr (8, [.ref v, .ref iv, .ref jv, .int k1, .int k2, .ref rd, .ref st, .ref ra, .ref og, .int ab, .int be, .int bds, .int nos, .int fls])), (st, .inr (5, [.ref sc, .int (nI fh)])), (sc, .inl (G.2.1, 60, .inl u_)), (v, .inr (7, [.int wide, .ref vw, .ref vc, .ref vp, .ref vs, .ref vn, .ref vm, .ref vu])), (vp, .inr (4, [.int 7, .int 3, .ref vpc, .int (nI n)])), (vpc, .inl (G.2.1, 21, .inl pf)), (vc, .inl (G.2.1, 7, .inl ck)), (vw, .inl (G.2.1, 6, .inl wd))]) C hW [1, 2, 3, 4, 5, 6, 7] [0] [0, 1, 2, 3, 4, 5, 6, 7] rfl rfl (by decide) (by decide) (by decide) (fun _ => rfl) (g_runV (As := [.ref v]) (rest := []) (wc := [(st, .inr (5, [.ref sc, .int f0])), (sc, .inl (G.2.1, 60, .inl cr)), (v, .inr (7, [.int wide, .ref vw, .ref vc, .ref vp, .ref vs, .ref vn, .ref vm, .ref vu])), (vp, .inr (4, [.int 7, .int 3, .ref vpc, .int (nI n)])), (vpc, .inl (G.2.1, 21, .inl pf)), (vc, .inl (G.2.1, 7, .inl ck)), (vw, .inl (G.2.1, 6, .inl wd))]) (q0 := 0) (ci := 5) C hW hl (c_X7_watch l G st sc f0 cr v vw vc vp vs vn vm vu wide vpc n pf ck wd hr fh (by first | assumption | omega) (by assumption) (by first | assumption | omega) (by assumption) (by first | assumption | omega) (by assumption) (by assumption) (by assumption) _) k_ml_X10_229 q_X7_watch (by decide) [1, 2, 3, 4, 5, 6, 7] rfl rfl rfl rfl rfl rfl (Nat.le_of_ble_eq_true rfl) dX10_place_46 (by decide)) (fun u_1135 er_1134 => ?_)
        clear hW H locs; intro H locs hW
        replace hW : Wd G A_ s_.heap [(to, .inr (8, [.ref v, .ref iv, .ref jv, .int k1, .int k2, .ref rd, .ref st, .ref ra, .ref og, .int ab, .int be, .int bds, .int nos, .int fls])), (st, .inr (5, [.ref sc, .int (nI fh)])), (sc, .inl (G.2.1, 60, .inl u_1135)), (v, .inr (7, [.int wide, .ref vw, .ref vc, .ref vp, .ref vs, .ref vn, .ref vm, .ref vu])), (vp, .inr (4, [.int 7, .int 3, .ref vpc, .int (nI n)])), (vpc, .inl (G.2.1, 21, .inl pf)), (vc, .inl (G.2.1, 7, .inl ck)), (vw, .inl (G.2.1, 6, .inl wd))] H locs := hW
        refine lv_aload_n hx hb dX10_place_49 rfl (lv_at hl 0 rfl) ?_
        refine g_get (k := 6) (v := .ref st) C hW 0 rfl rfl jnX10 (by decide) k_fl_X10_39 rfl dX10_place_50 ?_
        refine lv_aload_n hx hb dX10_place_53 rfl (lv_at hl 0 rfl) ?_
        refine g_get (k := 0) (v := .ref v) C hW 0 rfl rfl jnX10 (by decide) k_fl_X10_10 rfl dX10_place_54 ?_
        refine g_getN (k := 3) (v := .ref vp) (host := RX10) C hW 3 rfl rfl jnX9 (by decide) (List.mem_of_getElem? (i := 5) rfl) rfl dX10_place_57 ?_
        refine g_fi C hW [4] rfl (g_runV (As := []) (rest := [.ref st]) (wc := [(vp, .inr (4, [.int 7, .int 3, .ref vpc, .int (nI n)]))]) (q0 := 0) (ci := 4) C hW hl (c_X6_size l G vp vpc 7 3 n  _) k_ml_X10_85 q_X6_size (by decide) [4] rfl rfl rfl rfl rfl rfl (Nat.le_of_ble_eq_true rfl) dX10_place_60 (by decide)) (fun r_1136 er_1136 => ?_)
        clear hW H locs; intro H locs hW
        refine lv_as (y := nI n) er_1136 ?_
        clear er_1136 r_1136
        refine g_fi C hW [1, 2] rfl (g_runV (As := [.int (nI n)]) (rest := []) (wc := [(st, .inr (5, [.ref sc, .int (nI fh)])), (sc, .inl (G.2.1, 60, .inl u_1135))]) (q0 := 0) (ci := 5) C hW hl (c_X7_firstBestWay l G st sc fh u_1135 n N (by first | assumption | omega) (by first | assumption | omega) (by first | assumption | rfl) _) k_ml_X10_238 q_X7_firstBestWay (by decide) [1, 2] rfl rfl rfl rfl rfl rfl (Nat.le_of_ble_eq_true rfl) dX10_place_63 (by decide)) (fun r_1137 er_1137 => ?_)
        clear hW H locs; intro H locs hW
        refine lv_as (y := (bwG u_1135 fh n N).1) er_1137 ?_
        clear er_1137 r_1137
        refine lv_istore_n (lv' := [(2, .int ((bwG u_1135 fh n N).1)), (0, .ref to), (1, .int (nI k))]) hx hb dX10_place_66 rfl hl (by decide) rfl ?_
        clear hl ls; intro ls hl
        refine lv_iload_n hx hb dX10_place_67 rfl (lv_at hl 2 rfl) ?_
        refine lv_iconst (v := (-1)) hx hb dX10_place_68 (by decide) ?_
        refine lv_icmp_ne (tgt := 83) hx hb dX10_place_69 (by decide) (fun c_1138 => ?_) (fun c_1138 => ?_)
        · refine lv_iload_n hx hb dX10_place_83 rfl (lv_at hl 0 rfl) ?_
          refine lv_iload_n hx hb dX10_place_84 rfl (lv_at hl 2 rfl) ?_
          refine lv_ishr hx hb dX10_place_85 ?_
          refine lv_iconst (v := 1) hx hb dX10_place_86 (by decide) ?_
          refine lv_iand hx hb dX10_place_87 ?_
          subst hQ
          exact g_iret (v := ((((bwG u_1135 fh n N).1) >>> ((nI k) &&& 31)) &&& (1 : Int32))) C hW hrt ⟨u_1135, by (rw [bwG_cf er_1134]), by rfl⟩ dX10_place_88
        · exfalso; exact nI_m1ne (by omega) c_1138
      · exfalso; exact dd (by first | assumption | exact okp_nI (by omega) (by assumption) | exact decide_eq_true (by first | assumption | omega)) c_1133
    · exfalso; exact dd (by first | assumption | exact okp_nI (by omega) (by assumption) | exact decide_eq_true (by first | assumption | omega)) c_1131
set_option maxHeartbeats 4000000 in
set_option maxRecDepth 100000 in
theorem c_X10_place_down (l : Launch) (G : gT) (v vw vc vp vs vn vm vu : Nat) (wide : Int32) (to iv jv rd st ra og : Nat) (k1 k2 ab be bds nos fls : Int32) (vpc n : Nat) (ck : Nat → Int32) (p9 : Int32) (hp : p9 = -1 ∨ okp n p9 = true) (hup : ¬ ck 3 = 1) : MI l G yX10_place cX10_place 3 .int ({ frames := 1, cells := 0, slots := 0, locals := 21 }) [.ref to, .int p9] [(to, .inr (8, [.ref v, .ref iv, .ref jv, .int k1, .int k2, .ref rd, .ref st, .ref ra, .ref og, .int ab, .int be, .int bds, .int nos, .int fls])), (v, .inr (7, [.int wide, .ref vw, .ref vc, .ref vp, .ref vs, .ref vn, .ref vm, .ref vu])), (vp, .inr (4, [.int 7, .int 3, .ref vpc, .int (nI n)])), (vc, .inl (G.2.1, 7, .inl ck))] (fun (r : Int32) w1 => (r = 0) ∧ w1 = [(to, .inr (8, [.ref v, .ref iv, .ref jv, .int k1, .int k2, .ref rd, .ref st, .ref ra, .ref og, .int ab, .int be, .int bds, .int nos, .int fls])), (v, .inr (7, [.int wide, .ref vw, .ref vc, .ref vp, .ref vs, .ref vn, .ref vm, .ref vu])), (vp, .inr (4, [.int 7, .int 3, .ref vpc, .int (nI n)])), (vc, .inl (G.2.1, 7, .inl ck))]) := by
  refine MI.mk (by decide) (Nat.le_of_ble_eq_true rfl) ?_
  intro p_ e_ s_ m_ ar_ be_ me_ cd_ A_ ls C hrt hW hl
  have hx := C.1; have hb := C.2.1; have hown := C.2.2.2.1; have ht := C.2.2.2.2.1
  replace hl : lv_has ls 3 [(0, .ref to), (1, .int p9)] := hl
  generalize hQ : MQ be_ _ ar_ s_ 0 0 A_ = Q
  refine lv_iload_n hx hb dX10_place_0 rfl (lv_at hl 1 rfl) ?_
  refine lv_iconst (v := (-1)) hx hb dX10_place_1 (by decide) ?_
  have J_1142 : ∀ (H : Heap) (locs : List Loc) (ls : Array Slot), Wd G A_ s_.heap [(to, .inr (8, [.ref v, .ref iv, .ref jv, .int k1, .int k2, .ref rd, .ref st, .ref ra, .ref og, .int ab, .int be, .int bds, .int nos, .int fls])), (v, .inr (7, [.int wide, .ref vw, .ref vc, .ref vp, .ref vs, .ref vn, .ref vm, .ref vu])), (vp, .inr (4, [.int 7, .int 3, .ref vpc, .int (nI n)])), (vc, .inl (G.2.1, 7, .inl ck))] H locs → lv_has ls 3 [(0, .ref to), (1, .int p9)] → W p_ l e_ ({ frames := 1, cells := 0, slots := 0, locals := 21 }) s_ m_ ar_ be_ me_ cd_ H locs 0 0 Q (F0 m_ 26 ls []) := by
    intro  H locs ls hW hl
    refine lv_aload_n hx hb dX10_place_26 rfl (lv_at hl 0 rfl) ?_
    refine g_get (k := 0) (v := .ref v) C hW 0 rfl rfl jnX10 (by decide) k_fl_X10_10 rfl dX10_place_27 ?_
    refine g_fi C hW [1, 3] rfl (g_runV (As := []) (rest := []) (wc := [(v, .inr (7, [.int wide, .ref vw, .ref vc, .ref vp, .ref vs, .ref vn, .ref vm, .ref vu])), (vc, .inl (G.2.1, 7, .inl ck))]) (q0 := 0) (ci := 7) C hW hl (c_X9_isUp l G v vw vc vp vs vn vm vu wide ck  _) k_ml_X10_176 q_X9_isUp (by decide) [1, 3] rfl rfl rfl rfl rfl rfl (Nat.le_of_ble_eq_true rfl) dX10_place_30 (by decide)) (fun r_1143 er_1143 => ?_)
    clear hW H locs; intro H locs hW
    refine lv_as (y := bI (decide (ck 3 = 1))) er_1143 ?_
    clear er_1143 r_1143
    refine lv_if_ne (tgt := 38) hx hb dX10_place_33 (by decide) (fun c_1144 => ?_) (fun c_1144 => ?_)
    · exfalso; exact dd0 (by first | assumption | exact decide_eq_false (by first | assumption | omega)) c_1144
    · refine lv_iconst (v := 0) hx hb dX10_place_36 (by decide) ?_
      subst hQ
      exact g_iret (v := 0) C hW hrt ⟨by rfl, rfl⟩ dX10_place_37
  refine lv_icmp_eq (tgt := 26) hx hb dX10_place_2 (by decide) (fun c_1139 => ?_) (fun c_1139 => ?_)
  · exact J_1142  _ _ _ hW (lv_sub hl [0, 1] rfl)
  · refine lv_aload_n hx hb dX10_place_5 rfl (lv_at hl 0 rfl) ?_
    refine g_get (k := 0) (v := .ref v) C hW 0 rfl rfl jnX10 (by decide) k_fl_X10_10 rfl dX10_place_6 ?_
    refine g_getN (k := 3) (v := .ref vp) (host := RX10) C hW 1 rfl rfl jnX9 (by decide) (List.mem_of_getElem? (i := 5) rfl) rfl dX10_place_9 ?_
    refine lv_iload_n hx hb dX10_place_12 rfl (lv_at hl 1 rfl) ?_
    refine g_fi C hW [2] rfl (g_runV (As := [.int p9]) (rest := []) (wc := [(vp, .inr (4, [.int 7, .int 3, .ref vpc, .int (nI n)]))]) (q0 := 0) (ci := 4) C hW hl (c_X6_has l G vp vpc 7 3 n p9  _) k_ml_X10_161 q_X6_has (by decide) [2] rfl rfl rfl rfl rfl rfl (Nat.le_of_ble_eq_true rfl) dX10_place_13 (by decide)) (fun r_1145 er_1145 => ?_)
    clear hW; intro H locs hW
    refine lv_as (y := bI (okp n p9)) er_1145 ?_
    clear er_1145 r_1145
    refine lv_if_ne (tgt := 26) hx hb dX10_place_16 (by decide) (fun c_1146 => ?_) (fun c_1146 => ?_)
    · exact J_1142  _ _ _ hW (lv_sub hl [0, 1] rfl)
    · exfalso; exact hp.elim (fun q => c_1139 q) (fun q => dd q c_1146)
set_option maxHeartbeats 4000000 in
set_option maxRecDepth 100000 in
theorem c_X10_place_bad (l : Launch) (G : gT) (v vw vc vp vs vn vm vu : Nat) (wide : Int32) (to iv jv rd st ra og : Nat) (k1 k2 ab be bds nos fls : Int32) (vpc n : Nat) (p9 : Int32) (h1 : ¬ p9 = -1) (h2 : okp n p9 = false) : MI l G yX10_place cX10_place 3 .int ({ frames := 1, cells := 0, slots := 0, locals := 21 }) [.ref to, .int p9] [(to, .inr (8, [.ref v, .ref iv, .ref jv, .int k1, .int k2, .ref rd, .ref st, .ref ra, .ref og, .int ab, .int be, .int bds, .int nos, .int fls])), (v, .inr (7, [.int wide, .ref vw, .ref vc, .ref vp, .ref vs, .ref vn, .ref vm, .ref vu])), (vp, .inr (4, [.int 7, .int 3, .ref vpc, .int (nI n)]))] (fun (r : Int32) w1 => ∃ u_ : Unit, (r = (-10)) ∧ w1 = [(to, .inr (8, [.ref v, .ref iv, .ref jv, .int k1, .int k2, .ref rd, .ref st, .ref ra, .ref og, .int ab, .int be, .int (bds + 1), .int nos, .int fls])), (v, .inr (7, [.int wide, .ref vw, .ref vc, .ref vp, .ref vs, .ref vn, .ref vm, .ref vu])), (vp, .inr (4, [.int 7, .int 3, .ref vpc, .int (nI n)]))]) := by
  refine MI.mk (by decide) (Nat.le_of_ble_eq_true rfl) ?_
  intro p_ e_ s_ m_ ar_ be_ me_ cd_ A_ ls C hrt hW hl
  have hx := C.1; have hb := C.2.1; have hown := C.2.2.2.1; have ht := C.2.2.2.2.1
  replace hl : lv_has ls 3 [(0, .ref to), (1, .int p9)] := hl
  generalize hQ : MQ be_ _ ar_ s_ 0 0 A_ = Q
  refine lv_iload_n hx hb dX10_place_0 rfl (lv_at hl 1 rfl) ?_
  refine lv_iconst (v := (-1)) hx hb dX10_place_1 (by decide) ?_
  refine lv_icmp_eq (tgt := 26) hx hb dX10_place_2 (by decide) (fun c_1147 => ?_) (fun c_1147 => ?_)
  · exfalso; exact h1 c_1147
  · refine lv_aload_n hx hb dX10_place_5 rfl (lv_at hl 0 rfl) ?_
    refine g_get (k := 0) (v := .ref v) C hW 0 rfl rfl jnX10 (by decide) k_fl_X10_10 rfl dX10_place_6 ?_
    refine g_getN (k := 3) (v := .ref vp) (host := RX10) C hW 1 rfl rfl jnX9 (by decide) (List.mem_of_getElem? (i := 5) rfl) rfl dX10_place_9 ?_
    refine lv_iload_n hx hb dX10_place_12 rfl (lv_at hl 1 rfl) ?_
    refine g_fi C hW [2] rfl (g_runV (As := [.int p9]) (rest := []) (wc := [(vp, .inr (4, [.int 7, .int 3, .ref vpc, .int (nI n)]))]) (q0 := 0) (ci := 4) C hW hl (c_X6_has l G vp vpc 7 3 n p9  _) k_ml_X10_161 q_X6_has (by decide) [2] rfl rfl rfl rfl rfl rfl (Nat.le_of_ble_eq_true rfl) dX10_place_13 (by decide)) (fun r_1148 er_1148 => ?_)
    clear hW; intro H locs hW
    refine lv_as (y := bI (okp n p9)) er_1148 ?_
    clear er_1148 r_1148
    refine lv_if_ne (tgt := 26) hx hb dX10_place_16 (by decide) (fun c_1149 => ?_) (fun c_1149 => ?_)
    · exfalso; exact dd0 (by first | assumption | exact decide_eq_false (by first | assumption | omega)) c_1149
    · refine lv_aload_n hx hb dX10_place_19 rfl (lv_at hl 0 rfl) ?_
      refine lv_bipush (v := (-10)) hx hb dX10_place_20 (by decide) ?_
      refine g_fiw (wr := [(v, .inr (7, [.int wide, .ref vw, .ref vc, .ref vp, .ref vs, .ref vn, .ref vm, .ref vu])), (vp, .inr (4, [.int 7, .int 3, .ref vpc, .int (nI n)]))]) (ww := fun (u_ : Unit) => [(to, .inr (8, [.ref v, .ref iv, .ref jv, .int k1, .int k2, .ref rd, .ref st, .ref ra, .ref og, .int ab, .int be, .int (bds + 1), .int nos, .int fls]))]) (w2 := fun (u_ : Unit) => [(to, .inr (8, [.ref v, .ref iv, .ref jv, .int k1, .int k2, .ref rd, .ref st, .ref ra, .ref og, .int ab, .int be, .int (bds + 1), .int nos, .int fls])), (v, .inr (7, [.int wide, .ref vw, .ref vc, .ref vp, .ref vs, .ref vn, .ref vm, .ref vu])), (vp, .inr (4, [.int 7, .int 3, .ref vpc, .int (nI n)]))]) C hW [0] [1, 2] [2, 0, 1] rfl rfl (by decide) (by decide) (by decide) (fun _ => rfl) (g_runV (As := [.int (-10)]) (rest := []) (wc := [(to, .inr (8, [.ref v, .ref iv, .ref jv, .int k1, .int k2, .ref rd, .ref st, .ref ra, .ref og, .int ab, .int be, .int bds, .int nos, .int fls]))]) (q0 := 0) (ci := 8) C hW hl (c_X10_refuseBad l G v to iv jv rd st ra og k1 k2 ab be bds nos fls (-10)  _) k_ml_X10_77 q_X10_refuseBad (by decide) [0] rfl rfl rfl rfl rfl rfl (Nat.le_of_ble_eq_true rfl) dX10_place_22 (by decide)) (fun r_1150 _ er_1150 => ?_)
      clear hW H locs; intro H locs hW
      refine lv_as (y := (-10)) er_1150 ?_
      clear er_1150 r_1150
      replace hW : Wd G A_ s_.heap [(to, .inr (8, [.ref v, .ref iv, .ref jv, .int k1, .int k2, .ref rd, .ref st, .ref ra, .ref og, .int ab, .int be, .int (bds + 1), .int nos, .int fls])), (v, .inr (7, [.int wide, .ref vw, .ref vc, .ref vp, .ref vs, .ref vn, .ref vm, .ref vu])), (vp, .inr (4, [.int 7, .int 3, .ref vpc, .int (nI n)]))] H locs := hW
      subst hQ
      exact g_iret (v := (-10)) C hW hrt ⟨(), by rfl, by rfl⟩ dX10_place_25
set_option maxHeartbeats 4000000 in
set_option maxRecDepth 100000 in
theorem c_X10_howMany (l : Launch) (G : gT) (v vw vc vp vs vn vm vu : Nat) (wide : Int32) (to iv jv rd st ra og : Nat) (k1 k2 ab be bds nos fls : Int32) (vpc n : Nat) (pf : Nat → Int32) (ck : Nat → Int32) (vsc sn vnc nn vmc mn vuc u : Nat) (tx dv tq tn : Nat) (tk tok stt en : Int32) (x9 : Int32) (hn : n ≤ 7) : MI l G yX10_howMany cX10_howMany 2 .int ({ frames := 3, cells := 0, slots := 0, locals := 67 }) [.ref to, .int x9] [(to, .inr (8, [.ref v, .ref iv, .ref jv, .int k1, .int k2, .ref rd, .ref st, .ref ra, .ref og, .int ab, .int be, .int bds, .int nos, .int fls])), (v, .inr (7, [.int wide, .ref vw, .ref vc, .ref vp, .ref vs, .ref vn, .ref vm, .ref vu])), (vp, .inr (4, [.int 7, .int 3, .ref vpc, .int (nI n)])), (vpc, .inl (G.2.1, 21, .inl pf)), (vc, .inl (G.2.1, 7, .inl ck)), (vs, .inr (4, [.int 5, .int 3, .ref vsc, .int (nI sn)])), (vn, .inr (4, [.int 6, .int 4, .ref vnc, .int (nI nn)])), (vm, .inr (4, [.int 6, .int 4, .ref vmc, .int (nI mn)])), (vu, .inr (1, [.ref vuc, .int (nI u)])), (rd, .inr (3, [.ref tx, .ref dv, .int tk])), (tx, .inr (6, [.ref tq, .int (nI tn), .int tok, .int stt, .int en]))] (fun (r : Int32) w1 => (r = hmV x9 wide ck pf n sn nn mn u tn) ∧ w1 = [(to, .inr (8, [.ref v, .ref iv, .ref jv, .int k1, .int k2, .ref rd, .ref st, .ref ra, .ref og, .int ab, .int be, .int bds, .int nos, .int fls])), (v, .inr (7, [.int wide, .ref vw, .ref vc, .ref vp, .ref vs, .ref vn, .ref vm, .ref vu])), (vp, .inr (4, [.int 7, .int 3, .ref vpc, .int (nI n)])), (vpc, .inl (G.2.1, 21, .inl pf)), (vc, .inl (G.2.1, 7, .inl ck)), (vs, .inr (4, [.int 5, .int 3, .ref vsc, .int (nI sn)])), (vn, .inr (4, [.int 6, .int 4, .ref vnc, .int (nI nn)])), (vm, .inr (4, [.int 6, .int 4, .ref vmc, .int (nI mn)])), (vu, .inr (1, [.ref vuc, .int (nI u)])), (rd, .inr (3, [.ref tx, .ref dv, .int tk])), (tx, .inr (6, [.ref tq, .int (nI tn), .int tok, .int stt, .int en]))]) := by
  refine MI.mk (by decide) (Nat.le_of_ble_eq_true rfl) ?_
  intro p_ e_ s_ m_ ar_ be_ me_ cd_ A_ ls C hrt hW hl
  have hx := C.1; have hb := C.2.1; have hown := C.2.2.2.1; have ht := C.2.2.2.2.1
  replace hl : lv_has ls 2 [(0, .ref to), (1, .int x9)] := hl
  generalize hQ : MQ be_ _ ar_ s_ 0 0 A_ = Q
  refine lv_iload_n hx hb dX10_howMany_0 rfl (lv_at hl 1 rfl) ?_
  by_cases c_1152 : x9 = 0
  · refine lv_as c_1152 (lv_tableIn (tgt := 48) hx hb dX10_howMany_1 (by decide) (by decide) rfl (by decide) ?_)
    refine lv_aload_n hx hb dX10_howMany_48 rfl (lv_at hl 0 rfl) ?_
    refine g_get (k := 0) (v := .ref v) C hW 0 rfl rfl jnX10 (by decide) k_fl_X10_10 rfl dX10_howMany_49 ?_
    refine g_getN (k := 3) (v := .ref vp) (host := RX10) C hW 1 rfl rfl jnX9 (by decide) (List.mem_of_getElem? (i := 5) rfl) rfl dX10_howMany_52 ?_
    refine g_fi C hW [2] rfl (g_runV (As := []) (rest := []) (wc := [(vp, .inr (4, [.int 7, .int 3, .ref vpc, .int (nI n)]))]) (q0 := 0) (ci := 4) C hW hl (c_X6_size l G vp vpc 7 3 n  _) k_ml_X10_85 q_X6_size (by decide) [2] rfl rfl rfl rfl rfl rfl (Nat.le_of_ble_eq_true rfl) dX10_howMany_55 (by decide)) (fun r_1153 er_1153 => ?_)
    clear hW; intro H locs hW
    refine lv_as (y := nI n) er_1153 ?_
    clear er_1153 r_1153
    subst hQ
    exact g_iret (v := (nI n)) C hW hrt ⟨by (simp only [hmV, c_1152, if_true, if_false, reduceIte] <;> first | rfl | decide | (simp; done)), rfl⟩ dX10_howMany_58
  by_cases c_1154 : x9 = 1
  · refine lv_as c_1154 (lv_tableIn (tgt := 59) hx hb dX10_howMany_1 (by decide) (by decide) rfl (by decide) ?_)
    refine lv_aload_n hx hb dX10_howMany_59 rfl (lv_at hl 0 rfl) ?_
    refine g_get (k := 0) (v := .ref v) C hW 0 rfl rfl jnX10 (by decide) k_fl_X10_10 rfl dX10_howMany_60 ?_
    refine lv_iconst (v := 1) hx hb dX10_howMany_63 (by decide) ?_
    refine g_fi C hW [1, 2, 3] rfl (g_runV (As := [.int 1]) (rest := []) (wc := [(v, .inr (7, [.int wide, .ref vw, .ref vc, .ref vp, .ref vs, .ref vn, .ref vm, .ref vu])), (vp, .inr (4, [.int 7, .int 3, .ref vpc, .int (nI n)])), (vpc, .inl (G.2.1, 21, .inl pf))]) (q0 := 0) (ci := 7) C hW hl (c_X9_playersOn l G v vw vc vp vs vn vm vu wide vpc n pf 1 (by first | assumption | omega) _) k_ml_X10_232 q_X9_playersOn (by decide) [1, 2, 3] rfl rfl rfl rfl rfl rfl (Nat.le_of_ble_eq_true rfl) dX10_howMany_64 (by decide)) (fun r_1155 er_1155 => ?_)
    clear hW; intro H locs hW
    refine lv_as (y := orF (fun i => decide (pf (i * 3 + 1) = 1)) n) er_1155 ?_
    clear er_1155 r_1155
    refine g_fi C hW [] rfl (g_runS (As := [.int (orF (fun i => decide (pf (i * 3 + 1) = 1)) n)]) (rest := []) (wc := []) C hW hl (c_J6_bitCount_0f7a4 l G (orF (fun i => decide (pf (i * 3 + 1) = 1)) n)  _) k_ml_X10_248 q_J6_bitCount_0f7a4 (by decide) [] rfl rfl rfl rfl (Nat.le_of_ble_eq_true rfl) dX10_howMany_67 (by decide)) (fun r_1156 er_1156 => ?_)
    clear hW H locs; intro H locs hW
    refine lv_as (y := bc (orF (fun i => decide (pf (i * 3 + 1) = 1)) n)) er_1156 ?_
    clear er_1156 r_1156
    subst hQ
    exact g_iret (v := (bc (orF (fun i => decide (pf (i * 3 + 1) = 1)) n))) C hW hrt ⟨by (simp only [hmV, c_1152, c_1154, if_true, if_false, reduceIte] <;> first | rfl | decide | (simp; done)), rfl⟩ dX10_howMany_70
  by_cases c_1157 : x9 = 2
  · refine lv_as c_1157 (lv_tableIn (tgt := 71) hx hb dX10_howMany_1 (by decide) (by decide) rfl (by decide) ?_)
    refine lv_aload_n hx hb dX10_howMany_71 rfl (lv_at hl 0 rfl) ?_
    refine g_get (k := 0) (v := .ref v) C hW 0 rfl rfl jnX10 (by decide) k_fl_X10_10 rfl dX10_howMany_72 ?_
    refine g_fi C hW [1, 4] rfl (g_runV (As := []) (rest := []) (wc := [(v, .inr (7, [.int wide, .ref vw, .ref vc, .ref vp, .ref vs, .ref vn, .ref vm, .ref vu])), (vc, .inl (G.2.1, 7, .inl ck))]) (q0 := 0) (ci := 7) C hW hl (c_X9_hour l G v vw vc vp vs vn vm vu wide ck  _) k_ml_X10_192 q_X9_hour (by decide) [1, 4] rfl rfl rfl rfl rfl rfl (Nat.le_of_ble_eq_true rfl) dX10_howMany_75 (by decide)) (fun r_1158 er_1158 => ?_)
    clear hW; intro H locs hW
    refine lv_as (y := ck 6) er_1158 ?_
    clear er_1158 r_1158
    subst hQ
    exact g_iret (v := (ck 6)) C hW hrt ⟨by (simp only [hmV, c_1152, c_1154, c_1157, if_true, if_false, reduceIte] <;> first | rfl | decide | (simp; done)), rfl⟩ dX10_howMany_78
  by_cases c_1159 : x9 = 3
  · refine lv_as c_1159 (lv_tableIn (tgt := 79) hx hb dX10_howMany_1 (by decide) (by decide) rfl (by decide) ?_)
    refine lv_aload_n hx hb dX10_howMany_79 rfl (lv_at hl 0 rfl) ?_
    refine g_get (k := 0) (v := .ref v) C hW 0 rfl rfl jnX10 (by decide) k_fl_X10_10 rfl dX10_howMany_80 ?_
    refine g_getN (k := 0) (v := .int wide) (host := RX10) C hW 1 rfl rfl jnX9 (by decide) (List.mem_of_getElem? (i := 0) rfl) rfl dX10_howMany_83 ?_
    subst hQ
    exact g_iret (v := wide) C hW hrt ⟨by (simp only [hmV, c_1152, c_1154, c_1157, c_1159, if_true, if_false, reduceIte] <;> first | rfl | decide | (simp; done)), rfl⟩ dX10_howMany_86
  by_cases c_1160 : x9 = 4
  · refine lv_as c_1160 (lv_tableIn (tgt := 87) hx hb dX10_howMany_1 (by decide) (by decide) rfl (by decide) ?_)
    refine lv_aload_n hx hb dX10_howMany_87 rfl (lv_at hl 0 rfl) ?_
    refine g_get (k := 0) (v := .ref v) C hW 0 rfl rfl jnX10 (by decide) k_fl_X10_10 rfl dX10_howMany_88 ?_
    refine g_getN (k := 4) (v := .ref vs) (host := RX10) C hW 1 rfl rfl jnX9 (by decide) (List.mem_of_getElem? (i := 9) rfl) rfl dX10_howMany_91 ?_
    refine g_fi C hW [5] rfl (g_runV (As := []) (rest := []) (wc := [(vs, .inr (4, [.int 5, .int 3, .ref vsc, .int (nI sn)]))]) (q0 := 0) (ci := 4) C hW hl (c_X6_size l G vs vsc 5 3 sn  _) k_ml_X10_85 q_X6_size (by decide) [5] rfl rfl rfl rfl rfl rfl (Nat.le_of_ble_eq_true rfl) dX10_howMany_94 (by decide)) (fun r_1161 er_1161 => ?_)
    clear hW; intro H locs hW
    refine lv_as (y := nI sn) er_1161 ?_
    clear er_1161 r_1161
    subst hQ
    exact g_iret (v := (nI sn)) C hW hrt ⟨by (simp only [hmV, c_1152, c_1154, c_1157, c_1159, c_1160, if_true, if_false, reduceIte] <;> first | rfl | decide | (simp; done)), rfl⟩ dX10_howMany_97
  by_cases c_1162 : x9 = 5
  · refine lv_as c_1162 (lv_tableIn (tgt := 98) hx hb dX10_howMany_1 (by decide) (by decide) rfl (by decide) ?_)
    refine lv_aload_n hx hb dX10_howMany_98 rfl (lv_at hl 0 rfl) ?_
    refine g_get (k := 0) (v := .ref v) C hW 0 rfl rfl jnX10 (by decide) k_fl_X10_10 rfl dX10_howMany_99 ?_
    refine g_getN (k := 5) (v := .ref vn) (host := RX10) C hW 1 rfl rfl jnX9 (by decide) (List.mem_of_getElem? (i := 11) rfl) rfl dX10_howMany_102 ?_
    refine g_fi C hW [6] rfl (g_runV (As := []) (rest := []) (wc := [(vn, .inr (4, [.int 6, .int 4, .ref vnc, .int (nI nn)]))]) (q0 := 0) (ci := 4) C hW hl (c_X6_size l G vn vnc 6 4 nn  _) k_ml_X10_85 q_X6_size (by decide) [6] rfl rfl rfl rfl rfl rfl (Nat.le_of_ble_eq_true rfl) dX10_howMany_105 (by decide)) (fun r_1163 er_1163 => ?_)
    clear hW; intro H locs hW
    refine lv_as (y := nI nn) er_1163 ?_
    clear er_1163 r_1163
    subst hQ
    exact g_iret (v := (nI nn)) C hW hrt ⟨by (simp only [hmV, c_1152, c_1154, c_1157, c_1159, c_1160, c_1162, if_true, if_false, reduceIte] <;> first | rfl | decide | (simp; done)), rfl⟩ dX10_howMany_108
  by_cases c_1164 : x9 = 6
  · refine lv_as c_1164 (lv_tableIn (tgt := 109) hx hb dX10_howMany_1 (by decide) (by decide) rfl (by decide) ?_)
    refine lv_aload_n hx hb dX10_howMany_109 rfl (lv_at hl 0 rfl) ?_
    refine g_get (k := 0) (v := .ref v) C hW 0 rfl rfl jnX10 (by decide) k_fl_X10_10 rfl dX10_howMany_110 ?_
    refine g_getN (k := 6) (v := .ref vm) (host := RX10) C hW 1 rfl rfl jnX9 (by decide) (List.mem_of_getElem? (i := 13) rfl) rfl dX10_howMany_113 ?_
    refine g_fi C hW [7] rfl (g_runV (As := []) (rest := []) (wc := [(vm, .inr (4, [.int 6, .int 4, .ref vmc, .int (nI mn)]))]) (q0 := 0) (ci := 4) C hW hl (c_X6_size l G vm vmc 6 4 mn  _) k_ml_X10_85 q_X6_size (by decide) [7] rfl rfl rfl rfl rfl rfl (Nat.le_of_ble_eq_true rfl) dX10_howMany_116 (by decide)) (fun r_1165 er_1165 => ?_)
    clear hW; intro H locs hW
    refine lv_as (y := nI mn) er_1165 ?_
    clear er_1165 r_1165
    subst hQ
    exact g_iret (v := (nI mn)) C hW hrt ⟨by (simp only [hmV, c_1152, c_1154, c_1157, c_1159, c_1160, c_1162, c_1164, if_true, if_false, reduceIte] <;> first | rfl | decide | (simp; done)), rfl⟩ dX10_howMany_119
  by_cases c_1166 : x9 = 7
  · refine lv_as c_1166 (lv_tableIn (tgt := 120) hx hb dX10_howMany_1 (by decide) (by decide) rfl (by decide) ?_)
    refine lv_aload_n hx hb dX10_howMany_120 rfl (lv_at hl 0 rfl) ?_
    refine g_get (k := 0) (v := .ref v) C hW 0 rfl rfl jnX10 (by decide) k_fl_X10_10 rfl dX10_howMany_121 ?_
    refine g_getN (k := 7) (v := .ref vu) (host := RX10) C hW 1 rfl rfl jnX9 (by decide) (List.mem_of_getElem? (i := 14) rfl) rfl dX10_howMany_124 ?_
    refine g_fi C hW [8] rfl (g_runV (As := []) (rest := []) (wc := [(vu, .inr (1, [.ref vuc, .int (nI u)]))]) (q0 := 0) (ci := 1) C hW hl (c_X3_size l G vu vuc u  _) k_ml_X10_195 q_X3_size (by decide) [8] rfl rfl rfl rfl rfl rfl (Nat.le_of_ble_eq_true rfl) dX10_howMany_127 (by decide)) (fun r_1167 er_1167 => ?_)
    clear hW; intro H locs hW
    refine lv_as (y := nI u) er_1167 ?_
    clear er_1167 r_1167
    subst hQ
    exact g_iret (v := (nI u)) C hW hrt ⟨by (simp only [hmV, c_1152, c_1154, c_1157, c_1159, c_1160, c_1162, c_1164, c_1166, if_true, if_false, reduceIte] <;> first | rfl | decide | (simp; done)), rfl⟩ dX10_howMany_130
  refine lv_tableOut (tgt := 131) hx hb dX10_howMany_1 (by have q0 := sw_ne (z := 0) c_1152 (by decide); have q1 := sw_ne (z := 1) c_1154 (by decide); have q2 := sw_ne (z := 2) c_1157 (by decide); have q3 := sw_ne (z := 3) c_1159 (by decide); have q4 := sw_ne (z := 4) c_1160 (by decide); have q5 := sw_ne (z := 5) c_1162 (by decide); have q6 := sw_ne (z := 6) c_1164 (by decide); have q7 := sw_ne (z := 7) c_1166 (by decide); omega) (by decide) ?_
  refine lv_aload_n hx hb dX10_howMany_131 rfl (lv_at hl 0 rfl) ?_
  refine g_get (k := 5) (v := .ref rd) C hW 0 rfl rfl jnX10 (by decide) k_fl_X10_32 rfl dX10_howMany_132 ?_
  refine g_getN (k := 0) (v := .ref tx) (host := RX10) C hW 9 rfl rfl jnX5 (by decide) (List.mem_of_getElem? (i := 15) rfl) rfl dX10_howMany_135 ?_
  refine g_fi C hW [10] rfl (g_runV (As := []) (rest := []) (wc := [(tx, .inr (6, [.ref tq, .int (nI tn), .int tok, .int stt, .int en]))]) (q0 := 0) (ci := 6) C hW hl (c_X8_size l G tx tq tn tok stt en  _) k_ml_X10_330 q_X8_size (by decide) [10] rfl rfl rfl rfl rfl rfl (Nat.le_of_ble_eq_true rfl) dX10_howMany_138 (by decide)) (fun r_1168 er_1168 => ?_)
  clear hW; intro H locs hW
  refine lv_as (y := nI tn) er_1168 ?_
  clear er_1168 r_1168
  subst hQ
  exact g_iret (v := (nI tn)) C hW hrt ⟨by (simp only [hmV, c_1152, c_1154, c_1157, c_1159, c_1160, c_1162, c_1164, c_1166, if_true, if_false, reduceIte] <;> first | rfl | decide | (simp; done)), rfl⟩ dX10_howMany_141
set_option maxHeartbeats 4000000 in
set_option maxRecDepth 100000 in
theorem c_X10_count_ok (l : Launch) (G : gT) (v vw vc vp vs vn vm vu : Nat) (wide : Int32) (to iv jv rd st ra og : Nat) (k1 k2 ab be bds nos fls : Int32) (vpc n : Nat) (pf : Nat → Int32) (ck : Nat → Int32) (vsc sn vnc nn vmc mn vuc u : Nat) (tx dv tq tn : Nat) (tk tok stt en : Int32) (x9 : Int32) (hn : n ≤ 7) (h1 : iw x9 0 8 = true) : MI l G yX10_count cX10_count 2 .int ({ frames := 4, cells := 0, slots := 0, locals := 88 }) [.ref to, .int x9] [(to, .inr (8, [.ref v, .ref iv, .ref jv, .int k1, .int k2, .ref rd, .ref st, .ref ra, .ref og, .int ab, .int be, .int bds, .int nos, .int fls])), (v, .inr (7, [.int wide, .ref vw, .ref vc, .ref vp, .ref vs, .ref vn, .ref vm, .ref vu])), (vp, .inr (4, [.int 7, .int 3, .ref vpc, .int (nI n)])), (vpc, .inl (G.2.1, 21, .inl pf)), (vc, .inl (G.2.1, 7, .inl ck)), (vs, .inr (4, [.int 5, .int 3, .ref vsc, .int (nI sn)])), (vn, .inr (4, [.int 6, .int 4, .ref vnc, .int (nI nn)])), (vm, .inr (4, [.int 6, .int 4, .ref vmc, .int (nI mn)])), (vu, .inr (1, [.ref vuc, .int (nI u)])), (rd, .inr (3, [.ref tx, .ref dv, .int tk])), (tx, .inr (6, [.ref tq, .int (nI tn), .int tok, .int stt, .int en]))] (fun (r : Int32) w1 => (r = hmV x9 wide ck pf n sn nn mn u tn) ∧ w1 = [(to, .inr (8, [.ref v, .ref iv, .ref jv, .int k1, .int k2, .ref rd, .ref st, .ref ra, .ref og, .int ab, .int be, .int bds, .int nos, .int fls])), (v, .inr (7, [.int wide, .ref vw, .ref vc, .ref vp, .ref vs, .ref vn, .ref vm, .ref vu])), (vp, .inr (4, [.int 7, .int 3, .ref vpc, .int (nI n)])), (vpc, .inl (G.2.1, 21, .inl pf)), (vc, .inl (G.2.1, 7, .inl ck)), (vs, .inr (4, [.int 5, .int 3, .ref vsc, .int (nI sn)])), (vn, .inr (4, [.int 6, .int 4, .ref vnc, .int (nI nn)])), (vm, .inr (4, [.int 6, .int 4, .ref vmc, .int (nI mn)])), (vu, .inr (1, [.ref vuc, .int (nI u)])), (rd, .inr (3, [.ref tx, .ref dv, .int tk])), (tx, .inr (6, [.ref tq, .int (nI tn), .int tok, .int stt, .int en]))]) := by
  refine MI.mk (by decide) (Nat.le_of_ble_eq_true rfl) ?_
  intro p_ e_ s_ m_ ar_ be_ me_ cd_ A_ ls C hrt hW hl
  have hx := C.1; have hb := C.2.1; have hown := C.2.2.2.1; have ht := C.2.2.2.2.1
  replace hl : lv_has ls 2 [(0, .ref to), (1, .int x9)] := hl
  generalize hQ : MQ be_ _ ar_ s_ 0 0 A_ = Q
  refine lv_iload_n hx hb dX10_count_0 rfl (lv_at hl 1 rfl) ?_
  refine lv_iconst (v := 0) hx hb dX10_count_1 (by decide) ?_
  refine lv_bipush (v := 8) hx hb dX10_count_2 (by decide) ?_
  refine g_fi C hW [] rfl (g_runS (As := [.int x9, .int 0, .int 8]) (rest := []) (wc := []) C hW hl (c_X10_isWithin l G x9 0 8  _) k_ml_X10_73 q_X10_isWithin (by decide) [] rfl rfl rfl rfl (Nat.le_of_ble_eq_true rfl) dX10_count_4 (by decide)) (fun r_1169 er_1169 => ?_)
  clear hW; intro H locs hW
  refine lv_as (y := bI (iw x9 0 8)) er_1169 ?_
  clear er_1169 r_1169
  refine lv_if_eq (tgt := 18) hx hb dX10_count_7 (by decide) (fun c_1170 => ?_) (fun c_1170 => ?_)
  · exfalso; exact dd (by first | assumption | exact okp_nI (by omega) (by assumption) | exact decide_eq_true (by first | assumption | omega)) c_1170
  · refine lv_aload_n hx hb dX10_count_10 rfl (lv_at hl 0 rfl) ?_
    refine lv_iload_n hx hb dX10_count_11 rfl (lv_at hl 1 rfl) ?_
    refine g_fi C hW [0, 1, 2, 3, 4, 5, 6, 7, 8, 9, 10] rfl (g_runV (As := [.int x9]) (rest := []) (wc := [(to, .inr (8, [.ref v, .ref iv, .ref jv, .int k1, .int k2, .ref rd, .ref st, .ref ra, .ref og, .int ab, .int be, .int bds, .int nos, .int fls])), (v, .inr (7, [.int wide, .ref vw, .ref vc, .ref vp, .ref vs, .ref vn, .ref vm, .ref vu])), (vp, .inr (4, [.int 7, .int 3, .ref vpc, .int (nI n)])), (vpc, .inl (G.2.1, 21, .inl pf)), (vc, .inl (G.2.1, 7, .inl ck)), (vs, .inr (4, [.int 5, .int 3, .ref vsc, .int (nI sn)])), (vn, .inr (4, [.int 6, .int 4, .ref vnc, .int (nI nn)])), (vm, .inr (4, [.int 6, .int 4, .ref vmc, .int (nI mn)])), (vu, .inr (1, [.ref vuc, .int (nI u)])), (rd, .inr (3, [.ref tx, .ref dv, .int tk])), (tx, .inr (6, [.ref tq, .int (nI tn), .int tok, .int stt, .int en]))]) (q0 := 0) (ci := 8) C hW hl (c_X10_howMany l G v vw vc vp vs vn vm vu wide to iv jv rd st ra og k1 k2 ab be bds nos fls vpc n pf ck vsc sn vnc nn vmc mn vuc u tx dv tq tn tk tok stt en x9 (by first | assumption | omega) _) k_ml_X10_313 q_X10_howMany (by decide) [0, 1, 2, 3, 4, 5, 6, 7, 8, 9, 10] rfl rfl rfl rfl rfl rfl (Nat.le_of_ble_eq_true rfl) dX10_count_12 (by decide)) (fun r_1171 er_1171 => ?_)
    clear hW H locs; intro H locs hW
    refine lv_as (y := hmV x9 wide ck pf n sn nn mn u tn) er_1171 ?_
    clear er_1171 r_1171
    refine lv_goto (tgt := 24) hx hb dX10_count_15 (by decide) ?_
    subst hQ
    exact g_iret (v := (hmV x9 wide ck pf n sn nn mn u tn)) C hW hrt ⟨by rfl, rfl⟩ dX10_count_24
set_option maxHeartbeats 4000000 in
set_option maxRecDepth 100000 in
theorem c_X10_count_bad (l : Launch) (G : gT) (v : Nat) (to iv jv rd st ra og : Nat) (k1 k2 ab be bds nos fls : Int32) (x9 : Int32) (hbad : iw x9 0 8 = false) : MI l G yX10_count cX10_count 2 .int ({ frames := 1, cells := 0, slots := 0, locals := 22 }) [.ref to, .int x9] [(to, .inr (8, [.ref v, .ref iv, .ref jv, .int k1, .int k2, .ref rd, .ref st, .ref ra, .ref og, .int ab, .int be, .int bds, .int nos, .int fls]))] (fun (r : Int32) w1 => ∃ u_ : Unit, (r = (-2)) ∧ w1 = [(to, .inr (8, [.ref v, .ref iv, .ref jv, .int k1, .int k2, .ref rd, .ref st, .ref ra, .ref og, .int ab, .int be, .int (bds + 1), .int nos, .int fls]))]) := by
  refine MI.mk (by decide) (Nat.le_of_ble_eq_true rfl) ?_
  intro p_ e_ s_ m_ ar_ be_ me_ cd_ A_ ls C hrt hW hl
  have hx := C.1; have hb := C.2.1; have hown := C.2.2.2.1; have ht := C.2.2.2.2.1
  replace hl : lv_has ls 2 [(0, .ref to), (1, .int x9)] := hl
  generalize hQ : MQ be_ _ ar_ s_ 0 0 A_ = Q
  refine lv_iload_n hx hb dX10_count_0 rfl (lv_at hl 1 rfl) ?_
  refine lv_iconst (v := 0) hx hb dX10_count_1 (by decide) ?_
  refine lv_bipush (v := 8) hx hb dX10_count_2 (by decide) ?_
  refine g_fi C hW [] rfl (g_runS (As := [.int x9, .int 0, .int 8]) (rest := []) (wc := []) C hW hl (c_X10_isWithin l G x9 0 8  _) k_ml_X10_73 q_X10_isWithin (by decide) [] rfl rfl rfl rfl (Nat.le_of_ble_eq_true rfl) dX10_count_4 (by decide)) (fun r_1172 er_1172 => ?_)
  clear hW; intro H locs hW
  refine lv_as (y := bI (iw x9 0 8)) er_1172 ?_
  clear er_1172 r_1172
  refine lv_if_eq (tgt := 18) hx hb dX10_count_7 (by decide) (fun c_1173 => ?_) (fun c_1173 => ?_)
  · refine lv_aload_n hx hb dX10_count_18 rfl (lv_at hl 0 rfl) ?_
    refine lv_bipush (v := (-2)) hx hb dX10_count_19 (by decide) ?_
    refine g_fiw (wr := []) (ww := fun (u_ : Unit) => [(to, .inr (8, [.ref v, .ref iv, .ref jv, .int k1, .int k2, .ref rd, .ref st, .ref ra, .ref og, .int ab, .int be, .int (bds + 1), .int nos, .int fls]))]) (w2 := fun (u_ : Unit) => [(to, .inr (8, [.ref v, .ref iv, .ref jv, .int k1, .int k2, .ref rd, .ref st, .ref ra, .ref og, .int ab, .int be, .int (bds + 1), .int nos, .int fls]))]) C hW [0] [] [0] rfl rfl (by decide) (by decide) (by decide) (fun _ => rfl) (g_runV (As := [.int (-2)]) (rest := []) (wc := [(to, .inr (8, [.ref v, .ref iv, .ref jv, .int k1, .int k2, .ref rd, .ref st, .ref ra, .ref og, .int ab, .int be, .int bds, .int nos, .int fls]))]) (q0 := 0) (ci := 8) C hW hl (c_X10_refuseBad l G v to iv jv rd st ra og k1 k2 ab be bds nos fls (-2)  _) k_ml_X10_77 q_X10_refuseBad (by decide) [0] rfl rfl rfl rfl rfl rfl (Nat.le_of_ble_eq_true rfl) dX10_count_21 (by decide)) (fun r_1174 _ er_1174 => ?_)
    clear hW H locs; intro H locs hW
    refine lv_as (y := (-2)) er_1174 ?_
    clear er_1174 r_1174
    replace hW : Wd G A_ s_.heap [(to, .inr (8, [.ref v, .ref iv, .ref jv, .int k1, .int k2, .ref rd, .ref st, .ref ra, .ref og, .int ab, .int be, .int (bds + 1), .int nos, .int fls]))] H locs := hW
    subst hQ
    exact g_iret (v := (-2)) C hW hrt ⟨(), by rfl, by rfl⟩ dX10_count_24
  · exfalso; simp [bI_ne.mp c_1173, if_true, if_false, reduceIte, Bool.false_eq_true] at hbad
set_option maxHeartbeats 4000000 in
set_option maxRecDepth 100000 in
theorem c_X10_digest (l : Launch) (G : gT) (v vw vc vp vpc vs vsc vn vnc vm vmc vu vuc : Nat) (wide : Int32) (wd ck : Nat → Int32) (n : Nat) (pf : Nat → Int32) (sn : Nat) (sf : Nat → Int32) (nn : Nat) (nf : Nat → Int32) (mn : Nat) (mf : Nat → Int32) (u : Nat) (uf : Nat → Int32) (to iv jv rd st ra og : Nat) (k1 k2 ab be bds nos fls : Int32) (tx dv tq tn : Nat) (tk tok stt en : Int32) (hn : n ≤ 7) (hs : sn ≤ 5) (ho : nn ≤ 6) (hm : mn ≤ 6) (hu : u ≤ 8) : ML l G yX10_digest cX10_digest 4 ({ frames := 4, cells := 0, slots := 0, locals := 88 }) [.ref to] [(to, .inr (8, [.ref v, .ref iv, .ref jv, .int k1, .int k2, .ref rd, .ref st, .ref ra, .ref og, .int ab, .int be, .int bds, .int nos, .int fls])), (v, .inr (7, [.int wide, .ref vw, .ref vc, .ref vp, .ref vs, .ref vn, .ref vm, .ref vu])), (vw, .inl (G.2.1, 6, .inl wd)), (vc, .inl (G.2.1, 7, .inl ck)), (vp, .inr (4, [.int 7, .int 3, .ref vpc, .int (nI n)])), (vpc, .inl (G.2.1, 21, .inl pf)), (vs, .inr (4, [.int 5, .int 3, .ref vsc, .int (nI sn)])), (vsc, .inl (G.2.1, 15, .inl sf)), (vn, .inr (4, [.int 6, .int 4, .ref vnc, .int (nI nn)])), (vnc, .inl (G.2.1, 24, .inl nf)), (vm, .inr (4, [.int 6, .int 4, .ref vmc, .int (nI mn)])), (vmc, .inl (G.2.1, 24, .inl mf)), (vu, .inr (1, [.ref vuc, .int (nI u)])), (vuc, .inl (G.2.1, 56, .inl uf)), (rd, .inr (3, [.ref tx, .ref dv, .int tk])), (tx, .inr (6, [.ref tq, .int (nI tn), .int tok, .int stt, .int en]))] (fun (r : Int64) w1 => (r = 31 * (31 * fd (fd (fd (fd (fd (fd (fd 1663 (fun i => hmV (nI i) wide ck pf n sn nn mn u tn) 9) ck 6) wd 6) pf (n * 3)) sf (sn * 3)) nf (nn * 4)) mf (mn * 4) + ab.toInt64) + be.toInt64) ∧ w1 = [(to, .inr (8, [.ref v, .ref iv, .ref jv, .int k1, .int k2, .ref rd, .ref st, .ref ra, .ref og, .int ab, .int be, .int bds, .int nos, .int fls])), (v, .inr (7, [.int wide, .ref vw, .ref vc, .ref vp, .ref vs, .ref vn, .ref vm, .ref vu])), (vw, .inl (G.2.1, 6, .inl wd)), (vc, .inl (G.2.1, 7, .inl ck)), (vp, .inr (4, [.int 7, .int 3, .ref vpc, .int (nI n)])), (vpc, .inl (G.2.1, 21, .inl pf)), (vs, .inr (4, [.int 5, .int 3, .ref vsc, .int (nI sn)])), (vsc, .inl (G.2.1, 15, .inl sf)), (vn, .inr (4, [.int 6, .int 4, .ref vnc, .int (nI nn)])), (vnc, .inl (G.2.1, 24, .inl nf)), (vm, .inr (4, [.int 6, .int 4, .ref vmc, .int (nI mn)])), (vmc, .inl (G.2.1, 24, .inl mf)), (vu, .inr (1, [.ref vuc, .int (nI u)])), (vuc, .inl (G.2.1, 56, .inl uf)), (rd, .inr (3, [.ref tx, .ref dv, .int tk])), (tx, .inr (6, [.ref tq, .int (nI tn), .int tok, .int stt, .int en]))]) := by
  refine ML.mk (by decide) (Nat.le_of_ble_eq_true rfl) ?_
  intro p_ e_ s_ m_ ar_ be_ me_ cd_ A_ ls C hrt hW hl
  have hx := C.1; have hb := C.2.1; have hown := C.2.2.2.1; have ht := C.2.2.2.2.1
  replace hl : lv_has ls 4 [(0, .ref to)] := hl
  generalize hQ : MQ be_ _ ar_ s_ 0 0 A_ = Q
  refine lv_ldc2 (v := 1663) hx hb hown (ht _ k_cg_X10_316) dX10_digest_0 ?_
  refine lv_lstore_n (lv' := [(1, .long 1663), (0, .ref to)]) hx hb dX10_digest_3 rfl hl (by decide) rfl ?_
  clear hl ls; intro ls hl
  refine lv_iconst (v := 0) hx hb dX10_digest_4 (by decide) ?_
  refine lv_istore_n (lv' := [(3, .int 0), (1, .long 1663), (0, .ref to)]) hx hb dX10_digest_5 rfl hl (by decide) rfl ?_
  clear hl ls; intro ls hl
  have K_1176 : ∀ (n_ : Nat) (j : Nat) (x_1177 : Int32) (x_1178 : Int64) (_ : x_1177 = nI j) (_ : x_1178 = fd 1663 (fun i => hmV (nI i) wide ck pf n sn nn mn u tn) j) (_ : j ≤ 9) (_ : 9 - j < n_) (H : Heap) (locs : List Loc) (ls : Array Slot), Wd G A_ s_.heap [(to, .inr (8, [.ref v, .ref iv, .ref jv, .int k1, .int k2, .ref rd, .ref st, .ref ra, .ref og, .int ab, .int be, .int bds, .int nos, .int fls])), (v, .inr (7, [.int wide, .ref vw, .ref vc, .ref vp, .ref vs, .ref vn, .ref vm, .ref vu])), (vw, .inl (G.2.1, 6, .inl wd)), (vc, .inl (G.2.1, 7, .inl ck)), (vp, .inr (4, [.int 7, .int 3, .ref vpc, .int (nI n)])), (vpc, .inl (G.2.1, 21, .inl pf)), (vs, .inr (4, [.int 5, .int 3, .ref vsc, .int (nI sn)])), (vsc, .inl (G.2.1, 15, .inl sf)), (vn, .inr (4, [.int 6, .int 4, .ref vnc, .int (nI nn)])), (vnc, .inl (G.2.1, 24, .inl nf)), (vm, .inr (4, [.int 6, .int 4, .ref vmc, .int (nI mn)])), (vmc, .inl (G.2.1, 24, .inl mf)), (vu, .inr (1, [.ref vuc, .int (nI u)])), (vuc, .inl (G.2.1, 56, .inl uf)), (rd, .inr (3, [.ref tx, .ref dv, .int tk])), (tx, .inr (6, [.ref tq, .int (nI tn), .int tok, .int stt, .int en]))] H locs → lv_has ls 4 [(3, .int x_1177), (1, .long x_1178), (0, .ref to)] → W p_ l e_ ({ frames := 4, cells := 0, slots := 0, locals := 88 }) s_ m_ ar_ be_ me_ cd_ H locs 0 0 Q (F0 m_ 6 ls []) := by
    intro n_
    induction n_ with
    | zero => intro j x_1177 x_1178 ex_1177 ex_1178 hj hm_; exact absurd hm_ (Nat.not_lt_zero _)
    | succ n_ ihK_1176 =>
      intro j x_1177 x_1178 ex_1177 ex_1178 hj hm_ H locs ls hW hl
      subst ex_1177
      subst ex_1178
      refine lv_iload_n hx hb dX10_digest_6 rfl (lv_at hl 0 rfl) ?_
      refine lv_bipush (v := 8) hx hb dX10_digest_7 (by decide) ?_
      refine lv_icmp_gt (tgt := 31) hx hb dX10_digest_9 (by decide) (fun c_1179 => ?_) (fun c_1179 => ?_)
      · replace c_1179 := Int32.not_le.mpr c_1179
        have c_1179n : ¬ j ≤ 8 := fun q => c_1179 ((nI_leI (a := j) (b := 8) (by omega) (by omega)).mpr q)
        obtain rfl : j = 9 := by omega
        refine lv_aload_n hx hb dX10_digest_31 rfl (lv_at hl 2 rfl) ?_
        refine g_get (k := 0) (v := .ref v) C hW 0 rfl rfl jnX10 (by decide) k_fl_X10_10 rfl dX10_digest_32 ?_
        refine lv_lload_n hx hb dX10_digest_35 rfl (lv_at hl 1 rfl) ?_
        refine g_fl C hW [1, 2, 3, 4, 5, 6, 7, 8, 9, 10, 11, 12, 13] rfl (g_runV (As := [.long (fd 1663 (fun i => hmV (nI i) wide ck pf n sn nn mn u tn) 9)]) (rest := []) (wc := [(v, .inr (7, [.int wide, .ref vw, .ref vc, .ref vp, .ref vs, .ref vn, .ref vm, .ref vu])), (vw, .inl (G.2.1, 6, .inl wd)), (vc, .inl (G.2.1, 7, .inl ck)), (vp, .inr (4, [.int 7, .int 3, .ref vpc, .int (nI n)])), (vpc, .inl (G.2.1, 21, .inl pf)), (vs, .inr (4, [.int 5, .int 3, .ref vsc, .int (nI sn)])), (vsc, .inl (G.2.1, 15, .inl sf)), (vn, .inr (4, [.int 6, .int 4, .ref vnc, .int (nI nn)])), (vnc, .inl (G.2.1, 24, .inl nf)), (vm, .inr (4, [.int 6, .int 4, .ref vmc, .int (nI mn)])), (vmc, .inl (G.2.1, 24, .inl mf)), (vu, .inr (1, [.ref vuc, .int (nI u)])), (vuc, .inl (G.2.1, 56, .inl uf))]) (q0 := 0) (ci := 7) C hW hl (c_X9_foldInto l G v vw vc vp vpc vs vsc vn vnc vm vmc vu vuc wide wd ck n pf sn sf nn nf mn mf u uf (fd 1663 (fun i => hmV (nI i) wide ck pf n sn nn mn u tn) 9) (by first | assumption | omega) (by first | assumption | omega) (by first | assumption | omega) (by first | assumption | omega) (by first | assumption | omega) _) k_ml_X10_320 q_X9_foldInto (by decide) [1, 2, 3, 4, 5, 6, 7, 8, 9, 10, 11, 12, 13] rfl rfl rfl rfl rfl rfl (Nat.le_of_ble_eq_true rfl) dX10_digest_36 (by decide)) (fun r_1181 er_1181 => ?_)
        clear hW H locs; intro H locs hW
        refine lv_asl (y := fd (fd (fd (fd (fd (fd (fd 1663 (fun i => hmV (nI i) wide ck pf n sn nn mn u tn) 9) ck 6) wd 6) pf (n * 3)) sf (sn * 3)) nf (nn * 4)) mf (mn * 4)) er_1181 ?_
        clear er_1181 r_1181
        refine lv_lstore_n (lv' := [(1, .long (fd (fd (fd (fd (fd (fd (fd 1663 (fun i => hmV (nI i) wide ck pf n sn nn mn u tn) 9) ck 6) wd 6) pf (n * 3)) sf (sn * 3)) nf (nn * 4)) mf (mn * 4))), (3, .int (nI 9)), (0, .ref to)]) hx hb dX10_digest_39 rfl hl (by decide) rfl ?_
        clear hl ls; intro ls hl
        refine lv_ldc2 (v := 31) hx hb hown (ht _ k_cg_X10_318) dX10_digest_40 ?_
        refine lv_lload_n hx hb dX10_digest_43 rfl (lv_at hl 0 rfl) ?_
        refine lv_lmul hx hb dX10_digest_44 ?_
        refine lv_aload_n hx hb dX10_digest_45 rfl (lv_at hl 2 rfl) ?_
        refine g_get (k := 9) (v := .int ab) C hW 0 rfl rfl jnX10 (by decide) k_fl_X10_57 rfl dX10_digest_46 ?_
        refine lv_i2l hx hb dX10_digest_49 rfl ?_
        refine lv_ladd hx hb dX10_digest_50 ?_
        refine lv_lstore_n (lv' := [(1, .long ((31 * (fd (fd (fd (fd (fd (fd (fd 1663 (fun i => hmV (nI i) wide ck pf n sn nn mn u tn) 9) ck 6) wd 6) pf (n * 3)) sf (sn * 3)) nf (nn * 4)) mf (mn * 4))) + ab.toInt64)), (3, .int (nI 9)), (0, .ref to)]) hx hb dX10_digest_51 rfl hl (by decide) rfl ?_
        clear hl ls; intro ls hl
        refine lv_ldc2 (v := 31) hx hb hown (ht _ k_cg_X10_318) dX10_digest_52 ?_
        refine lv_lload_n hx hb dX10_digest_55 rfl (lv_at hl 0 rfl) ?_
        refine lv_lmul hx hb dX10_digest_56 ?_
        refine lv_aload_n hx hb dX10_digest_57 rfl (lv_at hl 2 rfl) ?_
        refine g_get (k := 10) (v := .int be) C hW 0 rfl rfl jnX10 (by decide) k_fl_X10_61 rfl dX10_digest_58 ?_
        refine lv_i2l hx hb dX10_digest_61 rfl ?_
        refine lv_ladd hx hb dX10_digest_62 ?_
        subst hQ
        exact g_lret (v := ((31 * ((31 * (fd (fd (fd (fd (fd (fd (fd 1663 (fun i => hmV (nI i) wide ck pf n sn nn mn u tn) 9) ck 6) wd 6) pf (n * 3)) sf (sn * 3)) nf (nn * 4)) mf (mn * 4))) + ab.toInt64)) + be.toInt64)) C hW hrt ⟨by exact rfl, rfl⟩ dX10_digest_63
      · replace c_1179 := Int32.not_lt.mp c_1179
        have c_1179n : j ≤ 8 := (nI_leI (a := j) (b := 8) (by omega) (by omega)).mp c_1179
        refine lv_ldc2 (v := 31) hx hb hown (ht _ k_cg_X10_318) dX10_digest_12 ?_
        refine lv_lload_n hx hb dX10_digest_15 rfl (lv_at hl 1 rfl) ?_
        refine lv_lmul hx hb dX10_digest_16 ?_
        refine lv_aload_n hx hb dX10_digest_17 rfl (lv_at hl 2 rfl) ?_
        refine lv_iload_n hx hb dX10_digest_18 rfl (lv_at hl 0 rfl) ?_
        refine g_fi C hW [0, 1, 4, 5, 3, 6, 8, 10, 12, 14, 15] rfl (g_runV (As := [.int (nI j)]) (rest := [.long (31 * (fd 1663 (fun i => hmV (nI i) wide ck pf n sn nn mn u tn) j))]) (wc := [(to, .inr (8, [.ref v, .ref iv, .ref jv, .int k1, .int k2, .ref rd, .ref st, .ref ra, .ref og, .int ab, .int be, .int bds, .int nos, .int fls])), (v, .inr (7, [.int wide, .ref vw, .ref vc, .ref vp, .ref vs, .ref vn, .ref vm, .ref vu])), (vp, .inr (4, [.int 7, .int 3, .ref vpc, .int (nI n)])), (vpc, .inl (G.2.1, 21, .inl pf)), (vc, .inl (G.2.1, 7, .inl ck)), (vs, .inr (4, [.int 5, .int 3, .ref vsc, .int (nI sn)])), (vn, .inr (4, [.int 6, .int 4, .ref vnc, .int (nI nn)])), (vm, .inr (4, [.int 6, .int 4, .ref vmc, .int (nI mn)])), (vu, .inr (1, [.ref vuc, .int (nI u)])), (rd, .inr (3, [.ref tx, .ref dv, .int tk])), (tx, .inr (6, [.ref tq, .int (nI tn), .int tok, .int stt, .int en]))]) (q0 := 0) (ci := 8) C hW hl (c_X10_howMany l G v vw vc vp vs vn vm vu wide to iv jv rd st ra og k1 k2 ab be bds nos fls vpc n pf ck vsc sn vnc nn vmc mn vuc u tx dv tq tn tk tok stt en (nI j) (by first | assumption | omega) _) k_ml_X10_313 q_X10_howMany (by decide) [0, 1, 4, 5, 3, 6, 8, 10, 12, 14, 15] rfl rfl rfl rfl rfl rfl (Nat.le_of_ble_eq_true rfl) dX10_digest_19 (by decide)) (fun r_1182 er_1182 => ?_)
        clear hW H locs; intro H locs hW
        refine lv_as (y := hmV (nI j) wide ck pf n sn nn mn u tn) er_1182 ?_
        clear er_1182 r_1182
        refine lv_i2l hx hb dX10_digest_22 rfl ?_
        refine lv_ladd hx hb dX10_digest_23 ?_
        refine lv_lstore_n (lv' := [(1, .long ((31 * (fd 1663 (fun i => hmV (nI i) wide ck pf n sn nn mn u tn) j)) + ((hmV (nI j) wide ck pf n sn nn mn u tn).toInt64))), (3, .int (nI j)), (0, .ref to)]) hx hb dX10_digest_24 rfl hl (by decide) rfl ?_
        clear hl ls; intro ls hl
        refine lv_iinc (v := (nI j) + 1) (lv' := [(3, .int ((nI j) + 1)), (1, .long ((31 * (fd 1663 (fun i => hmV (nI i) wide ck pf n sn nn mn u tn) j)) + ((hmV (nI j) wide ck pf n sn nn mn u tn).toInt64))), (0, .ref to)]) hx hb dX10_digest_25 hl (k := 1) rfl rfl (by decide) rfl ?_
        clear hl ls; intro ls hl
        refine lv_goto (tgt := 6) hx hb dX10_digest_28 (by decide) ?_
        exact ihK_1176 (j + 1) ((nI j) + 1) ((31 * (fd 1663 (fun i => hmV (nI i) wide ck pf n sn nn mn u tn) j)) + ((hmV (nI j) wide ck pf n sn nn mn u tn).toInt64)) (by exact nI_1 _) (by exact rfl) (by first | omega | assumption | (simp; done)) (by omega) _ _ _ hW (lv_sub hl [0, 1, 2] rfl)
  exact K_1176 _ 0 0 1663 (by first | exact rfl | (simp; done)) (by exact rfl) (by first | omega | assumption | (simp; done)) (Nat.lt_succ_self _) _ _ _ hW (lv_sub hl [0, 1, 2] rfl)
set_option maxHeartbeats 4000000 in
set_option maxRecDepth 100000 in
theorem c_X10_keepTenths (l : Launch) (G : gT) (v : Nat) (to iv jv rd st ra og : Nat) (k1 k2 ab be bds nos fls : Int32) (t9 : Int32)  : MV l G yX10_keepTenths cX10_keepTenths 3 ({ frames := 0, cells := 0, slots := 0, locals := 0 }) [.ref to, .int t9] [(to, .inr (8, [.ref v, .ref iv, .ref jv, .int k1, .int k2, .ref rd, .ref st, .ref ra, .ref og, .int ab, .int be, .int bds, .int nos, .int fls]))] (fun w1 => ∃ u_ : Unit, (True) ∧ w1 = [(to, .inr (8, [.ref v, .ref iv, .ref jv, .int k1, .int k2, .ref rd, .ref st, .ref ra, .ref og, .int ((ktF t9 9).1), .int ((ktF t9 9).2), .int bds, .int nos, .int fls]))]) := by
  refine MV.mk (by decide) (Nat.le_of_ble_eq_true rfl) ?_
  intro p_ e_ s_ m_ ar_ be_ me_ cd_ A_ ls C hrt hW hl
  have hx := C.1; have hb := C.2.1; have hown := C.2.2.2.1; have ht := C.2.2.2.2.1
  replace hl : lv_has ls 3 [(0, .ref to), (1, .int t9)] := hl
  generalize hQ : MQ be_ _ ar_ s_ 0 0 A_ = Q
  refine lv_aload_n hx hb dX10_keepTenths_0 rfl (lv_at hl 0 rfl) ?_
  refine lv_iload_n hx hb dX10_keepTenths_1 rfl (lv_at hl 1 rfl) ?_
  refine g_put (k := 9) (ty := .int) (w' := [(to, .inr (8, [.ref v, .ref iv, .ref jv, .int k1, .int k2, .ref rd, .ref st, .ref ra, .ref og, .int t9, .int be, .int bds, .int nos, .int fls]))]) C hW 0 rfl rfl jnX10 tyX10_ok nmX10 (by decide) k_fl_X10_57 rfl rfl rfl rfl (Nat.le_of_ble_eq_true rfl) rfl dX10_keepTenths_2 ?_
  clear hW; intro H locs hW
  refine lv_aload_n hx hb dX10_keepTenths_5 rfl (lv_at hl 0 rfl) ?_
  refine lv_bipush (v := 10) hx hb dX10_keepTenths_6 (by decide) ?_
  refine g_put (k := 10) (ty := .int) (w' := [(to, .inr (8, [.ref v, .ref iv, .ref jv, .int k1, .int k2, .ref rd, .ref st, .ref ra, .ref og, .int t9, .int 10, .int bds, .int nos, .int fls]))]) C hW 0 rfl rfl jnX10 tyX10_ok nmX10 (by decide) k_fl_X10_61 rfl rfl rfl rfl (Nat.le_of_ble_eq_true rfl) rfl dX10_keepTenths_8 ?_
  clear hW H locs; intro H locs hW
  refine lv_bipush (v := 10) hx hb dX10_keepTenths_11 (by decide) ?_
  refine lv_istore_n (lv' := [(2, .int 10), (0, .ref to), (1, .int t9)]) hx hb dX10_keepTenths_13 rfl hl (by decide) rfl ?_
  clear hl ls; intro ls hl
  have K_1183 : ∀ (n_ : Nat) (k : Nat) (x_1184 : Int32) (f_1185 : Int32) (f_1186 : Int32) (_ : x_1184 = nI (10 - k)) (_ : f_1185 = (ktF t9 k).1) (_ : f_1186 = (ktF t9 k).2) (_ : k ≤ 9) (_ : 9 - k < n_) (H : Heap) (locs : List Loc) (ls : Array Slot), Wd G A_ s_.heap [(to, .inr (8, [.ref v, .ref iv, .ref jv, .int k1, .int k2, .ref rd, .ref st, .ref ra, .ref og, .int f_1185, .int f_1186, .int bds, .int nos, .int fls]))] H locs → lv_has ls 3 [(2, .int x_1184), (0, .ref to), (1, .int t9)] → W p_ l e_ ({ frames := 0, cells := 0, slots := 0, locals := 0 }) s_ m_ ar_ be_ me_ cd_ H locs 0 0 Q (F0 m_ 14 ls []) := by
    intro n_
    induction n_ with
    | zero => intro k x_1184 f_1185 f_1186 ex_1184 ef_1185 ef_1186 hk hm_; exact absurd hm_ (Nat.not_lt_zero _)
    | succ n_ ihK_1183 =>
      intro k x_1184 f_1185 f_1186 ex_1184 ef_1185 ef_1186 hk hm_ H locs ls hW hl
      subst ex_1184
      subst ef_1185
      subst ef_1186
      refine lv_iload_n hx hb dX10_keepTenths_14 rfl (lv_at hl 0 rfl) ?_
      refine lv_iconst (v := 1) hx hb dX10_keepTenths_15 (by decide) ?_
      refine lv_icmp_le (tgt := 63) hx hb dX10_keepTenths_16 (by decide) (fun c_1187 => ?_) (fun c_1187 => ?_)
      · replace c_1187 := Int32.not_lt.mpr c_1187
        have c_1187n : ¬ 1 < (10 - k) := fun q => c_1187 ((nI_ltI (a := 1) (b := (10 - k)) (by omega) (by omega)).mpr q)
        obtain rfl : k = 9 := by omega
        subst hQ
        exact g_vret C hW hrt ⟨(), trivial, by rfl⟩ dX10_keepTenths_63
      · replace c_1187 := Int32.not_le.mp c_1187
        have c_1187n : 1 < (10 - k) := (nI_ltI (a := 1) (b := (10 - k)) (by omega) (by omega)).mp c_1187
        refine lv_aload_n hx hb dX10_keepTenths_19 rfl (lv_at hl 1 rfl) ?_
        refine g_get (k := 9) (v := .int ((ktF t9 k).1)) C hW 0 rfl rfl jnX10 (by decide) k_fl_X10_57 rfl dX10_keepTenths_20 ?_
        refine lv_iload_n hx hb dX10_keepTenths_23 rfl (lv_at hl 0 rfl) ?_
        refine lv_irem hx hb dX10_keepTenths_24 (by exact nI_ne0 (by omega) (by omega)) ?_
        have J_1191 : ∀ (f_1189 : Int32) (_ : f_1189 = (if (((ktF t9 k).1) - ((ktF t9 k).1) / (nI (10 - k)) * (nI (10 - k))) = 0 then if (((ktF t9 k).2) - ((ktF t9 k).2) / (nI (10 - k)) * (nI (10 - k))) = 0 then ((ktF t9 k).1) / (nI (10 - k)) else (ktF t9 k).1 else (ktF t9 k).1)) (f_1190 : Int32) (_ : f_1190 = (if (((ktF t9 k).1) - ((ktF t9 k).1) / (nI (10 - k)) * (nI (10 - k))) = 0 then if (((ktF t9 k).2) - ((ktF t9 k).2) / (nI (10 - k)) * (nI (10 - k))) = 0 then ((ktF t9 k).2) / (nI (10 - k)) else (ktF t9 k).2 else (ktF t9 k).2)), ∀ (H : Heap) (locs : List Loc) (ls : Array Slot), Wd G A_ s_.heap [(to, .inr (8, [.ref v, .ref iv, .ref jv, .int k1, .int k2, .ref rd, .ref st, .ref ra, .ref og, .int f_1189, .int f_1190, .int bds, .int nos, .int fls]))] H locs → lv_has ls 3 [(2, .int (nI (10 - k))), (0, .ref to), (1, .int t9)] → W p_ l e_ ({ frames := 0, cells := 0, slots := 0, locals := 0 }) s_ m_ ar_ be_ me_ cd_ H locs 0 0 Q (F0 m_ 57 ls []) := by
          intro f_1189 ef_1189 f_1190 ef_1190 H locs ls hW hl
          refine lv_iinc (v := (nI (10 - k)) + (-1)) (lv' := [(2, .int ((nI (10 - k)) + (-1))), (0, .ref to), (1, .int t9)]) hx hb dX10_keepTenths_57 hl (k := 0) rfl rfl (by decide) rfl ?_
          clear hl ls; intro ls hl
          refine lv_goto (tgt := 14) hx hb dX10_keepTenths_60 (by decide) ?_
          exact ihK_1183 (k + 1) ((nI (10 - k)) + (-1)) f_1189 f_1190 (by exact kt_s (by omega)) (by (simp only [ef_1189, ef_1190, ktF]; exact kt_1)) (by (simp only [ef_1189, ef_1190, ktF]; exact kt_2)) (by first | omega | assumption | (simp; done)) (by omega) _ _ _ hW (lv_sub hl [0, 1, 2] rfl)
        refine lv_if_ne (tgt := 57) hx hb dX10_keepTenths_25 (by decide) (fun c_1188 => ?_) (fun c_1188 => ?_)
        · exact J_1191 ((ktF t9 k).1) (by first | (simp only [c_1188, if_true, if_false, reduceIte]; done) | (simp [c_1188]; done) | rfl) ((ktF t9 k).2) (by first | (simp only [c_1188, if_true, if_false, reduceIte]; done) | (simp [c_1188]; done) | rfl) _ _ _ hW (lv_sub hl [0, 1, 2] rfl)
        · refine lv_aload_n hx hb dX10_keepTenths_28 rfl (lv_at hl 1 rfl) ?_
          refine g_get (k := 10) (v := .int ((ktF t9 k).2)) C hW 0 rfl rfl jnX10 (by decide) k_fl_X10_61 rfl dX10_keepTenths_29 ?_
          refine lv_iload_n hx hb dX10_keepTenths_32 rfl (lv_at hl 0 rfl) ?_
          refine lv_irem hx hb dX10_keepTenths_33 (by exact nI_ne0 (by omega) (by omega)) ?_
          refine lv_if_ne (tgt := 57) hx hb dX10_keepTenths_34 (by decide) (fun c_1192 => ?_) (fun c_1192 => ?_)
          · exact J_1191 ((ktF t9 k).1) (by first | (simp only [c_1188, c_1192, if_true, if_false, reduceIte]; done) | (simp [c_1188, c_1192]; done) | rfl) ((ktF t9 k).2) (by first | (simp only [c_1188, c_1192, if_true, if_false, reduceIte]; done) | (simp [c_1188, c_1192]; done) | rfl) _ _ _ hW (lv_sub hl [0, 1, 2] rfl)
          · refine lv_aload_n hx hb dX10_keepTenths_37 rfl (lv_at hl 1 rfl) ?_
            refine lv_dup hx hb dX10_keepTenths_38 rfl ?_
            refine g_get (k := 9) (v := .int ((ktF t9 k).1)) C hW 0 rfl rfl jnX10 (by decide) k_fl_X10_57 rfl dX10_keepTenths_39 ?_
            refine lv_iload_n hx hb dX10_keepTenths_42 rfl (lv_at hl 0 rfl) ?_
            refine lv_idiv hx hb dX10_keepTenths_43 (by exact nI_ne0 (by omega) (by omega)) ?_
            refine g_put (k := 9) (ty := .int) (w' := [(to, .inr (8, [.ref v, .ref iv, .ref jv, .int k1, .int k2, .ref rd, .ref st, .ref ra, .ref og, .int (((ktF t9 k).1) / (nI (10 - k))), .int ((ktF t9 k).2), .int bds, .int nos, .int fls]))]) C hW 0 rfl rfl jnX10 tyX10_ok nmX10 (by decide) k_fl_X10_57 rfl rfl rfl rfl (Nat.le_of_ble_eq_true rfl) rfl dX10_keepTenths_44 ?_
            clear hW H locs; intro H locs hW
            refine lv_aload_n hx hb dX10_keepTenths_47 rfl (lv_at hl 1 rfl) ?_
            refine lv_dup hx hb dX10_keepTenths_48 rfl ?_
            refine g_get (k := 10) (v := .int ((ktF t9 k).2)) C hW 0 rfl rfl jnX10 (by decide) k_fl_X10_61 rfl dX10_keepTenths_49 ?_
            refine lv_iload_n hx hb dX10_keepTenths_52 rfl (lv_at hl 0 rfl) ?_
            refine lv_idiv hx hb dX10_keepTenths_53 (by exact nI_ne0 (by omega) (by omega)) ?_
            refine g_put (k := 10) (ty := .int) (w' := [(to, .inr (8, [.ref v, .ref iv, .ref jv, .int k1, .int k2, .ref rd, .ref st, .ref ra, .ref og, .int (((ktF t9 k).1) / (nI (10 - k))), .int (((ktF t9 k).2) / (nI (10 - k))), .int bds, .int nos, .int fls]))]) C hW 0 rfl rfl jnX10 tyX10_ok nmX10 (by decide) k_fl_X10_61 rfl rfl rfl rfl (Nat.le_of_ble_eq_true rfl) rfl dX10_keepTenths_54 ?_
            clear hW H locs; intro H locs hW
            exact J_1191 (((ktF t9 k).1) / (nI (10 - k))) (by first | (simp only [c_1188, c_1192, if_true, if_false, reduceIte]; done) | (simp [c_1188, c_1192]; done) | rfl) (((ktF t9 k).2) / (nI (10 - k))) (by first | (simp only [c_1188, c_1192, if_true, if_false, reduceIte]; done) | (simp [c_1188, c_1192]; done) | rfl) _ _ _ hW (lv_sub hl [0, 1, 2] rfl)
  exact K_1183 _ 0 10 t9 10 (by exact rfl) (by exact rfl) (by exact rfl) (by first | omega | assumption | (simp; done)) (Nat.lt_succ_self _) _ _ _ hW (lv_sub hl [0, 1, 2] rfl)
