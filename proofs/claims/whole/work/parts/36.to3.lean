set_option maxHeartbeats 4000000 in
set_option maxRecDepth 100000 in
theorem c_X10_seen_ok (l : Launch) (G : gT) (v vw vc vp vs vn vm vu : Nat) (wide : Int32) (to iv jv rd st ra og : Nat) (k1 k2 ab be bds nos fls : Int32) (vpc n : Nat) (vsc sn : Nat) (sf : Nat → Int32) (k : Nat) (h9 o9 : Int32) (hk : k < n) (h2 : iw h9 0 99 = true) (h3 : iw o9 0 1 = true) (hn : n ≤ 7) (hs : sn < 5) : MI l G yX10_seen cX10_seen 4 .int ({ frames := 2, cells := 0, slots := 0, locals := 46 }) [.ref to, .int (nI k), .int h9, .int o9] [(to, .inr (8, [.ref v, .ref iv, .ref jv, .int k1, .int k2, .ref rd, .ref st, .ref ra, .ref og, .int ab, .int be, .int bds, .int nos, .int fls])), (v, .inr (7, [.int wide, .ref vw, .ref vc, .ref vp, .ref vs, .ref vn, .ref vm, .ref vu])), (vp, .inr (4, [.int 7, .int 3, .ref vpc, .int (nI n)])), (vs, .inr (4, [.int 5, .int 3, .ref vsc, .int (nI sn)])), (vsc, .inl (G.2.1, 15, .inl sf))] (fun (r : Int32) w1 => ∃ u_ : Unit, (r = nI (sn + 1)) ∧ w1 = [(to, .inr (8, [.ref v, .ref iv, .ref jv, .int k1, .int k2, .ref rd, .ref st, .ref ra, .ref og, .int ab, .int be, .int bds, .int nos, .int fls])), (v, .inr (7, [.int wide, .ref vw, .ref vc, .ref vp, .ref vs, .ref vn, .ref vm, .ref vu])), (vp, .inr (4, [.int 7, .int 3, .ref vpc, .int (nI n)])), (vs, .inr (4, [.int 5, .int 3, .ref vsc, .int (nI (sn + 1))])), (vsc, .inl (G.2.1, 15, .inl (upd (upd (upd sf (sn * 3 + 0) (nI k)) (sn * 3 + 1) h9) (sn * 3 + 2) o9)))]) := by
  refine MI.mk (by decide) (Nat.le_of_ble_eq_true rfl) ?_
  intro p_ e_ s_ m_ ar_ be_ me_ cd_ A_ ls C hrt hW hl
  have hx := C.1; have hb := C.2.1; have hown := C.2.2.2.1; have ht := C.2.2.2.2.1
  replace hl : lv_has ls 4 [(0, .ref to), (1, .int (nI k)), (2, .int h9), (3, .int o9)] := hl
  generalize hQ : MQ be_ _ ar_ s_ 0 0 A_ = Q
  refine lv_aload_n hx hb dX10_seen_0 rfl (lv_at hl 0 rfl) ?_
  refine g_get (k := 0) (v := .ref v) C hW 0 rfl rfl jnX10 (by decide) k_fl_X10_10 rfl dX10_seen_1 ?_
  refine g_getN (k := 3) (v := .ref vp) (host := RX10) C hW 1 rfl rfl jnX9 (by decide) (List.mem_of_getElem? (i := 5) rfl) rfl dX10_seen_4 ?_
  refine lv_iload_n hx hb dX10_seen_7 rfl (lv_at hl 1 rfl) ?_
  refine g_fi C hW [2] rfl (g_runV (As := [.int (nI k)]) (rest := []) (wc := [(vp, .inr (4, [.int 7, .int 3, .ref vpc, .int (nI n)]))]) (q0 := 0) (ci := 4) C hW hl (c_X6_has l G vp vpc 7 3 n (nI k)  _) k_ml_X10_161 q_X6_has (by decide) [2] rfl rfl rfl rfl rfl rfl (Nat.le_of_ble_eq_true rfl) dX10_seen_8 (by decide)) (fun r_902 er_902 => ?_)
  clear hW; intro H locs hW
  refine lv_as (y := bI (okp n (nI k))) er_902 ?_
  clear er_902 r_902
  refine lv_if_eq (tgt := 33) hx hb dX10_seen_11 (by decide) (fun c_903 => ?_) (fun c_903 => ?_)
  · exfalso; exact dd (by first | assumption | exact okp_nI (by omega) (by assumption) | exact decide_eq_true (by first | assumption | omega)) c_903
  · refine lv_iload_n hx hb dX10_seen_14 rfl (lv_at hl 2 rfl) ?_
    refine lv_iconst (v := 0) hx hb dX10_seen_15 (by decide) ?_
    refine lv_bipush (v := 99) hx hb dX10_seen_16 (by decide) ?_
    refine g_fi C hW [] rfl (g_runS (As := [.int h9, .int 0, .int 99]) (rest := []) (wc := []) C hW hl (c_X10_isWithin l G h9 0 99  _) k_ml_X10_73 q_X10_isWithin (by decide) [] rfl rfl rfl rfl (Nat.le_of_ble_eq_true rfl) dX10_seen_18 (by decide)) (fun r_904 er_904 => ?_)
    clear hW H locs; intro H locs hW
    refine lv_as (y := bI (iw h9 0 99)) er_904 ?_
    clear er_904 r_904
    refine lv_if_eq (tgt := 33) hx hb dX10_seen_21 (by decide) (fun c_905 => ?_) (fun c_905 => ?_)
    · exfalso; exact dd (by first | assumption | exact okp_nI (by omega) (by assumption) | exact decide_eq_true (by first | assumption | omega)) c_905
    · refine lv_iload_n hx hb dX10_seen_24 rfl (lv_at hl 3 rfl) ?_
      refine lv_iconst (v := 0) hx hb dX10_seen_25 (by decide) ?_
      refine lv_iconst (v := 1) hx hb dX10_seen_26 (by decide) ?_
      refine g_fi C hW [] rfl (g_runS (As := [.int o9, .int 0, .int 1]) (rest := []) (wc := []) C hW hl (c_X10_isWithin l G o9 0 1  _) k_ml_X10_73 q_X10_isWithin (by decide) [] rfl rfl rfl rfl (Nat.le_of_ble_eq_true rfl) dX10_seen_27 (by decide)) (fun r_906 er_906 => ?_)
      clear hW H locs; intro H locs hW
      refine lv_as (y := bI (iw o9 0 1)) er_906 ?_
      clear er_906 r_906
      refine lv_if_ne (tgt := 40) hx hb dX10_seen_30 (by decide) (fun c_907 => ?_) (fun c_907 => ?_)
      · refine lv_aload_n hx hb dX10_seen_40 rfl (lv_at hl 0 rfl) ?_
        refine g_get (k := 0) (v := .ref v) C hW 0 rfl rfl jnX10 (by decide) k_fl_X10_10 rfl dX10_seen_41 ?_
        refine g_getN (k := 4) (v := .ref vs) (host := RX10) C hW 1 rfl rfl jnX9 (by decide) (List.mem_of_getElem? (i := 9) rfl) rfl dX10_seen_44 ?_
        refine g_fi C hW [3] rfl (g_runV (As := []) (rest := []) (wc := [(vs, .inr (4, [.int 5, .int 3, .ref vsc, .int (nI sn)]))]) (q0 := 0) (ci := 4) C hW hl (c_X6_isFull l G vs vsc 5 3 sn (by omega) (by omega) _) k_ml_X10_115 q_X6_isFull (by decide) [3] rfl rfl rfl rfl rfl rfl (Nat.le_of_ble_eq_true rfl) dX10_seen_47 (by decide)) (fun r_908 er_908 => ?_)
        clear hW H locs; intro H locs hW
        refine lv_as (y := bI (decide (5 ≤ sn))) er_908 ?_
        clear er_908 r_908
        refine lv_if_eq (tgt := 60) hx hb dX10_seen_50 (by decide) (fun c_909 => ?_) (fun c_909 => ?_)
        · refine lv_aload_n hx hb dX10_seen_60 rfl (lv_at hl 0 rfl) ?_
          refine g_get (k := 0) (v := .ref v) C hW 0 rfl rfl jnX10 (by decide) k_fl_X10_10 rfl dX10_seen_61 ?_
          refine g_getN (k := 4) (v := .ref vs) (host := RX10) C hW 1 rfl rfl jnX9 (by decide) (List.mem_of_getElem? (i := 9) rfl) rfl dX10_seen_64 ?_
          refine lv_iload_n hx hb dX10_seen_67 rfl (lv_at hl 1 rfl) ?_
          refine lv_iload_n hx hb dX10_seen_68 rfl (lv_at hl 2 rfl) ?_
          refine lv_iload_n hx hb dX10_seen_69 rfl (lv_at hl 3 rfl) ?_
          refine lv_iconst (v := 0) hx hb dX10_seen_70 (by decide) ?_
          refine g_fiw (wr := [(to, .inr (8, [.ref v, .ref iv, .ref jv, .int k1, .int k2, .ref rd, .ref st, .ref ra, .ref og, .int ab, .int be, .int bds, .int nos, .int fls])), (v, .inr (7, [.int wide, .ref vw, .ref vc, .ref vp, .ref vs, .ref vn, .ref vm, .ref vu])), (vp, .inr (4, [.int 7, .int 3, .ref vpc, .int (nI n)]))]) (ww := fun (u_ : Unit) => [(vs, .inr (4, [.int (nI 5), .int (nI 3), .ref vsc, .int (nI (sn + 1))])), (vsc, .inl (G.2.1, (5 * 3), .inl (if 3 < 3 then upd (if 2 < 3 then upd (if 1 < 3 then upd (if 0 < 3 then upd sf (sn * 3 + 0) (nI k) else sf) (sn * 3 + 1) h9 else (if 0 < 3 then upd sf (sn * 3 + 0) (nI k) else sf)) (sn * 3 + 2) o9 else (if 1 < 3 then upd (if 0 < 3 then upd sf (sn * 3 + 0) (nI k) else sf) (sn * 3 + 1) h9 else (if 0 < 3 then upd sf (sn * 3 + 0) (nI k) else sf))) (sn * 3 + 3) 0 else (if 2 < 3 then upd (if 1 < 3 then upd (if 0 < 3 then upd sf (sn * 3 + 0) (nI k) else sf) (sn * 3 + 1) h9 else (if 0 < 3 then upd sf (sn * 3 + 0) (nI k) else sf)) (sn * 3 + 2) o9 else (if 1 < 3 then upd (if 0 < 3 then upd sf (sn * 3 + 0) (nI k) else sf) (sn * 3 + 1) h9 else (if 0 < 3 then upd sf (sn * 3 + 0) (nI k) else sf))))))]) (w2 := fun (u_ : Unit) => [(to, .inr (8, [.ref v, .ref iv, .ref jv, .int k1, .int k2, .ref rd, .ref st, .ref ra, .ref og, .int ab, .int be, .int bds, .int nos, .int fls])), (v, .inr (7, [.int wide, .ref vw, .ref vc, .ref vp, .ref vs, .ref vn, .ref vm, .ref vu])), (vp, .inr (4, [.int 7, .int 3, .ref vpc, .int (nI n)])), (vs, .inr (4, [.int (nI 5), .int (nI 3), .ref vsc, .int (nI (sn + 1))])), (vsc, .inl (G.2.1, (5 * 3), .inl (if 3 < 3 then upd (if 2 < 3 then upd (if 1 < 3 then upd (if 0 < 3 then upd sf (sn * 3 + 0) (nI k) else sf) (sn * 3 + 1) h9 else (if 0 < 3 then upd sf (sn * 3 + 0) (nI k) else sf)) (sn * 3 + 2) o9 else (if 1 < 3 then upd (if 0 < 3 then upd sf (sn * 3 + 0) (nI k) else sf) (sn * 3 + 1) h9 else (if 0 < 3 then upd sf (sn * 3 + 0) (nI k) else sf))) (sn * 3 + 3) 0 else (if 2 < 3 then upd (if 1 < 3 then upd (if 0 < 3 then upd sf (sn * 3 + 0) (nI k) else sf) (sn * 3 + 1) h9 else (if 0 < 3 then upd sf (sn * 3 + 0) (nI k) else sf)) (sn * 3 + 2) o9 else (if 1 < 3 then upd (if 0 < 3 then upd sf (sn * 3 + 0) (nI k) else sf) (sn * 3 + 1) h9 else (if 0 < 3 then upd sf (sn * 3 + 0) (nI k) else sf))))))]) C hW [3, 4] [0, 1, 2] [0, 1, 2, 3, 4] rfl rfl (by decide) (by decide) (by decide) (fun _ => rfl) (g_runV (As := [.int (nI k), .int h9, .int o9, .int 0]) (rest := []) (wc := [(vs, .inr (4, [.int 5, .int 3, .ref vsc, .int (nI sn)])), (vsc, .inl (G.2.1, 15, .inl sf))]) (q0 := 0) (ci := 4) C hW hl (c_X6_add l G vs vsc 5 3 sn sf (nI k) h9 o9 0 (by omega) (by omega) _) k_ml_X10_122 q_X6_add (by decide) [3, 4] rfl rfl rfl rfl rfl rfl (Nat.le_of_ble_eq_true rfl) dX10_seen_71 (by decide)) (fun r_910 _ er_910 => ?_)
          clear hW H locs; intro H locs hW
          refine lv_as (y := nI (sn + 1)) er_910 ?_
          clear er_910 r_910
          replace hW : Wd G A_ s_.heap [(to, .inr (8, [.ref v, .ref iv, .ref jv, .int k1, .int k2, .ref rd, .ref st, .ref ra, .ref og, .int ab, .int be, .int bds, .int nos, .int fls])), (v, .inr (7, [.int wide, .ref vw, .ref vc, .ref vp, .ref vs, .ref vn, .ref vm, .ref vu])), (vp, .inr (4, [.int 7, .int 3, .ref vpc, .int (nI n)])), (vs, .inr (4, [.int 5, .int 3, .ref vsc, .int (nI (sn + 1))])), (vsc, .inl (G.2.1, (5 * 3), .inl (if 3 < 3 then upd (if 2 < 3 then upd (if 1 < 3 then upd (if 0 < 3 then upd sf (sn * 3 + 0) (nI k) else sf) (sn * 3 + 1) h9 else (if 0 < 3 then upd sf (sn * 3 + 0) (nI k) else sf)) (sn * 3 + 2) o9 else (if 1 < 3 then upd (if 0 < 3 then upd sf (sn * 3 + 0) (nI k) else sf) (sn * 3 + 1) h9 else (if 0 < 3 then upd sf (sn * 3 + 0) (nI k) else sf))) (sn * 3 + 3) 0 else (if 2 < 3 then upd (if 1 < 3 then upd (if 0 < 3 then upd sf (sn * 3 + 0) (nI k) else sf) (sn * 3 + 1) h9 else (if 0 < 3 then upd sf (sn * 3 + 0) (nI k) else sf)) (sn * 3 + 2) o9 else (if 1 < 3 then upd (if 0 < 3 then upd sf (sn * 3 + 0) (nI k) else sf) (sn * 3 + 1) h9 else (if 0 < 3 then upd sf (sn * 3 + 0) (nI k) else sf))))))] H locs := hW
          replace hW : Wd G A_ s_.heap [(to, .inr (8, [.ref v, .ref iv, .ref jv, .int k1, .int k2, .ref rd, .ref st, .ref ra, .ref og, .int ab, .int be, .int bds, .int nos, .int fls])), (v, .inr (7, [.int wide, .ref vw, .ref vc, .ref vp, .ref vs, .ref vn, .ref vm, .ref vu])), (vp, .inr (4, [.int 7, .int 3, .ref vpc, .int (nI n)])), (vs, .inr (4, [.int 5, .int 3, .ref vsc, .int (nI (sn + 1))])), (vsc, .inl (G.2.1, (5 * 3), .inl (upd (upd (upd sf (sn * 3 + 0) (nI k)) (sn * 3 + 1) h9) (sn * 3 + 2) o9)))] H locs := by rw [← (show (if 3 < 3 then upd (if 2 < 3 then upd (if 1 < 3 then upd (if 0 < 3 then upd sf (sn * 3 + 0) (nI k) else sf) (sn * 3 + 1) h9 else (if 0 < 3 then upd sf (sn * 3 + 0) (nI k) else sf)) (sn * 3 + 2) o9 else (if 1 < 3 then upd (if 0 < 3 then upd sf (sn * 3 + 0) (nI k) else sf) (sn * 3 + 1) h9 else (if 0 < 3 then upd sf (sn * 3 + 0) (nI k) else sf))) (sn * 3 + 3) 0 else (if 2 < 3 then upd (if 1 < 3 then upd (if 0 < 3 then upd sf (sn * 3 + 0) (nI k) else sf) (sn * 3 + 1) h9 else (if 0 < 3 then upd sf (sn * 3 + 0) (nI k) else sf)) (sn * 3 + 2) o9 else (if 1 < 3 then upd (if 0 < 3 then upd sf (sn * 3 + 0) (nI k) else sf) (sn * 3 + 1) h9 else (if 0 < 3 then upd sf (sn * 3 + 0) (nI k) else sf)))) = upd (upd (upd sf (sn * 3 + 0) (nI k)) (sn * 3 + 1) h9) (sn * 3 + 2) o9 from by simp)]; exact hW
          subst hQ
          exact g_iret (v := (nI (sn + 1))) C hW hrt ⟨(), by rfl, by rfl⟩ dX10_seen_74
        · exfalso; exact dd0 (by first | assumption | exact decide_eq_false (by first | assumption | omega)) c_909
      · exfalso; exact dd (by first | assumption | exact okp_nI (by omega) (by assumption) | exact decide_eq_true (by first | assumption | omega)) c_907
set_option maxHeartbeats 4000000 in
set_option maxRecDepth 100000 in
theorem c_X10_seen_full (l : Launch) (G : gT) (v vw vc vp vs vn vm vu : Nat) (wide : Int32) (to iv jv rd st ra og : Nat) (k1 k2 ab be bds nos fls : Int32) (vpc n : Nat) (vsc sn : Nat) (sf : Nat → Int32) (k : Nat) (h9 o9 : Int32) (hk : k < n) (h2 : iw h9 0 99 = true) (h3 : iw o9 0 1 = true) (hn : n ≤ 7) (hs : sn = 5) : MI l G yX10_seen cX10_seen 4 .int ({ frames := 1, cells := 0, slots := 0, locals := 22 }) [.ref to, .int (nI k), .int h9, .int o9] [(to, .inr (8, [.ref v, .ref iv, .ref jv, .int k1, .int k2, .ref rd, .ref st, .ref ra, .ref og, .int ab, .int be, .int bds, .int nos, .int fls])), (v, .inr (7, [.int wide, .ref vw, .ref vc, .ref vp, .ref vs, .ref vn, .ref vm, .ref vu])), (vp, .inr (4, [.int 7, .int 3, .ref vpc, .int (nI n)])), (vs, .inr (4, [.int 5, .int 3, .ref vsc, .int (nI sn)])), (vsc, .inl (G.2.1, 15, .inl sf))] (fun (r : Int32) w1 => ∃ u_ : Unit, (r = (-4)) ∧ w1 = [(to, .inr (8, [.ref v, .ref iv, .ref jv, .int k1, .int k2, .ref rd, .ref st, .ref ra, .ref og, .int ab, .int be, .int bds, .int nos, .int (fls + 1)])), (v, .inr (7, [.int wide, .ref vw, .ref vc, .ref vp, .ref vs, .ref vn, .ref vm, .ref vu])), (vp, .inr (4, [.int 7, .int 3, .ref vpc, .int (nI n)])), (vs, .inr (4, [.int 5, .int 3, .ref vsc, .int (nI sn)])), (vsc, .inl (G.2.1, 15, .inl sf))]) := by
  refine MI.mk (by decide) (Nat.le_of_ble_eq_true rfl) ?_
  intro p_ e_ s_ m_ ar_ be_ me_ cd_ A_ ls C hrt hW hl
  have hx := C.1; have hb := C.2.1; have hown := C.2.2.2.1; have ht := C.2.2.2.2.1
  replace hl : lv_has ls 4 [(0, .ref to), (1, .int (nI k)), (2, .int h9), (3, .int o9)] := hl
  generalize hQ : MQ be_ _ ar_ s_ 0 0 A_ = Q
  refine lv_aload_n hx hb dX10_seen_0 rfl (lv_at hl 0 rfl) ?_
  refine g_get (k := 0) (v := .ref v) C hW 0 rfl rfl jnX10 (by decide) k_fl_X10_10 rfl dX10_seen_1 ?_
  refine g_getN (k := 3) (v := .ref vp) (host := RX10) C hW 1 rfl rfl jnX9 (by decide) (List.mem_of_getElem? (i := 5) rfl) rfl dX10_seen_4 ?_
  refine lv_iload_n hx hb dX10_seen_7 rfl (lv_at hl 1 rfl) ?_
  refine g_fi C hW [2] rfl (g_runV (As := [.int (nI k)]) (rest := []) (wc := [(vp, .inr (4, [.int 7, .int 3, .ref vpc, .int (nI n)]))]) (q0 := 0) (ci := 4) C hW hl (c_X6_has l G vp vpc 7 3 n (nI k)  _) k_ml_X10_161 q_X6_has (by decide) [2] rfl rfl rfl rfl rfl rfl (Nat.le_of_ble_eq_true rfl) dX10_seen_8 (by decide)) (fun r_912 er_912 => ?_)
  clear hW; intro H locs hW
  refine lv_as (y := bI (okp n (nI k))) er_912 ?_
  clear er_912 r_912
  refine lv_if_eq (tgt := 33) hx hb dX10_seen_11 (by decide) (fun c_913 => ?_) (fun c_913 => ?_)
  · exfalso; exact dd (by first | assumption | exact okp_nI (by omega) (by assumption) | exact decide_eq_true (by first | assumption | omega)) c_913
  · refine lv_iload_n hx hb dX10_seen_14 rfl (lv_at hl 2 rfl) ?_
    refine lv_iconst (v := 0) hx hb dX10_seen_15 (by decide) ?_
    refine lv_bipush (v := 99) hx hb dX10_seen_16 (by decide) ?_
    refine g_fi C hW [] rfl (g_runS (As := [.int h9, .int 0, .int 99]) (rest := []) (wc := []) C hW hl (c_X10_isWithin l G h9 0 99  _) k_ml_X10_73 q_X10_isWithin (by decide) [] rfl rfl rfl rfl (Nat.le_of_ble_eq_true rfl) dX10_seen_18 (by decide)) (fun r_914 er_914 => ?_)
    clear hW H locs; intro H locs hW
    refine lv_as (y := bI (iw h9 0 99)) er_914 ?_
    clear er_914 r_914
    refine lv_if_eq (tgt := 33) hx hb dX10_seen_21 (by decide) (fun c_915 => ?_) (fun c_915 => ?_)
    · exfalso; exact dd (by first | assumption | exact okp_nI (by omega) (by assumption) | exact decide_eq_true (by first | assumption | omega)) c_915
    · refine lv_iload_n hx hb dX10_seen_24 rfl (lv_at hl 3 rfl) ?_
      refine lv_iconst (v := 0) hx hb dX10_seen_25 (by decide) ?_
      refine lv_iconst (v := 1) hx hb dX10_seen_26 (by decide) ?_
      refine g_fi C hW [] rfl (g_runS (As := [.int o9, .int 0, .int 1]) (rest := []) (wc := []) C hW hl (c_X10_isWithin l G o9 0 1  _) k_ml_X10_73 q_X10_isWithin (by decide) [] rfl rfl rfl rfl (Nat.le_of_ble_eq_true rfl) dX10_seen_27 (by decide)) (fun r_916 er_916 => ?_)
      clear hW H locs; intro H locs hW
      refine lv_as (y := bI (iw o9 0 1)) er_916 ?_
      clear er_916 r_916
      refine lv_if_ne (tgt := 40) hx hb dX10_seen_30 (by decide) (fun c_917 => ?_) (fun c_917 => ?_)
      · refine lv_aload_n hx hb dX10_seen_40 rfl (lv_at hl 0 rfl) ?_
        refine g_get (k := 0) (v := .ref v) C hW 0 rfl rfl jnX10 (by decide) k_fl_X10_10 rfl dX10_seen_41 ?_
        refine g_getN (k := 4) (v := .ref vs) (host := RX10) C hW 1 rfl rfl jnX9 (by decide) (List.mem_of_getElem? (i := 9) rfl) rfl dX10_seen_44 ?_
        refine g_fi C hW [3] rfl (g_runV (As := []) (rest := []) (wc := [(vs, .inr (4, [.int 5, .int 3, .ref vsc, .int (nI sn)]))]) (q0 := 0) (ci := 4) C hW hl (c_X6_isFull l G vs vsc 5 3 sn (by omega) (by omega) _) k_ml_X10_115 q_X6_isFull (by decide) [3] rfl rfl rfl rfl rfl rfl (Nat.le_of_ble_eq_true rfl) dX10_seen_47 (by decide)) (fun r_918 er_918 => ?_)
        clear hW H locs; intro H locs hW
        refine lv_as (y := bI (decide (5 ≤ sn))) er_918 ?_
        clear er_918 r_918
        refine lv_if_eq (tgt := 60) hx hb dX10_seen_50 (by decide) (fun c_919 => ?_) (fun c_919 => ?_)
        · exfalso; exact dd (by first | assumption | exact okp_nI (by omega) (by assumption) | exact decide_eq_true (by first | assumption | omega)) c_919
        · refine lv_aload_n hx hb dX10_seen_53 rfl (lv_at hl 0 rfl) ?_
          refine g_fiw (wr := [(v, .inr (7, [.int wide, .ref vw, .ref vc, .ref vp, .ref vs, .ref vn, .ref vm, .ref vu])), (vp, .inr (4, [.int 7, .int 3, .ref vpc, .int (nI n)])), (vs, .inr (4, [.int 5, .int 3, .ref vsc, .int (nI sn)])), (vsc, .inl (G.2.1, 15, .inl sf))]) (ww := fun (u_ : Unit) => [(to, .inr (8, [.ref v, .ref iv, .ref jv, .int k1, .int k2, .ref rd, .ref st, .ref ra, .ref og, .int ab, .int be, .int bds, .int nos, .int (fls + 1)]))]) (w2 := fun (u_ : Unit) => [(to, .inr (8, [.ref v, .ref iv, .ref jv, .int k1, .int k2, .ref rd, .ref st, .ref ra, .ref og, .int ab, .int be, .int bds, .int nos, .int (fls + 1)])), (v, .inr (7, [.int wide, .ref vw, .ref vc, .ref vp, .ref vs, .ref vn, .ref vm, .ref vu])), (vp, .inr (4, [.int 7, .int 3, .ref vpc, .int (nI n)])), (vs, .inr (4, [.int 5, .int 3, .ref vsc, .int (nI sn)])), (vsc, .inl (G.2.1, 15, .inl sf))]) C hW [0] [1, 2, 3, 4] [4, 0, 1, 2, 3] rfl rfl (by decide) (by decide) (by decide) (fun _ => rfl) (g_runV (As := []) (rest := []) (wc := [(to, .inr (8, [.ref v, .ref iv, .ref jv, .int k1, .int k2, .ref rd, .ref st, .ref ra, .ref og, .int ab, .int be, .int bds, .int nos, .int fls]))]) (q0 := 0) (ci := 8) C hW hl (c_X10_refuseFull l G v to iv jv rd st ra og k1 k2 ab be bds nos fls  _) k_ml_X10_119 q_X10_refuseFull (by decide) [0] rfl rfl rfl rfl rfl rfl (Nat.le_of_ble_eq_true rfl) dX10_seen_54 (by decide)) (fun r_920 _ er_920 => ?_)
          clear hW H locs; intro H locs hW
          refine lv_as (y := (-4)) er_920 ?_
          clear er_920 r_920
          replace hW : Wd G A_ s_.heap [(to, .inr (8, [.ref v, .ref iv, .ref jv, .int k1, .int k2, .ref rd, .ref st, .ref ra, .ref og, .int ab, .int be, .int bds, .int nos, .int (fls + 1)])), (v, .inr (7, [.int wide, .ref vw, .ref vc, .ref vp, .ref vs, .ref vn, .ref vm, .ref vu])), (vp, .inr (4, [.int 7, .int 3, .ref vpc, .int (nI n)])), (vs, .inr (4, [.int 5, .int 3, .ref vsc, .int (nI sn)])), (vsc, .inl (G.2.1, 15, .inl sf))] H locs := hW
          refine lv_goto (tgt := 74) hx hb dX10_seen_57 (by decide) ?_
          subst hQ
          exact g_iret (v := (-4)) C hW hrt ⟨(), by rfl, by rfl⟩ dX10_seen_74
      · exfalso; exact dd (by first | assumption | exact okp_nI (by omega) (by assumption) | exact decide_eq_true (by first | assumption | omega)) c_917
set_option maxHeartbeats 4000000 in
set_option maxRecDepth 100000 in
theorem c_X10_seen_bad (l : Launch) (G : gT) (v vw vc vp vs vn vm vu : Nat) (wide : Int32) (to iv jv rd st ra og : Nat) (k1 k2 ab be bds nos fls : Int32) (vpc n : Nat) (p9 h9 o9 : Int32) (hbad : (okp n p9 && (iw h9 0 99 && iw o9 0 1)) = false) : MI l G yX10_seen cX10_seen 4 .int ({ frames := 1, cells := 0, slots := 0, locals := 22 }) [.ref to, .int p9, .int h9, .int o9] [(to, .inr (8, [.ref v, .ref iv, .ref jv, .int k1, .int k2, .ref rd, .ref st, .ref ra, .ref og, .int ab, .int be, .int bds, .int nos, .int fls])), (v, .inr (7, [.int wide, .ref vw, .ref vc, .ref vp, .ref vs, .ref vn, .ref vm, .ref vu])), (vp, .inr (4, [.int 7, .int 3, .ref vpc, .int (nI n)]))] (fun (r : Int32) w1 => ∃ u_ : Unit, (r = (-2)) ∧ w1 = [(to, .inr (8, [.ref v, .ref iv, .ref jv, .int k1, .int k2, .ref rd, .ref st, .ref ra, .ref og, .int ab, .int be, .int (bds + 1), .int nos, .int fls])), (v, .inr (7, [.int wide, .ref vw, .ref vc, .ref vp, .ref vs, .ref vn, .ref vm, .ref vu])), (vp, .inr (4, [.int 7, .int 3, .ref vpc, .int (nI n)]))]) := by
  refine MI.mk (by decide) (Nat.le_of_ble_eq_true rfl) ?_
  intro p_ e_ s_ m_ ar_ be_ me_ cd_ A_ ls C hrt hW hl
  have hx := C.1; have hb := C.2.1; have hown := C.2.2.2.1; have ht := C.2.2.2.2.1
  replace hl : lv_has ls 4 [(0, .ref to), (1, .int p9), (2, .int h9), (3, .int o9)] := hl
  generalize hQ : MQ be_ _ ar_ s_ 0 0 A_ = Q
  refine lv_aload_n hx hb dX10_seen_0 rfl (lv_at hl 0 rfl) ?_
  refine g_get (k := 0) (v := .ref v) C hW 0 rfl rfl jnX10 (by decide) k_fl_X10_10 rfl dX10_seen_1 ?_
  refine g_getN (k := 3) (v := .ref vp) (host := RX10) C hW 1 rfl rfl jnX9 (by decide) (List.mem_of_getElem? (i := 5) rfl) rfl dX10_seen_4 ?_
  refine lv_iload_n hx hb dX10_seen_7 rfl (lv_at hl 1 rfl) ?_
  refine g_fi C hW [2] rfl (g_runV (As := [.int p9]) (rest := []) (wc := [(vp, .inr (4, [.int 7, .int 3, .ref vpc, .int (nI n)]))]) (q0 := 0) (ci := 4) C hW hl (c_X6_has l G vp vpc 7 3 n p9  _) k_ml_X10_161 q_X6_has (by decide) [2] rfl rfl rfl rfl rfl rfl (Nat.le_of_ble_eq_true rfl) dX10_seen_8 (by decide)) (fun r_922 er_922 => ?_)
  clear hW; intro H locs hW
  refine lv_as (y := bI (okp n p9)) er_922 ?_
  clear er_922 r_922
  have J_928 : ∀ (H : Heap) (locs : List Loc) (ls : Array Slot), Wd G A_ s_.heap [(to, .inr (8, [.ref v, .ref iv, .ref jv, .int k1, .int k2, .ref rd, .ref st, .ref ra, .ref og, .int ab, .int be, .int bds, .int nos, .int fls])), (v, .inr (7, [.int wide, .ref vw, .ref vc, .ref vp, .ref vs, .ref vn, .ref vm, .ref vu])), (vp, .inr (4, [.int 7, .int 3, .ref vpc, .int (nI n)]))] H locs → lv_has ls 4 [(0, .ref to), (1, .int p9), (2, .int h9), (3, .int o9)] → W p_ l e_ ({ frames := 1, cells := 0, slots := 0, locals := 22 }) s_ m_ ar_ be_ me_ cd_ H locs 0 0 Q (F0 m_ 33 ls []) := by
    intro  H locs ls hW hl
    refine lv_aload_n hx hb dX10_seen_33 rfl (lv_at hl 0 rfl) ?_
    refine lv_bipush (v := (-2)) hx hb dX10_seen_34 (by decide) ?_
    refine g_fiw (wr := [(v, .inr (7, [.int wide, .ref vw, .ref vc, .ref vp, .ref vs, .ref vn, .ref vm, .ref vu])), (vp, .inr (4, [.int 7, .int 3, .ref vpc, .int (nI n)]))]) (ww := fun (u_ : Unit) => [(to, .inr (8, [.ref v, .ref iv, .ref jv, .int k1, .int k2, .ref rd, .ref st, .ref ra, .ref og, .int ab, .int be, .int (bds + 1), .int nos, .int fls]))]) (w2 := fun (u_ : Unit) => [(to, .inr (8, [.ref v, .ref iv, .ref jv, .int k1, .int k2, .ref rd, .ref st, .ref ra, .ref og, .int ab, .int be, .int (bds + 1), .int nos, .int fls])), (v, .inr (7, [.int wide, .ref vw, .ref vc, .ref vp, .ref vs, .ref vn, .ref vm, .ref vu])), (vp, .inr (4, [.int 7, .int 3, .ref vpc, .int (nI n)]))]) C hW [0] [1, 2] [2, 0, 1] rfl rfl (by decide) (by decide) (by decide) (fun _ => rfl) (g_runV (As := [.int (-2)]) (rest := []) (wc := [(to, .inr (8, [.ref v, .ref iv, .ref jv, .int k1, .int k2, .ref rd, .ref st, .ref ra, .ref og, .int ab, .int be, .int bds, .int nos, .int fls]))]) (q0 := 0) (ci := 8) C hW hl (c_X10_refuseBad l G v to iv jv rd st ra og k1 k2 ab be bds nos fls (-2)  _) k_ml_X10_77 q_X10_refuseBad (by decide) [0] rfl rfl rfl rfl rfl rfl (Nat.le_of_ble_eq_true rfl) dX10_seen_36 (by decide)) (fun r_929 _ er_929 => ?_)
    clear hW H locs; intro H locs hW
    refine lv_as (y := (-2)) er_929 ?_
    clear er_929 r_929
    replace hW : Wd G A_ s_.heap [(to, .inr (8, [.ref v, .ref iv, .ref jv, .int k1, .int k2, .ref rd, .ref st, .ref ra, .ref og, .int ab, .int be, .int (bds + 1), .int nos, .int fls])), (v, .inr (7, [.int wide, .ref vw, .ref vc, .ref vp, .ref vs, .ref vn, .ref vm, .ref vu])), (vp, .inr (4, [.int 7, .int 3, .ref vpc, .int (nI n)]))] H locs := hW
    subst hQ
    exact g_iret (v := (-2)) C hW hrt ⟨(), by rfl, by rfl⟩ dX10_seen_39
  refine lv_if_eq (tgt := 33) hx hb dX10_seen_11 (by decide) (fun c_923 => ?_) (fun c_923 => ?_)
  · exact J_928  _ _ _ hW (lv_sub hl [0, 1, 2, 3] rfl)
  · refine lv_iload_n hx hb dX10_seen_14 rfl (lv_at hl 2 rfl) ?_
    refine lv_iconst (v := 0) hx hb dX10_seen_15 (by decide) ?_
    refine lv_bipush (v := 99) hx hb dX10_seen_16 (by decide) ?_
    refine g_fi C hW [] rfl (g_runS (As := [.int h9, .int 0, .int 99]) (rest := []) (wc := []) C hW hl (c_X10_isWithin l G h9 0 99  _) k_ml_X10_73 q_X10_isWithin (by decide) [] rfl rfl rfl rfl (Nat.le_of_ble_eq_true rfl) dX10_seen_18 (by decide)) (fun r_931 er_931 => ?_)
    clear hW H locs; intro H locs hW
    refine lv_as (y := bI (iw h9 0 99)) er_931 ?_
    clear er_931 r_931
    refine lv_if_eq (tgt := 33) hx hb dX10_seen_21 (by decide) (fun c_932 => ?_) (fun c_932 => ?_)
    · exact J_928  _ _ _ hW (lv_sub hl [0, 1, 2, 3] rfl)
    · refine lv_iload_n hx hb dX10_seen_24 rfl (lv_at hl 3 rfl) ?_
      refine lv_iconst (v := 0) hx hb dX10_seen_25 (by decide) ?_
      refine lv_iconst (v := 1) hx hb dX10_seen_26 (by decide) ?_
      refine g_fi C hW [] rfl (g_runS (As := [.int o9, .int 0, .int 1]) (rest := []) (wc := []) C hW hl (c_X10_isWithin l G o9 0 1  _) k_ml_X10_73 q_X10_isWithin (by decide) [] rfl rfl rfl rfl (Nat.le_of_ble_eq_true rfl) dX10_seen_27 (by decide)) (fun r_933 er_933 => ?_)
      clear hW H locs; intro H locs hW
      refine lv_as (y := bI (iw o9 0 1)) er_933 ?_
      clear er_933 r_933
      refine lv_if_ne (tgt := 40) hx hb dX10_seen_30 (by decide) (fun c_934 => ?_) (fun c_934 => ?_)
      · exfalso; simp [bI_ne.mp c_923, bI_ne.mp c_932, bI_ne.mp c_934, if_true, if_false, reduceIte, Bool.false_eq_true] at hbad
      · exact J_928  _ _ _ hW (lv_sub hl [0, 1, 2, 3] rfl)
set_option maxHeartbeats 4000000 in
set_option maxRecDepth 100000 in
theorem c_X10_note_ok (l : Launch) (G : gT) (v vw vc vp vs vn vm vu : Nat) (wide : Int32) (to iv jv rd st ra og : Nat) (k1 k2 ab be bds nos fls : Int32) (vnc nn : Nat) (nf : Nat → Int32) (g9 x9 w9 y9 : Int32) (h1 : iw g9 1 9 = true) (h2 : iw x9 0 30 = true) (h3 : iw w9 (-4) 4 = true) (h4 : iw y9 0 99 = true) (ho : nn < 6) : MI l G yX10_note cX10_note 5 .int ({ frames := 2, cells := 0, slots := 0, locals := 46 }) [.ref to, .int g9, .int x9, .int w9, .int y9] [(to, .inr (8, [.ref v, .ref iv, .ref jv, .int k1, .int k2, .ref rd, .ref st, .ref ra, .ref og, .int ab, .int be, .int bds, .int nos, .int fls])), (v, .inr (7, [.int wide, .ref vw, .ref vc, .ref vp, .ref vs, .ref vn, .ref vm, .ref vu])), (vn, .inr (4, [.int 6, .int 4, .ref vnc, .int (nI nn)])), (vnc, .inl (G.2.1, 24, .inl nf))] (fun (r : Int32) w1 => ∃ u_ : Unit, (r = nI (nn + 1)) ∧ w1 = [(to, .inr (8, [.ref v, .ref iv, .ref jv, .int k1, .int k2, .ref rd, .ref st, .ref ra, .ref og, .int ab, .int be, .int bds, .int nos, .int fls])), (v, .inr (7, [.int wide, .ref vw, .ref vc, .ref vp, .ref vs, .ref vn, .ref vm, .ref vu])), (vn, .inr (4, [.int 6, .int 4, .ref vnc, .int (nI (nn + 1))])), (vnc, .inl (G.2.1, 24, .inl (upd (upd (upd (upd nf (nn * 4 + 0) g9) (nn * 4 + 1) x9) (nn * 4 + 2) w9) (nn * 4 + 3) y9)))]) := by
  refine MI.mk (by decide) (Nat.le_of_ble_eq_true rfl) ?_
  intro p_ e_ s_ m_ ar_ be_ me_ cd_ A_ ls C hrt hW hl
  have hx := C.1; have hb := C.2.1; have hown := C.2.2.2.1; have ht := C.2.2.2.2.1
  replace hl : lv_has ls 5 [(0, .ref to), (1, .int g9), (2, .int x9), (3, .int w9), (4, .int y9)] := hl
  generalize hQ : MQ be_ _ ar_ s_ 0 0 A_ = Q
  refine lv_iload_n hx hb dX10_note_0 rfl (lv_at hl 1 rfl) ?_
  refine lv_iconst (v := 1) hx hb dX10_note_1 (by decide) ?_
  refine lv_bipush (v := 9) hx hb dX10_note_2 (by decide) ?_
  refine g_fi C hW [] rfl (g_runS (As := [.int g9, .int 1, .int 9]) (rest := []) (wc := []) C hW hl (c_X10_isWithin l G g9 1 9  _) k_ml_X10_73 q_X10_isWithin (by decide) [] rfl rfl rfl rfl (Nat.le_of_ble_eq_true rfl) dX10_note_4 (by decide)) (fun r_935 er_935 => ?_)
  clear hW; intro H locs hW
  refine lv_as (y := bI (iw g9 1 9)) er_935 ?_
  clear er_935 r_935
  refine lv_if_eq (tgt := 41) hx hb dX10_note_7 (by decide) (fun c_936 => ?_) (fun c_936 => ?_)
  · exfalso; exact dd (by first | assumption | exact okp_nI (by omega) (by assumption) | exact decide_eq_true (by first | assumption | omega)) c_936
  · refine lv_iload_n hx hb dX10_note_10 rfl (lv_at hl 2 rfl) ?_
    refine lv_iconst (v := 0) hx hb dX10_note_11 (by decide) ?_
    refine lv_bipush (v := 30) hx hb dX10_note_12 (by decide) ?_
    refine g_fi C hW [] rfl (g_runS (As := [.int x9, .int 0, .int 30]) (rest := []) (wc := []) C hW hl (c_X10_isWithin l G x9 0 30  _) k_ml_X10_73 q_X10_isWithin (by decide) [] rfl rfl rfl rfl (Nat.le_of_ble_eq_true rfl) dX10_note_14 (by decide)) (fun r_937 er_937 => ?_)
    clear hW H locs; intro H locs hW
    refine lv_as (y := bI (iw x9 0 30)) er_937 ?_
    clear er_937 r_937
    refine lv_if_eq (tgt := 41) hx hb dX10_note_17 (by decide) (fun c_938 => ?_) (fun c_938 => ?_)
    · exfalso; exact dd (by first | assumption | exact okp_nI (by omega) (by assumption) | exact decide_eq_true (by first | assumption | omega)) c_938
    · refine lv_iload_n hx hb dX10_note_20 rfl (lv_at hl 3 rfl) ?_
      refine lv_bipush (v := (-4)) hx hb dX10_note_21 (by decide) ?_
      refine lv_iconst (v := 4) hx hb dX10_note_23 (by decide) ?_
      refine g_fi C hW [] rfl (g_runS (As := [.int w9, .int (-4), .int 4]) (rest := []) (wc := []) C hW hl (c_X10_isWithin l G w9 (-4) 4  _) k_ml_X10_73 q_X10_isWithin (by decide) [] rfl rfl rfl rfl (Nat.le_of_ble_eq_true rfl) dX10_note_24 (by decide)) (fun r_939 er_939 => ?_)
      clear hW H locs; intro H locs hW
      refine lv_as (y := bI (iw w9 (-4) 4)) er_939 ?_
      clear er_939 r_939
      refine lv_if_eq (tgt := 41) hx hb dX10_note_27 (by decide) (fun c_940 => ?_) (fun c_940 => ?_)
      · exfalso; exact dd (by first | assumption | exact okp_nI (by omega) (by assumption) | exact decide_eq_true (by first | assumption | omega)) c_940
      · refine lv_iload hx hb dX10_note_30 (lv_at hl 4 rfl) ?_
        refine lv_iconst (v := 0) hx hb dX10_note_32 (by decide) ?_
        refine lv_bipush (v := 99) hx hb dX10_note_33 (by decide) ?_
        refine g_fi C hW [] rfl (g_runS (As := [.int y9, .int 0, .int 99]) (rest := []) (wc := []) C hW hl (c_X10_isWithin l G y9 0 99  _) k_ml_X10_73 q_X10_isWithin (by decide) [] rfl rfl rfl rfl (Nat.le_of_ble_eq_true rfl) dX10_note_35 (by decide)) (fun r_941 er_941 => ?_)
        clear hW H locs; intro H locs hW
        refine lv_as (y := bI (iw y9 0 99)) er_941 ?_
        clear er_941 r_941
        refine lv_if_ne (tgt := 48) hx hb dX10_note_38 (by decide) (fun c_942 => ?_) (fun c_942 => ?_)
        · refine lv_aload_n hx hb dX10_note_48 rfl (lv_at hl 0 rfl) ?_
          refine g_get (k := 0) (v := .ref v) C hW 0 rfl rfl jnX10 (by decide) k_fl_X10_10 rfl dX10_note_49 ?_
          refine g_getN (k := 5) (v := .ref vn) (host := RX10) C hW 1 rfl rfl jnX9 (by decide) (List.mem_of_getElem? (i := 11) rfl) rfl dX10_note_52 ?_
          refine g_fi C hW [2] rfl (g_runV (As := []) (rest := []) (wc := [(vn, .inr (4, [.int 6, .int 4, .ref vnc, .int (nI nn)]))]) (q0 := 0) (ci := 4) C hW hl (c_X6_isFull l G vn vnc 6 4 nn (by omega) (by omega) _) k_ml_X10_115 q_X6_isFull (by decide) [2] rfl rfl rfl rfl rfl rfl (Nat.le_of_ble_eq_true rfl) dX10_note_55 (by decide)) (fun r_943 er_943 => ?_)
          clear hW H locs; intro H locs hW
          refine lv_as (y := bI (decide (6 ≤ nn))) er_943 ?_
          clear er_943 r_943
          refine lv_if_eq (tgt := 68) hx hb dX10_note_58 (by decide) (fun c_944 => ?_) (fun c_944 => ?_)
          · refine lv_aload_n hx hb dX10_note_68 rfl (lv_at hl 0 rfl) ?_
            refine g_get (k := 0) (v := .ref v) C hW 0 rfl rfl jnX10 (by decide) k_fl_X10_10 rfl dX10_note_69 ?_
            refine g_getN (k := 5) (v := .ref vn) (host := RX10) C hW 1 rfl rfl jnX9 (by decide) (List.mem_of_getElem? (i := 11) rfl) rfl dX10_note_72 ?_
            refine lv_iload_n hx hb dX10_note_75 rfl (lv_at hl 1 rfl) ?_
            refine lv_iload_n hx hb dX10_note_76 rfl (lv_at hl 2 rfl) ?_
            refine lv_iload_n hx hb dX10_note_77 rfl (lv_at hl 3 rfl) ?_
            refine lv_iload hx hb dX10_note_78 (lv_at hl 4 rfl) ?_
            refine g_fiw (wr := [(to, .inr (8, [.ref v, .ref iv, .ref jv, .int k1, .int k2, .ref rd, .ref st, .ref ra, .ref og, .int ab, .int be, .int bds, .int nos, .int fls])), (v, .inr (7, [.int wide, .ref vw, .ref vc, .ref vp, .ref vs, .ref vn, .ref vm, .ref vu]))]) (ww := fun (u_ : Unit) => [(vn, .inr (4, [.int (nI 6), .int (nI 4), .ref vnc, .int (nI (nn + 1))])), (vnc, .inl (G.2.1, (6 * 4), .inl (if 3 < 4 then upd (if 2 < 4 then upd (if 1 < 4 then upd (if 0 < 4 then upd nf (nn * 4 + 0) g9 else nf) (nn * 4 + 1) x9 else (if 0 < 4 then upd nf (nn * 4 + 0) g9 else nf)) (nn * 4 + 2) w9 else (if 1 < 4 then upd (if 0 < 4 then upd nf (nn * 4 + 0) g9 else nf) (nn * 4 + 1) x9 else (if 0 < 4 then upd nf (nn * 4 + 0) g9 else nf))) (nn * 4 + 3) y9 else (if 2 < 4 then upd (if 1 < 4 then upd (if 0 < 4 then upd nf (nn * 4 + 0) g9 else nf) (nn * 4 + 1) x9 else (if 0 < 4 then upd nf (nn * 4 + 0) g9 else nf)) (nn * 4 + 2) w9 else (if 1 < 4 then upd (if 0 < 4 then upd nf (nn * 4 + 0) g9 else nf) (nn * 4 + 1) x9 else (if 0 < 4 then upd nf (nn * 4 + 0) g9 else nf))))))]) (w2 := fun (u_ : Unit) => [(to, .inr (8, [.ref v, .ref iv, .ref jv, .int k1, .int k2, .ref rd, .ref st, .ref ra, .ref og, .int ab, .int be, .int bds, .int nos, .int fls])), (v, .inr (7, [.int wide, .ref vw, .ref vc, .ref vp, .ref vs, .ref vn, .ref vm, .ref vu])), (vn, .inr (4, [.int (nI 6), .int (nI 4), .ref vnc, .int (nI (nn + 1))])), (vnc, .inl (G.2.1, (6 * 4), .inl (if 3 < 4 then upd (if 2 < 4 then upd (if 1 < 4 then upd (if 0 < 4 then upd nf (nn * 4 + 0) g9 else nf) (nn * 4 + 1) x9 else (if 0 < 4 then upd nf (nn * 4 + 0) g9 else nf)) (nn * 4 + 2) w9 else (if 1 < 4 then upd (if 0 < 4 then upd nf (nn * 4 + 0) g9 else nf) (nn * 4 + 1) x9 else (if 0 < 4 then upd nf (nn * 4 + 0) g9 else nf))) (nn * 4 + 3) y9 else (if 2 < 4 then upd (if 1 < 4 then upd (if 0 < 4 then upd nf (nn * 4 + 0) g9 else nf) (nn * 4 + 1) x9 else (if 0 < 4 then upd nf (nn * 4 + 0) g9 else nf)) (nn * 4 + 2) w9 else (if 1 < 4 then upd (if 0 < 4 then upd nf (nn * 4 + 0) g9 else nf) (nn * 4 + 1) x9 else (if 0 < 4 then upd nf (nn * 4 + 0) g9 else nf))))))]) C hW [2, 3] [0, 1] [0, 1, 2, 3] rfl rfl (by decide) (by decide) (by decide) (fun _ => rfl) (g_runV (As := [.int g9, .int x9, .int w9, .int y9]) (rest := []) (wc := [(vn, .inr (4, [.int 6, .int 4, .ref vnc, .int (nI nn)])), (vnc, .inl (G.2.1, 24, .inl nf))]) (q0 := 0) (ci := 4) C hW hl (c_X6_add l G vn vnc 6 4 nn nf g9 x9 w9 y9 (by omega) (by omega) _) k_ml_X10_122 q_X6_add (by decide) [2, 3] rfl rfl rfl rfl rfl rfl (Nat.le_of_ble_eq_true rfl) dX10_note_80 (by decide)) (fun r_945 _ er_945 => ?_)
            clear hW H locs; intro H locs hW
            refine lv_as (y := nI (nn + 1)) er_945 ?_
            clear er_945 r_945
            replace hW : Wd G A_ s_.heap [(to, .inr (8, [.ref v, .ref iv, .ref jv, .int k1, .int k2, .ref rd, .ref st, .ref ra, .ref og, .int ab, .int be, .int bds, .int nos, .int fls])), (v, .inr (7, [.int wide, .ref vw, .ref vc, .ref vp, .ref vs, .ref vn, .ref vm, .ref vu])), (vn, .inr (4, [.int 6, .int 4, .ref vnc, .int (nI (nn + 1))])), (vnc, .inl (G.2.1, (6 * 4), .inl (if 3 < 4 then upd (if 2 < 4 then upd (if 1 < 4 then upd (if 0 < 4 then upd nf (nn * 4 + 0) g9 else nf) (nn * 4 + 1) x9 else (if 0 < 4 then upd nf (nn * 4 + 0) g9 else nf)) (nn * 4 + 2) w9 else (if 1 < 4 then upd (if 0 < 4 then upd nf (nn * 4 + 0) g9 else nf) (nn * 4 + 1) x9 else (if 0 < 4 then upd nf (nn * 4 + 0) g9 else nf))) (nn * 4 + 3) y9 else (if 2 < 4 then upd (if 1 < 4 then upd (if 0 < 4 then upd nf (nn * 4 + 0) g9 else nf) (nn * 4 + 1) x9 else (if 0 < 4 then upd nf (nn * 4 + 0) g9 else nf)) (nn * 4 + 2) w9 else (if 1 < 4 then upd (if 0 < 4 then upd nf (nn * 4 + 0) g9 else nf) (nn * 4 + 1) x9 else (if 0 < 4 then upd nf (nn * 4 + 0) g9 else nf))))))] H locs := hW
            replace hW : Wd G A_ s_.heap [(to, .inr (8, [.ref v, .ref iv, .ref jv, .int k1, .int k2, .ref rd, .ref st, .ref ra, .ref og, .int ab, .int be, .int bds, .int nos, .int fls])), (v, .inr (7, [.int wide, .ref vw, .ref vc, .ref vp, .ref vs, .ref vn, .ref vm, .ref vu])), (vn, .inr (4, [.int 6, .int 4, .ref vnc, .int (nI (nn + 1))])), (vnc, .inl (G.2.1, (6 * 4), .inl (upd (upd (upd (upd nf (nn * 4 + 0) g9) (nn * 4 + 1) x9) (nn * 4 + 2) w9) (nn * 4 + 3) y9)))] H locs := by rw [← (show (if 3 < 4 then upd (if 2 < 4 then upd (if 1 < 4 then upd (if 0 < 4 then upd nf (nn * 4 + 0) g9 else nf) (nn * 4 + 1) x9 else (if 0 < 4 then upd nf (nn * 4 + 0) g9 else nf)) (nn * 4 + 2) w9 else (if 1 < 4 then upd (if 0 < 4 then upd nf (nn * 4 + 0) g9 else nf) (nn * 4 + 1) x9 else (if 0 < 4 then upd nf (nn * 4 + 0) g9 else nf))) (nn * 4 + 3) y9 else (if 2 < 4 then upd (if 1 < 4 then upd (if 0 < 4 then upd nf (nn * 4 + 0) g9 else nf) (nn * 4 + 1) x9 else (if 0 < 4 then upd nf (nn * 4 + 0) g9 else nf)) (nn * 4 + 2) w9 else (if 1 < 4 then upd (if 0 < 4 then upd nf (nn * 4 + 0) g9 else nf) (nn * 4 + 1) x9 else (if 0 < 4 then upd nf (nn * 4 + 0) g9 else nf)))) = upd (upd (upd (upd nf (nn * 4 + 0) g9) (nn * 4 + 1) x9) (nn * 4 + 2) w9) (nn * 4 + 3) y9 from by simp)]; exact hW
            subst hQ
            exact g_iret (v := (nI (nn + 1))) C hW hrt ⟨(), by rfl, by rfl⟩ dX10_note_83
          · exfalso; exact dd0 (by first | assumption | exact decide_eq_false (by first | assumption | omega)) c_944
        · exfalso; exact dd (by first | assumption | exact okp_nI (by omega) (by assumption) | exact decide_eq_true (by first | assumption | omega)) c_942
set_option maxHeartbeats 4000000 in
set_option maxRecDepth 100000 in
theorem c_X10_note_full (l : Launch) (G : gT) (v vw vc vp vs vn vm vu : Nat) (wide : Int32) (to iv jv rd st ra og : Nat) (k1 k2 ab be bds nos fls : Int32) (vnc nn : Nat) (nf : Nat → Int32) (g9 x9 w9 y9 : Int32) (h1 : iw g9 1 9 = true) (h2 : iw x9 0 30 = true) (h3 : iw w9 (-4) 4 = true) (h4 : iw y9 0 99 = true) (ho : nn = 6) : MI l G yX10_note cX10_note 5 .int ({ frames := 1, cells := 0, slots := 0, locals := 22 }) [.ref to, .int g9, .int x9, .int w9, .int y9] [(to, .inr (8, [.ref v, .ref iv, .ref jv, .int k1, .int k2, .ref rd, .ref st, .ref ra, .ref og, .int ab, .int be, .int bds, .int nos, .int fls])), (v, .inr (7, [.int wide, .ref vw, .ref vc, .ref vp, .ref vs, .ref vn, .ref vm, .ref vu])), (vn, .inr (4, [.int 6, .int 4, .ref vnc, .int (nI nn)])), (vnc, .inl (G.2.1, 24, .inl nf))] (fun (r : Int32) w1 => ∃ u_ : Unit, (r = (-4)) ∧ w1 = [(to, .inr (8, [.ref v, .ref iv, .ref jv, .int k1, .int k2, .ref rd, .ref st, .ref ra, .ref og, .int ab, .int be, .int bds, .int nos, .int (fls + 1)])), (v, .inr (7, [.int wide, .ref vw, .ref vc, .ref vp, .ref vs, .ref vn, .ref vm, .ref vu])), (vn, .inr (4, [.int 6, .int 4, .ref vnc, .int (nI nn)])), (vnc, .inl (G.2.1, 24, .inl nf))]) := by
  refine MI.mk (by decide) (Nat.le_of_ble_eq_true rfl) ?_
  intro p_ e_ s_ m_ ar_ be_ me_ cd_ A_ ls C hrt hW hl
  have hx := C.1; have hb := C.2.1; have hown := C.2.2.2.1; have ht := C.2.2.2.2.1
  replace hl : lv_has ls 5 [(0, .ref to), (1, .int g9), (2, .int x9), (3, .int w9), (4, .int y9)] := hl
  generalize hQ : MQ be_ _ ar_ s_ 0 0 A_ = Q
  refine lv_iload_n hx hb dX10_note_0 rfl (lv_at hl 1 rfl) ?_
  refine lv_iconst (v := 1) hx hb dX10_note_1 (by decide) ?_
  refine lv_bipush (v := 9) hx hb dX10_note_2 (by decide) ?_
  refine g_fi C hW [] rfl (g_runS (As := [.int g9, .int 1, .int 9]) (rest := []) (wc := []) C hW hl (c_X10_isWithin l G g9 1 9  _) k_ml_X10_73 q_X10_isWithin (by decide) [] rfl rfl rfl rfl (Nat.le_of_ble_eq_true rfl) dX10_note_4 (by decide)) (fun r_947 er_947 => ?_)
  clear hW; intro H locs hW
  refine lv_as (y := bI (iw g9 1 9)) er_947 ?_
  clear er_947 r_947
  refine lv_if_eq (tgt := 41) hx hb dX10_note_7 (by decide) (fun c_948 => ?_) (fun c_948 => ?_)
  · exfalso; exact dd (by first | assumption | exact okp_nI (by omega) (by assumption) | exact decide_eq_true (by first | assumption | omega)) c_948
  · refine lv_iload_n hx hb dX10_note_10 rfl (lv_at hl 2 rfl) ?_
    refine lv_iconst (v := 0) hx hb dX10_note_11 (by decide) ?_
    refine lv_bipush (v := 30) hx hb dX10_note_12 (by decide) ?_
    refine g_fi C hW [] rfl (g_runS (As := [.int x9, .int 0, .int 30]) (rest := []) (wc := []) C hW hl (c_X10_isWithin l G x9 0 30  _) k_ml_X10_73 q_X10_isWithin (by decide) [] rfl rfl rfl rfl (Nat.le_of_ble_eq_true rfl) dX10_note_14 (by decide)) (fun r_949 er_949 => ?_)
    clear hW H locs; intro H locs hW
    refine lv_as (y := bI (iw x9 0 30)) er_949 ?_
    clear er_949 r_949
    refine lv_if_eq (tgt := 41) hx hb dX10_note_17 (by decide) (fun c_950 => ?_) (fun c_950 => ?_)
    · exfalso; exact dd (by first | assumption | exact okp_nI (by omega) (by assumption) | exact decide_eq_true (by first | assumption | omega)) c_950
    · refine lv_iload_n hx hb dX10_note_20 rfl (lv_at hl 3 rfl) ?_
      refine lv_bipush (v := (-4)) hx hb dX10_note_21 (by decide) ?_
      refine lv_iconst (v := 4) hx hb dX10_note_23 (by decide) ?_
      refine g_fi C hW [] rfl (g_runS (As := [.int w9, .int (-4), .int 4]) (rest := []) (wc := []) C hW hl (c_X10_isWithin l G w9 (-4) 4  _) k_ml_X10_73 q_X10_isWithin (by decide) [] rfl rfl rfl rfl (Nat.le_of_ble_eq_true rfl) dX10_note_24 (by decide)) (fun r_951 er_951 => ?_)
      clear hW H locs; intro H locs hW
      refine lv_as (y := bI (iw w9 (-4) 4)) er_951 ?_
      clear er_951 r_951
      refine lv_if_eq (tgt := 41) hx hb dX10_note_27 (by decide) (fun c_952 => ?_) (fun c_952 => ?_)
      · exfalso; exact dd (by first | assumption | exact okp_nI (by omega) (by assumption) | exact decide_eq_true (by first | assumption | omega)) c_952
      · refine lv_iload hx hb dX10_note_30 (lv_at hl 4 rfl) ?_
        refine lv_iconst (v := 0) hx hb dX10_note_32 (by decide) ?_
        refine lv_bipush (v := 99) hx hb dX10_note_33 (by decide) ?_
        refine g_fi C hW [] rfl (g_runS (As := [.int y9, .int 0, .int 99]) (rest := []) (wc := []) C hW hl (c_X10_isWithin l G y9 0 99  _) k_ml_X10_73 q_X10_isWithin (by decide) [] rfl rfl rfl rfl (Nat.le_of_ble_eq_true rfl) dX10_note_35 (by decide)) (fun r_953 er_953 => ?_)
        clear hW H locs; intro H locs hW
        refine lv_as (y := bI (iw y9 0 99)) er_953 ?_
        clear er_953 r_953
        refine lv_if_ne (tgt := 48) hx hb dX10_note_38 (by decide) (fun c_954 => ?_) (fun c_954 => ?_)
        · refine lv_aload_n hx hb dX10_note_48 rfl (lv_at hl 0 rfl) ?_
          refine g_get (k := 0) (v := .ref v) C hW 0 rfl rfl jnX10 (by decide) k_fl_X10_10 rfl dX10_note_49 ?_
          refine g_getN (k := 5) (v := .ref vn) (host := RX10) C hW 1 rfl rfl jnX9 (by decide) (List.mem_of_getElem? (i := 11) rfl) rfl dX10_note_52 ?_
          refine g_fi C hW [2] rfl (g_runV (As := []) (rest := []) (wc := [(vn, .inr (4, [.int 6, .int 4, .ref vnc, .int (nI nn)]))]) (q0 := 0) (ci := 4) C hW hl (c_X6_isFull l G vn vnc 6 4 nn (by omega) (by omega) _) k_ml_X10_115 q_X6_isFull (by decide) [2] rfl rfl rfl rfl rfl rfl (Nat.le_of_ble_eq_true rfl) dX10_note_55 (by decide)) (fun r_955 er_955 => ?_)
          clear hW H locs; intro H locs hW
          refine lv_as (y := bI (decide (6 ≤ nn))) er_955 ?_
          clear er_955 r_955
          refine lv_if_eq (tgt := 68) hx hb dX10_note_58 (by decide) (fun c_956 => ?_) (fun c_956 => ?_)
          · exfalso; exact dd (by first | assumption | exact okp_nI (by omega) (by assumption) | exact decide_eq_true (by first | assumption | omega)) c_956
          · refine lv_aload_n hx hb dX10_note_61 rfl (lv_at hl 0 rfl) ?_
            refine g_fiw (wr := [(v, .inr (7, [.int wide, .ref vw, .ref vc, .ref vp, .ref vs, .ref vn, .ref vm, .ref vu])), (vn, .inr (4, [.int 6, .int 4, .ref vnc, .int (nI nn)])), (vnc, .inl (G.2.1, 24, .inl nf))]) (ww := fun (u_ : Unit) => [(to, .inr (8, [.ref v, .ref iv, .ref jv, .int k1, .int k2, .ref rd, .ref st, .ref ra, .ref og, .int ab, .int be, .int bds, .int nos, .int (fls + 1)]))]) (w2 := fun (u_ : Unit) => [(to, .inr (8, [.ref v, .ref iv, .ref jv, .int k1, .int k2, .ref rd, .ref st, .ref ra, .ref og, .int ab, .int be, .int bds, .int nos, .int (fls + 1)])), (v, .inr (7, [.int wide, .ref vw, .ref vc, .ref vp, .ref vs, .ref vn, .ref vm, .ref vu])), (vn, .inr (4, [.int 6, .int 4, .ref vnc, .int (nI nn)])), (vnc, .inl (G.2.1, 24, .inl nf))]) C hW [0] [1, 2, 3] [3, 0, 1, 2] rfl rfl (by decide) (by decide) (by decide) (fun _ => rfl) (g_runV (As := []) (rest := []) (wc := [(to, .inr (8, [.ref v, .ref iv, .ref jv, .int k1, .int k2, .ref rd, .ref st, .ref ra, .ref og, .int ab, .int be, .int bds, .int nos, .int fls]))]) (q0 := 0) (ci := 8) C hW hl (c_X10_refuseFull l G v to iv jv rd st ra og k1 k2 ab be bds nos fls  _) k_ml_X10_119 q_X10_refuseFull (by decide) [0] rfl rfl rfl rfl rfl rfl (Nat.le_of_ble_eq_true rfl) dX10_note_62 (by decide)) (fun r_957 _ er_957 => ?_)
            clear hW H locs; intro H locs hW
            refine lv_as (y := (-4)) er_957 ?_
            clear er_957 r_957
            replace hW : Wd G A_ s_.heap [(to, .inr (8, [.ref v, .ref iv, .ref jv, .int k1, .int k2, .ref rd, .ref st, .ref ra, .ref og, .int ab, .int be, .int bds, .int nos, .int (fls + 1)])), (v, .inr (7, [.int wide, .ref vw, .ref vc, .ref vp, .ref vs, .ref vn, .ref vm, .ref vu])), (vn, .inr (4, [.int 6, .int 4, .ref vnc, .int (nI nn)])), (vnc, .inl (G.2.1, 24, .inl nf))] H locs := hW
            refine lv_goto (tgt := 83) hx hb dX10_note_65 (by decide) ?_
            subst hQ
            exact g_iret (v := (-4)) C hW hrt ⟨(), by rfl, by rfl⟩ dX10_note_83
        · exfalso; exact dd (by first | assumption | exact okp_nI (by omega) (by assumption) | exact decide_eq_true (by first | assumption | omega)) c_954
set_option maxHeartbeats 4000000 in
set_option maxRecDepth 100000 in
theorem c_X10_note_bad (l : Launch) (G : gT) (v : Nat) (to iv jv rd st ra og : Nat) (k1 k2 ab be bds nos fls : Int32) (g9 x9 w9 y9 : Int32) (hbad : (iw g9 1 9 && (iw x9 0 30 && (iw w9 (-4) 4 && iw y9 0 99))) = false) : MI l G yX10_note cX10_note 5 .int ({ frames := 1, cells := 0, slots := 0, locals := 22 }) [.ref to, .int g9, .int x9, .int w9, .int y9] [(to, .inr (8, [.ref v, .ref iv, .ref jv, .int k1, .int k2, .ref rd, .ref st, .ref ra, .ref og, .int ab, .int be, .int bds, .int nos, .int fls]))] (fun (r : Int32) w1 => ∃ u_ : Unit, (r = (-2)) ∧ w1 = [(to, .inr (8, [.ref v, .ref iv, .ref jv, .int k1, .int k2, .ref rd, .ref st, .ref ra, .ref og, .int ab, .int be, .int (bds + 1), .int nos, .int fls]))]) := by
  refine MI.mk (by decide) (Nat.le_of_ble_eq_true rfl) ?_
  intro p_ e_ s_ m_ ar_ be_ me_ cd_ A_ ls C hrt hW hl
  have hx := C.1; have hb := C.2.1; have hown := C.2.2.2.1; have ht := C.2.2.2.2.1
  replace hl : lv_has ls 5 [(0, .ref to), (1, .int g9), (2, .int x9), (3, .int w9), (4, .int y9)] := hl
  generalize hQ : MQ be_ _ ar_ s_ 0 0 A_ = Q
  refine lv_iload_n hx hb dX10_note_0 rfl (lv_at hl 1 rfl) ?_
  refine lv_iconst (v := 1) hx hb dX10_note_1 (by decide) ?_
  refine lv_bipush (v := 9) hx hb dX10_note_2 (by decide) ?_
  refine g_fi C hW [] rfl (g_runS (As := [.int g9, .int 1, .int 9]) (rest := []) (wc := []) C hW hl (c_X10_isWithin l G g9 1 9  _) k_ml_X10_73 q_X10_isWithin (by decide) [] rfl rfl rfl rfl (Nat.le_of_ble_eq_true rfl) dX10_note_4 (by decide)) (fun r_959 er_959 => ?_)
  clear hW; intro H locs hW
  refine lv_as (y := bI (iw g9 1 9)) er_959 ?_
  clear er_959 r_959
  have J_967 : ∀ (H : Heap) (locs : List Loc) (ls : Array Slot), Wd G A_ s_.heap [(to, .inr (8, [.ref v, .ref iv, .ref jv, .int k1, .int k2, .ref rd, .ref st, .ref ra, .ref og, .int ab, .int be, .int bds, .int nos, .int fls]))] H locs → lv_has ls 5 [(0, .ref to), (1, .int g9), (2, .int x9), (3, .int w9), (4, .int y9)] → W p_ l e_ ({ frames := 1, cells := 0, slots := 0, locals := 22 }) s_ m_ ar_ be_ me_ cd_ H locs 0 0 Q (F0 m_ 41 ls []) := by
    intro  H locs ls hW hl
    refine lv_aload_n hx hb dX10_note_41 rfl (lv_at hl 0 rfl) ?_
    refine lv_bipush (v := (-2)) hx hb dX10_note_42 (by decide) ?_
    refine g_fiw (wr := []) (ww := fun (u_ : Unit) => [(to, .inr (8, [.ref v, .ref iv, .ref jv, .int k1, .int k2, .ref rd, .ref st, .ref ra, .ref og, .int ab, .int be, .int (bds + 1), .int nos, .int fls]))]) (w2 := fun (u_ : Unit) => [(to, .inr (8, [.ref v, .ref iv, .ref jv, .int k1, .int k2, .ref rd, .ref st, .ref ra, .ref og, .int ab, .int be, .int (bds + 1), .int nos, .int fls]))]) C hW [0] [] [0] rfl rfl (by decide) (by decide) (by decide) (fun _ => rfl) (g_runV (As := [.int (-2)]) (rest := []) (wc := [(to, .inr (8, [.ref v, .ref iv, .ref jv, .int k1, .int k2, .ref rd, .ref st, .ref ra, .ref og, .int ab, .int be, .int bds, .int nos, .int fls]))]) (q0 := 0) (ci := 8) C hW hl (c_X10_refuseBad l G v to iv jv rd st ra og k1 k2 ab be bds nos fls (-2)  _) k_ml_X10_77 q_X10_refuseBad (by decide) [0] rfl rfl rfl rfl rfl rfl (Nat.le_of_ble_eq_true rfl) dX10_note_44 (by decide)) (fun r_968 _ er_968 => ?_)
    clear hW H locs; intro H locs hW
    refine lv_as (y := (-2)) er_968 ?_
    clear er_968 r_968
    replace hW : Wd G A_ s_.heap [(to, .inr (8, [.ref v, .ref iv, .ref jv, .int k1, .int k2, .ref rd, .ref st, .ref ra, .ref og, .int ab, .int be, .int (bds + 1), .int nos, .int fls]))] H locs := hW
    subst hQ
    exact g_iret (v := (-2)) C hW hrt ⟨(), by rfl, by rfl⟩ dX10_note_47
  refine lv_if_eq (tgt := 41) hx hb dX10_note_7 (by decide) (fun c_960 => ?_) (fun c_960 => ?_)
  · exact J_967  _ _ _ hW (lv_sub hl [0, 1, 2, 3, 4] rfl)
  · refine lv_iload_n hx hb dX10_note_10 rfl (lv_at hl 2 rfl) ?_
    refine lv_iconst (v := 0) hx hb dX10_note_11 (by decide) ?_
    refine lv_bipush (v := 30) hx hb dX10_note_12 (by decide) ?_
    refine g_fi C hW [] rfl (g_runS (As := [.int x9, .int 0, .int 30]) (rest := []) (wc := []) C hW hl (c_X10_isWithin l G x9 0 30  _) k_ml_X10_73 q_X10_isWithin (by decide) [] rfl rfl rfl rfl (Nat.le_of_ble_eq_true rfl) dX10_note_14 (by decide)) (fun r_970 er_970 => ?_)
    clear hW H locs; intro H locs hW
    refine lv_as (y := bI (iw x9 0 30)) er_970 ?_
    clear er_970 r_970
    refine lv_if_eq (tgt := 41) hx hb dX10_note_17 (by decide) (fun c_971 => ?_) (fun c_971 => ?_)
    · exact J_967  _ _ _ hW (lv_sub hl [0, 1, 2, 3, 4] rfl)
    · refine lv_iload_n hx hb dX10_note_20 rfl (lv_at hl 3 rfl) ?_
      refine lv_bipush (v := (-4)) hx hb dX10_note_21 (by decide) ?_
      refine lv_iconst (v := 4) hx hb dX10_note_23 (by decide) ?_
      refine g_fi C hW [] rfl (g_runS (As := [.int w9, .int (-4), .int 4]) (rest := []) (wc := []) C hW hl (c_X10_isWithin l G w9 (-4) 4  _) k_ml_X10_73 q_X10_isWithin (by decide) [] rfl rfl rfl rfl (Nat.le_of_ble_eq_true rfl) dX10_note_24 (by decide)) (fun r_972 er_972 => ?_)
      clear hW H locs; intro H locs hW
      refine lv_as (y := bI (iw w9 (-4) 4)) er_972 ?_
      clear er_972 r_972
      refine lv_if_eq (tgt := 41) hx hb dX10_note_27 (by decide) (fun c_973 => ?_) (fun c_973 => ?_)
      · exact J_967  _ _ _ hW (lv_sub hl [0, 1, 2, 3, 4] rfl)
      · refine lv_iload hx hb dX10_note_30 (lv_at hl 4 rfl) ?_
        refine lv_iconst (v := 0) hx hb dX10_note_32 (by decide) ?_
        refine lv_bipush (v := 99) hx hb dX10_note_33 (by decide) ?_
        refine g_fi C hW [] rfl (g_runS (As := [.int y9, .int 0, .int 99]) (rest := []) (wc := []) C hW hl (c_X10_isWithin l G y9 0 99  _) k_ml_X10_73 q_X10_isWithin (by decide) [] rfl rfl rfl rfl (Nat.le_of_ble_eq_true rfl) dX10_note_35 (by decide)) (fun r_974 er_974 => ?_)
        clear hW H locs; intro H locs hW
        refine lv_as (y := bI (iw y9 0 99)) er_974 ?_
        clear er_974 r_974
        refine lv_if_ne (tgt := 48) hx hb dX10_note_38 (by decide) (fun c_975 => ?_) (fun c_975 => ?_)
        · exfalso; simp [bI_ne.mp c_960, bI_ne.mp c_971, bI_ne.mp c_973, bI_ne.mp c_975, if_true, if_false, reduceIte, Bool.false_eq_true] at hbad
        · exact J_967  _ _ _ hW (lv_sub hl [0, 1, 2, 3, 4] rfl)
set_option maxHeartbeats 4000000 in
set_option maxRecDepth 100000 in
theorem c_X10_mark_ok (l : Launch) (G : gT) (v vw vc vp vs vn vm vu : Nat) (wide : Int32) (to iv jv rd st ra og : Nat) (k1 k2 ab be bds nos fls : Int32) (vpc n : Nat) (vmc mn : Nat) (mf : Nat → Int32) (k : Nat) (b9 t9 x9 : Int32) (hk : k < n) (hn : n ≤ 7) (h2 : iw b9 1 9 = true) (h3 : iw t9 0 23 = true) (h4 : iw x9 0 30 = true) (hm : mn < 6) : MI l G yX10_mark cX10_mark 5 .int ({ frames := 2, cells := 0, slots := 0, locals := 46 }) [.ref to, .int (nI k), .int b9, .int t9, .int x9] [(to, .inr (8, [.ref v, .ref iv, .ref jv, .int k1, .int k2, .ref rd, .ref st, .ref ra, .ref og, .int ab, .int be, .int bds, .int nos, .int fls])), (v, .inr (7, [.int wide, .ref vw, .ref vc, .ref vp, .ref vs, .ref vn, .ref vm, .ref vu])), (vp, .inr (4, [.int 7, .int 3, .ref vpc, .int (nI n)])), (vm, .inr (4, [.int 6, .int 4, .ref vmc, .int (nI mn)])), (vmc, .inl (G.2.1, 24, .inl mf))] (fun (r : Int32) w1 => ∃ u_ : Unit, (r = nI (mn + 1)) ∧ w1 = [(to, .inr (8, [.ref v, .ref iv, .ref jv, .int k1, .int k2, .ref rd, .ref st, .ref ra, .ref og, .int ab, .int be, .int bds, .int nos, .int fls])), (v, .inr (7, [.int wide, .ref vw, .ref vc, .ref vp, .ref vs, .ref vn, .ref vm, .ref vu])), (vp, .inr (4, [.int 7, .int 3, .ref vpc, .int (nI n)])), (vm, .inr (4, [.int 6, .int 4, .ref vmc, .int (nI (mn + 1))])), (vmc, .inl (G.2.1, 24, .inl (upd (upd (upd (upd mf (mn * 4 + 0) (nI k)) (mn * 4 + 1) b9) (mn * 4 + 2) t9) (mn * 4 + 3) x9)))]) := by
  refine MI.mk (by decide) (Nat.le_of_ble_eq_true rfl) ?_
  intro p_ e_ s_ m_ ar_ be_ me_ cd_ A_ ls C hrt hW hl
  have hx := C.1; have hb := C.2.1; have hown := C.2.2.2.1; have ht := C.2.2.2.2.1
  replace hl : lv_has ls 5 [(0, .ref to), (1, .int (nI k)), (2, .int b9), (3, .int t9), (4, .int x9)] := hl
  generalize hQ : MQ be_ _ ar_ s_ 0 0 A_ = Q
  refine lv_aload_n hx hb dX10_mark_0 rfl (lv_at hl 0 rfl) ?_
  refine g_get (k := 0) (v := .ref v) C hW 0 rfl rfl jnX10 (by decide) k_fl_X10_10 rfl dX10_mark_1 ?_
  refine g_getN (k := 3) (v := .ref vp) (host := RX10) C hW 1 rfl rfl jnX9 (by decide) (List.mem_of_getElem? (i := 5) rfl) rfl dX10_mark_4 ?_
  refine lv_iload_n hx hb dX10_mark_7 rfl (lv_at hl 1 rfl) ?_
  refine g_fi C hW [2] rfl (g_runV (As := [.int (nI k)]) (rest := []) (wc := [(vp, .inr (4, [.int 7, .int 3, .ref vpc, .int (nI n)]))]) (q0 := 0) (ci := 4) C hW hl (c_X6_has l G vp vpc 7 3 n (nI k)  _) k_ml_X10_161 q_X6_has (by decide) [2] rfl rfl rfl rfl rfl rfl (Nat.le_of_ble_eq_true rfl) dX10_mark_8 (by decide)) (fun r_976 er_976 => ?_)
  clear hW; intro H locs hW
  refine lv_as (y := bI (okp n (nI k))) er_976 ?_
  clear er_976 r_976
  refine lv_if_eq (tgt := 45) hx hb dX10_mark_11 (by decide) (fun c_977 => ?_) (fun c_977 => ?_)
  · exfalso; exact dd (by first | assumption | exact okp_nI (by omega) (by assumption) | exact decide_eq_true (by first | assumption | omega)) c_977
  · refine lv_iload_n hx hb dX10_mark_14 rfl (lv_at hl 2 rfl) ?_
    refine lv_iconst (v := 1) hx hb dX10_mark_15 (by decide) ?_
    refine lv_bipush (v := 9) hx hb dX10_mark_16 (by decide) ?_
    refine g_fi C hW [] rfl (g_runS (As := [.int b9, .int 1, .int 9]) (rest := []) (wc := []) C hW hl (c_X10_isWithin l G b9 1 9  _) k_ml_X10_73 q_X10_isWithin (by decide) [] rfl rfl rfl rfl (Nat.le_of_ble_eq_true rfl) dX10_mark_18 (by decide)) (fun r_978 er_978 => ?_)
    clear hW H locs; intro H locs hW
    refine lv_as (y := bI (iw b9 1 9)) er_978 ?_
    clear er_978 r_978
    refine lv_if_eq (tgt := 45) hx hb dX10_mark_21 (by decide) (fun c_979 => ?_) (fun c_979 => ?_)
    · exfalso; exact dd (by first | assumption | exact okp_nI (by omega) (by assumption) | exact decide_eq_true (by first | assumption | omega)) c_979
    · refine lv_iload_n hx hb dX10_mark_24 rfl (lv_at hl 3 rfl) ?_
      refine lv_iconst (v := 0) hx hb dX10_mark_25 (by decide) ?_
      refine lv_bipush (v := 23) hx hb dX10_mark_26 (by decide) ?_
      refine g_fi C hW [] rfl (g_runS (As := [.int t9, .int 0, .int 23]) (rest := []) (wc := []) C hW hl (c_X10_isWithin l G t9 0 23  _) k_ml_X10_73 q_X10_isWithin (by decide) [] rfl rfl rfl rfl (Nat.le_of_ble_eq_true rfl) dX10_mark_28 (by decide)) (fun r_980 er_980 => ?_)
      clear hW H locs; intro H locs hW
      refine lv_as (y := bI (iw t9 0 23)) er_980 ?_
      clear er_980 r_980
      refine lv_if_eq (tgt := 45) hx hb dX10_mark_31 (by decide) (fun c_981 => ?_) (fun c_981 => ?_)
      · exfalso; exact dd (by first | assumption | exact okp_nI (by omega) (by assumption) | exact decide_eq_true (by first | assumption | omega)) c_981
      · refine lv_iload hx hb dX10_mark_34 (lv_at hl 4 rfl) ?_
        refine lv_iconst (v := 0) hx hb dX10_mark_36 (by decide) ?_
        refine lv_bipush (v := 30) hx hb dX10_mark_37 (by decide) ?_
        refine g_fi C hW [] rfl (g_runS (As := [.int x9, .int 0, .int 30]) (rest := []) (wc := []) C hW hl (c_X10_isWithin l G x9 0 30  _) k_ml_X10_73 q_X10_isWithin (by decide) [] rfl rfl rfl rfl (Nat.le_of_ble_eq_true rfl) dX10_mark_39 (by decide)) (fun r_982 er_982 => ?_)
        clear hW H locs; intro H locs hW
        refine lv_as (y := bI (iw x9 0 30)) er_982 ?_
        clear er_982 r_982
        refine lv_if_ne (tgt := 52) hx hb dX10_mark_42 (by decide) (fun c_983 => ?_) (fun c_983 => ?_)
        · refine lv_aload_n hx hb dX10_mark_52 rfl (lv_at hl 0 rfl) ?_
          refine g_get (k := 0) (v := .ref v) C hW 0 rfl rfl jnX10 (by decide) k_fl_X10_10 rfl dX10_mark_53 ?_
          refine g_getN (k := 6) (v := .ref vm) (host := RX10) C hW 1 rfl rfl jnX9 (by decide) (List.mem_of_getElem? (i := 13) rfl) rfl dX10_mark_56 ?_
          refine g_fi C hW [3] rfl (g_runV (As := []) (rest := []) (wc := [(vm, .inr (4, [.int 6, .int 4, .ref vmc, .int (nI mn)]))]) (q0 := 0) (ci := 4) C hW hl (c_X6_isFull l G vm vmc 6 4 mn (by omega) (by omega) _) k_ml_X10_115 q_X6_isFull (by decide) [3] rfl rfl rfl rfl rfl rfl (Nat.le_of_ble_eq_true rfl) dX10_mark_59 (by decide)) (fun r_984 er_984 => ?_)
          clear hW H locs; intro H locs hW
          refine lv_as (y := bI (decide (6 ≤ mn))) er_984 ?_
          clear er_984 r_984
          refine lv_if_eq (tgt := 72) hx hb dX10_mark_62 (by decide) (fun c_985 => ?_) (fun c_985 => ?_)
          · refine lv_aload_n hx hb dX10_mark_72 rfl (lv_at hl 0 rfl) ?_
            refine g_get (k := 0) (v := .ref v) C hW 0 rfl rfl jnX10 (by decide) k_fl_X10_10 rfl dX10_mark_73 ?_
            refine g_getN (k := 6) (v := .ref vm) (host := RX10) C hW 1 rfl rfl jnX9 (by decide) (List.mem_of_getElem? (i := 13) rfl) rfl dX10_mark_76 ?_
            refine lv_iload_n hx hb dX10_mark_79 rfl (lv_at hl 1 rfl) ?_
            refine lv_iload_n hx hb dX10_mark_80 rfl (lv_at hl 2 rfl) ?_
            refine lv_iload_n hx hb dX10_mark_81 rfl (lv_at hl 3 rfl) ?_
            refine lv_iload hx hb dX10_mark_82 (lv_at hl 4 rfl) ?_
            refine g_fiw (wr := [(to, .inr (8, [.ref v, .ref iv, .ref jv, .int k1, .int k2, .ref rd, .ref st, .ref ra, .ref og, .int ab, .int be, .int bds, .int nos, .int fls])), (v, .inr (7, [.int wide, .ref vw, .ref vc, .ref vp, .ref vs, .ref vn, .ref vm, .ref vu])), (vp, .inr (4, [.int 7, .int 3, .ref vpc, .int (nI n)]))]) (ww := fun (u_ : Unit) => [(vm, .inr (4, [.int (nI 6), .int (nI 4), .ref vmc, .int (nI (mn + 1))])), (vmc, .inl (G.2.1, (6 * 4), .inl (if 3 < 4 then upd (if 2 < 4 then upd (if 1 < 4 then upd (if 0 < 4 then upd mf (mn * 4 + 0) (nI k) else mf) (mn * 4 + 1) b9 else (if 0 < 4 then upd mf (mn * 4 + 0) (nI k) else mf)) (mn * 4 + 2) t9 else (if 1 < 4 then upd (if 0 < 4 then upd mf (mn * 4 + 0) (nI k) else mf) (mn * 4 + 1) b9 else (if 0 < 4 then upd mf (mn * 4 + 0) (nI k) else mf))) (mn * 4 + 3) x9 else (if 2 < 4 then upd (if 1 < 4 then upd (if 0 < 4 then upd mf (mn * 4 + 0) (nI k) else mf) (mn * 4 + 1) b9 else (if 0 < 4 then upd mf (mn * 4 + 0) (nI k) else mf)) (mn * 4 + 2) t9 else (if 1 < 4 then upd (if 0 < 4 then upd mf (mn * 4 + 0) (nI k) else mf) (mn * 4 + 1) b9 else (if 0 < 4 then upd mf (mn * 4 + 0) (nI k) else mf))))))]) (w2 := fun (u_ : Unit) => [(to, .inr (8, [.ref v, .ref iv, .ref jv, .int k1, .int k2, .ref rd, .ref st, .ref ra, .ref og, .int ab, .int be, .int bds, .int nos, .int fls])), (v, .inr (7, [.int wide, .ref vw, .ref vc, .ref vp, .ref vs, .ref vn, .ref vm, .ref vu])), (vp, .inr (4, [.int 7, .int 3, .ref vpc, .int (nI n)])), (vm, .inr (4, [.int (nI 6), .int (nI 4), .ref vmc, .int (nI (mn + 1))])), (vmc, .inl (G.2.1, (6 * 4), .inl (if 3 < 4 then upd (if 2 < 4 then upd (if 1 < 4 then upd (if 0 < 4 then upd mf (mn * 4 + 0) (nI k) else mf) (mn * 4 + 1) b9 else (if 0 < 4 then upd mf (mn * 4 + 0) (nI k) else mf)) (mn * 4 + 2) t9 else (if 1 < 4 then upd (if 0 < 4 then upd mf (mn * 4 + 0) (nI k) else mf) (mn * 4 + 1) b9 else (if 0 < 4 then upd mf (mn * 4 + 0) (nI k) else mf))) (mn * 4 + 3) x9 else (if 2 < 4 then upd (if 1 < 4 then upd (if 0 < 4 then upd mf (mn * 4 + 0) (nI k) else mf) (mn * 4 + 1) b9 else (if 0 < 4 then upd mf (mn * 4 + 0) (nI k) else mf)) (mn * 4 + 2) t9 else (if 1 < 4 then upd (if 0 < 4 then upd mf (mn * 4 + 0) (nI k) else mf) (mn * 4 + 1) b9 else (if 0 < 4 then upd mf (mn * 4 + 0) (nI k) else mf))))))]) C hW [3, 4] [0, 1, 2] [0, 1, 2, 3, 4] rfl rfl (by decide) (by decide) (by decide) (fun _ => rfl) (g_runV (As := [.int (nI k), .int b9, .int t9, .int x9]) (rest := []) (wc := [(vm, .inr (4, [.int 6, .int 4, .ref vmc, .int (nI mn)])), (vmc, .inl (G.2.1, 24, .inl mf))]) (q0 := 0) (ci := 4) C hW hl (c_X6_add l G vm vmc 6 4 mn mf (nI k) b9 t9 x9 (by omega) (by omega) _) k_ml_X10_122 q_X6_add (by decide) [3, 4] rfl rfl rfl rfl rfl rfl (Nat.le_of_ble_eq_true rfl) dX10_mark_84 (by decide)) (fun r_986 _ er_986 => ?_)
            clear hW H locs; intro H locs hW
            refine lv_as (y := nI (mn + 1)) er_986 ?_
            clear er_986 r_986
            replace hW : Wd G A_ s_.heap [(to, .inr (8, [.ref v, .ref iv, .ref jv, .int k1, .int k2, .ref rd, .ref st, .ref ra, .ref og, .int ab, .int be, .int bds, .int nos, .int fls])), (v, .inr (7, [.int wide, .ref vw, .ref vc, .ref vp, .ref vs, .ref vn, .ref vm, .ref vu])), (vp, .inr (4, [.int 7, .int 3, .ref vpc, .int (nI n)])), (vm, .inr (4, [.int 6, .int 4, .ref vmc, .int (nI (mn + 1))])), (vmc, .inl (G.2.1, (6 * 4), .inl (if 3 < 4 then upd (if 2 < 4 then upd (if 1 < 4 then upd (if 0 < 4 then upd mf (mn * 4 + 0) (nI k) else mf) (mn * 4 + 1) b9 else (if 0 < 4 then upd mf (mn * 4 + 0) (nI k) else mf)) (mn * 4 + 2) t9 else (if 1 < 4 then upd (if 0 < 4 then upd mf (mn * 4 + 0) (nI k) else mf) (mn * 4 + 1) b9 else (if 0 < 4 then upd mf (mn * 4 + 0) (nI k) else mf))) (mn * 4 + 3) x9 else (if 2 < 4 then upd (if 1 < 4 then upd (if 0 < 4 then upd mf (mn * 4 + 0) (nI k) else mf) (mn * 4 + 1) b9 else (if 0 < 4 then upd mf (mn * 4 + 0) (nI k) else mf)) (mn * 4 + 2) t9 else (if 1 < 4 then upd (if 0 < 4 then upd mf (mn * 4 + 0) (nI k) else mf) (mn * 4 + 1) b9 else (if 0 < 4 then upd mf (mn * 4 + 0) (nI k) else mf))))))] H locs := hW
            replace hW : Wd G A_ s_.heap [(to, .inr (8, [.ref v, .ref iv, .ref jv, .int k1, .int k2, .ref rd, .ref st, .ref ra, .ref og, .int ab, .int be, .int bds, .int nos, .int fls])), (v, .inr (7, [.int wide, .ref vw, .ref vc, .ref vp, .ref vs, .ref vn, .ref vm, .ref vu])), (vp, .inr (4, [.int 7, .int 3, .ref vpc, .int (nI n)])), (vm, .inr (4, [.int 6, .int 4, .ref vmc, .int (nI (mn + 1))])), (vmc, .inl (G.2.1, (6 * 4), .inl (upd (upd (upd (upd mf (mn * 4 + 0) (nI k)) (mn * 4 + 1) b9) (mn * 4 + 2) t9) (mn * 4 + 3) x9)))] H locs := by rw [← (show (if 3 < 4 then upd (if 2 < 4 then upd (if 1 < 4 then upd (if 0 < 4 then upd mf (mn * 4 + 0) (nI k) else mf) (mn * 4 + 1) b9 else (if 0 < 4 then upd mf (mn * 4 + 0) (nI k) else mf)) (mn * 4 + 2) t9 else (if 1 < 4 then upd (if 0 < 4 then upd mf (mn * 4 + 0) (nI k) else mf) (mn * 4 + 1) b9 else (if 0 < 4 then upd mf (mn * 4 + 0) (nI k) else mf))) (mn * 4 + 3) x9 else (if 2 < 4 then upd (if 1 < 4 then upd (if 0 < 4 then upd mf (mn * 4 + 0) (nI k) else mf) (mn * 4 + 1) b9 else (if 0 < 4 then upd mf (mn * 4 + 0) (nI k) else mf)) (mn * 4 + 2) t9 else (if 1 < 4 then upd (if 0 < 4 then upd mf (mn * 4 + 0) (nI k) else mf) (mn * 4 + 1) b9 else (if 0 < 4 then upd mf (mn * 4 + 0) (nI k) else mf)))) = upd (upd (upd (upd mf (mn * 4 + 0) (nI k)) (mn * 4 + 1) b9) (mn * 4 + 2) t9) (mn * 4 + 3) x9 from by simp)]; exact hW
            subst hQ
            exact g_iret (v := (nI (mn + 1))) C hW hrt ⟨(), by rfl, by rfl⟩ dX10_mark_87
          · exfalso; exact dd0 (by first | assumption | exact decide_eq_false (by first | assumption | omega)) c_985
        · exfalso; exact dd (by first | assumption | exact okp_nI (by omega) (by assumption) | exact decide_eq_true (by first | assumption | omega)) c_983
set_option maxHeartbeats 4000000 in
set_option maxRecDepth 100000 in
theorem c_X10_mark_full (l : Launch) (G : gT) (v vw vc vp vs vn vm vu : Nat) (wide : Int32) (to iv jv rd st ra og : Nat) (k1 k2 ab be bds nos fls : Int32) (vpc n : Nat) (vmc mn : Nat) (mf : Nat → Int32) (k : Nat) (b9 t9 x9 : Int32) (hk : k < n) (hn : n ≤ 7) (h2 : iw b9 1 9 = true) (h3 : iw t9 0 23 = true) (h4 : iw x9 0 30 = true) (hm : mn = 6) : MI l G yX10_mark cX10_mark 5 .int ({ frames := 1, cells := 0, slots := 0, locals := 22 }) [.ref to, .int (nI k), .int b9, .int t9, .int x9] [(to, .inr (8, [.ref v, .ref iv, .ref jv, .int k1, .int k2, .ref rd, .ref st, .ref ra, .ref og, .int ab, .int be, .int bds, .int nos, .int fls])), (v, .inr (7, [.int wide, .ref vw, .ref vc, .ref vp, .ref vs, .ref vn, .ref vm, .ref vu])), (vp, .inr (4, [.int 7, .int 3, .ref vpc, .int (nI n)])), (vm, .inr (4, [.int 6, .int 4, .ref vmc, .int (nI mn)])), (vmc, .inl (G.2.1, 24, .inl mf))] (fun (r : Int32) w1 => ∃ u_ : Unit, (r = (-4)) ∧ w1 = [(to, .inr (8, [.ref v, .ref iv, .ref jv, .int k1, .int k2, .ref rd, .ref st, .ref ra, .ref og, .int ab, .int be, .int bds, .int nos, .int (fls + 1)])), (v, .inr (7, [.int wide, .ref vw, .ref vc, .ref vp, .ref vs, .ref vn, .ref vm, .ref vu])), (vp, .inr (4, [.int 7, .int 3, .ref vpc, .int (nI n)])), (vm, .inr (4, [.int 6, .int 4, .ref vmc, .int (nI mn)])), (vmc, .inl (G.2.1, 24, .inl mf))]) := by
  refine MI.mk (by decide) (Nat.le_of_ble_eq_true rfl) ?_
  intro p_ e_ s_ m_ ar_ be_ me_ cd_ A_ ls C hrt hW hl
  have hx := C.1; have hb := C.2.1; have hown := C.2.2.2.1; have ht := C.2.2.2.2.1
  replace hl : lv_has ls 5 [(0, .ref to), (1, .int (nI k)), (2, .int b9), (3, .int t9), (4, .int x9)] := hl
  generalize hQ : MQ be_ _ ar_ s_ 0 0 A_ = Q
  refine lv_aload_n hx hb dX10_mark_0 rfl (lv_at hl 0 rfl) ?_
  refine g_get (k := 0) (v := .ref v) C hW 0 rfl rfl jnX10 (by decide) k_fl_X10_10 rfl dX10_mark_1 ?_
  refine g_getN (k := 3) (v := .ref vp) (host := RX10) C hW 1 rfl rfl jnX9 (by decide) (List.mem_of_getElem? (i := 5) rfl) rfl dX10_mark_4 ?_
  refine lv_iload_n hx hb dX10_mark_7 rfl (lv_at hl 1 rfl) ?_
  refine g_fi C hW [2] rfl (g_runV (As := [.int (nI k)]) (rest := []) (wc := [(vp, .inr (4, [.int 7, .int 3, .ref vpc, .int (nI n)]))]) (q0 := 0) (ci := 4) C hW hl (c_X6_has l G vp vpc 7 3 n (nI k)  _) k_ml_X10_161 q_X6_has (by decide) [2] rfl rfl rfl rfl rfl rfl (Nat.le_of_ble_eq_true rfl) dX10_mark_8 (by decide)) (fun r_988 er_988 => ?_)
  clear hW; intro H locs hW
  refine lv_as (y := bI (okp n (nI k))) er_988 ?_
  clear er_988 r_988
  refine lv_if_eq (tgt := 45) hx hb dX10_mark_11 (by decide) (fun c_989 => ?_) (fun c_989 => ?_)
  · exfalso; exact dd (by first | assumption | exact okp_nI (by omega) (by assumption) | exact decide_eq_true (by first | assumption | omega)) c_989
  · refine lv_iload_n hx hb dX10_mark_14 rfl (lv_at hl 2 rfl) ?_
    refine lv_iconst (v := 1) hx hb dX10_mark_15 (by decide) ?_
    refine lv_bipush (v := 9) hx hb dX10_mark_16 (by decide) ?_
    refine g_fi C hW [] rfl (g_runS (As := [.int b9, .int 1, .int 9]) (rest := []) (wc := []) C hW hl (c_X10_isWithin l G b9 1 9  _) k_ml_X10_73 q_X10_isWithin (by decide) [] rfl rfl rfl rfl (Nat.le_of_ble_eq_true rfl) dX10_mark_18 (by decide)) (fun r_990 er_990 => ?_)
    clear hW H locs; intro H locs hW
    refine lv_as (y := bI (iw b9 1 9)) er_990 ?_
    clear er_990 r_990
    refine lv_if_eq (tgt := 45) hx hb dX10_mark_21 (by decide) (fun c_991 => ?_) (fun c_991 => ?_)
    · exfalso; exact dd (by first | assumption | exact okp_nI (by omega) (by assumption) | exact decide_eq_true (by first | assumption | omega)) c_991
    · refine lv_iload_n hx hb dX10_mark_24 rfl (lv_at hl 3 rfl) ?_
      refine lv_iconst (v := 0) hx hb dX10_mark_25 (by decide) ?_
      refine lv_bipush (v := 23) hx hb dX10_mark_26 (by decide) ?_
      refine g_fi C hW [] rfl (g_runS (As := [.int t9, .int 0, .int 23]) (rest := []) (wc := []) C hW hl (c_X10_isWithin l G t9 0 23  _) k_ml_X10_73 q_X10_isWithin (by decide) [] rfl rfl rfl rfl (Nat.le_of_ble_eq_true rfl) dX10_mark_28 (by decide)) (fun r_992 er_992 => ?_)
      clear hW H locs; intro H locs hW
      refine lv_as (y := bI (iw t9 0 23)) er_992 ?_
      clear er_992 r_992
      refine lv_if_eq (tgt := 45) hx hb dX10_mark_31 (by decide) (fun c_993 => ?_) (fun c_993 => ?_)
      · exfalso; exact dd (by first | assumption | exact okp_nI (by omega) (by assumption) | exact decide_eq_true (by first | assumption | omega)) c_993
      · refine lv_iload hx hb dX10_mark_34 (lv_at hl 4 rfl) ?_
        refine lv_iconst (v := 0) hx hb dX10_mark_36 (by decide) ?_
        refine lv_bipush (v := 30) hx hb dX10_mark_37 (by decide) ?_
        refine g_fi C hW [] rfl (g_runS (As := [.int x9, .int 0, .int 30]) (rest := []) (wc := []) C hW hl (c_X10_isWithin l G x9 0 30  _) k_ml_X10_73 q_X10_isWithin (by decide) [] rfl rfl rfl rfl (Nat.le_of_ble_eq_true rfl) dX10_mark_39 (by decide)) (fun r_994 er_994 => ?_)
        clear hW H locs; intro H locs hW
        refine lv_as (y := bI (iw x9 0 30)) er_994 ?_
        clear er_994 r_994
        refine lv_if_ne (tgt := 52) hx hb dX10_mark_42 (by decide) (fun c_995 => ?_) (fun c_995 => ?_)
        · refine lv_aload_n hx hb dX10_mark_52 rfl (lv_at hl 0 rfl) ?_
          refine g_get (k := 0) (v := .ref v) C hW 0 rfl rfl jnX10 (by decide) k_fl_X10_10 rfl dX10_mark_53 ?_
          refine g_getN (k := 6) (v := .ref vm) (host := RX10) C hW 1 rfl rfl jnX9 (by decide) (List.mem_of_getElem? (i := 13) rfl) rfl dX10_mark_56 ?_
          refine g_fi C hW [3] rfl (g_runV (As := []) (rest := []) (wc := [(vm, .inr (4, [.int 6, .int 4, .ref vmc, .int (nI mn)]))]) (q0 := 0) (ci := 4) C hW hl (c_X6_isFull l G vm vmc 6 4 mn (by omega) (by omega) _) k_ml_X10_115 q_X6_isFull (by decide) [3] rfl rfl rfl rfl rfl rfl (Nat.le_of_ble_eq_true rfl) dX10_mark_59 (by decide)) (fun r_996 er_996 => ?_)
          clear hW H locs; intro H locs hW
          refine lv_as (y := bI (decide (6 ≤ mn))) er_996 ?_
          clear er_996 r_996
          refine lv_if_eq (tgt := 72) hx hb dX10_mark_62 (by decide) (fun c_997 => ?_) (fun c_997 => ?_)
          · exfalso; exact dd (by first | assumption | exact okp_nI (by omega) (by assumption) | exact decide_eq_true (by first | assumption | omega)) c_997
          · refine lv_aload_n hx hb dX10_mark_65 rfl (lv_at hl 0 rfl) ?_
            refine g_fiw (wr := [(v, .inr (7, [.int wide, .ref vw, .ref vc, .ref vp, .ref vs, .ref vn, .ref vm, .ref vu])), (vp, .inr (4, [.int 7, .int 3, .ref vpc, .int (nI n)])), (vm, .inr (4, [.int 6, .int 4, .ref vmc, .int (nI mn)])), (vmc, .inl (G.2.1, 24, .inl mf))]) (ww := fun (u_ : Unit) => [(to, .inr (8, [.ref v, .ref iv, .ref jv, .int k1, .int k2, .ref rd, .ref st, .ref ra, .ref og, .int ab, .int be, .int bds, .int nos, .int (fls + 1)]))]) (w2 := fun (u_ : Unit) => [(to, .inr (8, [.ref v, .ref iv, .ref jv, .int k1, .int k2, .ref rd, .ref st, .ref ra, .ref og, .int ab, .int be, .int bds, .int nos, .int (fls + 1)])), (v, .inr (7, [.int wide, .ref vw, .ref vc, .ref vp, .ref vs, .ref vn, .ref vm, .ref vu])), (vp, .inr (4, [.int 7, .int 3, .ref vpc, .int (nI n)])), (vm, .inr (4, [.int 6, .int 4, .ref vmc, .int (nI mn)])), (vmc, .inl (G.2.1, 24, .inl mf))]) C hW [0] [1, 2, 3, 4] [4, 0, 1, 2, 3] rfl rfl (by decide) (by decide) (by decide) (fun _ => rfl) (g_runV (As := []) (rest := []) (wc := [(to, .inr (8, [.ref v, .ref iv, .ref jv, .int k1, .int k2, .ref rd, .ref st, .ref ra, .ref og, .int ab, .int be, .int bds, .int nos, .int fls]))]) (q0 := 0) (ci := 8) C hW hl (c_X10_refuseFull l G v to iv jv rd st ra og k1 k2 ab be bds nos fls  _) k_ml_X10_119 q_X10_refuseFull (by decide) [0] rfl rfl rfl rfl rfl rfl (Nat.le_of_ble_eq_true rfl) dX10_mark_66 (by decide)) (fun r_998 _ er_998 => ?_)
            clear hW H locs; intro H locs hW
            refine lv_as (y := (-4)) er_998 ?_
            clear er_998 r_998
            replace hW : Wd G A_ s_.heap [(to, .inr (8, [.ref v, .ref iv, .ref jv, .int k1, .int k2, .ref rd, .ref st, .ref ra, .ref og, .int ab, .int be, .int bds, .int nos, .int (fls + 1)])), (v, .inr (7, [.int wide, .ref vw, .ref vc, .ref vp, .ref vs, .ref vn, .ref vm, .ref vu])), (vp, .inr (4, [.int 7, .int 3, .ref vpc, .int (nI n)])), (vm, .inr (4, [.int 6, .int 4, .ref vmc, .int (nI mn)])), (vmc, .inl (G.2.1, 24, .inl mf))] H locs := hW
            refine lv_goto (tgt := 87) hx hb dX10_mark_69 (by decide) ?_
            subst hQ
            exact g_iret (v := (-4)) C hW hrt ⟨(), by rfl, by rfl⟩ dX10_mark_87
        · exfalso; exact dd (by first | assumption | exact okp_nI (by omega) (by assumption) | exact decide_eq_true (by first | assumption | omega)) c_995
set_option maxHeartbeats 4000000 in
set_option maxRecDepth 100000 in
theorem c_X10_mark_bad (l : Launch) (G : gT) (v vw vc vp vs vn vm vu : Nat) (wide : Int32) (to iv jv rd st ra og : Nat) (k1 k2 ab be bds nos fls : Int32) (vpc n : Nat) (p9 b9 t9 x9 : Int32) (hbad : (okp n p9 && (iw b9 1 9 && (iw t9 0 23 && iw x9 0 30))) = false) : MI l G yX10_mark cX10_mark 5 .int ({ frames := 1, cells := 0, slots := 0, locals := 22 }) [.ref to, .int p9, .int b9, .int t9, .int x9] [(to, .inr (8, [.ref v, .ref iv, .ref jv, .int k1, .int k2, .ref rd, .ref st, .ref ra, .ref og, .int ab, .int be, .int bds, .int nos, .int fls])), (v, .inr (7, [.int wide, .ref vw, .ref vc, .ref vp, .ref vs, .ref vn, .ref vm, .ref vu])), (vp, .inr (4, [.int 7, .int 3, .ref vpc, .int (nI n)]))] (fun (r : Int32) w1 => ∃ u_ : Unit, (r = (-2)) ∧ w1 = [(to, .inr (8, [.ref v, .ref iv, .ref jv, .int k1, .int k2, .ref rd, .ref st, .ref ra, .ref og, .int ab, .int be, .int (bds + 1), .int nos, .int fls])), (v, .inr (7, [.int wide, .ref vw, .ref vc, .ref vp, .ref vs, .ref vn, .ref vm, .ref vu])), (vp, .inr (4, [.int 7, .int 3, .ref vpc, .int (nI n)]))]) := by
  refine MI.mk (by decide) (Nat.le_of_ble_eq_true rfl) ?_
  intro p_ e_ s_ m_ ar_ be_ me_ cd_ A_ ls C hrt hW hl
  have hx := C.1; have hb := C.2.1; have hown := C.2.2.2.1; have ht := C.2.2.2.2.1
  replace hl : lv_has ls 5 [(0, .ref to), (1, .int p9), (2, .int b9), (3, .int t9), (4, .int x9)] := hl
  generalize hQ : MQ be_ _ ar_ s_ 0 0 A_ = Q
  refine lv_aload_n hx hb dX10_mark_0 rfl (lv_at hl 0 rfl) ?_
  refine g_get (k := 0) (v := .ref v) C hW 0 rfl rfl jnX10 (by decide) k_fl_X10_10 rfl dX10_mark_1 ?_
  refine g_getN (k := 3) (v := .ref vp) (host := RX10) C hW 1 rfl rfl jnX9 (by decide) (List.mem_of_getElem? (i := 5) rfl) rfl dX10_mark_4 ?_
  refine lv_iload_n hx hb dX10_mark_7 rfl (lv_at hl 1 rfl) ?_
  refine g_fi C hW [2] rfl (g_runV (As := [.int p9]) (rest := []) (wc := [(vp, .inr (4, [.int 7, .int 3, .ref vpc, .int (nI n)]))]) (q0 := 0) (ci := 4) C hW hl (c_X6_has l G vp vpc 7 3 n p9  _) k_ml_X10_161 q_X6_has (by decide) [2] rfl rfl rfl rfl rfl rfl (Nat.le_of_ble_eq_true rfl) dX10_mark_8 (by decide)) (fun r_1000 er_1000 => ?_)
  clear hW; intro H locs hW
  refine lv_as (y := bI (okp n p9)) er_1000 ?_
  clear er_1000 r_1000
  have J_1008 : ∀ (H : Heap) (locs : List Loc) (ls : Array Slot), Wd G A_ s_.heap [(to, .inr (8, [.ref v, .ref iv, .ref jv, .int k1, .int k2, .ref rd, .ref st, .ref ra, .ref og, .int ab, .int be, .int bds, .int nos, .int fls])), (v, .inr (7, [.int wide, .ref vw, .ref vc, .ref vp, .ref vs, .ref vn, .ref vm, .ref vu])), (vp, .inr (4, [.int 7, .int 3, .ref vpc, .int (nI n)]))] H locs → lv_has ls 5 [(0, .ref to), (1, .int p9), (2, .int b9), (3, .int t9), (4, .int x9)] → W p_ l e_ ({ frames := 1, cells := 0, slots := 0, locals := 22 }) s_ m_ ar_ be_ me_ cd_ H locs 0 0 Q (F0 m_ 45 ls []) := by
    intro  H locs ls hW hl
    refine lv_aload_n hx hb dX10_mark_45 rfl (lv_at hl 0 rfl) ?_
    refine lv_bipush (v := (-2)) hx hb dX10_mark_46 (by decide) ?_
    refine g_fiw (wr := [(v, .inr (7, [.int wide, .ref vw, .ref vc, .ref vp, .ref vs, .ref vn, .ref vm, .ref vu])), (vp, .inr (4, [.int 7, .int 3, .ref vpc, .int (nI n)]))]) (ww := fun (u_ : Unit) => [(to, .inr (8, [.ref v, .ref iv, .ref jv, .int k1, .int k2, .ref rd, .ref st, .ref ra, .ref og, .int ab, .int be, .int (bds + 1), .int nos, .int fls]))]) (w2 := fun (u_ : Unit) => [(to, .inr (8, [.ref v, .ref iv, .ref jv, .int k1, .int k2, .ref rd, .ref st, .ref ra, .ref og, .int ab, .int be, .int (bds + 1), .int nos, .int fls])), (v, .inr (7, [.int wide, .ref vw, .ref vc, .ref vp, .ref vs, .ref vn, .ref vm, .ref vu])), (vp, .inr (4, [.int 7, .int 3, .ref vpc, .int (nI n)]))]) C hW [0] [1, 2] [2, 0, 1] rfl rfl (by decide) (by decide) (by decide) (fun _ => rfl) (g_runV (As := [.int (-2)]) (rest := []) (wc := [(to, .inr (8, [.ref v, .ref iv, .ref jv, .int k1, .int k2, .ref rd, .ref st, .ref ra, .ref og, .int ab, .int be, .int bds, .int nos, .int fls]))]) (q0 := 0) (ci := 8) C hW hl (c_X10_refuseBad l G v to iv jv rd st ra og k1 k2 ab be bds nos fls (-2)  _) k_ml_X10_77 q_X10_refuseBad (by decide) [0] rfl rfl rfl rfl rfl rfl (Nat.le_of_ble_eq_true rfl) dX10_mark_48 (by decide)) (fun r_1009 _ er_1009 => ?_)
    clear hW H locs; intro H locs hW
    refine lv_as (y := (-2)) er_1009 ?_
    clear er_1009 r_1009
    replace hW : Wd G A_ s_.heap [(to, .inr (8, [.ref v, .ref iv, .ref jv, .int k1, .int k2, .ref rd, .ref st, .ref ra, .ref og, .int ab, .int be, .int (bds + 1), .int nos, .int fls])), (v, .inr (7, [.int wide, .ref vw, .ref vc, .ref vp, .ref vs, .ref vn, .ref vm, .ref vu])), (vp, .inr (4, [.int 7, .int 3, .ref vpc, .int (nI n)]))] H locs := hW
    subst hQ
    exact g_iret (v := (-2)) C hW hrt ⟨(), by rfl, by rfl⟩ dX10_mark_51
  refine lv_if_eq (tgt := 45) hx hb dX10_mark_11 (by decide) (fun c_1001 => ?_) (fun c_1001 => ?_)
  · exact J_1008  _ _ _ hW (lv_sub hl [0, 1, 2, 3, 4] rfl)
  · refine lv_iload_n hx hb dX10_mark_14 rfl (lv_at hl 2 rfl) ?_
    refine lv_iconst (v := 1) hx hb dX10_mark_15 (by decide) ?_
    refine lv_bipush (v := 9) hx hb dX10_mark_16 (by decide) ?_
    refine g_fi C hW [] rfl (g_runS (As := [.int b9, .int 1, .int 9]) (rest := []) (wc := []) C hW hl (c_X10_isWithin l G b9 1 9  _) k_ml_X10_73 q_X10_isWithin (by decide) [] rfl rfl rfl rfl (Nat.le_of_ble_eq_true rfl) dX10_mark_18 (by decide)) (fun r_1011 er_1011 => ?_)
    clear hW H locs; intro H locs hW
    refine lv_as (y := bI (iw b9 1 9)) er_1011 ?_
    clear er_1011 r_1011
    refine lv_if_eq (tgt := 45) hx hb dX10_mark_21 (by decide) (fun c_1012 => ?_) (fun c_1012 => ?_)
    · exact J_1008  _ _ _ hW (lv_sub hl [0, 1, 2, 3, 4] rfl)
    · refine lv_iload_n hx hb dX10_mark_24 rfl (lv_at hl 3 rfl) ?_
      refine lv_iconst (v := 0) hx hb dX10_mark_25 (by decide) ?_
      refine lv_bipush (v := 23) hx hb dX10_mark_26 (by decide) ?_
      refine g_fi C hW [] rfl (g_runS (As := [.int t9, .int 0, .int 23]) (rest := []) (wc := []) C hW hl (c_X10_isWithin l G t9 0 23  _) k_ml_X10_73 q_X10_isWithin (by decide) [] rfl rfl rfl rfl (Nat.le_of_ble_eq_true rfl) dX10_mark_28 (by decide)) (fun r_1013 er_1013 => ?_)
      clear hW H locs; intro H locs hW
      refine lv_as (y := bI (iw t9 0 23)) er_1013 ?_
      clear er_1013 r_1013
      refine lv_if_eq (tgt := 45) hx hb dX10_mark_31 (by decide) (fun c_1014 => ?_) (fun c_1014 => ?_)
      · exact J_1008  _ _ _ hW (lv_sub hl [0, 1, 2, 3, 4] rfl)
      · refine lv_iload hx hb dX10_mark_34 (lv_at hl 4 rfl) ?_
        refine lv_iconst (v := 0) hx hb dX10_mark_36 (by decide) ?_
        refine lv_bipush (v := 30) hx hb dX10_mark_37 (by decide) ?_
        refine g_fi C hW [] rfl (g_runS (As := [.int x9, .int 0, .int 30]) (rest := []) (wc := []) C hW hl (c_X10_isWithin l G x9 0 30  _) k_ml_X10_73 q_X10_isWithin (by decide) [] rfl rfl rfl rfl (Nat.le_of_ble_eq_true rfl) dX10_mark_39 (by decide)) (fun r_1015 er_1015 => ?_)
        clear hW H locs; intro H locs hW
        refine lv_as (y := bI (iw x9 0 30)) er_1015 ?_
        clear er_1015 r_1015
        refine lv_if_ne (tgt := 52) hx hb dX10_mark_42 (by decide) (fun c_1016 => ?_) (fun c_1016 => ?_)
        · exfalso; simp [bI_ne.mp c_1001, bI_ne.mp c_1012, bI_ne.mp c_1014, bI_ne.mp c_1016, if_true, if_false, reduceIte, Bool.false_eq_true] at hbad
        · exact J_1008  _ _ _ hW (lv_sub hl [0, 1, 2, 3, 4] rfl)
set_option maxHeartbeats 4000000 in
set_option maxRecDepth 100000 in
theorem c_X10_forget_0 (l : Launch) (G : gT) (v vw vc vp vs vn vm vu : Nat) (wide : Int32) (to iv jv rd st ra og : Nat) (k1 k2 ab be bds nos fls : Int32) (vsc sn : Nat) (x9 : Int32) (hx9 : x9 = 0) : MI l G yX10_forget cX10_forget 2 .int ({ frames := 1, cells := 0, slots := 0, locals := 21 }) [.ref to, .int x9] [(to, .inr (8, [.ref v, .ref iv, .ref jv, .int k1, .int k2, .ref rd, .ref st, .ref ra, .ref og, .int ab, .int be, .int bds, .int nos, .int fls])), (v, .inr (7, [.int wide, .ref vw, .ref vc, .ref vp, .ref vs, .ref vn, .ref vm, .ref vu])), (vs, .inr (4, [.int 5, .int 3, .ref vsc, .int (nI sn)]))] (fun (r : Int32) w1 => ∃ u_ : Unit, (r = nI sn) ∧ w1 = [(to, .inr (8, [.ref v, .ref iv, .ref jv, .int k1, .int k2, .ref rd, .ref st, .ref ra, .ref og, .int ab, .int be, .int bds, .int nos, .int fls])), (v, .inr (7, [.int wide, .ref vw, .ref vc, .ref vp, .ref vs, .ref vn, .ref vm, .ref vu])), (vs, .inr (4, [.int 5, .int 3, .ref vsc, .int (nI 0)]))]) := by
  refine MI.mk (by decide) (Nat.le_of_ble_eq_true rfl) ?_
  intro p_ e_ s_ m_ ar_ be_ me_ cd_ A_ ls C hrt hW hl
  have hx := C.1; have hb := C.2.1; have hown := C.2.2.2.1; have ht := C.2.2.2.2.1
  replace hl : lv_has ls 2 [(0, .ref to), (1, .int x9)] := hl
  generalize hQ : MQ be_ _ ar_ s_ 0 0 A_ = Q
  refine lv_iload_n hx hb dX10_forget_0 rfl (lv_at hl 1 rfl) ?_
  by_cases c_1017 : x9 = 0
  · refine lv_as c_1017 (lv_tableIn (tgt := 28) hx hb dX10_forget_1 (by decide) (by decide) rfl (by decide) ?_)
    refine lv_aload_n hx hb dX10_forget_28 rfl (lv_at hl 0 rfl) ?_
    refine g_get (k := 0) (v := .ref v) C hW 0 rfl rfl jnX10 (by decide) k_fl_X10_10 rfl dX10_forget_29 ?_
    refine g_getN (k := 4) (v := .ref vs) (host := RX10) C hW 1 rfl rfl jnX9 (by decide) (List.mem_of_getElem? (i := 9) rfl) rfl dX10_forget_32 ?_
    refine g_fiw (wr := [(to, .inr (8, [.ref v, .ref iv, .ref jv, .int k1, .int k2, .ref rd, .ref st, .ref ra, .ref og, .int ab, .int be, .int bds, .int nos, .int fls])), (v, .inr (7, [.int wide, .ref vw, .ref vc, .ref vp, .ref vs, .ref vn, .ref vm, .ref vu]))]) (ww := fun (u_ : Unit) => [(vs, .inr (4, [.int (nI 5), .int (nI 3), .ref vsc, .int (nI 0)]))]) (w2 := fun (u_ : Unit) => [(to, .inr (8, [.ref v, .ref iv, .ref jv, .int k1, .int k2, .ref rd, .ref st, .ref ra, .ref og, .int ab, .int be, .int bds, .int nos, .int fls])), (v, .inr (7, [.int wide, .ref vw, .ref vc, .ref vp, .ref vs, .ref vn, .ref vm, .ref vu])), (vs, .inr (4, [.int (nI 5), .int (nI 3), .ref vsc, .int (nI 0)]))]) C hW [2] [0, 1] [0, 1, 2] rfl rfl (by decide) (by decide) (by decide) (fun _ => rfl) (g_runV (As := []) (rest := []) (wc := [(vs, .inr (4, [.int 5, .int 3, .ref vsc, .int (nI sn)]))]) (q0 := 0) (ci := 4) C hW hl (c_X6_empty l G vs vsc 5 3 sn  _) k_ml_X10_269 q_X6_empty (by decide) [2] rfl rfl rfl rfl rfl rfl (Nat.le_of_ble_eq_true rfl) dX10_forget_35 (by decide)) (fun r_1018 _ er_1018 => ?_)
    clear hW; intro H locs hW
    refine lv_as (y := nI sn) er_1018 ?_
    clear er_1018 r_1018
    replace hW : Wd G A_ s_.heap [(to, .inr (8, [.ref v, .ref iv, .ref jv, .int k1, .int k2, .ref rd, .ref st, .ref ra, .ref og, .int ab, .int be, .int bds, .int nos, .int fls])), (v, .inr (7, [.int wide, .ref vw, .ref vc, .ref vp, .ref vs, .ref vn, .ref vm, .ref vu])), (vs, .inr (4, [.int 5, .int 3, .ref vsc, .int (nI 0)]))] H locs := hW
    subst hQ
    exact g_iret (v := (nI sn)) C hW hrt ⟨(), by rfl, by rfl⟩ dX10_forget_38
  by_cases c_1020 : x9 = 1
  · exfalso; (rw [hx9] at c_1020; exact absurd c_1020 (by decide))
  by_cases c_1021 : x9 = 2
  · exfalso; (rw [hx9] at c_1021; exact absurd c_1021 (by decide))
  exfalso; exact c_1017 hx9
set_option maxHeartbeats 4000000 in
set_option maxRecDepth 100000 in
theorem c_X10_forget_1 (l : Launch) (G : gT) (v vw vc vp vs vn vm vu : Nat) (wide : Int32) (to iv jv rd st ra og : Nat) (k1 k2 ab be bds nos fls : Int32) (vnc nn : Nat) (x9 : Int32) (hx9 : x9 = 1) : MI l G yX10_forget cX10_forget 2 .int ({ frames := 1, cells := 0, slots := 0, locals := 21 }) [.ref to, .int x9] [(to, .inr (8, [.ref v, .ref iv, .ref jv, .int k1, .int k2, .ref rd, .ref st, .ref ra, .ref og, .int ab, .int be, .int bds, .int nos, .int fls])), (v, .inr (7, [.int wide, .ref vw, .ref vc, .ref vp, .ref vs, .ref vn, .ref vm, .ref vu])), (vn, .inr (4, [.int 6, .int 4, .ref vnc, .int (nI nn)]))] (fun (r : Int32) w1 => ∃ u_ : Unit, (r = nI nn) ∧ w1 = [(to, .inr (8, [.ref v, .ref iv, .ref jv, .int k1, .int k2, .ref rd, .ref st, .ref ra, .ref og, .int ab, .int be, .int bds, .int nos, .int fls])), (v, .inr (7, [.int wide, .ref vw, .ref vc, .ref vp, .ref vs, .ref vn, .ref vm, .ref vu])), (vn, .inr (4, [.int 6, .int 4, .ref vnc, .int (nI 0)]))]) := by
  refine MI.mk (by decide) (Nat.le_of_ble_eq_true rfl) ?_
  intro p_ e_ s_ m_ ar_ be_ me_ cd_ A_ ls C hrt hW hl
  have hx := C.1; have hb := C.2.1; have hown := C.2.2.2.1; have ht := C.2.2.2.2.1
  replace hl : lv_has ls 2 [(0, .ref to), (1, .int x9)] := hl
  generalize hQ : MQ be_ _ ar_ s_ 0 0 A_ = Q
  refine lv_iload_n hx hb dX10_forget_0 rfl (lv_at hl 1 rfl) ?_
  by_cases c_1022 : x9 = 0
  · exfalso; (rw [hx9] at c_1022; exact absurd c_1022 (by decide))
  by_cases c_1023 : x9 = 1
  · refine lv_as c_1023 (lv_tableIn (tgt := 39) hx hb dX10_forget_1 (by decide) (by decide) rfl (by decide) ?_)
    refine lv_aload_n hx hb dX10_forget_39 rfl (lv_at hl 0 rfl) ?_
    refine g_get (k := 0) (v := .ref v) C hW 0 rfl rfl jnX10 (by decide) k_fl_X10_10 rfl dX10_forget_40 ?_
    refine g_getN (k := 5) (v := .ref vn) (host := RX10) C hW 1 rfl rfl jnX9 (by decide) (List.mem_of_getElem? (i := 11) rfl) rfl dX10_forget_43 ?_
    refine g_fiw (wr := [(to, .inr (8, [.ref v, .ref iv, .ref jv, .int k1, .int k2, .ref rd, .ref st, .ref ra, .ref og, .int ab, .int be, .int bds, .int nos, .int fls])), (v, .inr (7, [.int wide, .ref vw, .ref vc, .ref vp, .ref vs, .ref vn, .ref vm, .ref vu]))]) (ww := fun (u_ : Unit) => [(vn, .inr (4, [.int (nI 6), .int (nI 4), .ref vnc, .int (nI 0)]))]) (w2 := fun (u_ : Unit) => [(to, .inr (8, [.ref v, .ref iv, .ref jv, .int k1, .int k2, .ref rd, .ref st, .ref ra, .ref og, .int ab, .int be, .int bds, .int nos, .int fls])), (v, .inr (7, [.int wide, .ref vw, .ref vc, .ref vp, .ref vs, .ref vn, .ref vm, .ref vu])), (vn, .inr (4, [.int (nI 6), .int (nI 4), .ref vnc, .int (nI 0)]))]) C hW [2] [0, 1] [0, 1, 2] rfl rfl (by decide) (by decide) (by decide) (fun _ => rfl) (g_runV (As := []) (rest := []) (wc := [(vn, .inr (4, [.int 6, .int 4, .ref vnc, .int (nI nn)]))]) (q0 := 0) (ci := 4) C hW hl (c_X6_empty l G vn vnc 6 4 nn  _) k_ml_X10_269 q_X6_empty (by decide) [2] rfl rfl rfl rfl rfl rfl (Nat.le_of_ble_eq_true rfl) dX10_forget_46 (by decide)) (fun r_1024 _ er_1024 => ?_)
    clear hW; intro H locs hW
    refine lv_as (y := nI nn) er_1024 ?_
    clear er_1024 r_1024
    replace hW : Wd G A_ s_.heap [(to, .inr (8, [.ref v, .ref iv, .ref jv, .int k1, .int k2, .ref rd, .ref st, .ref ra, .ref og, .int ab, .int be, .int bds, .int nos, .int fls])), (v, .inr (7, [.int wide, .ref vw, .ref vc, .ref vp, .ref vs, .ref vn, .ref vm, .ref vu])), (vn, .inr (4, [.int 6, .int 4, .ref vnc, .int (nI 0)]))] H locs := hW
    subst hQ
    exact g_iret (v := (nI nn)) C hW hrt ⟨(), by rfl, by rfl⟩ dX10_forget_49
  by_cases c_1026 : x9 = 2
  · exfalso; (rw [hx9] at c_1026; exact absurd c_1026 (by decide))
  exfalso; exact c_1023 hx9
set_option maxHeartbeats 4000000 in
set_option maxRecDepth 100000 in
theorem c_X10_forget_2 (l : Launch) (G : gT) (v vw vc vp vs vn vm vu : Nat) (wide : Int32) (to iv jv rd st ra og : Nat) (k1 k2 ab be bds nos fls : Int32) (vmc mn : Nat) (x9 : Int32) (hx9 : x9 = 2) : MI l G yX10_forget cX10_forget 2 .int ({ frames := 1, cells := 0, slots := 0, locals := 21 }) [.ref to, .int x9] [(to, .inr (8, [.ref v, .ref iv, .ref jv, .int k1, .int k2, .ref rd, .ref st, .ref ra, .ref og, .int ab, .int be, .int bds, .int nos, .int fls])), (v, .inr (7, [.int wide, .ref vw, .ref vc, .ref vp, .ref vs, .ref vn, .ref vm, .ref vu])), (vm, .inr (4, [.int 6, .int 4, .ref vmc, .int (nI mn)]))] (fun (r : Int32) w1 => ∃ u_ : Unit, (r = nI mn) ∧ w1 = [(to, .inr (8, [.ref v, .ref iv, .ref jv, .int k1, .int k2, .ref rd, .ref st, .ref ra, .ref og, .int ab, .int be, .int bds, .int nos, .int fls])), (v, .inr (7, [.int wide, .ref vw, .ref vc, .ref vp, .ref vs, .ref vn, .ref vm, .ref vu])), (vm, .inr (4, [.int 6, .int 4, .ref vmc, .int (nI 0)]))]) := by
  refine MI.mk (by decide) (Nat.le_of_ble_eq_true rfl) ?_
  intro p_ e_ s_ m_ ar_ be_ me_ cd_ A_ ls C hrt hW hl
  have hx := C.1; have hb := C.2.1; have hown := C.2.2.2.1; have ht := C.2.2.2.2.1
  replace hl : lv_has ls 2 [(0, .ref to), (1, .int x9)] := hl
  generalize hQ : MQ be_ _ ar_ s_ 0 0 A_ = Q
  refine lv_iload_n hx hb dX10_forget_0 rfl (lv_at hl 1 rfl) ?_
  by_cases c_1027 : x9 = 0
  · exfalso; (rw [hx9] at c_1027; exact absurd c_1027 (by decide))
  by_cases c_1028 : x9 = 1
  · exfalso; (rw [hx9] at c_1028; exact absurd c_1028 (by decide))
  by_cases c_1029 : x9 = 2
  · refine lv_as c_1029 (lv_tableIn (tgt := 50) hx hb dX10_forget_1 (by decide) (by decide) rfl (by decide) ?_)
    refine lv_aload_n hx hb dX10_forget_50 rfl (lv_at hl 0 rfl) ?_
    refine g_get (k := 0) (v := .ref v) C hW 0 rfl rfl jnX10 (by decide) k_fl_X10_10 rfl dX10_forget_51 ?_
    refine g_getN (k := 6) (v := .ref vm) (host := RX10) C hW 1 rfl rfl jnX9 (by decide) (List.mem_of_getElem? (i := 13) rfl) rfl dX10_forget_54 ?_
    refine g_fiw (wr := [(to, .inr (8, [.ref v, .ref iv, .ref jv, .int k1, .int k2, .ref rd, .ref st, .ref ra, .ref og, .int ab, .int be, .int bds, .int nos, .int fls])), (v, .inr (7, [.int wide, .ref vw, .ref vc, .ref vp, .ref vs, .ref vn, .ref vm, .ref vu]))]) (ww := fun (u_ : Unit) => [(vm, .inr (4, [.int (nI 6), .int (nI 4), .ref vmc, .int (nI 0)]))]) (w2 := fun (u_ : Unit) => [(to, .inr (8, [.ref v, .ref iv, .ref jv, .int k1, .int k2, .ref rd, .ref st, .ref ra, .ref og, .int ab, .int be, .int bds, .int nos, .int fls])), (v, .inr (7, [.int wide, .ref vw, .ref vc, .ref vp, .ref vs, .ref vn, .ref vm, .ref vu])), (vm, .inr (4, [.int (nI 6), .int (nI 4), .ref vmc, .int (nI 0)]))]) C hW [2] [0, 1] [0, 1, 2] rfl rfl (by decide) (by decide) (by decide) (fun _ => rfl) (g_runV (As := []) (rest := []) (wc := [(vm, .inr (4, [.int 6, .int 4, .ref vmc, .int (nI mn)]))]) (q0 := 0) (ci := 4) C hW hl (c_X6_empty l G vm vmc 6 4 mn  _) k_ml_X10_269 q_X6_empty (by decide) [2] rfl rfl rfl rfl rfl rfl (Nat.le_of_ble_eq_true rfl) dX10_forget_57 (by decide)) (fun r_1030 _ er_1030 => ?_)
    clear hW; intro H locs hW
    refine lv_as (y := nI mn) er_1030 ?_
    clear er_1030 r_1030
    replace hW : Wd G A_ s_.heap [(to, .inr (8, [.ref v, .ref iv, .ref jv, .int k1, .int k2, .ref rd, .ref st, .ref ra, .ref og, .int ab, .int be, .int bds, .int nos, .int fls])), (v, .inr (7, [.int wide, .ref vw, .ref vc, .ref vp, .ref vs, .ref vn, .ref vm, .ref vu])), (vm, .inr (4, [.int 6, .int 4, .ref vmc, .int (nI 0)]))] H locs := hW
    subst hQ
    exact g_iret (v := (nI mn)) C hW hrt ⟨(), by rfl, by rfl⟩ dX10_forget_60
  exfalso; exact c_1029 hx9
set_option maxHeartbeats 4000000 in
set_option maxRecDepth 100000 in
theorem c_X10_forget_bad (l : Launch) (G : gT) (v : Nat) (to iv jv rd st ra og : Nat) (k1 k2 ab be bds nos fls : Int32) (x9 : Int32) (hx9 : ¬ x9 = 0 ∧ ¬ x9 = 1 ∧ ¬ x9 = 2) : MI l G yX10_forget cX10_forget 2 .int ({ frames := 1, cells := 0, slots := 0, locals := 21 }) [.ref to, .int x9] [(to, .inr (8, [.ref v, .ref iv, .ref jv, .int k1, .int k2, .ref rd, .ref st, .ref ra, .ref og, .int ab, .int be, .int bds, .int nos, .int fls]))] (fun (r : Int32) w1 => ∃ u_ : Unit, (r = (-2)) ∧ w1 = [(to, .inr (8, [.ref v, .ref iv, .ref jv, .int k1, .int k2, .ref rd, .ref st, .ref ra, .ref og, .int ab, .int be, .int (bds + 1), .int nos, .int fls]))]) := by
  refine MI.mk (by decide) (Nat.le_of_ble_eq_true rfl) ?_
  intro p_ e_ s_ m_ ar_ be_ me_ cd_ A_ ls C hrt hW hl
  have hx := C.1; have hb := C.2.1; have hown := C.2.2.2.1; have ht := C.2.2.2.2.1
  replace hl : lv_has ls 2 [(0, .ref to), (1, .int x9)] := hl
  generalize hQ : MQ be_ _ ar_ s_ 0 0 A_ = Q
  refine lv_iload_n hx hb dX10_forget_0 rfl (lv_at hl 1 rfl) ?_
  by_cases c_1032 : x9 = 0
  · exfalso; exact hx9.1 c_1032
  by_cases c_1033 : x9 = 1
  · exfalso; exact hx9.2.1 c_1033
  by_cases c_1034 : x9 = 2
  · exfalso; exact hx9.2.2 c_1034
  refine lv_tableOut (tgt := 61) hx hb dX10_forget_1 (by have q0 := sw_ne (z := 0) c_1032 (by decide); have q1 := sw_ne (z := 1) c_1033 (by decide); have q2 := sw_ne (z := 2) c_1034 (by decide); omega) (by decide) ?_
  refine lv_aload_n hx hb dX10_forget_61 rfl (lv_at hl 0 rfl) ?_
  refine lv_bipush (v := (-2)) hx hb dX10_forget_62 (by decide) ?_
  refine g_fiw (wr := []) (ww := fun (u_ : Unit) => [(to, .inr (8, [.ref v, .ref iv, .ref jv, .int k1, .int k2, .ref rd, .ref st, .ref ra, .ref og, .int ab, .int be, .int (bds + 1), .int nos, .int fls]))]) (w2 := fun (u_ : Unit) => [(to, .inr (8, [.ref v, .ref iv, .ref jv, .int k1, .int k2, .ref rd, .ref st, .ref ra, .ref og, .int ab, .int be, .int (bds + 1), .int nos, .int fls]))]) C hW [0] [] [0] rfl rfl (by decide) (by decide) (by decide) (fun _ => rfl) (g_runV (As := [.int (-2)]) (rest := []) (wc := [(to, .inr (8, [.ref v, .ref iv, .ref jv, .int k1, .int k2, .ref rd, .ref st, .ref ra, .ref og, .int ab, .int be, .int bds, .int nos, .int fls]))]) (q0 := 0) (ci := 8) C hW hl (c_X10_refuseBad l G v to iv jv rd st ra og k1 k2 ab be bds nos fls (-2)  _) k_ml_X10_77 q_X10_refuseBad (by decide) [0] rfl rfl rfl rfl rfl rfl (Nat.le_of_ble_eq_true rfl) dX10_forget_64 (by decide)) (fun r_1035 _ er_1035 => ?_)
  clear hW; intro H locs hW
  refine lv_as (y := (-2)) er_1035 ?_
  clear er_1035 r_1035
  replace hW : Wd G A_ s_.heap [(to, .inr (8, [.ref v, .ref iv, .ref jv, .int k1, .int k2, .ref rd, .ref st, .ref ra, .ref og, .int ab, .int be, .int (bds + 1), .int nos, .int fls]))] H locs := hW
  subst hQ
  exact g_iret (v := (-2)) C hW hrt ⟨(), by rfl, by rfl⟩ dX10_forget_67
set_option maxHeartbeats 4000000 in
set_option maxRecDepth 100000 in
theorem c_X10_status_0 (l : Launch) (G : gT) (v : Nat) (to iv jv rd st ra og : Nat) (k1 k2 ab be bds nos fls : Int32) (x9 : Int32) (hx9 : x9 = 0) : MI l G yX10_status cX10_status 2 .int ({ frames := 0, cells := 0, slots := 0, locals := 0 }) [.ref to, .int x9] [(to, .inr (8, [.ref v, .ref iv, .ref jv, .int k1, .int k2, .ref rd, .ref st, .ref ra, .ref og, .int ab, .int be, .int bds, .int nos, .int fls]))] (fun (r : Int32) w1 => (r = bds) ∧ w1 = [(to, .inr (8, [.ref v, .ref iv, .ref jv, .int k1, .int k2, .ref rd, .ref st, .ref ra, .ref og, .int ab, .int be, .int bds, .int nos, .int fls]))]) := by
  refine MI.mk (by decide) (Nat.le_of_ble_eq_true rfl) ?_
  intro p_ e_ s_ m_ ar_ be_ me_ cd_ A_ ls C hrt hW hl
  have hx := C.1; have hb := C.2.1; have hown := C.2.2.2.1; have ht := C.2.2.2.2.1
  replace hl : lv_has ls 2 [(0, .ref to), (1, .int x9)] := hl
  generalize hQ : MQ be_ _ ar_ s_ 0 0 A_ = Q
  refine lv_iload_n hx hb dX10_status_0 rfl (lv_at hl 1 rfl) ?_
  by_cases c_1037 : x9 = 0
  · refine lv_as c_1037 (lv_tableIn (tgt := 28) hx hb dX10_status_1 (by decide) (by decide) rfl (by decide) ?_)
    refine lv_aload_n hx hb dX10_status_28 rfl (lv_at hl 0 rfl) ?_
    refine g_get (k := 11) (v := .int bds) C hW 0 rfl rfl jnX10 (by decide) k_fl_X10_64 rfl dX10_status_29 ?_
    subst hQ
    exact g_iret (v := bds) C hW hrt ⟨by rfl, rfl⟩ dX10_status_32
  by_cases c_1038 : x9 = 1
  · exfalso; (rw [hx9] at c_1038; exact absurd c_1038 (by decide))
  by_cases c_1039 : x9 = 2
  · exfalso; (rw [hx9] at c_1039; exact absurd c_1039 (by decide))
  exfalso; exact c_1037 hx9
set_option maxHeartbeats 4000000 in
set_option maxRecDepth 100000 in
theorem c_X10_status_1 (l : Launch) (G : gT) (v : Nat) (to iv jv rd st ra og : Nat) (k1 k2 ab be bds nos fls : Int32) (x9 : Int32) (hx9 : x9 = 1) : MI l G yX10_status cX10_status 2 .int ({ frames := 0, cells := 0, slots := 0, locals := 0 }) [.ref to, .int x9] [(to, .inr (8, [.ref v, .ref iv, .ref jv, .int k1, .int k2, .ref rd, .ref st, .ref ra, .ref og, .int ab, .int be, .int bds, .int nos, .int fls]))] (fun (r : Int32) w1 => (r = nos) ∧ w1 = [(to, .inr (8, [.ref v, .ref iv, .ref jv, .int k1, .int k2, .ref rd, .ref st, .ref ra, .ref og, .int ab, .int be, .int bds, .int nos, .int fls]))]) := by
  refine MI.mk (by decide) (Nat.le_of_ble_eq_true rfl) ?_
  intro p_ e_ s_ m_ ar_ be_ me_ cd_ A_ ls C hrt hW hl
  have hx := C.1; have hb := C.2.1; have hown := C.2.2.2.1; have ht := C.2.2.2.2.1
  replace hl : lv_has ls 2 [(0, .ref to), (1, .int x9)] := hl
  generalize hQ : MQ be_ _ ar_ s_ 0 0 A_ = Q
  refine lv_iload_n hx hb dX10_status_0 rfl (lv_at hl 1 rfl) ?_
  by_cases c_1040 : x9 = 0
  · exfalso; (rw [hx9] at c_1040; exact absurd c_1040 (by decide))
  by_cases c_1041 : x9 = 1
  · refine lv_as c_1041 (lv_tableIn (tgt := 33) hx hb dX10_status_1 (by decide) (by decide) rfl (by decide) ?_)
    refine lv_aload_n hx hb dX10_status_33 rfl (lv_at hl 0 rfl) ?_
    refine g_get (k := 12) (v := .int nos) C hW 0 rfl rfl jnX10 (by decide) k_fl_X10_67 rfl dX10_status_34 ?_
    subst hQ
    exact g_iret (v := nos) C hW hrt ⟨by rfl, rfl⟩ dX10_status_37
  by_cases c_1042 : x9 = 2
  · exfalso; (rw [hx9] at c_1042; exact absurd c_1042 (by decide))
  exfalso; exact c_1041 hx9
set_option maxHeartbeats 4000000 in
set_option maxRecDepth 100000 in
theorem c_X10_status_2 (l : Launch) (G : gT) (v : Nat) (to iv jv rd st ra og : Nat) (k1 k2 ab be bds nos fls : Int32) (x9 : Int32) (hx9 : x9 = 2) : MI l G yX10_status cX10_status 2 .int ({ frames := 0, cells := 0, slots := 0, locals := 0 }) [.ref to, .int x9] [(to, .inr (8, [.ref v, .ref iv, .ref jv, .int k1, .int k2, .ref rd, .ref st, .ref ra, .ref og, .int ab, .int be, .int bds, .int nos, .int fls]))] (fun (r : Int32) w1 => (r = fls) ∧ w1 = [(to, .inr (8, [.ref v, .ref iv, .ref jv, .int k1, .int k2, .ref rd, .ref st, .ref ra, .ref og, .int ab, .int be, .int bds, .int nos, .int fls]))]) := by
  refine MI.mk (by decide) (Nat.le_of_ble_eq_true rfl) ?_
  intro p_ e_ s_ m_ ar_ be_ me_ cd_ A_ ls C hrt hW hl
  have hx := C.1; have hb := C.2.1; have hown := C.2.2.2.1; have ht := C.2.2.2.2.1
  replace hl : lv_has ls 2 [(0, .ref to), (1, .int x9)] := hl
  generalize hQ : MQ be_ _ ar_ s_ 0 0 A_ = Q
  refine lv_iload_n hx hb dX10_status_0 rfl (lv_at hl 1 rfl) ?_
  by_cases c_1043 : x9 = 0
  · exfalso; (rw [hx9] at c_1043; exact absurd c_1043 (by decide))
  by_cases c_1044 : x9 = 1
  · exfalso; (rw [hx9] at c_1044; exact absurd c_1044 (by decide))
  by_cases c_1045 : x9 = 2
  · refine lv_as c_1045 (lv_tableIn (tgt := 38) hx hb dX10_status_1 (by decide) (by decide) rfl (by decide) ?_)
    refine lv_aload_n hx hb dX10_status_38 rfl (lv_at hl 0 rfl) ?_
    refine g_get (k := 13) (v := .int fls) C hW 0 rfl rfl jnX10 (by decide) k_fl_X10_70 rfl dX10_status_39 ?_
    subst hQ
    exact g_iret (v := fls) C hW hrt ⟨by rfl, rfl⟩ dX10_status_42
  exfalso; exact c_1045 hx9
set_option maxHeartbeats 4000000 in
set_option maxRecDepth 100000 in
theorem c_X10_status_bad (l : Launch) (G : gT) (v : Nat) (to iv jv rd st ra og : Nat) (k1 k2 ab be bds nos fls : Int32) (x9 : Int32) (hx9 : ¬ x9 = 0 ∧ ¬ x9 = 1 ∧ ¬ x9 = 2) : MI l G yX10_status cX10_status 2 .int ({ frames := 1, cells := 0, slots := 0, locals := 21 }) [.ref to, .int x9] [(to, .inr (8, [.ref v, .ref iv, .ref jv, .int k1, .int k2, .ref rd, .ref st, .ref ra, .ref og, .int ab, .int be, .int bds, .int nos, .int fls]))] (fun (r : Int32) w1 => ∃ u_ : Unit, (r = (-1)) ∧ w1 = [(to, .inr (8, [.ref v, .ref iv, .ref jv, .int k1, .int k2, .ref rd, .ref st, .ref ra, .ref og, .int ab, .int be, .int (bds + 1), .int nos, .int fls]))]) := by
  refine MI.mk (by decide) (Nat.le_of_ble_eq_true rfl) ?_
  intro p_ e_ s_ m_ ar_ be_ me_ cd_ A_ ls C hrt hW hl
  have hx := C.1; have hb := C.2.1; have hown := C.2.2.2.1; have ht := C.2.2.2.2.1
  replace hl : lv_has ls 2 [(0, .ref to), (1, .int x9)] := hl
  generalize hQ : MQ be_ _ ar_ s_ 0 0 A_ = Q
  refine lv_iload_n hx hb dX10_status_0 rfl (lv_at hl 1 rfl) ?_
  by_cases c_1046 : x9 = 0
  · exfalso; exact hx9.1 c_1046
  by_cases c_1047 : x9 = 1
  · exfalso; exact hx9.2.1 c_1047
  by_cases c_1048 : x9 = 2
  · exfalso; exact hx9.2.2 c_1048
  refine lv_tableOut (tgt := 43) hx hb dX10_status_1 (by have q0 := sw_ne (z := 0) c_1046 (by decide); have q1 := sw_ne (z := 1) c_1047 (by decide); have q2 := sw_ne (z := 2) c_1048 (by decide); omega) (by decide) ?_
  refine lv_aload_n hx hb dX10_status_43 rfl (lv_at hl 0 rfl) ?_
  refine lv_iconst (v := (-1)) hx hb dX10_status_44 (by decide) ?_
  refine g_fiw (wr := []) (ww := fun (u_ : Unit) => [(to, .inr (8, [.ref v, .ref iv, .ref jv, .int k1, .int k2, .ref rd, .ref st, .ref ra, .ref og, .int ab, .int be, .int (bds + 1), .int nos, .int fls]))]) (w2 := fun (u_ : Unit) => [(to, .inr (8, [.ref v, .ref iv, .ref jv, .int k1, .int k2, .ref rd, .ref st, .ref ra, .ref og, .int ab, .int be, .int (bds + 1), .int nos, .int fls]))]) C hW [0] [] [0] rfl rfl (by decide) (by decide) (by decide) (fun _ => rfl) (g_runV (As := [.int (-1)]) (rest := []) (wc := [(to, .inr (8, [.ref v, .ref iv, .ref jv, .int k1, .int k2, .ref rd, .ref st, .ref ra, .ref og, .int ab, .int be, .int bds, .int nos, .int fls]))]) (q0 := 0) (ci := 8) C hW hl (c_X10_refuseBad l G v to iv jv rd st ra og k1 k2 ab be bds nos fls (-1)  _) k_ml_X10_77 q_X10_refuseBad (by decide) [0] rfl rfl rfl rfl rfl rfl (Nat.le_of_ble_eq_true rfl) dX10_status_45 (by decide)) (fun r_1049 _ er_1049 => ?_)
  clear hW; intro H locs hW
  refine lv_as (y := (-1)) er_1049 ?_
  clear er_1049 r_1049
  replace hW : Wd G A_ s_.heap [(to, .inr (8, [.ref v, .ref iv, .ref jv, .int k1, .int k2, .ref rd, .ref st, .ref ra, .ref og, .int ab, .int be, .int (bds + 1), .int nos, .int fls]))] H locs := hW
  subst hQ
  exact g_iret (v := (-1)) C hW hrt ⟨(), by rfl, by rfl⟩ dX10_status_48
set_option maxHeartbeats 4000000 in
set_option maxRecDepth 100000 in
theorem c_X10_is (l : Launch) (G : gT) (v vw vc vp vs vn vm vu : Nat) (wide : Int32) (to iv jv rd st ra og : Nat) (k1 k2 ab be bds nos fls : Int32) (om : Nat) (vnc nn : Nat) (nf : Nat → Int32) (ho : nn ≤ 6) (hO : okN nn nf) : MI l G yX10_is cX10_is 1 .int ({ frames := 4, cells := 0, slots := 0, locals := 84 }) [.ref to] [(to, .inr (8, [.ref v, .ref iv, .ref jv, .int k1, .int k2, .ref rd, .ref st, .ref ra, .ref og, .int ab, .int be, .int bds, .int nos, .int fls])), (og, .inr (0, [.ref om])), (v, .inr (7, [.int wide, .ref vw, .ref vc, .ref vp, .ref vs, .ref vn, .ref vm, .ref vu])), (vn, .inr (4, [.int 6, .int 4, .ref vnc, .int (nI nn)])), (vnc, .inl (G.2.1, 24, .inl nf))] (fun (r : Int32) w1 => (r = orF (fun i => allB (nB nf (nI i)) nn) 6) ∧ w1 = [(to, .inr (8, [.ref v, .ref iv, .ref jv, .int k1, .int k2, .ref rd, .ref st, .ref ra, .ref og, .int ab, .int be, .int bds, .int nos, .int fls])), (og, .inr (0, [.ref om])), (v, .inr (7, [.int wide, .ref vw, .ref vc, .ref vp, .ref vs, .ref vn, .ref vm, .ref vu])), (vn, .inr (4, [.int 6, .int 4, .ref vnc, .int (nI nn)])), (vnc, .inl (G.2.1, 24, .inl nf))]) := by
  refine MI.mk (by decide) (Nat.le_of_ble_eq_true rfl) ?_
  intro p_ e_ s_ m_ ar_ be_ me_ cd_ A_ ls C hrt hW hl
  have hx := C.1; have hb := C.2.1; have hown := C.2.2.2.1; have ht := C.2.2.2.2.1
  replace hl : lv_has ls 1 [(0, .ref to)] := hl
  generalize hQ : MQ be_ _ ar_ s_ 0 0 A_ = Q
  refine lv_aload_n hx hb dX10_is_0 rfl (lv_at hl 0 rfl) ?_
  refine g_get (k := 8) (v := .ref og) C hW 0 rfl rfl jnX10 (by decide) k_fl_X10_53 rfl dX10_is_1 ?_
  refine lv_aload_n hx hb dX10_is_4 rfl (lv_at hl 0 rfl) ?_
  refine g_get (k := 0) (v := .ref v) C hW 0 rfl rfl jnX10 (by decide) k_fl_X10_10 rfl dX10_is_5 ?_
  refine g_fi C hW [1, 2, 3, 4] rfl (g_runV (As := [.ref v]) (rest := []) (wc := [(og, .inr (0, [.ref om])), (v, .inr (7, [.int wide, .ref vw, .ref vc, .ref vp, .ref vs, .ref vn, .ref vm, .ref vu])), (vn, .inr (4, [.int 6, .int 4, .ref vnc, .int (nI nn)])), (vnc, .inl (G.2.1, 24, .inl nf))]) (q0 := 0) (ci := 0) C hW hl (c_X1_cockKinds l G og om v vw vc vp vs vn vm vu wide vnc nn nf (by first | assumption | omega) (by assumption) _) k_ml_X10_270 q_X1_cockKinds (by decide) [1, 2, 3, 4] rfl rfl rfl rfl rfl rfl (Nat.le_of_ble_eq_true rfl) dX10_is_8 (by decide)) (fun r_1051 er_1051 => ?_)
  clear hW; intro H locs hW
  refine lv_as (y := orF (fun i => allB (nB nf (nI i)) nn) 6) er_1051 ?_
  clear er_1051 r_1051
  subst hQ
  exact g_iret (v := (orF (fun i => allB (nB nf (nI i)) nn) 6)) C hW hrt ⟨by rfl, rfl⟩ dX10_is_11
set_option maxHeartbeats 4000000 in
set_option maxRecDepth 100000 in
theorem c_X10_kinds_ok (l : Launch) (G : gT) (v vw vc vp vs vn vm vu : Nat) (wide : Int32) (to iv jv rd st ra og : Nat) (k1 k2 ab be bds nos fls : Int32) (om vpc n : Nat) (vmc mn : Nat) (mf : Nat → Int32) (k : Nat) (hk : k < n) (hn : n ≤ 7) (hm : mn ≤ 6) : MI l G yX10_kinds cX10_kinds 2 .int ({ frames := 3, cells := 0, slots := 0, locals := 73 }) [.ref to, .int (nI k)] [(to, .inr (8, [.ref v, .ref iv, .ref jv, .int k1, .int k2, .ref rd, .ref st, .ref ra, .ref og, .int ab, .int be, .int bds, .int nos, .int fls])), (og, .inr (0, [.ref om])), (v, .inr (7, [.int wide, .ref vw, .ref vc, .ref vp, .ref vs, .ref vn, .ref vm, .ref vu])), (vp, .inr (4, [.int 7, .int 3, .ref vpc, .int (nI n)])), (vm, .inr (4, [.int 6, .int 4, .ref vmc, .int (nI mn)])), (vmc, .inl (G.2.1, 24, .inl mf))] (fun (r : Int32) w1 => (r = orF (fun i => allB (mB mf (nI k) (nI i)) mn) 6) ∧ w1 = [(to, .inr (8, [.ref v, .ref iv, .ref jv, .int k1, .int k2, .ref rd, .ref st, .ref ra, .ref og, .int ab, .int be, .int bds, .int nos, .int fls])), (og, .inr (0, [.ref om])), (v, .inr (7, [.int wide, .ref vw, .ref vc, .ref vp, .ref vs, .ref vn, .ref vm, .ref vu])), (vp, .inr (4, [.int 7, .int 3, .ref vpc, .int (nI n)])), (vm, .inr (4, [.int 6, .int 4, .ref vmc, .int (nI mn)])), (vmc, .inl (G.2.1, 24, .inl mf))]) := by
  refine MI.mk (by decide) (Nat.le_of_ble_eq_true rfl) ?_
  intro p_ e_ s_ m_ ar_ be_ me_ cd_ A_ ls C hrt hW hl
  have hx := C.1; have hb := C.2.1; have hown := C.2.2.2.1; have ht := C.2.2.2.2.1
  replace hl : lv_has ls 2 [(0, .ref to), (1, .int (nI k))] := hl
  generalize hQ : MQ be_ _ ar_ s_ 0 0 A_ = Q
  refine lv_aload_n hx hb dX10_kinds_0 rfl (lv_at hl 0 rfl) ?_
  refine g_get (k := 0) (v := .ref v) C hW 0 rfl rfl jnX10 (by decide) k_fl_X10_10 rfl dX10_kinds_1 ?_
  refine g_getN (k := 3) (v := .ref vp) (host := RX10) C hW 2 rfl rfl jnX9 (by decide) (List.mem_of_getElem? (i := 5) rfl) rfl dX10_kinds_4 ?_
  refine lv_iload_n hx hb dX10_kinds_7 rfl (lv_at hl 1 rfl) ?_
  refine g_fi C hW [3] rfl (g_runV (As := [.int (nI k)]) (rest := []) (wc := [(vp, .inr (4, [.int 7, .int 3, .ref vpc, .int (nI n)]))]) (q0 := 0) (ci := 4) C hW hl (c_X6_has l G vp vpc 7 3 n (nI k)  _) k_ml_X10_161 q_X6_has (by decide) [3] rfl rfl rfl rfl rfl rfl (Nat.le_of_ble_eq_true rfl) dX10_kinds_8 (by decide)) (fun r_1052 er_1052 => ?_)
  clear hW; intro H locs hW
  refine lv_as (y := bI (okp n (nI k))) er_1052 ?_
  clear er_1052 r_1052
  refine lv_if_ne (tgt := 21) hx hb dX10_kinds_11 (by decide) (fun c_1053 => ?_) (fun c_1053 => ?_)
  · refine lv_aload_n hx hb dX10_kinds_21 rfl (lv_at hl 0 rfl) ?_
    refine g_get (k := 8) (v := .ref og) C hW 0 rfl rfl jnX10 (by decide) k_fl_X10_53 rfl dX10_kinds_22 ?_
    refine lv_aload_n hx hb dX10_kinds_25 rfl (lv_at hl 0 rfl) ?_
    refine g_get (k := 0) (v := .ref v) C hW 0 rfl rfl jnX10 (by decide) k_fl_X10_10 rfl dX10_kinds_26 ?_
    refine lv_iload_n hx hb dX10_kinds_29 rfl (lv_at hl 1 rfl) ?_
    refine g_fi C hW [1, 2, 4, 5] rfl (g_runV (As := [.ref v, .int (nI k)]) (rest := []) (wc := [(og, .inr (0, [.ref om])), (v, .inr (7, [.int wide, .ref vw, .ref vc, .ref vp, .ref vs, .ref vn, .ref vm, .ref vu])), (vm, .inr (4, [.int 6, .int 4, .ref vmc, .int (nI mn)])), (vmc, .inl (G.2.1, 24, .inl mf))]) (q0 := 0) (ci := 0) C hW hl (c_X1_playerKinds l G og om v vw vc vp vs vn vm vu wide vmc mn mf (nI k) (by first | assumption | omega) _) k_ml_X10_276 q_X1_playerKinds (by decide) [1, 2, 4, 5] rfl rfl rfl rfl rfl rfl (Nat.le_of_ble_eq_true rfl) dX10_kinds_30 (by decide)) (fun r_1054 er_1054 => ?_)
    clear hW H locs; intro H locs hW
    refine lv_as (y := orF (fun i => allB (mB mf (nI k) (nI i)) mn) 6) er_1054 ?_
    clear er_1054 r_1054
    subst hQ
    exact g_iret (v := (orF (fun i => allB (mB mf (nI k) (nI i)) mn) 6)) C hW hrt ⟨by rfl, rfl⟩ dX10_kinds_33
  · exfalso; exact dd (by first | assumption | exact okp_nI (by omega) (by assumption) | exact decide_eq_true (by first | assumption | omega)) c_1053
set_option maxHeartbeats 4000000 in
set_option maxRecDepth 100000 in
theorem c_X10_kinds_bad (l : Launch) (G : gT) (v vw vc vp vs vn vm vu : Nat) (wide : Int32) (to iv jv rd st ra og : Nat) (k1 k2 ab be bds nos fls : Int32) (vpc n : Nat) (p9 : Int32) (hbad : okp n p9 = false) : MI l G yX10_kinds cX10_kinds 2 .int ({ frames := 1, cells := 0, slots := 0, locals := 21 }) [.ref to, .int p9] [(to, .inr (8, [.ref v, .ref iv, .ref jv, .int k1, .int k2, .ref rd, .ref st, .ref ra, .ref og, .int ab, .int be, .int bds, .int nos, .int fls])), (v, .inr (7, [.int wide, .ref vw, .ref vc, .ref vp, .ref vs, .ref vn, .ref vm, .ref vu])), (vp, .inr (4, [.int 7, .int 3, .ref vpc, .int (nI n)]))] (fun (r : Int32) w1 => ∃ u_ : Unit, (r = (-2)) ∧ w1 = [(to, .inr (8, [.ref v, .ref iv, .ref jv, .int k1, .int k2, .ref rd, .ref st, .ref ra, .ref og, .int ab, .int be, .int (bds + 1), .int nos, .int fls])), (v, .inr (7, [.int wide, .ref vw, .ref vc, .ref vp, .ref vs, .ref vn, .ref vm, .ref vu])), (vp, .inr (4, [.int 7, .int 3, .ref vpc, .int (nI n)]))]) := by
  refine MI.mk (by decide) (Nat.le_of_ble_eq_true rfl) ?_
  intro p_ e_ s_ m_ ar_ be_ me_ cd_ A_ ls C hrt hW hl
  have hx := C.1; have hb := C.2.1; have hown := C.2.2.2.1; have ht := C.2.2.2.2.1
  replace hl : lv_has ls 2 [(0, .ref to), (1, .int p9)] := hl
  generalize hQ : MQ be_ _ ar_ s_ 0 0 A_ = Q
  refine lv_aload_n hx hb dX10_kinds_0 rfl (lv_at hl 0 rfl) ?_
  refine g_get (k := 0) (v := .ref v) C hW 0 rfl rfl jnX10 (by decide) k_fl_X10_10 rfl dX10_kinds_1 ?_
  refine g_getN (k := 3) (v := .ref vp) (host := RX10) C hW 1 rfl rfl jnX9 (by decide) (List.mem_of_getElem? (i := 5) rfl) rfl dX10_kinds_4 ?_
  refine lv_iload_n hx hb dX10_kinds_7 rfl (lv_at hl 1 rfl) ?_
  refine g_fi C hW [2] rfl (g_runV (As := [.int p9]) (rest := []) (wc := [(vp, .inr (4, [.int 7, .int 3, .ref vpc, .int (nI n)]))]) (q0 := 0) (ci := 4) C hW hl (c_X6_has l G vp vpc 7 3 n p9  _) k_ml_X10_161 q_X6_has (by decide) [2] rfl rfl rfl rfl rfl rfl (Nat.le_of_ble_eq_true rfl) dX10_kinds_8 (by decide)) (fun r_1055 er_1055 => ?_)
  clear hW; intro H locs hW
  refine lv_as (y := bI (okp n p9)) er_1055 ?_
  clear er_1055 r_1055
  refine lv_if_ne (tgt := 21) hx hb dX10_kinds_11 (by decide) (fun c_1056 => ?_) (fun c_1056 => ?_)
  · exfalso; simp [bI_ne.mp c_1056, if_true, if_false, reduceIte, Bool.false_eq_true] at hbad
  · refine lv_aload_n hx hb dX10_kinds_14 rfl (lv_at hl 0 rfl) ?_
    refine lv_bipush (v := (-2)) hx hb dX10_kinds_15 (by decide) ?_
    refine g_fiw (wr := [(v, .inr (7, [.int wide, .ref vw, .ref vc, .ref vp, .ref vs, .ref vn, .ref vm, .ref vu])), (vp, .inr (4, [.int 7, .int 3, .ref vpc, .int (nI n)]))]) (ww := fun (u_ : Unit) => [(to, .inr (8, [.ref v, .ref iv, .ref jv, .int k1, .int k2, .ref rd, .ref st, .ref ra, .ref og, .int ab, .int be, .int (bds + 1), .int nos, .int fls]))]) (w2 := fun (u_ : Unit) => [(to, .inr (8, [.ref v, .ref iv, .ref jv, .int k1, .int k2, .ref rd, .ref st, .ref ra, .ref og, .int ab, .int be, .int (bds + 1), .int nos, .int fls])), (v, .inr (7, [.int wide, .ref vw, .ref vc, .ref vp, .ref vs, .ref vn, .ref vm, .ref vu])), (vp, .inr (4, [.int 7, .int 3, .ref vpc, .int (nI n)]))]) C hW [0] [1, 2] [2, 0, 1] rfl rfl (by decide) (by decide) (by decide) (fun _ => rfl) (g_runV (As := [.int (-2)]) (rest := []) (wc := [(to, .inr (8, [.ref v, .ref iv, .ref jv, .int k1, .int k2, .ref rd, .ref st, .ref ra, .ref og, .int ab, .int be, .int bds, .int nos, .int fls]))]) (q0 := 0) (ci := 8) C hW hl (c_X10_refuseBad l G v to iv jv rd st ra og k1 k2 ab be bds nos fls (-2)  _) k_ml_X10_77 q_X10_refuseBad (by decide) [0] rfl rfl rfl rfl rfl rfl (Nat.le_of_ble_eq_true rfl) dX10_kinds_17 (by decide)) (fun r_1057 _ er_1057 => ?_)
    clear hW H locs; intro H locs hW
    refine lv_as (y := (-2)) er_1057 ?_
    clear er_1057 r_1057
    replace hW : Wd G A_ s_.heap [(to, .inr (8, [.ref v, .ref iv, .ref jv, .int k1, .int k2, .ref rd, .ref st, .ref ra, .ref og, .int ab, .int be, .int (bds + 1), .int nos, .int fls])), (v, .inr (7, [.int wide, .ref vw, .ref vc, .ref vp, .ref vs, .ref vn, .ref vm, .ref vu])), (vp, .inr (4, [.int 7, .int 3, .ref vpc, .int (nI n)]))] H locs := hW
    subst hQ
    exact g_iret (v := (-2)) C hW hrt ⟨(), by rfl, by rfl⟩ dX10_kinds_20
