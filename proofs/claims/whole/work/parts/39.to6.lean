set_option maxHeartbeats 4000000 in
set_option maxRecDepth 100000 in
theorem c_X10_yours_ok (l : Launch) (G : gT) (v vw vc vp vs vn vm vu : Nat) (wide : Int32) (vpc n : Nat) (pf : Nat → Int32) (ck wd : Nat → Int32) (to iv jv rd st ra og : Nat) (k1 k2 ab be bds nos fls : Int32) (ka kb hr : Nat) (hka : ka < n) (hkb : kb < n) (hne : ka ≠ kb) (hn : n ≤ 7) (eh : ck 6 = nI hr) (hh : hr < 100000) (hP : okP n pf) (hWd : okW wd) (hg : Rg (ck 1) 1 9) (hup : ck 3 = 1) (ho1 : onb n pf (nI ka) (ck 2) = true) (ho2 : onb n pf (nI kb) (ck 2) = true) : MI l G yX10_yours cX10_yours 7 .int ({ frames := 4, cells := 0, slots := 0, locals := 93 }) [.ref to, .int (nI ka), .int (nI kb)] [(to, .inr (8, [.ref v, .ref iv, .ref jv, .int k1, .int k2, .ref rd, .ref st, .ref ra, .ref og, .int ab, .int be, .int bds, .int nos, .int fls])), (v, .inr (7, [.int wide, .ref vw, .ref vc, .ref vp, .ref vs, .ref vn, .ref vm, .ref vu])), (vp, .inr (4, [.int 7, .int 3, .ref vpc, .int (nI n)])), (vpc, .inl (G.2.1, 21, .inl pf)), (vc, .inl (G.2.1, 7, .inl ck)), (vw, .inl (G.2.1, 6, .inl wd))] (fun (r : Int32) w1 => (r = orF (fun i => rs (nI i &&& (1 : Int32)) (nI i >>> ((1 : Int32) &&& 31)) (bI (decide (wide ≤ rch ck wd pf ka hr (pf (ka * 3 + 1)) (ck 1)))) (bI (decide (wide ≤ rch ck wd pf kb hr (pf (kb * 3 + 1)) (ck 1))))) 4) ∧ w1 = [(to, .inr (8, [.ref v, .ref iv, .ref jv, .int k1, .int k2, .ref rd, .ref st, .ref ra, .ref og, .int ab, .int be, .int bds, .int nos, .int fls])), (v, .inr (7, [.int wide, .ref vw, .ref vc, .ref vp, .ref vs, .ref vn, .ref vm, .ref vu])), (vp, .inr (4, [.int 7, .int 3, .ref vpc, .int (nI n)])), (vpc, .inl (G.2.1, 21, .inl pf)), (vc, .inl (G.2.1, 7, .inl ck)), (vw, .inl (G.2.1, 6, .inl wd))]) := by
  refine MI.mk (by decide) (Nat.le_of_ble_eq_true rfl) ?_
  intro p_ e_ s_ m_ ar_ be_ me_ cd_ A_ ls C hrt hW hl
  have hx := C.1; have hb := C.2.1; have hown := C.2.2.2.1; have ht := C.2.2.2.2.1
  replace hl : lv_has ls 7 [(0, .ref to), (1, .int (nI ka)), (2, .int (nI kb))] := hl
  generalize hQ : MQ be_ _ ar_ s_ 0 0 A_ = Q
  refine lv_aload_n hx hb dX10_yours_0 rfl (lv_at hl 0 rfl) ?_
  refine g_get (k := 0) (v := .ref v) C hW 0 rfl rfl jnX10 (by decide) k_fl_X10_10 rfl dX10_yours_1 ?_
  refine g_getN (k := 3) (v := .ref vp) (host := RX10) C hW 1 rfl rfl jnX9 (by decide) (List.mem_of_getElem? (i := 5) rfl) rfl dX10_yours_4 ?_
  refine lv_iload_n hx hb dX10_yours_7 rfl (lv_at hl 1 rfl) ?_
  refine g_fi C hW [2] rfl (g_runV (As := [.int (nI ka)]) (rest := []) (wc := [(vp, .inr (4, [.int 7, .int 3, .ref vpc, .int (nI n)]))]) (q0 := 0) (ci := 4) C hW hl (c_X6_has l G vp vpc 7 3 n (nI ka)  _) k_ml_X10_161 q_X6_has (by decide) [2] rfl rfl rfl rfl rfl rfl (Nat.le_of_ble_eq_true rfl) dX10_yours_8 (by decide)) (fun r_1193 er_1193 => ?_)
  clear hW; intro H locs hW
  refine lv_as (y := bI (okp n (nI ka))) er_1193 ?_
  clear er_1193 r_1193
  refine lv_if_eq (tgt := 33) hx hb dX10_yours_11 (by decide) (fun c_1194 => ?_) (fun c_1194 => ?_)
  · exfalso; exact dd (by first | exact okp_nI (by omega) hka | exact okp_nI (by omega) hkb | assumption) c_1194
  · refine lv_aload_n hx hb dX10_yours_14 rfl (lv_at hl 0 rfl) ?_
    refine g_get (k := 0) (v := .ref v) C hW 0 rfl rfl jnX10 (by decide) k_fl_X10_10 rfl dX10_yours_15 ?_
    refine g_getN (k := 3) (v := .ref vp) (host := RX10) C hW 1 rfl rfl jnX9 (by decide) (List.mem_of_getElem? (i := 5) rfl) rfl dX10_yours_18 ?_
    refine lv_iload_n hx hb dX10_yours_21 rfl (lv_at hl 2 rfl) ?_
    refine g_fi C hW [2] rfl (g_runV (As := [.int (nI kb)]) (rest := []) (wc := [(vp, .inr (4, [.int 7, .int 3, .ref vpc, .int (nI n)]))]) (q0 := 0) (ci := 4) C hW hl (c_X6_has l G vp vpc 7 3 n (nI kb)  _) k_ml_X10_161 q_X6_has (by decide) [2] rfl rfl rfl rfl rfl rfl (Nat.le_of_ble_eq_true rfl) dX10_yours_22 (by decide)) (fun r_1195 er_1195 => ?_)
    clear hW H locs; intro H locs hW
    refine lv_as (y := bI (okp n (nI kb))) er_1195 ?_
    clear er_1195 r_1195
    refine lv_if_eq (tgt := 33) hx hb dX10_yours_25 (by decide) (fun c_1196 => ?_) (fun c_1196 => ?_)
    · exfalso; exact dd (by first | exact okp_nI (by omega) hka | exact okp_nI (by omega) hkb | assumption) c_1196
    · refine lv_iload_n hx hb dX10_yours_28 rfl (lv_at hl 1 rfl) ?_
      refine lv_iload_n hx hb dX10_yours_29 rfl (lv_at hl 2 rfl) ?_
      refine lv_icmp_ne (tgt := 40) hx hb dX10_yours_30 (by decide) (fun c_1197 => ?_) (fun c_1197 => ?_)
      · have c_1197n : ¬ ka = kb := fun q => c_1197 ((nI_eq (a := ka) (b := kb) (by omega) (by omega)).mpr q)
        refine lv_aload_n hx hb dX10_yours_40 rfl (lv_at hl 0 rfl) ?_
        refine g_get (k := 0) (v := .ref v) C hW 0 rfl rfl jnX10 (by decide) k_fl_X10_10 rfl dX10_yours_41 ?_
        refine g_fi C hW [1, 4] rfl (g_runV (As := []) (rest := []) (wc := [(v, .inr (7, [.int wide, .ref vw, .ref vc, .ref vp, .ref vs, .ref vn, .ref vm, .ref vu])), (vc, .inl (G.2.1, 7, .inl ck))]) (q0 := 0) (ci := 7) C hW hl (c_X9_isUp l G v vw vc vp vs vn vm vu wide ck  _) k_ml_X10_176 q_X9_isUp (by decide) [1, 4] rfl rfl rfl rfl rfl rfl (Nat.le_of_ble_eq_true rfl) dX10_yours_44 (by decide)) (fun r_1198 er_1198 => ?_)
        clear hW H locs; intro H locs hW
        refine lv_as (y := bI (decide (ck 3 = 1))) er_1198 ?_
        clear er_1198 r_1198
        refine lv_if_eq (tgt := 86) hx hb dX10_yours_47 (by decide) (fun c_1199 => ?_) (fun c_1199 => ?_)
        · exfalso; exact dd (by first | assumption | exact okp_nI (by omega) (by assumption) | exact decide_eq_true (by first | assumption | omega)) c_1199
        · refine lv_aload_n hx hb dX10_yours_50 rfl (lv_at hl 0 rfl) ?_
          refine g_get (k := 0) (v := .ref v) C hW 0 rfl rfl jnX10 (by decide) k_fl_X10_10 rfl dX10_yours_51 ?_
          refine lv_iload_n hx hb dX10_yours_54 rfl (lv_at hl 1 rfl) ?_
          refine lv_aload_n hx hb dX10_yours_55 rfl (lv_at hl 0 rfl) ?_
          refine g_get (k := 0) (v := .ref v) C hW 0 rfl rfl jnX10 (by decide) k_fl_X10_10 rfl dX10_yours_56 ?_
          refine g_fi C hW [1, 4] rfl (g_runV (As := []) (rest := [.int (nI ka), .ref v]) (wc := [(v, .inr (7, [.int wide, .ref vw, .ref vc, .ref vp, .ref vs, .ref vn, .ref vm, .ref vu])), (vc, .inl (G.2.1, 7, .inl ck))]) (q0 := 0) (ci := 7) C hW hl (c_X9_hill l G v vw vc vp vs vn vm vu wide ck  _) k_ml_X10_200 q_X9_hill (by decide) [1, 4] rfl rfl rfl rfl rfl rfl (Nat.le_of_ble_eq_true rfl) dX10_yours_59 (by decide)) (fun r_1200 er_1200 => ?_)
          clear hW H locs; intro H locs hW
          refine lv_as (y := ck 2) er_1200 ?_
          clear er_1200 r_1200
          refine g_fi C hW [1, 2, 3] rfl (g_runV (As := [.int (nI ka), .int (ck 2)]) (rest := []) (wc := [(v, .inr (7, [.int wide, .ref vw, .ref vc, .ref vp, .ref vs, .ref vn, .ref vm, .ref vu])), (vp, .inr (4, [.int 7, .int 3, .ref vpc, .int (nI n)])), (vpc, .inl (G.2.1, 21, .inl pf))]) (q0 := 0) (ci := 7) C hW hl (c_X9_isOn l G v vw vc vp vs vn vm vu wide vpc n pf (nI ka) (ck 2) (by first | assumption | omega) _) k_ml_X10_282 q_X9_isOn (by decide) [1, 2, 3] rfl rfl rfl rfl rfl rfl (Nat.le_of_ble_eq_true rfl) dX10_yours_62 (by decide)) (fun r_1201 er_1201 => ?_)
          clear hW H locs; intro H locs hW
          refine lv_as (y := bI (onb n pf (nI ka) (ck 2))) er_1201 ?_
          clear er_1201 r_1201
          refine lv_if_eq (tgt := 86) hx hb dX10_yours_65 (by decide) (fun c_1202 => ?_) (fun c_1202 => ?_)
          · exfalso; exact dd (by first | assumption | exact okp_nI (by omega) (by assumption) | exact decide_eq_true (by first | assumption | omega)) c_1202
          · refine lv_aload_n hx hb dX10_yours_68 rfl (lv_at hl 0 rfl) ?_
            refine g_get (k := 0) (v := .ref v) C hW 0 rfl rfl jnX10 (by decide) k_fl_X10_10 rfl dX10_yours_69 ?_
            refine lv_iload_n hx hb dX10_yours_72 rfl (lv_at hl 2 rfl) ?_
            refine lv_aload_n hx hb dX10_yours_73 rfl (lv_at hl 0 rfl) ?_
            refine g_get (k := 0) (v := .ref v) C hW 0 rfl rfl jnX10 (by decide) k_fl_X10_10 rfl dX10_yours_74 ?_
            refine g_fi C hW [1, 4] rfl (g_runV (As := []) (rest := [.int (nI kb), .ref v]) (wc := [(v, .inr (7, [.int wide, .ref vw, .ref vc, .ref vp, .ref vs, .ref vn, .ref vm, .ref vu])), (vc, .inl (G.2.1, 7, .inl ck))]) (q0 := 0) (ci := 7) C hW hl (c_X9_hill l G v vw vc vp vs vn vm vu wide ck  _) k_ml_X10_200 q_X9_hill (by decide) [1, 4] rfl rfl rfl rfl rfl rfl (Nat.le_of_ble_eq_true rfl) dX10_yours_77 (by decide)) (fun r_1203 er_1203 => ?_)
            clear hW H locs; intro H locs hW
            refine lv_as (y := ck 2) er_1203 ?_
            clear er_1203 r_1203
            refine g_fi C hW [1, 2, 3] rfl (g_runV (As := [.int (nI kb), .int (ck 2)]) (rest := []) (wc := [(v, .inr (7, [.int wide, .ref vw, .ref vc, .ref vp, .ref vs, .ref vn, .ref vm, .ref vu])), (vp, .inr (4, [.int 7, .int 3, .ref vpc, .int (nI n)])), (vpc, .inl (G.2.1, 21, .inl pf))]) (q0 := 0) (ci := 7) C hW hl (c_X9_isOn l G v vw vc vp vs vn vm vu wide vpc n pf (nI kb) (ck 2) (by first | assumption | omega) _) k_ml_X10_282 q_X9_isOn (by decide) [1, 2, 3] rfl rfl rfl rfl rfl rfl (Nat.le_of_ble_eq_true rfl) dX10_yours_80 (by decide)) (fun r_1204 er_1204 => ?_)
            clear hW H locs; intro H locs hW
            refine lv_as (y := bI (onb n pf (nI kb) (ck 2))) er_1204 ?_
            clear er_1204 r_1204
            refine lv_if_ne (tgt := 91) hx hb dX10_yours_83 (by decide) (fun c_1205 => ?_) (fun c_1205 => ?_)
            · refine lv_aload_n hx hb dX10_yours_91 rfl (lv_at hl 0 rfl) ?_
              refine g_get (k := 0) (v := .ref v) C hW 0 rfl rfl jnX10 (by decide) k_fl_X10_10 rfl dX10_yours_92 ?_
              refine lv_iload_n hx hb dX10_yours_95 rfl (lv_at hl 1 rfl) ?_
              refine lv_aload_n hx hb dX10_yours_96 rfl (lv_at hl 0 rfl) ?_
              refine g_get (k := 0) (v := .ref v) C hW 0 rfl rfl jnX10 (by decide) k_fl_X10_10 rfl dX10_yours_97 ?_
              refine g_fi C hW [1, 4] rfl (g_runV (As := []) (rest := [.int (nI ka), .ref v]) (wc := [(v, .inr (7, [.int wide, .ref vw, .ref vc, .ref vp, .ref vs, .ref vn, .ref vm, .ref vu])), (vc, .inl (G.2.1, 7, .inl ck))]) (q0 := 0) (ci := 7) C hW hl (c_X9_hour l G v vw vc vp vs vn vm vu wide ck  _) k_ml_X10_192 q_X9_hour (by decide) [1, 4] rfl rfl rfl rfl rfl rfl (Nat.le_of_ble_eq_true rfl) dX10_yours_100 (by decide)) (fun r_1206 er_1206 => ?_)
              clear hW H locs; intro H locs hW
              refine lv_as (y := ck 6) er_1206 ?_
              clear er_1206 r_1206
              refine lv_as (y := nI hr) (eh) ?_
              refine g_fi C hW [1, 2, 3, 4, 5] rfl (g_runV (As := [.int (nI ka), .int (nI hr)]) (rest := []) (wc := [(v, .inr (7, [.int wide, .ref vw, .ref vc, .ref vp, .ref vs, .ref vn, .ref vm, .ref vu])), (vp, .inr (4, [.int 7, .int 3, .ref vpc, .int (nI n)])), (vpc, .inl (G.2.1, 21, .inl pf)), (vc, .inl (G.2.1, 7, .inl ck)), (vw, .inl (G.2.1, 6, .inl wd))]) (q0 := 0) (ci := 7) C hW hl (c_X9_carries l G v vw vc vp vs vn vm vu wide vpc n pf ck wd ka hr (by first | assumption | omega) (by first | assumption | omega) (by omega) (by assumption) (by assumption) (by assumption) _) k_ml_X10_286 q_X9_carries (by decide) [1, 2, 3, 4, 5] rfl rfl rfl rfl rfl rfl (Nat.le_of_ble_eq_true rfl) dX10_yours_103 (by decide)) (fun r_1207 er_1207 => ?_)
              clear hW H locs; intro H locs hW
              refine lv_as (y := bI (decide (wide ≤ rch ck wd pf ka hr (pf (ka * 3 + 1)) (ck 1)))) er_1207 ?_
              clear er_1207 r_1207
              refine lv_istore_n (lv' := [(3, .int (bI (decide (wide ≤ rch ck wd pf ka hr (pf (ka * 3 + 1)) (ck 1))))), (0, .ref to), (1, .int (nI ka)), (2, .int (nI kb))]) hx hb dX10_yours_106 rfl hl (by decide) rfl ?_
              clear hl ls; intro ls hl
              refine lv_aload_n hx hb dX10_yours_107 rfl (lv_at hl 1 rfl) ?_
              refine g_get (k := 0) (v := .ref v) C hW 0 rfl rfl jnX10 (by decide) k_fl_X10_10 rfl dX10_yours_108 ?_
              refine lv_iload_n hx hb dX10_yours_111 rfl (lv_at hl 3 rfl) ?_
              refine lv_aload_n hx hb dX10_yours_112 rfl (lv_at hl 1 rfl) ?_
              refine g_get (k := 0) (v := .ref v) C hW 0 rfl rfl jnX10 (by decide) k_fl_X10_10 rfl dX10_yours_113 ?_
              refine g_fi C hW [1, 4] rfl (g_runV (As := []) (rest := [.int (nI kb), .ref v]) (wc := [(v, .inr (7, [.int wide, .ref vw, .ref vc, .ref vp, .ref vs, .ref vn, .ref vm, .ref vu])), (vc, .inl (G.2.1, 7, .inl ck))]) (q0 := 0) (ci := 7) C hW hl (c_X9_hour l G v vw vc vp vs vn vm vu wide ck  _) k_ml_X10_192 q_X9_hour (by decide) [1, 4] rfl rfl rfl rfl rfl rfl (Nat.le_of_ble_eq_true rfl) dX10_yours_116 (by decide)) (fun r_1208 er_1208 => ?_)
              clear hW H locs; intro H locs hW
              refine lv_as (y := ck 6) er_1208 ?_
              clear er_1208 r_1208
              refine lv_as (y := nI hr) (eh) ?_
              refine g_fi C hW [1, 2, 3, 4, 5] rfl (g_runV (As := [.int (nI kb), .int (nI hr)]) (rest := []) (wc := [(v, .inr (7, [.int wide, .ref vw, .ref vc, .ref vp, .ref vs, .ref vn, .ref vm, .ref vu])), (vp, .inr (4, [.int 7, .int 3, .ref vpc, .int (nI n)])), (vpc, .inl (G.2.1, 21, .inl pf)), (vc, .inl (G.2.1, 7, .inl ck)), (vw, .inl (G.2.1, 6, .inl wd))]) (q0 := 0) (ci := 7) C hW hl (c_X9_carries l G v vw vc vp vs vn vm vu wide vpc n pf ck wd kb hr (by first | assumption | omega) (by first | assumption | omega) (by omega) (by assumption) (by assumption) (by assumption) _) k_ml_X10_286 q_X9_carries (by decide) [1, 2, 3, 4, 5] rfl rfl rfl rfl rfl rfl (Nat.le_of_ble_eq_true rfl) dX10_yours_119 (by decide)) (fun r_1209 er_1209 => ?_)
              clear hW H locs; intro H locs hW
              refine lv_as (y := bI (decide (wide ≤ rch ck wd pf kb hr (pf (kb * 3 + 1)) (ck 1)))) er_1209 ?_
              clear er_1209 r_1209
              refine lv_istore (lv' := [(4, .int (bI (decide (wide ≤ rch ck wd pf kb hr (pf (kb * 3 + 1)) (ck 1))))), (3, .int (bI (decide (wide ≤ rch ck wd pf ka hr (pf (ka * 3 + 1)) (ck 1))))), (0, .ref to), (1, .int (nI ka)), (2, .int (nI kb))]) hx hb dX10_yours_122 hl (by decide) rfl ?_
              clear hl ls; intro ls hl
              refine lv_iconst (v := 0) hx hb dX10_yours_124 (by decide) ?_
              refine lv_istore (lv' := [(5, .int 0), (4, .int (bI (decide (wide ≤ rch ck wd pf kb hr (pf (kb * 3 + 1)) (ck 1))))), (3, .int (bI (decide (wide ≤ rch ck wd pf ka hr (pf (ka * 3 + 1)) (ck 1))))), (0, .ref to), (1, .int (nI ka)), (2, .int (nI kb))]) hx hb dX10_yours_125 hl (by decide) rfl ?_
              clear hl ls; intro ls hl
              refine lv_iconst (v := 0) hx hb dX10_yours_127 (by decide) ?_
              refine lv_istore (lv' := [(6, .int 0), (5, .int 0), (4, .int (bI (decide (wide ≤ rch ck wd pf kb hr (pf (kb * 3 + 1)) (ck 1))))), (3, .int (bI (decide (wide ≤ rch ck wd pf ka hr (pf (ka * 3 + 1)) (ck 1))))), (0, .ref to), (1, .int (nI ka)), (2, .int (nI kb))]) hx hb dX10_yours_128 hl (by decide) rfl ?_
              clear hl ls; intro ls hl
              have K_1210 : ∀ (n_ : Nat) (j : Nat) (x_1211 : Int32) (x_1212 : Int32) (_ : x_1211 = nI j) (_ : x_1212 = orF (fun i => rs (nI i &&& (1 : Int32)) (nI i >>> ((1 : Int32) &&& 31)) (bI (decide (wide ≤ rch ck wd pf ka hr (pf (ka * 3 + 1)) (ck 1)))) (bI (decide (wide ≤ rch ck wd pf kb hr (pf (kb * 3 + 1)) (ck 1))))) j) (_ : j ≤ 4) (_ : 4 - j < n_) (H : Heap) (locs : List Loc) (ls : Array Slot), Wd G A_ s_.heap [(to, .inr (8, [.ref v, .ref iv, .ref jv, .int k1, .int k2, .ref rd, .ref st, .ref ra, .ref og, .int ab, .int be, .int bds, .int nos, .int fls])), (v, .inr (7, [.int wide, .ref vw, .ref vc, .ref vp, .ref vs, .ref vn, .ref vm, .ref vu])), (vp, .inr (4, [.int 7, .int 3, .ref vpc, .int (nI n)])), (vpc, .inl (G.2.1, 21, .inl pf)), (vc, .inl (G.2.1, 7, .inl ck)), (vw, .inl (G.2.1, 6, .inl wd))] H locs → lv_has ls 7 [(6, .int x_1211), (5, .int x_1212), (4, .int (bI (decide (wide ≤ rch ck wd pf kb hr (pf (kb * 3 + 1)) (ck 1))))), (3, .int (bI (decide (wide ≤ rch ck wd pf ka hr (pf (ka * 3 + 1)) (ck 1))))), (0, .ref to), (1, .int (nI ka)), (2, .int (nI kb))] → W p_ l e_ ({ frames := 4, cells := 0, slots := 0, locals := 93 }) s_ m_ ar_ be_ me_ cd_ H locs 0 0 Q (F0 m_ 130 ls []) := by
                intro n_
                induction n_ with
                | zero => intro j x_1211 x_1212 ex_1211 ex_1212 hj hm_; exact absurd hm_ (Nat.not_lt_zero _)
                | succ n_ ihK_1210 =>
                  intro j x_1211 x_1212 ex_1211 ex_1212 hj hm_ H locs ls hW hl
                  subst ex_1211
                  subst ex_1212
                  refine lv_iload hx hb dX10_yours_130 (lv_at hl 0 rfl) ?_
                  refine lv_iconst (v := 4) hx hb dX10_yours_132 (by decide) ?_
                  refine lv_icmp_ge (tgt := 168) hx hb dX10_yours_133 (by decide) (fun c_1213 => ?_) (fun c_1213 => ?_)
                  · replace c_1213 := Int32.not_lt.mpr c_1213
                    have c_1213n : ¬ j < 4 := fun q => c_1213 ((nI_ltI (a := j) (b := 4) (by omega) (by omega)).mpr q)
                    refine lv_iload hx hb dX10_yours_168 (lv_at hl 1 rfl) ?_
                    subst hQ
                    exact g_iret (v := (orF (fun i => rs (nI i &&& (1 : Int32)) (nI i >>> ((1 : Int32) &&& 31)) (bI (decide (wide ≤ rch ck wd pf ka hr (pf (ka * 3 + 1)) (ck 1)))) (bI (decide (wide ≤ rch ck wd pf kb hr (pf (kb * 3 + 1)) (ck 1))))) j)) C hW hrt ⟨by (rw [show j = 4 by omega]), rfl⟩ dX10_yours_170
                  · replace c_1213 := Int32.not_le.mp c_1213
                    have c_1213n : j < 4 := (nI_ltI (a := j) (b := 4) (by omega) (by omega)).mp c_1213
                    refine lv_iload hx hb dX10_yours_136 (lv_at hl 0 rfl) ?_
                    refine lv_iconst (v := 1) hx hb dX10_yours_138 (by decide) ?_
                    refine lv_iand hx hb dX10_yours_139 ?_
                    refine lv_iload hx hb dX10_yours_140 (lv_at hl 0 rfl) ?_
                    refine lv_iconst (v := 1) hx hb dX10_yours_142 (by decide) ?_
                    refine lv_ishr hx hb dX10_yours_143 ?_
                    refine lv_iload_n hx hb dX10_yours_144 rfl (lv_at hl 3 rfl) ?_
                    refine lv_iload hx hb dX10_yours_145 (lv_at hl 2 rfl) ?_
                    refine g_fi C hW [] rfl (g_runS (As := [.int ((nI j) &&& (1 : Int32)), .int ((nI j) >>> ((1 : Int32) &&& 31)), .int (bI (decide (wide ≤ rch ck wd pf ka hr (pf (ka * 3 + 1)) (ck 1)))), .int (bI (decide (wide ≤ rch ck wd pf kb hr (pf (kb * 3 + 1)) (ck 1))))]) (rest := []) (wc := []) C hW hl (c_X0_rests l G ((nI j) &&& (1 : Int32)) ((nI j) >>> ((1 : Int32) &&& 31)) (bI (decide (wide ≤ rch ck wd pf ka hr (pf (ka * 3 + 1)) (ck 1)))) (bI (decide (wide ≤ rch ck wd pf kb hr (pf (kb * 3 + 1)) (ck 1)))) (by exact pr_a j (by omega)) (by exact pr_b j (by omega)) _) k_ml_X10_289 q_X0_rests (by decide) [] rfl rfl rfl rfl (Nat.le_of_ble_eq_true rfl) dX10_yours_147 (by decide)) (fun r_1215 er_1215 => ?_)
                    clear hW H locs; intro H locs hW
                    refine lv_as (y := bI (rs ((nI j) &&& (1 : Int32)) ((nI j) >>> ((1 : Int32) &&& 31)) (bI (decide (wide ≤ rch ck wd pf ka hr (pf (ka * 3 + 1)) (ck 1)))) (bI (decide (wide ≤ rch ck wd pf kb hr (pf (kb * 3 + 1)) (ck 1)))))) er_1215 ?_
                    clear er_1215 r_1215
                    have J_1218 : ∀ (x_1217 : Int32) (_ : x_1217 = (if (bI (rs ((nI j) &&& (1 : Int32)) ((nI j) >>> ((1 : Int32) &&& 31)) (bI (decide (wide ≤ rch ck wd pf ka hr (pf (ka * 3 + 1)) (ck 1)))) (bI (decide (wide ≤ rch ck wd pf kb hr (pf (kb * 3 + 1)) (ck 1)))))) = 0 then orF (fun i => rs (nI i &&& (1 : Int32)) (nI i >>> ((1 : Int32) &&& 31)) (bI (decide (wide ≤ rch ck wd pf ka hr (pf (ka * 3 + 1)) (ck 1)))) (bI (decide (wide ≤ rch ck wd pf kb hr (pf (kb * 3 + 1)) (ck 1))))) j else (orF (fun i => rs (nI i &&& (1 : Int32)) (nI i >>> ((1 : Int32) &&& 31)) (bI (decide (wide ≤ rch ck wd pf ka hr (pf (ka * 3 + 1)) (ck 1)))) (bI (decide (wide ≤ rch ck wd pf kb hr (pf (kb * 3 + 1)) (ck 1))))) j) ||| ((1 : Int32) <<< ((nI j) &&& 31)))), ∀ (H : Heap) (locs : List Loc) (ls : Array Slot), Wd G A_ s_.heap [(to, .inr (8, [.ref v, .ref iv, .ref jv, .int k1, .int k2, .ref rd, .ref st, .ref ra, .ref og, .int ab, .int be, .int bds, .int nos, .int fls])), (v, .inr (7, [.int wide, .ref vw, .ref vc, .ref vp, .ref vs, .ref vn, .ref vm, .ref vu])), (vp, .inr (4, [.int 7, .int 3, .ref vpc, .int (nI n)])), (vpc, .inl (G.2.1, 21, .inl pf)), (vc, .inl (G.2.1, 7, .inl ck)), (vw, .inl (G.2.1, 6, .inl wd))] H locs → lv_has ls 7 [(6, .int (nI j)), (5, .int x_1217), (4, .int (bI (decide (wide ≤ rch ck wd pf kb hr (pf (kb * 3 + 1)) (ck 1))))), (3, .int (bI (decide (wide ≤ rch ck wd pf ka hr (pf (ka * 3 + 1)) (ck 1))))), (0, .ref to), (1, .int (nI ka)), (2, .int (nI kb))] → W p_ l e_ ({ frames := 4, cells := 0, slots := 0, locals := 93 }) s_ m_ ar_ be_ me_ cd_ H locs 0 0 Q (F0 m_ 162 ls []) := by
                      intro x_1217 ex_1217 H locs ls hW hl
                      refine lv_iinc (v := (nI j) + 1) (lv' := [(6, .int ((nI j) + 1)), (5, .int x_1217), (4, .int (bI (decide (wide ≤ rch ck wd pf kb hr (pf (kb * 3 + 1)) (ck 1))))), (3, .int (bI (decide (wide ≤ rch ck wd pf ka hr (pf (ka * 3 + 1)) (ck 1))))), (0, .ref to), (1, .int (nI ka)), (2, .int (nI kb))]) hx hb dX10_yours_162 hl (k := 0) rfl rfl (by decide) rfl ?_
                      clear hl ls; intro ls hl
                      refine lv_goto (tgt := 130) hx hb dX10_yours_165 (by decide) ?_
                      exact ihK_1210 (j + 1) ((nI j) + 1) x_1217 (by exact nI_1 _) (by (simp only [ex_1217, bstep, orF])) (by first | omega | assumption | (simp; done)) (by omega) _ _ _ hW (lv_sub hl [0, 1, 2, 3, 4, 5, 6] rfl)
                    refine lv_if_eq (tgt := 162) hx hb dX10_yours_150 (by decide) (fun c_1216 => ?_) (fun c_1216 => ?_)
                    · exact J_1218 (orF (fun i => rs (nI i &&& (1 : Int32)) (nI i >>> ((1 : Int32) &&& 31)) (bI (decide (wide ≤ rch ck wd pf ka hr (pf (ka * 3 + 1)) (ck 1)))) (bI (decide (wide ≤ rch ck wd pf kb hr (pf (kb * 3 + 1)) (ck 1))))) j) (by first | (simp only [c_1216, if_true, if_false, reduceIte]; done) | (simp [c_1216]; done) | rfl) _ _ _ hW (lv_sub hl [0, 1, 2, 3, 4, 5, 6] rfl)
                    · refine lv_iload hx hb dX10_yours_153 (lv_at hl 1 rfl) ?_
                      refine lv_iconst (v := 1) hx hb dX10_yours_155 (by decide) ?_
                      refine lv_iload hx hb dX10_yours_156 (lv_at hl 0 rfl) ?_
                      refine lv_ishl hx hb dX10_yours_158 ?_
                      refine lv_ior hx hb dX10_yours_159 ?_
                      refine lv_istore (lv' := [(5, .int ((orF (fun i => rs (nI i &&& (1 : Int32)) (nI i >>> ((1 : Int32) &&& 31)) (bI (decide (wide ≤ rch ck wd pf ka hr (pf (ka * 3 + 1)) (ck 1)))) (bI (decide (wide ≤ rch ck wd pf kb hr (pf (kb * 3 + 1)) (ck 1))))) j) ||| ((1 : Int32) <<< ((nI j) &&& 31)))), (6, .int (nI j)), (4, .int (bI (decide (wide ≤ rch ck wd pf kb hr (pf (kb * 3 + 1)) (ck 1))))), (3, .int (bI (decide (wide ≤ rch ck wd pf ka hr (pf (ka * 3 + 1)) (ck 1))))), (0, .ref to), (1, .int (nI ka)), (2, .int (nI kb))]) hx hb dX10_yours_160 hl (by decide) rfl ?_
                      clear hl ls; intro ls hl
                      exact J_1218 ((orF (fun i => rs (nI i &&& (1 : Int32)) (nI i >>> ((1 : Int32) &&& 31)) (bI (decide (wide ≤ rch ck wd pf ka hr (pf (ka * 3 + 1)) (ck 1)))) (bI (decide (wide ≤ rch ck wd pf kb hr (pf (kb * 3 + 1)) (ck 1))))) j) ||| ((1 : Int32) <<< ((nI j) &&& 31))) (by first | (simp only [c_1216, if_true, if_false, reduceIte]; done) | (simp [c_1216]; done) | rfl) _ _ _ hW (lv_sub hl [1, 0, 2, 3, 4, 5, 6] rfl)
              exact K_1210 _ 0 0 0 (by first | exact rfl | (simp; done)) (by exact rfl) (by first | omega | assumption | (simp; done)) (Nat.lt_succ_self _) _ _ _ hW (lv_sub hl [0, 1, 2, 3, 4, 5, 6] rfl)
            · exfalso; exact dd (by first | assumption | exact okp_nI (by omega) (by assumption) | exact decide_eq_true (by first | assumption | omega)) c_1205
      · have c_1197n : ka = kb := (nI_eq (a := ka) (b := kb) (by omega) (by omega)).mp c_1197
        exfalso; omega
set_option maxHeartbeats 4000000 in
set_option maxRecDepth 100000 in
theorem c_X10_yours_no (l : Launch) (G : gT) (v vw vc vp vs vn vm vu : Nat) (wide : Int32) (to iv jv rd st ra og : Nat) (k1 k2 ab be bds nos fls : Int32) (vpc n : Nat) (pf : Nat → Int32) (ck : Nat → Int32) (ka kb : Nat) (hka : ka < n) (hkb : kb < n) (hne : ka ≠ kb) (hn : n ≤ 7) (hbad : (decide (ck 3 = 1) && (onb n pf (nI ka) (ck 2) && onb n pf (nI kb) (ck 2))) = false) : MI l G yX10_yours cX10_yours 7 .int ({ frames := 2, cells := 0, slots := 0, locals := 44 }) [.ref to, .int (nI ka), .int (nI kb)] [(to, .inr (8, [.ref v, .ref iv, .ref jv, .int k1, .int k2, .ref rd, .ref st, .ref ra, .ref og, .int ab, .int be, .int bds, .int nos, .int fls])), (v, .inr (7, [.int wide, .ref vw, .ref vc, .ref vp, .ref vs, .ref vn, .ref vm, .ref vu])), (vp, .inr (4, [.int 7, .int 3, .ref vpc, .int (nI n)])), (vpc, .inl (G.2.1, 21, .inl pf)), (vc, .inl (G.2.1, 7, .inl ck))] (fun (r : Int32) w1 => ∃ u_ : Unit, (r = (-3)) ∧ w1 = [(to, .inr (8, [.ref v, .ref iv, .ref jv, .int k1, .int k2, .ref rd, .ref st, .ref ra, .ref og, .int ab, .int be, .int bds, .int (nos + 1), .int fls])), (v, .inr (7, [.int wide, .ref vw, .ref vc, .ref vp, .ref vs, .ref vn, .ref vm, .ref vu])), (vp, .inr (4, [.int 7, .int 3, .ref vpc, .int (nI n)])), (vpc, .inl (G.2.1, 21, .inl pf)), (vc, .inl (G.2.1, 7, .inl ck))]) := by
  refine MI.mk (by decide) (Nat.le_of_ble_eq_true rfl) ?_
  intro p_ e_ s_ m_ ar_ be_ me_ cd_ A_ ls C hrt hW hl
  have hx := C.1; have hb := C.2.1; have hown := C.2.2.2.1; have ht := C.2.2.2.2.1
  replace hl : lv_has ls 7 [(0, .ref to), (1, .int (nI ka)), (2, .int (nI kb))] := hl
  generalize hQ : MQ be_ _ ar_ s_ 0 0 A_ = Q
  refine lv_aload_n hx hb dX10_yours_0 rfl (lv_at hl 0 rfl) ?_
  refine g_get (k := 0) (v := .ref v) C hW 0 rfl rfl jnX10 (by decide) k_fl_X10_10 rfl dX10_yours_1 ?_
  refine g_getN (k := 3) (v := .ref vp) (host := RX10) C hW 1 rfl rfl jnX9 (by decide) (List.mem_of_getElem? (i := 5) rfl) rfl dX10_yours_4 ?_
  refine lv_iload_n hx hb dX10_yours_7 rfl (lv_at hl 1 rfl) ?_
  refine g_fi C hW [2] rfl (g_runV (As := [.int (nI ka)]) (rest := []) (wc := [(vp, .inr (4, [.int 7, .int 3, .ref vpc, .int (nI n)]))]) (q0 := 0) (ci := 4) C hW hl (c_X6_has l G vp vpc 7 3 n (nI ka)  _) k_ml_X10_161 q_X6_has (by decide) [2] rfl rfl rfl rfl rfl rfl (Nat.le_of_ble_eq_true rfl) dX10_yours_8 (by decide)) (fun r_1219 er_1219 => ?_)
  clear hW; intro H locs hW
  refine lv_as (y := bI (okp n (nI ka))) er_1219 ?_
  clear er_1219 r_1219
  refine lv_if_eq (tgt := 33) hx hb dX10_yours_11 (by decide) (fun c_1220 => ?_) (fun c_1220 => ?_)
  · exfalso; exact dd (by first | exact okp_nI (by omega) hka | exact okp_nI (by omega) hkb | assumption) c_1220
  · refine lv_aload_n hx hb dX10_yours_14 rfl (lv_at hl 0 rfl) ?_
    refine g_get (k := 0) (v := .ref v) C hW 0 rfl rfl jnX10 (by decide) k_fl_X10_10 rfl dX10_yours_15 ?_
    refine g_getN (k := 3) (v := .ref vp) (host := RX10) C hW 1 rfl rfl jnX9 (by decide) (List.mem_of_getElem? (i := 5) rfl) rfl dX10_yours_18 ?_
    refine lv_iload_n hx hb dX10_yours_21 rfl (lv_at hl 2 rfl) ?_
    refine g_fi C hW [2] rfl (g_runV (As := [.int (nI kb)]) (rest := []) (wc := [(vp, .inr (4, [.int 7, .int 3, .ref vpc, .int (nI n)]))]) (q0 := 0) (ci := 4) C hW hl (c_X6_has l G vp vpc 7 3 n (nI kb)  _) k_ml_X10_161 q_X6_has (by decide) [2] rfl rfl rfl rfl rfl rfl (Nat.le_of_ble_eq_true rfl) dX10_yours_22 (by decide)) (fun r_1221 er_1221 => ?_)
    clear hW H locs; intro H locs hW
    refine lv_as (y := bI (okp n (nI kb))) er_1221 ?_
    clear er_1221 r_1221
    refine lv_if_eq (tgt := 33) hx hb dX10_yours_25 (by decide) (fun c_1222 => ?_) (fun c_1222 => ?_)
    · exfalso; exact dd (by first | exact okp_nI (by omega) hka | exact okp_nI (by omega) hkb | assumption) c_1222
    · refine lv_iload_n hx hb dX10_yours_28 rfl (lv_at hl 1 rfl) ?_
      refine lv_iload_n hx hb dX10_yours_29 rfl (lv_at hl 2 rfl) ?_
      refine lv_icmp_ne (tgt := 40) hx hb dX10_yours_30 (by decide) (fun c_1223 => ?_) (fun c_1223 => ?_)
      · have c_1223n : ¬ ka = kb := fun q => c_1223 ((nI_eq (a := ka) (b := kb) (by omega) (by omega)).mpr q)
        refine lv_aload_n hx hb dX10_yours_40 rfl (lv_at hl 0 rfl) ?_
        refine g_get (k := 0) (v := .ref v) C hW 0 rfl rfl jnX10 (by decide) k_fl_X10_10 rfl dX10_yours_41 ?_
        refine g_fi C hW [1, 4] rfl (g_runV (As := []) (rest := []) (wc := [(v, .inr (7, [.int wide, .ref vw, .ref vc, .ref vp, .ref vs, .ref vn, .ref vm, .ref vu])), (vc, .inl (G.2.1, 7, .inl ck))]) (q0 := 0) (ci := 7) C hW hl (c_X9_isUp l G v vw vc vp vs vn vm vu wide ck  _) k_ml_X10_176 q_X9_isUp (by decide) [1, 4] rfl rfl rfl rfl rfl rfl (Nat.le_of_ble_eq_true rfl) dX10_yours_44 (by decide)) (fun r_1224 er_1224 => ?_)
        clear hW H locs; intro H locs hW
        refine lv_as (y := bI (decide (ck 3 = 1))) er_1224 ?_
        clear er_1224 r_1224
        have J_1234 : ∀ (H : Heap) (locs : List Loc) (ls : Array Slot), Wd G A_ s_.heap [(to, .inr (8, [.ref v, .ref iv, .ref jv, .int k1, .int k2, .ref rd, .ref st, .ref ra, .ref og, .int ab, .int be, .int bds, .int nos, .int fls])), (v, .inr (7, [.int wide, .ref vw, .ref vc, .ref vp, .ref vs, .ref vn, .ref vm, .ref vu])), (vp, .inr (4, [.int 7, .int 3, .ref vpc, .int (nI n)])), (vpc, .inl (G.2.1, 21, .inl pf)), (vc, .inl (G.2.1, 7, .inl ck))] H locs → lv_has ls 7 [(0, .ref to), (1, .int (nI ka)), (2, .int (nI kb))] → W p_ l e_ ({ frames := 2, cells := 0, slots := 0, locals := 44 }) s_ m_ ar_ be_ me_ cd_ H locs 0 0 Q (F0 m_ 86 ls []) := by
          intro  H locs ls hW hl
          refine lv_aload_n hx hb dX10_yours_86 rfl (lv_at hl 0 rfl) ?_
          refine g_fiw (wr := [(v, .inr (7, [.int wide, .ref vw, .ref vc, .ref vp, .ref vs, .ref vn, .ref vm, .ref vu])), (vp, .inr (4, [.int 7, .int 3, .ref vpc, .int (nI n)])), (vpc, .inl (G.2.1, 21, .inl pf)), (vc, .inl (G.2.1, 7, .inl ck))]) (ww := fun (u_ : Unit) => [(to, .inr (8, [.ref v, .ref iv, .ref jv, .int k1, .int k2, .ref rd, .ref st, .ref ra, .ref og, .int ab, .int be, .int bds, .int (nos + 1), .int fls]))]) (w2 := fun (u_ : Unit) => [(to, .inr (8, [.ref v, .ref iv, .ref jv, .int k1, .int k2, .ref rd, .ref st, .ref ra, .ref og, .int ab, .int be, .int bds, .int (nos + 1), .int fls])), (v, .inr (7, [.int wide, .ref vw, .ref vc, .ref vp, .ref vs, .ref vn, .ref vm, .ref vu])), (vp, .inr (4, [.int 7, .int 3, .ref vpc, .int (nI n)])), (vpc, .inl (G.2.1, 21, .inl pf)), (vc, .inl (G.2.1, 7, .inl ck))]) C hW [0] [1, 2, 3, 4] [4, 0, 1, 2, 3] rfl rfl (by decide) (by decide) (by decide) (fun _ => rfl) (g_runV (As := []) (rest := []) (wc := [(to, .inr (8, [.ref v, .ref iv, .ref jv, .int k1, .int k2, .ref rd, .ref st, .ref ra, .ref og, .int ab, .int be, .int bds, .int nos, .int fls]))]) (q0 := 0) (ci := 8) C hW hl (c_X10_refuseNo l G v to iv jv rd st ra og k1 k2 ab be bds nos fls  _) k_ml_X10_167 q_X10_refuseNo (by decide) [0] rfl rfl rfl rfl rfl rfl (Nat.le_of_ble_eq_true rfl) dX10_yours_87 (by decide)) (fun r_1235 _ er_1235 => ?_)
          clear hW H locs; intro H locs hW
          refine lv_as (y := (-3)) er_1235 ?_
          clear er_1235 r_1235
          replace hW : Wd G A_ s_.heap [(to, .inr (8, [.ref v, .ref iv, .ref jv, .int k1, .int k2, .ref rd, .ref st, .ref ra, .ref og, .int ab, .int be, .int bds, .int (nos + 1), .int fls])), (v, .inr (7, [.int wide, .ref vw, .ref vc, .ref vp, .ref vs, .ref vn, .ref vm, .ref vu])), (vp, .inr (4, [.int 7, .int 3, .ref vpc, .int (nI n)])), (vpc, .inl (G.2.1, 21, .inl pf)), (vc, .inl (G.2.1, 7, .inl ck))] H locs := hW
          subst hQ
          exact g_iret (v := (-3)) C hW hrt ⟨(), by rfl, by rfl⟩ dX10_yours_90
        refine lv_if_eq (tgt := 86) hx hb dX10_yours_47 (by decide) (fun c_1225 => ?_) (fun c_1225 => ?_)
        · exact J_1234  _ _ _ hW (lv_sub hl [0, 1, 2] rfl)
        · refine lv_aload_n hx hb dX10_yours_50 rfl (lv_at hl 0 rfl) ?_
          refine g_get (k := 0) (v := .ref v) C hW 0 rfl rfl jnX10 (by decide) k_fl_X10_10 rfl dX10_yours_51 ?_
          refine lv_iload_n hx hb dX10_yours_54 rfl (lv_at hl 1 rfl) ?_
          refine lv_aload_n hx hb dX10_yours_55 rfl (lv_at hl 0 rfl) ?_
          refine g_get (k := 0) (v := .ref v) C hW 0 rfl rfl jnX10 (by decide) k_fl_X10_10 rfl dX10_yours_56 ?_
          refine g_fi C hW [1, 4] rfl (g_runV (As := []) (rest := [.int (nI ka), .ref v]) (wc := [(v, .inr (7, [.int wide, .ref vw, .ref vc, .ref vp, .ref vs, .ref vn, .ref vm, .ref vu])), (vc, .inl (G.2.1, 7, .inl ck))]) (q0 := 0) (ci := 7) C hW hl (c_X9_hill l G v vw vc vp vs vn vm vu wide ck  _) k_ml_X10_200 q_X9_hill (by decide) [1, 4] rfl rfl rfl rfl rfl rfl (Nat.le_of_ble_eq_true rfl) dX10_yours_59 (by decide)) (fun r_1237 er_1237 => ?_)
          clear hW H locs; intro H locs hW
          refine lv_as (y := ck 2) er_1237 ?_
          clear er_1237 r_1237
          refine g_fi C hW [1, 2, 3] rfl (g_runV (As := [.int (nI ka), .int (ck 2)]) (rest := []) (wc := [(v, .inr (7, [.int wide, .ref vw, .ref vc, .ref vp, .ref vs, .ref vn, .ref vm, .ref vu])), (vp, .inr (4, [.int 7, .int 3, .ref vpc, .int (nI n)])), (vpc, .inl (G.2.1, 21, .inl pf))]) (q0 := 0) (ci := 7) C hW hl (c_X9_isOn l G v vw vc vp vs vn vm vu wide vpc n pf (nI ka) (ck 2) (by first | assumption | omega) _) k_ml_X10_282 q_X9_isOn (by decide) [1, 2, 3] rfl rfl rfl rfl rfl rfl (Nat.le_of_ble_eq_true rfl) dX10_yours_62 (by decide)) (fun r_1238 er_1238 => ?_)
          clear hW H locs; intro H locs hW
          refine lv_as (y := bI (onb n pf (nI ka) (ck 2))) er_1238 ?_
          clear er_1238 r_1238
          refine lv_if_eq (tgt := 86) hx hb dX10_yours_65 (by decide) (fun c_1239 => ?_) (fun c_1239 => ?_)
          · exact J_1234  _ _ _ hW (lv_sub hl [0, 1, 2] rfl)
          · refine lv_aload_n hx hb dX10_yours_68 rfl (lv_at hl 0 rfl) ?_
            refine g_get (k := 0) (v := .ref v) C hW 0 rfl rfl jnX10 (by decide) k_fl_X10_10 rfl dX10_yours_69 ?_
            refine lv_iload_n hx hb dX10_yours_72 rfl (lv_at hl 2 rfl) ?_
            refine lv_aload_n hx hb dX10_yours_73 rfl (lv_at hl 0 rfl) ?_
            refine g_get (k := 0) (v := .ref v) C hW 0 rfl rfl jnX10 (by decide) k_fl_X10_10 rfl dX10_yours_74 ?_
            refine g_fi C hW [1, 4] rfl (g_runV (As := []) (rest := [.int (nI kb), .ref v]) (wc := [(v, .inr (7, [.int wide, .ref vw, .ref vc, .ref vp, .ref vs, .ref vn, .ref vm, .ref vu])), (vc, .inl (G.2.1, 7, .inl ck))]) (q0 := 0) (ci := 7) C hW hl (c_X9_hill l G v vw vc vp vs vn vm vu wide ck  _) k_ml_X10_200 q_X9_hill (by decide) [1, 4] rfl rfl rfl rfl rfl rfl (Nat.le_of_ble_eq_true rfl) dX10_yours_77 (by decide)) (fun r_1240 er_1240 => ?_)
            clear hW H locs; intro H locs hW
            refine lv_as (y := ck 2) er_1240 ?_
            clear er_1240 r_1240
            refine g_fi C hW [1, 2, 3] rfl (g_runV (As := [.int (nI kb), .int (ck 2)]) (rest := []) (wc := [(v, .inr (7, [.int wide, .ref vw, .ref vc, .ref vp, .ref vs, .ref vn, .ref vm, .ref vu])), (vp, .inr (4, [.int 7, .int 3, .ref vpc, .int (nI n)])), (vpc, .inl (G.2.1, 21, .inl pf))]) (q0 := 0) (ci := 7) C hW hl (c_X9_isOn l G v vw vc vp vs vn vm vu wide vpc n pf (nI kb) (ck 2) (by first | assumption | omega) _) k_ml_X10_282 q_X9_isOn (by decide) [1, 2, 3] rfl rfl rfl rfl rfl rfl (Nat.le_of_ble_eq_true rfl) dX10_yours_80 (by decide)) (fun r_1241 er_1241 => ?_)
            clear hW H locs; intro H locs hW
            refine lv_as (y := bI (onb n pf (nI kb) (ck 2))) er_1241 ?_
            clear er_1241 r_1241
            refine lv_if_ne (tgt := 91) hx hb dX10_yours_83 (by decide) (fun c_1242 => ?_) (fun c_1242 => ?_)
            · exfalso; simp only [bI_ne.mp c_1225, bI_ne.mp c_1239, bI_ne.mp c_1242, Bool.true_and, Bool.and_true] at hbad; exact absurd hbad (by decide)
            · exact J_1234  _ _ _ hW (lv_sub hl [0, 1, 2] rfl)
      · have c_1223n : ka = kb := (nI_eq (a := ka) (b := kb) (by omega) (by omega)).mp c_1223
        exfalso; omega
set_option maxHeartbeats 4000000 in
set_option maxRecDepth 100000 in
theorem c_X10_yours_bad (l : Launch) (G : gT) (v vw vc vp vs vn vm vu : Nat) (wide : Int32) (to iv jv rd st ra og : Nat) (k1 k2 ab be bds nos fls : Int32) (vpc n : Nat) (a9 b9 : Int32) (hbad : (okp n a9 && (okp n b9 && !(decide (a9 = b9)))) = false) : MI l G yX10_yours cX10_yours 7 .int ({ frames := 1, cells := 0, slots := 0, locals := 21 }) [.ref to, .int a9, .int b9] [(to, .inr (8, [.ref v, .ref iv, .ref jv, .int k1, .int k2, .ref rd, .ref st, .ref ra, .ref og, .int ab, .int be, .int bds, .int nos, .int fls])), (v, .inr (7, [.int wide, .ref vw, .ref vc, .ref vp, .ref vs, .ref vn, .ref vm, .ref vu])), (vp, .inr (4, [.int 7, .int 3, .ref vpc, .int (nI n)]))] (fun (r : Int32) w1 => ∃ u_ : Unit, (r = (-2)) ∧ w1 = [(to, .inr (8, [.ref v, .ref iv, .ref jv, .int k1, .int k2, .ref rd, .ref st, .ref ra, .ref og, .int ab, .int be, .int (bds + 1), .int nos, .int fls])), (v, .inr (7, [.int wide, .ref vw, .ref vc, .ref vp, .ref vs, .ref vn, .ref vm, .ref vu])), (vp, .inr (4, [.int 7, .int 3, .ref vpc, .int (nI n)]))]) := by
  refine MI.mk (by decide) (Nat.le_of_ble_eq_true rfl) ?_
  intro p_ e_ s_ m_ ar_ be_ me_ cd_ A_ ls C hrt hW hl
  have hx := C.1; have hb := C.2.1; have hown := C.2.2.2.1; have ht := C.2.2.2.2.1
  replace hl : lv_has ls 7 [(0, .ref to), (1, .int a9), (2, .int b9)] := hl
  generalize hQ : MQ be_ _ ar_ s_ 0 0 A_ = Q
  refine lv_aload_n hx hb dX10_yours_0 rfl (lv_at hl 0 rfl) ?_
  refine g_get (k := 0) (v := .ref v) C hW 0 rfl rfl jnX10 (by decide) k_fl_X10_10 rfl dX10_yours_1 ?_
  refine g_getN (k := 3) (v := .ref vp) (host := RX10) C hW 1 rfl rfl jnX9 (by decide) (List.mem_of_getElem? (i := 5) rfl) rfl dX10_yours_4 ?_
  refine lv_iload_n hx hb dX10_yours_7 rfl (lv_at hl 1 rfl) ?_
  refine g_fi C hW [2] rfl (g_runV (As := [.int a9]) (rest := []) (wc := [(vp, .inr (4, [.int 7, .int 3, .ref vpc, .int (nI n)]))]) (q0 := 0) (ci := 4) C hW hl (c_X6_has l G vp vpc 7 3 n a9  _) k_ml_X10_161 q_X6_has (by decide) [2] rfl rfl rfl rfl rfl rfl (Nat.le_of_ble_eq_true rfl) dX10_yours_8 (by decide)) (fun r_1243 er_1243 => ?_)
  clear hW; intro H locs hW
  refine lv_as (y := bI (okp n a9)) er_1243 ?_
  clear er_1243 r_1243
  have J_1247 : ∀ (H : Heap) (locs : List Loc) (ls : Array Slot), Wd G A_ s_.heap [(to, .inr (8, [.ref v, .ref iv, .ref jv, .int k1, .int k2, .ref rd, .ref st, .ref ra, .ref og, .int ab, .int be, .int bds, .int nos, .int fls])), (v, .inr (7, [.int wide, .ref vw, .ref vc, .ref vp, .ref vs, .ref vn, .ref vm, .ref vu])), (vp, .inr (4, [.int 7, .int 3, .ref vpc, .int (nI n)]))] H locs → lv_has ls 7 [(0, .ref to), (1, .int a9), (2, .int b9)] → W p_ l e_ ({ frames := 1, cells := 0, slots := 0, locals := 21 }) s_ m_ ar_ be_ me_ cd_ H locs 0 0 Q (F0 m_ 33 ls []) := by
    intro  H locs ls hW hl
    refine lv_aload_n hx hb dX10_yours_33 rfl (lv_at hl 0 rfl) ?_
    refine lv_bipush (v := (-2)) hx hb dX10_yours_34 (by decide) ?_
    refine g_fiw (wr := [(v, .inr (7, [.int wide, .ref vw, .ref vc, .ref vp, .ref vs, .ref vn, .ref vm, .ref vu])), (vp, .inr (4, [.int 7, .int 3, .ref vpc, .int (nI n)]))]) (ww := fun (u_ : Unit) => [(to, .inr (8, [.ref v, .ref iv, .ref jv, .int k1, .int k2, .ref rd, .ref st, .ref ra, .ref og, .int ab, .int be, .int (bds + 1), .int nos, .int fls]))]) (w2 := fun (u_ : Unit) => [(to, .inr (8, [.ref v, .ref iv, .ref jv, .int k1, .int k2, .ref rd, .ref st, .ref ra, .ref og, .int ab, .int be, .int (bds + 1), .int nos, .int fls])), (v, .inr (7, [.int wide, .ref vw, .ref vc, .ref vp, .ref vs, .ref vn, .ref vm, .ref vu])), (vp, .inr (4, [.int 7, .int 3, .ref vpc, .int (nI n)]))]) C hW [0] [1, 2] [2, 0, 1] rfl rfl (by decide) (by decide) (by decide) (fun _ => rfl) (g_runV (As := [.int (-2)]) (rest := []) (wc := [(to, .inr (8, [.ref v, .ref iv, .ref jv, .int k1, .int k2, .ref rd, .ref st, .ref ra, .ref og, .int ab, .int be, .int bds, .int nos, .int fls]))]) (q0 := 0) (ci := 8) C hW hl (c_X10_refuseBad l G v to iv jv rd st ra og k1 k2 ab be bds nos fls (-2)  _) k_ml_X10_77 q_X10_refuseBad (by decide) [0] rfl rfl rfl rfl rfl rfl (Nat.le_of_ble_eq_true rfl) dX10_yours_36 (by decide)) (fun r_1248 _ er_1248 => ?_)
    clear hW H locs; intro H locs hW
    refine lv_as (y := (-2)) er_1248 ?_
    clear er_1248 r_1248
    replace hW : Wd G A_ s_.heap [(to, .inr (8, [.ref v, .ref iv, .ref jv, .int k1, .int k2, .ref rd, .ref st, .ref ra, .ref og, .int ab, .int be, .int (bds + 1), .int nos, .int fls])), (v, .inr (7, [.int wide, .ref vw, .ref vc, .ref vp, .ref vs, .ref vn, .ref vm, .ref vu])), (vp, .inr (4, [.int 7, .int 3, .ref vpc, .int (nI n)]))] H locs := hW
    subst hQ
    exact g_iret (v := (-2)) C hW hrt ⟨(), by rfl, by rfl⟩ dX10_yours_39
  refine lv_if_eq (tgt := 33) hx hb dX10_yours_11 (by decide) (fun c_1244 => ?_) (fun c_1244 => ?_)
  · exact J_1247  _ _ _ hW (lv_sub hl [0, 1, 2] rfl)
  · refine lv_aload_n hx hb dX10_yours_14 rfl (lv_at hl 0 rfl) ?_
    refine g_get (k := 0) (v := .ref v) C hW 0 rfl rfl jnX10 (by decide) k_fl_X10_10 rfl dX10_yours_15 ?_
    refine g_getN (k := 3) (v := .ref vp) (host := RX10) C hW 1 rfl rfl jnX9 (by decide) (List.mem_of_getElem? (i := 5) rfl) rfl dX10_yours_18 ?_
    refine lv_iload_n hx hb dX10_yours_21 rfl (lv_at hl 2 rfl) ?_
    refine g_fi C hW [2] rfl (g_runV (As := [.int b9]) (rest := []) (wc := [(vp, .inr (4, [.int 7, .int 3, .ref vpc, .int (nI n)]))]) (q0 := 0) (ci := 4) C hW hl (c_X6_has l G vp vpc 7 3 n b9  _) k_ml_X10_161 q_X6_has (by decide) [2] rfl rfl rfl rfl rfl rfl (Nat.le_of_ble_eq_true rfl) dX10_yours_22 (by decide)) (fun r_1250 er_1250 => ?_)
    clear hW H locs; intro H locs hW
    refine lv_as (y := bI (okp n b9)) er_1250 ?_
    clear er_1250 r_1250
    refine lv_if_eq (tgt := 33) hx hb dX10_yours_25 (by decide) (fun c_1251 => ?_) (fun c_1251 => ?_)
    · exact J_1247  _ _ _ hW (lv_sub hl [0, 1, 2] rfl)
    · refine lv_iload_n hx hb dX10_yours_28 rfl (lv_at hl 1 rfl) ?_
      refine lv_iload_n hx hb dX10_yours_29 rfl (lv_at hl 2 rfl) ?_
      refine lv_icmp_ne (tgt := 40) hx hb dX10_yours_30 (by decide) (fun c_1252 => ?_) (fun c_1252 => ?_)
      · exfalso; simp [bI_ne.mp c_1244, bI_ne.mp c_1251, c_1252, if_true, if_false, reduceIte, Bool.false_eq_true] at hbad
      · exact J_1247  _ _ _ hW (lv_sub hl [0, 1, 2] rfl)
set_option maxHeartbeats 4000000 in
set_option maxRecDepth 100000 in
theorem c_X10_gusts_ok (l : Launch) (G : gT) (v vw vc vp vs vn vm vu : Nat) (wide : Int32) (vpc n : Nat) (pf : Nat → Int32) (ck wd : Nat → Int32) (to iv jv rd st ra og : Nat) (k1 k2 ab be bds nos fls : Int32) (k hr : Nat) (c9 : Int32) (hk : k < n) (hn : n ≤ 7) (eh : ck 6 = nI hr) (hh : hr < 100000) (hP : okP n pf) (hWd : okW wd) (hg : Rg (ck 1) 1 9) (h1 : iw c9 0 10 = true) : MI l G yX10_gusts cX10_gusts 6 .int ({ frames := 3, cells := 0, slots := 0, locals := 70 }) [.ref to, .int (nI k), .int c9] [(to, .inr (8, [.ref v, .ref iv, .ref jv, .int k1, .int k2, .ref rd, .ref st, .ref ra, .ref og, .int ab, .int be, .int bds, .int nos, .int fls])), (v, .inr (7, [.int wide, .ref vw, .ref vc, .ref vp, .ref vs, .ref vn, .ref vm, .ref vu])), (vp, .inr (4, [.int 7, .int 3, .ref vpc, .int (nI n)])), (vpc, .inl (G.2.1, 21, .inl pf)), (vc, .inl (G.2.1, 7, .inl ck)), (vw, .inl (G.2.1, 6, .inl wd))] (fun (r : Int32) w1 => ∃ u_ : Unit, (r = 1) ∧ w1 = [(to, .inr (8, [.ref v, .ref iv, .ref jv, .int k1, .int k2, .ref rd, .ref st, .ref ra, .ref og, .int ((ktF ((if decide (wide ≤ fl (ck 0) (ck 1) (bl (pf (k * 3 + 0)) (pf (k * 3 + 2)) (nI (hr % 24))) (hp (pf (k * 3 + 1)) (wd (hr % 6)))) then 10 - c9 else 0) + (if decide (wide ≤ fl (ck 0) (ck 1) (bl (pf (k * 3 + 0)) (pf (k * 3 + 2)) (nI (hr % 24))) (hp (pf (k * 3 + 1)) (if (-4) < wd (hr % 6) - 4 then wd (hr % 6) - 4 else (-4)))) then c9 else 0)) 9).1), .int ((ktF ((if decide (wide ≤ fl (ck 0) (ck 1) (bl (pf (k * 3 + 0)) (pf (k * 3 + 2)) (nI (hr % 24))) (hp (pf (k * 3 + 1)) (wd (hr % 6)))) then 10 - c9 else 0) + (if decide (wide ≤ fl (ck 0) (ck 1) (bl (pf (k * 3 + 0)) (pf (k * 3 + 2)) (nI (hr % 24))) (hp (pf (k * 3 + 1)) (if (-4) < wd (hr % 6) - 4 then wd (hr % 6) - 4 else (-4)))) then c9 else 0)) 9).2), .int bds, .int nos, .int fls])), (v, .inr (7, [.int wide, .ref vw, .ref vc, .ref vp, .ref vs, .ref vn, .ref vm, .ref vu])), (vp, .inr (4, [.int 7, .int 3, .ref vpc, .int (nI n)])), (vpc, .inl (G.2.1, 21, .inl pf)), (vc, .inl (G.2.1, 7, .inl ck)), (vw, .inl (G.2.1, 6, .inl wd))]) := by
  refine MI.mk (by decide) (Nat.le_of_ble_eq_true rfl) ?_
  intro p_ e_ s_ m_ ar_ be_ me_ cd_ A_ ls C hrt hW hl
  have hx := C.1; have hb := C.2.1; have hown := C.2.2.2.1; have ht := C.2.2.2.2.1
  replace hl : lv_has ls 6 [(0, .ref to), (1, .int (nI k)), (2, .int c9)] := hl
  generalize hQ : MQ be_ _ ar_ s_ 0 0 A_ = Q
  refine lv_aload_n hx hb dX10_gusts_0 rfl (lv_at hl 0 rfl) ?_
  refine g_get (k := 0) (v := .ref v) C hW 0 rfl rfl jnX10 (by decide) k_fl_X10_10 rfl dX10_gusts_1 ?_
  refine g_getN (k := 3) (v := .ref vp) (host := RX10) C hW 1 rfl rfl jnX9 (by decide) (List.mem_of_getElem? (i := 5) rfl) rfl dX10_gusts_4 ?_
  refine lv_iload_n hx hb dX10_gusts_7 rfl (lv_at hl 1 rfl) ?_
  refine g_fi C hW [2] rfl (g_runV (As := [.int (nI k)]) (rest := []) (wc := [(vp, .inr (4, [.int 7, .int 3, .ref vpc, .int (nI n)]))]) (q0 := 0) (ci := 4) C hW hl (c_X6_has l G vp vpc 7 3 n (nI k)  _) k_ml_X10_161 q_X6_has (by decide) [2] rfl rfl rfl rfl rfl rfl (Nat.le_of_ble_eq_true rfl) dX10_gusts_8 (by decide)) (fun r_1253 er_1253 => ?_)
  clear hW; intro H locs hW
  refine lv_as (y := bI (okp n (nI k))) er_1253 ?_
  clear er_1253 r_1253
  refine lv_if_eq (tgt := 24) hx hb dX10_gusts_11 (by decide) (fun c_1254 => ?_) (fun c_1254 => ?_)
  · exfalso; exact dd (by first | assumption | exact okp_nI (by omega) (by assumption) | exact decide_eq_true (by first | assumption | omega)) c_1254
  · refine lv_iload_n hx hb dX10_gusts_14 rfl (lv_at hl 2 rfl) ?_
    refine lv_iconst (v := 0) hx hb dX10_gusts_15 (by decide) ?_
    refine lv_bipush (v := 10) hx hb dX10_gusts_16 (by decide) ?_
    refine g_fi C hW [] rfl (g_runS (As := [.int c9, .int 0, .int 10]) (rest := []) (wc := []) C hW hl (c_X10_isWithin l G c9 0 10  _) k_ml_X10_73 q_X10_isWithin (by decide) [] rfl rfl rfl rfl (Nat.le_of_ble_eq_true rfl) dX10_gusts_18 (by decide)) (fun r_1255 er_1255 => ?_)
    clear hW H locs; intro H locs hW
    refine lv_as (y := bI (iw c9 0 10)) er_1255 ?_
    clear er_1255 r_1255
    refine lv_if_ne (tgt := 31) hx hb dX10_gusts_21 (by decide) (fun c_1256 => ?_) (fun c_1256 => ?_)
    · refine lv_aload_n hx hb dX10_gusts_31 rfl (lv_at hl 0 rfl) ?_
      refine g_get (k := 0) (v := .ref v) C hW 0 rfl rfl jnX10 (by decide) k_fl_X10_10 rfl dX10_gusts_32 ?_
      refine lv_aload_n hx hb dX10_gusts_35 rfl (lv_at hl 0 rfl) ?_
      refine g_get (k := 0) (v := .ref v) C hW 0 rfl rfl jnX10 (by decide) k_fl_X10_10 rfl dX10_gusts_36 ?_
      refine g_fi C hW [1, 4] rfl (g_runV (As := []) (rest := [.ref v]) (wc := [(v, .inr (7, [.int wide, .ref vw, .ref vc, .ref vp, .ref vs, .ref vn, .ref vm, .ref vu])), (vc, .inl (G.2.1, 7, .inl ck))]) (q0 := 0) (ci := 7) C hW hl (c_X9_hour l G v vw vc vp vs vn vm vu wide ck  _) k_ml_X10_192 q_X9_hour (by decide) [1, 4] rfl rfl rfl rfl rfl rfl (Nat.le_of_ble_eq_true rfl) dX10_gusts_39 (by decide)) (fun r_1257 er_1257 => ?_)
      clear hW H locs; intro H locs hW
      refine lv_as (y := ck 6) er_1257 ?_
      clear er_1257 r_1257
      refine lv_as (y := nI hr) (eh) ?_
      refine g_fi C hW [1, 5] rfl (g_runV (As := [.int (nI hr)]) (rest := []) (wc := [(v, .inr (7, [.int wide, .ref vw, .ref vc, .ref vp, .ref vs, .ref vn, .ref vm, .ref vu])), (vw, .inl (G.2.1, 6, .inl wd))]) (q0 := 0) (ci := 7) C hW hl (c_X9_windIn l G v vw vc vp vs vn vm vu wide wd hr (by omega) _) k_ml_X10_295 q_X9_windIn (by decide) [1, 5] rfl rfl rfl rfl rfl rfl (Nat.le_of_ble_eq_true rfl) dX10_gusts_42 (by decide)) (fun r_1258 er_1258 => ?_)
      clear hW H locs; intro H locs hW
      refine lv_as (y := wd (hr % 6)) er_1258 ?_
      clear er_1258 r_1258
      refine lv_istore_n (lv' := [(3, .int (wd (hr % 6))), (0, .ref to), (1, .int (nI k)), (2, .int c9)]) hx hb dX10_gusts_45 rfl hl (by decide) rfl ?_
      clear hl ls; intro ls hl
      refine lv_aload_n hx hb dX10_gusts_46 rfl (lv_at hl 1 rfl) ?_
      refine g_get (k := 0) (v := .ref v) C hW 0 rfl rfl jnX10 (by decide) k_fl_X10_10 rfl dX10_gusts_47 ?_
      refine lv_iload_n hx hb dX10_gusts_50 rfl (lv_at hl 2 rfl) ?_
      refine lv_iload_n hx hb dX10_gusts_51 rfl (lv_at hl 0 rfl) ?_
      refine g_fi C hW [1, 2, 3, 4] rfl (g_runV (As := [.int (nI k), .int (wd (hr % 6))]) (rest := []) (wc := [(v, .inr (7, [.int wide, .ref vw, .ref vc, .ref vp, .ref vs, .ref vn, .ref vm, .ref vu])), (vp, .inr (4, [.int 7, .int 3, .ref vpc, .int (nI n)])), (vpc, .inl (G.2.1, 21, .inl pf)), (vc, .inl (G.2.1, 7, .inl ck))]) (q0 := 0) (ci := 7) C hW hl (c_X9_carriesInWind l G v vw vc vp vs vn vm vu wide vpc n pf ck k hr (wd (hr % 6)) (by first | assumption | omega) (by first | assumption | omega) (by assumption) (by omega) (by assumption) (by assumption) (by exact hWd _ (Nat.mod_lt _ (by decide))) _) k_ml_X10_298 q_X9_carriesInWind (by decide) [1, 2, 3, 4] rfl rfl rfl rfl rfl rfl (Nat.le_of_ble_eq_true rfl) dX10_gusts_52 (by decide)) (fun r_1259 er_1259 => ?_)
      clear hW H locs; intro H locs hW
      refine lv_as (y := bI (decide (wide ≤ fl (ck 0) (ck 1) (bl (pf (k * 3 + 0)) (pf (k * 3 + 2)) (nI (hr % 24))) (hp (pf (k * 3 + 1)) (wd (hr % 6)))))) er_1259 ?_
      clear er_1259 r_1259
      have J_1262 : ∀ (y_1261 : Int32) (_ : y_1261 = (if (bI (decide (wide ≤ fl (ck 0) (ck 1) (bl (pf (k * 3 + 0)) (pf (k * 3 + 2)) (nI (hr % 24))) (hp (pf (k * 3 + 1)) (wd (hr % 6)))))) = 0 then 0 else 10 - c9)), ∀ (H : Heap) (locs : List Loc) (ls : Array Slot), Wd G A_ s_.heap [(to, .inr (8, [.ref v, .ref iv, .ref jv, .int k1, .int k2, .ref rd, .ref st, .ref ra, .ref og, .int ab, .int be, .int bds, .int nos, .int fls])), (v, .inr (7, [.int wide, .ref vw, .ref vc, .ref vp, .ref vs, .ref vn, .ref vm, .ref vu])), (vp, .inr (4, [.int 7, .int 3, .ref vpc, .int (nI n)])), (vpc, .inl (G.2.1, 21, .inl pf)), (vc, .inl (G.2.1, 7, .inl ck)), (vw, .inl (G.2.1, 6, .inl wd))] H locs → lv_has ls 6 [(3, .int (wd (hr % 6))), (0, .ref to), (1, .int (nI k)), (2, .int c9)] → W p_ l e_ ({ frames := 3, cells := 0, slots := 0, locals := 70 }) s_ m_ ar_ be_ me_ cd_ H locs 0 0 Q (F0 m_ 66 ls [.int y_1261]) := by
        intro y_1261 ey_1261 H locs ls hW hl
        refine lv_as (y := if decide (wide ≤ fl (ck 0) (ck 1) (bl (pf (k * 3 + 0)) (pf (k * 3 + 2)) (nI (hr % 24))) (hp (pf (k * 3 + 1)) (wd (hr % 6)))) then 10 - c9 else 0) (by simp only [ey_1261, bstep]) ?_
        refine lv_istore (lv' := [(4, .int (if decide (wide ≤ fl (ck 0) (ck 1) (bl (pf (k * 3 + 0)) (pf (k * 3 + 2)) (nI (hr % 24))) (hp (pf (k * 3 + 1)) (wd (hr % 6)))) then 10 - c9 else 0)), (3, .int (wd (hr % 6))), (0, .ref to), (1, .int (nI k)), (2, .int c9)]) hx hb dX10_gusts_66 hl (by decide) rfl ?_
        clear hl ls; intro ls hl
        refine lv_aload_n hx hb dX10_gusts_68 rfl (lv_at hl 2 rfl) ?_
        refine g_get (k := 0) (v := .ref v) C hW 0 rfl rfl jnX10 (by decide) k_fl_X10_10 rfl dX10_gusts_69 ?_
        refine lv_iload_n hx hb dX10_gusts_72 rfl (lv_at hl 3 rfl) ?_
        refine lv_bipush (v := (-4)) hx hb dX10_gusts_73 (by decide) ?_
        refine lv_iload_n hx hb dX10_gusts_75 rfl (lv_at hl 1 rfl) ?_
        refine lv_iconst (v := 4) hx hb dX10_gusts_76 (by decide) ?_
        refine lv_isub hx hb dX10_gusts_77 ?_
        refine g_max C hl k_ml_X10_301 ⟨Nat.le_of_ble_eq_true rfl, Nat.le_of_ble_eq_true rfl⟩ (by decide) dX10_gusts_78 ?_
        refine g_fi C hW [1, 2, 3, 4] rfl (g_runV (As := [.int (nI k), .int (if (-4) < ((wd (hr % 6)) - 4) then ((wd (hr % 6)) - 4) else (-4))]) (rest := []) (wc := [(v, .inr (7, [.int wide, .ref vw, .ref vc, .ref vp, .ref vs, .ref vn, .ref vm, .ref vu])), (vp, .inr (4, [.int 7, .int 3, .ref vpc, .int (nI n)])), (vpc, .inl (G.2.1, 21, .inl pf)), (vc, .inl (G.2.1, 7, .inl ck))]) (q0 := 0) (ci := 7) C hW hl (c_X9_carriesInWind l G v vw vc vp vs vn vm vu wide vpc n pf ck k hr (if (-4) < ((wd (hr % 6)) - 4) then ((wd (hr % 6)) - 4) else (-4)) (by first | assumption | omega) (by first | assumption | omega) (by assumption) (by omega) (by assumption) (by assumption) (by exact gu_rg (hWd _ (Nat.mod_lt _ (by decide)))) _) k_ml_X10_298 q_X9_carriesInWind (by decide) [1, 2, 3, 4] rfl rfl rfl rfl rfl rfl (Nat.le_of_ble_eq_true rfl) dX10_gusts_81 (by decide)) (fun r_1263 er_1263 => ?_)
        clear hW H locs; intro H locs hW
        refine lv_as (y := bI (decide (wide ≤ fl (ck 0) (ck 1) (bl (pf (k * 3 + 0)) (pf (k * 3 + 2)) (nI (hr % 24))) (hp (pf (k * 3 + 1)) (if (-4) < ((wd (hr % 6)) - 4) then ((wd (hr % 6)) - 4) else (-4)))))) er_1263 ?_
        clear er_1263 r_1263
        have J_1266 : ∀ (y_1265 : Int32) (_ : y_1265 = (if (bI (decide (wide ≤ fl (ck 0) (ck 1) (bl (pf (k * 3 + 0)) (pf (k * 3 + 2)) (nI (hr % 24))) (hp (pf (k * 3 + 1)) (if (-4) < ((wd (hr % 6)) - 4) then ((wd (hr % 6)) - 4) else (-4)))))) = 0 then 0 else c9)), ∀ (H : Heap) (locs : List Loc) (ls : Array Slot), Wd G A_ s_.heap [(to, .inr (8, [.ref v, .ref iv, .ref jv, .int k1, .int k2, .ref rd, .ref st, .ref ra, .ref og, .int ab, .int be, .int bds, .int nos, .int fls])), (v, .inr (7, [.int wide, .ref vw, .ref vc, .ref vp, .ref vs, .ref vn, .ref vm, .ref vu])), (vp, .inr (4, [.int 7, .int 3, .ref vpc, .int (nI n)])), (vpc, .inl (G.2.1, 21, .inl pf)), (vc, .inl (G.2.1, 7, .inl ck)), (vw, .inl (G.2.1, 6, .inl wd))] H locs → lv_has ls 6 [(4, .int (if decide (wide ≤ fl (ck 0) (ck 1) (bl (pf (k * 3 + 0)) (pf (k * 3 + 2)) (nI (hr % 24))) (hp (pf (k * 3 + 1)) (wd (hr % 6)))) then 10 - c9 else 0)), (3, .int (wd (hr % 6))), (0, .ref to), (1, .int (nI k)), (2, .int c9)] → W p_ l e_ ({ frames := 3, cells := 0, slots := 0, locals := 70 }) s_ m_ ar_ be_ me_ cd_ H locs 0 0 Q (F0 m_ 92 ls [.int y_1265]) := by
          intro y_1265 ey_1265 H locs ls hW hl
          refine lv_as (y := if decide (wide ≤ fl (ck 0) (ck 1) (bl (pf (k * 3 + 0)) (pf (k * 3 + 2)) (nI (hr % 24))) (hp (pf (k * 3 + 1)) (if (-4) < wd (hr % 6) - 4 then wd (hr % 6) - 4 else (-4)))) then c9 else 0) (by simp only [ey_1261, ey_1265, bstep]) ?_
          refine lv_istore (lv' := [(5, .int (if decide (wide ≤ fl (ck 0) (ck 1) (bl (pf (k * 3 + 0)) (pf (k * 3 + 2)) (nI (hr % 24))) (hp (pf (k * 3 + 1)) (if (-4) < wd (hr % 6) - 4 then wd (hr % 6) - 4 else (-4)))) then c9 else 0)), (4, .int (if decide (wide ≤ fl (ck 0) (ck 1) (bl (pf (k * 3 + 0)) (pf (k * 3 + 2)) (nI (hr % 24))) (hp (pf (k * 3 + 1)) (wd (hr % 6)))) then 10 - c9 else 0)), (3, .int (wd (hr % 6))), (0, .ref to), (1, .int (nI k)), (2, .int c9)]) hx hb dX10_gusts_92 hl (by decide) rfl ?_
          clear hl ls; intro ls hl
          refine lv_aload_n hx hb dX10_gusts_94 rfl (lv_at hl 3 rfl) ?_
          refine lv_iload hx hb dX10_gusts_95 (lv_at hl 1 rfl) ?_
          refine lv_iload hx hb dX10_gusts_97 (lv_at hl 0 rfl) ?_
          refine lv_iadd hx hb dX10_gusts_99 ?_
          refine g_fvw (wr := [(v, .inr (7, [.int wide, .ref vw, .ref vc, .ref vp, .ref vs, .ref vn, .ref vm, .ref vu])), (vp, .inr (4, [.int 7, .int 3, .ref vpc, .int (nI n)])), (vpc, .inl (G.2.1, 21, .inl pf)), (vc, .inl (G.2.1, 7, .inl ck)), (vw, .inl (G.2.1, 6, .inl wd))]) (ww := fun (u_ : Unit) => [(to, .inr (8, [.ref v, .ref iv, .ref jv, .int k1, .int k2, .ref rd, .ref st, .ref ra, .ref og, .int ((ktF ((if decide (wide ≤ fl (ck 0) (ck 1) (bl (pf (k * 3 + 0)) (pf (k * 3 + 2)) (nI (hr % 24))) (hp (pf (k * 3 + 1)) (wd (hr % 6)))) then 10 - c9 else 0) + (if decide (wide ≤ fl (ck 0) (ck 1) (bl (pf (k * 3 + 0)) (pf (k * 3 + 2)) (nI (hr % 24))) (hp (pf (k * 3 + 1)) (if (-4) < wd (hr % 6) - 4 then wd (hr % 6) - 4 else (-4)))) then c9 else 0)) 9).1), .int ((ktF ((if decide (wide ≤ fl (ck 0) (ck 1) (bl (pf (k * 3 + 0)) (pf (k * 3 + 2)) (nI (hr % 24))) (hp (pf (k * 3 + 1)) (wd (hr % 6)))) then 10 - c9 else 0) + (if decide (wide ≤ fl (ck 0) (ck 1) (bl (pf (k * 3 + 0)) (pf (k * 3 + 2)) (nI (hr % 24))) (hp (pf (k * 3 + 1)) (if (-4) < wd (hr % 6) - 4 then wd (hr % 6) - 4 else (-4)))) then c9 else 0)) 9).2), .int bds, .int nos, .int fls]))]) (w2 := fun (u_ : Unit) => [(to, .inr (8, [.ref v, .ref iv, .ref jv, .int k1, .int k2, .ref rd, .ref st, .ref ra, .ref og, .int ((ktF ((if decide (wide ≤ fl (ck 0) (ck 1) (bl (pf (k * 3 + 0)) (pf (k * 3 + 2)) (nI (hr % 24))) (hp (pf (k * 3 + 1)) (wd (hr % 6)))) then 10 - c9 else 0) + (if decide (wide ≤ fl (ck 0) (ck 1) (bl (pf (k * 3 + 0)) (pf (k * 3 + 2)) (nI (hr % 24))) (hp (pf (k * 3 + 1)) (if (-4) < wd (hr % 6) - 4 then wd (hr % 6) - 4 else (-4)))) then c9 else 0)) 9).1), .int ((ktF ((if decide (wide ≤ fl (ck 0) (ck 1) (bl (pf (k * 3 + 0)) (pf (k * 3 + 2)) (nI (hr % 24))) (hp (pf (k * 3 + 1)) (wd (hr % 6)))) then 10 - c9 else 0) + (if decide (wide ≤ fl (ck 0) (ck 1) (bl (pf (k * 3 + 0)) (pf (k * 3 + 2)) (nI (hr % 24))) (hp (pf (k * 3 + 1)) (if (-4) < wd (hr % 6) - 4 then wd (hr % 6) - 4 else (-4)))) then c9 else 0)) 9).2), .int bds, .int nos, .int fls])), (v, .inr (7, [.int wide, .ref vw, .ref vc, .ref vp, .ref vs, .ref vn, .ref vm, .ref vu])), (vp, .inr (4, [.int 7, .int 3, .ref vpc, .int (nI n)])), (vpc, .inl (G.2.1, 21, .inl pf)), (vc, .inl (G.2.1, 7, .inl ck)), (vw, .inl (G.2.1, 6, .inl wd))]) C hW [0] [1, 2, 3, 4, 5] [5, 0, 1, 2, 3, 4] rfl rfl (by decide) (by decide) (by decide) (fun _ => rfl) (g_runV (As := [.int ((if decide (wide ≤ fl (ck 0) (ck 1) (bl (pf (k * 3 + 0)) (pf (k * 3 + 2)) (nI (hr % 24))) (hp (pf (k * 3 + 1)) (wd (hr % 6)))) then 10 - c9 else 0) + (if decide (wide ≤ fl (ck 0) (ck 1) (bl (pf (k * 3 + 0)) (pf (k * 3 + 2)) (nI (hr % 24))) (hp (pf (k * 3 + 1)) (if (-4) < wd (hr % 6) - 4 then wd (hr % 6) - 4 else (-4)))) then c9 else 0))]) (rest := []) (wc := [(to, .inr (8, [.ref v, .ref iv, .ref jv, .int k1, .int k2, .ref rd, .ref st, .ref ra, .ref og, .int ab, .int be, .int bds, .int nos, .int fls]))]) (q0 := 0) (ci := 8) C hW hl (c_X10_keepTenths l G v to iv jv rd st ra og k1 k2 ab be bds nos fls ((if decide (wide ≤ fl (ck 0) (ck 1) (bl (pf (k * 3 + 0)) (pf (k * 3 + 2)) (nI (hr % 24))) (hp (pf (k * 3 + 1)) (wd (hr % 6)))) then 10 - c9 else 0) + (if decide (wide ≤ fl (ck 0) (ck 1) (bl (pf (k * 3 + 0)) (pf (k * 3 + 2)) (nI (hr % 24))) (hp (pf (k * 3 + 1)) (if (-4) < wd (hr % 6) - 4 then wd (hr % 6) - 4 else (-4)))) then c9 else 0))  _) k_ml_X10_306 q_X10_keepTenths (by decide) [0] rfl rfl rfl rfl rfl rfl (Nat.le_of_ble_eq_true rfl) dX10_gusts_100 (by decide)) (fun _ er_1267 => ?_)
          clear hW H locs; intro H locs hW
          replace hW : Wd G A_ s_.heap [(to, .inr (8, [.ref v, .ref iv, .ref jv, .int k1, .int k2, .ref rd, .ref st, .ref ra, .ref og, .int ((ktF ((if decide (wide ≤ fl (ck 0) (ck 1) (bl (pf (k * 3 + 0)) (pf (k * 3 + 2)) (nI (hr % 24))) (hp (pf (k * 3 + 1)) (wd (hr % 6)))) then 10 - c9 else 0) + (if decide (wide ≤ fl (ck 0) (ck 1) (bl (pf (k * 3 + 0)) (pf (k * 3 + 2)) (nI (hr % 24))) (hp (pf (k * 3 + 1)) (if (-4) < wd (hr % 6) - 4 then wd (hr % 6) - 4 else (-4)))) then c9 else 0)) 9).1), .int ((ktF ((if decide (wide ≤ fl (ck 0) (ck 1) (bl (pf (k * 3 + 0)) (pf (k * 3 + 2)) (nI (hr % 24))) (hp (pf (k * 3 + 1)) (wd (hr % 6)))) then 10 - c9 else 0) + (if decide (wide ≤ fl (ck 0) (ck 1) (bl (pf (k * 3 + 0)) (pf (k * 3 + 2)) (nI (hr % 24))) (hp (pf (k * 3 + 1)) (if (-4) < wd (hr % 6) - 4 then wd (hr % 6) - 4 else (-4)))) then c9 else 0)) 9).2), .int bds, .int nos, .int fls])), (v, .inr (7, [.int wide, .ref vw, .ref vc, .ref vp, .ref vs, .ref vn, .ref vm, .ref vu])), (vp, .inr (4, [.int 7, .int 3, .ref vpc, .int (nI n)])), (vpc, .inl (G.2.1, 21, .inl pf)), (vc, .inl (G.2.1, 7, .inl ck)), (vw, .inl (G.2.1, 6, .inl wd))] H locs := hW
          refine lv_iconst (v := 1) hx hb dX10_gusts_103 (by decide) ?_
          subst hQ
          exact g_iret (v := 1) C hW hrt ⟨(), by rfl, by rfl⟩ dX10_gusts_104
        refine lv_if_eq (tgt := 91) hx hb dX10_gusts_84 (by decide) (fun c_1264 => ?_) (fun c_1264 => ?_)
        · refine lv_iconst (v := 0) hx hb dX10_gusts_91 (by decide) ?_
          exact J_1266 0 (by first | (simp only [c_1264, if_true, if_false, reduceIte]; done) | (simp [c_1264]; done) | rfl) _ _ _ hW (lv_sub hl [0, 1, 2, 3, 4] rfl)
        · refine lv_iload_n hx hb dX10_gusts_87 rfl (lv_at hl 4 rfl) ?_
          refine lv_goto (tgt := 92) hx hb dX10_gusts_88 (by decide) ?_
          exact J_1266 c9 (by first | (simp only [c_1264, if_true, if_false, reduceIte]; done) | (simp [c_1264]; done) | rfl) _ _ _ hW (lv_sub hl [0, 1, 2, 3, 4] rfl)
      refine lv_if_eq (tgt := 65) hx hb dX10_gusts_55 (by decide) (fun c_1260 => ?_) (fun c_1260 => ?_)
      · refine lv_iconst (v := 0) hx hb dX10_gusts_65 (by decide) ?_
        exact J_1262 0 (by first | (simp only [c_1260, if_true, if_false, reduceIte]; done) | (simp [c_1260]; done) | rfl) _ _ _ hW (lv_sub hl [0, 1, 2, 3] rfl)
      · refine lv_bipush (v := 10) hx hb dX10_gusts_58 (by decide) ?_
        refine lv_iload_n hx hb dX10_gusts_60 rfl (lv_at hl 3 rfl) ?_
        refine lv_isub hx hb dX10_gusts_61 ?_
        refine lv_goto (tgt := 66) hx hb dX10_gusts_62 (by decide) ?_
        exact J_1262 (10 - c9) (by first | (simp only [c_1260, if_true, if_false, reduceIte]; done) | (simp [c_1260]; done) | rfl) _ _ _ hW (lv_sub hl [0, 1, 2, 3] rfl)
    · exfalso; exact dd (by first | assumption | exact okp_nI (by omega) (by assumption) | exact decide_eq_true (by first | assumption | omega)) c_1256
set_option maxHeartbeats 4000000 in
set_option maxRecDepth 100000 in
theorem c_X10_gusts_bad (l : Launch) (G : gT) (v vw vc vp vs vn vm vu : Nat) (wide : Int32) (to iv jv rd st ra og : Nat) (k1 k2 ab be bds nos fls : Int32) (vpc n : Nat) (p9 c9 : Int32) (hbad : (okp n p9 && iw c9 0 10) = false) : MI l G yX10_gusts cX10_gusts 6 .int ({ frames := 1, cells := 0, slots := 0, locals := 22 }) [.ref to, .int p9, .int c9] [(to, .inr (8, [.ref v, .ref iv, .ref jv, .int k1, .int k2, .ref rd, .ref st, .ref ra, .ref og, .int ab, .int be, .int bds, .int nos, .int fls])), (v, .inr (7, [.int wide, .ref vw, .ref vc, .ref vp, .ref vs, .ref vn, .ref vm, .ref vu])), (vp, .inr (4, [.int 7, .int 3, .ref vpc, .int (nI n)]))] (fun (r : Int32) w1 => ∃ u_ : Unit, (r = (-2)) ∧ w1 = [(to, .inr (8, [.ref v, .ref iv, .ref jv, .int k1, .int k2, .ref rd, .ref st, .ref ra, .ref og, .int ab, .int be, .int (bds + 1), .int nos, .int fls])), (v, .inr (7, [.int wide, .ref vw, .ref vc, .ref vp, .ref vs, .ref vn, .ref vm, .ref vu])), (vp, .inr (4, [.int 7, .int 3, .ref vpc, .int (nI n)]))]) := by
  refine MI.mk (by decide) (Nat.le_of_ble_eq_true rfl) ?_
  intro p_ e_ s_ m_ ar_ be_ me_ cd_ A_ ls C hrt hW hl
  have hx := C.1; have hb := C.2.1; have hown := C.2.2.2.1; have ht := C.2.2.2.2.1
  replace hl : lv_has ls 6 [(0, .ref to), (1, .int p9), (2, .int c9)] := hl
  generalize hQ : MQ be_ _ ar_ s_ 0 0 A_ = Q
  refine lv_aload_n hx hb dX10_gusts_0 rfl (lv_at hl 0 rfl) ?_
  refine g_get (k := 0) (v := .ref v) C hW 0 rfl rfl jnX10 (by decide) k_fl_X10_10 rfl dX10_gusts_1 ?_
  refine g_getN (k := 3) (v := .ref vp) (host := RX10) C hW 1 rfl rfl jnX9 (by decide) (List.mem_of_getElem? (i := 5) rfl) rfl dX10_gusts_4 ?_
  refine lv_iload_n hx hb dX10_gusts_7 rfl (lv_at hl 1 rfl) ?_
  refine g_fi C hW [2] rfl (g_runV (As := [.int p9]) (rest := []) (wc := [(vp, .inr (4, [.int 7, .int 3, .ref vpc, .int (nI n)]))]) (q0 := 0) (ci := 4) C hW hl (c_X6_has l G vp vpc 7 3 n p9  _) k_ml_X10_161 q_X6_has (by decide) [2] rfl rfl rfl rfl rfl rfl (Nat.le_of_ble_eq_true rfl) dX10_gusts_8 (by decide)) (fun r_1269 er_1269 => ?_)
  clear hW; intro H locs hW
  refine lv_as (y := bI (okp n p9)) er_1269 ?_
  clear er_1269 r_1269
  have J_1273 : ∀ (H : Heap) (locs : List Loc) (ls : Array Slot), Wd G A_ s_.heap [(to, .inr (8, [.ref v, .ref iv, .ref jv, .int k1, .int k2, .ref rd, .ref st, .ref ra, .ref og, .int ab, .int be, .int bds, .int nos, .int fls])), (v, .inr (7, [.int wide, .ref vw, .ref vc, .ref vp, .ref vs, .ref vn, .ref vm, .ref vu])), (vp, .inr (4, [.int 7, .int 3, .ref vpc, .int (nI n)]))] H locs → lv_has ls 6 [(0, .ref to), (1, .int p9), (2, .int c9)] → W p_ l e_ ({ frames := 1, cells := 0, slots := 0, locals := 22 }) s_ m_ ar_ be_ me_ cd_ H locs 0 0 Q (F0 m_ 24 ls []) := by
    intro  H locs ls hW hl
    refine lv_aload_n hx hb dX10_gusts_24 rfl (lv_at hl 0 rfl) ?_
    refine lv_bipush (v := (-2)) hx hb dX10_gusts_25 (by decide) ?_
    refine g_fiw (wr := [(v, .inr (7, [.int wide, .ref vw, .ref vc, .ref vp, .ref vs, .ref vn, .ref vm, .ref vu])), (vp, .inr (4, [.int 7, .int 3, .ref vpc, .int (nI n)]))]) (ww := fun (u_ : Unit) => [(to, .inr (8, [.ref v, .ref iv, .ref jv, .int k1, .int k2, .ref rd, .ref st, .ref ra, .ref og, .int ab, .int be, .int (bds + 1), .int nos, .int fls]))]) (w2 := fun (u_ : Unit) => [(to, .inr (8, [.ref v, .ref iv, .ref jv, .int k1, .int k2, .ref rd, .ref st, .ref ra, .ref og, .int ab, .int be, .int (bds + 1), .int nos, .int fls])), (v, .inr (7, [.int wide, .ref vw, .ref vc, .ref vp, .ref vs, .ref vn, .ref vm, .ref vu])), (vp, .inr (4, [.int 7, .int 3, .ref vpc, .int (nI n)]))]) C hW [0] [1, 2] [2, 0, 1] rfl rfl (by decide) (by decide) (by decide) (fun _ => rfl) (g_runV (As := [.int (-2)]) (rest := []) (wc := [(to, .inr (8, [.ref v, .ref iv, .ref jv, .int k1, .int k2, .ref rd, .ref st, .ref ra, .ref og, .int ab, .int be, .int bds, .int nos, .int fls]))]) (q0 := 0) (ci := 8) C hW hl (c_X10_refuseBad l G v to iv jv rd st ra og k1 k2 ab be bds nos fls (-2)  _) k_ml_X10_77 q_X10_refuseBad (by decide) [0] rfl rfl rfl rfl rfl rfl (Nat.le_of_ble_eq_true rfl) dX10_gusts_27 (by decide)) (fun r_1274 _ er_1274 => ?_)
    clear hW H locs; intro H locs hW
    refine lv_as (y := (-2)) er_1274 ?_
    clear er_1274 r_1274
    replace hW : Wd G A_ s_.heap [(to, .inr (8, [.ref v, .ref iv, .ref jv, .int k1, .int k2, .ref rd, .ref st, .ref ra, .ref og, .int ab, .int be, .int (bds + 1), .int nos, .int fls])), (v, .inr (7, [.int wide, .ref vw, .ref vc, .ref vp, .ref vs, .ref vn, .ref vm, .ref vu])), (vp, .inr (4, [.int 7, .int 3, .ref vpc, .int (nI n)]))] H locs := hW
    subst hQ
    exact g_iret (v := (-2)) C hW hrt ⟨(), by rfl, by rfl⟩ dX10_gusts_30
  refine lv_if_eq (tgt := 24) hx hb dX10_gusts_11 (by decide) (fun c_1270 => ?_) (fun c_1270 => ?_)
  · exact J_1273  _ _ _ hW (lv_sub hl [0, 1, 2] rfl)
  · refine lv_iload_n hx hb dX10_gusts_14 rfl (lv_at hl 2 rfl) ?_
    refine lv_iconst (v := 0) hx hb dX10_gusts_15 (by decide) ?_
    refine lv_bipush (v := 10) hx hb dX10_gusts_16 (by decide) ?_
    refine g_fi C hW [] rfl (g_runS (As := [.int c9, .int 0, .int 10]) (rest := []) (wc := []) C hW hl (c_X10_isWithin l G c9 0 10  _) k_ml_X10_73 q_X10_isWithin (by decide) [] rfl rfl rfl rfl (Nat.le_of_ble_eq_true rfl) dX10_gusts_18 (by decide)) (fun r_1276 er_1276 => ?_)
    clear hW H locs; intro H locs hW
    refine lv_as (y := bI (iw c9 0 10)) er_1276 ?_
    clear er_1276 r_1276
    refine lv_if_ne (tgt := 31) hx hb dX10_gusts_21 (by decide) (fun c_1277 => ?_) (fun c_1277 => ?_)
    · exfalso; simp [bI_ne.mp c_1270, bI_ne.mp c_1277, if_true, if_false, reduceIte, Bool.false_eq_true] at hbad
    · exact J_1273  _ _ _ hW (lv_sub hl [0, 1, 2] rfl)
set_option maxHeartbeats 4000000 in
set_option maxRecDepth 100000 in
theorem c_X10_image_0 (l : Launch) (G : gT) (v vw vc vp vpc vs vsc vn vnc vm vmc vu vuc : Nat) (wide : Int32) (wd ck : Nat → Int32) (n : Nat) (pf : Nat → Int32) (sn : Nat) (sf : Nat → Int32) (nn : Nat) (nf : Nat → Int32) (mn : Nat) (mf : Nat → Int32) (u : Nat) (uf : Nat → Int32) (ov ovw ovc ovp ovpc ovs ovsc ovn ovnc ovm ovmc ovu ovuc : Nat) (owide : Int32) (owd ock : Nat → Int32) (on : Nat) (opf : Nat → Int32) (osn : Nat) (osf : Nat → Int32) (onn : Nat) (onf : Nat → Int32) (omn : Nat) (omf : Nat → Int32) (ou : Nat) (ouf : Nat → Int32) (to jv rd st ra og : Nat) (k1 k2 ab be bds nos fls : Int32) (hn : n ≤ 7) (hs : sn ≤ 5) (ho : nn ≤ 6) (hm : mn ≤ 6) (hu : u ≤ 8) : MI l G yX10_image cX10_image 2 .int ({ frames := 3, cells := 0, slots := 0, locals := 83 }) [.ref to, .int 0] [(to, .inr (8, [.ref v, .ref ov, .ref jv, .int k1, .int k2, .ref rd, .ref st, .ref ra, .ref og, .int ab, .int be, .int bds, .int nos, .int fls])), (v, .inr (7, [.int wide, .ref vw, .ref vc, .ref vp, .ref vs, .ref vn, .ref vm, .ref vu])), (vw, .inl (G.2.1, 6, .inl wd)), (vc, .inl (G.2.1, 7, .inl ck)), (vp, .inr (4, [.int 7, .int 3, .ref vpc, .int (nI n)])), (vpc, .inl (G.2.1, 21, .inl pf)), (vs, .inr (4, [.int 5, .int 3, .ref vsc, .int (nI sn)])), (vsc, .inl (G.2.1, 15, .inl sf)), (vn, .inr (4, [.int 6, .int 4, .ref vnc, .int (nI nn)])), (vnc, .inl (G.2.1, 24, .inl nf)), (vm, .inr (4, [.int 6, .int 4, .ref vmc, .int (nI mn)])), (vmc, .inl (G.2.1, 24, .inl mf)), (vu, .inr (1, [.ref vuc, .int (nI u)])), (vuc, .inl (G.2.1, 56, .inl uf)), (ov, .inr (7, [.int owide, .ref ovw, .ref ovc, .ref ovp, .ref ovs, .ref ovn, .ref ovm, .ref ovu])), (ovw, .inl (G.2.1, 6, .inl owd)), (ovc, .inl (G.2.1, 7, .inl ock)), (ovp, .inr (4, [.int 7, .int 3, .ref ovpc, .int (nI on)])), (ovpc, .inl (G.2.1, 21, .inl opf)), (ovs, .inr (4, [.int 5, .int 3, .ref ovsc, .int (nI osn)])), (ovsc, .inl (G.2.1, 15, .inl osf)), (ovn, .inr (4, [.int 6, .int 4, .ref ovnc, .int (nI onn)])), (ovnc, .inl (G.2.1, 24, .inl onf)), (ovm, .inr (4, [.int 6, .int 4, .ref ovmc, .int (nI omn)])), (ovmc, .inl (G.2.1, 24, .inl omf)), (ovu, .inr (1, [.ref ovuc, .int (nI ou)])), (ovuc, .inl (G.2.1, 56, .inl ouf))] (fun (r : Int32) w1 => ∃ u_ : Unit, (r = 1) ∧ w1 = [(to, .inr (8, [.ref v, .ref ov, .ref jv, .int 1, .int k2, .ref rd, .ref st, .ref ra, .ref og, .int ab, .int be, .int bds, .int nos, .int fls])), (v, .inr (7, [.int wide, .ref vw, .ref vc, .ref vp, .ref vs, .ref vn, .ref vm, .ref vu])), (vw, .inl (G.2.1, 6, .inl wd)), (vc, .inl (G.2.1, 7, .inl ck)), (vp, .inr (4, [.int 7, .int 3, .ref vpc, .int (nI n)])), (vpc, .inl (G.2.1, 21, .inl pf)), (vs, .inr (4, [.int 5, .int 3, .ref vsc, .int (nI sn)])), (vsc, .inl (G.2.1, 15, .inl sf)), (vn, .inr (4, [.int 6, .int 4, .ref vnc, .int (nI nn)])), (vnc, .inl (G.2.1, 24, .inl nf)), (vm, .inr (4, [.int 6, .int 4, .ref vmc, .int (nI mn)])), (vmc, .inl (G.2.1, 24, .inl mf)), (vu, .inr (1, [.ref vuc, .int (nI u)])), (vuc, .inl (G.2.1, 56, .inl uf)), (ov, .inr (7, [.int wide, .ref ovw, .ref ovc, .ref ovp, .ref ovs, .ref ovn, .ref ovm, .ref ovu])), (ovw, .inl (G.2.1, 6, .inl (va_cpy wd owd 0 0 6))), (ovc, .inl (G.2.1, 7, .inl (va_cpy ck ock 0 0 7))), (ovp, .inr (4, [.int 7, .int 3, .ref ovpc, .int (nI n)])), (ovpc, .inl (G.2.1, 21, .inl (va_cpy pf opf 0 0 (n * 3)))), (ovs, .inr (4, [.int 5, .int 3, .ref ovsc, .int (nI sn)])), (ovsc, .inl (G.2.1, 15, .inl (va_cpy sf osf 0 0 (sn * 3)))), (ovn, .inr (4, [.int 6, .int 4, .ref ovnc, .int (nI nn)])), (ovnc, .inl (G.2.1, 24, .inl (va_cpy nf onf 0 0 (nn * 4)))), (ovm, .inr (4, [.int 6, .int 4, .ref ovmc, .int (nI mn)])), (ovmc, .inl (G.2.1, 24, .inl (va_cpy mf omf 0 0 (mn * 4)))), (ovu, .inr (1, [.ref ovuc, .int (nI u)])), (ovuc, .inl (G.2.1, 56, .inl (va_cpy uf ouf 0 0 (u * 7))))]) := by
  refine MI.mk (by decide) (Nat.le_of_ble_eq_true rfl) ?_
  intro p_ e_ s_ m_ ar_ be_ me_ cd_ A_ ls C hrt hW hl
  have hx := C.1; have hb := C.2.1; have hown := C.2.2.2.1; have ht := C.2.2.2.2.1
  replace hl : lv_has ls 2 [(0, .ref to), (1, .int 0)] := hl
  generalize hQ : MQ be_ _ ar_ s_ 0 0 A_ = Q
  refine lv_iload_n hx hb dX10_image_0 rfl (lv_at hl 1 rfl) ?_
  refine lv_iconst (v := 0) hx hb dX10_image_1 (by decide) ?_
  refine lv_iconst (v := 1) hx hb dX10_image_2 (by decide) ?_
  refine g_fi C hW [] rfl (g_runS (As := [.int 0, .int 0, .int 1]) (rest := []) (wc := []) C hW hl (c_X10_isWithin l G 0 0 1  _) k_ml_X10_73 q_X10_isWithin (by decide) [] rfl rfl rfl rfl (Nat.le_of_ble_eq_true rfl) dX10_image_3 (by decide)) (fun r_1278 er_1278 => ?_)
  clear hW; intro H locs hW
  refine lv_as (y := bI (iw 0 0 1)) er_1278 ?_
  clear er_1278 r_1278
  refine lv_if_ne (tgt := 16) hx hb dX10_image_6 (by decide) (fun c_1279 => ?_) (fun c_1279 => ?_)
  · refine lv_iload_n hx hb dX10_image_16 rfl (lv_at hl 1 rfl) ?_
    refine lv_if_ne (tgt := 39) hx hb dX10_image_17 (by decide) (fun c_1280 => ?_) (fun c_1280 => ?_)
    · exfalso; exact c_1280 rfl
    · refine lv_aload_n hx hb dX10_image_20 rfl (lv_at hl 0 rfl) ?_
      refine g_get (k := 1) (v := .ref ov) C hW 0 rfl rfl jnX10 (by decide) k_fl_X10_16 rfl dX10_image_21 ?_
      refine lv_aload_n hx hb dX10_image_24 rfl (lv_at hl 0 rfl) ?_
      refine g_get (k := 0) (v := .ref v) C hW 0 rfl rfl jnX10 (by decide) k_fl_X10_10 rfl dX10_image_25 ?_
      refine g_fvw (wr := [(to, .inr (8, [.ref v, .ref ov, .ref jv, .int k1, .int k2, .ref rd, .ref st, .ref ra, .ref og, .int ab, .int be, .int bds, .int nos, .int fls]))]) (ww := fun (u_ : Unit) => [(ov, .inr (7, [.int wide, .ref ovw, .ref ovc, .ref ovp, .ref ovs, .ref ovn, .ref ovm, .ref ovu])), (ovw, .inl (G.2.1, 6, .inl (va_cpy wd owd 0 0 6))), (ovc, .inl (G.2.1, 7, .inl (va_cpy ck ock 0 0 7))), (ovp, .inr (4, [.int 7, .int 3, .ref ovpc, .int (nI n)])), (ovpc, .inl (G.2.1, 21, .inl (va_cpy pf opf 0 0 (n * 3)))), (ovs, .inr (4, [.int 5, .int 3, .ref ovsc, .int (nI sn)])), (ovsc, .inl (G.2.1, 15, .inl (va_cpy sf osf 0 0 (sn * 3)))), (ovn, .inr (4, [.int 6, .int 4, .ref ovnc, .int (nI nn)])), (ovnc, .inl (G.2.1, 24, .inl (va_cpy nf onf 0 0 (nn * 4)))), (ovm, .inr (4, [.int 6, .int 4, .ref ovmc, .int (nI mn)])), (ovmc, .inl (G.2.1, 24, .inl (va_cpy mf omf 0 0 (mn * 4)))), (ovu, .inr (1, [.ref ovuc, .int (nI u)])), (ovuc, .inl (G.2.1, 56, .inl (va_cpy uf ouf 0 0 (u * 7)))), (v, .inr (7, [.int wide, .ref vw, .ref vc, .ref vp, .ref vs, .ref vn, .ref vm, .ref vu])), (vw, .inl (G.2.1, 6, .inl wd)), (vc, .inl (G.2.1, 7, .inl ck)), (vp, .inr (4, [.int 7, .int 3, .ref vpc, .int (nI n)])), (vpc, .inl (G.2.1, 21, .inl pf)), (vs, .inr (4, [.int 5, .int 3, .ref vsc, .int (nI sn)])), (vsc, .inl (G.2.1, 15, .inl sf)), (vn, .inr (4, [.int 6, .int 4, .ref vnc, .int (nI nn)])), (vnc, .inl (G.2.1, 24, .inl nf)), (vm, .inr (4, [.int 6, .int 4, .ref vmc, .int (nI mn)])), (vmc, .inl (G.2.1, 24, .inl mf)), (vu, .inr (1, [.ref vuc, .int (nI u)])), (vuc, .inl (G.2.1, 56, .inl uf))]) (w2 := fun (u_ : Unit) => [(to, .inr (8, [.ref v, .ref ov, .ref jv, .int k1, .int k2, .ref rd, .ref st, .ref ra, .ref og, .int ab, .int be, .int bds, .int nos, .int fls])), (v, .inr (7, [.int wide, .ref vw, .ref vc, .ref vp, .ref vs, .ref vn, .ref vm, .ref vu])), (vw, .inl (G.2.1, 6, .inl wd)), (vc, .inl (G.2.1, 7, .inl ck)), (vp, .inr (4, [.int 7, .int 3, .ref vpc, .int (nI n)])), (vpc, .inl (G.2.1, 21, .inl pf)), (vs, .inr (4, [.int 5, .int 3, .ref vsc, .int (nI sn)])), (vsc, .inl (G.2.1, 15, .inl sf)), (vn, .inr (4, [.int 6, .int 4, .ref vnc, .int (nI nn)])), (vnc, .inl (G.2.1, 24, .inl nf)), (vm, .inr (4, [.int 6, .int 4, .ref vmc, .int (nI mn)])), (vmc, .inl (G.2.1, 24, .inl mf)), (vu, .inr (1, [.ref vuc, .int (nI u)])), (vuc, .inl (G.2.1, 56, .inl uf)), (ov, .inr (7, [.int wide, .ref ovw, .ref ovc, .ref ovp, .ref ovs, .ref ovn, .ref ovm, .ref ovu])), (ovw, .inl (G.2.1, 6, .inl (va_cpy wd owd 0 0 6))), (ovc, .inl (G.2.1, 7, .inl (va_cpy ck ock 0 0 7))), (ovp, .inr (4, [.int 7, .int 3, .ref ovpc, .int (nI n)])), (ovpc, .inl (G.2.1, 21, .inl (va_cpy pf opf 0 0 (n * 3)))), (ovs, .inr (4, [.int 5, .int 3, .ref ovsc, .int (nI sn)])), (ovsc, .inl (G.2.1, 15, .inl (va_cpy sf osf 0 0 (sn * 3)))), (ovn, .inr (4, [.int 6, .int 4, .ref ovnc, .int (nI nn)])), (ovnc, .inl (G.2.1, 24, .inl (va_cpy nf onf 0 0 (nn * 4)))), (ovm, .inr (4, [.int 6, .int 4, .ref ovmc, .int (nI mn)])), (ovmc, .inl (G.2.1, 24, .inl (va_cpy mf omf 0 0 (mn * 4)))), (ovu, .inr (1, [.ref ovuc, .int (nI u)])), (ovuc, .inl (G.2.1, 56, .inl (va_cpy uf ouf 0 0 (u * 7))))]) C hW [14, 15, 16, 17, 18, 19, 20, 21, 22, 23, 24, 25, 26, 1, 2, 3, 4, 5, 6, 7, 8, 9, 10, 11, 12, 13] [0] [0, 14, 15, 16, 17, 18, 19, 20, 21, 22, 23, 24, 25, 26, 1, 2, 3, 4, 5, 6, 7, 8, 9, 10, 11, 12, 13] rfl rfl (by decide) (by decide) (by decide) (fun _ => rfl) (g_runV (As := [.ref v]) (rest := []) (wc := [(ov, .inr (7, [.int owide, .ref ovw, .ref ovc, .ref ovp, .ref ovs, .ref ovn, .ref ovm, .ref ovu])), (ovw, .inl (G.2.1, 6, .inl owd)), (ovc, .inl (G.2.1, 7, .inl ock)), (ovp, .inr (4, [.int 7, .int 3, .ref ovpc, .int (nI on)])), (ovpc, .inl (G.2.1, 21, .inl opf)), (ovs, .inr (4, [.int 5, .int 3, .ref ovsc, .int (nI osn)])), (ovsc, .inl (G.2.1, 15, .inl osf)), (ovn, .inr (4, [.int 6, .int 4, .ref ovnc, .int (nI onn)])), (ovnc, .inl (G.2.1, 24, .inl onf)), (ovm, .inr (4, [.int 6, .int 4, .ref ovmc, .int (nI omn)])), (ovmc, .inl (G.2.1, 24, .inl omf)), (ovu, .inr (1, [.ref ovuc, .int (nI ou)])), (ovuc, .inl (G.2.1, 56, .inl ouf)), (v, .inr (7, [.int wide, .ref vw, .ref vc, .ref vp, .ref vs, .ref vn, .ref vm, .ref vu])), (vw, .inl (G.2.1, 6, .inl wd)), (vc, .inl (G.2.1, 7, .inl ck)), (vp, .inr (4, [.int 7, .int 3, .ref vpc, .int (nI n)])), (vpc, .inl (G.2.1, 21, .inl pf)), (vs, .inr (4, [.int 5, .int 3, .ref vsc, .int (nI sn)])), (vsc, .inl (G.2.1, 15, .inl sf)), (vn, .inr (4, [.int 6, .int 4, .ref vnc, .int (nI nn)])), (vnc, .inl (G.2.1, 24, .inl nf)), (vm, .inr (4, [.int 6, .int 4, .ref vmc, .int (nI mn)])), (vmc, .inl (G.2.1, 24, .inl mf)), (vu, .inr (1, [.ref vuc, .int (nI u)])), (vuc, .inl (G.2.1, 56, .inl uf))]) (q0 := 0) (ci := 7) C hW hl (c_X9_copyFrom l G ov ovw ovc ovp ovpc ovs ovsc ovn ovnc ovm ovmc ovu ovuc owide owd ock on opf osn osf onn onf omn omf ou ouf v vw vc vp vpc vs vsc vn vnc vm vmc vu vuc wide wd ck n pf sn sf nn nf mn mf u uf (by first | assumption | omega) (by first | assumption | omega) (by first | assumption | omega) (by first | assumption | omega) (by first | assumption | omega) _) k_ml_X10_157 q_X9_copyFrom (by decide) [14, 15, 16, 17, 18, 19, 20, 21, 22, 23, 24, 25, 26, 1, 2, 3, 4, 5, 6, 7, 8, 9, 10, 11, 12, 13] rfl rfl rfl rfl rfl rfl (Nat.le_of_ble_eq_true rfl) dX10_image_28 (by decide)) (fun _ er_1281 => ?_)
      clear hW H locs; intro H locs hW
      replace hW : Wd G A_ s_.heap [(to, .inr (8, [.ref v, .ref ov, .ref jv, .int k1, .int k2, .ref rd, .ref st, .ref ra, .ref og, .int ab, .int be, .int bds, .int nos, .int fls])), (v, .inr (7, [.int wide, .ref vw, .ref vc, .ref vp, .ref vs, .ref vn, .ref vm, .ref vu])), (vw, .inl (G.2.1, 6, .inl wd)), (vc, .inl (G.2.1, 7, .inl ck)), (vp, .inr (4, [.int 7, .int 3, .ref vpc, .int (nI n)])), (vpc, .inl (G.2.1, 21, .inl pf)), (vs, .inr (4, [.int 5, .int 3, .ref vsc, .int (nI sn)])), (vsc, .inl (G.2.1, 15, .inl sf)), (vn, .inr (4, [.int 6, .int 4, .ref vnc, .int (nI nn)])), (vnc, .inl (G.2.1, 24, .inl nf)), (vm, .inr (4, [.int 6, .int 4, .ref vmc, .int (nI mn)])), (vmc, .inl (G.2.1, 24, .inl mf)), (vu, .inr (1, [.ref vuc, .int (nI u)])), (vuc, .inl (G.2.1, 56, .inl uf)), (ov, .inr (7, [.int wide, .ref ovw, .ref ovc, .ref ovp, .ref ovs, .ref ovn, .ref ovm, .ref ovu])), (ovw, .inl (G.2.1, 6, .inl (va_cpy wd owd 0 0 6))), (ovc, .inl (G.2.1, 7, .inl (va_cpy ck ock 0 0 7))), (ovp, .inr (4, [.int 7, .int 3, .ref ovpc, .int (nI n)])), (ovpc, .inl (G.2.1, 21, .inl (va_cpy pf opf 0 0 (n * 3)))), (ovs, .inr (4, [.int 5, .int 3, .ref ovsc, .int (nI sn)])), (ovsc, .inl (G.2.1, 15, .inl (va_cpy sf osf 0 0 (sn * 3)))), (ovn, .inr (4, [.int 6, .int 4, .ref ovnc, .int (nI nn)])), (ovnc, .inl (G.2.1, 24, .inl (va_cpy nf onf 0 0 (nn * 4)))), (ovm, .inr (4, [.int 6, .int 4, .ref ovmc, .int (nI mn)])), (ovmc, .inl (G.2.1, 24, .inl (va_cpy mf omf 0 0 (mn * 4)))), (ovu, .inr (1, [.ref ovuc, .int (nI u)])), (ovuc, .inl (G.2.1, 56, .inl (va_cpy uf ouf 0 0 (u * 7))))] H locs := hW
      refine lv_aload_n hx hb dX10_image_31 rfl (lv_at hl 0 rfl) ?_
      refine lv_iconst (v := 1) hx hb dX10_image_32 (by decide) ?_
      refine g_put (k := 3) (ty := .boolean) (w' := [(to, .inr (8, [.ref v, .ref ov, .ref jv, .int 1, .int k2, .ref rd, .ref st, .ref ra, .ref og, .int ab, .int be, .int bds, .int nos, .int fls])), (v, .inr (7, [.int wide, .ref vw, .ref vc, .ref vp, .ref vs, .ref vn, .ref vm, .ref vu])), (vw, .inl (G.2.1, 6, .inl wd)), (vc, .inl (G.2.1, 7, .inl ck)), (vp, .inr (4, [.int 7, .int 3, .ref vpc, .int (nI n)])), (vpc, .inl (G.2.1, 21, .inl pf)), (vs, .inr (4, [.int 5, .int 3, .ref vsc, .int (nI sn)])), (vsc, .inl (G.2.1, 15, .inl sf)), (vn, .inr (4, [.int 6, .int 4, .ref vnc, .int (nI nn)])), (vnc, .inl (G.2.1, 24, .inl nf)), (vm, .inr (4, [.int 6, .int 4, .ref vmc, .int (nI mn)])), (vmc, .inl (G.2.1, 24, .inl mf)), (vu, .inr (1, [.ref vuc, .int (nI u)])), (vuc, .inl (G.2.1, 56, .inl uf)), (ov, .inr (7, [.int wide, .ref ovw, .ref ovc, .ref ovp, .ref ovs, .ref ovn, .ref ovm, .ref ovu])), (ovw, .inl (G.2.1, 6, .inl (va_cpy wd owd 0 0 6))), (ovc, .inl (G.2.1, 7, .inl (va_cpy ck ock 0 0 7))), (ovp, .inr (4, [.int 7, .int 3, .ref ovpc, .int (nI n)])), (ovpc, .inl (G.2.1, 21, .inl (va_cpy pf opf 0 0 (n * 3)))), (ovs, .inr (4, [.int 5, .int 3, .ref ovsc, .int (nI sn)])), (ovsc, .inl (G.2.1, 15, .inl (va_cpy sf osf 0 0 (sn * 3)))), (ovn, .inr (4, [.int 6, .int 4, .ref ovnc, .int (nI nn)])), (ovnc, .inl (G.2.1, 24, .inl (va_cpy nf onf 0 0 (nn * 4)))), (ovm, .inr (4, [.int 6, .int 4, .ref ovmc, .int (nI mn)])), (ovmc, .inl (G.2.1, 24, .inl (va_cpy mf omf 0 0 (mn * 4)))), (ovu, .inr (1, [.ref ovuc, .int (nI u)])), (ovuc, .inl (G.2.1, 56, .inl (va_cpy uf ouf 0 0 (u * 7))))]) C hW 0 rfl rfl jnX10 tyX10_ok nmX10 (by decide) k_fl_X10_22 rfl rfl (by rfl) rfl (Nat.le_of_ble_eq_true rfl) rfl dX10_image_33 ?_
      clear hW H locs; intro H locs hW
      refine lv_goto (tgt := 55) hx hb dX10_image_36 (by decide) ?_
      refine lv_iconst (v := 1) hx hb dX10_image_55 (by decide) ?_
      subst hQ
      exact g_iret (v := 1) C hW hrt ⟨(), by rfl, by rfl⟩ dX10_image_56
  · exfalso; exact absurd c_1279 (by decide)
set_option maxHeartbeats 4000000 in
set_option maxRecDepth 100000 in
theorem c_X10_from_0 (l : Launch) (G : gT) (v vw vc vp vpc vs vsc vn vnc vm vmc vu vuc : Nat) (wide : Int32) (wd ck : Nat → Int32) (n : Nat) (pf : Nat → Int32) (sn : Nat) (sf : Nat → Int32) (nn : Nat) (nf : Nat → Int32) (mn : Nat) (mf : Nat → Int32) (u : Nat) (uf : Nat → Int32) (ov ovw ovc ovp ovpc ovs ovsc ovn ovnc ovm ovmc ovu ovuc : Nat) (owide : Int32) (owd ock : Nat → Int32) (on : Nat) (opf : Nat → Int32) (osn : Nat) (osf : Nat → Int32) (onn : Nat) (onf : Nat → Int32) (omn : Nat) (omf : Nat → Int32) (ou : Nat) (ouf : Nat → Int32) (to jv rd st ra og : Nat) (k1 k2 ab be bds nos fls : Int32) (ohn : on ≤ 7) (ohs : osn ≤ 5) (oho : onn ≤ 6) (ohm : omn ≤ 6) (ohu : ou ≤ 8) (hk1 : ¬ k1 = 0) : MI l G yX10_from cX10_from 2 .int ({ frames := 3, cells := 0, slots := 0, locals := 83 }) [.ref to, .int 0] [(to, .inr (8, [.ref v, .ref ov, .ref jv, .int k1, .int k2, .ref rd, .ref st, .ref ra, .ref og, .int ab, .int be, .int bds, .int nos, .int fls])), (v, .inr (7, [.int wide, .ref vw, .ref vc, .ref vp, .ref vs, .ref vn, .ref vm, .ref vu])), (vw, .inl (G.2.1, 6, .inl wd)), (vc, .inl (G.2.1, 7, .inl ck)), (vp, .inr (4, [.int 7, .int 3, .ref vpc, .int (nI n)])), (vpc, .inl (G.2.1, 21, .inl pf)), (vs, .inr (4, [.int 5, .int 3, .ref vsc, .int (nI sn)])), (vsc, .inl (G.2.1, 15, .inl sf)), (vn, .inr (4, [.int 6, .int 4, .ref vnc, .int (nI nn)])), (vnc, .inl (G.2.1, 24, .inl nf)), (vm, .inr (4, [.int 6, .int 4, .ref vmc, .int (nI mn)])), (vmc, .inl (G.2.1, 24, .inl mf)), (vu, .inr (1, [.ref vuc, .int (nI u)])), (vuc, .inl (G.2.1, 56, .inl uf)), (ov, .inr (7, [.int owide, .ref ovw, .ref ovc, .ref ovp, .ref ovs, .ref ovn, .ref ovm, .ref ovu])), (ovw, .inl (G.2.1, 6, .inl owd)), (ovc, .inl (G.2.1, 7, .inl ock)), (ovp, .inr (4, [.int 7, .int 3, .ref ovpc, .int (nI on)])), (ovpc, .inl (G.2.1, 21, .inl opf)), (ovs, .inr (4, [.int 5, .int 3, .ref ovsc, .int (nI osn)])), (ovsc, .inl (G.2.1, 15, .inl osf)), (ovn, .inr (4, [.int 6, .int 4, .ref ovnc, .int (nI onn)])), (ovnc, .inl (G.2.1, 24, .inl onf)), (ovm, .inr (4, [.int 6, .int 4, .ref ovmc, .int (nI omn)])), (ovmc, .inl (G.2.1, 24, .inl omf)), (ovu, .inr (1, [.ref ovuc, .int (nI ou)])), (ovuc, .inl (G.2.1, 56, .inl ouf))] (fun (r : Int32) w1 => ∃ u_ : Unit, (r = 1) ∧ w1 = [(to, .inr (8, [.ref v, .ref ov, .ref jv, .int k1, .int k2, .ref rd, .ref st, .ref ra, .ref og, .int ab, .int be, .int bds, .int nos, .int fls])), (v, .inr (7, [.int owide, .ref vw, .ref vc, .ref vp, .ref vs, .ref vn, .ref vm, .ref vu])), (vw, .inl (G.2.1, 6, .inl (va_cpy owd wd 0 0 6))), (vc, .inl (G.2.1, 7, .inl (va_cpy ock ck 0 0 7))), (vp, .inr (4, [.int 7, .int 3, .ref vpc, .int (nI on)])), (vpc, .inl (G.2.1, 21, .inl (va_cpy opf pf 0 0 (on * 3)))), (vs, .inr (4, [.int 5, .int 3, .ref vsc, .int (nI osn)])), (vsc, .inl (G.2.1, 15, .inl (va_cpy osf sf 0 0 (osn * 3)))), (vn, .inr (4, [.int 6, .int 4, .ref vnc, .int (nI onn)])), (vnc, .inl (G.2.1, 24, .inl (va_cpy onf nf 0 0 (onn * 4)))), (vm, .inr (4, [.int 6, .int 4, .ref vmc, .int (nI omn)])), (vmc, .inl (G.2.1, 24, .inl (va_cpy omf mf 0 0 (omn * 4)))), (vu, .inr (1, [.ref vuc, .int (nI ou)])), (vuc, .inl (G.2.1, 56, .inl (va_cpy ouf uf 0 0 (ou * 7)))), (ov, .inr (7, [.int owide, .ref ovw, .ref ovc, .ref ovp, .ref ovs, .ref ovn, .ref ovm, .ref ovu])), (ovw, .inl (G.2.1, 6, .inl owd)), (ovc, .inl (G.2.1, 7, .inl ock)), (ovp, .inr (4, [.int 7, .int 3, .ref ovpc, .int (nI on)])), (ovpc, .inl (G.2.1, 21, .inl opf)), (ovs, .inr (4, [.int 5, .int 3, .ref ovsc, .int (nI osn)])), (ovsc, .inl (G.2.1, 15, .inl osf)), (ovn, .inr (4, [.int 6, .int 4, .ref ovnc, .int (nI onn)])), (ovnc, .inl (G.2.1, 24, .inl onf)), (ovm, .inr (4, [.int 6, .int 4, .ref ovmc, .int (nI omn)])), (ovmc, .inl (G.2.1, 24, .inl omf)), (ovu, .inr (1, [.ref ovuc, .int (nI ou)])), (ovuc, .inl (G.2.1, 56, .inl ouf))]) := by
  refine MI.mk (by decide) (Nat.le_of_ble_eq_true rfl) ?_
  intro p_ e_ s_ m_ ar_ be_ me_ cd_ A_ ls C hrt hW hl
  have hx := C.1; have hb := C.2.1; have hown := C.2.2.2.1; have ht := C.2.2.2.2.1
  replace hl : lv_has ls 2 [(0, .ref to), (1, .int 0)] := hl
  generalize hQ : MQ be_ _ ar_ s_ 0 0 A_ = Q
  refine lv_iload_n hx hb dX10_from_0 rfl (lv_at hl 1 rfl) ?_
  refine lv_iconst (v := 0) hx hb dX10_from_1 (by decide) ?_
  refine lv_iconst (v := 1) hx hb dX10_from_2 (by decide) ?_
  refine g_fi C hW [] rfl (g_runS (As := [.int 0, .int 0, .int 1]) (rest := []) (wc := []) C hW hl (c_X10_isWithin l G 0 0 1  _) k_ml_X10_73 q_X10_isWithin (by decide) [] rfl rfl rfl rfl (Nat.le_of_ble_eq_true rfl) dX10_from_3 (by decide)) (fun r_1283 er_1283 => ?_)
  clear hW; intro H locs hW
  refine lv_as (y := bI (iw 0 0 1)) er_1283 ?_
  clear er_1283 r_1283
  refine lv_if_ne (tgt := 16) hx hb dX10_from_6 (by decide) (fun c_1284 => ?_) (fun c_1284 => ?_)
  · refine lv_iload_n hx hb dX10_from_16 rfl (lv_at hl 1 rfl) ?_
    refine lv_if_ne (tgt := 30) hx hb dX10_from_17 (by decide) (fun c_1285 => ?_) (fun c_1285 => ?_)
    · exfalso; exact c_1285 rfl
    · refine lv_aload_n hx hb dX10_from_20 rfl (lv_at hl 0 rfl) ?_
      refine g_get (k := 3) (v := .int k1) C hW 0 rfl rfl jnX10 (by decide) k_fl_X10_22 rfl dX10_from_21 ?_
      refine lv_if_eq (tgt := 37) hx hb dX10_from_24 (by decide) (fun c_1286 => ?_) (fun c_1286 => ?_)
      · exfalso; exact hk1 c_1286
      · refine lv_goto (tgt := 42) hx hb dX10_from_27 (by decide) ?_
        refine lv_aload_n hx hb dX10_from_42 rfl (lv_at hl 0 rfl) ?_
        refine g_get (k := 0) (v := .ref v) C hW 0 rfl rfl jnX10 (by decide) k_fl_X10_10 rfl dX10_from_43 ?_
        refine lv_iload_n hx hb dX10_from_46 rfl (lv_at hl 1 rfl) ?_
        refine lv_if_ne (tgt := 57) hx hb dX10_from_47 (by decide) (fun c_1287 => ?_) (fun c_1287 => ?_)
        · exfalso; exact c_1287 rfl
        · refine lv_aload_n hx hb dX10_from_50 rfl (lv_at hl 0 rfl) ?_
          refine g_get (k := 1) (v := .ref ov) C hW 0 rfl rfl jnX10 (by decide) k_fl_X10_16 rfl dX10_from_51 ?_
          refine lv_goto (tgt := 61) hx hb dX10_from_54 (by decide) ?_
          refine g_fvw (wr := [(to, .inr (8, [.ref v, .ref ov, .ref jv, .int k1, .int k2, .ref rd, .ref st, .ref ra, .ref og, .int ab, .int be, .int bds, .int nos, .int fls]))]) (ww := fun (u_ : Unit) => [(v, .inr (7, [.int owide, .ref vw, .ref vc, .ref vp, .ref vs, .ref vn, .ref vm, .ref vu])), (vw, .inl (G.2.1, 6, .inl (va_cpy owd wd 0 0 6))), (vc, .inl (G.2.1, 7, .inl (va_cpy ock ck 0 0 7))), (vp, .inr (4, [.int 7, .int 3, .ref vpc, .int (nI on)])), (vpc, .inl (G.2.1, 21, .inl (va_cpy opf pf 0 0 (on * 3)))), (vs, .inr (4, [.int 5, .int 3, .ref vsc, .int (nI osn)])), (vsc, .inl (G.2.1, 15, .inl (va_cpy osf sf 0 0 (osn * 3)))), (vn, .inr (4, [.int 6, .int 4, .ref vnc, .int (nI onn)])), (vnc, .inl (G.2.1, 24, .inl (va_cpy onf nf 0 0 (onn * 4)))), (vm, .inr (4, [.int 6, .int 4, .ref vmc, .int (nI omn)])), (vmc, .inl (G.2.1, 24, .inl (va_cpy omf mf 0 0 (omn * 4)))), (vu, .inr (1, [.ref vuc, .int (nI ou)])), (vuc, .inl (G.2.1, 56, .inl (va_cpy ouf uf 0 0 (ou * 7)))), (ov, .inr (7, [.int owide, .ref ovw, .ref ovc, .ref ovp, .ref ovs, .ref ovn, .ref ovm, .ref ovu])), (ovw, .inl (G.2.1, 6, .inl owd)), (ovc, .inl (G.2.1, 7, .inl ock)), (ovp, .inr (4, [.int 7, .int 3, .ref ovpc, .int (nI on)])), (ovpc, .inl (G.2.1, 21, .inl opf)), (ovs, .inr (4, [.int 5, .int 3, .ref ovsc, .int (nI osn)])), (ovsc, .inl (G.2.1, 15, .inl osf)), (ovn, .inr (4, [.int 6, .int 4, .ref ovnc, .int (nI onn)])), (ovnc, .inl (G.2.1, 24, .inl onf)), (ovm, .inr (4, [.int 6, .int 4, .ref ovmc, .int (nI omn)])), (ovmc, .inl (G.2.1, 24, .inl omf)), (ovu, .inr (1, [.ref ovuc, .int (nI ou)])), (ovuc, .inl (G.2.1, 56, .inl ouf))]) (w2 := fun (u_ : Unit) => [(to, .inr (8, [.ref v, .ref ov, .ref jv, .int k1, .int k2, .ref rd, .ref st, .ref ra, .ref og, .int ab, .int be, .int bds, .int nos, .int fls])), (v, .inr (7, [.int owide, .ref vw, .ref vc, .ref vp, .ref vs, .ref vn, .ref vm, .ref vu])), (vw, .inl (G.2.1, 6, .inl (va_cpy owd wd 0 0 6))), (vc, .inl (G.2.1, 7, .inl (va_cpy ock ck 0 0 7))), (vp, .inr (4, [.int 7, .int 3, .ref vpc, .int (nI on)])), (vpc, .inl (G.2.1, 21, .inl (va_cpy opf pf 0 0 (on * 3)))), (vs, .inr (4, [.int 5, .int 3, .ref vsc, .int (nI osn)])), (vsc, .inl (G.2.1, 15, .inl (va_cpy osf sf 0 0 (osn * 3)))), (vn, .inr (4, [.int 6, .int 4, .ref vnc, .int (nI onn)])), (vnc, .inl (G.2.1, 24, .inl (va_cpy onf nf 0 0 (onn * 4)))), (vm, .inr (4, [.int 6, .int 4, .ref vmc, .int (nI omn)])), (vmc, .inl (G.2.1, 24, .inl (va_cpy omf mf 0 0 (omn * 4)))), (vu, .inr (1, [.ref vuc, .int (nI ou)])), (vuc, .inl (G.2.1, 56, .inl (va_cpy ouf uf 0 0 (ou * 7)))), (ov, .inr (7, [.int owide, .ref ovw, .ref ovc, .ref ovp, .ref ovs, .ref ovn, .ref ovm, .ref ovu])), (ovw, .inl (G.2.1, 6, .inl owd)), (ovc, .inl (G.2.1, 7, .inl ock)), (ovp, .inr (4, [.int 7, .int 3, .ref ovpc, .int (nI on)])), (ovpc, .inl (G.2.1, 21, .inl opf)), (ovs, .inr (4, [.int 5, .int 3, .ref ovsc, .int (nI osn)])), (ovsc, .inl (G.2.1, 15, .inl osf)), (ovn, .inr (4, [.int 6, .int 4, .ref ovnc, .int (nI onn)])), (ovnc, .inl (G.2.1, 24, .inl onf)), (ovm, .inr (4, [.int 6, .int 4, .ref ovmc, .int (nI omn)])), (ovmc, .inl (G.2.1, 24, .inl omf)), (ovu, .inr (1, [.ref ovuc, .int (nI ou)])), (ovuc, .inl (G.2.1, 56, .inl ouf))]) C hW [1, 2, 3, 4, 5, 6, 7, 8, 9, 10, 11, 12, 13, 14, 15, 16, 17, 18, 19, 20, 21, 22, 23, 24, 25, 26] [0] [0, 1, 2, 3, 4, 5, 6, 7, 8, 9, 10, 11, 12, 13, 14, 15, 16, 17, 18, 19, 20, 21, 22, 23, 24, 25, 26] rfl rfl (by decide) (by decide) (by decide) (fun _ => rfl) (g_runV (As := [.ref ov]) (rest := []) (wc := [(v, .inr (7, [.int wide, .ref vw, .ref vc, .ref vp, .ref vs, .ref vn, .ref vm, .ref vu])), (vw, .inl (G.2.1, 6, .inl wd)), (vc, .inl (G.2.1, 7, .inl ck)), (vp, .inr (4, [.int 7, .int 3, .ref vpc, .int (nI n)])), (vpc, .inl (G.2.1, 21, .inl pf)), (vs, .inr (4, [.int 5, .int 3, .ref vsc, .int (nI sn)])), (vsc, .inl (G.2.1, 15, .inl sf)), (vn, .inr (4, [.int 6, .int 4, .ref vnc, .int (nI nn)])), (vnc, .inl (G.2.1, 24, .inl nf)), (vm, .inr (4, [.int 6, .int 4, .ref vmc, .int (nI mn)])), (vmc, .inl (G.2.1, 24, .inl mf)), (vu, .inr (1, [.ref vuc, .int (nI u)])), (vuc, .inl (G.2.1, 56, .inl uf)), (ov, .inr (7, [.int owide, .ref ovw, .ref ovc, .ref ovp, .ref ovs, .ref ovn, .ref ovm, .ref ovu])), (ovw, .inl (G.2.1, 6, .inl owd)), (ovc, .inl (G.2.1, 7, .inl ock)), (ovp, .inr (4, [.int 7, .int 3, .ref ovpc, .int (nI on)])), (ovpc, .inl (G.2.1, 21, .inl opf)), (ovs, .inr (4, [.int 5, .int 3, .ref ovsc, .int (nI osn)])), (ovsc, .inl (G.2.1, 15, .inl osf)), (ovn, .inr (4, [.int 6, .int 4, .ref ovnc, .int (nI onn)])), (ovnc, .inl (G.2.1, 24, .inl onf)), (ovm, .inr (4, [.int 6, .int 4, .ref ovmc, .int (nI omn)])), (ovmc, .inl (G.2.1, 24, .inl omf)), (ovu, .inr (1, [.ref ovuc, .int (nI ou)])), (ovuc, .inl (G.2.1, 56, .inl ouf))]) (q0 := 0) (ci := 7) C hW hl (c_X9_copyFrom l G v vw vc vp vpc vs vsc vn vnc vm vmc vu vuc wide wd ck n pf sn sf nn nf mn mf u uf ov ovw ovc ovp ovpc ovs ovsc ovn ovnc ovm ovmc ovu ovuc owide owd ock on opf osn osf onn onf omn omf ou ouf (by first | assumption | omega) (by first | assumption | omega) (by first | assumption | omega) (by first | assumption | omega) (by first | assumption | omega) _) k_ml_X10_157 q_X9_copyFrom (by decide) [1, 2, 3, 4, 5, 6, 7, 8, 9, 10, 11, 12, 13, 14, 15, 16, 17, 18, 19, 20, 21, 22, 23, 24, 25, 26] rfl rfl rfl rfl rfl rfl (Nat.le_of_ble_eq_true rfl) dX10_from_61 (by decide)) (fun _ er_1288 => ?_)
          clear hW H locs; intro H locs hW
          replace hW : Wd G A_ s_.heap [(to, .inr (8, [.ref v, .ref ov, .ref jv, .int k1, .int k2, .ref rd, .ref st, .ref ra, .ref og, .int ab, .int be, .int bds, .int nos, .int fls])), (v, .inr (7, [.int owide, .ref vw, .ref vc, .ref vp, .ref vs, .ref vn, .ref vm, .ref vu])), (vw, .inl (G.2.1, 6, .inl (va_cpy owd wd 0 0 6))), (vc, .inl (G.2.1, 7, .inl (va_cpy ock ck 0 0 7))), (vp, .inr (4, [.int 7, .int 3, .ref vpc, .int (nI on)])), (vpc, .inl (G.2.1, 21, .inl (va_cpy opf pf 0 0 (on * 3)))), (vs, .inr (4, [.int 5, .int 3, .ref vsc, .int (nI osn)])), (vsc, .inl (G.2.1, 15, .inl (va_cpy osf sf 0 0 (osn * 3)))), (vn, .inr (4, [.int 6, .int 4, .ref vnc, .int (nI onn)])), (vnc, .inl (G.2.1, 24, .inl (va_cpy onf nf 0 0 (onn * 4)))), (vm, .inr (4, [.int 6, .int 4, .ref vmc, .int (nI omn)])), (vmc, .inl (G.2.1, 24, .inl (va_cpy omf mf 0 0 (omn * 4)))), (vu, .inr (1, [.ref vuc, .int (nI ou)])), (vuc, .inl (G.2.1, 56, .inl (va_cpy ouf uf 0 0 (ou * 7)))), (ov, .inr (7, [.int owide, .ref ovw, .ref ovc, .ref ovp, .ref ovs, .ref ovn, .ref ovm, .ref ovu])), (ovw, .inl (G.2.1, 6, .inl owd)), (ovc, .inl (G.2.1, 7, .inl ock)), (ovp, .inr (4, [.int 7, .int 3, .ref ovpc, .int (nI on)])), (ovpc, .inl (G.2.1, 21, .inl opf)), (ovs, .inr (4, [.int 5, .int 3, .ref ovsc, .int (nI osn)])), (ovsc, .inl (G.2.1, 15, .inl osf)), (ovn, .inr (4, [.int 6, .int 4, .ref ovnc, .int (nI onn)])), (ovnc, .inl (G.2.1, 24, .inl onf)), (ovm, .inr (4, [.int 6, .int 4, .ref ovmc, .int (nI omn)])), (ovmc, .inl (G.2.1, 24, .inl omf)), (ovu, .inr (1, [.ref ovuc, .int (nI ou)])), (ovuc, .inl (G.2.1, 56, .inl ouf))] H locs := hW
          refine lv_iconst (v := 1) hx hb dX10_from_64 (by decide) ?_
          subst hQ
          exact g_iret (v := 1) C hW hrt ⟨(), by rfl, by rfl⟩ dX10_from_65
  · exfalso; exact absurd c_1284 (by decide)
set_option maxHeartbeats 4000000 in
set_option maxRecDepth 100000 in
theorem c_X10_from_no0 (l : Launch) (G : gT) (v : Nat) (to iv jv rd st ra og : Nat) (k1 k2 ab be bds nos fls : Int32) (hk1 : k1 = 0) : MI l G yX10_from cX10_from 2 .int ({ frames := 1, cells := 0, slots := 0, locals := 22 }) [.ref to, .int 0] [(to, .inr (8, [.ref v, .ref iv, .ref jv, .int k1, .int k2, .ref rd, .ref st, .ref ra, .ref og, .int ab, .int be, .int bds, .int nos, .int fls]))] (fun (r : Int32) w1 => ∃ u_ : Unit, (r = (-3)) ∧ w1 = [(to, .inr (8, [.ref v, .ref iv, .ref jv, .int k1, .int k2, .ref rd, .ref st, .ref ra, .ref og, .int ab, .int be, .int bds, .int (nos + 1), .int fls]))]) := by
  refine MI.mk (by decide) (Nat.le_of_ble_eq_true rfl) ?_
  intro p_ e_ s_ m_ ar_ be_ me_ cd_ A_ ls C hrt hW hl
  have hx := C.1; have hb := C.2.1; have hown := C.2.2.2.1; have ht := C.2.2.2.2.1
  replace hl : lv_has ls 2 [(0, .ref to), (1, .int 0)] := hl
  generalize hQ : MQ be_ _ ar_ s_ 0 0 A_ = Q
  refine lv_iload_n hx hb dX10_from_0 rfl (lv_at hl 1 rfl) ?_
  refine lv_iconst (v := 0) hx hb dX10_from_1 (by decide) ?_
  refine lv_iconst (v := 1) hx hb dX10_from_2 (by decide) ?_
  refine g_fi C hW [] rfl (g_runS (As := [.int 0, .int 0, .int 1]) (rest := []) (wc := []) C hW hl (c_X10_isWithin l G 0 0 1  _) k_ml_X10_73 q_X10_isWithin (by decide) [] rfl rfl rfl rfl (Nat.le_of_ble_eq_true rfl) dX10_from_3 (by decide)) (fun r_1290 er_1290 => ?_)
  clear hW; intro H locs hW
  refine lv_as (y := bI (iw 0 0 1)) er_1290 ?_
  clear er_1290 r_1290
  refine lv_if_ne (tgt := 16) hx hb dX10_from_6 (by decide) (fun c_1291 => ?_) (fun c_1291 => ?_)
  · refine lv_iload_n hx hb dX10_from_16 rfl (lv_at hl 1 rfl) ?_
    refine lv_if_ne (tgt := 30) hx hb dX10_from_17 (by decide) (fun c_1292 => ?_) (fun c_1292 => ?_)
    · exfalso; exact c_1292 rfl
    · refine lv_aload_n hx hb dX10_from_20 rfl (lv_at hl 0 rfl) ?_
      refine g_get (k := 3) (v := .int k1) C hW 0 rfl rfl jnX10 (by decide) k_fl_X10_22 rfl dX10_from_21 ?_
      refine lv_if_eq (tgt := 37) hx hb dX10_from_24 (by decide) (fun c_1293 => ?_) (fun c_1293 => ?_)
      · refine lv_aload_n hx hb dX10_from_37 rfl (lv_at hl 0 rfl) ?_
        refine g_fiw (wr := []) (ww := fun (u_ : Unit) => [(to, .inr (8, [.ref v, .ref iv, .ref jv, .int k1, .int k2, .ref rd, .ref st, .ref ra, .ref og, .int ab, .int be, .int bds, .int (nos + 1), .int fls]))]) (w2 := fun (u_ : Unit) => [(to, .inr (8, [.ref v, .ref iv, .ref jv, .int k1, .int k2, .ref rd, .ref st, .ref ra, .ref og, .int ab, .int be, .int bds, .int (nos + 1), .int fls]))]) C hW [0] [] [0] rfl rfl (by decide) (by decide) (by decide) (fun _ => rfl) (g_runV (As := []) (rest := []) (wc := [(to, .inr (8, [.ref v, .ref iv, .ref jv, .int k1, .int k2, .ref rd, .ref st, .ref ra, .ref og, .int ab, .int be, .int bds, .int nos, .int fls]))]) (q0 := 0) (ci := 8) C hW hl (c_X10_refuseNo l G v to iv jv rd st ra og k1 k2 ab be bds nos fls  _) k_ml_X10_167 q_X10_refuseNo (by decide) [0] rfl rfl rfl rfl rfl rfl (Nat.le_of_ble_eq_true rfl) dX10_from_38 (by decide)) (fun r_1294 _ er_1294 => ?_)
        clear hW H locs; intro H locs hW
        refine lv_as (y := (-3)) er_1294 ?_
        clear er_1294 r_1294
        replace hW : Wd G A_ s_.heap [(to, .inr (8, [.ref v, .ref iv, .ref jv, .int k1, .int k2, .ref rd, .ref st, .ref ra, .ref og, .int ab, .int be, .int bds, .int (nos + 1), .int fls]))] H locs := hW
        subst hQ
        exact g_iret (v := (-3)) C hW hrt ⟨(), by rfl, by rfl⟩ dX10_from_41
      · exfalso; exact c_1293 hk1
  · exfalso; exact absurd c_1291 (by decide)
set_option maxHeartbeats 4000000 in
set_option maxRecDepth 100000 in
theorem c_X10_image_1 (l : Launch) (G : gT) (v vw vc vp vpc vs vsc vn vnc vm vmc vu vuc : Nat) (wide : Int32) (wd ck : Nat → Int32) (n : Nat) (pf : Nat → Int32) (sn : Nat) (sf : Nat → Int32) (nn : Nat) (nf : Nat → Int32) (mn : Nat) (mf : Nat → Int32) (u : Nat) (uf : Nat → Int32) (ov ovw ovc ovp ovpc ovs ovsc ovn ovnc ovm ovmc ovu ovuc : Nat) (owide : Int32) (owd ock : Nat → Int32) (on : Nat) (opf : Nat → Int32) (osn : Nat) (osf : Nat → Int32) (onn : Nat) (onf : Nat → Int32) (omn : Nat) (omf : Nat → Int32) (ou : Nat) (ouf : Nat → Int32) (to iv rd st ra og : Nat) (k1 k2 ab be bds nos fls : Int32) (hn : n ≤ 7) (hs : sn ≤ 5) (ho : nn ≤ 6) (hm : mn ≤ 6) (hu : u ≤ 8) : MI l G yX10_image cX10_image 2 .int ({ frames := 3, cells := 0, slots := 0, locals := 83 }) [.ref to, .int 1] [(to, .inr (8, [.ref v, .ref iv, .ref ov, .int k1, .int k2, .ref rd, .ref st, .ref ra, .ref og, .int ab, .int be, .int bds, .int nos, .int fls])), (v, .inr (7, [.int wide, .ref vw, .ref vc, .ref vp, .ref vs, .ref vn, .ref vm, .ref vu])), (vw, .inl (G.2.1, 6, .inl wd)), (vc, .inl (G.2.1, 7, .inl ck)), (vp, .inr (4, [.int 7, .int 3, .ref vpc, .int (nI n)])), (vpc, .inl (G.2.1, 21, .inl pf)), (vs, .inr (4, [.int 5, .int 3, .ref vsc, .int (nI sn)])), (vsc, .inl (G.2.1, 15, .inl sf)), (vn, .inr (4, [.int 6, .int 4, .ref vnc, .int (nI nn)])), (vnc, .inl (G.2.1, 24, .inl nf)), (vm, .inr (4, [.int 6, .int 4, .ref vmc, .int (nI mn)])), (vmc, .inl (G.2.1, 24, .inl mf)), (vu, .inr (1, [.ref vuc, .int (nI u)])), (vuc, .inl (G.2.1, 56, .inl uf)), (ov, .inr (7, [.int owide, .ref ovw, .ref ovc, .ref ovp, .ref ovs, .ref ovn, .ref ovm, .ref ovu])), (ovw, .inl (G.2.1, 6, .inl owd)), (ovc, .inl (G.2.1, 7, .inl ock)), (ovp, .inr (4, [.int 7, .int 3, .ref ovpc, .int (nI on)])), (ovpc, .inl (G.2.1, 21, .inl opf)), (ovs, .inr (4, [.int 5, .int 3, .ref ovsc, .int (nI osn)])), (ovsc, .inl (G.2.1, 15, .inl osf)), (ovn, .inr (4, [.int 6, .int 4, .ref ovnc, .int (nI onn)])), (ovnc, .inl (G.2.1, 24, .inl onf)), (ovm, .inr (4, [.int 6, .int 4, .ref ovmc, .int (nI omn)])), (ovmc, .inl (G.2.1, 24, .inl omf)), (ovu, .inr (1, [.ref ovuc, .int (nI ou)])), (ovuc, .inl (G.2.1, 56, .inl ouf))] (fun (r : Int32) w1 => ∃ u_ : Unit, (r = 1) ∧ w1 = [(to, .inr (8, [.ref v, .ref iv, .ref ov, .int k1, .int 1, .ref rd, .ref st, .ref ra, .ref og, .int ab, .int be, .int bds, .int nos, .int fls])), (v, .inr (7, [.int wide, .ref vw, .ref vc, .ref vp, .ref vs, .ref vn, .ref vm, .ref vu])), (vw, .inl (G.2.1, 6, .inl wd)), (vc, .inl (G.2.1, 7, .inl ck)), (vp, .inr (4, [.int 7, .int 3, .ref vpc, .int (nI n)])), (vpc, .inl (G.2.1, 21, .inl pf)), (vs, .inr (4, [.int 5, .int 3, .ref vsc, .int (nI sn)])), (vsc, .inl (G.2.1, 15, .inl sf)), (vn, .inr (4, [.int 6, .int 4, .ref vnc, .int (nI nn)])), (vnc, .inl (G.2.1, 24, .inl nf)), (vm, .inr (4, [.int 6, .int 4, .ref vmc, .int (nI mn)])), (vmc, .inl (G.2.1, 24, .inl mf)), (vu, .inr (1, [.ref vuc, .int (nI u)])), (vuc, .inl (G.2.1, 56, .inl uf)), (ov, .inr (7, [.int wide, .ref ovw, .ref ovc, .ref ovp, .ref ovs, .ref ovn, .ref ovm, .ref ovu])), (ovw, .inl (G.2.1, 6, .inl (va_cpy wd owd 0 0 6))), (ovc, .inl (G.2.1, 7, .inl (va_cpy ck ock 0 0 7))), (ovp, .inr (4, [.int 7, .int 3, .ref ovpc, .int (nI n)])), (ovpc, .inl (G.2.1, 21, .inl (va_cpy pf opf 0 0 (n * 3)))), (ovs, .inr (4, [.int 5, .int 3, .ref ovsc, .int (nI sn)])), (ovsc, .inl (G.2.1, 15, .inl (va_cpy sf osf 0 0 (sn * 3)))), (ovn, .inr (4, [.int 6, .int 4, .ref ovnc, .int (nI nn)])), (ovnc, .inl (G.2.1, 24, .inl (va_cpy nf onf 0 0 (nn * 4)))), (ovm, .inr (4, [.int 6, .int 4, .ref ovmc, .int (nI mn)])), (ovmc, .inl (G.2.1, 24, .inl (va_cpy mf omf 0 0 (mn * 4)))), (ovu, .inr (1, [.ref ovuc, .int (nI u)])), (ovuc, .inl (G.2.1, 56, .inl (va_cpy uf ouf 0 0 (u * 7))))]) := by
  refine MI.mk (by decide) (Nat.le_of_ble_eq_true rfl) ?_
  intro p_ e_ s_ m_ ar_ be_ me_ cd_ A_ ls C hrt hW hl
  have hx := C.1; have hb := C.2.1; have hown := C.2.2.2.1; have ht := C.2.2.2.2.1
  replace hl : lv_has ls 2 [(0, .ref to), (1, .int 1)] := hl
  generalize hQ : MQ be_ _ ar_ s_ 0 0 A_ = Q
  refine lv_iload_n hx hb dX10_image_0 rfl (lv_at hl 1 rfl) ?_
  refine lv_iconst (v := 0) hx hb dX10_image_1 (by decide) ?_
  refine lv_iconst (v := 1) hx hb dX10_image_2 (by decide) ?_
  refine g_fi C hW [] rfl (g_runS (As := [.int 1, .int 0, .int 1]) (rest := []) (wc := []) C hW hl (c_X10_isWithin l G 1 0 1  _) k_ml_X10_73 q_X10_isWithin (by decide) [] rfl rfl rfl rfl (Nat.le_of_ble_eq_true rfl) dX10_image_3 (by decide)) (fun r_1296 er_1296 => ?_)
  clear hW; intro H locs hW
  refine lv_as (y := bI (iw 1 0 1)) er_1296 ?_
  clear er_1296 r_1296
  refine lv_if_ne (tgt := 16) hx hb dX10_image_6 (by decide) (fun c_1297 => ?_) (fun c_1297 => ?_)
  · refine lv_iload_n hx hb dX10_image_16 rfl (lv_at hl 1 rfl) ?_
    refine lv_if_ne (tgt := 39) hx hb dX10_image_17 (by decide) (fun c_1298 => ?_) (fun c_1298 => ?_)
    · refine lv_aload_n hx hb dX10_image_39 rfl (lv_at hl 0 rfl) ?_
      refine g_get (k := 2) (v := .ref ov) C hW 0 rfl rfl jnX10 (by decide) k_fl_X10_19 rfl dX10_image_40 ?_
      refine lv_aload_n hx hb dX10_image_43 rfl (lv_at hl 0 rfl) ?_
      refine g_get (k := 0) (v := .ref v) C hW 0 rfl rfl jnX10 (by decide) k_fl_X10_10 rfl dX10_image_44 ?_
      refine g_fvw (wr := [(to, .inr (8, [.ref v, .ref iv, .ref ov, .int k1, .int k2, .ref rd, .ref st, .ref ra, .ref og, .int ab, .int be, .int bds, .int nos, .int fls]))]) (ww := fun (u_ : Unit) => [(ov, .inr (7, [.int wide, .ref ovw, .ref ovc, .ref ovp, .ref ovs, .ref ovn, .ref ovm, .ref ovu])), (ovw, .inl (G.2.1, 6, .inl (va_cpy wd owd 0 0 6))), (ovc, .inl (G.2.1, 7, .inl (va_cpy ck ock 0 0 7))), (ovp, .inr (4, [.int 7, .int 3, .ref ovpc, .int (nI n)])), (ovpc, .inl (G.2.1, 21, .inl (va_cpy pf opf 0 0 (n * 3)))), (ovs, .inr (4, [.int 5, .int 3, .ref ovsc, .int (nI sn)])), (ovsc, .inl (G.2.1, 15, .inl (va_cpy sf osf 0 0 (sn * 3)))), (ovn, .inr (4, [.int 6, .int 4, .ref ovnc, .int (nI nn)])), (ovnc, .inl (G.2.1, 24, .inl (va_cpy nf onf 0 0 (nn * 4)))), (ovm, .inr (4, [.int 6, .int 4, .ref ovmc, .int (nI mn)])), (ovmc, .inl (G.2.1, 24, .inl (va_cpy mf omf 0 0 (mn * 4)))), (ovu, .inr (1, [.ref ovuc, .int (nI u)])), (ovuc, .inl (G.2.1, 56, .inl (va_cpy uf ouf 0 0 (u * 7)))), (v, .inr (7, [.int wide, .ref vw, .ref vc, .ref vp, .ref vs, .ref vn, .ref vm, .ref vu])), (vw, .inl (G.2.1, 6, .inl wd)), (vc, .inl (G.2.1, 7, .inl ck)), (vp, .inr (4, [.int 7, .int 3, .ref vpc, .int (nI n)])), (vpc, .inl (G.2.1, 21, .inl pf)), (vs, .inr (4, [.int 5, .int 3, .ref vsc, .int (nI sn)])), (vsc, .inl (G.2.1, 15, .inl sf)), (vn, .inr (4, [.int 6, .int 4, .ref vnc, .int (nI nn)])), (vnc, .inl (G.2.1, 24, .inl nf)), (vm, .inr (4, [.int 6, .int 4, .ref vmc, .int (nI mn)])), (vmc, .inl (G.2.1, 24, .inl mf)), (vu, .inr (1, [.ref vuc, .int (nI u)])), (vuc, .inl (G.2.1, 56, .inl uf))]) (w2 := fun (u_ : Unit) => [(to, .inr (8, [.ref v, .ref iv, .ref ov, .int k1, .int k2, .ref rd, .ref st, .ref ra, .ref og, .int ab, .int be, .int bds, .int nos, .int fls])), (v, .inr (7, [.int wide, .ref vw, .ref vc, .ref vp, .ref vs, .ref vn, .ref vm, .ref vu])), (vw, .inl (G.2.1, 6, .inl wd)), (vc, .inl (G.2.1, 7, .inl ck)), (vp, .inr (4, [.int 7, .int 3, .ref vpc, .int (nI n)])), (vpc, .inl (G.2.1, 21, .inl pf)), (vs, .inr (4, [.int 5, .int 3, .ref vsc, .int (nI sn)])), (vsc, .inl (G.2.1, 15, .inl sf)), (vn, .inr (4, [.int 6, .int 4, .ref vnc, .int (nI nn)])), (vnc, .inl (G.2.1, 24, .inl nf)), (vm, .inr (4, [.int 6, .int 4, .ref vmc, .int (nI mn)])), (vmc, .inl (G.2.1, 24, .inl mf)), (vu, .inr (1, [.ref vuc, .int (nI u)])), (vuc, .inl (G.2.1, 56, .inl uf)), (ov, .inr (7, [.int wide, .ref ovw, .ref ovc, .ref ovp, .ref ovs, .ref ovn, .ref ovm, .ref ovu])), (ovw, .inl (G.2.1, 6, .inl (va_cpy wd owd 0 0 6))), (ovc, .inl (G.2.1, 7, .inl (va_cpy ck ock 0 0 7))), (ovp, .inr (4, [.int 7, .int 3, .ref ovpc, .int (nI n)])), (ovpc, .inl (G.2.1, 21, .inl (va_cpy pf opf 0 0 (n * 3)))), (ovs, .inr (4, [.int 5, .int 3, .ref ovsc, .int (nI sn)])), (ovsc, .inl (G.2.1, 15, .inl (va_cpy sf osf 0 0 (sn * 3)))), (ovn, .inr (4, [.int 6, .int 4, .ref ovnc, .int (nI nn)])), (ovnc, .inl (G.2.1, 24, .inl (va_cpy nf onf 0 0 (nn * 4)))), (ovm, .inr (4, [.int 6, .int 4, .ref ovmc, .int (nI mn)])), (ovmc, .inl (G.2.1, 24, .inl (va_cpy mf omf 0 0 (mn * 4)))), (ovu, .inr (1, [.ref ovuc, .int (nI u)])), (ovuc, .inl (G.2.1, 56, .inl (va_cpy uf ouf 0 0 (u * 7))))]) C hW [14, 15, 16, 17, 18, 19, 20, 21, 22, 23, 24, 25, 26, 1, 2, 3, 4, 5, 6, 7, 8, 9, 10, 11, 12, 13] [0] [0, 14, 15, 16, 17, 18, 19, 20, 21, 22, 23, 24, 25, 26, 1, 2, 3, 4, 5, 6, 7, 8, 9, 10, 11, 12, 13] rfl rfl (by decide) (by decide) (by decide) (fun _ => rfl) (g_runV (As := [.ref v]) (rest := []) (wc := [(ov, .inr (7, [.int owide, .ref ovw, .ref ovc, .ref ovp, .ref ovs, .ref ovn, .ref ovm, .ref ovu])), (ovw, .inl (G.2.1, 6, .inl owd)), (ovc, .inl (G.2.1, 7, .inl ock)), (ovp, .inr (4, [.int 7, .int 3, .ref ovpc, .int (nI on)])), (ovpc, .inl (G.2.1, 21, .inl opf)), (ovs, .inr (4, [.int 5, .int 3, .ref ovsc, .int (nI osn)])), (ovsc, .inl (G.2.1, 15, .inl osf)), (ovn, .inr (4, [.int 6, .int 4, .ref ovnc, .int (nI onn)])), (ovnc, .inl (G.2.1, 24, .inl onf)), (ovm, .inr (4, [.int 6, .int 4, .ref ovmc, .int (nI omn)])), (ovmc, .inl (G.2.1, 24, .inl omf)), (ovu, .inr (1, [.ref ovuc, .int (nI ou)])), (ovuc, .inl (G.2.1, 56, .inl ouf)), (v, .inr (7, [.int wide, .ref vw, .ref vc, .ref vp, .ref vs, .ref vn, .ref vm, .ref vu])), (vw, .inl (G.2.1, 6, .inl wd)), (vc, .inl (G.2.1, 7, .inl ck)), (vp, .inr (4, [.int 7, .int 3, .ref vpc, .int (nI n)])), (vpc, .inl (G.2.1, 21, .inl pf)), (vs, .inr (4, [.int 5, .int 3, .ref vsc, .int (nI sn)])), (vsc, .inl (G.2.1, 15, .inl sf)), (vn, .inr (4, [.int 6, .int 4, .ref vnc, .int (nI nn)])), (vnc, .inl (G.2.1, 24, .inl nf)), (vm, .inr (4, [.int 6, .int 4, .ref vmc, .int (nI mn)])), (vmc, .inl (G.2.1, 24, .inl mf)), (vu, .inr (1, [.ref vuc, .int (nI u)])), (vuc, .inl (G.2.1, 56, .inl uf))]) (q0 := 0) (ci := 7) C hW hl (c_X9_copyFrom l G ov ovw ovc ovp ovpc ovs ovsc ovn ovnc ovm ovmc ovu ovuc owide owd ock on opf osn osf onn onf omn omf ou ouf v vw vc vp vpc vs vsc vn vnc vm vmc vu vuc wide wd ck n pf sn sf nn nf mn mf u uf (by first | assumption | omega) (by first | assumption | omega) (by first | assumption | omega) (by first | assumption | omega) (by first | assumption | omega) _) k_ml_X10_157 q_X9_copyFrom (by decide) [14, 15, 16, 17, 18, 19, 20, 21, 22, 23, 24, 25, 26, 1, 2, 3, 4, 5, 6, 7, 8, 9, 10, 11, 12, 13] rfl rfl rfl rfl rfl rfl (Nat.le_of_ble_eq_true rfl) dX10_image_47 (by decide)) (fun _ er_1299 => ?_)
      clear hW H locs; intro H locs hW
      replace hW : Wd G A_ s_.heap [(to, .inr (8, [.ref v, .ref iv, .ref ov, .int k1, .int k2, .ref rd, .ref st, .ref ra, .ref og, .int ab, .int be, .int bds, .int nos, .int fls])), (v, .inr (7, [.int wide, .ref vw, .ref vc, .ref vp, .ref vs, .ref vn, .ref vm, .ref vu])), (vw, .inl (G.2.1, 6, .inl wd)), (vc, .inl (G.2.1, 7, .inl ck)), (vp, .inr (4, [.int 7, .int 3, .ref vpc, .int (nI n)])), (vpc, .inl (G.2.1, 21, .inl pf)), (vs, .inr (4, [.int 5, .int 3, .ref vsc, .int (nI sn)])), (vsc, .inl (G.2.1, 15, .inl sf)), (vn, .inr (4, [.int 6, .int 4, .ref vnc, .int (nI nn)])), (vnc, .inl (G.2.1, 24, .inl nf)), (vm, .inr (4, [.int 6, .int 4, .ref vmc, .int (nI mn)])), (vmc, .inl (G.2.1, 24, .inl mf)), (vu, .inr (1, [.ref vuc, .int (nI u)])), (vuc, .inl (G.2.1, 56, .inl uf)), (ov, .inr (7, [.int wide, .ref ovw, .ref ovc, .ref ovp, .ref ovs, .ref ovn, .ref ovm, .ref ovu])), (ovw, .inl (G.2.1, 6, .inl (va_cpy wd owd 0 0 6))), (ovc, .inl (G.2.1, 7, .inl (va_cpy ck ock 0 0 7))), (ovp, .inr (4, [.int 7, .int 3, .ref ovpc, .int (nI n)])), (ovpc, .inl (G.2.1, 21, .inl (va_cpy pf opf 0 0 (n * 3)))), (ovs, .inr (4, [.int 5, .int 3, .ref ovsc, .int (nI sn)])), (ovsc, .inl (G.2.1, 15, .inl (va_cpy sf osf 0 0 (sn * 3)))), (ovn, .inr (4, [.int 6, .int 4, .ref ovnc, .int (nI nn)])), (ovnc, .inl (G.2.1, 24, .inl (va_cpy nf onf 0 0 (nn * 4)))), (ovm, .inr (4, [.int 6, .int 4, .ref ovmc, .int (nI mn)])), (ovmc, .inl (G.2.1, 24, .inl (va_cpy mf omf 0 0 (mn * 4)))), (ovu, .inr (1, [.ref ovuc, .int (nI u)])), (ovuc, .inl (G.2.1, 56, .inl (va_cpy uf ouf 0 0 (u * 7))))] H locs := hW
      refine lv_aload_n hx hb dX10_image_50 rfl (lv_at hl 0 rfl) ?_
      refine lv_iconst (v := 1) hx hb dX10_image_51 (by decide) ?_
      refine g_put (k := 4) (ty := .boolean) (w' := [(to, .inr (8, [.ref v, .ref iv, .ref ov, .int k1, .int 1, .ref rd, .ref st, .ref ra, .ref og, .int ab, .int be, .int bds, .int nos, .int fls])), (v, .inr (7, [.int wide, .ref vw, .ref vc, .ref vp, .ref vs, .ref vn, .ref vm, .ref vu])), (vw, .inl (G.2.1, 6, .inl wd)), (vc, .inl (G.2.1, 7, .inl ck)), (vp, .inr (4, [.int 7, .int 3, .ref vpc, .int (nI n)])), (vpc, .inl (G.2.1, 21, .inl pf)), (vs, .inr (4, [.int 5, .int 3, .ref vsc, .int (nI sn)])), (vsc, .inl (G.2.1, 15, .inl sf)), (vn, .inr (4, [.int 6, .int 4, .ref vnc, .int (nI nn)])), (vnc, .inl (G.2.1, 24, .inl nf)), (vm, .inr (4, [.int 6, .int 4, .ref vmc, .int (nI mn)])), (vmc, .inl (G.2.1, 24, .inl mf)), (vu, .inr (1, [.ref vuc, .int (nI u)])), (vuc, .inl (G.2.1, 56, .inl uf)), (ov, .inr (7, [.int wide, .ref ovw, .ref ovc, .ref ovp, .ref ovs, .ref ovn, .ref ovm, .ref ovu])), (ovw, .inl (G.2.1, 6, .inl (va_cpy wd owd 0 0 6))), (ovc, .inl (G.2.1, 7, .inl (va_cpy ck ock 0 0 7))), (ovp, .inr (4, [.int 7, .int 3, .ref ovpc, .int (nI n)])), (ovpc, .inl (G.2.1, 21, .inl (va_cpy pf opf 0 0 (n * 3)))), (ovs, .inr (4, [.int 5, .int 3, .ref ovsc, .int (nI sn)])), (ovsc, .inl (G.2.1, 15, .inl (va_cpy sf osf 0 0 (sn * 3)))), (ovn, .inr (4, [.int 6, .int 4, .ref ovnc, .int (nI nn)])), (ovnc, .inl (G.2.1, 24, .inl (va_cpy nf onf 0 0 (nn * 4)))), (ovm, .inr (4, [.int 6, .int 4, .ref ovmc, .int (nI mn)])), (ovmc, .inl (G.2.1, 24, .inl (va_cpy mf omf 0 0 (mn * 4)))), (ovu, .inr (1, [.ref ovuc, .int (nI u)])), (ovuc, .inl (G.2.1, 56, .inl (va_cpy uf ouf 0 0 (u * 7))))]) C hW 0 rfl rfl jnX10 tyX10_ok nmX10 (by decide) k_fl_X10_26 rfl rfl (by rfl) rfl (Nat.le_of_ble_eq_true rfl) rfl dX10_image_52 ?_
      clear hW H locs; intro H locs hW
      refine lv_iconst (v := 1) hx hb dX10_image_55 (by decide) ?_
      subst hQ
      exact g_iret (v := 1) C hW hrt ⟨(), by rfl, by rfl⟩ dX10_image_56
    · exfalso; exact absurd c_1298 (by decide)
  · exfalso; exact absurd c_1297 (by decide)
set_option maxHeartbeats 4000000 in
set_option maxRecDepth 100000 in
theorem c_X10_from_1 (l : Launch) (G : gT) (v vw vc vp vpc vs vsc vn vnc vm vmc vu vuc : Nat) (wide : Int32) (wd ck : Nat → Int32) (n : Nat) (pf : Nat → Int32) (sn : Nat) (sf : Nat → Int32) (nn : Nat) (nf : Nat → Int32) (mn : Nat) (mf : Nat → Int32) (u : Nat) (uf : Nat → Int32) (ov ovw ovc ovp ovpc ovs ovsc ovn ovnc ovm ovmc ovu ovuc : Nat) (owide : Int32) (owd ock : Nat → Int32) (on : Nat) (opf : Nat → Int32) (osn : Nat) (osf : Nat → Int32) (onn : Nat) (onf : Nat → Int32) (omn : Nat) (omf : Nat → Int32) (ou : Nat) (ouf : Nat → Int32) (to iv rd st ra og : Nat) (k1 k2 ab be bds nos fls : Int32) (ohn : on ≤ 7) (ohs : osn ≤ 5) (oho : onn ≤ 6) (ohm : omn ≤ 6) (ohu : ou ≤ 8) (hk1 : ¬ k2 = 0) : MI l G yX10_from cX10_from 2 .int ({ frames := 3, cells := 0, slots := 0, locals := 83 }) [.ref to, .int 1] [(to, .inr (8, [.ref v, .ref iv, .ref ov, .int k1, .int k2, .ref rd, .ref st, .ref ra, .ref og, .int ab, .int be, .int bds, .int nos, .int fls])), (v, .inr (7, [.int wide, .ref vw, .ref vc, .ref vp, .ref vs, .ref vn, .ref vm, .ref vu])), (vw, .inl (G.2.1, 6, .inl wd)), (vc, .inl (G.2.1, 7, .inl ck)), (vp, .inr (4, [.int 7, .int 3, .ref vpc, .int (nI n)])), (vpc, .inl (G.2.1, 21, .inl pf)), (vs, .inr (4, [.int 5, .int 3, .ref vsc, .int (nI sn)])), (vsc, .inl (G.2.1, 15, .inl sf)), (vn, .inr (4, [.int 6, .int 4, .ref vnc, .int (nI nn)])), (vnc, .inl (G.2.1, 24, .inl nf)), (vm, .inr (4, [.int 6, .int 4, .ref vmc, .int (nI mn)])), (vmc, .inl (G.2.1, 24, .inl mf)), (vu, .inr (1, [.ref vuc, .int (nI u)])), (vuc, .inl (G.2.1, 56, .inl uf)), (ov, .inr (7, [.int owide, .ref ovw, .ref ovc, .ref ovp, .ref ovs, .ref ovn, .ref ovm, .ref ovu])), (ovw, .inl (G.2.1, 6, .inl owd)), (ovc, .inl (G.2.1, 7, .inl ock)), (ovp, .inr (4, [.int 7, .int 3, .ref ovpc, .int (nI on)])), (ovpc, .inl (G.2.1, 21, .inl opf)), (ovs, .inr (4, [.int 5, .int 3, .ref ovsc, .int (nI osn)])), (ovsc, .inl (G.2.1, 15, .inl osf)), (ovn, .inr (4, [.int 6, .int 4, .ref ovnc, .int (nI onn)])), (ovnc, .inl (G.2.1, 24, .inl onf)), (ovm, .inr (4, [.int 6, .int 4, .ref ovmc, .int (nI omn)])), (ovmc, .inl (G.2.1, 24, .inl omf)), (ovu, .inr (1, [.ref ovuc, .int (nI ou)])), (ovuc, .inl (G.2.1, 56, .inl ouf))] (fun (r : Int32) w1 => ∃ u_ : Unit, (r = 1) ∧ w1 = [(to, .inr (8, [.ref v, .ref iv, .ref ov, .int k1, .int k2, .ref rd, .ref st, .ref ra, .ref og, .int ab, .int be, .int bds, .int nos, .int fls])), (v, .inr (7, [.int owide, .ref vw, .ref vc, .ref vp, .ref vs, .ref vn, .ref vm, .ref vu])), (vw, .inl (G.2.1, 6, .inl (va_cpy owd wd 0 0 6))), (vc, .inl (G.2.1, 7, .inl (va_cpy ock ck 0 0 7))), (vp, .inr (4, [.int 7, .int 3, .ref vpc, .int (nI on)])), (vpc, .inl (G.2.1, 21, .inl (va_cpy opf pf 0 0 (on * 3)))), (vs, .inr (4, [.int 5, .int 3, .ref vsc, .int (nI osn)])), (vsc, .inl (G.2.1, 15, .inl (va_cpy osf sf 0 0 (osn * 3)))), (vn, .inr (4, [.int 6, .int 4, .ref vnc, .int (nI onn)])), (vnc, .inl (G.2.1, 24, .inl (va_cpy onf nf 0 0 (onn * 4)))), (vm, .inr (4, [.int 6, .int 4, .ref vmc, .int (nI omn)])), (vmc, .inl (G.2.1, 24, .inl (va_cpy omf mf 0 0 (omn * 4)))), (vu, .inr (1, [.ref vuc, .int (nI ou)])), (vuc, .inl (G.2.1, 56, .inl (va_cpy ouf uf 0 0 (ou * 7)))), (ov, .inr (7, [.int owide, .ref ovw, .ref ovc, .ref ovp, .ref ovs, .ref ovn, .ref ovm, .ref ovu])), (ovw, .inl (G.2.1, 6, .inl owd)), (ovc, .inl (G.2.1, 7, .inl ock)), (ovp, .inr (4, [.int 7, .int 3, .ref ovpc, .int (nI on)])), (ovpc, .inl (G.2.1, 21, .inl opf)), (ovs, .inr (4, [.int 5, .int 3, .ref ovsc, .int (nI osn)])), (ovsc, .inl (G.2.1, 15, .inl osf)), (ovn, .inr (4, [.int 6, .int 4, .ref ovnc, .int (nI onn)])), (ovnc, .inl (G.2.1, 24, .inl onf)), (ovm, .inr (4, [.int 6, .int 4, .ref ovmc, .int (nI omn)])), (ovmc, .inl (G.2.1, 24, .inl omf)), (ovu, .inr (1, [.ref ovuc, .int (nI ou)])), (ovuc, .inl (G.2.1, 56, .inl ouf))]) := by
  refine MI.mk (by decide) (Nat.le_of_ble_eq_true rfl) ?_
  intro p_ e_ s_ m_ ar_ be_ me_ cd_ A_ ls C hrt hW hl
  have hx := C.1; have hb := C.2.1; have hown := C.2.2.2.1; have ht := C.2.2.2.2.1
  replace hl : lv_has ls 2 [(0, .ref to), (1, .int 1)] := hl
  generalize hQ : MQ be_ _ ar_ s_ 0 0 A_ = Q
  refine lv_iload_n hx hb dX10_from_0 rfl (lv_at hl 1 rfl) ?_
  refine lv_iconst (v := 0) hx hb dX10_from_1 (by decide) ?_
  refine lv_iconst (v := 1) hx hb dX10_from_2 (by decide) ?_
  refine g_fi C hW [] rfl (g_runS (As := [.int 1, .int 0, .int 1]) (rest := []) (wc := []) C hW hl (c_X10_isWithin l G 1 0 1  _) k_ml_X10_73 q_X10_isWithin (by decide) [] rfl rfl rfl rfl (Nat.le_of_ble_eq_true rfl) dX10_from_3 (by decide)) (fun r_1301 er_1301 => ?_)
  clear hW; intro H locs hW
  refine lv_as (y := bI (iw 1 0 1)) er_1301 ?_
  clear er_1301 r_1301
  refine lv_if_ne (tgt := 16) hx hb dX10_from_6 (by decide) (fun c_1302 => ?_) (fun c_1302 => ?_)
  · refine lv_iload_n hx hb dX10_from_16 rfl (lv_at hl 1 rfl) ?_
    refine lv_if_ne (tgt := 30) hx hb dX10_from_17 (by decide) (fun c_1303 => ?_) (fun c_1303 => ?_)
    · refine lv_aload_n hx hb dX10_from_30 rfl (lv_at hl 0 rfl) ?_
      refine g_get (k := 4) (v := .int k2) C hW 0 rfl rfl jnX10 (by decide) k_fl_X10_26 rfl dX10_from_31 ?_
      refine lv_if_ne (tgt := 42) hx hb dX10_from_34 (by decide) (fun c_1304 => ?_) (fun c_1304 => ?_)
      · refine lv_aload_n hx hb dX10_from_42 rfl (lv_at hl 0 rfl) ?_
        refine g_get (k := 0) (v := .ref v) C hW 0 rfl rfl jnX10 (by decide) k_fl_X10_10 rfl dX10_from_43 ?_
        refine lv_iload_n hx hb dX10_from_46 rfl (lv_at hl 1 rfl) ?_
        refine lv_if_ne (tgt := 57) hx hb dX10_from_47 (by decide) (fun c_1305 => ?_) (fun c_1305 => ?_)
        · refine lv_aload_n hx hb dX10_from_57 rfl (lv_at hl 0 rfl) ?_
          refine g_get (k := 2) (v := .ref ov) C hW 0 rfl rfl jnX10 (by decide) k_fl_X10_19 rfl dX10_from_58 ?_
          refine g_fvw (wr := [(to, .inr (8, [.ref v, .ref iv, .ref ov, .int k1, .int k2, .ref rd, .ref st, .ref ra, .ref og, .int ab, .int be, .int bds, .int nos, .int fls]))]) (ww := fun (u_ : Unit) => [(v, .inr (7, [.int owide, .ref vw, .ref vc, .ref vp, .ref vs, .ref vn, .ref vm, .ref vu])), (vw, .inl (G.2.1, 6, .inl (va_cpy owd wd 0 0 6))), (vc, .inl (G.2.1, 7, .inl (va_cpy ock ck 0 0 7))), (vp, .inr (4, [.int 7, .int 3, .ref vpc, .int (nI on)])), (vpc, .inl (G.2.1, 21, .inl (va_cpy opf pf 0 0 (on * 3)))), (vs, .inr (4, [.int 5, .int 3, .ref vsc, .int (nI osn)])), (vsc, .inl (G.2.1, 15, .inl (va_cpy osf sf 0 0 (osn * 3)))), (vn, .inr (4, [.int 6, .int 4, .ref vnc, .int (nI onn)])), (vnc, .inl (G.2.1, 24, .inl (va_cpy onf nf 0 0 (onn * 4)))), (vm, .inr (4, [.int 6, .int 4, .ref vmc, .int (nI omn)])), (vmc, .inl (G.2.1, 24, .inl (va_cpy omf mf 0 0 (omn * 4)))), (vu, .inr (1, [.ref vuc, .int (nI ou)])), (vuc, .inl (G.2.1, 56, .inl (va_cpy ouf uf 0 0 (ou * 7)))), (ov, .inr (7, [.int owide, .ref ovw, .ref ovc, .ref ovp, .ref ovs, .ref ovn, .ref ovm, .ref ovu])), (ovw, .inl (G.2.1, 6, .inl owd)), (ovc, .inl (G.2.1, 7, .inl ock)), (ovp, .inr (4, [.int 7, .int 3, .ref ovpc, .int (nI on)])), (ovpc, .inl (G.2.1, 21, .inl opf)), (ovs, .inr (4, [.int 5, .int 3, .ref ovsc, .int (nI osn)])), (ovsc, .inl (G.2.1, 15, .inl osf)), (ovn, .inr (4, [.int 6, .int 4, .ref ovnc, .int (nI onn)])), (ovnc, .inl (G.2.1, 24, .inl onf)), (ovm, .inr (4, [.int 6, .int 4, .ref ovmc, .int (nI omn)])), (ovmc, .inl (G.2.1, 24, .inl omf)), (ovu, .inr (1, [.ref ovuc, .int (nI ou)])), (ovuc, .inl (G.2.1, 56, .inl ouf))]) (w2 := fun (u_ : Unit) => [(to, .inr (8, [.ref v, .ref iv, .ref ov, .int k1, .int k2, .ref rd, .ref st, .ref ra, .ref og, .int ab, .int be, .int bds, .int nos, .int fls])), (v, .inr (7, [.int owide, .ref vw, .ref vc, .ref vp, .ref vs, .ref vn, .ref vm, .ref vu])), (vw, .inl (G.2.1, 6, .inl (va_cpy owd wd 0 0 6))), (vc, .inl (G.2.1, 7, .inl (va_cpy ock ck 0 0 7))), (vp, .inr (4, [.int 7, .int 3, .ref vpc, .int (nI on)])), (vpc, .inl (G.2.1, 21, .inl (va_cpy opf pf 0 0 (on * 3)))), (vs, .inr (4, [.int 5, .int 3, .ref vsc, .int (nI osn)])), (vsc, .inl (G.2.1, 15, .inl (va_cpy osf sf 0 0 (osn * 3)))), (vn, .inr (4, [.int 6, .int 4, .ref vnc, .int (nI onn)])), (vnc, .inl (G.2.1, 24, .inl (va_cpy onf nf 0 0 (onn * 4)))), (vm, .inr (4, [.int 6, .int 4, .ref vmc, .int (nI omn)])), (vmc, .inl (G.2.1, 24, .inl (va_cpy omf mf 0 0 (omn * 4)))), (vu, .inr (1, [.ref vuc, .int (nI ou)])), (vuc, .inl (G.2.1, 56, .inl (va_cpy ouf uf 0 0 (ou * 7)))), (ov, .inr (7, [.int owide, .ref ovw, .ref ovc, .ref ovp, .ref ovs, .ref ovn, .ref ovm, .ref ovu])), (ovw, .inl (G.2.1, 6, .inl owd)), (ovc, .inl (G.2.1, 7, .inl ock)), (ovp, .inr (4, [.int 7, .int 3, .ref ovpc, .int (nI on)])), (ovpc, .inl (G.2.1, 21, .inl opf)), (ovs, .inr (4, [.int 5, .int 3, .ref ovsc, .int (nI osn)])), (ovsc, .inl (G.2.1, 15, .inl osf)), (ovn, .inr (4, [.int 6, .int 4, .ref ovnc, .int (nI onn)])), (ovnc, .inl (G.2.1, 24, .inl onf)), (ovm, .inr (4, [.int 6, .int 4, .ref ovmc, .int (nI omn)])), (ovmc, .inl (G.2.1, 24, .inl omf)), (ovu, .inr (1, [.ref ovuc, .int (nI ou)])), (ovuc, .inl (G.2.1, 56, .inl ouf))]) C hW [1, 2, 3, 4, 5, 6, 7, 8, 9, 10, 11, 12, 13, 14, 15, 16, 17, 18, 19, 20, 21, 22, 23, 24, 25, 26] [0] [0, 1, 2, 3, 4, 5, 6, 7, 8, 9, 10, 11, 12, 13, 14, 15, 16, 17, 18, 19, 20, 21, 22, 23, 24, 25, 26] rfl rfl (by decide) (by decide) (by decide) (fun _ => rfl) (g_runV (As := [.ref ov]) (rest := []) (wc := [(v, .inr (7, [.int wide, .ref vw, .ref vc, .ref vp, .ref vs, .ref vn, .ref vm, .ref vu])), (vw, .inl (G.2.1, 6, .inl wd)), (vc, .inl (G.2.1, 7, .inl ck)), (vp, .inr (4, [.int 7, .int 3, .ref vpc, .int (nI n)])), (vpc, .inl (G.2.1, 21, .inl pf)), (vs, .inr (4, [.int 5, .int 3, .ref vsc, .int (nI sn)])), (vsc, .inl (G.2.1, 15, .inl sf)), (vn, .inr (4, [.int 6, .int 4, .ref vnc, .int (nI nn)])), (vnc, .inl (G.2.1, 24, .inl nf)), (vm, .inr (4, [.int 6, .int 4, .ref vmc, .int (nI mn)])), (vmc, .inl (G.2.1, 24, .inl mf)), (vu, .inr (1, [.ref vuc, .int (nI u)])), (vuc, .inl (G.2.1, 56, .inl uf)), (ov, .inr (7, [.int owide, .ref ovw, .ref ovc, .ref ovp, .ref ovs, .ref ovn, .ref ovm, .ref ovu])), (ovw, .inl (G.2.1, 6, .inl owd)), (ovc, .inl (G.2.1, 7, .inl ock)), (ovp, .inr (4, [.int 7, .int 3, .ref ovpc, .int (nI on)])), (ovpc, .inl (G.2.1, 21, .inl opf)), (ovs, .inr (4, [.int 5, .int 3, .ref ovsc, .int (nI osn)])), (ovsc, .inl (G.2.1, 15, .inl osf)), (ovn, .inr (4, [.int 6, .int 4, .ref ovnc, .int (nI onn)])), (ovnc, .inl (G.2.1, 24, .inl onf)), (ovm, .inr (4, [.int 6, .int 4, .ref ovmc, .int (nI omn)])), (ovmc, .inl (G.2.1, 24, .inl omf)), (ovu, .inr (1, [.ref ovuc, .int (nI ou)])), (ovuc, .inl (G.2.1, 56, .inl ouf))]) (q0 := 0) (ci := 7) C hW hl (c_X9_copyFrom l G v vw vc vp vpc vs vsc vn vnc vm vmc vu vuc wide wd ck n pf sn sf nn nf mn mf u uf ov ovw ovc ovp ovpc ovs ovsc ovn ovnc ovm ovmc ovu ovuc owide owd ock on opf osn osf onn onf omn omf ou ouf (by first | assumption | omega) (by first | assumption | omega) (by first | assumption | omega) (by first | assumption | omega) (by first | assumption | omega) _) k_ml_X10_157 q_X9_copyFrom (by decide) [1, 2, 3, 4, 5, 6, 7, 8, 9, 10, 11, 12, 13, 14, 15, 16, 17, 18, 19, 20, 21, 22, 23, 24, 25, 26] rfl rfl rfl rfl rfl rfl (Nat.le_of_ble_eq_true rfl) dX10_from_61 (by decide)) (fun _ er_1306 => ?_)
          clear hW H locs; intro H locs hW
          replace hW : Wd G A_ s_.heap [(to, .inr (8, [.ref v, .ref iv, .ref ov, .int k1, .int k2, .ref rd, .ref st, .ref ra, .ref og, .int ab, .int be, .int bds, .int nos, .int fls])), (v, .inr (7, [.int owide, .ref vw, .ref vc, .ref vp, .ref vs, .ref vn, .ref vm, .ref vu])), (vw, .inl (G.2.1, 6, .inl (va_cpy owd wd 0 0 6))), (vc, .inl (G.2.1, 7, .inl (va_cpy ock ck 0 0 7))), (vp, .inr (4, [.int 7, .int 3, .ref vpc, .int (nI on)])), (vpc, .inl (G.2.1, 21, .inl (va_cpy opf pf 0 0 (on * 3)))), (vs, .inr (4, [.int 5, .int 3, .ref vsc, .int (nI osn)])), (vsc, .inl (G.2.1, 15, .inl (va_cpy osf sf 0 0 (osn * 3)))), (vn, .inr (4, [.int 6, .int 4, .ref vnc, .int (nI onn)])), (vnc, .inl (G.2.1, 24, .inl (va_cpy onf nf 0 0 (onn * 4)))), (vm, .inr (4, [.int 6, .int 4, .ref vmc, .int (nI omn)])), (vmc, .inl (G.2.1, 24, .inl (va_cpy omf mf 0 0 (omn * 4)))), (vu, .inr (1, [.ref vuc, .int (nI ou)])), (vuc, .inl (G.2.1, 56, .inl (va_cpy ouf uf 0 0 (ou * 7)))), (ov, .inr (7, [.int owide, .ref ovw, .ref ovc, .ref ovp, .ref ovs, .ref ovn, .ref ovm, .ref ovu])), (ovw, .inl (G.2.1, 6, .inl owd)), (ovc, .inl (G.2.1, 7, .inl ock)), (ovp, .inr (4, [.int 7, .int 3, .ref ovpc, .int (nI on)])), (ovpc, .inl (G.2.1, 21, .inl opf)), (ovs, .inr (4, [.int 5, .int 3, .ref ovsc, .int (nI osn)])), (ovsc, .inl (G.2.1, 15, .inl osf)), (ovn, .inr (4, [.int 6, .int 4, .ref ovnc, .int (nI onn)])), (ovnc, .inl (G.2.1, 24, .inl onf)), (ovm, .inr (4, [.int 6, .int 4, .ref ovmc, .int (nI omn)])), (ovmc, .inl (G.2.1, 24, .inl omf)), (ovu, .inr (1, [.ref ovuc, .int (nI ou)])), (ovuc, .inl (G.2.1, 56, .inl ouf))] H locs := hW
          refine lv_iconst (v := 1) hx hb dX10_from_64 (by decide) ?_
          subst hQ
          exact g_iret (v := 1) C hW hrt ⟨(), by rfl, by rfl⟩ dX10_from_65
        · exfalso; exact absurd c_1305 (by decide)
      · exfalso; exact hk1 c_1304
    · exfalso; exact absurd c_1303 (by decide)
  · exfalso; exact absurd c_1302 (by decide)
set_option maxHeartbeats 4000000 in
set_option maxRecDepth 100000 in
theorem c_X10_from_no1 (l : Launch) (G : gT) (v : Nat) (to iv jv rd st ra og : Nat) (k1 k2 ab be bds nos fls : Int32) (hk1 : k2 = 0) : MI l G yX10_from cX10_from 2 .int ({ frames := 1, cells := 0, slots := 0, locals := 22 }) [.ref to, .int 1] [(to, .inr (8, [.ref v, .ref iv, .ref jv, .int k1, .int k2, .ref rd, .ref st, .ref ra, .ref og, .int ab, .int be, .int bds, .int nos, .int fls]))] (fun (r : Int32) w1 => ∃ u_ : Unit, (r = (-3)) ∧ w1 = [(to, .inr (8, [.ref v, .ref iv, .ref jv, .int k1, .int k2, .ref rd, .ref st, .ref ra, .ref og, .int ab, .int be, .int bds, .int (nos + 1), .int fls]))]) := by
  refine MI.mk (by decide) (Nat.le_of_ble_eq_true rfl) ?_
  intro p_ e_ s_ m_ ar_ be_ me_ cd_ A_ ls C hrt hW hl
  have hx := C.1; have hb := C.2.1; have hown := C.2.2.2.1; have ht := C.2.2.2.2.1
  replace hl : lv_has ls 2 [(0, .ref to), (1, .int 1)] := hl
  generalize hQ : MQ be_ _ ar_ s_ 0 0 A_ = Q
  refine lv_iload_n hx hb dX10_from_0 rfl (lv_at hl 1 rfl) ?_
  refine lv_iconst (v := 0) hx hb dX10_from_1 (by decide) ?_
  refine lv_iconst (v := 1) hx hb dX10_from_2 (by decide) ?_
  refine g_fi C hW [] rfl (g_runS (As := [.int 1, .int 0, .int 1]) (rest := []) (wc := []) C hW hl (c_X10_isWithin l G 1 0 1  _) k_ml_X10_73 q_X10_isWithin (by decide) [] rfl rfl rfl rfl (Nat.le_of_ble_eq_true rfl) dX10_from_3 (by decide)) (fun r_1308 er_1308 => ?_)
  clear hW; intro H locs hW
  refine lv_as (y := bI (iw 1 0 1)) er_1308 ?_
  clear er_1308 r_1308
  refine lv_if_ne (tgt := 16) hx hb dX10_from_6 (by decide) (fun c_1309 => ?_) (fun c_1309 => ?_)
  · refine lv_iload_n hx hb dX10_from_16 rfl (lv_at hl 1 rfl) ?_
    refine lv_if_ne (tgt := 30) hx hb dX10_from_17 (by decide) (fun c_1310 => ?_) (fun c_1310 => ?_)
    · refine lv_aload_n hx hb dX10_from_30 rfl (lv_at hl 0 rfl) ?_
      refine g_get (k := 4) (v := .int k2) C hW 0 rfl rfl jnX10 (by decide) k_fl_X10_26 rfl dX10_from_31 ?_
      refine lv_if_ne (tgt := 42) hx hb dX10_from_34 (by decide) (fun c_1311 => ?_) (fun c_1311 => ?_)
      · exfalso; exact c_1311 hk1
      · refine lv_aload_n hx hb dX10_from_37 rfl (lv_at hl 0 rfl) ?_
        refine g_fiw (wr := []) (ww := fun (u_ : Unit) => [(to, .inr (8, [.ref v, .ref iv, .ref jv, .int k1, .int k2, .ref rd, .ref st, .ref ra, .ref og, .int ab, .int be, .int bds, .int (nos + 1), .int fls]))]) (w2 := fun (u_ : Unit) => [(to, .inr (8, [.ref v, .ref iv, .ref jv, .int k1, .int k2, .ref rd, .ref st, .ref ra, .ref og, .int ab, .int be, .int bds, .int (nos + 1), .int fls]))]) C hW [0] [] [0] rfl rfl (by decide) (by decide) (by decide) (fun _ => rfl) (g_runV (As := []) (rest := []) (wc := [(to, .inr (8, [.ref v, .ref iv, .ref jv, .int k1, .int k2, .ref rd, .ref st, .ref ra, .ref og, .int ab, .int be, .int bds, .int nos, .int fls]))]) (q0 := 0) (ci := 8) C hW hl (c_X10_refuseNo l G v to iv jv rd st ra og k1 k2 ab be bds nos fls  _) k_ml_X10_167 q_X10_refuseNo (by decide) [0] rfl rfl rfl rfl rfl rfl (Nat.le_of_ble_eq_true rfl) dX10_from_38 (by decide)) (fun r_1312 _ er_1312 => ?_)
        clear hW H locs; intro H locs hW
        refine lv_as (y := (-3)) er_1312 ?_
        clear er_1312 r_1312
        replace hW : Wd G A_ s_.heap [(to, .inr (8, [.ref v, .ref iv, .ref jv, .int k1, .int k2, .ref rd, .ref st, .ref ra, .ref og, .int ab, .int be, .int bds, .int (nos + 1), .int fls]))] H locs := hW
        subst hQ
        exact g_iret (v := (-3)) C hW hrt ⟨(), by rfl, by rfl⟩ dX10_from_41
    · exfalso; exact absurd c_1310 (by decide)
  · exfalso; exact absurd c_1309 (by decide)
set_option maxHeartbeats 4000000 in
set_option maxRecDepth 100000 in
theorem c_X10_image_bad (l : Launch) (G : gT) (v : Nat) (to iv jv rd st ra og : Nat) (k1 k2 ab be bds nos fls : Int32) (x9 : Int32) (hbad : iw x9 0 1 = false) : MI l G yX10_image cX10_image 2 .int ({ frames := 1, cells := 0, slots := 0, locals := 22 }) [.ref to, .int x9] [(to, .inr (8, [.ref v, .ref iv, .ref jv, .int k1, .int k2, .ref rd, .ref st, .ref ra, .ref og, .int ab, .int be, .int bds, .int nos, .int fls]))] (fun (r : Int32) w1 => ∃ u_ : Unit, (r = (-2)) ∧ w1 = [(to, .inr (8, [.ref v, .ref iv, .ref jv, .int k1, .int k2, .ref rd, .ref st, .ref ra, .ref og, .int ab, .int be, .int (bds + 1), .int nos, .int fls]))]) := by
  refine MI.mk (by decide) (Nat.le_of_ble_eq_true rfl) ?_
  intro p_ e_ s_ m_ ar_ be_ me_ cd_ A_ ls C hrt hW hl
  have hx := C.1; have hb := C.2.1; have hown := C.2.2.2.1; have ht := C.2.2.2.2.1
  replace hl : lv_has ls 2 [(0, .ref to), (1, .int x9)] := hl
  generalize hQ : MQ be_ _ ar_ s_ 0 0 A_ = Q
  refine lv_iload_n hx hb dX10_image_0 rfl (lv_at hl 1 rfl) ?_
  refine lv_iconst (v := 0) hx hb dX10_image_1 (by decide) ?_
  refine lv_iconst (v := 1) hx hb dX10_image_2 (by decide) ?_
  refine g_fi C hW [] rfl (g_runS (As := [.int x9, .int 0, .int 1]) (rest := []) (wc := []) C hW hl (c_X10_isWithin l G x9 0 1  _) k_ml_X10_73 q_X10_isWithin (by decide) [] rfl rfl rfl rfl (Nat.le_of_ble_eq_true rfl) dX10_image_3 (by decide)) (fun r_1314 er_1314 => ?_)
  clear hW; intro H locs hW
  refine lv_as (y := bI (iw x9 0 1)) er_1314 ?_
  clear er_1314 r_1314
  refine lv_if_ne (tgt := 16) hx hb dX10_image_6 (by decide) (fun c_1315 => ?_) (fun c_1315 => ?_)
  · exfalso; simp [bI_ne.mp c_1315, if_true, if_false, reduceIte, Bool.false_eq_true] at hbad
  · refine lv_aload_n hx hb dX10_image_9 rfl (lv_at hl 0 rfl) ?_
    refine lv_bipush (v := (-2)) hx hb dX10_image_10 (by decide) ?_
    refine g_fiw (wr := []) (ww := fun (u_ : Unit) => [(to, .inr (8, [.ref v, .ref iv, .ref jv, .int k1, .int k2, .ref rd, .ref st, .ref ra, .ref og, .int ab, .int be, .int (bds + 1), .int nos, .int fls]))]) (w2 := fun (u_ : Unit) => [(to, .inr (8, [.ref v, .ref iv, .ref jv, .int k1, .int k2, .ref rd, .ref st, .ref ra, .ref og, .int ab, .int be, .int (bds + 1), .int nos, .int fls]))]) C hW [0] [] [0] rfl rfl (by decide) (by decide) (by decide) (fun _ => rfl) (g_runV (As := [.int (-2)]) (rest := []) (wc := [(to, .inr (8, [.ref v, .ref iv, .ref jv, .int k1, .int k2, .ref rd, .ref st, .ref ra, .ref og, .int ab, .int be, .int bds, .int nos, .int fls]))]) (q0 := 0) (ci := 8) C hW hl (c_X10_refuseBad l G v to iv jv rd st ra og k1 k2 ab be bds nos fls (-2)  _) k_ml_X10_77 q_X10_refuseBad (by decide) [0] rfl rfl rfl rfl rfl rfl (Nat.le_of_ble_eq_true rfl) dX10_image_12 (by decide)) (fun r_1316 _ er_1316 => ?_)
    clear hW H locs; intro H locs hW
    refine lv_as (y := (-2)) er_1316 ?_
    clear er_1316 r_1316
    replace hW : Wd G A_ s_.heap [(to, .inr (8, [.ref v, .ref iv, .ref jv, .int k1, .int k2, .ref rd, .ref st, .ref ra, .ref og, .int ab, .int be, .int (bds + 1), .int nos, .int fls]))] H locs := hW
    subst hQ
    exact g_iret (v := (-2)) C hW hrt ⟨(), by rfl, by rfl⟩ dX10_image_15
set_option maxHeartbeats 4000000 in
set_option maxRecDepth 100000 in
theorem c_X10_from_bad (l : Launch) (G : gT) (v : Nat) (to iv jv rd st ra og : Nat) (k1 k2 ab be bds nos fls : Int32) (x9 : Int32) (hbad : iw x9 0 1 = false) : MI l G yX10_from cX10_from 2 .int ({ frames := 1, cells := 0, slots := 0, locals := 22 }) [.ref to, .int x9] [(to, .inr (8, [.ref v, .ref iv, .ref jv, .int k1, .int k2, .ref rd, .ref st, .ref ra, .ref og, .int ab, .int be, .int bds, .int nos, .int fls]))] (fun (r : Int32) w1 => ∃ u_ : Unit, (r = (-2)) ∧ w1 = [(to, .inr (8, [.ref v, .ref iv, .ref jv, .int k1, .int k2, .ref rd, .ref st, .ref ra, .ref og, .int ab, .int be, .int (bds + 1), .int nos, .int fls]))]) := by
  refine MI.mk (by decide) (Nat.le_of_ble_eq_true rfl) ?_
  intro p_ e_ s_ m_ ar_ be_ me_ cd_ A_ ls C hrt hW hl
  have hx := C.1; have hb := C.2.1; have hown := C.2.2.2.1; have ht := C.2.2.2.2.1
  replace hl : lv_has ls 2 [(0, .ref to), (1, .int x9)] := hl
  generalize hQ : MQ be_ _ ar_ s_ 0 0 A_ = Q
  refine lv_iload_n hx hb dX10_from_0 rfl (lv_at hl 1 rfl) ?_
  refine lv_iconst (v := 0) hx hb dX10_from_1 (by decide) ?_
  refine lv_iconst (v := 1) hx hb dX10_from_2 (by decide) ?_
  refine g_fi C hW [] rfl (g_runS (As := [.int x9, .int 0, .int 1]) (rest := []) (wc := []) C hW hl (c_X10_isWithin l G x9 0 1  _) k_ml_X10_73 q_X10_isWithin (by decide) [] rfl rfl rfl rfl (Nat.le_of_ble_eq_true rfl) dX10_from_3 (by decide)) (fun r_1318 er_1318 => ?_)
  clear hW; intro H locs hW
  refine lv_as (y := bI (iw x9 0 1)) er_1318 ?_
  clear er_1318 r_1318
  refine lv_if_ne (tgt := 16) hx hb dX10_from_6 (by decide) (fun c_1319 => ?_) (fun c_1319 => ?_)
  · exfalso; simp [bI_ne.mp c_1319, if_true, if_false, reduceIte, Bool.false_eq_true] at hbad
  · refine lv_aload_n hx hb dX10_from_9 rfl (lv_at hl 0 rfl) ?_
    refine lv_bipush (v := (-2)) hx hb dX10_from_10 (by decide) ?_
    refine g_fiw (wr := []) (ww := fun (u_ : Unit) => [(to, .inr (8, [.ref v, .ref iv, .ref jv, .int k1, .int k2, .ref rd, .ref st, .ref ra, .ref og, .int ab, .int be, .int (bds + 1), .int nos, .int fls]))]) (w2 := fun (u_ : Unit) => [(to, .inr (8, [.ref v, .ref iv, .ref jv, .int k1, .int k2, .ref rd, .ref st, .ref ra, .ref og, .int ab, .int be, .int (bds + 1), .int nos, .int fls]))]) C hW [0] [] [0] rfl rfl (by decide) (by decide) (by decide) (fun _ => rfl) (g_runV (As := [.int (-2)]) (rest := []) (wc := [(to, .inr (8, [.ref v, .ref iv, .ref jv, .int k1, .int k2, .ref rd, .ref st, .ref ra, .ref og, .int ab, .int be, .int bds, .int nos, .int fls]))]) (q0 := 0) (ci := 8) C hW hl (c_X10_refuseBad l G v to iv jv rd st ra og k1 k2 ab be bds nos fls (-2)  _) k_ml_X10_77 q_X10_refuseBad (by decide) [0] rfl rfl rfl rfl rfl rfl (Nat.le_of_ble_eq_true rfl) dX10_from_12 (by decide)) (fun r_1320 _ er_1320 => ?_)
    clear hW H locs; intro H locs hW
    refine lv_as (y := (-2)) er_1320 ?_
    clear er_1320 r_1320
    replace hW : Wd G A_ s_.heap [(to, .inr (8, [.ref v, .ref iv, .ref jv, .int k1, .int k2, .ref rd, .ref st, .ref ra, .ref og, .int ab, .int be, .int (bds + 1), .int nos, .int fls]))] H locs := hW
    subst hQ
    exact g_iret (v := (-2)) C hW hrt ⟨(), by rfl, by rfl⟩ dX10_from_15
