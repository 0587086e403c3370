set_option maxHeartbeats 4000000 in
set_option maxRecDepth 100000 in
theorem c_X10_strokesOver (l : Launch) (G : gT) (v vw vc vp vs vn vm vu : Nat) (wide : Int32) (vpc n : Nat) (pf : Nat → Int32) (ck wd : Nat → Int32) (to iv jv rd st ra og : Nat) (k1 k2 ab be bds nos fls : Int32) (hr m9 : Nat) (sd : Int32) (hn : n ≤ 7) (eh : ck 6 = nI hr) (hh : hr < 10000) (hP : okP n pf) (hWd : okW wd) (hg : Rg (ck 1) 1 9) (hm9 : m9 ≤ 60) : MI l G yX10_strokesOver cX10_strokesOver 10 .int ({ frames := 4, cells := 0, slots := 0, locals := 93 }) [.ref to, .int sd, .int (nI m9)] [(to, .inr (8, [.ref v, .ref iv, .ref jv, .int k1, .int k2, .ref rd, .ref st, .ref ra, .ref og, .int ab, .int be, .int bds, .int nos, .int fls])), (v, .inr (7, [.int wide, .ref vw, .ref vc, .ref vp, .ref vs, .ref vn, .ref vm, .ref vu])), (vp, .inr (4, [.int 7, .int 3, .ref vpc, .int (nI n)])), (vpc, .inl (G.2.1, 21, .inl pf)), (vc, .inl (G.2.1, 7, .inl ck)), (vw, .inl (G.2.1, 6, .inl wd))] (fun (r : Int32) w1 => (r = (ceS wide ck wd pf n hr sd m9).2.2) ∧ w1 = [(to, .inr (8, [.ref v, .ref iv, .ref jv, .int k1, .int k2, .ref rd, .ref st, .ref ra, .ref og, .int ab, .int be, .int bds, .int nos, .int fls])), (v, .inr (7, [.int wide, .ref vw, .ref vc, .ref vp, .ref vs, .ref vn, .ref vm, .ref vu])), (vp, .inr (4, [.int 7, .int 3, .ref vpc, .int (nI n)])), (vpc, .inl (G.2.1, 21, .inl pf)), (vc, .inl (G.2.1, 7, .inl ck)), (vw, .inl (G.2.1, 6, .inl wd))]) := by
  refine MI.mk (by decide) (Nat.le_of_ble_eq_true rfl) ?_
  intro p_ e_ s_ m_ ar_ be_ me_ cd_ A_ ls C hrt hW hl
  have hx := C.1; have hb := C.2.1; have hown := C.2.2.2.1; have ht := C.2.2.2.2.1
  replace hl : lv_has ls 10 [(0, .ref to), (1, .int sd), (2, .int (nI m9))] := hl
  generalize hQ : MQ be_ _ ar_ s_ 0 0 A_ = Q
  refine lv_iload_n hx hb dX10_strokesOver_0 rfl (lv_at hl 1 rfl) ?_
  refine lv_i2l hx hb dX10_strokesOver_1 rfl ?_
  refine lv_lstore_n (lv' := [(3, .long sd.toInt64), (0, .ref to), (1, .int sd), (2, .int (nI m9))]) hx hb dX10_strokesOver_2 rfl hl (by decide) rfl ?_
  clear hl ls; intro ls hl
  refine lv_aload_n hx hb dX10_strokesOver_3 rfl (lv_at hl 1 rfl) ?_
  refine g_get (k := 0) (v := .ref v) C hW 0 rfl rfl jnX10 (by decide) k_fl_X10_10 rfl dX10_strokesOver_4 ?_
  refine g_fi C hW [1, 4] rfl (g_runV (As := []) (rest := []) (wc := [(v, .inr (7, [.int wide, .ref vw, .ref vc, .ref vp, .ref vs, .ref vn, .ref vm, .ref vu])), (vc, .inl (G.2.1, 7, .inl ck))]) (q0 := 0) (ci := 7) C hW hl (c_X9_hill l G v vw vc vp vs vn vm vu wide ck  _) k_ml_X10_200 q_X9_hill (by decide) [1, 4] rfl rfl rfl rfl rfl rfl (Nat.le_of_ble_eq_true rfl) dX10_strokesOver_7 (by decide)) (fun r_1322 er_1322 => ?_)
  clear hW; intro H locs hW
  refine lv_as (y := ck 2) er_1322 ?_
  clear er_1322 r_1322
  refine lv_istore (lv' := [(5, .int (ck 2)), (3, .long sd.toInt64), (0, .ref to), (1, .int sd), (2, .int (nI m9))]) hx hb dX10_strokesOver_10 hl (by decide) rfl ?_
  clear hl ls; intro ls hl
  refine lv_aload_n hx hb dX10_strokesOver_12 rfl (lv_at hl 2 rfl) ?_
  refine g_get (k := 0) (v := .ref v) C hW 0 rfl rfl jnX10 (by decide) k_fl_X10_10 rfl dX10_strokesOver_13 ?_
  refine g_fi C hW [1, 4] rfl (g_runV (As := []) (rest := []) (wc := [(v, .inr (7, [.int wide, .ref vw, .ref vc, .ref vp, .ref vs, .ref vn, .ref vm, .ref vu])), (vc, .inl (G.2.1, 7, .inl ck))]) (q0 := 0) (ci := 7) C hW hl (c_X9_isUp l G v vw vc vp vs vn vm vu wide ck  _) k_ml_X10_176 q_X9_isUp (by decide) [1, 4] rfl rfl rfl rfl rfl rfl (Nat.le_of_ble_eq_true rfl) dX10_strokesOver_16 (by decide)) (fun r_1323 er_1323 => ?_)
  clear hW H locs; intro H locs hW
  refine lv_as (y := bI (decide (ck 3 = 1))) er_1323 ?_
  clear er_1323 r_1323
  refine lv_istore (lv' := [(6, .int (bI (decide (ck 3 = 1)))), (5, .int (ck 2)), (3, .long sd.toInt64), (0, .ref to), (1, .int sd), (2, .int (nI m9))]) hx hb dX10_strokesOver_19 hl (by decide) rfl ?_
  clear hl ls; intro ls hl
  refine lv_iconst (v := 0) hx hb dX10_strokesOver_21 (by decide) ?_
  refine lv_istore (lv' := [(7, .int 0), (6, .int (bI (decide (ck 3 = 1)))), (5, .int (ck 2)), (3, .long sd.toInt64), (0, .ref to), (1, .int sd), (2, .int (nI m9))]) hx hb dX10_strokesOver_22 hl (by decide) rfl ?_
  clear hl ls; intro ls hl
  refine lv_iconst (v := 0) hx hb dX10_strokesOver_24 (by decide) ?_
  refine lv_istore (lv' := [(8, .int 0), (7, .int 0), (6, .int (bI (decide (ck 3 = 1)))), (5, .int (ck 2)), (3, .long sd.toInt64), (0, .ref to), (1, .int sd), (2, .int (nI m9))]) hx hb dX10_strokesOver_25 hl (by decide) rfl ?_
  clear hl ls; intro ls hl
  have K_1324 : ∀ (n_ : Nat) (j : Nat) (x_1325 : Int32) (x_1326 : Int32) (x_1327 : Int32) (x_1328 : Int32) (x_1329 : Int64) (_ : x_1325 = nI j) (_ : x_1326 = (ceS wide ck wd pf n hr sd j).2.2) (_ : x_1327 = (ceS wide ck wd pf n hr sd j).2.1) (_ : x_1328 = (ceS wide ck wd pf n hr sd j).1) (_ : x_1329 = ceX sd j) (_ : j ≤ m9) (_ : m9 - j < n_) (H : Heap) (locs : List Loc) (ls : Array Slot), Wd G A_ s_.heap [(to, .inr (8, [.ref v, .ref iv, .ref jv, .int k1, .int k2, .ref rd, .ref st, .ref ra, .ref og, .int ab, .int be, .int bds, .int nos, .int fls])), (v, .inr (7, [.int wide, .ref vw, .ref vc, .ref vp, .ref vs, .ref vn, .ref vm, .ref vu])), (vp, .inr (4, [.int 7, .int 3, .ref vpc, .int (nI n)])), (vpc, .inl (G.2.1, 21, .inl pf)), (vc, .inl (G.2.1, 7, .inl ck)), (vw, .inl (G.2.1, 6, .inl wd))] H locs → lv_has ls 10 [(8, .int x_1325), (7, .int x_1326), (6, .int x_1327), (5, .int x_1328), (3, .long x_1329), (0, .ref to), (1, .int sd), (2, .int (nI m9))] → W p_ l e_ ({ frames := 4, cells := 0, slots := 0, locals := 93 }) s_ m_ ar_ be_ me_ cd_ H locs 0 0 Q (F0 m_ 27 ls []) := by
    intro n_
    induction n_ with
    | zero => intro j x_1325 x_1326 x_1327 x_1328 x_1329 ex_1325 ex_1326 ex_1327 ex_1328 ex_1329 hj hm_; exact absurd hm_ (Nat.not_lt_zero _)
    | succ n_ ihK_1324 =>
      intro j x_1325 x_1326 x_1327 x_1328 x_1329 ex_1325 ex_1326 ex_1327 ex_1328 ex_1329 hj hm_ H locs ls hW hl
      subst ex_1325
      subst ex_1326
      subst ex_1327
      subst ex_1328
      subst ex_1329
      refine lv_iload hx hb dX10_strokesOver_27 (lv_at hl 0 rfl) ?_
      refine lv_iload_n hx hb dX10_strokesOver_29 rfl (lv_at hl 7 rfl) ?_
      refine lv_icmp_ge (tgt := 134) hx hb dX10_strokesOver_30 (by decide) (fun c_1330 => ?_) (fun c_1330 => ?_)
      · replace c_1330 := Int32.not_lt.mpr c_1330
        have c_1330n : ¬ j < m9 := fun q => c_1330 ((nI_ltI (a := j) (b := m9) (by omega) (by omega)).mpr q)
        refine lv_iload hx hb dX10_strokesOver_134 (lv_at hl 1 rfl) ?_
        subst hQ
        exact g_iret (v := ((ceS wide ck wd pf n hr sd j).2.2)) C hW hrt ⟨by (rw [show j = m9 by omega]), rfl⟩ dX10_strokesOver_136
      · replace c_1330 := Int32.not_le.mp c_1330
        have c_1330n : j < m9 := (nI_ltI (a := j) (b := m9) (by omega) (by omega)).mp c_1330
        refine lv_lload_n hx hb dX10_strokesOver_33 rfl (lv_at hl 4 rfl) ?_
        refine lv_ldc2 (v := 1103515245) hx hb hown (ht _ k_cg_X10_331) dX10_strokesOver_34 ?_
        refine lv_lmul hx hb dX10_strokesOver_37 ?_
        refine lv_ldc2 (v := 12345) hx hb hown (ht _ k_cg_X10_333) dX10_strokesOver_38 ?_
        refine lv_ladd hx hb dX10_strokesOver_41 ?_
        refine lv_ldc2 (v := 2147483648) hx hb hown (ht _ k_cg_X10_335) dX10_strokesOver_42 ?_
        refine lv_lrem hx hb dX10_strokesOver_45 (by decide) ?_
        refine lv_asl (y := ceX sd (j + 1)) (rfl) ?_
        refine lv_lstore_n (lv' := [(3, .long (ceX sd (j + 1))), (8, .int (nI j)), (7, .int ((ceS wide ck wd pf n hr sd j).2.2)), (6, .int ((ceS wide ck wd pf n hr sd j).2.1)), (5, .int ((ceS wide ck wd pf n hr sd j).1)), (0, .ref to), (1, .int sd), (2, .int (nI m9))]) hx hb dX10_strokesOver_46 rfl hl (by decide) rfl ?_
        clear hl ls; intro ls hl
        refine lv_iload hx hb dX10_strokesOver_47 (lv_at hl 3 rfl) ?_
        have J_1335 : ∀ (x_1333 : Int32) (_ : x_1333 = (if ((ceS wide ck wd pf n hr sd j).2.1) = 0 then 1 else (ceS wide ck wd pf n hr sd j).2.1)) (x_1334 : Int32) (_ : x_1334 = (if ((ceS wide ck wd pf n hr sd j).2.1) = 0 then cpH (ceX sd (j + 1)) else (ceS wide ck wd pf n hr sd j).1)), ∀ (H : Heap) (locs : List Loc) (ls : Array Slot), Wd G A_ s_.heap [(to, .inr (8, [.ref v, .ref iv, .ref jv, .int k1, .int k2, .ref rd, .ref st, .ref ra, .ref og, .int ab, .int be, .int bds, .int nos, .int fls])), (v, .inr (7, [.int wide, .ref vw, .ref vc, .ref vp, .ref vs, .ref vn, .ref vm, .ref vu])), (vp, .inr (4, [.int 7, .int 3, .ref vpc, .int (nI n)])), (vpc, .inl (G.2.1, 21, .inl pf)), (vc, .inl (G.2.1, 7, .inl ck)), (vw, .inl (G.2.1, 6, .inl wd))] H locs → lv_has ls 10 [(6, .int x_1333), (5, .int x_1334), (3, .long (ceX sd (j + 1))), (8, .int (nI j)), (7, .int ((ceS wide ck wd pf n hr sd j).2.2)), (0, .ref to), (1, .int sd), (2, .int (nI m9))] → W p_ l e_ ({ frames := 4, cells := 0, slots := 0, locals := 93 }) s_ m_ ar_ be_ me_ cd_ H locs 0 0 Q (F0 m_ 67 ls []) := by
          intro x_1333 ex_1333 x_1334 ex_1334 H locs ls hW hl
          refine lv_lload_n hx hb dX10_strokesOver_67 rfl (lv_at hl 2 rfl) ?_
          refine lv_ldc2 (v := 65536) hx hb hown (ht _ k_cg_X10_341) dX10_strokesOver_68 ?_
          refine lv_ldiv hx hb dX10_strokesOver_71 (by decide) ?_
          refine lv_ldc2 (v := 7) hx hb hown (ht _ k_cg_X10_343) dX10_strokesOver_72 ?_
          refine lv_lrem hx hb dX10_strokesOver_75 (by decide) ?_
          refine lv_l2i hx hb dX10_strokesOver_76 rfl ?_
          refine lv_as (y := cpP (ceX sd (j + 1))) (rfl) ?_
          refine lv_istore (lv' := [(9, .int (cpP (ceX sd (j + 1)))), (6, .int x_1333), (5, .int x_1334), (3, .long (ceX sd (j + 1))), (8, .int (nI j)), (7, .int ((ceS wide ck wd pf n hr sd j).2.2)), (0, .ref to), (1, .int sd), (2, .int (nI m9))]) hx hb dX10_strokesOver_77 hl (by decide) rfl ?_
          clear hl ls; intro ls hl
          refine lv_aload_n hx hb dX10_strokesOver_79 rfl (lv_at hl 6 rfl) ?_
          refine g_get (k := 0) (v := .ref v) C hW 0 rfl rfl jnX10 (by decide) k_fl_X10_10 rfl dX10_strokesOver_80 ?_
          refine lv_iload hx hb dX10_strokesOver_83 (lv_at hl 0 rfl) ?_
          refine lv_iload hx hb dX10_strokesOver_85 (lv_at hl 2 rfl) ?_
          refine g_fi C hW [1, 2, 3] rfl (g_runV (As := [.int (cpP (ceX sd (j + 1))), .int x_1334]) (rest := []) (wc := [(v, .inr (7, [.int wide, .ref vw, .ref vc, .ref vp, .ref vs, .ref vn, .ref vm, .ref vu])), (vp, .inr (4, [.int 7, .int 3, .ref vpc, .int (nI n)])), (vpc, .inl (G.2.1, 21, .inl pf))]) (q0 := 0) (ci := 7) C hW hl (c_X9_isOn l G v vw vc vp vs vn vm vu wide vpc n pf (cpP (ceX sd (j + 1))) x_1334 (by first | assumption | omega) _) k_ml_X10_282 q_X9_isOn (by decide) [1, 2, 3] rfl rfl rfl rfl rfl rfl (Nat.le_of_ble_eq_true rfl) dX10_strokesOver_87 (by decide)) (fun r_1336 er_1336 => ?_)
          clear hW H locs; intro H locs hW
          refine lv_as (y := bI (onb n pf (cpP (ceX sd (j + 1))) x_1334)) er_1336 ?_
          clear er_1336 r_1336
          have J_1345 : ∀ (x_1342 : Int32) (_ : x_1342 = (if (bI (onb n pf (cpP (ceX sd (j + 1))) x_1334)) = 0 then x_1333 else bI (ceC wide ck wd pf hr j (cpP (ceX sd (j + 1)))))) (x_1343 : Int32) (_ : x_1343 = (if (bI (onb n pf (cpP (ceX sd (j + 1))) x_1334)) = 0 then x_1334 else (if (bI (ceC wide ck wd pf hr j (cpP (ceX sd (j + 1))))) = 0 then x_1334 else 1 - x_1334))) (x_1344 : Int32) (_ : x_1344 = (if (bI (onb n pf (cpP (ceX sd (j + 1))) x_1334)) = 0 then (ceS wide ck wd pf n hr sd j).2.2 else (if (bI (ceC wide ck wd pf hr j (cpP (ceX sd (j + 1))))) = 0 then (ceS wide ck wd pf n hr sd j).2.2 else ((ceS wide ck wd pf n hr sd j).2.2) + 1))), ∀ (H : Heap) (locs : List Loc) (ls : Array Slot), Wd G A_ s_.heap [(to, .inr (8, [.ref v, .ref iv, .ref jv, .int k1, .int k2, .ref rd, .ref st, .ref ra, .ref og, .int ab, .int be, .int bds, .int nos, .int fls])), (v, .inr (7, [.int wide, .ref vw, .ref vc, .ref vp, .ref vs, .ref vn, .ref vm, .ref vu])), (vp, .inr (4, [.int 7, .int 3, .ref vpc, .int (nI n)])), (vpc, .inl (G.2.1, 21, .inl pf)), (vc, .inl (G.2.1, 7, .inl ck)), (vw, .inl (G.2.1, 6, .inl wd))] H locs → lv_has ls 10 [(9, .int (cpP (ceX sd (j + 1)))), (6, .int x_1342), (5, .int x_1343), (3, .long (ceX sd (j + 1))), (8, .int (nI j)), (7, .int x_1344), (0, .ref to), (1, .int sd), (2, .int (nI m9))] → W p_ l e_ ({ frames := 4, cells := 0, slots := 0, locals := 93 }) s_ m_ ar_ be_ me_ cd_ H locs 0 0 Q (F0 m_ 128 ls []) := by
            intro x_1342 ex_1342 x_1343 ex_1343 x_1344 ex_1344 H locs ls hW hl
            refine lv_iinc (v := (nI j) + 1) (lv' := [(8, .int ((nI j) + 1)), (9, .int (cpP (ceX sd (j + 1)))), (6, .int x_1342), (5, .int x_1343), (3, .long (ceX sd (j + 1))), (7, .int x_1344), (0, .ref to), (1, .int sd), (2, .int (nI m9))]) hx hb dX10_strokesOver_128 hl (k := 4) rfl rfl (by decide) rfl ?_
            clear hl ls; intro ls hl
            refine lv_goto (tgt := 27) hx hb dX10_strokesOver_131 (by decide) ?_
            exact ihK_1324 (j + 1) ((nI j) + 1) x_1344 x_1342 x_1343 (ceX sd (j + 1)) (by exact nI_1 _) (by (simp only [ex_1333, ex_1334, ex_1342, ex_1343, ex_1344]; exact rfl)) (by (simp only [ex_1333, ex_1334, ex_1342, ex_1343, ex_1344]; exact rfl)) (by (simp only [ex_1333, ex_1334, ex_1342, ex_1343, ex_1344]; exact rfl)) (by exact rfl) (by first | omega | assumption | (simp; done)) (by omega) _ _ _ hW (lv_sub hl [0, 5, 2, 3, 4, 6, 7, 8] rfl)
          refine lv_if_eq (tgt := 128) hx hb dX10_strokesOver_90 (by decide) (fun c_1337 => ?_) (fun c_1337 => ?_)
          · exact J_1345 x_1333 (by first | (simp only [c_1337, if_true, if_false, reduceIte]; done) | (simp [c_1337]; done) | rfl) x_1334 (by first | (simp only [c_1337, if_true, if_false, reduceIte]; done) | (simp [c_1337]; done) | rfl) ((ceS wide ck wd pf n hr sd j).2.2) (by first | (simp only [c_1337, if_true, if_false, reduceIte]; done) | (simp [c_1337]; done) | rfl) _ _ _ hW (lv_sub hl [0, 1, 2, 3, 4, 5, 6, 7, 8] rfl)
          · obtain ⟨k, hk, ek⟩ := okp_ex (on_ok (bI_ne.mp c_1337))
            refine lv_aload_n hx hb dX10_strokesOver_93 rfl (lv_at hl 6 rfl) ?_
            refine g_get (k := 0) (v := .ref v) C hW 0 rfl rfl jnX10 (by decide) k_fl_X10_10 rfl dX10_strokesOver_94 ?_
            refine lv_iload hx hb dX10_strokesOver_97 (lv_at hl 0 rfl) ?_
            refine lv_as (y := nI k) (ek) ?_
            refine lv_aload_n hx hb dX10_strokesOver_99 rfl (lv_at hl 6 rfl) ?_
            refine g_get (k := 0) (v := .ref v) C hW 0 rfl rfl jnX10 (by decide) k_fl_X10_10 rfl dX10_strokesOver_100 ?_
            refine g_fi C hW [1, 4] rfl (g_runV (As := []) (rest := [.int (nI k), .ref v]) (wc := [(v, .inr (7, [.int wide, .ref vw, .ref vc, .ref vp, .ref vs, .ref vn, .ref vm, .ref vu])), (vc, .inl (G.2.1, 7, .inl ck))]) (q0 := 0) (ci := 7) C hW hl (c_X9_hour l G v vw vc vp vs vn vm vu wide ck  _) k_ml_X10_192 q_X9_hour (by decide) [1, 4] rfl rfl rfl rfl rfl rfl (Nat.le_of_ble_eq_true rfl) dX10_strokesOver_103 (by decide)) (fun r_1346 er_1346 => ?_)
            clear hW H locs; intro H locs hW
            refine lv_as (y := ck 6) er_1346 ?_
            clear er_1346 r_1346
            refine lv_as (y := nI hr) (eh) ?_
            refine lv_iload hx hb dX10_strokesOver_106 (lv_at hl 4 rfl) ?_
            refine lv_iadd hx hb dX10_strokesOver_108 ?_
            refine lv_as (y := nI (hr + j)) (nI_add _ _) ?_
            refine g_fi C hW [1, 2, 3, 4, 5] rfl (g_runV (As := [.int (nI k), .int (nI (hr + j))]) (rest := []) (wc := [(v, .inr (7, [.int wide, .ref vw, .ref vc, .ref vp, .ref vs, .ref vn, .ref vm, .ref vu])), (vp, .inr (4, [.int 7, .int 3, .ref vpc, .int (nI n)])), (vpc, .inl (G.2.1, 21, .inl pf)), (vc, .inl (G.2.1, 7, .inl ck)), (vw, .inl (G.2.1, 6, .inl wd))]) (q0 := 0) (ci := 7) C hW hl (c_X9_carries l G v vw vc vp vs vn vm vu wide vpc n pf ck wd k (hr + j) (by first | assumption | omega) (by first | assumption | omega) (by omega) (by assumption) (by assumption) (by assumption) _) k_ml_X10_286 q_X9_carries (by decide) [1, 2, 3, 4, 5] rfl rfl rfl rfl rfl rfl (Nat.le_of_ble_eq_true rfl) dX10_strokesOver_109 (by decide)) (fun r_1347 er_1347 => ?_)
            clear hW H locs; intro H locs hW
            refine lv_as (y := bI (decide (wide ≤ rch ck wd pf k (hr + j) (pf (k * 3 + 1)) (ck 1)))) er_1347 ?_
            clear er_1347 r_1347
            refine lv_as (y := bI (ceC wide ck wd pf hr j (cpP (ceX sd (j + 1))))) (by rw [ceC, ek, nI_clamp (by omega)]) ?_
            refine lv_istore (lv' := [(6, .int (bI (ceC wide ck wd pf hr j (cpP (ceX sd (j + 1)))))), (9, .int (cpP (ceX sd (j + 1)))), (5, .int x_1334), (3, .long (ceX sd (j + 1))), (8, .int (nI j)), (7, .int ((ceS wide ck wd pf n hr sd j).2.2)), (0, .ref to), (1, .int sd), (2, .int (nI m9))]) hx hb dX10_strokesOver_112 hl (by decide) rfl ?_
            clear hl ls; intro ls hl
            refine lv_iload hx hb dX10_strokesOver_114 (lv_at hl 0 rfl) ?_
            refine lv_if_eq (tgt := 128) hx hb dX10_strokesOver_116 (by decide) (fun c_1348 => ?_) (fun c_1348 => ?_)
            · exact J_1345 (bI (ceC wide ck wd pf hr j (cpP (ceX sd (j + 1))))) (by first | (simp only [c_1337, c_1348, if_true, if_false, reduceIte]; done) | (simp [c_1337, c_1348]; done) | rfl) x_1334 (by first | (simp only [c_1337, c_1348, if_true, if_false, reduceIte]; done) | (simp [c_1337, c_1348]; done) | rfl) ((ceS wide ck wd pf n hr sd j).2.2) (by first | (simp only [c_1337, c_1348, if_true, if_false, reduceIte]; done) | (simp [c_1337, c_1348]; done) | rfl) _ _ _ hW (lv_sub hl [1, 0, 2, 3, 4, 5, 6, 7, 8] rfl)
            · refine lv_iconst (v := 1) hx hb dX10_strokesOver_119 (by decide) ?_
              refine lv_iload hx hb dX10_strokesOver_120 (lv_at hl 2 rfl) ?_
              refine lv_isub hx hb dX10_strokesOver_122 ?_
              refine lv_istore (lv' := [(5, .int (1 - x_1334)), (6, .int (bI (ceC wide ck wd pf hr j (cpP (ceX sd (j + 1)))))), (9, .int (cpP (ceX sd (j + 1)))), (3, .long (ceX sd (j + 1))), (8, .int (nI j)), (7, .int ((ceS wide ck wd pf n hr sd j).2.2)), (0, .ref to), (1, .int sd), (2, .int (nI m9))]) hx hb dX10_strokesOver_123 hl (by decide) rfl ?_
              clear hl ls; intro ls hl
              refine lv_iinc (v := ((ceS wide ck wd pf n hr sd j).2.2) + 1) (lv' := [(7, .int (((ceS wide ck wd pf n hr sd j).2.2) + 1)), (5, .int (1 - x_1334)), (6, .int (bI (ceC wide ck wd pf hr j (cpP (ceX sd (j + 1)))))), (9, .int (cpP (ceX sd (j + 1)))), (3, .long (ceX sd (j + 1))), (8, .int (nI j)), (0, .ref to), (1, .int sd), (2, .int (nI m9))]) hx hb dX10_strokesOver_125 hl (k := 5) rfl rfl (by decide) rfl ?_
              clear hl ls; intro ls hl
              exact J_1345 (bI (ceC wide ck wd pf hr j (cpP (ceX sd (j + 1))))) (by first | (simp only [c_1337, c_1348, if_true, if_false, reduceIte]; done) | (simp [c_1337, c_1348]; done) | rfl) (1 - x_1334) (by first | (simp only [c_1337, c_1348, if_true, if_false, reduceIte]; done) | (simp [c_1337, c_1348]; done) | rfl) (((ceS wide ck wd pf n hr sd j).2.2) + 1) (by first | (simp only [c_1337, c_1348, if_true, if_false, reduceIte]; done) | (simp [c_1337, c_1348]; done) | rfl) _ _ _ hW (lv_sub hl [3, 2, 1, 4, 5, 0, 6, 7, 8] rfl)
        refine lv_if_ne (tgt := 67) hx hb dX10_strokesOver_49 (by decide) (fun c_1332 => ?_) (fun c_1332 => ?_)
        · exact J_1335 ((ceS wide ck wd pf n hr sd j).2.1) (by first | (simp only [c_1332, if_true, if_false, reduceIte]; done) | (simp [c_1332]; done) | rfl) ((ceS wide ck wd pf n hr sd j).1) (by first | (simp only [c_1332, if_true, if_false, reduceIte]; done) | (simp [c_1332]; done) | rfl) _ _ _ hW (lv_sub hl [3, 4, 0, 1, 2, 5, 6, 7] rfl)
        · refine lv_lload_n hx hb dX10_strokesOver_52 rfl (lv_at hl 0 rfl) ?_
          refine lv_ldc2 (v := 1048576) hx hb hown (ht _ k_cg_X10_337) dX10_strokesOver_53 ?_
          refine lv_ldiv hx hb dX10_strokesOver_56 (by decide) ?_
          refine lv_ldc2 (v := 2) hx hb hown (ht _ k_cg_X10_339) dX10_strokesOver_57 ?_
          refine lv_lrem hx hb dX10_strokesOver_60 (by decide) ?_
          refine lv_l2i hx hb dX10_strokesOver_61 rfl ?_
          refine lv_as (y := cpH (ceX sd (j + 1))) (rfl) ?_
          refine lv_istore (lv' := [(5, .int (cpH (ceX sd (j + 1)))), (3, .long (ceX sd (j + 1))), (8, .int (nI j)), (7, .int ((ceS wide ck wd pf n hr sd j).2.2)), (6, .int ((ceS wide ck wd pf n hr sd j).2.1)), (0, .ref to), (1, .int sd), (2, .int (nI m9))]) hx hb dX10_strokesOver_62 hl (by decide) rfl ?_
          clear hl ls; intro ls hl
          refine lv_iconst (v := 1) hx hb dX10_strokesOver_64 (by decide) ?_
          refine lv_istore (lv' := [(6, .int 1), (5, .int (cpH (ceX sd (j + 1)))), (3, .long (ceX sd (j + 1))), (8, .int (nI j)), (7, .int ((ceS wide ck wd pf n hr sd j).2.2)), (0, .ref to), (1, .int sd), (2, .int (nI m9))]) hx hb dX10_strokesOver_65 hl (by decide) rfl ?_
          clear hl ls; intro ls hl
          exact J_1335 1 (by first | (simp only [c_1332, if_true, if_false, reduceIte]; done) | (simp [c_1332]; done) | rfl) (cpH (ceX sd (j + 1))) (by first | (simp only [c_1332, if_true, if_false, reduceIte]; done) | (simp [c_1332]; done) | rfl) _ _ _ hW (lv_sub hl [0, 1, 2, 3, 4, 5, 6, 7] rfl)
  exact K_1324 _ 0 0 0 (bI (decide (ck 3 = 1))) (ck 2) sd.toInt64 (by first | exact rfl | (simp; done)) (by exact rfl) (by exact rfl) (by exact rfl) (by exact rfl) (by first | omega | assumption | (simp; done)) (Nat.lt_succ_self _) _ _ _ hW (lv_sub hl [0, 1, 2, 3, 4, 5, 6, 7] rfl)
set_option maxHeartbeats 4000000 in
set_option maxRecDepth 100000 in
theorem c_X10_centuries_ok (l : Launch) (G : gT) (v vw vc vp vs vn vm vu : Nat) (wide : Int32) (vpc n : Nat) (pf : Nat → Int32) (ck wd : Nat → Int32) (to iv jv rd st ra og : Nat) (k1 k2 ab be bds nos fls : Int32) (hr m9 : Nat) (sd : Int32) (hn : n ≤ 7) (eh : ck 6 = nI hr) (hh : hr < 10000) (hP : okP n pf) (hWd : okW wd) (hg : Rg (ck 1) 1 9) (h1 : iw sd 0 999999 = true) (hm9 : m9 ≤ 60) : MI l G yX10_centuries cX10_centuries 3 .int ({ frames := 5, cells := 0, slots := 0, locals := 122 }) [.ref to, .int sd, .int (nI m9)] [(to, .inr (8, [.ref v, .ref iv, .ref jv, .int k1, .int k2, .ref rd, .ref st, .ref ra, .ref og, .int ab, .int be, .int bds, .int nos, .int fls])), (v, .inr (7, [.int wide, .ref vw, .ref vc, .ref vp, .ref vs, .ref vn, .ref vm, .ref vu])), (vp, .inr (4, [.int 7, .int 3, .ref vpc, .int (nI n)])), (vpc, .inl (G.2.1, 21, .inl pf)), (vc, .inl (G.2.1, 7, .inl ck)), (vw, .inl (G.2.1, 6, .inl wd))] (fun (r : Int32) w1 => (r = (ceS wide ck wd pf n hr sd m9).2.2) ∧ w1 = [(to, .inr (8, [.ref v, .ref iv, .ref jv, .int k1, .int k2, .ref rd, .ref st, .ref ra, .ref og, .int ab, .int be, .int bds, .int nos, .int fls])), (v, .inr (7, [.int wide, .ref vw, .ref vc, .ref vp, .ref vs, .ref vn, .ref vm, .ref vu])), (vp, .inr (4, [.int 7, .int 3, .ref vpc, .int (nI n)])), (vpc, .inl (G.2.1, 21, .inl pf)), (vc, .inl (G.2.1, 7, .inl ck)), (vw, .inl (G.2.1, 6, .inl wd))]) := by
  refine MI.mk (by decide) (Nat.le_of_ble_eq_true rfl) ?_
  intro p_ e_ s_ m_ ar_ be_ me_ cd_ A_ ls C hrt hW hl
  have hx := C.1; have hb := C.2.1; have hown := C.2.2.2.1; have ht := C.2.2.2.2.1
  replace hl : lv_has ls 3 [(0, .ref to), (1, .int sd), (2, .int (nI m9))] := hl
  generalize hQ : MQ be_ _ ar_ s_ 0 0 A_ = Q
  refine lv_iload_n hx hb dX10_centuries_0 rfl (lv_at hl 1 rfl) ?_
  refine lv_iconst (v := 0) hx hb dX10_centuries_1 (by decide) ?_
  refine lv_ldcw (v := 999999) hx hb hown (ht _ k_ct_X10_309) dX10_centuries_2 ?_
  refine g_fi C hW [] rfl (g_runS (As := [.int sd, .int 0, .int 999999]) (rest := []) (wc := []) C hW hl (c_X10_isWithin l G sd 0 999999  _) k_ml_X10_73 q_X10_isWithin (by decide) [] rfl rfl rfl rfl (Nat.le_of_ble_eq_true rfl) dX10_centuries_5 (by decide)) (fun r_1349 er_1349 => ?_)
  clear hW; intro H locs hW
  refine lv_as (y := bI (iw sd 0 999999)) er_1349 ?_
  clear er_1349 r_1349
  refine lv_if_eq (tgt := 21) hx hb dX10_centuries_8 (by decide) (fun c_1350 => ?_) (fun c_1350 => ?_)
  · exfalso; exact dd (by first | assumption | exact okp_nI (by omega) (by assumption) | exact decide_eq_true (by first | assumption | omega)) c_1350
  · refine lv_iload_n hx hb dX10_centuries_11 rfl (lv_at hl 2 rfl) ?_
    refine lv_iconst (v := 0) hx hb dX10_centuries_12 (by decide) ?_
    refine lv_bipush (v := 60) hx hb dX10_centuries_13 (by decide) ?_
    refine g_fi C hW [] rfl (g_runS (As := [.int (nI m9), .int 0, .int 60]) (rest := []) (wc := []) C hW hl (c_X10_isWithin l G (nI m9) 0 60  _) k_ml_X10_73 q_X10_isWithin (by decide) [] rfl rfl rfl rfl (Nat.le_of_ble_eq_true rfl) dX10_centuries_15 (by decide)) (fun r_1351 er_1351 => ?_)
    clear hW H locs; intro H locs hW
    refine lv_as (y := bI (iw (nI m9) 0 60)) er_1351 ?_
    clear er_1351 r_1351
    refine lv_if_ne (tgt := 28) hx hb dX10_centuries_18 (by decide) (fun c_1352 => ?_) (fun c_1352 => ?_)
    · refine lv_aload_n hx hb dX10_centuries_28 rfl (lv_at hl 0 rfl) ?_
      refine lv_iload_n hx hb dX10_centuries_29 rfl (lv_at hl 1 rfl) ?_
      refine lv_iload_n hx hb dX10_centuries_30 rfl (lv_at hl 2 rfl) ?_
      refine g_fi C hW [0, 1, 2, 3, 4, 5] rfl (g_runV (As := [.int sd, .int (nI m9)]) (rest := []) (wc := [(to, .inr (8, [.ref v, .ref iv, .ref jv, .int k1, .int k2, .ref rd, .ref st, .ref ra, .ref og, .int ab, .int be, .int bds, .int nos, .int fls])), (v, .inr (7, [.int wide, .ref vw, .ref vc, .ref vp, .ref vs, .ref vn, .ref vm, .ref vu])), (vp, .inr (4, [.int 7, .int 3, .ref vpc, .int (nI n)])), (vpc, .inl (G.2.1, 21, .inl pf)), (vc, .inl (G.2.1, 7, .inl ck)), (vw, .inl (G.2.1, 6, .inl wd))]) (q0 := 0) (ci := 8) C hW hl (c_X10_strokesOver l G v vw vc vp vs vn vm vu wide vpc n pf ck wd to iv jv rd st ra og k1 k2 ab be bds nos fls hr m9 sd (by first | assumption | omega) (by assumption) (by first | assumption | omega) (by assumption) (by assumption) (by assumption) (by first | assumption | omega) _) k_ml_X10_310 q_X10_strokesOver (by decide) [0, 1, 2, 3, 4, 5] rfl rfl rfl rfl rfl rfl (Nat.le_of_ble_eq_true rfl) dX10_centuries_31 (by decide)) (fun r_1353 er_1353 => ?_)
      clear hW H locs; intro H locs hW
      refine lv_as (y := (ceS wide ck wd pf n hr sd m9).2.2) er_1353 ?_
      clear er_1353 r_1353
      subst hQ
      exact g_iret (v := ((ceS wide ck wd pf n hr sd m9).2.2)) C hW hrt ⟨by rfl, rfl⟩ dX10_centuries_34
    · exfalso; exact dd (iw_nI (m := 60) (by omega) (by omega)) c_1352
set_option maxHeartbeats 4000000 in
set_option maxRecDepth 100000 in
theorem c_X10_centuries_bad (l : Launch) (G : gT) (v : Nat) (to iv jv rd st ra og : Nat) (k1 k2 ab be bds nos fls : Int32) (s9 n9 : Int32) (hbad : (iw s9 0 999999 && iw n9 0 60) = false) : MI l G yX10_centuries cX10_centuries 3 .int ({ frames := 1, cells := 0, slots := 0, locals := 22 }) [.ref to, .int s9, .int n9] [(to, .inr (8, [.ref v, .ref iv, .ref jv, .int k1, .int k2, .ref rd, .ref st, .ref ra, .ref og, .int ab, .int be, .int bds, .int nos, .int fls]))] (fun (r : Int32) w1 => ∃ u_ : Unit, (r = (-2)) ∧ w1 = [(to, .inr (8, [.ref v, .ref iv, .ref jv, .int k1, .int k2, .ref rd, .ref st, .ref ra, .ref og, .int ab, .int be, .int (bds + 1), .int nos, .int fls]))]) := by
  refine MI.mk (by decide) (Nat.le_of_ble_eq_true rfl) ?_
  intro p_ e_ s_ m_ ar_ be_ me_ cd_ A_ ls C hrt hW hl
  have hx := C.1; have hb := C.2.1; have hown := C.2.2.2.1; have ht := C.2.2.2.2.1
  replace hl : lv_has ls 3 [(0, .ref to), (1, .int s9), (2, .int n9)] := hl
  generalize hQ : MQ be_ _ ar_ s_ 0 0 A_ = Q
  refine lv_iload_n hx hb dX10_centuries_0 rfl (lv_at hl 1 rfl) ?_
  refine lv_iconst (v := 0) hx hb dX10_centuries_1 (by decide) ?_
  refine lv_ldcw (v := 999999) hx hb hown (ht _ k_ct_X10_309) dX10_centuries_2 ?_
  refine g_fi C hW [] rfl (g_runS (As := [.int s9, .int 0, .int 999999]) (rest := []) (wc := []) C hW hl (c_X10_isWithin l G s9 0 999999  _) k_ml_X10_73 q_X10_isWithin (by decide) [] rfl rfl rfl rfl (Nat.le_of_ble_eq_true rfl) dX10_centuries_5 (by decide)) (fun r_1354 er_1354 => ?_)
  clear hW; intro H locs hW
  refine lv_as (y := bI (iw s9 0 999999)) er_1354 ?_
  clear er_1354 r_1354
  have J_1358 : ∀ (H : Heap) (locs : List Loc) (ls : Array Slot), Wd G A_ s_.heap [(to, .inr (8, [.ref v, .ref iv, .ref jv, .int k1, .int k2, .ref rd, .ref st, .ref ra, .ref og, .int ab, .int be, .int bds, .int nos, .int fls]))] H locs → lv_has ls 3 [(0, .ref to), (1, .int s9), (2, .int n9)] → W p_ l e_ ({ frames := 1, cells := 0, slots := 0, locals := 22 }) s_ m_ ar_ be_ me_ cd_ H locs 0 0 Q (F0 m_ 21 ls []) := by
    intro  H locs ls hW hl
    refine lv_aload_n hx hb dX10_centuries_21 rfl (lv_at hl 0 rfl) ?_
    refine lv_bipush (v := (-2)) hx hb dX10_centuries_22 (by decide) ?_
    refine g_fiw (wr := []) (ww := fun (u_ : Unit) => [(to, .inr (8, [.ref v, .ref iv, .ref jv, .int k1, .int k2, .ref rd, .ref st, .ref ra, .ref og, .int ab, .int be, .int (bds + 1), .int nos, .int fls]))]) (w2 := fun (u_ : Unit) => [(to, .inr (8, [.ref v, .ref iv, .ref jv, .int k1, .int k2, .ref rd, .ref st, .ref ra, .ref og, .int ab, .int be, .int (bds + 1), .int nos, .int fls]))]) C hW [0] [] [0] rfl rfl (by decide) (by decide) (by decide) (fun _ => rfl) (g_runV (As := [.int (-2)]) (rest := []) (wc := [(to, .inr (8, [.ref v, .ref iv, .ref jv, .int k1, .int k2, .ref rd, .ref st, .ref ra, .ref og, .int ab, .int be, .int bds, .int nos, .int fls]))]) (q0 := 0) (ci := 8) C hW hl (c_X10_refuseBad l G v to iv jv rd st ra og k1 k2 ab be bds nos fls (-2)  _) k_ml_X10_77 q_X10_refuseBad (by decide) [0] rfl rfl rfl rfl rfl rfl (Nat.le_of_ble_eq_true rfl) dX10_centuries_24 (by decide)) (fun r_1359 _ er_1359 => ?_)
    clear hW H locs; intro H locs hW
    refine lv_as (y := (-2)) er_1359 ?_
    clear er_1359 r_1359
    replace hW : Wd G A_ s_.heap [(to, .inr (8, [.ref v, .ref iv, .ref jv, .int k1, .int k2, .ref rd, .ref st, .ref ra, .ref og, .int ab, .int be, .int (bds + 1), .int nos, .int fls]))] H locs := hW
    subst hQ
    exact g_iret (v := (-2)) C hW hrt ⟨(), by rfl, by rfl⟩ dX10_centuries_27
  refine lv_if_eq (tgt := 21) hx hb dX10_centuries_8 (by decide) (fun c_1355 => ?_) (fun c_1355 => ?_)
  · exact J_1358  _ _ _ hW (lv_sub hl [0, 1, 2] rfl)
  · refine lv_iload_n hx hb dX10_centuries_11 rfl (lv_at hl 2 rfl) ?_
    refine lv_iconst (v := 0) hx hb dX10_centuries_12 (by decide) ?_
    refine lv_bipush (v := 60) hx hb dX10_centuries_13 (by decide) ?_
    refine g_fi C hW [] rfl (g_runS (As := [.int n9, .int 0, .int 60]) (rest := []) (wc := []) C hW hl (c_X10_isWithin l G n9 0 60  _) k_ml_X10_73 q_X10_isWithin (by decide) [] rfl rfl rfl rfl (Nat.le_of_ble_eq_true rfl) dX10_centuries_15 (by decide)) (fun r_1361 er_1361 => ?_)
    clear hW H locs; intro H locs hW
    refine lv_as (y := bI (iw n9 0 60)) er_1361 ?_
    clear er_1361 r_1361
    refine lv_if_ne (tgt := 28) hx hb dX10_centuries_18 (by decide) (fun c_1362 => ?_) (fun c_1362 => ?_)
    · exfalso; simp [bI_ne.mp c_1355, bI_ne.mp c_1362, if_true, if_false, reduceIte, Bool.false_eq_true] at hbad
    · exact J_1358  _ _ _ hW (lv_sub hl [0, 1, 2] rfl)
