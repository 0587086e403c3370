set_option maxHeartbeats 4000000 in
set_option maxRecDepth 100000 in
theorem c_X10_refuseBad (l : Launch) (G : gT) (v : Nat) (to iv jv rd st ra og : Nat) (k1 k2 ab be bds nos fls : Int32) (x9 : Int32)  : MI l G yX10_refuseBad cX10_refuseBad 2 .int ({ frames := 0, cells := 0, slots := 0, locals := 0 }) [.ref to, .int x9] [(to, .inr (8, [.ref v, .ref iv, .ref jv, .int k1, .int k2, .ref rd, .ref st, .ref ra, .ref og, .int ab, .int be, .int bds, .int nos, .int fls]))] (fun (r : Int32) w1 => ∃ u_ : Unit, (r = x9) ∧ w1 = [(to, .inr (8, [.ref v, .ref iv, .ref jv, .int k1, .int k2, .ref rd, .ref st, .ref ra, .ref og, .int ab, .int be, .int (bds + 1), .int nos, .int fls]))]) := by
  refine MI.mk (by decide) (Nat.le_of_ble_eq_true rfl) ?_
  intro p_ e_ s_ m_ ar_ be_ me_ cd_ A_ ls C hrt hW hl
  have hx := C.1; have hb := C.2.1; have hown := C.2.2.2.1; have ht := C.2.2.2.2.1
  replace hl : lv_has ls 2 [(0, .ref to), (1, .int x9)] := hl
  generalize hQ : MQ be_ _ ar_ s_ 0 0 A_ = Q
  refine lv_aload_n hx hb dX10_refuseBad_0 rfl (lv_at hl 0 rfl) ?_
  refine lv_dup hx hb dX10_refuseBad_1 rfl ?_
  refine g_get (k := 11) (v := .int bds) C hW 0 rfl rfl jnX10 (by decide) k_fl_X10_64 rfl dX10_refuseBad_2 ?_
  refine lv_iconst (v := 1) hx hb dX10_refuseBad_5 (by decide) ?_
  refine lv_iadd hx hb dX10_refuseBad_6 ?_
  refine g_put (k := 11) (ty := .int) (w' := [(to, .inr (8, [.ref v, .ref iv, .ref jv, .int k1, .int k2, .ref rd, .ref st, .ref ra, .ref og, .int ab, .int be, .int (bds + 1), .int nos, .int fls]))]) C hW 0 rfl rfl jnX10 tyX10_ok nmX10 (by decide) k_fl_X10_64 rfl rfl rfl rfl (Nat.le_of_ble_eq_true rfl) rfl dX10_refuseBad_7 ?_
  clear hW; intro H locs hW
  refine lv_iload_n hx hb dX10_refuseBad_10 rfl (lv_at hl 1 rfl) ?_
  subst hQ
  exact g_iret (v := x9) C hW hrt ⟨(), by first | rfl | (simp only [if_true, if_false, reduceIte]; done) | (simp []; done) | (simp_all []; done) | (simp only []; (repeat' split) <;> first | rfl | (simp_all; done)), by rfl⟩ dX10_refuseBad_11
set_option maxHeartbeats 4000000 in
set_option maxRecDepth 100000 in
theorem c_X10_refuseNo (l : Launch) (G : gT) (v : Nat) (to iv jv rd st ra og : Nat) (k1 k2 ab be bds nos fls : Int32)  : MI l G yX10_refuseNo cX10_refuseNo 1 .int ({ frames := 0, cells := 0, slots := 0, locals := 0 }) [.ref to] [(to, .inr (8, [.ref v, .ref iv, .ref jv, .int k1, .int k2, .ref rd, .ref st, .ref ra, .ref og, .int ab, .int be, .int bds, .int nos, .int fls]))] (fun (r : Int32) w1 => ∃ u_ : Unit, (r = (-3)) ∧ w1 = [(to, .inr (8, [.ref v, .ref iv, .ref jv, .int k1, .int k2, .ref rd, .ref st, .ref ra, .ref og, .int ab, .int be, .int bds, .int (nos + 1), .int fls]))]) := by
  refine MI.mk (by decide) (Nat.le_of_ble_eq_true rfl) ?_
  intro p_ e_ s_ m_ ar_ be_ me_ cd_ A_ ls C hrt hW hl
  have hx := C.1; have hb := C.2.1; have hown := C.2.2.2.1; have ht := C.2.2.2.2.1
  replace hl : lv_has ls 1 [(0, .ref to)] := hl
  generalize hQ : MQ be_ _ ar_ s_ 0 0 A_ = Q
  refine lv_aload_n hx hb dX10_refuseNo_0 rfl (lv_at hl 0 rfl) ?_
  refine lv_dup hx hb dX10_refuseNo_1 rfl ?_
  refine g_get (k := 12) (v := .int nos) C hW 0 rfl rfl jnX10 (by decide) k_fl_X10_67 rfl dX10_refuseNo_2 ?_
  refine lv_iconst (v := 1) hx hb dX10_refuseNo_5 (by decide) ?_
  refine lv_iadd hx hb dX10_refuseNo_6 ?_
  refine g_put (k := 12) (ty := .int) (w' := [(to, .inr (8, [.ref v, .ref iv, .ref jv, .int k1, .int k2, .ref rd, .ref st, .ref ra, .ref og, .int ab, .int be, .int bds, .int (nos + 1), .int fls]))]) C hW 0 rfl rfl jnX10 tyX10_ok nmX10 (by decide) k_fl_X10_67 rfl rfl rfl rfl (Nat.le_of_ble_eq_true rfl) rfl dX10_refuseNo_7 ?_
  clear hW; intro H locs hW
  refine lv_bipush (v := (-3)) hx hb dX10_refuseNo_10 (by decide) ?_
  subst hQ
  exact g_iret (v := (-3)) C hW hrt ⟨(), by first | rfl | (simp only [if_true, if_false, reduceIte]; done) | (simp []; done) | (simp_all []; done) | (simp only []; (repeat' split) <;> first | rfl | (simp_all; done)), by rfl⟩ dX10_refuseNo_12
set_option maxHeartbeats 4000000 in
set_option maxRecDepth 100000 in
theorem c_X10_refuseFull (l : Launch) (G : gT) (v : Nat) (to iv jv rd st ra og : Nat) (k1 k2 ab be bds nos fls : Int32)  : MI l G yX10_refuseFull cX10_refuseFull 1 .int ({ frames := 0, cells := 0, slots := 0, locals := 0 }) [.ref to] [(to, .inr (8, [.ref v, .ref iv, .ref jv, .int k1, .int k2, .ref rd, .ref st, .ref ra, .ref og, .int ab, .int be, .int bds, .int nos, .int fls]))] (fun (r : Int32) w1 => ∃ u_ : Unit, (r = (-4)) ∧ w1 = [(to, .inr (8, [.ref v, .ref iv, .ref jv, .int k1, .int k2, .ref rd, .ref st, .ref ra, .ref og, .int ab, .int be, .int bds, .int nos, .int (fls + 1)]))]) := by
  refine MI.mk (by decide) (Nat.le_of_ble_eq_true rfl) ?_
  intro p_ e_ s_ m_ ar_ be_ me_ cd_ A_ ls C hrt hW hl
  have hx := C.1; have hb := C.2.1; have hown := C.2.2.2.1; have ht := C.2.2.2.2.1
  replace hl : lv_has ls 1 [(0, .ref to)] := hl
  generalize hQ : MQ be_ _ ar_ s_ 0 0 A_ = Q
  refine lv_aload_n hx hb dX10_refuseFull_0 rfl (lv_at hl 0 rfl) ?_
  refine lv_dup hx hb dX10_refuseFull_1 rfl ?_
  refine g_get (k := 13) (v := .int fls) C hW 0 rfl rfl jnX10 (by decide) k_fl_X10_70 rfl dX10_refuseFull_2 ?_
  refine lv_iconst (v := 1) hx hb dX10_refuseFull_5 (by decide) ?_
  refine lv_iadd hx hb dX10_refuseFull_6 ?_
  refine g_put (k := 13) (ty := .int) (w' := [(to, .inr (8, [.ref v, .ref iv, .ref jv, .int k1, .int k2, .ref rd, .ref st, .ref ra, .ref og, .int ab, .int be, .int bds, .int nos, .int (fls + 1)]))]) C hW 0 rfl rfl jnX10 tyX10_ok nmX10 (by decide) k_fl_X10_70 rfl rfl rfl rfl (Nat.le_of_ble_eq_true rfl) rfl dX10_refuseFull_7 ?_
  clear hW; intro H locs hW
  refine lv_bipush (v := (-4)) hx hb dX10_refuseFull_10 (by decide) ?_
  subst hQ
  exact g_iret (v := (-4)) C hW hrt ⟨(), by first | rfl | (simp only [if_true, if_false, reduceIte]; done) | (simp []; done) | (simp_all []; done) | (simp only []; (repeat' split) <;> first | rfl | (simp_all; done)), by rfl⟩ dX10_refuseFull_12
set_option maxHeartbeats 4000000 in
set_option maxRecDepth 100000 in
theorem c_X10_isKind (l : Launch) (G : gT) (x9 : Int32)  : MI l G yX10_isKind cX10_isKind 1 .boolean ({ frames := 1, cells := 0, slots := 0, locals := 22 }) [.int x9] [] (fun (r : Int32) w1 => (r = bI (iw x9 0 5)) ∧ w1 = []) := by
  refine MI.mk (by decide) (Nat.le_of_ble_eq_true rfl) ?_
  intro p_ e_ s_ m_ ar_ be_ me_ cd_ A_ ls C hrt hW hl
  have hx := C.1; have hb := C.2.1; have hown := C.2.2.2.1; have ht := C.2.2.2.2.1
  replace hl : lv_has ls 1 [(0, .int x9)] := hl
  generalize hQ : MQ be_ _ ar_ s_ 0 0 A_ = Q
  refine lv_iload_n hx hb dX10_isKind_0 rfl (lv_at hl 0 rfl) ?_
  refine lv_iconst (v := 0) hx hb dX10_isKind_1 (by decide) ?_
  refine lv_iconst (v := 5) hx hb dX10_isKind_2 (by decide) ?_
  refine g_fi C hW [] rfl (g_runS (As := [.int x9, .int 0, .int 5]) (rest := []) (wc := []) C hW hl (c_X10_isWithin l G x9 0 5  _) k_ml_X10_73 q_X10_isWithin (by decide) [] rfl rfl rfl rfl (Nat.le_of_ble_eq_true rfl) dX10_isKind_3 (by decide)) (fun r_694 er_694 => ?_)
  clear hW; intro H locs hW
  refine lv_as (y := bI (iw x9 0 5)) er_694 ?_
  clear er_694 r_694
  subst hQ
  exact g_zret (v := (bI (iw x9 0 5))) C hW hrt (by first | exact bI_nar _ | rfl | (simp only []; (repeat' split) <;> rfl)) ⟨by rfl, rfl⟩ dX10_isKind_6
set_option maxHeartbeats 4000000 in
set_option maxRecDepth 100000 in
theorem c_X10_isHill (l : Launch) (G : gT) (x9 : Int32)  : MI l G yX10_isHill cX10_isHill 1 .boolean ({ frames := 1, cells := 0, slots := 0, locals := 22 }) [.int x9] [] (fun (r : Int32) w1 => (r = bI (iw x9 0 1)) ∧ w1 = []) := by
  refine MI.mk (by decide) (Nat.le_of_ble_eq_true rfl) ?_
  intro p_ e_ s_ m_ ar_ be_ me_ cd_ A_ ls C hrt hW hl
  have hx := C.1; have hb := C.2.1; have hown := C.2.2.2.1; have ht := C.2.2.2.2.1
  replace hl : lv_has ls 1 [(0, .int x9)] := hl
  generalize hQ : MQ be_ _ ar_ s_ 0 0 A_ = Q
  refine lv_iload_n hx hb dX10_isHill_0 rfl (lv_at hl 0 rfl) ?_
  refine lv_iconst (v := 0) hx hb dX10_isHill_1 (by decide) ?_
  refine lv_iconst (v := 1) hx hb dX10_isHill_2 (by decide) ?_
  refine g_fi C hW [] rfl (g_runS (As := [.int x9, .int 0, .int 1]) (rest := []) (wc := []) C hW hl (c_X10_isWithin l G x9 0 1  _) k_ml_X10_73 q_X10_isWithin (by decide) [] rfl rfl rfl rfl (Nat.le_of_ble_eq_true rfl) dX10_isHill_3 (by decide)) (fun r_695 er_695 => ?_)
  clear hW; intro H locs hW
  refine lv_as (y := bI (iw x9 0 1)) er_695 ?_
  clear er_695 r_695
  subst hQ
  exact g_zret (v := (bI (iw x9 0 1))) C hW hrt (by first | exact bI_nar _ | rfl | (simp only []; (repeat' split) <;> rfl)) ⟨by rfl, rfl⟩ dX10_isHill_6
set_option maxHeartbeats 4000000 in
set_option maxRecDepth 100000 in
theorem c_X10_valley_ok (l : Launch) (G : gT) (v vw vc vp vpc vs vsc vn vnc vm vmc vu vuc : Nat) (wide : Int32) (wd ck : Nat → Int32) (n : Nat) (pf : Nat → Int32) (sn : Nat) (sf : Nat → Int32) (nn : Nat) (nf : Nat → Int32) (mn : Nat) (mf : Nat → Int32) (u : Nat) (uf : Nat → Int32) (to iv jv rd st ra og : Nat) (k1 k2 ab be bds nos fls : Int32) (w9 : Int32) (h1 : iw w9 1 40 = true) : MI l G yX10_valley cX10_valley 3 .int ({ frames := 2, cells := 0, slots := 0, locals := 44 }) [.ref to, .int w9] [(to, .inr (8, [.ref v, .ref iv, .ref jv, .int k1, .int k2, .ref rd, .ref st, .ref ra, .ref og, .int ab, .int be, .int bds, .int nos, .int fls])), (v, .inr (7, [.int wide, .ref vw, .ref vc, .ref vp, .ref vs, .ref vn, .ref vm, .ref vu])), (vw, .inl (G.2.1, 6, .inl wd)), (vc, .inl (G.2.1, 7, .inl ck)), (vp, .inr (4, [.int 7, .int 3, .ref vpc, .int (nI n)])), (vpc, .inl (G.2.1, 21, .inl pf)), (vs, .inr (4, [.int 5, .int 3, .ref vsc, .int (nI sn)])), (vsc, .inl (G.2.1, 15, .inl sf)), (vn, .inr (4, [.int 6, .int 4, .ref vnc, .int (nI nn)])), (vnc, .inl (G.2.1, 24, .inl nf)), (vm, .inr (4, [.int 6, .int 4, .ref vmc, .int (nI mn)])), (vmc, .inl (G.2.1, 24, .inl mf)), (vu, .inr (1, [.ref vuc, .int (nI u)])), (vuc, .inl (G.2.1, 56, .inl uf))] (fun (r : Int32) w1 => ∃ u_ : Unit, (r = nI n) ∧ w1 = [(to, .inr (8, [.ref v, .ref iv, .ref jv, .int k1, .int k2, .ref rd, .ref st, .ref ra, .ref og, .int ab, .int be, .int bds, .int nos, .int fls])), (v, .inr (7, [.int w9, .ref vw, .ref vc, .ref vp, .ref vs, .ref vn, .ref vm, .ref vu])), (vw, .inl (G.2.1, 6, .inl (fun i => if i < 6 then 0 else wd i))), (vc, .inl (G.2.1, 7, .inl (upd (upd (fun i => if i < 7 then 0 else ck i) 1 1) 3 1))), (vp, .inr (4, [.int 7, .int 3, .ref vpc, .int (nI 0)])), (vpc, .inl (G.2.1, 21, .inl pf)), (vs, .inr (4, [.int 5, .int 3, .ref vsc, .int (nI 0)])), (vsc, .inl (G.2.1, 15, .inl sf)), (vn, .inr (4, [.int 6, .int 4, .ref vnc, .int (nI 0)])), (vnc, .inl (G.2.1, 24, .inl nf)), (vm, .inr (4, [.int 6, .int 4, .ref vmc, .int (nI 0)])), (vmc, .inl (G.2.1, 24, .inl mf)), (vu, .inr (1, [.ref vuc, .int (nI 0)])), (vuc, .inl (G.2.1, 56, .inl uf))]) := by
  refine MI.mk (by decide) (Nat.le_of_ble_eq_true rfl) ?_
  intro p_ e_ s_ m_ ar_ be_ me_ cd_ A_ ls C hrt hW hl
  have hx := C.1; have hb := C.2.1; have hown := C.2.2.2.1; have ht := C.2.2.2.2.1
  replace hl : lv_has ls 3 [(0, .ref to), (1, .int w9)] := hl
  generalize hQ : MQ be_ _ ar_ s_ 0 0 A_ = Q
  refine lv_iload_n hx hb dX10_valley_0 rfl (lv_at hl 1 rfl) ?_
  refine lv_iconst (v := 1) hx hb dX10_valley_1 (by decide) ?_
  refine lv_bipush (v := 40) hx hb dX10_valley_2 (by decide) ?_
  refine g_fi C hW [] rfl (g_runS (As := [.int w9, .int 1, .int 40]) (rest := []) (wc := []) C hW hl (c_X10_isWithin l G w9 1 40  _) k_ml_X10_73 q_X10_isWithin (by decide) [] rfl rfl rfl rfl (Nat.le_of_ble_eq_true rfl) dX10_valley_4 (by decide)) (fun r_696 er_696 => ?_)
  clear hW; intro H locs hW
  refine lv_as (y := bI (iw w9 1 40)) er_696 ?_
  clear er_696 r_696
  refine lv_if_ne (tgt := 17) hx hb dX10_valley_7 (by decide) (fun c_697 => ?_) (fun c_697 => ?_)
  · refine lv_aload_n hx hb dX10_valley_17 rfl (lv_at hl 0 rfl) ?_
    refine g_get (k := 0) (v := .ref v) C hW 0 rfl rfl jnX10 (by decide) k_fl_X10_10 rfl dX10_valley_18 ?_
    refine g_getN (k := 3) (v := .ref vp) (host := RX10) C hW 1 rfl rfl jnX9 (by decide) (List.mem_of_getElem? (i := 5) rfl) rfl dX10_valley_21 ?_
    refine g_fi C hW [4] rfl (g_runV (As := []) (rest := []) (wc := [(vp, .inr (4, [.int 7, .int 3, .ref vpc, .int (nI n)]))]) (q0 := 0) (ci := 4) C hW hl (c_X6_size l G vp vpc 7 3 n  _) k_ml_X10_85 q_X6_size (by decide) [4] rfl rfl rfl rfl rfl rfl (Nat.le_of_ble_eq_true rfl) dX10_valley_24 (by decide)) (fun r_698 er_698 => ?_)
    clear hW H locs; intro H locs hW
    refine lv_as (y := nI n) er_698 ?_
    clear er_698 r_698
    refine lv_istore_n (lv' := [(2, .int (nI n)), (0, .ref to), (1, .int w9)]) hx hb dX10_valley_27 rfl hl (by decide) rfl ?_
    clear hl ls; intro ls hl
    refine lv_aload_n hx hb dX10_valley_28 rfl (lv_at hl 1 rfl) ?_
    refine g_get (k := 0) (v := .ref v) C hW 0 rfl rfl jnX10 (by decide) k_fl_X10_10 rfl dX10_valley_29 ?_
    refine lv_iload_n hx hb dX10_valley_32 rfl (lv_at hl 2 rfl) ?_
    refine g_fvw (wr := [(to, .inr (8, [.ref v, .ref iv, .ref jv, .int k1, .int k2, .ref rd, .ref st, .ref ra, .ref og, .int ab, .int be, .int bds, .int nos, .int fls]))]) (ww := fun (u_ : Unit) => [(v, .inr (7, [.int w9, .ref vw, .ref vc, .ref vp, .ref vs, .ref vn, .ref vm, .ref vu])), (vw, .inl (G.2.1, 6, .inl (fun i => if i < 6 then 0 else wd i))), (vc, .inl (G.2.1, 7, .inl (upd (upd (fun i => if i < 7 then 0 else ck i) 1 1) 3 1))), (vp, .inr (4, [.int 7, .int 3, .ref vpc, .int (nI 0)])), (vpc, .inl (G.2.1, 21, .inl pf)), (vs, .inr (4, [.int 5, .int 3, .ref vsc, .int (nI 0)])), (vsc, .inl (G.2.1, 15, .inl sf)), (vn, .inr (4, [.int 6, .int 4, .ref vnc, .int (nI 0)])), (vnc, .inl (G.2.1, 24, .inl nf)), (vm, .inr (4, [.int 6, .int 4, .ref vmc, .int (nI 0)])), (vmc, .inl (G.2.1, 24, .inl mf)), (vu, .inr (1, [.ref vuc, .int (nI 0)])), (vuc, .inl (G.2.1, 56, .inl uf))]) (w2 := fun (u_ : Unit) => [(to, .inr (8, [.ref v, .ref iv, .ref jv, .int k1, .int k2, .ref rd, .ref st, .ref ra, .ref og, .int ab, .int be, .int bds, .int nos, .int fls])), (v, .inr (7, [.int w9, .ref vw, .ref vc, .ref vp, .ref vs, .ref vn, .ref vm, .ref vu])), (vw, .inl (G.2.1, 6, .inl (fun i => if i < 6 then 0 else wd i))), (vc, .inl (G.2.1, 7, .inl (upd (upd (fun i => if i < 7 then 0 else ck i) 1 1) 3 1))), (vp, .inr (4, [.int 7, .int 3, .ref vpc, .int (nI 0)])), (vpc, .inl (G.2.1, 21, .inl pf)), (vs, .inr (4, [.int 5, .int 3, .ref vsc, .int (nI 0)])), (vsc, .inl (G.2.1, 15, .inl sf)), (vn, .inr (4, [.int 6, .int 4, .ref vnc, .int (nI 0)])), (vnc, .inl (G.2.1, 24, .inl nf)), (vm, .inr (4, [.int 6, .int 4, .ref vmc, .int (nI 0)])), (vmc, .inl (G.2.1, 24, .inl mf)), (vu, .inr (1, [.ref vuc, .int (nI 0)])), (vuc, .inl (G.2.1, 56, .inl uf))]) C hW [1, 2, 3, 4, 5, 6, 7, 8, 9, 10, 11, 12, 13] [0] [0, 1, 2, 3, 4, 5, 6, 7, 8, 9, 10, 11, 12, 13] rfl rfl (by decide) (by decide) (by decide) (fun _ => rfl) (g_runV (As := [.int w9]) (rest := []) (wc := [(v, .inr (7, [.int wide, .ref vw, .ref vc, .ref vp, .ref vs, .ref vn, .ref vm, .ref vu])), (vw, .inl (G.2.1, 6, .inl wd)), (vc, .inl (G.2.1, 7, .inl ck)), (vp, .inr (4, [.int 7, .int 3, .ref vpc, .int (nI n)])), (vpc, .inl (G.2.1, 21, .inl pf)), (vs, .inr (4, [.int 5, .int 3, .ref vsc, .int (nI sn)])), (vsc, .inl (G.2.1, 15, .inl sf)), (vn, .inr (4, [.int 6, .int 4, .ref vnc, .int (nI nn)])), (vnc, .inl (G.2.1, 24, .inl nf)), (vm, .inr (4, [.int 6, .int 4, .ref vmc, .int (nI mn)])), (vmc, .inl (G.2.1, 24, .inl mf)), (vu, .inr (1, [.ref vuc, .int (nI u)])), (vuc, .inl (G.2.1, 56, .inl uf))]) (q0 := 0) (ci := 7) C hW hl (c_X9_start l G v vw vc vp vpc vs vsc vn vnc vm vmc vu vuc wide wd ck n pf sn sf nn nf mn mf u uf w9  _) k_ml_X10_91 q_X9_start (by decide) [1, 2, 3, 4, 5, 6, 7, 8, 9, 10, 11, 12, 13] rfl rfl rfl rfl rfl rfl (Nat.le_of_ble_eq_true rfl) dX10_valley_33 (by decide)) (fun _ er_699 => ?_)
    clear hW H locs; intro H locs hW
    replace hW : Wd G A_ s_.heap [(to, .inr (8, [.ref v, .ref iv, .ref jv, .int k1, .int k2, .ref rd, .ref st, .ref ra, .ref og, .int ab, .int be, .int bds, .int nos, .int fls])), (v, .inr (7, [.int w9, .ref vw, .ref vc, .ref vp, .ref vs, .ref vn, .ref vm, .ref vu])), (vw, .inl (G.2.1, 6, .inl (fun i => if i < 6 then 0 else wd i))), (vc, .inl (G.2.1, 7, .inl (upd (upd (fun i => if i < 7 then 0 else ck i) 1 1) 3 1))), (vp, .inr (4, [.int 7, .int 3, .ref vpc, .int (nI 0)])), (vpc, .inl (G.2.1, 21, .inl pf)), (vs, .inr (4, [.int 5, .int 3, .ref vsc, .int (nI 0)])), (vsc, .inl (G.2.1, 15, .inl sf)), (vn, .inr (4, [.int 6, .int 4, .ref vnc, .int (nI 0)])), (vnc, .inl (G.2.1, 24, .inl nf)), (vm, .inr (4, [.int 6, .int 4, .ref vmc, .int (nI 0)])), (vmc, .inl (G.2.1, 24, .inl mf)), (vu, .inr (1, [.ref vuc, .int (nI 0)])), (vuc, .inl (G.2.1, 56, .inl uf))] H locs := hW
    refine lv_iload_n hx hb dX10_valley_36 rfl (lv_at hl 0 rfl) ?_
    subst hQ
    exact g_iret (v := (nI n)) C hW hrt ⟨(), by rfl, by rfl⟩ dX10_valley_37
  · exfalso; exact dd (by first | assumption | exact okp_nI (by omega) (by assumption) | exact decide_eq_true (by first | assumption | omega)) c_697
set_option maxHeartbeats 4000000 in
set_option maxRecDepth 100000 in
theorem c_X10_valley_bad (l : Launch) (G : gT) (v : Nat) (to iv jv rd st ra og : Nat) (k1 k2 ab be bds nos fls : Int32) (w9 : Int32) (hbad : iw w9 1 40 = false) : MI l G yX10_valley cX10_valley 3 .int ({ frames := 1, cells := 0, slots := 0, locals := 22 }) [.ref to, .int w9] [(to, .inr (8, [.ref v, .ref iv, .ref jv, .int k1, .int k2, .ref rd, .ref st, .ref ra, .ref og, .int ab, .int be, .int bds, .int nos, .int fls]))] (fun (r : Int32) w1 => ∃ u_ : Unit, (r = (-2)) ∧ w1 = [(to, .inr (8, [.ref v, .ref iv, .ref jv, .int k1, .int k2, .ref rd, .ref st, .ref ra, .ref og, .int ab, .int be, .int (bds + 1), .int nos, .int fls]))]) := by
  refine MI.mk (by decide) (Nat.le_of_ble_eq_true rfl) ?_
  intro p_ e_ s_ m_ ar_ be_ me_ cd_ A_ ls C hrt hW hl
  have hx := C.1; have hb := C.2.1; have hown := C.2.2.2.1; have ht := C.2.2.2.2.1
  replace hl : lv_has ls 3 [(0, .ref to), (1, .int w9)] := hl
  generalize hQ : MQ be_ _ ar_ s_ 0 0 A_ = Q
  refine lv_iload_n hx hb dX10_valley_0 rfl (lv_at hl 1 rfl) ?_
  refine lv_iconst (v := 1) hx hb dX10_valley_1 (by decide) ?_
  refine lv_bipush (v := 40) hx hb dX10_valley_2 (by decide) ?_
  refine g_fi C hW [] rfl (g_runS (As := [.int w9, .int 1, .int 40]) (rest := []) (wc := []) C hW hl (c_X10_isWithin l G w9 1 40  _) k_ml_X10_73 q_X10_isWithin (by decide) [] rfl rfl rfl rfl (Nat.le_of_ble_eq_true rfl) dX10_valley_4 (by decide)) (fun r_701 er_701 => ?_)
  clear hW; intro H locs hW
  refine lv_as (y := bI (iw w9 1 40)) er_701 ?_
  clear er_701 r_701
  refine lv_if_ne (tgt := 17) hx hb dX10_valley_7 (by decide) (fun c_702 => ?_) (fun c_702 => ?_)
  · exfalso; simp [bI_ne.mp c_702, if_true, if_false, reduceIte, Bool.false_eq_true] at hbad
  · refine lv_aload_n hx hb dX10_valley_10 rfl (lv_at hl 0 rfl) ?_
    refine lv_bipush (v := (-2)) hx hb dX10_valley_11 (by decide) ?_
    refine g_fiw (wr := []) (ww := fun (u_ : Unit) => [(to, .inr (8, [.ref v, .ref iv, .ref jv, .int k1, .int k2, .ref rd, .ref st, .ref ra, .ref og, .int ab, .int be, .int (bds + 1), .int nos, .int fls]))]) (w2 := fun (u_ : Unit) => [(to, .inr (8, [.ref v, .ref iv, .ref jv, .int k1, .int k2, .ref rd, .ref st, .ref ra, .ref og, .int ab, .int be, .int (bds + 1), .int nos, .int fls]))]) C hW [0] [] [0] rfl rfl (by decide) (by decide) (by decide) (fun _ => rfl) (g_runV (As := [.int (-2)]) (rest := []) (wc := [(to, .inr (8, [.ref v, .ref iv, .ref jv, .int k1, .int k2, .ref rd, .ref st, .ref ra, .ref og, .int ab, .int be, .int bds, .int nos, .int fls]))]) (q0 := 0) (ci := 8) C hW hl (c_X10_refuseBad l G v to iv jv rd st ra og k1 k2 ab be bds nos fls (-2)  _) k_ml_X10_77 q_X10_refuseBad (by decide) [0] rfl rfl rfl rfl rfl rfl (Nat.le_of_ble_eq_true rfl) dX10_valley_13 (by decide)) (fun r_703 _ er_703 => ?_)
    clear hW H locs; intro H locs hW
    refine lv_as (y := (-2)) er_703 ?_
    clear er_703 r_703
    replace hW : Wd G A_ s_.heap [(to, .inr (8, [.ref v, .ref iv, .ref jv, .int k1, .int k2, .ref rd, .ref st, .ref ra, .ref og, .int ab, .int be, .int (bds + 1), .int nos, .int fls]))] H locs := hW
    subst hQ
    exact g_iret (v := (-2)) C hW hrt ⟨(), by rfl, by rfl⟩ dX10_valley_16
set_option maxHeartbeats 4000000 in
set_option maxRecDepth 100000 in
theorem c_X10_wind_ok (l : Launch) (G : gT) (v vw vc vp vs vn vm vu : Nat) (wide : Int32) (to iv jv rd st ra og : Nat) (k1 k2 ab be bds nos fls : Int32) (wd : Nat → Int32) (vuc u : Nat) (h9 w9 : Int32) (h1 : iw h9 0 5 = true) (h2 : iw w9 (-4) 4 = true) : MI l G yX10_wind cX10_wind 4 .int ({ frames := 1, cells := 0, slots := 0, locals := 22 }) [.ref to, .int h9, .int w9] [(to, .inr (8, [.ref v, .ref iv, .ref jv, .int k1, .int k2, .ref rd, .ref st, .ref ra, .ref og, .int ab, .int be, .int bds, .int nos, .int fls])), (v, .inr (7, [.int wide, .ref vw, .ref vc, .ref vp, .ref vs, .ref vn, .ref vm, .ref vu])), (vw, .inl (G.2.1, 6, .inl wd)), (vu, .inr (1, [.ref vuc, .int (nI u)]))] (fun (r : Int32) w1 => ∃ u_ : Unit, (r = wd h9.toNatClampNeg) ∧ w1 = [(to, .inr (8, [.ref v, .ref iv, .ref jv, .int k1, .int k2, .ref rd, .ref st, .ref ra, .ref og, .int ab, .int be, .int bds, .int nos, .int fls])), (v, .inr (7, [.int wide, .ref vw, .ref vc, .ref vp, .ref vs, .ref vn, .ref vm, .ref vu])), (vw, .inl (G.2.1, 6, .inl (upd wd h9.toNatClampNeg w9))), (vu, .inr (1, [.ref vuc, .int (nI 0)]))]) := by
  refine MI.mk (by decide) (Nat.le_of_ble_eq_true rfl) ?_
  intro p_ e_ s_ m_ ar_ be_ me_ cd_ A_ ls C hrt hW hl
  have hx := C.1; have hb := C.2.1; have hown := C.2.2.2.1; have ht := C.2.2.2.2.1
  replace hl : lv_has ls 4 [(0, .ref to), (1, .int h9), (2, .int w9)] := hl
  generalize hQ : MQ be_ _ ar_ s_ 0 0 A_ = Q
  refine lv_iload_n hx hb dX10_wind_0 rfl (lv_at hl 1 rfl) ?_
  refine lv_iconst (v := 0) hx hb dX10_wind_1 (by decide) ?_
  refine lv_iconst (v := 5) hx hb dX10_wind_2 (by decide) ?_
  refine g_fi C hW [] rfl (g_runS (As := [.int h9, .int 0, .int 5]) (rest := []) (wc := []) C hW hl (c_X10_isWithin l G h9 0 5  _) k_ml_X10_73 q_X10_isWithin (by decide) [] rfl rfl rfl rfl (Nat.le_of_ble_eq_true rfl) dX10_wind_3 (by decide)) (fun r_705 er_705 => ?_)
  clear hW; intro H locs hW
  refine lv_as (y := bI (iw h9 0 5)) er_705 ?_
  clear er_705 r_705
  refine lv_if_eq (tgt := 19) hx hb dX10_wind_6 (by decide) (fun c_706 => ?_) (fun c_706 => ?_)
  · exfalso; exact dd (by first | assumption | exact okp_nI (by omega) (by assumption) | exact decide_eq_true (by first | assumption | omega)) c_706
  · refine lv_iload_n hx hb dX10_wind_9 rfl (lv_at hl 2 rfl) ?_
    refine lv_bipush (v := (-4)) hx hb dX10_wind_10 (by decide) ?_
    refine lv_iconst (v := 4) hx hb dX10_wind_12 (by decide) ?_
    refine g_fi C hW [] rfl (g_runS (As := [.int w9, .int (-4), .int 4]) (rest := []) (wc := []) C hW hl (c_X10_isWithin l G w9 (-4) 4  _) k_ml_X10_73 q_X10_isWithin (by decide) [] rfl rfl rfl rfl (Nat.le_of_ble_eq_true rfl) dX10_wind_13 (by decide)) (fun r_707 er_707 => ?_)
    clear hW H locs; intro H locs hW
    refine lv_as (y := bI (iw w9 (-4) 4)) er_707 ?_
    clear er_707 r_707
    refine lv_if_ne (tgt := 26) hx hb dX10_wind_16 (by decide) (fun c_708 => ?_) (fun c_708 => ?_)
    · refine lv_aload_n hx hb dX10_wind_26 rfl (lv_at hl 0 rfl) ?_
      refine g_get (k := 0) (v := .ref v) C hW 0 rfl rfl jnX10 (by decide) k_fl_X10_10 rfl dX10_wind_27 ?_
      refine g_getN (k := 1) (v := .ref vw) (host := RX10) C hW 1 rfl rfl jnX9 (by decide) (List.mem_of_getElem? (i := 1) rfl) rfl dX10_wind_30 ?_
      refine lv_iload_n hx hb dX10_wind_33 rfl (lv_at hl 1 rfl) ?_
      refine g_ald C hW 2 rfl (by exact iw_in h1 (by decide)) dX10_wind_34 ?_
      refine lv_istore_n (lv' := [(3, .int (wd h9.toNatClampNeg)), (0, .ref to), (1, .int h9), (2, .int w9)]) hx hb dX10_wind_35 rfl hl (by decide) rfl ?_
      clear hl ls; intro ls hl
      refine lv_aload_n hx hb dX10_wind_36 rfl (lv_at hl 1 rfl) ?_
      refine g_get (k := 0) (v := .ref v) C hW 0 rfl rfl jnX10 (by decide) k_fl_X10_10 rfl dX10_wind_37 ?_
      refine g_getN (k := 1) (v := .ref vw) (host := RX10) C hW 1 rfl rfl jnX9 (by decide) (List.mem_of_getElem? (i := 1) rfl) rfl dX10_wind_40 ?_
      refine lv_iload_n hx hb dX10_wind_43 rfl (lv_at hl 2 rfl) ?_
      refine lv_iload_n hx hb dX10_wind_44 rfl (lv_at hl 3 rfl) ?_
      refine g_ast (w' := [(to, .inr (8, [.ref v, .ref iv, .ref jv, .int k1, .int k2, .ref rd, .ref st, .ref ra, .ref og, .int ab, .int be, .int bds, .int nos, .int fls])), (v, .inr (7, [.int wide, .ref vw, .ref vc, .ref vp, .ref vs, .ref vn, .ref vm, .ref vu])), (vw, .inl (G.2.1, 6, .inl (upd wd (h9.toNatClampNeg) w9))), (vu, .inr (1, [.ref vuc, .int (nI u)]))]) C hW 2 rfl (by exact iw_in h1 (by decide)) rfl dX10_wind_45 ?_
      clear hW H locs; intro H locs hW
      refine lv_aload_n hx hb dX10_wind_46 rfl (lv_at hl 1 rfl) ?_
      refine g_get (k := 0) (v := .ref v) C hW 0 rfl rfl jnX10 (by decide) k_fl_X10_10 rfl dX10_wind_47 ?_
      refine g_getN (k := 7) (v := .ref vu) (host := RX10) C hW 1 rfl rfl jnX9 (by decide) (List.mem_of_getElem? (i := 14) rfl) rfl dX10_wind_50 ?_
      refine g_fvw (wr := [(to, .inr (8, [.ref v, .ref iv, .ref jv, .int k1, .int k2, .ref rd, .ref st, .ref ra, .ref og, .int ab, .int be, .int bds, .int nos, .int fls])), (v, .inr (7, [.int wide, .ref vw, .ref vc, .ref vp, .ref vs, .ref vn, .ref vm, .ref vu])), (vw, .inl (G.2.1, 6, .inl (upd wd (h9.toNatClampNeg) w9)))]) (ww := fun (u_ : Unit) => [(vu, .inr (1, [.ref vuc, .int (nI 0)]))]) (w2 := fun (u_ : Unit) => [(to, .inr (8, [.ref v, .ref iv, .ref jv, .int k1, .int k2, .ref rd, .ref st, .ref ra, .ref og, .int ab, .int be, .int bds, .int nos, .int fls])), (v, .inr (7, [.int wide, .ref vw, .ref vc, .ref vp, .ref vs, .ref vn, .ref vm, .ref vu])), (vw, .inl (G.2.1, 6, .inl (upd wd (h9.toNatClampNeg) w9))), (vu, .inr (1, [.ref vuc, .int (nI 0)]))]) C hW [3] [0, 1, 2] [0, 1, 2, 3] rfl rfl (by decide) (by decide) (by decide) (fun _ => rfl) (g_runV (As := []) (rest := []) (wc := [(vu, .inr (1, [.ref vuc, .int (nI u)]))]) (q0 := 0) (ci := 1) C hW hl (c_X3_forgetAll l G vu vuc u  _) k_ml_X10_103 q_X3_forgetAll (by decide) [3] rfl rfl rfl rfl rfl rfl (Nat.le_of_ble_eq_true rfl) dX10_wind_53 (by decide)) (fun _ er_709 => ?_)
      clear hW H locs; intro H locs hW
      replace hW : Wd G A_ s_.heap [(to, .inr (8, [.ref v, .ref iv, .ref jv, .int k1, .int k2, .ref rd, .ref st, .ref ra, .ref og, .int ab, .int be, .int bds, .int nos, .int fls])), (v, .inr (7, [.int wide, .ref vw, .ref vc, .ref vp, .ref vs, .ref vn, .ref vm, .ref vu])), (vw, .inl (G.2.1, 6, .inl (upd wd (h9.toNatClampNeg) w9))), (vu, .inr (1, [.ref vuc, .int (nI 0)]))] H locs := hW
      refine lv_iload_n hx hb dX10_wind_56 rfl (lv_at hl 0 rfl) ?_
      subst hQ
      exact g_iret (v := (wd h9.toNatClampNeg)) C hW hrt ⟨(), by rfl, by rfl⟩ dX10_wind_57
    · exfalso; exact dd (by first | assumption | exact okp_nI (by omega) (by assumption) | exact decide_eq_true (by first | assumption | omega)) c_708
set_option maxHeartbeats 4000000 in
set_option maxRecDepth 100000 in
theorem c_X10_wind_bad (l : Launch) (G : gT) (v : Nat) (to iv jv rd st ra og : Nat) (k1 k2 ab be bds nos fls : Int32) (h9 w9 : Int32) (hbad : (iw h9 0 5 && iw w9 (-4) 4) = false) : MI l G yX10_wind cX10_wind 4 .int ({ frames := 1, cells := 0, slots := 0, locals := 22 }) [.ref to, .int h9, .int w9] [(to, .inr (8, [.ref v, .ref iv, .ref jv, .int k1, .int k2, .ref rd, .ref st, .ref ra, .ref og, .int ab, .int be, .int bds, .int nos, .int fls]))] (fun (r : Int32) w1 => ∃ u_ : Unit, (r = (-10)) ∧ w1 = [(to, .inr (8, [.ref v, .ref iv, .ref jv, .int k1, .int k2, .ref rd, .ref st, .ref ra, .ref og, .int ab, .int be, .int (bds + 1), .int nos, .int fls]))]) := by
  refine MI.mk (by decide) (Nat.le_of_ble_eq_true rfl) ?_
  intro p_ e_ s_ m_ ar_ be_ me_ cd_ A_ ls C hrt hW hl
  have hx := C.1; have hb := C.2.1; have hown := C.2.2.2.1; have ht := C.2.2.2.2.1
  replace hl : lv_has ls 4 [(0, .ref to), (1, .int h9), (2, .int w9)] := hl
  generalize hQ : MQ be_ _ ar_ s_ 0 0 A_ = Q
  refine lv_iload_n hx hb dX10_wind_0 rfl (lv_at hl 1 rfl) ?_
  refine lv_iconst (v := 0) hx hb dX10_wind_1 (by decide) ?_
  refine lv_iconst (v := 5) hx hb dX10_wind_2 (by decide) ?_
  refine g_fi C hW [] rfl (g_runS (As := [.int h9, .int 0, .int 5]) (rest := []) (wc := []) C hW hl (c_X10_isWithin l G h9 0 5  _) k_ml_X10_73 q_X10_isWithin (by decide) [] rfl rfl rfl rfl (Nat.le_of_ble_eq_true rfl) dX10_wind_3 (by decide)) (fun r_711 er_711 => ?_)
  clear hW; intro H locs hW
  refine lv_as (y := bI (iw h9 0 5)) er_711 ?_
  clear er_711 r_711
  have J_715 : ∀ (H : Heap) (locs : List Loc) (ls : Array Slot), Wd G A_ s_.heap [(to, .inr (8, [.ref v, .ref iv, .ref jv, .int k1, .int k2, .ref rd, .ref st, .ref ra, .ref og, .int ab, .int be, .int bds, .int nos, .int fls]))] H locs → lv_has ls 4 [(0, .ref to), (1, .int h9), (2, .int w9)] → W p_ l e_ ({ frames := 1, cells := 0, slots := 0, locals := 22 }) s_ m_ ar_ be_ me_ cd_ H locs 0 0 Q (F0 m_ 19 ls []) := by
    intro  H locs ls hW hl
    refine lv_aload_n hx hb dX10_wind_19 rfl (lv_at hl 0 rfl) ?_
    refine lv_bipush (v := (-10)) hx hb dX10_wind_20 (by decide) ?_
    refine g_fiw (wr := []) (ww := fun (u_ : Unit) => [(to, .inr (8, [.ref v, .ref iv, .ref jv, .int k1, .int k2, .ref rd, .ref st, .ref ra, .ref og, .int ab, .int be, .int (bds + 1), .int nos, .int fls]))]) (w2 := fun (u_ : Unit) => [(to, .inr (8, [.ref v, .ref iv, .ref jv, .int k1, .int k2, .ref rd, .ref st, .ref ra, .ref og, .int ab, .int be, .int (bds + 1), .int nos, .int fls]))]) C hW [0] [] [0] rfl rfl (by decide) (by decide) (by decide) (fun _ => rfl) (g_runV (As := [.int (-10)]) (rest := []) (wc := [(to, .inr (8, [.ref v, .ref iv, .ref jv, .int k1, .int k2, .ref rd, .ref st, .ref ra, .ref og, .int ab, .int be, .int bds, .int nos, .int fls]))]) (q0 := 0) (ci := 8) C hW hl (c_X10_refuseBad l G v to iv jv rd st ra og k1 k2 ab be bds nos fls (-10)  _) k_ml_X10_77 q_X10_refuseBad (by decide) [0] rfl rfl rfl rfl rfl rfl (Nat.le_of_ble_eq_true rfl) dX10_wind_22 (by decide)) (fun r_716 _ er_716 => ?_)
    clear hW H locs; intro H locs hW
    refine lv_as (y := (-10)) er_716 ?_
    clear er_716 r_716
    replace hW : Wd G A_ s_.heap [(to, .inr (8, [.ref v, .ref iv, .ref jv, .int k1, .int k2, .ref rd, .ref st, .ref ra, .ref og, .int ab, .int be, .int (bds + 1), .int nos, .int fls]))] H locs := hW
    subst hQ
    exact g_iret (v := (-10)) C hW hrt ⟨(), by rfl, by rfl⟩ dX10_wind_25
  refine lv_if_eq (tgt := 19) hx hb dX10_wind_6 (by decide) (fun c_712 => ?_) (fun c_712 => ?_)
  · exact J_715  _ _ _ hW (lv_sub hl [0, 1, 2] rfl)
  · refine lv_iload_n hx hb dX10_wind_9 rfl (lv_at hl 2 rfl) ?_
    refine lv_bipush (v := (-4)) hx hb dX10_wind_10 (by decide) ?_
    refine lv_iconst (v := 4) hx hb dX10_wind_12 (by decide) ?_
    refine g_fi C hW [] rfl (g_runS (As := [.int w9, .int (-4), .int 4]) (rest := []) (wc := []) C hW hl (c_X10_isWithin l G w9 (-4) 4  _) k_ml_X10_73 q_X10_isWithin (by decide) [] rfl rfl rfl rfl (Nat.le_of_ble_eq_true rfl) dX10_wind_13 (by decide)) (fun r_718 er_718 => ?_)
    clear hW H locs; intro H locs hW
    refine lv_as (y := bI (iw w9 (-4) 4)) er_718 ?_
    clear er_718 r_718
    refine lv_if_ne (tgt := 26) hx hb dX10_wind_16 (by decide) (fun c_719 => ?_) (fun c_719 => ?_)
    · exfalso; simp [bI_ne.mp c_712, bI_ne.mp c_719, if_true, if_false, reduceIte, Bool.false_eq_true] at hbad
    · exact J_715  _ _ _ hW (lv_sub hl [0, 1, 2] rfl)
set_option maxHeartbeats 4000000 in
set_option maxRecDepth 100000 in
theorem c_X10_player_ok (l : Launch) (G : gT) (v vw vc vp vs vn vm vu : Nat) (wide : Int32) (to iv jv rd st ra og : Nat) (k1 k2 ab be bds nos fls : Int32) (vpc n : Nat) (pf : Nat → Int32) (vuc u : Nat) (kd hl_ am : Int32) (h1 : iw kd 0 5 = true) (h2 : iw hl_ 0 1 = true) (h3 : iw am 1 9 = true) (hn : n < 7) : MI l G yX10_player cX10_player 4 .int ({ frames := 2, cells := 0, slots := 0, locals := 46 }) [.ref to, .int kd, .int hl_, .int am] [(to, .inr (8, [.ref v, .ref iv, .ref jv, .int k1, .int k2, .ref rd, .ref st, .ref ra, .ref og, .int ab, .int be, .int bds, .int nos, .int fls])), (v, .inr (7, [.int wide, .ref vw, .ref vc, .ref vp, .ref vs, .ref vn, .ref vm, .ref vu])), (vp, .inr (4, [.int 7, .int 3, .ref vpc, .int (nI n)])), (vpc, .inl (G.2.1, 21, .inl pf)), (vu, .inr (1, [.ref vuc, .int (nI u)]))] (fun (r : Int32) w1 => ∃ u_ : Unit, (r = nI n) ∧ w1 = [(to, .inr (8, [.ref v, .ref iv, .ref jv, .int k1, .int k2, .ref rd, .ref st, .ref ra, .ref og, .int ab, .int be, .int bds, .int nos, .int fls])), (v, .inr (7, [.int wide, .ref vw, .ref vc, .ref vp, .ref vs, .ref vn, .ref vm, .ref vu])), (vp, .inr (4, [.int 7, .int 3, .ref vpc, .int (nI (n + 1))])), (vpc, .inl (G.2.1, 21, .inl (upd (upd (upd pf (n * 3 + 0) kd) (n * 3 + 1) hl_) (n * 3 + 2) am))), (vu, .inr (1, [.ref vuc, .int (nI 0)]))]) := by
  refine MI.mk (by decide) (Nat.le_of_ble_eq_true rfl) ?_
  intro p_ e_ s_ m_ ar_ be_ me_ cd_ A_ ls C hrt hW hl
  have hx := C.1; have hb := C.2.1; have hown := C.2.2.2.1; have ht := C.2.2.2.2.1
  replace hl : lv_has ls 4 [(0, .ref to), (1, .int kd), (2, .int hl_), (3, .int am)] := hl
  generalize hQ : MQ be_ _ ar_ s_ 0 0 A_ = Q
  refine lv_iload_n hx hb dX10_player_0 rfl (lv_at hl 1 rfl) ?_
  refine g_fi C hW [] rfl (g_runS (As := [.int kd]) (rest := []) (wc := []) C hW hl (c_X10_isKind l G kd  _) k_ml_X10_108 q_X10_isKind (by decide) [] rfl rfl rfl rfl (Nat.le_of_ble_eq_true rfl) dX10_player_1 (by decide)) (fun r_720 er_720 => ?_)
  clear hW; intro H locs hW
  refine lv_as (y := bI (iw kd 0 5)) er_720 ?_
  clear er_720 r_720
  refine lv_if_eq (tgt := 24) hx hb dX10_player_4 (by decide) (fun c_721 => ?_) (fun c_721 => ?_)
  · exfalso; exact dd (by first | assumption | exact okp_nI (by omega) (by assumption) | exact decide_eq_true (by first | assumption | omega)) c_721
  · refine lv_iload_n hx hb dX10_player_7 rfl (lv_at hl 2 rfl) ?_
    refine g_fi C hW [] rfl (g_runS (As := [.int hl_]) (rest := []) (wc := []) C hW hl (c_X10_isHill l G hl_  _) k_ml_X10_112 q_X10_isHill (by decide) [] rfl rfl rfl rfl (Nat.le_of_ble_eq_true rfl) dX10_player_8 (by decide)) (fun r_722 er_722 => ?_)
    clear hW H locs; intro H locs hW
    refine lv_as (y := bI (iw hl_ 0 1)) er_722 ?_
    clear er_722 r_722
    refine lv_if_eq (tgt := 24) hx hb dX10_player_11 (by decide) (fun c_723 => ?_) (fun c_723 => ?_)
    · exfalso; exact dd (by first | assumption | exact okp_nI (by omega) (by assumption) | exact decide_eq_true (by first | assumption | omega)) c_723
    · refine lv_iload_n hx hb dX10_player_14 rfl (lv_at hl 3 rfl) ?_
      refine lv_iconst (v := 1) hx hb dX10_player_15 (by decide) ?_
      refine lv_bipush (v := 9) hx hb dX10_player_16 (by decide) ?_
      refine g_fi C hW [] rfl (g_runS (As := [.int am, .int 1, .int 9]) (rest := []) (wc := []) C hW hl (c_X10_isWithin l G am 1 9  _) k_ml_X10_73 q_X10_isWithin (by decide) [] rfl rfl rfl rfl (Nat.le_of_ble_eq_true rfl) dX10_player_18 (by decide)) (fun r_724 er_724 => ?_)
      clear hW H locs; intro H locs hW
      refine lv_as (y := bI (iw am 1 9)) er_724 ?_
      clear er_724 r_724
      refine lv_if_ne (tgt := 31) hx hb dX10_player_21 (by decide) (fun c_725 => ?_) (fun c_725 => ?_)
      · refine lv_aload_n hx hb dX10_player_31 rfl (lv_at hl 0 rfl) ?_
        refine g_get (k := 0) (v := .ref v) C hW 0 rfl rfl jnX10 (by decide) k_fl_X10_10 rfl dX10_player_32 ?_
        refine g_getN (k := 3) (v := .ref vp) (host := RX10) C hW 1 rfl rfl jnX9 (by decide) (List.mem_of_getElem? (i := 5) rfl) rfl dX10_player_35 ?_
        refine g_fi C hW [2] rfl (g_runV (As := []) (rest := []) (wc := [(vp, .inr (4, [.int 7, .int 3, .ref vpc, .int (nI n)]))]) (q0 := 0) (ci := 4) C hW hl (c_X6_isFull l G vp vpc 7 3 n (by omega) (by omega) _) k_ml_X10_115 q_X6_isFull (by decide) [2] rfl rfl rfl rfl rfl rfl (Nat.le_of_ble_eq_true rfl) dX10_player_38 (by decide)) (fun r_726 er_726 => ?_)
        clear hW H locs; intro H locs hW
        refine lv_as (y := bI (decide (7 ≤ n))) er_726 ?_
        clear er_726 r_726
        refine lv_if_eq (tgt := 49) hx hb dX10_player_41 (by decide) (fun c_727 => ?_) (fun c_727 => ?_)
        · refine lv_aload_n hx hb dX10_player_49 rfl (lv_at hl 0 rfl) ?_
          refine g_get (k := 0) (v := .ref v) C hW 0 rfl rfl jnX10 (by decide) k_fl_X10_10 rfl dX10_player_50 ?_
          refine g_getN (k := 7) (v := .ref vu) (host := RX10) C hW 1 rfl rfl jnX9 (by decide) (List.mem_of_getElem? (i := 14) rfl) rfl dX10_player_53 ?_
          refine g_fvw (wr := [(to, .inr (8, [.ref v, .ref iv, .ref jv, .int k1, .int k2, .ref rd, .ref st, .ref ra, .ref og, .int ab, .int be, .int bds, .int nos, .int fls])), (v, .inr (7, [.int wide, .ref vw, .ref vc, .ref vp, .ref vs, .ref vn, .ref vm, .ref vu])), (vp, .inr (4, [.int 7, .int 3, .ref vpc, .int (nI n)])), (vpc, .inl (G.2.1, 21, .inl pf))]) (ww := fun (u_ : Unit) => [(vu, .inr (1, [.ref vuc, .int (nI 0)]))]) (w2 := fun (u_ : Unit) => [(to, .inr (8, [.ref v, .ref iv, .ref jv, .int k1, .int k2, .ref rd, .ref st, .ref ra, .ref og, .int ab, .int be, .int bds, .int nos, .int fls])), (v, .inr (7, [.int wide, .ref vw, .ref vc, .ref vp, .ref vs, .ref vn, .ref vm, .ref vu])), (vp, .inr (4, [.int 7, .int 3, .ref vpc, .int (nI n)])), (vpc, .inl (G.2.1, 21, .inl pf)), (vu, .inr (1, [.ref vuc, .int (nI 0)]))]) C hW [4] [0, 1, 2, 3] [0, 1, 2, 3, 4] rfl rfl (by decide) (by decide) (by decide) (fun _ => rfl) (g_runV (As := []) (rest := []) (wc := [(vu, .inr (1, [.ref vuc, .int (nI u)]))]) (q0 := 0) (ci := 1) C hW hl (c_X3_forgetAll l G vu vuc u  _) k_ml_X10_103 q_X3_forgetAll (by decide) [4] rfl rfl rfl rfl rfl rfl (Nat.le_of_ble_eq_true rfl) dX10_player_56 (by decide)) (fun _ er_728 => ?_)
          clear hW H locs; intro H locs hW
          replace hW : Wd G A_ s_.heap [(to, .inr (8, [.ref v, .ref iv, .ref jv, .int k1, .int k2, .ref rd, .ref st, .ref ra, .ref og, .int ab, .int be, .int bds, .int nos, .int fls])), (v, .inr (7, [.int wide, .ref vw, .ref vc, .ref vp, .ref vs, .ref vn, .ref vm, .ref vu])), (vp, .inr (4, [.int 7, .int 3, .ref vpc, .int (nI n)])), (vpc, .inl (G.2.1, 21, .inl pf)), (vu, .inr (1, [.ref vuc, .int (nI 0)]))] H locs := hW
          refine lv_aload_n hx hb dX10_player_59 rfl (lv_at hl 0 rfl) ?_
          refine g_get (k := 0) (v := .ref v) C hW 0 rfl rfl jnX10 (by decide) k_fl_X10_10 rfl dX10_player_60 ?_
          refine g_getN (k := 3) (v := .ref vp) (host := RX10) C hW 1 rfl rfl jnX9 (by decide) (List.mem_of_getElem? (i := 5) rfl) rfl dX10_player_63 ?_
          refine lv_iload_n hx hb dX10_player_66 rfl (lv_at hl 1 rfl) ?_
          refine lv_iload_n hx hb dX10_player_67 rfl (lv_at hl 2 rfl) ?_
          refine lv_iload_n hx hb dX10_player_68 rfl (lv_at hl 3 rfl) ?_
          refine lv_iconst (v := 0) hx hb dX10_player_69 (by decide) ?_
          refine g_fiw (wr := [(to, .inr (8, [.ref v, .ref iv, .ref jv, .int k1, .int k2, .ref rd, .ref st, .ref ra, .ref og, .int ab, .int be, .int bds, .int nos, .int fls])), (v, .inr (7, [.int wide, .ref vw, .ref vc, .ref vp, .ref vs, .ref vn, .ref vm, .ref vu])), (vu, .inr (1, [.ref vuc, .int (nI 0)]))]) (ww := fun (u_ : Unit) => [(vp, .inr (4, [.int (nI 7), .int (nI 3), .ref vpc, .int (nI (n + 1))])), (vpc, .inl (G.2.1, (7 * 3), .inl (if 3 < 3 then upd (if 2 < 3 then upd (if 1 < 3 then upd (if 0 < 3 then upd pf (n * 3 + 0) kd else pf) (n * 3 + 1) hl_ else (if 0 < 3 then upd pf (n * 3 + 0) kd else pf)) (n * 3 + 2) am else (if 1 < 3 then upd (if 0 < 3 then upd pf (n * 3 + 0) kd else pf) (n * 3 + 1) hl_ else (if 0 < 3 then upd pf (n * 3 + 0) kd else pf))) (n * 3 + 3) 0 else (if 2 < 3 then upd (if 1 < 3 then upd (if 0 < 3 then upd pf (n * 3 + 0) kd else pf) (n * 3 + 1) hl_ else (if 0 < 3 then upd pf (n * 3 + 0) kd else pf)) (n * 3 + 2) am else (if 1 < 3 then upd (if 0 < 3 then upd pf (n * 3 + 0) kd else pf) (n * 3 + 1) hl_ else (if 0 < 3 then upd pf (n * 3 + 0) kd else pf))))))]) (w2 := fun (u_ : Unit) => [(to, .inr (8, [.ref v, .ref iv, .ref jv, .int k1, .int k2, .ref rd, .ref st, .ref ra, .ref og, .int ab, .int be, .int bds, .int nos, .int fls])), (v, .inr (7, [.int wide, .ref vw, .ref vc, .ref vp, .ref vs, .ref vn, .ref vm, .ref vu])), (vp, .inr (4, [.int (nI 7), .int (nI 3), .ref vpc, .int (nI (n + 1))])), (vpc, .inl (G.2.1, (7 * 3), .inl (if 3 < 3 then upd (if 2 < 3 then upd (if 1 < 3 then upd (if 0 < 3 then upd pf (n * 3 + 0) kd else pf) (n * 3 + 1) hl_ else (if 0 < 3 then upd pf (n * 3 + 0) kd else pf)) (n * 3 + 2) am else (if 1 < 3 then upd (if 0 < 3 then upd pf (n * 3 + 0) kd else pf) (n * 3 + 1) hl_ else (if 0 < 3 then upd pf (n * 3 + 0) kd else pf))) (n * 3 + 3) 0 else (if 2 < 3 then upd (if 1 < 3 then upd (if 0 < 3 then upd pf (n * 3 + 0) kd else pf) (n * 3 + 1) hl_ else (if 0 < 3 then upd pf (n * 3 + 0) kd else pf)) (n * 3 + 2) am else (if 1 < 3 then upd (if 0 < 3 then upd pf (n * 3 + 0) kd else pf) (n * 3 + 1) hl_ else (if 0 < 3 then upd pf (n * 3 + 0) kd else pf)))))), (vu, .inr (1, [.ref vuc, .int (nI 0)]))]) C hW [2, 3] [0, 1, 4] [0, 1, 3, 4, 2] rfl rfl (by decide) (by decide) (by decide) (fun _ => rfl) (g_runV (As := [.int kd, .int hl_, .int am, .int 0]) (rest := []) (wc := [(vp, .inr (4, [.int 7, .int 3, .ref vpc, .int (nI n)])), (vpc, .inl (G.2.1, 21, .inl pf))]) (q0 := 0) (ci := 4) C hW hl (c_X6_add l G vp vpc 7 3 n pf kd hl_ am 0 (by omega) (by omega) _) k_ml_X10_122 q_X6_add (by decide) [2, 3] rfl rfl rfl rfl rfl rfl (Nat.le_of_ble_eq_true rfl) dX10_player_70 (by decide)) (fun r_730 _ er_730 => ?_)
          clear hW H locs; intro H locs hW
          refine lv_as (y := nI (n + 1)) er_730 ?_
          clear er_730 r_730
          replace hW : Wd G A_ s_.heap [(to, .inr (8, [.ref v, .ref iv, .ref jv, .int k1, .int k2, .ref rd, .ref st, .ref ra, .ref og, .int ab, .int be, .int bds, .int nos, .int fls])), (v, .inr (7, [.int wide, .ref vw, .ref vc, .ref vp, .ref vs, .ref vn, .ref vm, .ref vu])), (vp, .inr (4, [.int 7, .int 3, .ref vpc, .int (nI (n + 1))])), (vpc, .inl (G.2.1, (7 * 3), .inl (if 3 < 3 then upd (if 2 < 3 then upd (if 1 < 3 then upd (if 0 < 3 then upd pf (n * 3 + 0) kd else pf) (n * 3 + 1) hl_ else (if 0 < 3 then upd pf (n * 3 + 0) kd else pf)) (n * 3 + 2) am else (if 1 < 3 then upd (if 0 < 3 then upd pf (n * 3 + 0) kd else pf) (n * 3 + 1) hl_ else (if 0 < 3 then upd pf (n * 3 + 0) kd else pf))) (n * 3 + 3) 0 else (if 2 < 3 then upd (if 1 < 3 then upd (if 0 < 3 then upd pf (n * 3 + 0) kd else pf) (n * 3 + 1) hl_ else (if 0 < 3 then upd pf (n * 3 + 0) kd else pf)) (n * 3 + 2) am else (if 1 < 3 then upd (if 0 < 3 then upd pf (n * 3 + 0) kd else pf) (n * 3 + 1) hl_ else (if 0 < 3 then upd pf (n * 3 + 0) kd else pf)))))), (vu, .inr (1, [.ref vuc, .int (nI 0)]))] H locs := hW
          replace hW : Wd G A_ s_.heap [(to, .inr (8, [.ref v, .ref iv, .ref jv, .int k1, .int k2, .ref rd, .ref st, .ref ra, .ref og, .int ab, .int be, .int bds, .int nos, .int fls])), (v, .inr (7, [.int wide, .ref vw, .ref vc, .ref vp, .ref vs, .ref vn, .ref vm, .ref vu])), (vp, .inr (4, [.int 7, .int 3, .ref vpc, .int (nI (n + 1))])), (vpc, .inl (G.2.1, (7 * 3), .inl (upd (upd (upd pf (n * 3 + 0) kd) (n * 3 + 1) hl_) (n * 3 + 2) am))), (vu, .inr (1, [.ref vuc, .int (nI 0)]))] H locs := by rw [← (show (if 3 < 3 then upd (if 2 < 3 then upd (if 1 < 3 then upd (if 0 < 3 then upd pf (n * 3 + 0) kd else pf) (n * 3 + 1) hl_ else (if 0 < 3 then upd pf (n * 3 + 0) kd else pf)) (n * 3 + 2) am else (if 1 < 3 then upd (if 0 < 3 then upd pf (n * 3 + 0) kd else pf) (n * 3 + 1) hl_ else (if 0 < 3 then upd pf (n * 3 + 0) kd else pf))) (n * 3 + 3) 0 else (if 2 < 3 then upd (if 1 < 3 then upd (if 0 < 3 then upd pf (n * 3 + 0) kd else pf) (n * 3 + 1) hl_ else (if 0 < 3 then upd pf (n * 3 + 0) kd else pf)) (n * 3 + 2) am else (if 1 < 3 then upd (if 0 < 3 then upd pf (n * 3 + 0) kd else pf) (n * 3 + 1) hl_ else (if 0 < 3 then upd pf (n * 3 + 0) kd else pf)))) = (upd (upd (upd pf (n * 3 + 0) kd) (n * 3 + 1) hl_) (n * 3 + 2) am) from by simp)]; exact hW
          refine lv_iconst (v := 1) hx hb dX10_player_73 (by decide) ?_
          refine lv_isub hx hb dX10_player_74 ?_
          refine lv_as (y := nI n) (nI_pred n) ?_
          subst hQ
          exact g_iret (v := (nI n)) C hW hrt ⟨(), by rfl, by rfl⟩ dX10_player_75
        · exfalso; exact dd0 (by first | assumption | exact decide_eq_false (by first | assumption | omega)) c_727
      · exfalso; exact dd (by first | assumption | exact okp_nI (by omega) (by assumption) | exact decide_eq_true (by first | assumption | omega)) c_725
set_option maxHeartbeats 4000000 in
set_option maxRecDepth 100000 in
theorem c_X10_player_full (l : Launch) (G : gT) (v vw vc vp vs vn vm vu : Nat) (wide : Int32) (to iv jv rd st ra og : Nat) (k1 k2 ab be bds nos fls : Int32) (vpc n : Nat) (kd hl_ am : Int32) (h1 : iw kd 0 5 = true) (h2 : iw hl_ 0 1 = true) (h3 : iw am 1 9 = true) (hn : n = 7) : MI l G yX10_player cX10_player 4 .int ({ frames := 2, cells := 0, slots := 0, locals := 42 }) [.ref to, .int kd, .int hl_, .int am] [(to, .inr (8, [.ref v, .ref iv, .ref jv, .int k1, .int k2, .ref rd, .ref st, .ref ra, .ref og, .int ab, .int be, .int bds, .int nos, .int fls])), (v, .inr (7, [.int wide, .ref vw, .ref vc, .ref vp, .ref vs, .ref vn, .ref vm, .ref vu])), (vp, .inr (4, [.int 7, .int 3, .ref vpc, .int (nI n)]))] (fun (r : Int32) w1 => ∃ u_ : Unit, (r = (-4)) ∧ w1 = [(to, .inr (8, [.ref v, .ref iv, .ref jv, .int k1, .int k2, .ref rd, .ref st, .ref ra, .ref og, .int ab, .int be, .int bds, .int nos, .int (fls + 1)])), (v, .inr (7, [.int wide, .ref vw, .ref vc, .ref vp, .ref vs, .ref vn, .ref vm, .ref vu])), (vp, .inr (4, [.int 7, .int 3, .ref vpc, .int (nI n)]))]) := by
  refine MI.mk (by decide) (Nat.le_of_ble_eq_true rfl) ?_
  intro p_ e_ s_ m_ ar_ be_ me_ cd_ A_ ls C hrt hW hl
  have hx := C.1; have hb := C.2.1; have hown := C.2.2.2.1; have ht := C.2.2.2.2.1
  replace hl : lv_has ls 4 [(0, .ref to), (1, .int kd), (2, .int hl_), (3, .int am)] := hl
  generalize hQ : MQ be_ _ ar_ s_ 0 0 A_ = Q
  refine lv_iload_n hx hb dX10_player_0 rfl (lv_at hl 1 rfl) ?_
  refine g_fi C hW [] rfl (g_runS (As := [.int kd]) (rest := []) (wc := []) C hW hl (c_X10_isKind l G kd  _) k_ml_X10_108 q_X10_isKind (by decide) [] rfl rfl rfl rfl (Nat.le_of_ble_eq_true rfl) dX10_player_1 (by decide)) (fun r_732 er_732 => ?_)
  clear hW; intro H locs hW
  refine lv_as (y := bI (iw kd 0 5)) er_732 ?_
  clear er_732 r_732
  refine lv_if_eq (tgt := 24) hx hb dX10_player_4 (by decide) (fun c_733 => ?_) (fun c_733 => ?_)
  · exfalso; exact dd (by first | assumption | exact okp_nI (by omega) (by assumption) | exact decide_eq_true (by first | assumption | omega)) c_733
  · refine lv_iload_n hx hb dX10_player_7 rfl (lv_at hl 2 rfl) ?_
    refine g_fi C hW [] rfl (g_runS (As := [.int hl_]) (rest := []) (wc := []) C hW hl (c_X10_isHill l G hl_  _) k_ml_X10_112 q_X10_isHill (by decide) [] rfl rfl rfl rfl (Nat.le_of_ble_eq_true rfl) dX10_player_8 (by decide)) (fun r_734 er_734 => ?_)
    clear hW H locs; intro H locs hW
    refine lv_as (y := bI (iw hl_ 0 1)) er_734 ?_
    clear er_734 r_734
    refine lv_if_eq (tgt := 24) hx hb dX10_player_11 (by decide) (fun c_735 => ?_) (fun c_735 => ?_)
    · exfalso; exact dd (by first | assumption | exact okp_nI (by omega) (by assumption) | exact decide_eq_true (by first | assumption | omega)) c_735
    · refine lv_iload_n hx hb dX10_player_14 rfl (lv_at hl 3 rfl) ?_
      refine lv_iconst (v := 1) hx hb dX10_player_15 (by decide) ?_
      refine lv_bipush (v := 9) hx hb dX10_player_16 (by decide) ?_
      refine g_fi C hW [] rfl (g_runS (As := [.int am, .int 1, .int 9]) (rest := []) (wc := []) C hW hl (c_X10_isWithin l G am 1 9  _) k_ml_X10_73 q_X10_isWithin (by decide) [] rfl rfl rfl rfl (Nat.le_of_ble_eq_true rfl) dX10_player_18 (by decide)) (fun r_736 er_736 => ?_)
      clear hW H locs; intro H locs hW
      refine lv_as (y := bI (iw am 1 9)) er_736 ?_
      clear er_736 r_736
      refine lv_if_ne (tgt := 31) hx hb dX10_player_21 (by decide) (fun c_737 => ?_) (fun c_737 => ?_)
      · refine lv_aload_n hx hb dX10_player_31 rfl (lv_at hl 0 rfl) ?_
        refine g_get (k := 0) (v := .ref v) C hW 0 rfl rfl jnX10 (by decide) k_fl_X10_10 rfl dX10_player_32 ?_
        refine g_getN (k := 3) (v := .ref vp) (host := RX10) C hW 1 rfl rfl jnX9 (by decide) (List.mem_of_getElem? (i := 5) rfl) rfl dX10_player_35 ?_
        refine g_fi C hW [2] rfl (g_runV (As := []) (rest := []) (wc := [(vp, .inr (4, [.int 7, .int 3, .ref vpc, .int (nI n)]))]) (q0 := 0) (ci := 4) C hW hl (c_X6_isFull l G vp vpc 7 3 n (by omega) (by omega) _) k_ml_X10_115 q_X6_isFull (by decide) [2] rfl rfl rfl rfl rfl rfl (Nat.le_of_ble_eq_true rfl) dX10_player_38 (by decide)) (fun r_738 er_738 => ?_)
        clear hW H locs; intro H locs hW
        refine lv_as (y := bI (decide (7 ≤ n))) er_738 ?_
        clear er_738 r_738
        refine lv_if_eq (tgt := 49) hx hb dX10_player_41 (by decide) (fun c_739 => ?_) (fun c_739 => ?_)
        · exfalso; exact dd (by first | assumption | exact okp_nI (by omega) (by assumption) | exact decide_eq_true (by first | assumption | omega)) c_739
        · refine lv_aload_n hx hb dX10_player_44 rfl (lv_at hl 0 rfl) ?_
          refine g_fiw (wr := [(v, .inr (7, [.int wide, .ref vw, .ref vc, .ref vp, .ref vs, .ref vn, .ref vm, .ref vu])), (vp, .inr (4, [.int 7, .int 3, .ref vpc, .int (nI n)]))]) (ww := fun (u_ : Unit) => [(to, .inr (8, [.ref v, .ref iv, .ref jv, .int k1, .int k2, .ref rd, .ref st, .ref ra, .ref og, .int ab, .int be, .int bds, .int nos, .int (fls + 1)]))]) (w2 := fun (u_ : Unit) => [(to, .inr (8, [.ref v, .ref iv, .ref jv, .int k1, .int k2, .ref rd, .ref st, .ref ra, .ref og, .int ab, .int be, .int bds, .int nos, .int (fls + 1)])), (v, .inr (7, [.int wide, .ref vw, .ref vc, .ref vp, .ref vs, .ref vn, .ref vm, .ref vu])), (vp, .inr (4, [.int 7, .int 3, .ref vpc, .int (nI n)]))]) C hW [0] [1, 2] [2, 0, 1] rfl rfl (by decide) (by decide) (by decide) (fun _ => rfl) (g_runV (As := []) (rest := []) (wc := [(to, .inr (8, [.ref v, .ref iv, .ref jv, .int k1, .int k2, .ref rd, .ref st, .ref ra, .ref og, .int ab, .int be, .int bds, .int nos, .int fls]))]) (q0 := 0) (ci := 8) C hW hl (c_X10_refuseFull l G v to iv jv rd st ra og k1 k2 ab be bds nos fls  _) k_ml_X10_119 q_X10_refuseFull (by decide) [0] rfl rfl rfl rfl rfl rfl (Nat.le_of_ble_eq_true rfl) dX10_player_45 (by decide)) (fun r_740 _ er_740 => ?_)
          clear hW H locs; intro H locs hW
          refine lv_as (y := (-4)) er_740 ?_
          clear er_740 r_740
          replace hW : Wd G A_ s_.heap [(to, .inr (8, [.ref v, .ref iv, .ref jv, .int k1, .int k2, .ref rd, .ref st, .ref ra, .ref og, .int ab, .int be, .int bds, .int nos, .int (fls + 1)])), (v, .inr (7, [.int wide, .ref vw, .ref vc, .ref vp, .ref vs, .ref vn, .ref vm, .ref vu])), (vp, .inr (4, [.int 7, .int 3, .ref vpc, .int (nI n)]))] H locs := hW
          subst hQ
          exact g_iret (v := (-4)) C hW hrt ⟨(), by rfl, by rfl⟩ dX10_player_48
      · exfalso; exact dd (by first | assumption | exact okp_nI (by omega) (by assumption) | exact decide_eq_true (by first | assumption | omega)) c_737
set_option maxHeartbeats 4000000 in
set_option maxRecDepth 100000 in
theorem c_X10_player_bad (l : Launch) (G : gT) (v : Nat) (to iv jv rd st ra og : Nat) (k1 k2 ab be bds nos fls : Int32) (kd hl_ am : Int32) (hbad : (iw kd 0 5 && (iw hl_ 0 1 && iw am 1 9)) = false) : MI l G yX10_player cX10_player 4 .int ({ frames := 2, cells := 0, slots := 0, locals := 42 }) [.ref to, .int kd, .int hl_, .int am] [(to, .inr (8, [.ref v, .ref iv, .ref jv, .int k1, .int k2, .ref rd, .ref st, .ref ra, .ref og, .int ab, .int be, .int bds, .int nos, .int fls]))] (fun (r : Int32) w1 => ∃ u_ : Unit, (r = (-2)) ∧ w1 = [(to, .inr (8, [.ref v, .ref iv, .ref jv, .int k1, .int k2, .ref rd, .ref st, .ref ra, .ref og, .int ab, .int be, .int (bds + 1), .int nos, .int fls]))]) := by
  refine MI.mk (by decide) (Nat.le_of_ble_eq_true rfl) ?_
  intro p_ e_ s_ m_ ar_ be_ me_ cd_ A_ ls C hrt hW hl
  have hx := C.1; have hb := C.2.1; have hown := C.2.2.2.1; have ht := C.2.2.2.2.1
  replace hl : lv_has ls 4 [(0, .ref to), (1, .int kd), (2, .int hl_), (3, .int am)] := hl
  generalize hQ : MQ be_ _ ar_ s_ 0 0 A_ = Q
  refine lv_iload_n hx hb dX10_player_0 rfl (lv_at hl 1 rfl) ?_
  refine g_fi C hW [] rfl (g_runS (As := [.int kd]) (rest := []) (wc := []) C hW hl (c_X10_isKind l G kd  _) k_ml_X10_108 q_X10_isKind (by decide) [] rfl rfl rfl rfl (Nat.le_of_ble_eq_true rfl) dX10_player_1 (by decide)) (fun r_742 er_742 => ?_)
  clear hW; intro H locs hW
  refine lv_as (y := bI (iw kd 0 5)) er_742 ?_
  clear er_742 r_742
  have J_748 : ∀ (H : Heap) (locs : List Loc) (ls : Array Slot), Wd G A_ s_.heap [(to, .inr (8, [.ref v, .ref iv, .ref jv, .int k1, .int k2, .ref rd, .ref st, .ref ra, .ref og, .int ab, .int be, .int bds, .int nos, .int fls]))] H locs → lv_has ls 4 [(0, .ref to), (1, .int kd), (2, .int hl_), (3, .int am)] → W p_ l e_ ({ frames := 2, cells := 0, slots := 0, locals := 42 }) s_ m_ ar_ be_ me_ cd_ H locs 0 0 Q (F0 m_ 24 ls []) := by
    intro  H locs ls hW hl
    refine lv_aload_n hx hb dX10_player_24 rfl (lv_at hl 0 rfl) ?_
    refine lv_bipush (v := (-2)) hx hb dX10_player_25 (by decide) ?_
    refine g_fiw (wr := []) (ww := fun (u_ : Unit) => [(to, .inr (8, [.ref v, .ref iv, .ref jv, .int k1, .int k2, .ref rd, .ref st, .ref ra, .ref og, .int ab, .int be, .int (bds + 1), .int nos, .int fls]))]) (w2 := fun (u_ : Unit) => [(to, .inr (8, [.ref v, .ref iv, .ref jv, .int k1, .int k2, .ref rd, .ref st, .ref ra, .ref og, .int ab, .int be, .int (bds + 1), .int nos, .int fls]))]) C hW [0] [] [0] rfl rfl (by decide) (by decide) (by decide) (fun _ => rfl) (g_runV (As := [.int (-2)]) (rest := []) (wc := [(to, .inr (8, [.ref v, .ref iv, .ref jv, .int k1, .int k2, .ref rd, .ref st, .ref ra, .ref og, .int ab, .int be, .int bds, .int nos, .int fls]))]) (q0 := 0) (ci := 8) C hW hl (c_X10_refuseBad l G v to iv jv rd st ra og k1 k2 ab be bds nos fls (-2)  _) k_ml_X10_77 q_X10_refuseBad (by decide) [0] rfl rfl rfl rfl rfl rfl (Nat.le_of_ble_eq_true rfl) dX10_player_27 (by decide)) (fun r_749 _ er_749 => ?_)
    clear hW H locs; intro H locs hW
    refine lv_as (y := (-2)) er_749 ?_
    clear er_749 r_749
    replace hW : Wd G A_ s_.heap [(to, .inr (8, [.ref v, .ref iv, .ref jv, .int k1, .int k2, .ref rd, .ref st, .ref ra, .ref og, .int ab, .int be, .int (bds + 1), .int nos, .int fls]))] H locs := hW
    subst hQ
    exact g_iret (v := (-2)) C hW hrt ⟨(), by rfl, by rfl⟩ dX10_player_30
  refine lv_if_eq (tgt := 24) hx hb dX10_player_4 (by decide) (fun c_743 => ?_) (fun c_743 => ?_)
  · exact J_748  _ _ _ hW (lv_sub hl [0, 1, 2, 3] rfl)
  · refine lv_iload_n hx hb dX10_player_7 rfl (lv_at hl 2 rfl) ?_
    refine g_fi C hW [] rfl (g_runS (As := [.int hl_]) (rest := []) (wc := []) C hW hl (c_X10_isHill l G hl_  _) k_ml_X10_112 q_X10_isHill (by decide) [] rfl rfl rfl rfl (Nat.le_of_ble_eq_true rfl) dX10_player_8 (by decide)) (fun r_751 er_751 => ?_)
    clear hW H locs; intro H locs hW
    refine lv_as (y := bI (iw hl_ 0 1)) er_751 ?_
    clear er_751 r_751
    refine lv_if_eq (tgt := 24) hx hb dX10_player_11 (by decide) (fun c_752 => ?_) (fun c_752 => ?_)
    · exact J_748  _ _ _ hW (lv_sub hl [0, 1, 2, 3] rfl)
    · refine lv_iload_n hx hb dX10_player_14 rfl (lv_at hl 3 rfl) ?_
      refine lv_iconst (v := 1) hx hb dX10_player_15 (by decide) ?_
      refine lv_bipush (v := 9) hx hb dX10_player_16 (by decide) ?_
      refine g_fi C hW [] rfl (g_runS (As := [.int am, .int 1, .int 9]) (rest := []) (wc := []) C hW hl (c_X10_isWithin l G am 1 9  _) k_ml_X10_73 q_X10_isWithin (by decide) [] rfl rfl rfl rfl (Nat.le_of_ble_eq_true rfl) dX10_player_18 (by decide)) (fun r_753 er_753 => ?_)
      clear hW H locs; intro H locs hW
      refine lv_as (y := bI (iw am 1 9)) er_753 ?_
      clear er_753 r_753
      refine lv_if_ne (tgt := 31) hx hb dX10_player_21 (by decide) (fun c_754 => ?_) (fun c_754 => ?_)
      · exfalso; simp [bI_ne.mp c_743, bI_ne.mp c_752, bI_ne.mp c_754, if_true, if_false, reduceIte, Bool.false_eq_true] at hbad
      · exact J_748  _ _ _ hW (lv_sub hl [0, 1, 2, 3] rfl)
