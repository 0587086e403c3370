set_option maxHeartbeats 4000000 in
set_option maxRecDepth 100000 in
theorem c_X9_hour (l : Launch) (G : gT) (v vw vc vp vs vn vm vu : Nat) (wide : Int32) (ck : Nat → Int32)  : MI l G yX9_hour cX9_hour 1 .int ({ frames := 0, cells := 0, slots := 0, locals := 0 }) [.ref v] [(v, .inr (7, [.int wide, .ref vw, .ref vc, .ref vp, .ref vs, .ref vn, .ref vm, .ref vu])), (vc, .inl (G.2.1, 7, .inl ck))] (fun (r : Int32) w1 => (r = ck 6) ∧ w1 = [(v, .inr (7, [.int wide, .ref vw, .ref vc, .ref vp, .ref vs, .ref vn, .ref vm, .ref vu])), (vc, .inl (G.2.1, 7, .inl ck))]) := by
  refine MI.mk (by decide) (Nat.le_of_ble_eq_true rfl) ?_
  intro p_ e_ s_ m_ ar_ be_ me_ cd_ A_ ls C hrt hW hl
  have hx := C.1; have hb := C.2.1; have hown := C.2.2.2.1; have ht := C.2.2.2.2.1
  replace hl : lv_has ls 1 [(0, .ref v)] := hl
  generalize hQ : MQ be_ _ ar_ s_ 0 0 A_ = Q
  refine lv_aload_n hx hb dX9_hour_0 rfl (lv_at hl 0 rfl) ?_
  refine g_get (k := 2) (v := .ref vc) C hW 0 rfl rfl jnX9 (by decide) k_fl_X9_19 rfl dX9_hour_1 ?_
  refine lv_bipush (v := 6) hx hb dX9_hour_4 (by decide) ?_
  refine g_ald C hW 1 rfl (vp_in_nI (n := 6) (by omega) (by omega)) dX9_hour_6 ?_
  refine lv_as (y := ck 6) (rfl) ?_
  subst hQ
  exact g_iret (v := (ck 6)) C hW hrt ⟨by first | rfl | (simp only [if_true, if_false, reduceIte]; done) | (simp []; done) | (simp_all []; done) | (simp only []; (repeat' split) <;> first | rfl | (simp_all; done)), rfl⟩ dX9_hour_7
set_option maxHeartbeats 4000000 in
set_option maxRecDepth 100000 in
theorem c_X9_hill (l : Launch) (G : gT) (v vw vc vp vs vn vm vu : Nat) (wide : Int32) (ck : Nat → Int32)  : MI l G yX9_hill cX9_hill 1 .int ({ frames := 0, cells := 0, slots := 0, locals := 0 }) [.ref v] [(v, .inr (7, [.int wide, .ref vw, .ref vc, .ref vp, .ref vs, .ref vn, .ref vm, .ref vu])), (vc, .inl (G.2.1, 7, .inl ck))] (fun (r : Int32) w1 => (r = ck 2) ∧ w1 = [(v, .inr (7, [.int wide, .ref vw, .ref vc, .ref vp, .ref vs, .ref vn, .ref vm, .ref vu])), (vc, .inl (G.2.1, 7, .inl ck))]) := by
  refine MI.mk (by decide) (Nat.le_of_ble_eq_true rfl) ?_
  intro p_ e_ s_ m_ ar_ be_ me_ cd_ A_ ls C hrt hW hl
  have hx := C.1; have hb := C.2.1; have hown := C.2.2.2.1; have ht := C.2.2.2.2.1
  replace hl : lv_has ls 1 [(0, .ref v)] := hl
  generalize hQ : MQ be_ _ ar_ s_ 0 0 A_ = Q
  refine lv_aload_n hx hb dX9_hill_0 rfl (lv_at hl 0 rfl) ?_
  refine g_get (k := 2) (v := .ref vc) C hW 0 rfl rfl jnX9 (by decide) k_fl_X9_19 rfl dX9_hill_1 ?_
  refine lv_iconst (v := 2) hx hb dX9_hill_4 (by decide) ?_
  refine g_ald C hW 1 rfl (vp_in_nI (n := 2) (by omega) (by omega)) dX9_hill_5 ?_
  refine lv_as (y := ck 2) (rfl) ?_
  subst hQ
  exact g_iret (v := (ck 2)) C hW hrt ⟨by first | rfl | (simp only [if_true, if_false, reduceIte]; done) | (simp []; done) | (simp_all []; done) | (simp only []; (repeat' split) <;> first | rfl | (simp_all; done)), rfl⟩ dX9_hill_6
set_option maxHeartbeats 4000000 in
set_option maxRecDepth 100000 in
theorem c_X9_isUp (l : Launch) (G : gT) (v vw vc vp vs vn vm vu : Nat) (wide : Int32) (ck : Nat → Int32)  : MI l G yX9_isUp cX9_isUp 1 .boolean ({ frames := 0, cells := 0, slots := 0, locals := 0 }) [.ref v] [(v, .inr (7, [.int wide, .ref vw, .ref vc, .ref vp, .ref vs, .ref vn, .ref vm, .ref vu])), (vc, .inl (G.2.1, 7, .inl ck))] (fun (r : Int32) w1 => (r = bI (decide (ck 3 = 1))) ∧ w1 = [(v, .inr (7, [.int wide, .ref vw, .ref vc, .ref vp, .ref vs, .ref vn, .ref vm, .ref vu])), (vc, .inl (G.2.1, 7, .inl ck))]) := by
  refine MI.mk (by decide) (Nat.le_of_ble_eq_true rfl) ?_
  intro p_ e_ s_ m_ ar_ be_ me_ cd_ A_ ls C hrt hW hl
  have hx := C.1; have hb := C.2.1; have hown := C.2.2.2.1; have ht := C.2.2.2.2.1
  replace hl : lv_has ls 1 [(0, .ref v)] := hl
  generalize hQ : MQ be_ _ ar_ s_ 0 0 A_ = Q
  refine lv_aload_n hx hb dX9_isUp_0 rfl (lv_at hl 0 rfl) ?_
  refine g_get (k := 2) (v := .ref vc) C hW 0 rfl rfl jnX9 (by decide) k_fl_X9_19 rfl dX9_isUp_1 ?_
  refine lv_iconst (v := 3) hx hb dX9_isUp_4 (by decide) ?_
  refine g_ald C hW 1 rfl (vp_in_nI (n := 3) (by omega) (by omega)) dX9_isUp_5 ?_
  refine lv_as (y := ck 3) (rfl) ?_
  refine lv_iconst (v := 1) hx hb dX9_isUp_6 (by decide) ?_
  have J_81 : ∀ (y_80 : Int32) (_ : y_80 = (if (ck 3) = 1 then 1 else 0)), ∀ (H : Heap) (locs : List Loc) (ls : Array Slot), Wd G A_ s_.heap [(v, .inr (7, [.int wide, .ref vw, .ref vc, .ref vp, .ref vs, .ref vn, .ref vm, .ref vu])), (vc, .inl (G.2.1, 7, .inl ck))] H locs → lv_has ls 1 [(0, .ref v)] → W p_ l e_ ({ frames := 0, cells := 0, slots := 0, locals := 0 }) s_ m_ ar_ be_ me_ cd_ H locs 0 0 Q (F0 m_ 15 ls [.int y_80]) := by
    intro y_80 ey_80 H locs ls hW hl
    subst hQ
    exact g_zret (v := y_80) C hW hrt (by first | rfl | exact bI_nar _ | (simp only [ey_80]; (repeat' split) <;> rfl)) ⟨by (simp only [ey_80]; exact bI_if), rfl⟩ dX9_isUp_15
  refine lv_icmp_ne (tgt := 14) hx hb dX9_isUp_7 (by decide) (fun c_79 => ?_) (fun c_79 => ?_)
  · refine lv_iconst (v := 0) hx hb dX9_isUp_14 (by decide) ?_
    exact J_81 0 (by first | rfl | (simp only [c_79, if_true, if_false, reduceIte]; done) | (simp [c_79]; done)) _ _ _ hW (lv_sub hl [0] rfl)
  · refine lv_iconst (v := 1) hx hb dX9_isUp_10 (by decide) ?_
    refine lv_goto (tgt := 15) hx hb dX9_isUp_11 (by decide) ?_
    exact J_81 1 (by first | rfl | (simp only [c_79, if_true, if_false, reduceIte]; done) | (simp [c_79]; done)) _ _ _ hW (lv_sub hl [0] rfl)
set_option maxHeartbeats 4000000 in
set_option maxRecDepth 100000 in
theorem c_X9_windIn (l : Launch) (G : gT) (v vw vc vp vs vn vm vu : Nat) (wide : Int32) (wd : Nat → Int32) (hr : Nat) (hh : hr < 100000) : MI l G yX9_windIn cX9_windIn 2 .int ({ frames := 1, cells := 0, slots := 0, locals := 22 }) [.ref v, .int (nI hr)] [(v, .inr (7, [.int wide, .ref vw, .ref vc, .ref vp, .ref vs, .ref vn, .ref vm, .ref vu])), (vw, .inl (G.2.1, 6, .inl wd))] (fun (r : Int32) w1 => (r = wd (hr % 6)) ∧ w1 = [(v, .inr (7, [.int wide, .ref vw, .ref vc, .ref vp, .ref vs, .ref vn, .ref vm, .ref vu])), (vw, .inl (G.2.1, 6, .inl wd))]) := by
  refine MI.mk (by decide) (Nat.le_of_ble_eq_true rfl) ?_
  intro p_ e_ s_ m_ ar_ be_ me_ cd_ A_ ls C hrt hW hl
  have hx := C.1; have hb := C.2.1; have hown := C.2.2.2.1; have ht := C.2.2.2.2.1
  replace hl : lv_has ls 2 [(0, .ref v), (1, .int (nI hr))] := hl
  generalize hQ : MQ be_ _ ar_ s_ 0 0 A_ = Q
  refine lv_aload_n hx hb dX9_windIn_0 rfl (lv_at hl 0 rfl) ?_
  refine g_get (k := 1) (v := .ref vw) C hW 0 rfl rfl jnX9 (by decide) k_fl_X9_15 rfl dX9_windIn_1 ?_
  refine lv_iload_n hx hb dX9_windIn_4 rfl (lv_at hl 1 rfl) ?_
  refine lv_bipush (v := 6) hx hb dX9_windIn_5 (by decide) ?_
  refine g_fi C hW [] rfl (g_runS (As := [.int (nI hr), .int 6]) (rest := [.ref vw]) (wc := []) C hW hl (c_J9_floorMod_7cf53 l G hr 6 (by omega) (by omega) _) k_ml_X9_73 q_J9_floorMod_7cf53 (by decide) [] rfl rfl rfl rfl (Nat.le_of_ble_eq_true rfl) dX9_windIn_7 (by decide)) (fun r_82 er_82 => ?_)
  clear hW; intro H locs hW
  subst er_82
  refine g_ald C hW 1 rfl (ix_in (show (nI (hr % 6)) = nI (hr % 6) from (by first | rfl | (simp only [nI_lit, nI_add, pk_mul]; done) | (simp only [nI_lit, nI_add, pk_mul]; congr 1; omega))) (by exact Nat.mod_lt _ (by decide)) (by omega)) dX9_windIn_10 ?_
  refine lv_as (y := wd (hr % 6)) (by rw [show (nI (hr % 6)).toNatClampNeg = (hr % 6) from ix_cl (show (nI (hr % 6)) = nI (hr % 6) from (by first | rfl | (simp only [nI_lit, nI_add, pk_mul]; done) | (simp only [nI_lit, nI_add, pk_mul]; congr 1; omega))) (Nat.lt_of_lt_of_le (m := 6) (by exact Nat.mod_lt _ (by decide)) (by omega))]) ?_
  subst hQ
  exact g_iret (v := (wd (hr % 6))) C hW hrt ⟨by first | rfl | (simp only [if_true, if_false, reduceIte]; done) | (simp []; done) | (simp_all []; done) | (simp only []; (repeat' split) <;> first | rfl | (simp_all; done)), rfl⟩ dX9_windIn_11
set_option maxHeartbeats 4000000 in
set_option maxRecDepth 100000 in
theorem c_X9_help (l : Launch) (G : gT) (hill w : Int32)  : MI l G yX9_help cX9_help 2 .int ({ frames := 0, cells := 0, slots := 0, locals := 0 }) [.int hill, .int w] [] (fun (r : Int32) w1 => (r = hp hill w) ∧ w1 = []) := by
  refine MI.mk (by decide) (Nat.le_of_ble_eq_true rfl) ?_
  intro p_ e_ s_ m_ ar_ be_ me_ cd_ A_ ls C hrt hW hl
  have hx := C.1; have hb := C.2.1; have hown := C.2.2.2.1; have ht := C.2.2.2.2.1
  replace hl : lv_has ls 2 [(0, .int hill), (1, .int w)] := hl
  generalize hQ : MQ be_ _ ar_ s_ 0 0 A_ = Q
  refine lv_iload_n hx hb dX9_help_0 rfl (lv_at hl 0 rfl) ?_
  have J_85 : ∀ (y_84 : Int32) (_ : y_84 = (if hill = 0 then w else -w)), ∀ (H : Heap) (locs : List Loc) (ls : Array Slot), Wd G A_ s_.heap [] H locs → lv_has ls 2 [(0, .int hill), (1, .int w)] → W p_ l e_ ({ frames := 0, cells := 0, slots := 0, locals := 0 }) s_ m_ ar_ be_ me_ cd_ H locs 0 0 Q (F0 m_ 10 ls [.int y_84]) := by
    intro y_84 ey_84 H locs ls hW hl
    subst hQ
    exact g_iret (v := y_84) C hW hrt ⟨by first | rfl | (simp only [hp, ey_84, if_true, if_false, reduceIte]; done) | (simp [hp, ey_84]; done) | (simp_all [hp]; done) | (simp only [hp, ey_84]; (repeat' split) <;> first | rfl | (simp_all; done)), rfl⟩ dX9_help_10
  refine lv_if_ne (tgt := 8) hx hb dX9_help_1 (by decide) (fun c_83 => ?_) (fun c_83 => ?_)
  · refine lv_iload_n hx hb dX9_help_8 rfl (lv_at hl 1 rfl) ?_
    refine lv_ineg hx hb dX9_help_9 ?_
    exact J_85 (-w) (by first | rfl | (simp only [c_83, if_true, if_false, reduceIte]; done) | (simp [c_83]; done)) _ _ _ hW (lv_sub hl [0, 1] rfl)
  · refine lv_iload_n hx hb dX9_help_4 rfl (lv_at hl 1 rfl) ?_
    refine lv_goto (tgt := 10) hx hb dX9_help_5 (by decide) ?_
    exact J_85 w (by first | rfl | (simp only [c_83, if_true, if_false, reduceIte]; done) | (simp [c_83]; done)) _ _ _ hW (lv_sub hl [0, 1] rfl)
set_option maxHeartbeats 4000000 in
set_option maxRecDepth 100000 in
theorem c_X9_helpFrom (l : Launch) (G : gT) (v vw vc vp vs vn vm vu : Nat) (wide : Int32) (wd : Nat → Int32) (hill : Int32) (hr : Nat) (hh : hr < 100000) : MI l G yX9_helpFrom cX9_helpFrom 3 .int ({ frames := 1, cells := 0, slots := 0, locals := 22 }) [.ref v, .int hill, .int (nI hr)] [(v, .inr (7, [.int wide, .ref vw, .ref vc, .ref vp, .ref vs, .ref vn, .ref vm, .ref vu])), (vw, .inl (G.2.1, 6, .inl wd))] (fun (r : Int32) w1 => (r = hp hill (wd (hr % 6))) ∧ w1 = [(v, .inr (7, [.int wide, .ref vw, .ref vc, .ref vp, .ref vs, .ref vn, .ref vm, .ref vu])), (vw, .inl (G.2.1, 6, .inl wd))]) := by
  refine MI.mk (by decide) (Nat.le_of_ble_eq_true rfl) ?_
  intro p_ e_ s_ m_ ar_ be_ me_ cd_ A_ ls C hrt hW hl
  have hx := C.1; have hb := C.2.1; have hown := C.2.2.2.1; have ht := C.2.2.2.2.1
  replace hl : lv_has ls 3 [(0, .ref v), (1, .int hill), (2, .int (nI hr))] := hl
  generalize hQ : MQ be_ _ ar_ s_ 0 0 A_ = Q
  refine lv_iload_n hx hb dX9_helpFrom_0 rfl (lv_at hl 1 rfl) ?_
  refine lv_aload_n hx hb dX9_helpFrom_1 rfl (lv_at hl 0 rfl) ?_
  refine g_get (k := 1) (v := .ref vw) C hW 0 rfl rfl jnX9 (by decide) k_fl_X9_15 rfl dX9_helpFrom_2 ?_
  refine lv_iload_n hx hb dX9_helpFrom_5 rfl (lv_at hl 2 rfl) ?_
  refine lv_bipush (v := 6) hx hb dX9_helpFrom_6 (by decide) ?_
  refine g_fi C hW [] rfl (g_runS (As := [.int (nI hr), .int 6]) (rest := [.ref vw, .int hill]) (wc := []) C hW hl (c_J9_floorMod_7cf53 l G hr 6 (by omega) (by omega) _) k_ml_X9_73 q_J9_floorMod_7cf53 (by decide) [] rfl rfl rfl rfl (Nat.le_of_ble_eq_true rfl) dX9_helpFrom_8 (by decide)) (fun r_86 er_86 => ?_)
  clear hW; intro H locs hW
  subst er_86
  refine g_ald C hW 1 rfl (ix_in (show (nI (hr % 6)) = nI (hr % 6) from (by first | rfl | (simp only [nI_lit, nI_add, pk_mul]; done) | (simp only [nI_lit, nI_add, pk_mul]; congr 1; omega))) (by exact Nat.mod_lt _ (by decide)) (by omega)) dX9_helpFrom_11 ?_
  refine lv_as (y := wd (hr % 6)) (by rw [show (nI (hr % 6)).toNatClampNeg = (hr % 6) from ix_cl (show (nI (hr % 6)) = nI (hr % 6) from (by first | rfl | (simp only [nI_lit, nI_add, pk_mul]; done) | (simp only [nI_lit, nI_add, pk_mul]; congr 1; omega))) (Nat.lt_of_lt_of_le (m := 6) (by exact Nat.mod_lt _ (by decide)) (by omega))]) ?_
  refine g_fi C hW [] rfl (g_runS (As := [.int hill, .int (wd (hr % 6))]) (rest := []) (wc := []) C hW hl (c_X9_help l G hill (wd (hr % 6))  _) k_ml_X9_79 q_X9_help (by decide) [] rfl rfl rfl rfl (Nat.le_of_ble_eq_true rfl) dX9_helpFrom_12 (by decide)) (fun r_87 er_87 => ?_)
  clear hW H locs; intro H locs hW
  subst er_87
  subst hQ
  exact g_iret (v := (hp hill (wd (hr % 6)))) C hW hrt ⟨by first | rfl | (simp only [if_true, if_false, reduceIte]; done) | (simp []; done) | (simp_all []; done) | (simp only []; (repeat' split) <;> first | rfl | (simp_all; done)), rfl⟩ dX9_helpFrom_15
set_option maxHeartbeats 4000000 in
set_option maxRecDepth 100000 in
theorem c_X9_force (l : Launch) (G : gT) (v vw vc vp vs vn vm vu : Nat) (wide : Int32) (vpc n : Nat) (pf : Nat → Int32) (k hr : Nat) (hk : k < n) (hn : n ≤ 7) (hh : hr < 100000) : MI l G yX9_force cX9_force 3 .int ({ frames := 1, cells := 0, slots := 0, locals := 25 }) [.ref v, .int (nI k), .int (nI hr)] [(v, .inr (7, [.int wide, .ref vw, .ref vc, .ref vp, .ref vs, .ref vn, .ref vm, .ref vu])), (vp, .inr (4, [.int 7, .int 3, .ref vpc, .int (nI n)])), (vpc, .inl (G.2.1, 21, .inl pf))] (fun (r : Int32) w1 => (r = bl (pf (k * 3 + 0)) (pf (k * 3 + 2)) (nI (hr % 24))) ∧ w1 = [(v, .inr (7, [.int wide, .ref vw, .ref vc, .ref vp, .ref vs, .ref vn, .ref vm, .ref vu])), (vp, .inr (4, [.int 7, .int 3, .ref vpc, .int (nI n)])), (vpc, .inl (G.2.1, 21, .inl pf))]) := by
  refine MI.mk (by decide) (Nat.le_of_ble_eq_true rfl) ?_
  intro p_ e_ s_ m_ ar_ be_ me_ cd_ A_ ls C hrt hW hl
  have hx := C.1; have hb := C.2.1; have hown := C.2.2.2.1; have ht := C.2.2.2.2.1
  replace hl : lv_has ls 3 [(0, .ref v), (1, .int (nI k)), (2, .int (nI hr))] := hl
  generalize hQ : MQ be_ _ ar_ s_ 0 0 A_ = Q
  refine lv_aload_n hx hb dX9_force_0 rfl (lv_at hl 0 rfl) ?_
  refine g_get (k := 3) (v := .ref vp) C hW 0 rfl rfl jnX9 (by decide) k_fl_X9_27 rfl dX9_force_1 ?_
  refine lv_iload_n hx hb dX9_force_4 rfl (lv_at hl 1 rfl) ?_
  refine lv_iconst (v := 0) hx hb dX9_force_5 (by decide) ?_
  refine g_fi C hW [1, 2] rfl (g_runV (As := [.int (nI k), .int 0]) (rest := []) (wc := [(vp, .inr (4, [.int 7, .int 3, .ref vpc, .int (nI n)])), (vpc, .inl (G.2.1, 21, .inl pf))]) (q0 := 0) (ci := 4) C hW hl (c_X6_cell l G vp vpc 7 3 n pf k 0 (by first | assumption | omega) (by first | assumption | omega) (by first | assumption | omega) (by first | assumption | omega) _) k_ml_X9_82 q_X6_cell (by decide) [1, 2] rfl rfl rfl rfl rfl rfl (Nat.le_of_ble_eq_true rfl) dX9_force_6 (by decide)) (fun r_88 er_88 => ?_)
  clear hW; intro H locs hW
  subst er_88
  refine lv_aload_n hx hb dX9_force_9 rfl (lv_at hl 0 rfl) ?_
  refine g_get (k := 3) (v := .ref vp) C hW 0 rfl rfl jnX9 (by decide) k_fl_X9_27 rfl dX9_force_10 ?_
  refine lv_iload_n hx hb dX9_force_13 rfl (lv_at hl 1 rfl) ?_
  refine lv_iconst (v := 2) hx hb dX9_force_14 (by decide) ?_
  refine g_fi C hW [1, 2] rfl (g_runV (As := [.int (nI k), .int 2]) (rest := [.int (pf (k * 3 + 0))]) (wc := [(vp, .inr (4, [.int 7, .int 3, .ref vpc, .int (nI n)])), (vpc, .inl (G.2.1, 21, .inl pf))]) (q0 := 0) (ci := 4) C hW hl (c_X6_cell l G vp vpc 7 3 n pf k 2 (by first | assumption | omega) (by first | assumption | omega) (by first | assumption | omega) (by first | assumption | omega) _) k_ml_X9_82 q_X6_cell (by decide) [1, 2] rfl rfl rfl rfl rfl rfl (Nat.le_of_ble_eq_true rfl) dX9_force_15 (by decide)) (fun r_89 er_89 => ?_)
  clear hW H locs; intro H locs hW
  subst er_89
  refine lv_iload_n hx hb dX9_force_18 rfl (lv_at hl 2 rfl) ?_
  refine lv_bipush (v := 24) hx hb dX9_force_19 (by decide) ?_
  refine g_fi C hW [] rfl (g_runS (As := [.int (nI hr), .int 24]) (rest := [.int (pf (k * 3 + 2)), .int (pf (k * 3 + 0))]) (wc := []) C hW hl (c_J9_floorMod_7cf53 l G hr 24 (by omega) (by omega) _) k_ml_X9_73 q_J9_floorMod_7cf53 (by decide) [] rfl rfl rfl rfl (Nat.le_of_ble_eq_true rfl) dX9_force_21 (by decide)) (fun r_90 er_90 => ?_)
  clear hW H locs; intro H locs hW
  subst er_90
  refine g_fi C hW [] rfl (g_runS (As := [.int (pf (k * 3 + 0)), .int (pf (k * 3 + 2)), .int (nI (hr % 24))]) (rest := []) (wc := []) C hW hl (c_X2_blow l G (pf (k * 3 + 0)) (pf (k * 3 + 2)) (nI (hr % 24))  _) k_ml_X9_85 q_X2_blow (by decide) [] rfl rfl rfl rfl (Nat.le_of_ble_eq_true rfl) dX9_force_24 (by decide)) (fun r_91 er_91 => ?_)
  clear hW H locs; intro H locs hW
  subst er_91
  subst hQ
  exact g_iret (v := (bl (pf (k * 3 + 0)) (pf (k * 3 + 2)) (nI (hr % 24)))) C hW hrt ⟨by first | rfl | (simp only [if_true, if_false, reduceIte]; done) | (simp []; done) | (simp_all []; done) | (simp only []; (repeat' split) <;> first | rfl | (simp_all; done)), rfl⟩ dX9_force_27
set_option maxHeartbeats 4000000 in
set_option maxRecDepth 100000 in
theorem c_X9_flightFrom (l : Launch) (G : gT) (v vw vc vp vs vn vm vu : Nat) (wide : Int32) (vpc n : Nat) (pf : Nat → Int32) (ck wd : Nat → Int32) (k hr : Nat) (hill g : Int32) (hk : k < n) (hn : n ≤ 7) (hh : hr < 100000) (hP : okP n pf) (hWd : okW wd) (hg : Rg g 1 9) : MI l G yX9_flightFrom cX9_flightFrom 5 .int ({ frames := 2, cells := 0, slots := 0, locals := 47 }) [.ref v, .int (nI k), .int hill, .int (nI hr), .int g] [(v, .inr (7, [.int wide, .ref vw, .ref vc, .ref vp, .ref vs, .ref vn, .ref vm, .ref vu])), (vp, .inr (4, [.int 7, .int 3, .ref vpc, .int (nI n)])), (vpc, .inl (G.2.1, 21, .inl pf)), (vc, .inl (G.2.1, 7, .inl ck)), (vw, .inl (G.2.1, 6, .inl wd))] (fun (r : Int32) w1 => (r = rch ck wd pf k hr hill g) ∧ w1 = [(v, .inr (7, [.int wide, .ref vw, .ref vc, .ref vp, .ref vs, .ref vn, .ref vm, .ref vu])), (vp, .inr (4, [.int 7, .int 3, .ref vpc, .int (nI n)])), (vpc, .inl (G.2.1, 21, .inl pf)), (vc, .inl (G.2.1, 7, .inl ck)), (vw, .inl (G.2.1, 6, .inl wd))]) := by
  refine MI.mk (by decide) (Nat.le_of_ble_eq_true rfl) ?_
  intro p_ e_ s_ m_ ar_ be_ me_ cd_ A_ ls C hrt hW hl
  have hx := C.1; have hb := C.2.1; have hown := C.2.2.2.1; have ht := C.2.2.2.2.1
  replace hl : lv_has ls 5 [(0, .ref v), (1, .int (nI k)), (2, .int hill), (3, .int (nI hr)), (4, .int g)] := hl
  generalize hQ : MQ be_ _ ar_ s_ 0 0 A_ = Q
  refine lv_aload_n hx hb dX9_flightFrom_0 rfl (lv_at hl 0 rfl) ?_
  refine g_get (k := 2) (v := .ref vc) C hW 0 rfl rfl jnX9 (by decide) k_fl_X9_19 rfl dX9_flightFrom_1 ?_
  refine lv_iconst (v := 0) hx hb dX9_flightFrom_4 (by decide) ?_
  refine g_ald C hW 3 rfl (vp_in_nI (n := 0) (by omega) (by omega)) dX9_flightFrom_5 ?_
  refine lv_as (y := ck 0) (rfl) ?_
  refine lv_iload hx hb dX9_flightFrom_6 (lv_at hl 4 rfl) ?_
  refine lv_aload_n hx hb dX9_flightFrom_8 rfl (lv_at hl 0 rfl) ?_
  refine lv_iload_n hx hb dX9_flightFrom_9 rfl (lv_at hl 1 rfl) ?_
  refine lv_iload_n hx hb dX9_flightFrom_10 rfl (lv_at hl 3 rfl) ?_
  refine g_fi C hW [0, 1, 2] rfl (g_runV (As := [.int (nI k), .int (nI hr)]) (rest := [.int g, .int (ck 0)]) (wc := [(v, .inr (7, [.int wide, .ref vw, .ref vc, .ref vp, .ref vs, .ref vn, .ref vm, .ref vu])), (vp, .inr (4, [.int 7, .int 3, .ref vpc, .int (nI n)])), (vpc, .inl (G.2.1, 21, .inl pf))]) (q0 := 0) (ci := 7) C hW hl (c_X9_force l G v vw vc vp vs vn vm vu wide vpc n pf k hr (by first | assumption | omega) (by first | assumption | omega) (by omega) _) k_ml_X9_91 q_X9_force (by decide) [0, 1, 2] rfl rfl rfl rfl rfl rfl (Nat.le_of_ble_eq_true rfl) dX9_flightFrom_11 (by decide)) (fun r_92 er_92 => ?_)
  clear hW; intro H locs hW
  subst er_92
  refine lv_aload_n hx hb dX9_flightFrom_14 rfl (lv_at hl 0 rfl) ?_
  refine lv_iload_n hx hb dX9_flightFrom_15 rfl (lv_at hl 2 rfl) ?_
  refine lv_iload_n hx hb dX9_flightFrom_16 rfl (lv_at hl 3 rfl) ?_
  refine g_fi C hW [0, 4] rfl (g_runV (As := [.int hill, .int (nI hr)]) (rest := [.int (bl (pf (k * 3 + 0)) (pf (k * 3 + 2)) (nI (hr % 24))), .int g, .int (ck 0)]) (wc := [(v, .inr (7, [.int wide, .ref vw, .ref vc, .ref vp, .ref vs, .ref vn, .ref vm, .ref vu])), (vw, .inl (G.2.1, 6, .inl wd))]) (q0 := 0) (ci := 7) C hW hl (c_X9_helpFrom l G v vw vc vp vs vn vm vu wide wd hill hr (by omega) _) k_ml_X9_94 q_X9_helpFrom (by decide) [0, 4] rfl rfl rfl rfl rfl rfl (Nat.le_of_ble_eq_true rfl) dX9_flightFrom_17 (by decide)) (fun r_93 er_93 => ?_)
  clear hW H locs; intro H locs hW
  subst er_93
  refine g_fi C hW [] rfl (g_runS (As := [.int (ck 0), .int g, .int (bl (pf (k * 3 + 0)) (pf (k * 3 + 2)) (nI (hr % 24))), .int (hp hill (wd (hr % 6)))]) (rest := []) (wc := []) C hW hl (c_X2_flight l G (ck 0) g (bl (pf (k * 3 + 0)) (pf (k * 3 + 2)) (nI (hr % 24))) (hp hill (wd (hr % 6))) (by exact hg) (by exact bl_rg (hP _ hk)) (by exact hp_rg (hWd _ (Nat.mod_lt _ (by decide)))) _) k_ml_X9_97 q_X2_flight (by decide) [] rfl rfl rfl rfl (Nat.le_of_ble_eq_true rfl) dX9_flightFrom_20 (by decide)) (fun r_94 er_94 => ?_)
  clear hW H locs; intro H locs hW
  subst er_94
  subst hQ
  exact g_iret (v := (fl (ck 0) g (bl (pf (k * 3 + 0)) (pf (k * 3 + 2)) (nI (hr % 24))) (hp hill (wd (hr % 6))))) C hW hrt ⟨by first | rfl | (simp only [if_true, if_false, reduceIte]; done) | (simp []; done) | (simp_all []; done) | (simp only []; (repeat' split) <;> first | rfl | (simp_all; done)), rfl⟩ dX9_flightFrom_23
set_option maxHeartbeats 4000000 in
set_option maxRecDepth 100000 in
theorem c_X9_reachOf (l : Launch) (G : gT) (v vw vc vp vs vn vm vu : Nat) (wide : Int32) (vpc n : Nat) (pf : Nat → Int32) (ck wd : Nat → Int32) (k hr : Nat) (hk : k < n) (hn : n ≤ 7) (hh : hr < 100000) (hP : okP n pf) (hWd : okW wd) (hg : Rg (ck 1) 1 9) : MI l G yX9_reachOf cX9_reachOf 3 .int ({ frames := 3, cells := 0, slots := 0, locals := 71 }) [.ref v, .int (nI k), .int (nI hr)] [(v, .inr (7, [.int wide, .ref vw, .ref vc, .ref vp, .ref vs, .ref vn, .ref vm, .ref vu])), (vp, .inr (4, [.int 7, .int 3, .ref vpc, .int (nI n)])), (vpc, .inl (G.2.1, 21, .inl pf)), (vc, .inl (G.2.1, 7, .inl ck)), (vw, .inl (G.2.1, 6, .inl wd))] (fun (r : Int32) w1 => (r = rch ck wd pf k hr (pf (k * 3 + 1)) (ck 1)) ∧ w1 = [(v, .inr (7, [.int wide, .ref vw, .ref vc, .ref vp, .ref vs, .ref vn, .ref vm, .ref vu])), (vp, .inr (4, [.int 7, .int 3, .ref vpc, .int (nI n)])), (vpc, .inl (G.2.1, 21, .inl pf)), (vc, .inl (G.2.1, 7, .inl ck)), (vw, .inl (G.2.1, 6, .inl wd))]) := by
  refine MI.mk (by decide) (Nat.le_of_ble_eq_true rfl) ?_
  intro p_ e_ s_ m_ ar_ be_ me_ cd_ A_ ls C hrt hW hl
  have hx := C.1; have hb := C.2.1; have hown := C.2.2.2.1; have ht := C.2.2.2.2.1
  replace hl : lv_has ls 3 [(0, .ref v), (1, .int (nI k)), (2, .int (nI hr))] := hl
  generalize hQ : MQ be_ _ ar_ s_ 0 0 A_ = Q
  refine lv_aload_n hx hb dX9_reachOf_0 rfl (lv_at hl 0 rfl) ?_
  refine lv_iload_n hx hb dX9_reachOf_1 rfl (lv_at hl 1 rfl) ?_
  refine lv_aload_n hx hb dX9_reachOf_2 rfl (lv_at hl 0 rfl) ?_
  refine g_get (k := 3) (v := .ref vp) C hW 0 rfl rfl jnX9 (by decide) k_fl_X9_27 rfl dX9_reachOf_3 ?_
  refine lv_iload_n hx hb dX9_reachOf_6 rfl (lv_at hl 1 rfl) ?_
  refine lv_iconst (v := 1) hx hb dX9_reachOf_7 (by decide) ?_
  refine g_fi C hW [1, 2] rfl (g_runV (As := [.int (nI k), .int 1]) (rest := [.int (nI k), .ref v]) (wc := [(vp, .inr (4, [.int 7, .int 3, .ref vpc, .int (nI n)])), (vpc, .inl (G.2.1, 21, .inl pf))]) (q0 := 0) (ci := 4) C hW hl (c_X6_cell l G vp vpc 7 3 n pf k 1 (by first | assumption | omega) (by first | assumption | omega) (by first | assumption | omega) (by first | assumption | omega) _) k_ml_X9_82 q_X6_cell (by decide) [1, 2] rfl rfl rfl rfl rfl rfl (Nat.le_of_ble_eq_true rfl) dX9_reachOf_8 (by decide)) (fun r_95 er_95 => ?_)
  clear hW; intro H locs hW
  subst er_95
  refine lv_iload_n hx hb dX9_reachOf_11 rfl (lv_at hl 2 rfl) ?_
  refine lv_aload_n hx hb dX9_reachOf_12 rfl (lv_at hl 0 rfl) ?_
  refine g_get (k := 2) (v := .ref vc) C hW 0 rfl rfl jnX9 (by decide) k_fl_X9_19 rfl dX9_reachOf_13 ?_
  refine lv_iconst (v := 1) hx hb dX9_reachOf_16 (by decide) ?_
  refine g_ald C hW 3 rfl (vp_in_nI (n := 1) (by omega) (by omega)) dX9_reachOf_17 ?_
  refine lv_as (y := ck 1) (rfl) ?_
  refine g_fi C hW [0, 1, 2, 3, 4] rfl (g_runV (As := [.int (nI k), .int (pf (k * 3 + 1)), .int (nI hr), .int (ck 1)]) (rest := []) (wc := [(v, .inr (7, [.int wide, .ref vw, .ref vc, .ref vp, .ref vs, .ref vn, .ref vm, .ref vu])), (vp, .inr (4, [.int 7, .int 3, .ref vpc, .int (nI n)])), (vpc, .inl (G.2.1, 21, .inl pf)), (vc, .inl (G.2.1, 7, .inl ck)), (vw, .inl (G.2.1, 6, .inl wd))]) (q0 := 0) (ci := 7) C hW hl (c_X9_flightFrom l G v vw vc vp vs vn vm vu wide vpc n pf ck wd k hr (pf (k * 3 + 1)) (ck 1) (by first | assumption | omega) (by first | assumption | omega) (by omega) (by assumption) (by assumption) (by assumption) _) k_ml_X9_101 q_X9_flightFrom (by decide) [0, 1, 2, 3, 4] rfl rfl rfl rfl rfl rfl (Nat.le_of_ble_eq_true rfl) dX9_reachOf_18 (by decide)) (fun r_96 er_96 => ?_)
  clear hW H locs; intro H locs hW
  subst er_96
  subst hQ
  exact g_iret (v := (rch ck wd pf k hr (pf (k * 3 + 1)) (ck 1))) C hW hrt ⟨by first | rfl | (simp only [if_true, if_false, reduceIte]; done) | (simp []; done) | (simp_all []; done) | (simp only []; (repeat' split) <;> first | rfl | (simp_all; done)), rfl⟩ dX9_reachOf_21
set_option maxHeartbeats 4000000 in
set_option maxRecDepth 100000 in
theorem c_X9_carriesWeight (l : Launch) (G : gT) (v vw vc vp vs vn vm vu : Nat) (wide : Int32) (vpc n : Nat) (pf : Nat → Int32) (ck wd : Nat → Int32) (k hr : Nat) (g : Int32) (hk : k < n) (hn : n ≤ 7) (hh : hr < 100000) (hP : okP n pf) (hWd : okW wd) (hg : Rg g 1 9) : MI l G yX9_carriesWeight cX9_carriesWeight 4 .boolean ({ frames := 3, cells := 0, slots := 0, locals := 71 }) [.ref v, .int (nI k), .int (nI hr), .int g] [(v, .inr (7, [.int wide, .ref vw, .ref vc, .ref vp, .ref vs, .ref vn, .ref vm, .ref vu])), (vp, .inr (4, [.int 7, .int 3, .ref vpc, .int (nI n)])), (vpc, .inl (G.2.1, 21, .inl pf)), (vc, .inl (G.2.1, 7, .inl ck)), (vw, .inl (G.2.1, 6, .inl wd))] (fun (r : Int32) w1 => (r = bI (decide (wide ≤ rch ck wd pf k hr (pf (k * 3 + 1)) g))) ∧ w1 = [(v, .inr (7, [.int wide, .ref vw, .ref vc, .ref vp, .ref vs, .ref vn, .ref vm, .ref vu])), (vp, .inr (4, [.int 7, .int 3, .ref vpc, .int (nI n)])), (vpc, .inl (G.2.1, 21, .inl pf)), (vc, .inl (G.2.1, 7, .inl ck)), (vw, .inl (G.2.1, 6, .inl wd))]) := by
  refine MI.mk (by decide) (Nat.le_of_ble_eq_true rfl) ?_
  intro p_ e_ s_ m_ ar_ be_ me_ cd_ A_ ls C hrt hW hl
  have hx := C.1; have hb := C.2.1; have hown := C.2.2.2.1; have ht := C.2.2.2.2.1
  replace hl : lv_has ls 4 [(0, .ref v), (1, .int (nI k)), (2, .int (nI hr)), (3, .int g)] := hl
  generalize hQ : MQ be_ _ ar_ s_ 0 0 A_ = Q
  refine lv_aload_n hx hb dX9_carriesWeight_0 rfl (lv_at hl 0 rfl) ?_
  refine lv_iload_n hx hb dX9_carriesWeight_1 rfl (lv_at hl 1 rfl) ?_
  refine lv_aload_n hx hb dX9_carriesWeight_2 rfl (lv_at hl 0 rfl) ?_
  refine g_get (k := 3) (v := .ref vp) C hW 0 rfl rfl jnX9 (by decide) k_fl_X9_27 rfl dX9_carriesWeight_3 ?_
  refine lv_iload_n hx hb dX9_carriesWeight_6 rfl (lv_at hl 1 rfl) ?_
  refine lv_iconst (v := 1) hx hb dX9_carriesWeight_7 (by decide) ?_
  refine g_fi C hW [1, 2] rfl (g_runV (As := [.int (nI k), .int 1]) (rest := [.int (nI k), .ref v]) (wc := [(vp, .inr (4, [.int 7, .int 3, .ref vpc, .int (nI n)])), (vpc, .inl (G.2.1, 21, .inl pf))]) (q0 := 0) (ci := 4) C hW hl (c_X6_cell l G vp vpc 7 3 n pf k 1 (by first | assumption | omega) (by first | assumption | omega) (by first | assumption | omega) (by first | assumption | omega) _) k_ml_X9_82 q_X6_cell (by decide) [1, 2] rfl rfl rfl rfl rfl rfl (Nat.le_of_ble_eq_true rfl) dX9_carriesWeight_8 (by decide)) (fun r_97 er_97 => ?_)
  clear hW; intro H locs hW
  subst er_97
  refine lv_iload_n hx hb dX9_carriesWeight_11 rfl (lv_at hl 2 rfl) ?_
  refine lv_iload_n hx hb dX9_carriesWeight_12 rfl (lv_at hl 3 rfl) ?_
  refine g_fi C hW [0, 1, 2, 3, 4] rfl (g_runV (As := [.int (nI k), .int (pf (k * 3 + 1)), .int (nI hr), .int g]) (rest := []) (wc := [(v, .inr (7, [.int wide, .ref vw, .ref vc, .ref vp, .ref vs, .ref vn, .ref vm, .ref vu])), (vp, .inr (4, [.int 7, .int 3, .ref vpc, .int (nI n)])), (vpc, .inl (G.2.1, 21, .inl pf)), (vc, .inl (G.2.1, 7, .inl ck)), (vw, .inl (G.2.1, 6, .inl wd))]) (q0 := 0) (ci := 7) C hW hl (c_X9_flightFrom l G v vw vc vp vs vn vm vu wide vpc n pf ck wd k hr (pf (k * 3 + 1)) g (by first | assumption | omega) (by first | assumption | omega) (by omega) (by assumption) (by assumption) (by assumption) _) k_ml_X9_101 q_X9_flightFrom (by decide) [0, 1, 2, 3, 4] rfl rfl rfl rfl rfl rfl (Nat.le_of_ble_eq_true rfl) dX9_carriesWeight_13 (by decide)) (fun r_98 er_98 => ?_)
  clear hW H locs; intro H locs hW
  subst er_98
  refine lv_aload_n hx hb dX9_carriesWeight_16 rfl (lv_at hl 0 rfl) ?_
  refine g_get (k := 0) (v := .int wide) C hW 0 rfl rfl jnX9 (by decide) k_fl_X9_9 rfl dX9_carriesWeight_17 ?_
  have J_101 : ∀ (y_100 : Int32) (_ : y_100 = (if wide ≤ (rch ck wd pf k hr (pf (k * 3 + 1)) g) then 1 else 0)), ∀ (H : Heap) (locs : List Loc) (ls : Array Slot), Wd G A_ s_.heap [(v, .inr (7, [.int wide, .ref vw, .ref vc, .ref vp, .ref vs, .ref vn, .ref vm, .ref vu])), (vp, .inr (4, [.int 7, .int 3, .ref vpc, .int (nI n)])), (vpc, .inl (G.2.1, 21, .inl pf)), (vc, .inl (G.2.1, 7, .inl ck)), (vw, .inl (G.2.1, 6, .inl wd))] H locs → lv_has ls 4 [(0, .ref v), (1, .int (nI k)), (2, .int (nI hr)), (3, .int g)] → W p_ l e_ ({ frames := 3, cells := 0, slots := 0, locals := 71 }) s_ m_ ar_ be_ me_ cd_ H locs 0 0 Q (F0 m_ 28 ls [.int y_100]) := by
    intro y_100 ey_100 H locs ls hW hl
    subst hQ
    exact g_zret (v := y_100) C hW hrt (by first | rfl | exact bI_nar _ | (simp only [ey_100]; (repeat' split) <;> rfl)) ⟨by (simp only [ey_100]; exact bI_if), rfl⟩ dX9_carriesWeight_28
  refine lv_icmp_lt (tgt := 27) hx hb dX9_carriesWeight_20 (by decide) (fun c_99 => ?_) (fun c_99 => ?_)
  · replace c_99 := Int32.not_le.mpr c_99
    refine lv_iconst (v := 0) hx hb dX9_carriesWeight_27 (by decide) ?_
    exact J_101 0 (by first | rfl | (simp only [c_99, if_true, if_false, reduceIte]; done) | (simp [c_99]; done)) _ _ _ hW (lv_sub hl [0, 1, 2, 3] rfl)
  · replace c_99 := Int32.not_lt.mp c_99
    refine lv_iconst (v := 1) hx hb dX9_carriesWeight_23 (by decide) ?_
    refine lv_goto (tgt := 28) hx hb dX9_carriesWeight_24 (by decide) ?_
    exact J_101 1 (by first | rfl | (simp only [c_99, if_true, if_false, reduceIte]; done) | (simp [c_99]; done)) _ _ _ hW (lv_sub hl [0, 1, 2, 3] rfl)
set_option maxHeartbeats 4000000 in
set_option maxRecDepth 100000 in
theorem c_X9_carries (l : Launch) (G : gT) (v vw vc vp vs vn vm vu : Nat) (wide : Int32) (vpc n : Nat) (pf : Nat → Int32) (ck wd : Nat → Int32) (k hr : Nat) (hk : k < n) (hn : n ≤ 7) (hh : hr < 100000) (hP : okP n pf) (hWd : okW wd) (hg : Rg (ck 1) 1 9) : MI l G yX9_carries cX9_carries 3 .boolean ({ frames := 3, cells := 0, slots := 0, locals := 71 }) [.ref v, .int (nI k), .int (nI hr)] [(v, .inr (7, [.int wide, .ref vw, .ref vc, .ref vp, .ref vs, .ref vn, .ref vm, .ref vu])), (vp, .inr (4, [.int 7, .int 3, .ref vpc, .int (nI n)])), (vpc, .inl (G.2.1, 21, .inl pf)), (vc, .inl (G.2.1, 7, .inl ck)), (vw, .inl (G.2.1, 6, .inl wd))] (fun (r : Int32) w1 => (r = bI (decide (wide ≤ rch ck wd pf k hr (pf (k * 3 + 1)) (ck 1)))) ∧ w1 = [(v, .inr (7, [.int wide, .ref vw, .ref vc, .ref vp, .ref vs, .ref vn, .ref vm, .ref vu])), (vp, .inr (4, [.int 7, .int 3, .ref vpc, .int (nI n)])), (vpc, .inl (G.2.1, 21, .inl pf)), (vc, .inl (G.2.1, 7, .inl ck)), (vw, .inl (G.2.1, 6, .inl wd))]) := by
  refine MI.mk (by decide) (Nat.le_of_ble_eq_true rfl) ?_
  intro p_ e_ s_ m_ ar_ be_ me_ cd_ A_ ls C hrt hW hl
  have hx := C.1; have hb := C.2.1; have hown := C.2.2.2.1; have ht := C.2.2.2.2.1
  replace hl : lv_has ls 3 [(0, .ref v), (1, .int (nI k)), (2, .int (nI hr))] := hl
  generalize hQ : MQ be_ _ ar_ s_ 0 0 A_ = Q
  refine lv_aload_n hx hb dX9_carries_0 rfl (lv_at hl 0 rfl) ?_
  refine lv_iload_n hx hb dX9_carries_1 rfl (lv_at hl 1 rfl) ?_
  refine lv_aload_n hx hb dX9_carries_2 rfl (lv_at hl 0 rfl) ?_
  refine g_get (k := 3) (v := .ref vp) C hW 0 rfl rfl jnX9 (by decide) k_fl_X9_27 rfl dX9_carries_3 ?_
  refine lv_iload_n hx hb dX9_carries_6 rfl (lv_at hl 1 rfl) ?_
  refine lv_iconst (v := 1) hx hb dX9_carries_7 (by decide) ?_
  refine g_fi C hW [1, 2] rfl (g_runV (As := [.int (nI k), .int 1]) (rest := [.int (nI k), .ref v]) (wc := [(vp, .inr (4, [.int 7, .int 3, .ref vpc, .int (nI n)])), (vpc, .inl (G.2.1, 21, .inl pf))]) (q0 := 0) (ci := 4) C hW hl (c_X6_cell l G vp vpc 7 3 n pf k 1 (by first | assumption | omega) (by first | assumption | omega) (by first | assumption | omega) (by first | assumption | omega) _) k_ml_X9_82 q_X6_cell (by decide) [1, 2] rfl rfl rfl rfl rfl rfl (Nat.le_of_ble_eq_true rfl) dX9_carries_8 (by decide)) (fun r_102 er_102 => ?_)
  clear hW; intro H locs hW
  subst er_102
  refine lv_iload_n hx hb dX9_carries_11 rfl (lv_at hl 2 rfl) ?_
  refine lv_aload_n hx hb dX9_carries_12 rfl (lv_at hl 0 rfl) ?_
  refine g_get (k := 2) (v := .ref vc) C hW 0 rfl rfl jnX9 (by decide) k_fl_X9_19 rfl dX9_carries_13 ?_
  refine lv_iconst (v := 1) hx hb dX9_carries_16 (by decide) ?_
  refine g_ald C hW 3 rfl (vp_in_nI (n := 1) (by omega) (by omega)) dX9_carries_17 ?_
  refine lv_as (y := ck 1) (rfl) ?_
  refine g_fi C hW [0, 1, 2, 3, 4] rfl (g_runV (As := [.int (nI k), .int (pf (k * 3 + 1)), .int (nI hr), .int (ck 1)]) (rest := []) (wc := [(v, .inr (7, [.int wide, .ref vw, .ref vc, .ref vp, .ref vs, .ref vn, .ref vm, .ref vu])), (vp, .inr (4, [.int 7, .int 3, .ref vpc, .int (nI n)])), (vpc, .inl (G.2.1, 21, .inl pf)), (vc, .inl (G.2.1, 7, .inl ck)), (vw, .inl (G.2.1, 6, .inl wd))]) (q0 := 0) (ci := 7) C hW hl (c_X9_flightFrom l G v vw vc vp vs vn vm vu wide vpc n pf ck wd k hr (pf (k * 3 + 1)) (ck 1) (by first | assumption | omega) (by first | assumption | omega) (by omega) (by assumption) (by assumption) (by assumption) _) k_ml_X9_101 q_X9_flightFrom (by decide) [0, 1, 2, 3, 4] rfl rfl rfl rfl rfl rfl (Nat.le_of_ble_eq_true rfl) dX9_carries_18 (by decide)) (fun r_103 er_103 => ?_)
  clear hW H locs; intro H locs hW
  subst er_103
  refine lv_aload_n hx hb dX9_carries_21 rfl (lv_at hl 0 rfl) ?_
  refine g_get (k := 0) (v := .int wide) C hW 0 rfl rfl jnX9 (by decide) k_fl_X9_9 rfl dX9_carries_22 ?_
  have J_106 : ∀ (y_105 : Int32) (_ : y_105 = (if wide ≤ (rch ck wd pf k hr (pf (k * 3 + 1)) (ck 1)) then 1 else 0)), ∀ (H : Heap) (locs : List Loc) (ls : Array Slot), Wd G A_ s_.heap [(v, .inr (7, [.int wide, .ref vw, .ref vc, .ref vp, .ref vs, .ref vn, .ref vm, .ref vu])), (vp, .inr (4, [.int 7, .int 3, .ref vpc, .int (nI n)])), (vpc, .inl (G.2.1, 21, .inl pf)), (vc, .inl (G.2.1, 7, .inl ck)), (vw, .inl (G.2.1, 6, .inl wd))] H locs → lv_has ls 3 [(0, .ref v), (1, .int (nI k)), (2, .int (nI hr))] → W p_ l e_ ({ frames := 3, cells := 0, slots := 0, locals := 71 }) s_ m_ ar_ be_ me_ cd_ H locs 0 0 Q (F0 m_ 33 ls [.int y_105]) := by
    intro y_105 ey_105 H locs ls hW hl
    subst hQ
    exact g_zret (v := y_105) C hW hrt (by first | rfl | exact bI_nar _ | (simp only [ey_105]; (repeat' split) <;> rfl)) ⟨by (simp only [ey_105]; exact bI_if), rfl⟩ dX9_carries_33
  refine lv_icmp_lt (tgt := 32) hx hb dX9_carries_25 (by decide) (fun c_104 => ?_) (fun c_104 => ?_)
  · replace c_104 := Int32.not_le.mpr c_104
    refine lv_iconst (v := 0) hx hb dX9_carries_32 (by decide) ?_
    exact J_106 0 (by first | rfl | (simp only [c_104, if_true, if_false, reduceIte]; done) | (simp [c_104]; done)) _ _ _ hW (lv_sub hl [0, 1, 2] rfl)
  · replace c_104 := Int32.not_lt.mp c_104
    refine lv_iconst (v := 1) hx hb dX9_carries_28 (by decide) ?_
    refine lv_goto (tgt := 33) hx hb dX9_carries_29 (by decide) ?_
    exact J_106 1 (by first | rfl | (simp only [c_104, if_true, if_false, reduceIte]; done) | (simp [c_104]; done)) _ _ _ hW (lv_sub hl [0, 1, 2] rfl)
set_option maxHeartbeats 4000000 in
set_option maxRecDepth 100000 in
theorem c_X9_carriesInWind (l : Launch) (G : gT) (v vw vc vp vs vn vm vu : Nat) (wide : Int32) (vpc n : Nat) (pf : Nat → Int32) (ck : Nat → Int32) (k hr : Nat) (w : Int32) (hk : k < n) (hn : n ≤ 7) (eh : ck 6 = nI hr) (hh : hr < 100000) (hP : okP n pf) (hg : Rg (ck 1) 1 9) (hw : Rg w (-4) 4) : MI l G yX9_carriesInWind cX9_carriesInWind 4 .boolean ({ frames := 2, cells := 0, slots := 0, locals := 47 }) [.ref v, .int (nI k), .int w] [(v, .inr (7, [.int wide, .ref vw, .ref vc, .ref vp, .ref vs, .ref vn, .ref vm, .ref vu])), (vp, .inr (4, [.int 7, .int 3, .ref vpc, .int (nI n)])), (vpc, .inl (G.2.1, 21, .inl pf)), (vc, .inl (G.2.1, 7, .inl ck))] (fun (r : Int32) w1 => (r = bI (decide (wide ≤ fl (ck 0) (ck 1) (bl (pf (k * 3 + 0)) (pf (k * 3 + 2)) (nI (hr % 24))) (hp (pf (k * 3 + 1)) w)))) ∧ w1 = [(v, .inr (7, [.int wide, .ref vw, .ref vc, .ref vp, .ref vs, .ref vn, .ref vm, .ref vu])), (vp, .inr (4, [.int 7, .int 3, .ref vpc, .int (nI n)])), (vpc, .inl (G.2.1, 21, .inl pf)), (vc, .inl (G.2.1, 7, .inl ck))]) := by
  refine MI.mk (by decide) (Nat.le_of_ble_eq_true rfl) ?_
  intro p_ e_ s_ m_ ar_ be_ me_ cd_ A_ ls C hrt hW hl
  have hx := C.1; have hb := C.2.1; have hown := C.2.2.2.1; have ht := C.2.2.2.2.1
  replace hl : lv_has ls 4 [(0, .ref v), (1, .int (nI k)), (2, .int w)] := hl
  generalize hQ : MQ be_ _ ar_ s_ 0 0 A_ = Q
  refine lv_aload_n hx hb dX9_carriesInWind_0 rfl (lv_at hl 0 rfl) ?_
  refine g_get (k := 3) (v := .ref vp) C hW 0 rfl rfl jnX9 (by decide) k_fl_X9_27 rfl dX9_carriesInWind_1 ?_
  refine lv_iload_n hx hb dX9_carriesInWind_4 rfl (lv_at hl 1 rfl) ?_
  refine lv_iconst (v := 1) hx hb dX9_carriesInWind_5 (by decide) ?_
  refine g_fi C hW [1, 2] rfl (g_runV (As := [.int (nI k), .int 1]) (rest := []) (wc := [(vp, .inr (4, [.int 7, .int 3, .ref vpc, .int (nI n)])), (vpc, .inl (G.2.1, 21, .inl pf))]) (q0 := 0) (ci := 4) C hW hl (c_X6_cell l G vp vpc 7 3 n pf k 1 (by first | assumption | omega) (by first | assumption | omega) (by first | assumption | omega) (by first | assumption | omega) _) k_ml_X9_82 q_X6_cell (by decide) [1, 2] rfl rfl rfl rfl rfl rfl (Nat.le_of_ble_eq_true rfl) dX9_carriesInWind_6 (by decide)) (fun r_107 er_107 => ?_)
  clear hW; intro H locs hW
  subst er_107
  refine lv_iload_n hx hb dX9_carriesInWind_9 rfl (lv_at hl 2 rfl) ?_
  refine g_fi C hW [] rfl (g_runS (As := [.int (pf (k * 3 + 1)), .int w]) (rest := []) (wc := []) C hW hl (c_X9_help l G (pf (k * 3 + 1)) w  _) k_ml_X9_79 q_X9_help (by decide) [] rfl rfl rfl rfl (Nat.le_of_ble_eq_true rfl) dX9_carriesInWind_10 (by decide)) (fun r_108 er_108 => ?_)
  clear hW H locs; intro H locs hW
  subst er_108
  refine lv_istore_n (lv' := [(3, .int (hp (pf (k * 3 + 1)) w)), (0, .ref v), (1, .int (nI k)), (2, .int w)]) hx hb dX9_carriesInWind_13 rfl hl (by decide) rfl ?_
  clear hl ls; intro ls hl
  refine lv_aload_n hx hb dX9_carriesInWind_14 rfl (lv_at hl 1 rfl) ?_
  refine g_get (k := 2) (v := .ref vc) C hW 0 rfl rfl jnX9 (by decide) k_fl_X9_19 rfl dX9_carriesInWind_15 ?_
  refine lv_iconst (v := 0) hx hb dX9_carriesInWind_18 (by decide) ?_
  refine g_ald C hW 3 rfl (vp_in_nI (n := 0) (by omega) (by omega)) dX9_carriesInWind_19 ?_
  refine lv_as (y := ck 0) (rfl) ?_
  refine lv_aload_n hx hb dX9_carriesInWind_20 rfl (lv_at hl 1 rfl) ?_
  refine g_get (k := 2) (v := .ref vc) C hW 0 rfl rfl jnX9 (by decide) k_fl_X9_19 rfl dX9_carriesInWind_21 ?_
  refine lv_iconst (v := 1) hx hb dX9_carriesInWind_24 (by decide) ?_
  refine g_ald C hW 3 rfl (vp_in_nI (n := 1) (by omega) (by omega)) dX9_carriesInWind_25 ?_
  refine lv_as (y := ck 1) (rfl) ?_
  refine lv_aload_n hx hb dX9_carriesInWind_26 rfl (lv_at hl 1 rfl) ?_
  refine lv_iload_n hx hb dX9_carriesInWind_27 rfl (lv_at hl 2 rfl) ?_
  refine lv_aload_n hx hb dX9_carriesInWind_28 rfl (lv_at hl 1 rfl) ?_
  refine g_fi C hW [0, 3] rfl (g_runV (As := []) (rest := [.int (nI k), .ref v, .int (ck 1), .int (ck 0)]) (wc := [(v, .inr (7, [.int wide, .ref vw, .ref vc, .ref vp, .ref vs, .ref vn, .ref vm, .ref vu])), (vc, .inl (G.2.1, 7, .inl ck))]) (q0 := 0) (ci := 7) C hW hl (c_X9_hour l G v vw vc vp vs vn vm vu wide ck  _) k_ml_X9_104 q_X9_hour (by decide) [0, 3] rfl rfl rfl rfl rfl rfl (Nat.le_of_ble_eq_true rfl) dX9_carriesInWind_29 (by decide)) (fun r_109 er_109 => ?_)
  clear hW H locs; intro H locs hW
  subst er_109
  refine lv_as (y := nI hr) (eh) ?_
  refine g_fi C hW [0, 1, 2] rfl (g_runV (As := [.int (nI k), .int (nI hr)]) (rest := [.int (ck 1), .int (ck 0)]) (wc := [(v, .inr (7, [.int wide, .ref vw, .ref vc, .ref vp, .ref vs, .ref vn, .ref vm, .ref vu])), (vp, .inr (4, [.int 7, .int 3, .ref vpc, .int (nI n)])), (vpc, .inl (G.2.1, 21, .inl pf))]) (q0 := 0) (ci := 7) C hW hl (c_X9_force l G v vw vc vp vs vn vm vu wide vpc n pf k hr (by first | assumption | omega) (by first | assumption | omega) (by omega) _) k_ml_X9_91 q_X9_force (by decide) [0, 1, 2] rfl rfl rfl rfl rfl rfl (Nat.le_of_ble_eq_true rfl) dX9_carriesInWind_32 (by decide)) (fun r_110 er_110 => ?_)
  clear hW H locs; intro H locs hW
  subst er_110
  refine lv_iload_n hx hb dX9_carriesInWind_35 rfl (lv_at hl 0 rfl) ?_
  refine g_fi C hW [] rfl (g_runS (As := [.int (ck 0), .int (ck 1), .int (bl (pf (k * 3 + 0)) (pf (k * 3 + 2)) (nI (hr % 24))), .int (hp (pf (k * 3 + 1)) w)]) (rest := []) (wc := []) C hW hl (c_X2_flight l G (ck 0) (ck 1) (bl (pf (k * 3 + 0)) (pf (k * 3 + 2)) (nI (hr % 24))) (hp (pf (k * 3 + 1)) w) (by exact hg) (by exact bl_rg (hP _ hk)) (by exact hp_rg hw) _) k_ml_X9_97 q_X2_flight (by decide) [] rfl rfl rfl rfl (Nat.le_of_ble_eq_true rfl) dX9_carriesInWind_36 (by decide)) (fun r_111 er_111 => ?_)
  clear hW H locs; intro H locs hW
  subst er_111
  refine lv_aload_n hx hb dX9_carriesInWind_39 rfl (lv_at hl 1 rfl) ?_
  refine g_get (k := 0) (v := .int wide) C hW 0 rfl rfl jnX9 (by decide) k_fl_X9_9 rfl dX9_carriesInWind_40 ?_
  have J_114 : ∀ (y_113 : Int32) (_ : y_113 = (if wide ≤ (fl (ck 0) (ck 1) (bl (pf (k * 3 + 0)) (pf (k * 3 + 2)) (nI (hr % 24))) (hp (pf (k * 3 + 1)) w)) then 1 else 0)), ∀ (H : Heap) (locs : List Loc) (ls : Array Slot), Wd G A_ s_.heap [(v, .inr (7, [.int wide, .ref vw, .ref vc, .ref vp, .ref vs, .ref vn, .ref vm, .ref vu])), (vp, .inr (4, [.int 7, .int 3, .ref vpc, .int (nI n)])), (vpc, .inl (G.2.1, 21, .inl pf)), (vc, .inl (G.2.1, 7, .inl ck))] H locs → lv_has ls 4 [(3, .int (hp (pf (k * 3 + 1)) w)), (0, .ref v), (1, .int (nI k)), (2, .int w)] → W p_ l e_ ({ frames := 2, cells := 0, slots := 0, locals := 47 }) s_ m_ ar_ be_ me_ cd_ H locs 0 0 Q (F0 m_ 51 ls [.int y_113]) := by
    intro y_113 ey_113 H locs ls hW hl
    subst hQ
    exact g_zret (v := y_113) C hW hrt (by first | rfl | exact bI_nar _ | (simp only [eh, ey_113]; (repeat' split) <;> rfl)) ⟨by (simp only [eh, ey_113]; exact bI_if), rfl⟩ dX9_carriesInWind_51
  refine lv_icmp_lt (tgt := 50) hx hb dX9_carriesInWind_43 (by decide) (fun c_112 => ?_) (fun c_112 => ?_)
  · replace c_112 := Int32.not_le.mpr c_112
    refine lv_iconst (v := 0) hx hb dX9_carriesInWind_50 (by decide) ?_
    exact J_114 0 (by first | rfl | (simp only [c_112, if_true, if_false, reduceIte]; done) | (simp [c_112]; done)) _ _ _ hW (lv_sub hl [0, 1, 2, 3] rfl)
  · replace c_112 := Int32.not_lt.mp c_112
    refine lv_iconst (v := 1) hx hb dX9_carriesInWind_46 (by decide) ?_
    refine lv_goto (tgt := 51) hx hb dX9_carriesInWind_47 (by decide) ?_
    exact J_114 1 (by first | rfl | (simp only [c_112, if_true, if_false, reduceIte]; done) | (simp [c_112]; done)) _ _ _ hW (lv_sub hl [0, 1, 2, 3] rfl)
set_option maxHeartbeats 4000000 in
set_option maxRecDepth 100000 in
theorem c_X9_isOn (l : Launch) (G : gT) (v vw vc vp vs vn vm vu : Nat) (wide : Int32) (vpc n : Nat) (pf : Nat → Int32) (p : Int32) (hill : Int32) (hn : n ≤ 7) : MI l G yX9_isOn cX9_isOn 3 .boolean ({ frames := 1, cells := 0, slots := 0, locals := 22 }) [.ref v, .int p, .int hill] [(v, .inr (7, [.int wide, .ref vw, .ref vc, .ref vp, .ref vs, .ref vn, .ref vm, .ref vu])), (vp, .inr (4, [.int 7, .int 3, .ref vpc, .int (nI n)])), (vpc, .inl (G.2.1, 21, .inl pf))] (fun (r : Int32) w1 => (r = bI (onb n pf p hill)) ∧ w1 = [(v, .inr (7, [.int wide, .ref vw, .ref vc, .ref vp, .ref vs, .ref vn, .ref vm, .ref vu])), (vp, .inr (4, [.int 7, .int 3, .ref vpc, .int (nI n)])), (vpc, .inl (G.2.1, 21, .inl pf))]) := by
  refine MI.mk (by decide) (Nat.le_of_ble_eq_true rfl) ?_
  intro p_ e_ s_ m_ ar_ be_ me_ cd_ A_ ls C hrt hW hl
  have hx := C.1; have hb := C.2.1; have hown := C.2.2.2.1; have ht := C.2.2.2.2.1
  replace hl : lv_has ls 3 [(0, .ref v), (1, .int p), (2, .int hill)] := hl
  generalize hQ : MQ be_ _ ar_ s_ 0 0 A_ = Q
  refine lv_aload_n hx hb dX9_isOn_0 rfl (lv_at hl 0 rfl) ?_
  refine g_get (k := 3) (v := .ref vp) C hW 0 rfl rfl jnX9 (by decide) k_fl_X9_27 rfl dX9_isOn_1 ?_
  refine lv_iload_n hx hb dX9_isOn_4 rfl (lv_at hl 1 rfl) ?_
  refine g_fi C hW [1] rfl (g_runV (As := [.int p]) (rest := []) (wc := [(vp, .inr (4, [.int 7, .int 3, .ref vpc, .int (nI n)]))]) (q0 := 0) (ci := 4) C hW hl (c_X6_has l G vp vpc 7 3 n p  _) k_ml_X9_107 q_X6_has (by decide) [1] rfl rfl rfl rfl rfl rfl (Nat.le_of_ble_eq_true rfl) dX9_isOn_5 (by decide)) (fun r_115 er_115 => ?_)
  clear hW; intro H locs hW
  subst er_115
  refine lv_if_eq (tgt := 28) hx hb dX9_isOn_8 (by decide) (fun c_116 => ?_) (fun c_116 => ?_)
  · refine lv_iconst (v := 0) hx hb dX9_isOn_28 (by decide) ?_
    subst hQ
    exact g_zret (v := 0) C hW hrt (by first | rfl | exact bI_nar _ | (simp only [c_116]; (repeat' split) <;> rfl)) ⟨by first | (rw [onb, bI_0.mp c_116]; rfl) | (simp only [onb, bI_ne.mp c_116, cl_eq ek (show k < 1000 by omega), Bool.true_and]; simp only []; exact bI_if), rfl⟩ dX9_isOn_29
  · obtain ⟨k, hk, ek⟩ := okp_ex (bI_ne.mp c_116)
    refine lv_aload_n hx hb dX9_isOn_11 rfl (lv_at hl 0 rfl) ?_
    refine g_get (k := 3) (v := .ref vp) C hW 0 rfl rfl jnX9 (by decide) k_fl_X9_27 rfl dX9_isOn_12 ?_
    refine lv_iload_n hx hb dX9_isOn_15 rfl (lv_at hl 1 rfl) ?_
    refine lv_as (y := nI k) (ek) ?_
    refine lv_iconst (v := 1) hx hb dX9_isOn_16 (by decide) ?_
    refine g_fi C hW [1, 2] rfl (g_runV (As := [.int (nI k), .int 1]) (rest := []) (wc := [(vp, .inr (4, [.int 7, .int 3, .ref vpc, .int (nI n)])), (vpc, .inl (G.2.1, 21, .inl pf))]) (q0 := 0) (ci := 4) C hW hl (c_X6_cell l G vp vpc 7 3 n pf k 1 (by first | assumption | omega) (by first | assumption | omega) (by first | assumption | omega) (by first | assumption | omega) _) k_ml_X9_82 q_X6_cell (by decide) [1, 2] rfl rfl rfl rfl rfl rfl (Nat.le_of_ble_eq_true rfl) dX9_isOn_17 (by decide)) (fun r_117 er_117 => ?_)
    clear hW H locs; intro H locs hW
    subst er_117
    refine lv_iload_n hx hb dX9_isOn_20 rfl (lv_at hl 2 rfl) ?_
    have J_120 : ∀ (y_119 : Int32) (_ : y_119 = (if (pf (k * 3 + 1)) = hill then 1 else 0)), ∀ (H : Heap) (locs : List Loc) (ls : Array Slot), Wd G A_ s_.heap [(v, .inr (7, [.int wide, .ref vw, .ref vc, .ref vp, .ref vs, .ref vn, .ref vm, .ref vu])), (vp, .inr (4, [.int 7, .int 3, .ref vpc, .int (nI n)])), (vpc, .inl (G.2.1, 21, .inl pf))] H locs → lv_has ls 3 [(0, .ref v), (1, .int p), (2, .int hill)] → W p_ l e_ ({ frames := 1, cells := 0, slots := 0, locals := 22 }) s_ m_ ar_ be_ me_ cd_ H locs 0 0 Q (F0 m_ 29 ls [.int y_119]) := by
      intro y_119 ey_119 H locs ls hW hl
      subst hQ
      exact g_zret (v := y_119) C hW hrt (by first | rfl | exact bI_nar _ | (simp only [c_116, ek, ey_119]; (repeat' split) <;> rfl)) ⟨by first | (rw [onb, bI_0.mp c_116]; rfl) | (simp only [onb, bI_ne.mp c_116, cl_eq ek (show k < 1000 by omega), Bool.true_and]; simp only [ey_119]; exact bI_if), rfl⟩ dX9_isOn_29
    refine lv_icmp_ne (tgt := 28) hx hb dX9_isOn_21 (by decide) (fun c_118 => ?_) (fun c_118 => ?_)
    · refine lv_iconst (v := 0) hx hb dX9_isOn_28 (by decide) ?_
      exact J_120 0 (by first | rfl | (simp only [c_118, if_true, if_false, reduceIte]; done) | (simp [c_118]; done)) _ _ _ hW (lv_sub hl [0, 1, 2] rfl)
    · refine lv_iconst (v := 1) hx hb dX9_isOn_24 (by decide) ?_
      refine lv_goto (tgt := 29) hx hb dX9_isOn_25 (by decide) ?_
      exact J_120 1 (by first | rfl | (simp only [c_118, if_true, if_false, reduceIte]; done) | (simp [c_118]; done)) _ _ _ hW (lv_sub hl [0, 1, 2] rfl)
set_option maxHeartbeats 4000000 in
set_option maxRecDepth 100000 in
theorem c_X9_canStrike (l : Launch) (G : gT) (v vw vc vp vs vn vm vu : Nat) (wide : Int32) (vpc n : Nat) (pf : Nat → Int32) (ck : Nat → Int32) (p : Int32) (hn : n ≤ 7) : MI l G yX9_canStrike cX9_canStrike 2 .boolean ({ frames := 2, cells := 0, slots := 0, locals := 44 }) [.ref v, .int p] [(v, .inr (7, [.int wide, .ref vw, .ref vc, .ref vp, .ref vs, .ref vn, .ref vm, .ref vu])), (vp, .inr (4, [.int 7, .int 3, .ref vpc, .int (nI n)])), (vpc, .inl (G.2.1, 21, .inl pf)), (vc, .inl (G.2.1, 7, .inl ck))] (fun (r : Int32) w1 => (r = bI (decide (ck 3 = 1) && (onb n pf p (ck 2) && decide (ck 6 < 9999)))) ∧ w1 = [(v, .inr (7, [.int wide, .ref vw, .ref vc, .ref vp, .ref vs, .ref vn, .ref vm, .ref vu])), (vp, .inr (4, [.int 7, .int 3, .ref vpc, .int (nI n)])), (vpc, .inl (G.2.1, 21, .inl pf)), (vc, .inl (G.2.1, 7, .inl ck))]) := by
  refine MI.mk (by decide) (Nat.le_of_ble_eq_true rfl) ?_
  intro p_ e_ s_ m_ ar_ be_ me_ cd_ A_ ls C hrt hW hl
  have hx := C.1; have hb := C.2.1; have hown := C.2.2.2.1; have ht := C.2.2.2.2.1
  replace hl : lv_has ls 2 [(0, .ref v), (1, .int p)] := hl
  generalize hQ : MQ be_ _ ar_ s_ 0 0 A_ = Q
  refine lv_aload_n hx hb dX9_canStrike_0 rfl (lv_at hl 0 rfl) ?_
  refine g_fi C hW [0, 3] rfl (g_runV (As := []) (rest := []) (wc := [(v, .inr (7, [.int wide, .ref vw, .ref vc, .ref vp, .ref vs, .ref vn, .ref vm, .ref vu])), (vc, .inl (G.2.1, 7, .inl ck))]) (q0 := 0) (ci := 7) C hW hl (c_X9_isUp l G v vw vc vp vs vn vm vu wide ck  _) k_ml_X9_111 q_X9_isUp (by decide) [0, 3] rfl rfl rfl rfl rfl rfl (Nat.le_of_ble_eq_true rfl) dX9_canStrike_1 (by decide)) (fun r_121 er_121 => ?_)
  clear hW; intro H locs hW
  subst er_121
  have J_130 : ∀ (y_129 : Int32) (_ : y_129 = (if (bI (decide (ck 3 = 1))) = 0 then 0 else (if (bI (onb n pf p (ck 2))) = 0 then 0 else (if (ck 6) < 9999 then 1 else 0)))), ∀ (H : Heap) (locs : List Loc) (ls : Array Slot), Wd G A_ s_.heap [(v, .inr (7, [.int wide, .ref vw, .ref vc, .ref vp, .ref vs, .ref vn, .ref vm, .ref vu])), (vp, .inr (4, [.int 7, .int 3, .ref vpc, .int (nI n)])), (vpc, .inl (G.2.1, 21, .inl pf)), (vc, .inl (G.2.1, 7, .inl ck))] H locs → lv_has ls 2 [(0, .ref v), (1, .int p)] → W p_ l e_ ({ frames := 2, cells := 0, slots := 0, locals := 44 }) s_ m_ ar_ be_ me_ cd_ H locs 0 0 Q (F0 m_ 34 ls [.int y_129]) := by
    intro y_129 ey_129 H locs ls hW hl
    subst hQ
    exact g_zret (v := y_129) C hW hrt (by first | rfl | exact bI_nar _ | (simp only [ey_129]; (repeat' split) <;> rfl)) ⟨by (simp only [ey_129]; exact bI_3), rfl⟩ dX9_canStrike_34
  refine lv_if_eq (tgt := 33) hx hb dX9_canStrike_4 (by decide) (fun c_122 => ?_) (fun c_122 => ?_)
  · refine lv_iconst (v := 0) hx hb dX9_canStrike_33 (by decide) ?_
    exact J_130 0 (by first | rfl | (simp only [c_122, if_true, if_false, reduceIte]; done) | (simp [c_122]; done)) _ _ _ hW (lv_sub hl [0, 1] rfl)
  · refine lv_aload_n hx hb dX9_canStrike_7 rfl (lv_at hl 0 rfl) ?_
    refine lv_iload_n hx hb dX9_canStrike_8 rfl (lv_at hl 1 rfl) ?_
    refine lv_aload_n hx hb dX9_canStrike_9 rfl (lv_at hl 0 rfl) ?_
    refine g_fi C hW [0, 3] rfl (g_runV (As := []) (rest := [.int p, .ref v]) (wc := [(v, .inr (7, [.int wide, .ref vw, .ref vc, .ref vp, .ref vs, .ref vn, .ref vm, .ref vu])), (vc, .inl (G.2.1, 7, .inl ck))]) (q0 := 0) (ci := 7) C hW hl (c_X9_hill l G v vw vc vp vs vn vm vu wide ck  _) k_ml_X9_115 q_X9_hill (by decide) [0, 3] rfl rfl rfl rfl rfl rfl (Nat.le_of_ble_eq_true rfl) dX9_canStrike_10 (by decide)) (fun r_131 er_131 => ?_)
    clear hW H locs; intro H locs hW
    subst er_131
    refine g_fi C hW [0, 1, 2] rfl (g_runV (As := [.int p, .int (ck 2)]) (rest := []) (wc := [(v, .inr (7, [.int wide, .ref vw, .ref vc, .ref vp, .ref vs, .ref vn, .ref vm, .ref vu])), (vp, .inr (4, [.int 7, .int 3, .ref vpc, .int (nI n)])), (vpc, .inl (G.2.1, 21, .inl pf))]) (q0 := 0) (ci := 7) C hW hl (c_X9_isOn l G v vw vc vp vs vn vm vu wide vpc n pf p (ck 2) (by first | assumption | omega) _) k_ml_X9_118 q_X9_isOn (by decide) [0, 1, 2] rfl rfl rfl rfl rfl rfl (Nat.le_of_ble_eq_true rfl) dX9_canStrike_13 (by decide)) (fun r_132 er_132 => ?_)
    clear hW H locs; intro H locs hW
    subst er_132
    refine lv_if_eq (tgt := 33) hx hb dX9_canStrike_16 (by decide) (fun c_133 => ?_) (fun c_133 => ?_)
    · refine lv_iconst (v := 0) hx hb dX9_canStrike_33 (by decide) ?_
      exact J_130 0 (by first | rfl | (simp only [c_122, c_133, if_true, if_false, reduceIte]; done) | (simp [c_122, c_133]; done)) _ _ _ hW (lv_sub hl [0, 1] rfl)
    · refine lv_aload_n hx hb dX9_canStrike_19 rfl (lv_at hl 0 rfl) ?_
      refine g_fi C hW [0, 3] rfl (g_runV (As := []) (rest := []) (wc := [(v, .inr (7, [.int wide, .ref vw, .ref vc, .ref vp, .ref vs, .ref vn, .ref vm, .ref vu])), (vc, .inl (G.2.1, 7, .inl ck))]) (q0 := 0) (ci := 7) C hW hl (c_X9_hour l G v vw vc vp vs vn vm vu wide ck  _) k_ml_X9_104 q_X9_hour (by decide) [0, 3] rfl rfl rfl rfl rfl rfl (Nat.le_of_ble_eq_true rfl) dX9_canStrike_20 (by decide)) (fun r_134 er_134 => ?_)
      clear hW H locs; intro H locs hW
      subst er_134
      refine lv_sipush (v := 9999) hx hb dX9_canStrike_23 (by decide) ?_
      refine lv_icmp_ge (tgt := 33) hx hb dX9_canStrike_26 (by decide) (fun c_135 => ?_) (fun c_135 => ?_)
      · replace c_135 := Int32.not_lt.mpr c_135
        refine lv_iconst (v := 0) hx hb dX9_canStrike_33 (by decide) ?_
        exact J_130 0 (by first | rfl | (simp only [c_122, c_133, c_135, if_true, if_false, reduceIte]; done) | (simp [c_122, c_133, c_135]; done)) _ _ _ hW (lv_sub hl [0, 1] rfl)
      · replace c_135 := Int32.not_le.mp c_135
        refine lv_iconst (v := 1) hx hb dX9_canStrike_29 (by decide) ?_
        refine lv_goto (tgt := 34) hx hb dX9_canStrike_30 (by decide) ?_
        exact J_130 1 (by first | rfl | (simp only [c_122, c_133, c_135, if_true, if_false, reduceIte]; done) | (simp [c_122, c_133, c_135]; done)) _ _ _ hW (lv_sub hl [0, 1] rfl)
set_option maxHeartbeats 4000000 in
set_option maxRecDepth 100000 in
theorem c_X9_everybody (l : Launch) (G : gT) (v vw vc vp vs vn vm vu : Nat) (wide : Int32) (vpc n : Nat)  : MI l G yX9_everybody cX9_everybody 1 .int ({ frames := 1, cells := 0, slots := 0, locals := 20 }) [.ref v] [(v, .inr (7, [.int wide, .ref vw, .ref vc, .ref vp, .ref vs, .ref vn, .ref vm, .ref vu])), (vp, .inr (4, [.int 7, .int 3, .ref vpc, .int (nI n)]))] (fun (r : Int32) w1 => (r = ((1 : Int32) <<< (nI n &&& 31)) - 1) ∧ w1 = [(v, .inr (7, [.int wide, .ref vw, .ref vc, .ref vp, .ref vs, .ref vn, .ref vm, .ref vu])), (vp, .inr (4, [.int 7, .int 3, .ref vpc, .int (nI n)]))]) := by
  refine MI.mk (by decide) (Nat.le_of_ble_eq_true rfl) ?_
  intro p_ e_ s_ m_ ar_ be_ me_ cd_ A_ ls C hrt hW hl
  have hx := C.1; have hb := C.2.1; have hown := C.2.2.2.1; have ht := C.2.2.2.2.1
  replace hl : lv_has ls 1 [(0, .ref v)] := hl
  generalize hQ : MQ be_ _ ar_ s_ 0 0 A_ = Q
  refine lv_iconst (v := 1) hx hb dX9_everybody_0 (by decide) ?_
  refine lv_aload_n hx hb dX9_everybody_1 rfl (lv_at hl 0 rfl) ?_
  refine g_get (k := 3) (v := .ref vp) C hW 0 rfl rfl jnX9 (by decide) k_fl_X9_27 rfl dX9_everybody_2 ?_
  refine g_fi C hW [1] rfl (g_runV (As := []) (rest := [.int 1]) (wc := [(vp, .inr (4, [.int 7, .int 3, .ref vpc, .int (nI n)]))]) (q0 := 0) (ci := 4) C hW hl (c_X6_size l G vp vpc 7 3 n  _) k_ml_X9_122 q_X6_size (by decide) [1] rfl rfl rfl rfl rfl rfl (Nat.le_of_ble_eq_true rfl) dX9_everybody_5 (by decide)) (fun r_136 er_136 => ?_)
  clear hW; intro H locs hW
  subst er_136
  refine lv_ishl hx hb dX9_everybody_8 ?_
  refine lv_iconst (v := 1) hx hb dX9_everybody_9 (by decide) ?_
  refine lv_isub hx hb dX9_everybody_10 ?_
  subst hQ
  exact g_iret (v := ((1 <<< ((nI n) &&& 31)) - 1)) C hW hrt ⟨by first | rfl | (simp only [if_true, if_false, reduceIte]; done) | (simp []; done) | (simp_all []; done) | (simp only []; (repeat' split) <;> first | rfl | (simp_all; done)), rfl⟩ dX9_everybody_11
set_option maxHeartbeats 4000000 in
set_option maxRecDepth 100000 in
theorem c_X9_playersOn (l : Launch) (G : gT) (v vw vc vp vs vn vm vu : Nat) (wide : Int32) (vpc n : Nat) (pf : Nat → Int32) (hill : Int32) (hn : n ≤ 7) : MI l G yX9_playersOn cX9_playersOn 4 .int ({ frames := 2, cells := 0, slots := 0, locals := 44 }) [.ref v, .int hill] [(v, .inr (7, [.int wide, .ref vw, .ref vc, .ref vp, .ref vs, .ref vn, .ref vm, .ref vu])), (vp, .inr (4, [.int 7, .int 3, .ref vpc, .int (nI n)])), (vpc, .inl (G.2.1, 21, .inl pf))] (fun (r : Int32) w1 => (r = orF (fun i => decide (pf (i * 3 + 1) = hill)) n) ∧ w1 = [(v, .inr (7, [.int wide, .ref vw, .ref vc, .ref vp, .ref vs, .ref vn, .ref vm, .ref vu])), (vp, .inr (4, [.int 7, .int 3, .ref vpc, .int (nI n)])), (vpc, .inl (G.2.1, 21, .inl pf))]) := by
  refine MI.mk (by decide) (Nat.le_of_ble_eq_true rfl) ?_
  intro p_ e_ s_ m_ ar_ be_ me_ cd_ A_ ls C hrt hW hl
  have hx := C.1; have hb := C.2.1; have hown := C.2.2.2.1; have ht := C.2.2.2.2.1
  replace hl : lv_has ls 4 [(0, .ref v), (1, .int hill)] := hl
  generalize hQ : MQ be_ _ ar_ s_ 0 0 A_ = Q
  refine lv_iconst (v := 0) hx hb dX9_playersOn_0 (by decide) ?_
  refine lv_istore_n (lv' := [(2, .int 0), (0, .ref v), (1, .int hill)]) hx hb dX9_playersOn_1 rfl hl (by decide) rfl ?_
  clear hl ls; intro ls hl
  refine lv_iconst (v := 0) hx hb dX9_playersOn_2 (by decide) ?_
  refine lv_istore_n (lv' := [(3, .int 0), (2, .int 0), (0, .ref v), (1, .int hill)]) hx hb dX9_playersOn_3 rfl hl (by decide) rfl ?_
  clear hl ls; intro ls hl
  have K_137 : ∀ (n_ : Nat) (j : Nat) (x_138 : Int32) (x_139 : Int32) (_ : x_138 = nI j) (_ : x_139 = orF (fun i => decide (pf (i * 3 + 1) = hill)) j) (_ : j ≤ n) (_ : n - j < n_) (H : Heap) (locs : List Loc) (ls : Array Slot), Wd G A_ s_.heap [(v, .inr (7, [.int wide, .ref vw, .ref vc, .ref vp, .ref vs, .ref vn, .ref vm, .ref vu])), (vp, .inr (4, [.int 7, .int 3, .ref vpc, .int (nI n)])), (vpc, .inl (G.2.1, 21, .inl pf))] H locs → lv_has ls 4 [(3, .int x_138), (2, .int x_139), (0, .ref v), (1, .int hill)] → W p_ l e_ ({ frames := 2, cells := 0, slots := 0, locals := 44 }) s_ m_ ar_ be_ me_ cd_ H locs 0 0 Q (F0 m_ 4 ls []) := by
    intro n_
    induction n_ with
    | zero => intro j x_138 x_139 ex_138 ex_139 hj hm_; exact absurd hm_ (Nat.not_lt_zero _)
    | succ n_ ih_ =>
      intro j x_138 x_139 ex_138 ex_139 hj hm_ H locs ls hW hl
      subst ex_138
      subst ex_139
      refine lv_iload_n hx hb dX9_playersOn_4 rfl (lv_at hl 0 rfl) ?_
      refine lv_aload_n hx hb dX9_playersOn_5 rfl (lv_at hl 2 rfl) ?_
      refine g_get (k := 3) (v := .ref vp) C hW 0 rfl rfl jnX9 (by decide) k_fl_X9_27 rfl dX9_playersOn_6 ?_
      refine g_fi C hW [1] rfl (g_runV (As := []) (rest := [.int (nI j)]) (wc := [(vp, .inr (4, [.int 7, .int 3, .ref vpc, .int (nI n)]))]) (q0 := 0) (ci := 4) C hW hl (c_X6_size l G vp vpc 7 3 n  _) k_ml_X9_122 q_X6_size (by decide) [1] rfl rfl rfl rfl rfl rfl (Nat.le_of_ble_eq_true rfl) dX9_playersOn_9 (by decide)) (fun r_140 er_140 => ?_)
      clear hW H locs; intro H locs hW
      subst er_140
      refine lv_icmp_ge (tgt := 36) hx hb dX9_playersOn_12 (by decide) (fun c_141 => ?_) (fun c_141 => ?_)
      · replace c_141 := Int32.not_lt.mpr c_141
        have c_141n : ¬ j < n := fun q => c_141 ((nI_ltI (a := j) (b := n) (by omega) (by omega)).mpr q)
        refine lv_iload_n hx hb dX9_playersOn_36 rfl (lv_at hl 1 rfl) ?_
        subst hQ
        exact g_iret (v := (orF (fun i => decide (pf (i * 3 + 1) = hill)) j)) C hW hrt ⟨by rw [show j = n by omega], rfl⟩ dX9_playersOn_37
      · replace c_141 := Int32.not_le.mp c_141
        have c_141n : j < n := (nI_ltI (a := j) (b := n) (by omega) (by omega)).mp c_141
        refine lv_aload_n hx hb dX9_playersOn_15 rfl (lv_at hl 2 rfl) ?_
        refine lv_iload_n hx hb dX9_playersOn_16 rfl (lv_at hl 0 rfl) ?_
        refine lv_iload_n hx hb dX9_playersOn_17 rfl (lv_at hl 3 rfl) ?_
        refine g_fi C hW [0, 1, 2] rfl (g_runV (As := [.int (nI j), .int hill]) (rest := []) (wc := [(v, .inr (7, [.int wide, .ref vw, .ref vc, .ref vp, .ref vs, .ref vn, .ref vm, .ref vu])), (vp, .inr (4, [.int 7, .int 3, .ref vpc, .int (nI n)])), (vpc, .inl (G.2.1, 21, .inl pf))]) (q0 := 0) (ci := 7) C hW hl (c_X9_isOn l G v vw vc vp vs vn vm vu wide vpc n pf (nI j) hill (by first | assumption | omega) _) k_ml_X9_118 q_X9_isOn (by decide) [0, 1, 2] rfl rfl rfl rfl rfl rfl (Nat.le_of_ble_eq_true rfl) dX9_playersOn_18 (by decide)) (fun r_143 er_143 => ?_)
        clear hW H locs; intro H locs hW
        subst er_143
        have J_146 : ∀ (x_145 : Int32) (_ : x_145 = (if (bI (onb n pf (nI j) hill)) = 0 then orF (fun i => decide (pf (i * 3 + 1) = hill)) j else (orF (fun i => decide (pf (i * 3 + 1) = hill)) j) ||| (1 <<< ((nI j) &&& 31)))), ∀ (H : Heap) (locs : List Loc) (ls : Array Slot), Wd G A_ s_.heap [(v, .inr (7, [.int wide, .ref vw, .ref vc, .ref vp, .ref vs, .ref vn, .ref vm, .ref vu])), (vp, .inr (4, [.int 7, .int 3, .ref vpc, .int (nI n)])), (vpc, .inl (G.2.1, 21, .inl pf))] H locs → lv_has ls 4 [(3, .int (nI j)), (2, .int x_145), (0, .ref v), (1, .int hill)] → W p_ l e_ ({ frames := 2, cells := 0, slots := 0, locals := 44 }) s_ m_ ar_ be_ me_ cd_ H locs 0 0 Q (F0 m_ 30 ls []) := by
          intro x_145 ex_145 H locs ls hW hl
          refine lv_iinc (v := (nI j) + 1) (lv' := [(3, .int ((nI j) + 1)), (2, .int x_145), (0, .ref v), (1, .int hill)]) hx hb dX9_playersOn_30 hl (k := 0) rfl rfl (by decide) rfl ?_
          clear hl ls; intro ls hl
          refine lv_goto (tgt := 4) hx hb dX9_playersOn_33 (by decide) ?_
          exact ih_ (j + 1) ((nI j) + 1) x_145 (by first | rfl | assumption | omega | exact nI_1 _ | (simp; done)) (by (simp only [ex_145, onb_nI (show n < 1000 by omega) (show j < n by omega), bstep, bstep2]; rfl)) (by first | rfl | assumption | omega | exact nI_1 _ | (simp; done)) (by omega) _ _ _ hW (lv_sub hl [0, 1, 2, 3] rfl)
        refine lv_if_eq (tgt := 30) hx hb dX9_playersOn_21 (by decide) (fun c_144 => ?_) (fun c_144 => ?_)
        · exact J_146 (orF (fun i => decide (pf (i * 3 + 1) = hill)) j) (by first | rfl | (simp only [c_144, if_true, if_false, reduceIte]; done) | (simp [c_144]; done)) _ _ _ hW (lv_sub hl [0, 1, 2, 3] rfl)
        · refine lv_iload_n hx hb dX9_playersOn_24 rfl (lv_at hl 1 rfl) ?_
          refine lv_iconst (v := 1) hx hb dX9_playersOn_25 (by decide) ?_
          refine lv_iload_n hx hb dX9_playersOn_26 rfl (lv_at hl 0 rfl) ?_
          refine lv_ishl hx hb dX9_playersOn_27 ?_
          refine lv_ior hx hb dX9_playersOn_28 ?_
          refine lv_istore_n (lv' := [(2, .int ((orF (fun i => decide (pf (i * 3 + 1) = hill)) j) ||| (1 <<< ((nI j) &&& 31)))), (3, .int (nI j)), (0, .ref v), (1, .int hill)]) hx hb dX9_playersOn_29 rfl hl (by decide) rfl ?_
          clear hl ls; intro ls hl
          exact J_146 ((orF (fun i => decide (pf (i * 3 + 1) = hill)) j) ||| (1 <<< ((nI j) &&& 31))) (by first | rfl | (simp only [c_144, if_true, if_false, reduceIte]; done) | (simp [c_144]; done)) _ _ _ hW (lv_sub hl [1, 0, 2, 3] rfl)
  exact K_137 _ 0 0 0 (by first | rfl | assumption | omega | exact nI_1 _ | (simp; done)) (by first | rfl | assumption | omega | exact nI_1 _ | (simp; done)) (by first | rfl | assumption | omega | exact nI_1 _ | (simp; done)) (Nat.lt_succ_self _) _ _ _ hW (lv_sub hl [0, 1, 2, 3] rfl)
set_option maxHeartbeats 4000000 in
set_option maxRecDepth 100000 in
theorem c_X9_carriersFrom (l : Launch) (G : gT) (v vw vc vp vs vn vm vu : Nat) (wide : Int32) (vpc n : Nat) (pf : Nat → Int32) (ck wd : Nat → Int32) (hill : Int32) (hr : Nat) (hn : n ≤ 7) (hh : hr < 100000) (hP : okP n pf) (hWd : okW wd) (hg : Rg (ck 1) 1 9) : MI l G yX9_carriersFrom cX9_carriersFrom 5 .int ({ frames := 3, cells := 0, slots := 0, locals := 71 }) [.ref v, .int hill, .int (nI hr)] [(v, .inr (7, [.int wide, .ref vw, .ref vc, .ref vp, .ref vs, .ref vn, .ref vm, .ref vu])), (vp, .inr (4, [.int 7, .int 3, .ref vpc, .int (nI n)])), (vpc, .inl (G.2.1, 21, .inl pf)), (vc, .inl (G.2.1, 7, .inl ck)), (vw, .inl (G.2.1, 6, .inl wd))] (fun (r : Int32) w1 => (r = orF (fun i => decide (wide ≤ rch ck wd pf i hr hill (ck 1))) n) ∧ w1 = [(v, .inr (7, [.int wide, .ref vw, .ref vc, .ref vp, .ref vs, .ref vn, .ref vm, .ref vu])), (vp, .inr (4, [.int 7, .int 3, .ref vpc, .int (nI n)])), (vpc, .inl (G.2.1, 21, .inl pf)), (vc, .inl (G.2.1, 7, .inl ck)), (vw, .inl (G.2.1, 6, .inl wd))]) := by
  refine MI.mk (by decide) (Nat.le_of_ble_eq_true rfl) ?_
  intro p_ e_ s_ m_ ar_ be_ me_ cd_ A_ ls C hrt hW hl
  have hx := C.1; have hb := C.2.1; have hown := C.2.2.2.1; have ht := C.2.2.2.2.1
  replace hl : lv_has ls 5 [(0, .ref v), (1, .int hill), (2, .int (nI hr))] := hl
  generalize hQ : MQ be_ _ ar_ s_ 0 0 A_ = Q
  refine lv_iconst (v := 0) hx hb dX9_carriersFrom_0 (by decide) ?_
  refine lv_istore_n (lv' := [(3, .int 0), (0, .ref v), (1, .int hill), (2, .int (nI hr))]) hx hb dX9_carriersFrom_1 rfl hl (by decide) rfl ?_
  clear hl ls; intro ls hl
  refine lv_iconst (v := 0) hx hb dX9_carriersFrom_2 (by decide) ?_
  refine lv_istore (lv' := [(4, .int 0), (3, .int 0), (0, .ref v), (1, .int hill), (2, .int (nI hr))]) hx hb dX9_carriersFrom_3 hl (by decide) rfl ?_
  clear hl ls; intro ls hl
  have K_147 : ∀ (n_ : Nat) (j : Nat) (x_148 : Int32) (x_149 : Int32) (_ : x_148 = nI j) (_ : x_149 = orF (fun i => decide (wide ≤ rch ck wd pf i hr hill (ck 1))) j) (_ : j ≤ n) (_ : n - j < n_) (H : Heap) (locs : List Loc) (ls : Array Slot), Wd G A_ s_.heap [(v, .inr (7, [.int wide, .ref vw, .ref vc, .ref vp, .ref vs, .ref vn, .ref vm, .ref vu])), (vp, .inr (4, [.int 7, .int 3, .ref vpc, .int (nI n)])), (vpc, .inl (G.2.1, 21, .inl pf)), (vc, .inl (G.2.1, 7, .inl ck)), (vw, .inl (G.2.1, 6, .inl wd))] H locs → lv_has ls 5 [(4, .int x_148), (3, .int x_149), (0, .ref v), (1, .int hill), (2, .int (nI hr))] → W p_ l e_ ({ frames := 3, cells := 0, slots := 0, locals := 71 }) s_ m_ ar_ be_ me_ cd_ H locs 0 0 Q (F0 m_ 5 ls []) := by
    intro n_
    induction n_ with
    | zero => intro j x_148 x_149 ex_148 ex_149 hj hm_; exact absurd hm_ (Nat.not_lt_zero _)
    | succ n_ ih_ =>
      intro j x_148 x_149 ex_148 ex_149 hj hm_ H locs ls hW hl
      subst ex_148
      subst ex_149
      refine lv_iload hx hb dX9_carriersFrom_5 (lv_at hl 0 rfl) ?_
      refine lv_aload_n hx hb dX9_carriersFrom_7 rfl (lv_at hl 2 rfl) ?_
      refine g_get (k := 3) (v := .ref vp) C hW 0 rfl rfl jnX9 (by decide) k_fl_X9_27 rfl dX9_carriersFrom_8 ?_
      refine g_fi C hW [1] rfl (g_runV (As := []) (rest := [.int (nI j)]) (wc := [(vp, .inr (4, [.int 7, .int 3, .ref vpc, .int (nI n)]))]) (q0 := 0) (ci := 4) C hW hl (c_X6_size l G vp vpc 7 3 n  _) k_ml_X9_122 q_X6_size (by decide) [1] rfl rfl rfl rfl rfl rfl (Nat.le_of_ble_eq_true rfl) dX9_carriersFrom_11 (by decide)) (fun r_150 er_150 => ?_)
      clear hW H locs; intro H locs hW
      subst er_150
      refine lv_icmp_ge (tgt := 51) hx hb dX9_carriersFrom_14 (by decide) (fun c_151 => ?_) (fun c_151 => ?_)
      · replace c_151 := Int32.not_lt.mpr c_151
        have c_151n : ¬ j < n := fun q => c_151 ((nI_ltI (a := j) (b := n) (by omega) (by omega)).mpr q)
        refine lv_iload_n hx hb dX9_carriersFrom_51 rfl (lv_at hl 1 rfl) ?_
        subst hQ
        exact g_iret (v := (orF (fun i => decide (wide ≤ rch ck wd pf i hr hill (ck 1))) j)) C hW hrt ⟨by rw [show j = n by omega], rfl⟩ dX9_carriersFrom_52
      · replace c_151 := Int32.not_le.mp c_151
        have c_151n : j < n := (nI_ltI (a := j) (b := n) (by omega) (by omega)).mp c_151
        refine lv_aload_n hx hb dX9_carriersFrom_17 rfl (lv_at hl 2 rfl) ?_
        refine lv_iload hx hb dX9_carriersFrom_18 (lv_at hl 0 rfl) ?_
        refine lv_iload_n hx hb dX9_carriersFrom_20 rfl (lv_at hl 3 rfl) ?_
        refine lv_iload_n hx hb dX9_carriersFrom_21 rfl (lv_at hl 4 rfl) ?_
        refine lv_aload_n hx hb dX9_carriersFrom_22 rfl (lv_at hl 2 rfl) ?_
        refine g_get (k := 2) (v := .ref vc) C hW 0 rfl rfl jnX9 (by decide) k_fl_X9_19 rfl dX9_carriersFrom_23 ?_
        refine lv_iconst (v := 1) hx hb dX9_carriersFrom_26 (by decide) ?_
        refine g_ald C hW 3 rfl (vp_in_nI (n := 1) (by omega) (by omega)) dX9_carriersFrom_27 ?_
        refine lv_as (y := ck 1) (rfl) ?_
        refine g_fi C hW [0, 1, 2, 3, 4] rfl (g_runV (As := [.int (nI j), .int hill, .int (nI hr), .int (ck 1)]) (rest := []) (wc := [(v, .inr (7, [.int wide, .ref vw, .ref vc, .ref vp, .ref vs, .ref vn, .ref vm, .ref vu])), (vp, .inr (4, [.int 7, .int 3, .ref vpc, .int (nI n)])), (vpc, .inl (G.2.1, 21, .inl pf)), (vc, .inl (G.2.1, 7, .inl ck)), (vw, .inl (G.2.1, 6, .inl wd))]) (q0 := 0) (ci := 7) C hW hl (c_X9_flightFrom l G v vw vc vp vs vn vm vu wide vpc n pf ck wd j hr hill (ck 1) (by first | assumption | omega) (by first | assumption | omega) (by omega) (by assumption) (by assumption) (by assumption) _) k_ml_X9_101 q_X9_flightFrom (by decide) [0, 1, 2, 3, 4] rfl rfl rfl rfl rfl rfl (Nat.le_of_ble_eq_true rfl) dX9_carriersFrom_28 (by decide)) (fun r_153 er_153 => ?_)
        clear hW H locs; intro H locs hW
        subst er_153
        refine lv_aload_n hx hb dX9_carriersFrom_31 rfl (lv_at hl 2 rfl) ?_
        refine g_get (k := 0) (v := .int wide) C hW 0 rfl rfl jnX9 (by decide) k_fl_X9_9 rfl dX9_carriersFrom_32 ?_
        have J_156 : ∀ (x_155 : Int32) (_ : x_155 = (if wide ≤ (rch ck wd pf j hr hill (ck 1)) then (orF (fun i => decide (wide ≤ rch ck wd pf i hr hill (ck 1))) j) ||| (1 <<< ((nI j) &&& 31)) else orF (fun i => decide (wide ≤ rch ck wd pf i hr hill (ck 1))) j)), ∀ (H : Heap) (locs : List Loc) (ls : Array Slot), Wd G A_ s_.heap [(v, .inr (7, [.int wide, .ref vw, .ref vc, .ref vp, .ref vs, .ref vn, .ref vm, .ref vu])), (vp, .inr (4, [.int 7, .int 3, .ref vpc, .int (nI n)])), (vpc, .inl (G.2.1, 21, .inl pf)), (vc, .inl (G.2.1, 7, .inl ck)), (vw, .inl (G.2.1, 6, .inl wd))] H locs → lv_has ls 5 [(3, .int x_155), (4, .int (nI j)), (0, .ref v), (1, .int hill), (2, .int (nI hr))] → W p_ l e_ ({ frames := 3, cells := 0, slots := 0, locals := 71 }) s_ m_ ar_ be_ me_ cd_ H locs 0 0 Q (F0 m_ 45 ls []) := by
          intro x_155 ex_155 H locs ls hW hl
          refine lv_iinc (v := (nI j) + 1) (lv' := [(4, .int ((nI j) + 1)), (3, .int x_155), (0, .ref v), (1, .int hill), (2, .int (nI hr))]) hx hb dX9_carriersFrom_45 hl (k := 1) rfl rfl (by decide) rfl ?_
          clear hl ls; intro ls hl
          refine lv_goto (tgt := 5) hx hb dX9_carriersFrom_48 (by decide) ?_
          exact ih_ (j + 1) ((nI j) + 1) x_155 (by first | rfl | assumption | omega | exact nI_1 _ | (simp; done)) (by (simp only [ex_155, orF, decide_eq_true_eq])) (by first | rfl | assumption | omega | exact nI_1 _ | (simp; done)) (by omega) _ _ _ hW (lv_sub hl [0, 1, 2, 3, 4] rfl)
        refine lv_icmp_lt (tgt := 45) hx hb dX9_carriersFrom_35 (by decide) (fun c_154 => ?_) (fun c_154 => ?_)
        · replace c_154 := Int32.not_le.mpr c_154
          exact J_156 (orF (fun i => decide (wide ≤ rch ck wd pf i hr hill (ck 1))) j) (by first | rfl | (simp only [c_154, if_true, if_false, reduceIte]; done) | (simp [c_154]; done)) _ _ _ hW (lv_sub hl [1, 0, 2, 3, 4] rfl)
        · replace c_154 := Int32.not_lt.mp c_154
          refine lv_iload_n hx hb dX9_carriersFrom_38 rfl (lv_at hl 1 rfl) ?_
          refine lv_iconst (v := 1) hx hb dX9_carriersFrom_39 (by decide) ?_
          refine lv_iload hx hb dX9_carriersFrom_40 (lv_at hl 0 rfl) ?_
          refine lv_ishl hx hb dX9_carriersFrom_42 ?_
          refine lv_ior hx hb dX9_carriersFrom_43 ?_
          refine lv_istore_n (lv' := [(3, .int ((orF (fun i => decide (wide ≤ rch ck wd pf i hr hill (ck 1))) j) ||| (1 <<< ((nI j) &&& 31)))), (4, .int (nI j)), (0, .ref v), (1, .int hill), (2, .int (nI hr))]) hx hb dX9_carriersFrom_44 rfl hl (by decide) rfl ?_
          clear hl ls; intro ls hl
          exact J_156 ((orF (fun i => decide (wide ≤ rch ck wd pf i hr hill (ck 1))) j) ||| (1 <<< ((nI j) &&& 31))) (by first | rfl | (simp only [c_154, if_true, if_false, reduceIte]; done) | (simp [c_154]; done)) _ _ _ hW (lv_sub hl [0, 1, 2, 3, 4] rfl)
  exact K_147 _ 0 0 0 (by first | rfl | assumption | omega | exact nI_1 _ | (simp; done)) (by first | rfl | assumption | omega | exact nI_1 _ | (simp; done)) (by first | rfl | assumption | omega | exact nI_1 _ | (simp; done)) (Nat.lt_succ_self _) _ _ _ hW (lv_sub hl [0, 1, 2, 3, 4] rfl)
set_option maxHeartbeats 4000000 in
set_option maxRecDepth 100000 in
theorem c_X9_carriersOn (l : Launch) (G : gT) (v vw vc vp vs vn vm vu : Nat) (wide : Int32) (vpc n : Nat) (pf : Nat → Int32) (ck wd : Nat → Int32) (hill : Int32) (hr : Nat) (hn : n ≤ 7) (hh : hr < 100000) (hP : okP n pf) (hWd : okW wd) (hg : Rg (ck 1) 1 9) : MI l G yX9_carriersOn cX9_carriersOn 5 .int ({ frames := 4, cells := 0, slots := 0, locals := 93 }) [.ref v, .int hill, .int (nI hr)] [(v, .inr (7, [.int wide, .ref vw, .ref vc, .ref vp, .ref vs, .ref vn, .ref vm, .ref vu])), (vp, .inr (4, [.int 7, .int 3, .ref vpc, .int (nI n)])), (vpc, .inl (G.2.1, 21, .inl pf)), (vc, .inl (G.2.1, 7, .inl ck)), (vw, .inl (G.2.1, 6, .inl wd))] (fun (r : Int32) w1 => (r = orF (fun i => decide (pf (i * 3 + 1) = hill) && decide (wide ≤ rch ck wd pf i hr (pf (i * 3 + 1)) (ck 1))) n) ∧ w1 = [(v, .inr (7, [.int wide, .ref vw, .ref vc, .ref vp, .ref vs, .ref vn, .ref vm, .ref vu])), (vp, .inr (4, [.int 7, .int 3, .ref vpc, .int (nI n)])), (vpc, .inl (G.2.1, 21, .inl pf)), (vc, .inl (G.2.1, 7, .inl ck)), (vw, .inl (G.2.1, 6, .inl wd))]) := by
  refine MI.mk (by decide) (Nat.le_of_ble_eq_true rfl) ?_
  intro p_ e_ s_ m_ ar_ be_ me_ cd_ A_ ls C hrt hW hl
  have hx := C.1; have hb := C.2.1; have hown := C.2.2.2.1; have ht := C.2.2.2.2.1
  replace hl : lv_has ls 5 [(0, .ref v), (1, .int hill), (2, .int (nI hr))] := hl
  generalize hQ : MQ be_ _ ar_ s_ 0 0 A_ = Q
  refine lv_iconst (v := 0) hx hb dX9_carriersOn_0 (by decide) ?_
  refine lv_istore_n (lv' := [(3, .int 0), (0, .ref v), (1, .int hill), (2, .int (nI hr))]) hx hb dX9_carriersOn_1 rfl hl (by decide) rfl ?_
  clear hl ls; intro ls hl
  refine lv_iconst (v := 0) hx hb dX9_carriersOn_2 (by decide) ?_
  refine lv_istore (lv' := [(4, .int 0), (3, .int 0), (0, .ref v), (1, .int hill), (2, .int (nI hr))]) hx hb dX9_carriersOn_3 hl (by decide) rfl ?_
  clear hl ls; intro ls hl
  have K_157 : ∀ (n_ : Nat) (j : Nat) (x_158 : Int32) (x_159 : Int32) (_ : x_158 = nI j) (_ : x_159 = orF (fun i => decide (pf (i * 3 + 1) = hill) && decide (wide ≤ rch ck wd pf i hr (pf (i * 3 + 1)) (ck 1))) j) (_ : j ≤ n) (_ : n - j < n_) (H : Heap) (locs : List Loc) (ls : Array Slot), Wd G A_ s_.heap [(v, .inr (7, [.int wide, .ref vw, .ref vc, .ref vp, .ref vs, .ref vn, .ref vm, .ref vu])), (vp, .inr (4, [.int 7, .int 3, .ref vpc, .int (nI n)])), (vpc, .inl (G.2.1, 21, .inl pf)), (vc, .inl (G.2.1, 7, .inl ck)), (vw, .inl (G.2.1, 6, .inl wd))] H locs → lv_has ls 5 [(4, .int x_158), (3, .int x_159), (0, .ref v), (1, .int hill), (2, .int (nI hr))] → W p_ l e_ ({ frames := 4, cells := 0, slots := 0, locals := 93 }) s_ m_ ar_ be_ me_ cd_ H locs 0 0 Q (F0 m_ 5 ls []) := by
    intro n_
    induction n_ with
    | zero => intro j x_158 x_159 ex_158 ex_159 hj hm_; exact absurd hm_ (Nat.not_lt_zero _)
    | succ n_ ih_ =>
      intro j x_158 x_159 ex_158 ex_159 hj hm_ H locs ls hW hl
      subst ex_158
      subst ex_159
      refine lv_iload hx hb dX9_carriersOn_5 (lv_at hl 0 rfl) ?_
      refine lv_aload_n hx hb dX9_carriersOn_7 rfl (lv_at hl 2 rfl) ?_
      refine g_get (k := 3) (v := .ref vp) C hW 0 rfl rfl jnX9 (by decide) k_fl_X9_27 rfl dX9_carriersOn_8 ?_
      refine g_fi C hW [1] rfl (g_runV (As := []) (rest := [.int (nI j)]) (wc := [(vp, .inr (4, [.int 7, .int 3, .ref vpc, .int (nI n)]))]) (q0 := 0) (ci := 4) C hW hl (c_X6_size l G vp vpc 7 3 n  _) k_ml_X9_122 q_X6_size (by decide) [1] rfl rfl rfl rfl rfl rfl (Nat.le_of_ble_eq_true rfl) dX9_carriersOn_11 (by decide)) (fun r_160 er_160 => ?_)
      clear hW H locs; intro H locs hW
      subst er_160
      refine lv_icmp_ge (tgt := 50) hx hb dX9_carriersOn_14 (by decide) (fun c_161 => ?_) (fun c_161 => ?_)
      · replace c_161 := Int32.not_lt.mpr c_161
        have c_161n : ¬ j < n := fun q => c_161 ((nI_ltI (a := j) (b := n) (by omega) (by omega)).mpr q)
        refine lv_iload_n hx hb dX9_carriersOn_50 rfl (lv_at hl 1 rfl) ?_
        subst hQ
        exact g_iret (v := (orF (fun i => decide (pf (i * 3 + 1) = hill) && decide (wide ≤ rch ck wd pf i hr (pf (i * 3 + 1)) (ck 1))) j)) C hW hrt ⟨by rw [show j = n by omega], rfl⟩ dX9_carriersOn_51
      · replace c_161 := Int32.not_le.mp c_161
        have c_161n : j < n := (nI_ltI (a := j) (b := n) (by omega) (by omega)).mp c_161
        refine lv_aload_n hx hb dX9_carriersOn_17 rfl (lv_at hl 2 rfl) ?_
        refine lv_iload hx hb dX9_carriersOn_18 (lv_at hl 0 rfl) ?_
        refine lv_iload_n hx hb dX9_carriersOn_20 rfl (lv_at hl 3 rfl) ?_
        refine g_fi C hW [0, 1, 2] rfl (g_runV (As := [.int (nI j), .int hill]) (rest := []) (wc := [(v, .inr (7, [.int wide, .ref vw, .ref vc, .ref vp, .ref vs, .ref vn, .ref vm, .ref vu])), (vp, .inr (4, [.int 7, .int 3, .ref vpc, .int (nI n)])), (vpc, .inl (G.2.1, 21, .inl pf))]) (q0 := 0) (ci := 7) C hW hl (c_X9_isOn l G v vw vc vp vs vn vm vu wide vpc n pf (nI j) hill (by first | assumption | omega) _) k_ml_X9_118 q_X9_isOn (by decide) [0, 1, 2] rfl rfl rfl rfl rfl rfl (Nat.le_of_ble_eq_true rfl) dX9_carriersOn_21 (by decide)) (fun r_163 er_163 => ?_)
        clear hW H locs; intro H locs hW
        subst er_163
        have J_168 : ∀ (x_167 : Int32) (_ : x_167 = (if (bI (onb n pf (nI j) hill)) = 0 then orF (fun i => decide (pf (i * 3 + 1) = hill) && decide (wide ≤ rch ck wd pf i hr (pf (i * 3 + 1)) (ck 1))) j else (if (bI (decide (wide ≤ rch ck wd pf j hr (pf (j * 3 + 1)) (ck 1)))) = 0 then orF (fun i => decide (pf (i * 3 + 1) = hill) && decide (wide ≤ rch ck wd pf i hr (pf (i * 3 + 1)) (ck 1))) j else (orF (fun i => decide (pf (i * 3 + 1) = hill) && decide (wide ≤ rch ck wd pf i hr (pf (i * 3 + 1)) (ck 1))) j) ||| (1 <<< ((nI j) &&& 31))))), ∀ (H : Heap) (locs : List Loc) (ls : Array Slot), Wd G A_ s_.heap [(v, .inr (7, [.int wide, .ref vw, .ref vc, .ref vp, .ref vs, .ref vn, .ref vm, .ref vu])), (vp, .inr (4, [.int 7, .int 3, .ref vpc, .int (nI n)])), (vpc, .inl (G.2.1, 21, .inl pf)), (vc, .inl (G.2.1, 7, .inl ck)), (vw, .inl (G.2.1, 6, .inl wd))] H locs → lv_has ls 5 [(4, .int (nI j)), (3, .int x_167), (0, .ref v), (1, .int hill), (2, .int (nI hr))] → W p_ l e_ ({ frames := 4, cells := 0, slots := 0, locals := 93 }) s_ m_ ar_ be_ me_ cd_ H locs 0 0 Q (F0 m_ 44 ls []) := by
          intro x_167 ex_167 H locs ls hW hl
          refine lv_iinc (v := (nI j) + 1) (lv' := [(4, .int ((nI j) + 1)), (3, .int x_167), (0, .ref v), (1, .int hill), (2, .int (nI hr))]) hx hb dX9_carriersOn_44 hl (k := 0) rfl rfl (by decide) rfl ?_
          clear hl ls; intro ls hl
          refine lv_goto (tgt := 5) hx hb dX9_carriersOn_47 (by decide) ?_
          exact ih_ (j + 1) ((nI j) + 1) x_167 (by first | rfl | assumption | omega | exact nI_1 _ | (simp; done)) (by (simp only [ex_167, onb_nI (show n < 1000 by omega) (show j < n by omega), bstep2]; rfl)) (by first | rfl | assumption | omega | exact nI_1 _ | (simp; done)) (by omega) _ _ _ hW (lv_sub hl [0, 1, 2, 3, 4] rfl)
        refine lv_if_eq (tgt := 44) hx hb dX9_carriersOn_24 (by decide) (fun c_164 => ?_) (fun c_164 => ?_)
        · exact J_168 (orF (fun i => decide (pf (i * 3 + 1) = hill) && decide (wide ≤ rch ck wd pf i hr (pf (i * 3 + 1)) (ck 1))) j) (by first | rfl | (simp only [c_164, if_true, if_false, reduceIte]; done) | (simp [c_164]; done)) _ _ _ hW (lv_sub hl [0, 1, 2, 3, 4] rfl)
        · refine lv_aload_n hx hb dX9_carriersOn_27 rfl (lv_at hl 2 rfl) ?_
          refine lv_iload hx hb dX9_carriersOn_28 (lv_at hl 0 rfl) ?_
          refine lv_iload_n hx hb dX9_carriersOn_30 rfl (lv_at hl 4 rfl) ?_
          refine g_fi C hW [0, 1, 2, 3, 4] rfl (g_runV (As := [.int (nI j), .int (nI hr)]) (rest := []) (wc := [(v, .inr (7, [.int wide, .ref vw, .ref vc, .ref vp, .ref vs, .ref vn, .ref vm, .ref vu])), (vp, .inr (4, [.int 7, .int 3, .ref vpc, .int (nI n)])), (vpc, .inl (G.2.1, 21, .inl pf)), (vc, .inl (G.2.1, 7, .inl ck)), (vw, .inl (G.2.1, 6, .inl wd))]) (q0 := 0) (ci := 7) C hW hl (c_X9_carries l G v vw vc vp vs vn vm vu wide vpc n pf ck wd j hr (by first | assumption | omega) (by first | assumption | omega) (by omega) (by assumption) (by assumption) (by assumption) _) k_ml_X9_125 q_X9_carries (by decide) [0, 1, 2, 3, 4] rfl rfl rfl rfl rfl rfl (Nat.le_of_ble_eq_true rfl) dX9_carriersOn_31 (by decide)) (fun r_169 er_169 => ?_)
          clear hW H locs; intro H locs hW
          subst er_169
          refine lv_if_eq (tgt := 44) hx hb dX9_carriersOn_34 (by decide) (fun c_170 => ?_) (fun c_170 => ?_)
          · exact J_168 (orF (fun i => decide (pf (i * 3 + 1) = hill) && decide (wide ≤ rch ck wd pf i hr (pf (i * 3 + 1)) (ck 1))) j) (by first | rfl | (simp only [c_164, c_170, if_true, if_false, reduceIte]; done) | (simp [c_164, c_170]; done)) _ _ _ hW (lv_sub hl [0, 1, 2, 3, 4] rfl)
          · refine lv_iload_n hx hb dX9_carriersOn_37 rfl (lv_at hl 1 rfl) ?_
            refine lv_iconst (v := 1) hx hb dX9_carriersOn_38 (by decide) ?_
            refine lv_iload hx hb dX9_carriersOn_39 (lv_at hl 0 rfl) ?_
            refine lv_ishl hx hb dX9_carriersOn_41 ?_
            refine lv_ior hx hb dX9_carriersOn_42 ?_
            refine lv_istore_n (lv' := [(3, .int ((orF (fun i => decide (pf (i * 3 + 1) = hill) && decide (wide ≤ rch ck wd pf i hr (pf (i * 3 + 1)) (ck 1))) j) ||| (1 <<< ((nI j) &&& 31)))), (4, .int (nI j)), (0, .ref v), (1, .int hill), (2, .int (nI hr))]) hx hb dX9_carriersOn_43 rfl hl (by decide) rfl ?_
            clear hl ls; intro ls hl
            exact J_168 ((orF (fun i => decide (pf (i * 3 + 1) = hill) && decide (wide ≤ rch ck wd pf i hr (pf (i * 3 + 1)) (ck 1))) j) ||| (1 <<< ((nI j) &&& 31))) (by first | rfl | (simp only [c_164, c_170, if_true, if_false, reduceIte]; done) | (simp [c_164, c_170]; done)) _ _ _ hW (lv_sub hl [1, 0, 2, 3, 4] rfl)
  exact K_157 _ 0 0 0 (by first | rfl | assumption | omega | exact nI_1 _ | (simp; done)) (by first | rfl | assumption | omega | exact nI_1 _ | (simp; done)) (by first | rfl | assumption | omega | exact nI_1 _ | (simp; done)) (Nat.lt_succ_self _) _ _ _ hW (lv_sub hl [0, 1, 2, 3, 4] rfl)
set_option maxHeartbeats 4000000 in
set_option maxRecDepth 100000 in
theorem c_X9_remember (l : Launch) (G : gT) (v vw vc vp vs vn vm vu : Nat) (wide : Int32) (ck : Nat → Int32) (vuc u : Nat) (uf : Nat → Int32) (hu : u ≤ 8) : MV l G yX9_remember cX9_remember 1 ({ frames := 2, cells := 0, slots := 0, locals := 61 }) [.ref v] [(v, .inr (7, [.int wide, .ref vw, .ref vc, .ref vp, .ref vs, .ref vn, .ref vm, .ref vu])), (vc, .inl (G.2.1, 7, .inl ck)), (vu, .inr (1, [.ref vuc, .int (nI u)])), (vuc, .inl (G.2.1, 56, .inl uf))] (fun w1 => ∃ u_ : Unit, (True) ∧ w1 = [(v, .inr (7, [.int wide, .ref vw, .ref vc, .ref vp, .ref vs, .ref vn, .ref vm, .ref vu])), (vc, .inl (G.2.1, 7, .inl ck)), (vu, .inr (1, [.ref vuc, .int (nI (pun u))])), (vuc, .inl (G.2.1, 56, .inl (pu u uf ck)))]) := by
  refine MV.mk (by decide) (Nat.le_of_ble_eq_true rfl) ?_
  intro p_ e_ s_ m_ ar_ be_ me_ cd_ A_ ls C hrt hW hl
  have hx := C.1; have hb := C.2.1; have hown := C.2.2.2.1; have ht := C.2.2.2.2.1
  replace hl : lv_has ls 1 [(0, .ref v)] := hl
  generalize hQ : MQ be_ _ ar_ s_ 0 0 A_ = Q
  refine lv_aload_n hx hb dX9_remember_0 rfl (lv_at hl 0 rfl) ?_
  refine g_get (k := 7) (v := .ref vu) C hW 0 rfl rfl jnX9 (by decide) k_fl_X9_43 rfl dX9_remember_1 ?_
  refine lv_aload_n hx hb dX9_remember_4 rfl (lv_at hl 0 rfl) ?_
  refine g_get (k := 2) (v := .ref vc) C hW 0 rfl rfl jnX9 (by decide) k_fl_X9_19 rfl dX9_remember_5 ?_
  refine g_fvw (wr := [(v, .inr (7, [.int wide, .ref vw, .ref vc, .ref vp, .ref vs, .ref vn, .ref vm, .ref vu]))]) (ww := fun (u_ : Unit) => [(vu, .inr (1, [.ref vuc, .int (nI (pun u))])), (vuc, .inl (G.2.1, 56, .inl (pu u uf ck))), (vc, .inl (G.2.1, 7, .inl ck))]) (w2 := fun (u_ : Unit) => [(v, .inr (7, [.int wide, .ref vw, .ref vc, .ref vp, .ref vs, .ref vn, .ref vm, .ref vu])), (vc, .inl (G.2.1, 7, .inl ck)), (vu, .inr (1, [.ref vuc, .int (nI (pun u))])), (vuc, .inl (G.2.1, 56, .inl (pu u uf ck)))]) C hW [2, 3, 1] [0] [0, 3, 1, 2] rfl rfl (by decide) (by decide) (by decide) (fun _ => rfl) (g_runV (As := [.ref vc]) (rest := []) (wc := [(vu, .inr (1, [.ref vuc, .int (nI u)])), (vuc, .inl (G.2.1, 56, .inl uf)), (vc, .inl (G.2.1, 7, .inl ck))]) (q0 := 0) (ci := 1) C hW hl (c_X3_push l G vu vuc u uf vc ck (by omega) _) k_ml_X9_128 q_X3_push (by decide) [2, 3, 1] rfl rfl rfl rfl rfl rfl (Nat.le_of_ble_eq_true rfl) dX9_remember_8 (by decide)) (fun _ er_171 => ?_)
  clear hW; intro H locs hW
  replace hW : Wd G A_ s_.heap [(v, .inr (7, [.int wide, .ref vw, .ref vc, .ref vp, .ref vs, .ref vn, .ref vm, .ref vu])), (vc, .inl (G.2.1, 7, .inl ck)), (vu, .inr (1, [.ref vuc, .int (nI (pun u))])), (vuc, .inl (G.2.1, 56, .inl (pu u uf ck)))] H locs := hW
  subst hQ
  exact g_vret C hW hrt ⟨(), trivial, by rfl⟩ dX9_remember_11
set_option maxHeartbeats 4000000 in
set_option maxRecDepth 100000 in
theorem c_X9_letPass (l : Launch) (G : gT) (v vw vc vp vs vn vm vu : Nat) (wide : Int32) (ck : Nat → Int32) (n_ : Int32)  : MV l G yX9_letPass cX9_letPass 2 ({ frames := 1, cells := 0, slots := 0, locals := 15 }) [.ref v, .int n_] [(v, .inr (7, [.int wide, .ref vw, .ref vc, .ref vp, .ref vs, .ref vn, .ref vm, .ref vu])), (vc, .inl (G.2.1, 7, .inl ck))] (fun w1 => ∃ u_ : Unit, (True) ∧ w1 = [(v, .inr (7, [.int wide, .ref vw, .ref vc, .ref vp, .ref vs, .ref vn, .ref vm, .ref vu])), (vc, .inl (G.2.1, 7, .inl (lps ck n_)))]) := by
  refine MV.mk (by decide) (Nat.le_of_ble_eq_true rfl) ?_
  intro p_ e_ s_ m_ ar_ be_ me_ cd_ A_ ls C hrt hW hl
  have hx := C.1; have hb := C.2.1; have hown := C.2.2.2.1; have ht := C.2.2.2.2.1
  replace hl : lv_has ls 2 [(0, .ref v), (1, .int n_)] := hl
  generalize hQ : MQ be_ _ ar_ s_ 0 0 A_ = Q
  refine lv_aload_n hx hb dX9_letPass_0 rfl (lv_at hl 0 rfl) ?_
  refine g_get (k := 2) (v := .ref vc) C hW 0 rfl rfl jnX9 (by decide) k_fl_X9_19 rfl dX9_letPass_1 ?_
  refine lv_bipush (v := 6) hx hb dX9_letPass_4 (by decide) ?_
  refine lv_sipush (v := 9999) hx hb dX9_letPass_6 (by decide) ?_
  refine lv_aload_n hx hb dX9_letPass_9 rfl (lv_at hl 0 rfl) ?_
  refine g_get (k := 2) (v := .ref vc) C hW 0 rfl rfl jnX9 (by decide) k_fl_X9_19 rfl dX9_letPass_10 ?_
  refine lv_bipush (v := 6) hx hb dX9_letPass_13 (by decide) ?_
  refine g_ald C hW 1 rfl (vp_in_nI (n := 6) (by omega) (by omega)) dX9_letPass_15 ?_
  refine lv_as (y := ck 6) (rfl) ?_
  refine lv_iload_n hx hb dX9_letPass_16 rfl (lv_at hl 1 rfl) ?_
  refine lv_iadd hx hb dX9_letPass_17 ?_
  refine g_min C hl k_ml_X9_136 ⟨Nat.le_of_ble_eq_true rfl, Nat.le_of_ble_eq_true rfl⟩ (by decide) dX9_letPass_18 ?_
  refine g_ast (w' := [(v, .inr (7, [.int wide, .ref vw, .ref vc, .ref vp, .ref vs, .ref vn, .ref vm, .ref vu])), (vc, .inl (G.2.1, 7, .inl (upd ck 6 (if ((ck 6) + n_) < 9999 then ((ck 6) + n_) else 9999))))]) C hW 1 rfl (vp_in_nI (n := 6) (by omega) (by omega)) (by rw [show (6 : Int32).toNatClampNeg = 6 from rfl]; rfl) dX9_letPass_21 ?_
  clear hW; intro H locs hW
  subst hQ
  exact g_vret C hW hrt ⟨(), trivial, by rfl⟩ dX9_letPass_22
set_option maxHeartbeats 4000000 in
set_option maxRecDepth 100000 in
theorem c_X9_pickUp (l : Launch) (G : gT) (v vw vc vp vs vn vm vu : Nat) (wide : Int32) (ck : Nat → Int32) (hill : Int32)  : MV l G yX9_pickUp cX9_pickUp 2 ({ frames := 0, cells := 0, slots := 0, locals := 0 }) [.ref v, .int hill] [(v, .inr (7, [.int wide, .ref vw, .ref vc, .ref vp, .ref vs, .ref vn, .ref vm, .ref vu])), (vc, .inl (G.2.1, 7, .inl ck))] (fun w1 => ∃ u_ : Unit, (True) ∧ w1 = [(v, .inr (7, [.int wide, .ref vw, .ref vc, .ref vp, .ref vs, .ref vn, .ref vm, .ref vu])), (vc, .inl (G.2.1, 7, .inl (upd (upd ck 2 hill) 3 1)))]) := by
  refine MV.mk (by decide) (Nat.le_of_ble_eq_true rfl) ?_
  intro p_ e_ s_ m_ ar_ be_ me_ cd_ A_ ls C hrt hW hl
  have hx := C.1; have hb := C.2.1; have hown := C.2.2.2.1; have ht := C.2.2.2.2.1
  replace hl : lv_has ls 2 [(0, .ref v), (1, .int hill)] := hl
  generalize hQ : MQ be_ _ ar_ s_ 0 0 A_ = Q
  refine lv_aload_n hx hb dX9_pickUp_0 rfl (lv_at hl 0 rfl) ?_
  refine g_get (k := 2) (v := .ref vc) C hW 0 rfl rfl jnX9 (by decide) k_fl_X9_19 rfl dX9_pickUp_1 ?_
  refine lv_iconst (v := 2) hx hb dX9_pickUp_4 (by decide) ?_
  refine lv_iload_n hx hb dX9_pickUp_5 rfl (lv_at hl 1 rfl) ?_
  refine g_ast (w' := [(v, .inr (7, [.int wide, .ref vw, .ref vc, .ref vp, .ref vs, .ref vn, .ref vm, .ref vu])), (vc, .inl (G.2.1, 7, .inl (upd ck 2 hill)))]) C hW 1 rfl (vp_in_nI (n := 2) (by omega) (by omega)) (by rw [show (2 : Int32).toNatClampNeg = 2 from rfl]; rfl) dX9_pickUp_6 ?_
  clear hW; intro H locs hW
  refine lv_aload_n hx hb dX9_pickUp_7 rfl (lv_at hl 0 rfl) ?_
  refine g_get (k := 2) (v := .ref vc) C hW 0 rfl rfl jnX9 (by decide) k_fl_X9_19 rfl dX9_pickUp_8 ?_
  refine lv_iconst (v := 3) hx hb dX9_pickUp_11 (by decide) ?_
  refine lv_iconst (v := 1) hx hb dX9_pickUp_12 (by decide) ?_
  refine g_ast (w' := [(v, .inr (7, [.int wide, .ref vw, .ref vc, .ref vp, .ref vs, .ref vn, .ref vm, .ref vu])), (vc, .inl (G.2.1, 7, .inl (upd (upd ck 2 hill) 3 1)))]) C hW 1 rfl (vp_in_nI (n := 3) (by omega) (by omega)) (by rw [show (3 : Int32).toNatClampNeg = 3 from rfl]; rfl) dX9_pickUp_13 ?_
  clear hW H locs; intro H locs hW
  subst hQ
  exact g_vret C hW hrt ⟨(), trivial, by rfl⟩ dX9_pickUp_14
set_option maxHeartbeats 4000000 in
set_option maxRecDepth 100000 in
theorem c_X9_feather (l : Launch) (G : gT) (v vw vc vp vs vn vm vu : Nat) (wide : Int32) (ck : Nat → Int32) (kind g : Int32)  : MV l G yX9_feather cX9_feather 3 ({ frames := 0, cells := 0, slots := 0, locals := 0 }) [.ref v, .int kind, .int g] [(v, .inr (7, [.int wide, .ref vw, .ref vc, .ref vp, .ref vs, .ref vn, .ref vm, .ref vu])), (vc, .inl (G.2.1, 7, .inl ck))] (fun w1 => ∃ u_ : Unit, (True) ∧ w1 = [(v, .inr (7, [.int wide, .ref vw, .ref vc, .ref vp, .ref vs, .ref vn, .ref vm, .ref vu])), (vc, .inl (G.2.1, 7, .inl (upd (upd ck 0 kind) 1 g)))]) := by
  refine MV.mk (by decide) (Nat.le_of_ble_eq_true rfl) ?_
  intro p_ e_ s_ m_ ar_ be_ me_ cd_ A_ ls C hrt hW hl
  have hx := C.1; have hb := C.2.1; have hown := C.2.2.2.1; have ht := C.2.2.2.2.1
  replace hl : lv_has ls 3 [(0, .ref v), (1, .int kind), (2, .int g)] := hl
  generalize hQ : MQ be_ _ ar_ s_ 0 0 A_ = Q
  refine lv_aload_n hx hb dX9_feather_0 rfl (lv_at hl 0 rfl) ?_
  refine g_get (k := 2) (v := .ref vc) C hW 0 rfl rfl jnX9 (by decide) k_fl_X9_19 rfl dX9_feather_1 ?_
  refine lv_iconst (v := 0) hx hb dX9_feather_4 (by decide) ?_
  refine lv_iload_n hx hb dX9_feather_5 rfl (lv_at hl 1 rfl) ?_
  refine g_ast (w' := [(v, .inr (7, [.int wide, .ref vw, .ref vc, .ref vp, .ref vs, .ref vn, .ref vm, .ref vu])), (vc, .inl (G.2.1, 7, .inl (upd ck 0 kind)))]) C hW 1 rfl (vp_in_nI (n := 0) (by omega) (by omega)) (by rw [show (0 : Int32).toNatClampNeg = 0 from rfl]; rfl) dX9_feather_6 ?_
  clear hW; intro H locs hW
  refine lv_aload_n hx hb dX9_feather_7 rfl (lv_at hl 0 rfl) ?_
  refine g_get (k := 2) (v := .ref vc) C hW 0 rfl rfl jnX9 (by decide) k_fl_X9_19 rfl dX9_feather_8 ?_
  refine lv_iconst (v := 1) hx hb dX9_feather_11 (by decide) ?_
  refine lv_iload_n hx hb dX9_feather_12 rfl (lv_at hl 2 rfl) ?_
  refine g_ast (w' := [(v, .inr (7, [.int wide, .ref vw, .ref vc, .ref vp, .ref vs, .ref vn, .ref vm, .ref vu])), (vc, .inl (G.2.1, 7, .inl (upd (upd ck 0 kind) 1 g)))]) C hW 1 rfl (vp_in_nI (n := 1) (by omega) (by omega)) (by rw [show (1 : Int32).toNatClampNeg = 1 from rfl]; rfl) dX9_feather_13 ?_
  clear hW H locs; intro H locs hW
  subst hQ
  exact g_vret C hW hrt ⟨(), trivial, by rfl⟩ dX9_feather_14
set_option maxHeartbeats 4000000 in
set_option maxRecDepth 100000 in
theorem c_X9_strike (l : Launch) (G : gT) (v vw vc vp vs vn vm vu : Nat) (wide : Int32) (vpc n : Nat) (pf : Nat → Int32) (ck wd : Nat → Int32) (k hr : Nat) (hk : k < n) (hn : n ≤ 7) (eh : ck 6 = nI hr) (hh : hr < 100000) (hP : okP n pf) (hWd : okW wd) (hg : Rg (ck 1) 1 9) : MI l G yX9_strike cX9_strike 3 .int ({ frames := 4, cells := 0, slots := 0, locals := 93 }) [.ref v, .int (nI k)] [(v, .inr (7, [.int wide, .ref vw, .ref vc, .ref vp, .ref vs, .ref vn, .ref vm, .ref vu])), (vp, .inr (4, [.int 7, .int 3, .ref vpc, .int (nI n)])), (vpc, .inl (G.2.1, 21, .inl pf)), (vc, .inl (G.2.1, 7, .inl ck)), (vw, .inl (G.2.1, 6, .inl wd))] (fun (r : Int32) w1 => ∃ u_ : Unit, (r = bI (decide (wide ≤ rch ck wd pf k hr (pf (k * 3 + 1)) (ck 1)))) ∧ w1 = [(v, .inr (7, [.int wide, .ref vw, .ref vc, .ref vp, .ref vs, .ref vn, .ref vm, .ref vu])), (vp, .inr (4, [.int 7, .int 3, .ref vpc, .int (nI n)])), (vpc, .inl (G.2.1, 21, .inl pf)), (vc, .inl (G.2.1, 7, .inl (stk ck (decide (wide ≤ rch ck wd pf k hr (pf (k * 3 + 1)) (ck 1)))))), (vw, .inl (G.2.1, 6, .inl wd))]) := by
  refine MI.mk (by decide) (Nat.le_of_ble_eq_true rfl) ?_
  intro p_ e_ s_ m_ ar_ be_ me_ cd_ A_ ls C hrt hW hl
  have hx := C.1; have hb := C.2.1; have hown := C.2.2.2.1; have ht := C.2.2.2.2.1
  replace hl : lv_has ls 3 [(0, .ref v), (1, .int (nI k))] := hl
  generalize hQ : MQ be_ _ ar_ s_ 0 0 A_ = Q
  refine lv_aload_n hx hb dX9_strike_0 rfl (lv_at hl 0 rfl) ?_
  refine lv_iload_n hx hb dX9_strike_1 rfl (lv_at hl 1 rfl) ?_
  refine lv_aload_n hx hb dX9_strike_2 rfl (lv_at hl 0 rfl) ?_
  refine g_fi C hW [0, 3] rfl (g_runV (As := []) (rest := [.int (nI k), .ref v]) (wc := [(v, .inr (7, [.int wide, .ref vw, .ref vc, .ref vp, .ref vs, .ref vn, .ref vm, .ref vu])), (vc, .inl (G.2.1, 7, .inl ck))]) (q0 := 0) (ci := 7) C hW hl (c_X9_hour l G v vw vc vp vs vn vm vu wide ck  _) k_ml_X9_104 q_X9_hour (by decide) [0, 3] rfl rfl rfl rfl rfl rfl (Nat.le_of_ble_eq_true rfl) dX9_strike_3 (by decide)) (fun r_173 er_173 => ?_)
  clear hW; intro H locs hW
  subst er_173
  refine lv_as (y := nI hr) (eh) ?_
  refine g_fi C hW [0, 1, 2, 3, 4] rfl (g_runV (As := [.int (nI k), .int (nI hr)]) (rest := []) (wc := [(v, .inr (7, [.int wide, .ref vw, .ref vc, .ref vp, .ref vs, .ref vn, .ref vm, .ref vu])), (vp, .inr (4, [.int 7, .int 3, .ref vpc, .int (nI n)])), (vpc, .inl (G.2.1, 21, .inl pf)), (vc, .inl (G.2.1, 7, .inl ck)), (vw, .inl (G.2.1, 6, .inl wd))]) (q0 := 0) (ci := 7) C hW hl (c_X9_carries l G v vw vc vp vs vn vm vu wide vpc n pf ck wd k hr (by first | assumption | omega) (by first | assumption | omega) (by omega) (by assumption) (by assumption) (by assumption) _) k_ml_X9_125 q_X9_carries (by decide) [0, 1, 2, 3, 4] rfl rfl rfl rfl rfl rfl (Nat.le_of_ble_eq_true rfl) dX9_strike_6 (by decide)) (fun r_174 er_174 => ?_)
  clear hW H locs; intro H locs hW
  subst er_174
  refine lv_topi (fun ov eov => ?_)
  refine lv_istore_n (lv' := [(2, .int ov), (0, .ref v), (1, .int (nI k))]) hx hb dX9_strike_9 rfl hl (by decide) rfl ?_
  clear hl ls; intro ls hl
  refine lv_iload_n hx hb dX9_strike_10 rfl (lv_at hl 0 rfl) ?_
  have J_177 : ∀ (g_176 : Nat → Int32) (_ : g_176 = (if ov = 0 then upd (upd (upd ck 3 0) 5 (((upd ck 3 0) 5) + 1)) 4 0 else upd (upd ck 2 (1 - (ck 2))) 4 (((upd ck 2 (1 - (ck 2))) 4) + 1))), ∀ (H : Heap) (locs : List Loc) (ls : Array Slot), Wd G A_ s_.heap [(v, .inr (7, [.int wide, .ref vw, .ref vc, .ref vp, .ref vs, .ref vn, .ref vm, .ref vu])), (vp, .inr (4, [.int 7, .int 3, .ref vpc, .int (nI n)])), (vpc, .inl (G.2.1, 21, .inl pf)), (vc, .inl (G.2.1, 7, .inl g_176)), (vw, .inl (G.2.1, 6, .inl wd))] H locs → lv_has ls 3 [(2, .int ov), (0, .ref v), (1, .int (nI k))] → W p_ l e_ ({ frames := 4, cells := 0, slots := 0, locals := 93 }) s_ m_ ar_ be_ me_ cd_ H locs 0 0 Q (F0 m_ 65 ls []) := by
    intro g_176 eg_176 H locs ls hW hl
    refine lv_aload_n hx hb dX9_strike_65 rfl (lv_at hl 1 rfl) ?_
    refine lv_iconst (v := 1) hx hb dX9_strike_66 (by decide) ?_
    refine g_fvw (wr := [(vp, .inr (4, [.int 7, .int 3, .ref vpc, .int (nI n)])), (vpc, .inl (G.2.1, 21, .inl pf)), (vw, .inl (G.2.1, 6, .inl wd))]) (ww := fun (u_ : Unit) => [(v, .inr (7, [.int wide, .ref vw, .ref vc, .ref vp, .ref vs, .ref vn, .ref vm, .ref vu])), (vc, .inl (G.2.1, 7, .inl (lps g_176 1)))]) (w2 := fun (u_ : Unit) => [(v, .inr (7, [.int wide, .ref vw, .ref vc, .ref vp, .ref vs, .ref vn, .ref vm, .ref vu])), (vp, .inr (4, [.int 7, .int 3, .ref vpc, .int (nI n)])), (vpc, .inl (G.2.1, 21, .inl pf)), (vc, .inl (G.2.1, 7, .inl (lps g_176 1))), (vw, .inl (G.2.1, 6, .inl wd))]) C hW [0, 3] [1, 2, 4] [3, 0, 1, 4, 2] rfl rfl (by decide) (by decide) (by decide) (fun _ => rfl) (g_runV (As := [.int 1]) (rest := []) (wc := [(v, .inr (7, [.int wide, .ref vw, .ref vc, .ref vp, .ref vs, .ref vn, .ref vm, .ref vu])), (vc, .inl (G.2.1, 7, .inl g_176))]) (q0 := 0) (ci := 7) C hW hl (c_X9_letPass l G v vw vc vp vs vn vm vu wide g_176 1  _) k_ml_X9_132 q_X9_letPass (by decide) [0, 3] rfl rfl rfl rfl rfl rfl (Nat.le_of_ble_eq_true rfl) dX9_strike_67 (by decide)) (fun _ er_178 => ?_)
    clear hW H locs; intro H locs hW
    replace hW : Wd G A_ s_.heap [(v, .inr (7, [.int wide, .ref vw, .ref vc, .ref vp, .ref vs, .ref vn, .ref vm, .ref vu])), (vp, .inr (4, [.int 7, .int 3, .ref vpc, .int (nI n)])), (vpc, .inl (G.2.1, 21, .inl pf)), (vc, .inl (G.2.1, 7, .inl (lps g_176 1))), (vw, .inl (G.2.1, 6, .inl wd))] H locs := hW
    refine lv_iload_n hx hb dX9_strike_70 rfl (lv_at hl 0 rfl) ?_
    have J_182 : ∀ (y_181 : Int32) (_ : y_181 = (if ov = 0 then 0 else 1)), ∀ (H : Heap) (locs : List Loc) (ls : Array Slot), Wd G A_ s_.heap [(v, .inr (7, [.int wide, .ref vw, .ref vc, .ref vp, .ref vs, .ref vn, .ref vm, .ref vu])), (vp, .inr (4, [.int 7, .int 3, .ref vpc, .int (nI n)])), (vpc, .inl (G.2.1, 21, .inl pf)), (vc, .inl (G.2.1, 7, .inl (lps g_176 1))), (vw, .inl (G.2.1, 6, .inl wd))] H locs → lv_has ls 3 [(2, .int ov), (0, .ref v), (1, .int (nI k))] → W p_ l e_ ({ frames := 4, cells := 0, slots := 0, locals := 93 }) s_ m_ ar_ be_ me_ cd_ H locs 0 0 Q (F0 m_ 79 ls [.int y_181]) := by
      intro y_181 ey_181 H locs ls hW hl
      subst hQ
      exact g_iret (v := y_181) C hW hrt ⟨(), by (simp only [eg_176, ey_181, eov, bstep]; rfl), by (simp (disch := decide) only [stk, eg_176, ey_181, eov, bstepf, pk_un])⟩ dX9_strike_79
    refine lv_if_eq (tgt := 78) hx hb dX9_strike_71 (by decide) (fun c_180 => ?_) (fun c_180 => ?_)
    · refine lv_iconst (v := 0) hx hb dX9_strike_78 (by decide) ?_
      exact J_182 0 (by first | rfl | (simp only [c_180, if_true, if_false, reduceIte]; done) | (simp [c_180]; done)) _ _ _ hW (lv_sub hl [0, 1, 2] rfl)
    · refine lv_iconst (v := 1) hx hb dX9_strike_74 (by decide) ?_
      refine lv_goto (tgt := 79) hx hb dX9_strike_75 (by decide) ?_
      exact J_182 1 (by first | rfl | (simp only [c_180, if_true, if_false, reduceIte]; done) | (simp [c_180]; done)) _ _ _ hW (lv_sub hl [0, 1, 2] rfl)
  refine lv_if_eq (tgt := 41) hx hb dX9_strike_11 (by decide) (fun c_175 => ?_) (fun c_175 => ?_)
  · refine lv_aload_n hx hb dX9_strike_41 rfl (lv_at hl 1 rfl) ?_
    refine g_get (k := 2) (v := .ref vc) C hW 0 rfl rfl jnX9 (by decide) k_fl_X9_19 rfl dX9_strike_42 ?_
    refine lv_iconst (v := 3) hx hb dX9_strike_45 (by decide) ?_
    refine lv_iconst (v := 0) hx hb dX9_strike_46 (by decide) ?_
    refine g_ast (w' := [(v, .inr (7, [.int wide, .ref vw, .ref vc, .ref vp, .ref vs, .ref vn, .ref vm, .ref vu])), (vp, .inr (4, [.int 7, .int 3, .ref vpc, .int (nI n)])), (vpc, .inl (G.2.1, 21, .inl pf)), (vc, .inl (G.2.1, 7, .inl (upd ck 3 0))), (vw, .inl (G.2.1, 6, .inl wd))]) C hW 3 rfl (vp_in_nI (n := 3) (by omega) (by omega)) (by rw [show (3 : Int32).toNatClampNeg = 3 from rfl]; rfl) dX9_strike_47 ?_
    clear hW H locs; intro H locs hW
    refine lv_aload_n hx hb dX9_strike_48 rfl (lv_at hl 1 rfl) ?_
    refine g_get (k := 2) (v := .ref vc) C hW 0 rfl rfl jnX9 (by decide) k_fl_X9_19 rfl dX9_strike_49 ?_
    refine lv_iconst (v := 5) hx hb dX9_strike_52 (by decide) ?_
    refine lv_dup2_11 hx hb dX9_strike_53 rfl rfl ?_
    refine g_ald C hW 3 rfl (vp_in_nI (n := 5) (by omega) (by omega)) dX9_strike_54 ?_
    refine lv_as (y := (upd ck 3 0) 5) (rfl) ?_
    refine lv_iconst (v := 1) hx hb dX9_strike_55 (by decide) ?_
    refine lv_iadd hx hb dX9_strike_56 ?_
    refine g_ast (w' := [(v, .inr (7, [.int wide, .ref vw, .ref vc, .ref vp, .ref vs, .ref vn, .ref vm, .ref vu])), (vp, .inr (4, [.int 7, .int 3, .ref vpc, .int (nI n)])), (vpc, .inl (G.2.1, 21, .inl pf)), (vc, .inl (G.2.1, 7, .inl (upd (upd ck 3 0) 5 (((upd ck 3 0) 5) + 1)))), (vw, .inl (G.2.1, 6, .inl wd))]) C hW 3 rfl (vp_in_nI (n := 5) (by omega) (by omega)) (by rw [show (5 : Int32).toNatClampNeg = 5 from rfl]; rfl) dX9_strike_57 ?_
    clear hW H locs; intro H locs hW
    refine lv_aload_n hx hb dX9_strike_58 rfl (lv_at hl 1 rfl) ?_
    refine g_get (k := 2) (v := .ref vc) C hW 0 rfl rfl jnX9 (by decide) k_fl_X9_19 rfl dX9_strike_59 ?_
    refine lv_iconst (v := 4) hx hb dX9_strike_62 (by decide) ?_
    refine lv_iconst (v := 0) hx hb dX9_strike_63 (by decide) ?_
    refine g_ast (w' := [(v, .inr (7, [.int wide, .ref vw, .ref vc, .ref vp, .ref vs, .ref vn, .ref vm, .ref vu])), (vp, .inr (4, [.int 7, .int 3, .ref vpc, .int (nI n)])), (vpc, .inl (G.2.1, 21, .inl pf)), (vc, .inl (G.2.1, 7, .inl (upd (upd (upd ck 3 0) 5 (((upd ck 3 0) 5) + 1)) 4 0))), (vw, .inl (G.2.1, 6, .inl wd))]) C hW 3 rfl (vp_in_nI (n := 4) (by omega) (by omega)) (by rw [show (4 : Int32).toNatClampNeg = 4 from rfl]; rfl) dX9_strike_64 ?_
    clear hW H locs; intro H locs hW
    exact J_177 (upd (upd (upd ck 3 0) 5 (((upd ck 3 0) 5) + 1)) 4 0) (by first | rfl | (simp only [c_175, if_true, if_false, reduceIte]; done) | (simp [c_175]; done)) _ _ _ hW (lv_sub hl [0, 1, 2] rfl)
  · refine lv_aload_n hx hb dX9_strike_14 rfl (lv_at hl 1 rfl) ?_
    refine g_get (k := 2) (v := .ref vc) C hW 0 rfl rfl jnX9 (by decide) k_fl_X9_19 rfl dX9_strike_15 ?_
    refine lv_iconst (v := 2) hx hb dX9_strike_18 (by decide) ?_
    refine lv_iconst (v := 1) hx hb dX9_strike_19 (by decide) ?_
    refine lv_aload_n hx hb dX9_strike_20 rfl (lv_at hl 1 rfl) ?_
    refine g_get (k := 2) (v := .ref vc) C hW 0 rfl rfl jnX9 (by decide) k_fl_X9_19 rfl dX9_strike_21 ?_
    refine lv_iconst (v := 2) hx hb dX9_strike_24 (by decide) ?_
    refine g_ald C hW 3 rfl (vp_in_nI (n := 2) (by omega) (by omega)) dX9_strike_25 ?_
    refine lv_as (y := ck 2) (rfl) ?_
    refine lv_isub hx hb dX9_strike_26 ?_
    refine g_ast (w' := [(v, .inr (7, [.int wide, .ref vw, .ref vc, .ref vp, .ref vs, .ref vn, .ref vm, .ref vu])), (vp, .inr (4, [.int 7, .int 3, .ref vpc, .int (nI n)])), (vpc, .inl (G.2.1, 21, .inl pf)), (vc, .inl (G.2.1, 7, .inl (upd ck 2 (1 - (ck 2))))), (vw, .inl (G.2.1, 6, .inl wd))]) C hW 3 rfl (vp_in_nI (n := 2) (by omega) (by omega)) (by rw [show (2 : Int32).toNatClampNeg = 2 from rfl]; rfl) dX9_strike_27 ?_
    clear hW H locs; intro H locs hW
    refine lv_aload_n hx hb dX9_strike_28 rfl (lv_at hl 1 rfl) ?_
    refine g_get (k := 2) (v := .ref vc) C hW 0 rfl rfl jnX9 (by decide) k_fl_X9_19 rfl dX9_strike_29 ?_
    refine lv_iconst (v := 4) hx hb dX9_strike_32 (by decide) ?_
    refine lv_dup2_11 hx hb dX9_strike_33 rfl rfl ?_
    refine g_ald C hW 3 rfl (vp_in_nI (n := 4) (by omega) (by omega)) dX9_strike_34 ?_
    refine lv_as (y := (upd ck 2 (1 - (ck 2))) 4) (rfl) ?_
    refine lv_iconst (v := 1) hx hb dX9_strike_35 (by decide) ?_
    refine lv_iadd hx hb dX9_strike_36 ?_
    refine g_ast (w' := [(v, .inr (7, [.int wide, .ref vw, .ref vc, .ref vp, .ref vs, .ref vn, .ref vm, .ref vu])), (vp, .inr (4, [.int 7, .int 3, .ref vpc, .int (nI n)])), (vpc, .inl (G.2.1, 21, .inl pf)), (vc, .inl (G.2.1, 7, .inl (upd (upd ck 2 (1 - (ck 2))) 4 (((upd ck 2 (1 - (ck 2))) 4) + 1)))), (vw, .inl (G.2.1, 6, .inl wd))]) C hW 3 rfl (vp_in_nI (n := 4) (by omega) (by omega)) (by rw [show (4 : Int32).toNatClampNeg = 4 from rfl]; rfl) dX9_strike_37 ?_
    clear hW H locs; intro H locs hW
    refine lv_goto (tgt := 65) hx hb dX9_strike_38 (by decide) ?_
    exact J_177 (upd (upd ck 2 (1 - (ck 2))) 4 (((upd ck 2 (1 - (ck 2))) 4) + 1)) (by first | rfl | (simp only [c_175, if_true, if_false, reduceIte]; done) | (simp [c_175]; done)) _ _ _ hW (lv_sub hl [0, 1, 2] rfl)
