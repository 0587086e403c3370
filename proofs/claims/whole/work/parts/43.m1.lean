set_option maxHeartbeats 4000000 in
set_option maxRecDepth 100000 in
theorem c_X11_in (l : Launch) (G : gT) (x lo hi : Int32) (a b : Int64) (ha : lo.toInt64 = a) (hb_ : hi.toInt64 = b) : MI l G yX11_in cX11_in 6 .boolean ({ frames := 0, cells := 0, slots := 0, locals := 0 }) [.long x.toInt64, .long a, .long b] [] (fun (r : Int32) w1 => (r = bI (iw x lo hi)) ∧ w1 = []) := by
  refine MI.mk (by decide) (Nat.le_of_ble_eq_true rfl) ?_
  intro p_ e_ s_ m_ ar_ be_ me_ cd_ A_ ls C hrt hW hl
  have hx := C.1; have hb := C.2.1; have hown := C.2.2.2.1; have ht := C.2.2.2.2.1
  replace hl : lv_has ls 6 [(0, .long x.toInt64), (2, .long a), (4, .long b)] := hl
  generalize hQ : MQ be_ _ ar_ s_ 0 0 A_ = Q
  refine lv_lload_n hx hb dX11_in_0 rfl (lv_at hl 0 rfl) ?_
  refine lv_lload_n hx hb dX11_in_1 rfl (lv_at hl 1 rfl) ?_
  refine W.lcmp hx hb dX11_in_2 ?_
  have J_1365 : ∀ (y_1364 : Int32) (_ : y_1364 = (if 0 ≤ (lg_cmp x.toInt64 a) then if (lg_cmp x.toInt64 b) ≤ 0 then 1 else 0 else 0)), ∀ (H : Heap) (locs : List Loc) (ls : Array Slot), Wd G A_ s_.heap [] H locs → lv_has ls 6 [(0, .long x.toInt64), (2, .long a), (4, .long b)] → W p_ l e_ ({ frames := 0, cells := 0, slots := 0, locals := 0 }) s_ m_ ar_ be_ me_ cd_ H locs 0 0 Q (F0 m_ 18 ls [.int y_1364]) := by
    intro y_1364 ey_1364 H locs ls hW hl
    subst hQ
    exact g_zret (v := y_1364) C hW hrt (by (simp only [ey_1364]; exact (in_c ha hb_).symm ▸ bI_nar _)) ⟨by (simp only [ey_1364]; exact in_c ha hb_), rfl⟩ dX11_in_18
  refine lv_if_lt (tgt := 17) hx hb dX11_in_3 (by decide) (fun c_1363 => ?_) (fun c_1363 => ?_)
  · replace c_1363 := Int32.not_le.mpr c_1363
    refine lv_iconst (v := 0) hx hb dX11_in_17 (by decide) ?_
    exact J_1365 0 (by first | (simp only [c_1363, if_true, if_false, reduceIte]; done) | (simp [c_1363]; done) | rfl | (rw [if_neg c_1363]; done)) _ _ _ hW (lv_sub hl [0, 1, 2] rfl)
  · replace c_1363 := Int32.not_lt.mp c_1363
    refine lv_lload_n hx hb dX11_in_6 rfl (lv_at hl 0 rfl) ?_
    refine lv_lload hx hb dX11_in_7 (lv_at hl 2 rfl) ?_
    refine W.lcmp hx hb dX11_in_9 ?_
    refine lv_if_gt (tgt := 17) hx hb dX11_in_10 (by decide) (fun c_1366 => ?_) (fun c_1366 => ?_)
    · replace c_1366 := Int32.not_le.mpr c_1366
      refine lv_iconst (v := 0) hx hb dX11_in_17 (by decide) ?_
      exact J_1365 0 (by first | (simp only [c_1363, c_1366, if_true, if_false, reduceIte]; done) | (simp [c_1363, c_1366]; done) | rfl | (rw [if_pos c_1363, if_neg c_1366]; done)) _ _ _ hW (lv_sub hl [0, 1, 2] rfl)
    · replace c_1366 := Int32.not_lt.mp c_1366
      refine lv_iconst (v := 1) hx hb dX11_in_13 (by decide) ?_
      refine lv_goto (tgt := 18) hx hb dX11_in_14 (by decide) ?_
      exact J_1365 1 (by first | (simp only [c_1363, c_1366, if_true, if_false, reduceIte]; done) | (simp [c_1363, c_1366]; done) | rfl | (rw [if_pos c_1363, if_pos c_1366]; done)) _ _ _ hW (lv_sub hl [0, 1, 2] rfl)
set_option maxHeartbeats 4000000 in
set_option maxRecDepth 100000 in
theorem c_X11_bad (l : Launch) (G : gT) (mo al ke ik rq so ha te bt an vs : Nat) (mab mbe : Int64) (bL tA tL tK tV : Int32) (rv : Nat → Int32) (x9 : Int32)  : MI l G yX11_bad cX11_bad 2 .int ({ frames := 0, cells := 0, slots := 0, locals := 0 }) [.ref mo, .int x9] [(mo, .inr (9, [.ref al, .ref ke, .ref ik, .ref rq, .long mab, .long mbe, .ref so, .ref ha, .ref te, .ref bt, .int bL, .int tA, .int tL, .int tK, .int tV, .ref an, .ref vs])), (rq, .inl (G.2.1, 3, .inl rv))] (fun (r : Int32) w1 => ∃ u_ : Unit, (r = x9) ∧ w1 = [(mo, .inr (9, [.ref al, .ref ke, .ref ik, .ref rq, .long mab, .long mbe, .ref so, .ref ha, .ref te, .ref bt, .int bL, .int tA, .int tL, .int tK, .int tV, .ref an, .ref vs])), (rq, .inl (G.2.1, 3, .inl (upd rv 0 (rv 0 + 1))))]) := by
  refine MI.mk (by decide) (Nat.le_of_ble_eq_true rfl) ?_
  intro p_ e_ s_ m_ ar_ be_ me_ cd_ A_ ls C hrt hW hl
  have hx := C.1; have hb := C.2.1; have hown := C.2.2.2.1; have ht := C.2.2.2.2.1
  replace hl : lv_has ls 2 [(0, .ref mo), (1, .int x9)] := hl
  generalize hQ : MQ be_ _ ar_ s_ 0 0 A_ = Q
  refine lv_aload_n hx hb dX11_bad_0 rfl (lv_at hl 0 rfl) ?_
  refine g_get (k := 3) (v := .ref rq) C hW 0 rfl rfl jnX11 (by decide) k_fl_X11_20 rfl dX11_bad_1 ?_
  refine lv_iconst (v := 0) hx hb dX11_bad_4 (by decide) ?_
  refine lv_dup2_11 hx hb dX11_bad_5 rfl rfl ?_
  refine g_ald C hW 1 rfl (vp_in_nI (n := 0) (by omega) (by omega)) dX11_bad_6 ?_
  refine lv_as (y := rv 0) (rfl) ?_
  refine lv_iconst (v := 1) hx hb dX11_bad_7 (by decide) ?_
  refine lv_iadd hx hb dX11_bad_8 ?_
  refine g_ast (w' := [(mo, .inr (9, [.ref al, .ref ke, .ref ik, .ref rq, .long mab, .long mbe, .ref so, .ref ha, .ref te, .ref bt, .int bL, .int tA, .int tL, .int tK, .int tV, .ref an, .ref vs])), (rq, .inl (G.2.1, 3, .inl (upd rv 0 ((rv 0) + 1))))]) C hW 1 rfl (vp_in_nI (n := 0) (by omega) (by omega)) (by rw [show (0 : Int32).toNatClampNeg = 0 from rfl]; rfl) dX11_bad_9 ?_
  clear hW; intro H locs hW
  refine lv_iload_n hx hb dX11_bad_10 rfl (lv_at hl 1 rfl) ?_
  subst hQ
  exact g_iret (v := x9) C hW hrt ⟨(), by first | rfl | (simp only [if_true, if_false, reduceIte]; done) | (simp []; done) | (simp_all []; done) | (simp only []; (repeat' split) <;> first | rfl | (simp_all; done)), by rfl⟩ dX11_bad_11
set_option maxHeartbeats 4000000 in
set_option maxRecDepth 100000 in
theorem c_X11_no (l : Launch) (G : gT) (mo al ke ik rq so ha te bt an vs : Nat) (mab mbe : Int64) (bL tA tL tK tV : Int32) (rv : Nat → Int32)  : MI l G yX11_no cX11_no 1 .int ({ frames := 0, cells := 0, slots := 0, locals := 0 }) [.ref mo] [(mo, .inr (9, [.ref al, .ref ke, .ref ik, .ref rq, .long mab, .long mbe, .ref so, .ref ha, .ref te, .ref bt, .int bL, .int tA, .int tL, .int tK, .int tV, .ref an, .ref vs])), (rq, .inl (G.2.1, 3, .inl rv))] (fun (r : Int32) w1 => ∃ u_ : Unit, (r = (-3)) ∧ w1 = [(mo, .inr (9, [.ref al, .ref ke, .ref ik, .ref rq, .long mab, .long mbe, .ref so, .ref ha, .ref te, .ref bt, .int bL, .int tA, .int tL, .int tK, .int tV, .ref an, .ref vs])), (rq, .inl (G.2.1, 3, .inl (upd rv 1 (rv 1 + 1))))]) := by
  refine MI.mk (by decide) (Nat.le_of_ble_eq_true rfl) ?_
  intro p_ e_ s_ m_ ar_ be_ me_ cd_ A_ ls C hrt hW hl
  have hx := C.1; have hb := C.2.1; have hown := C.2.2.2.1; have ht := C.2.2.2.2.1
  replace hl : lv_has ls 1 [(0, .ref mo)] := hl
  generalize hQ : MQ be_ _ ar_ s_ 0 0 A_ = Q
  refine lv_aload_n hx hb dX11_no_0 rfl (lv_at hl 0 rfl) ?_
  refine g_get (k := 3) (v := .ref rq) C hW 0 rfl rfl jnX11 (by decide) k_fl_X11_20 rfl dX11_no_1 ?_
  refine lv_iconst (v := 1) hx hb dX11_no_4 (by decide) ?_
  refine lv_dup2_11 hx hb dX11_no_5 rfl rfl ?_
  refine g_ald C hW 1 rfl (vp_in_nI (n := 1) (by omega) (by omega)) dX11_no_6 ?_
  refine lv_as (y := rv 1) (rfl) ?_
  refine lv_iconst (v := 1) hx hb dX11_no_7 (by decide) ?_
  refine lv_iadd hx hb dX11_no_8 ?_
  refine g_ast (w' := [(mo, .inr (9, [.ref al, .ref ke, .ref ik, .ref rq, .long mab, .long mbe, .ref so, .ref ha, .ref te, .ref bt, .int bL, .int tA, .int tL, .int tK, .int tV, .ref an, .ref vs])), (rq, .inl (G.2.1, 3, .inl (upd rv 1 ((rv 1) + 1))))]) C hW 1 rfl (vp_in_nI (n := 1) (by omega) (by omega)) (by rw [show (1 : Int32).toNatClampNeg = 1 from rfl]; rfl) dX11_no_9 ?_
  clear hW; intro H locs hW
  refine lv_bipush (v := (-3)) hx hb dX11_no_10 (by decide) ?_
  subst hQ
  exact g_iret (v := (-3)) C hW hrt ⟨(), by first | rfl | (simp only [if_true, if_false, reduceIte]; done) | (simp []; done) | (simp_all []; done) | (simp only []; (repeat' split) <;> first | rfl | (simp_all; done)), by rfl⟩ dX11_no_12
set_option maxHeartbeats 4000000 in
set_option maxRecDepth 100000 in
theorem c_X11_full (l : Launch) (G : gT) (mo al ke ik rq so ha te bt an vs : Nat) (mab mbe : Int64) (bL tA tL tK tV : Int32) (rv : Nat → Int32)  : MI l G yX11_full cX11_full 1 .int ({ frames := 0, cells := 0, slots := 0, locals := 0 }) [.ref mo] [(mo, .inr (9, [.ref al, .ref ke, .ref ik, .ref rq, .long mab, .long mbe, .ref so, .ref ha, .ref te, .ref bt, .int bL, .int tA, .int tL, .int tK, .int tV, .ref an, .ref vs])), (rq, .inl (G.2.1, 3, .inl rv))] (fun (r : Int32) w1 => ∃ u_ : Unit, (r = (-4)) ∧ w1 = [(mo, .inr (9, [.ref al, .ref ke, .ref ik, .ref rq, .long mab, .long mbe, .ref so, .ref ha, .ref te, .ref bt, .int bL, .int tA, .int tL, .int tK, .int tV, .ref an, .ref vs])), (rq, .inl (G.2.1, 3, .inl (upd rv 2 (rv 2 + 1))))]) := by
  refine MI.mk (by decide) (Nat.le_of_ble_eq_true rfl) ?_
  intro p_ e_ s_ m_ ar_ be_ me_ cd_ A_ ls C hrt hW hl
  have hx := C.1; have hb := C.2.1; have hown := C.2.2.2.1; have ht := C.2.2.2.2.1
  replace hl : lv_has ls 1 [(0, .ref mo)] := hl
  generalize hQ : MQ be_ _ ar_ s_ 0 0 A_ = Q
  refine lv_aload_n hx hb dX11_full_0 rfl (lv_at hl 0 rfl) ?_
  refine g_get (k := 3) (v := .ref rq) C hW 0 rfl rfl jnX11 (by decide) k_fl_X11_20 rfl dX11_full_1 ?_
  refine lv_iconst (v := 2) hx hb dX11_full_4 (by decide) ?_
  refine lv_dup2_11 hx hb dX11_full_5 rfl rfl ?_
  refine g_ald C hW 1 rfl (vp_in_nI (n := 2) (by omega) (by omega)) dX11_full_6 ?_
  refine lv_as (y := rv 2) (rfl) ?_
  refine lv_iconst (v := 1) hx hb dX11_full_7 (by decide) ?_
  refine lv_iadd hx hb dX11_full_8 ?_
  refine g_ast (w' := [(mo, .inr (9, [.ref al, .ref ke, .ref ik, .ref rq, .long mab, .long mbe, .ref so, .ref ha, .ref te, .ref bt, .int bL, .int tA, .int tL, .int tK, .int tV, .ref an, .ref vs])), (rq, .inl (G.2.1, 3, .inl (upd rv 2 ((rv 2) + 1))))]) C hW 1 rfl (vp_in_nI (n := 2) (by omega) (by omega)) (by rw [show (2 : Int32).toNatClampNeg = 2 from rfl]; rfl) dX11_full_9 ?_
  clear hW; intro H locs hW
  refine lv_bipush (v := (-4)) hx hb dX11_full_10 (by decide) ?_
  subst hQ
  exact g_iret (v := (-4)) C hW hrt ⟨(), by first | rfl | (simp only [if_true, if_false, reduceIte]; done) | (simp []; done) | (simp_all []; done) | (simp only []; (repeat' split) <;> first | rfl | (simp_all; done)), by rfl⟩ dX11_full_12
set_option maxHeartbeats 4000000 in
set_option maxRecDepth 100000 in
theorem c_X11_has (l : Launch) (G : gT) (x : Int32) (j : Nat)  : MI l G yX11_has cX11_has 2 .boolean ({ frames := 0, cells := 0, slots := 0, locals := 0 }) [.int x, .int (nI j)] [] (fun (r : Int32) w1 => (r = bI (tb x j)) ∧ w1 = []) := by
  refine MI.mk (by decide) (Nat.le_of_ble_eq_true rfl) ?_
  intro p_ e_ s_ m_ ar_ be_ me_ cd_ A_ ls C hrt hW hl
  have hx := C.1; have hb := C.2.1; have hown := C.2.2.2.1; have ht := C.2.2.2.2.1
  replace hl : lv_has ls 2 [(0, .int x), (1, .int (nI j))] := hl
  generalize hQ : MQ be_ _ ar_ s_ 0 0 A_ = Q
  refine lv_iload_n hx hb dX11_has_0 rfl (lv_at hl 0 rfl) ?_
  refine lv_iload_n hx hb dX11_has_1 rfl (lv_at hl 1 rfl) ?_
  refine lv_ishr hx hb dX11_has_2 ?_
  refine lv_iconst (v := 1) hx hb dX11_has_3 (by decide) ?_
  refine lv_iand hx hb dX11_has_4 ?_
  refine lv_iconst (v := 1) hx hb dX11_has_5 (by decide) ?_
  have J_1369 : ∀ (y_1368 : Int32) (_ : y_1368 = (if ((x >>> ((nI j) &&& 31)) &&& (1 : Int32)) = 1 then 1 else 0)), ∀ (H : Heap) (locs : List Loc) (ls : Array Slot), Wd G A_ s_.heap [] H locs → lv_has ls 2 [(0, .int x), (1, .int (nI j))] → W p_ l e_ ({ frames := 0, cells := 0, slots := 0, locals := 0 }) s_ m_ ar_ be_ me_ cd_ H locs 0 0 Q (F0 m_ 14 ls [.int y_1368]) := by
    intro y_1368 ey_1368 H locs ls hW hl
    subst hQ
    exact g_zret (v := y_1368) C hW hrt (by (simp only [ey_1368]; exact th_1.symm ▸ bI_nar _)) ⟨by (simp only [ey_1368]; exact th_1), rfl⟩ dX11_has_14
  refine lv_icmp_ne (tgt := 13) hx hb dX11_has_6 (by decide) (fun c_1367 => ?_) (fun c_1367 => ?_)
  · refine lv_iconst (v := 0) hx hb dX11_has_13 (by decide) ?_
    exact J_1369 0 (by first | (simp only [c_1367, if_true, if_false, reduceIte]; done) | (simp [c_1367]; done) | rfl | (rw [if_neg c_1367]; done)) _ _ _ hW (lv_sub hl [0, 1] rfl)
  · refine lv_iconst (v := 1) hx hb dX11_has_9 (by decide) ?_
    refine lv_goto (tgt := 14) hx hb dX11_has_10 (by decide) ?_
    exact J_1369 1 (by first | (simp only [c_1367, if_true, if_false, reduceIte]; done) | (simp [c_1367]; done) | rfl | (rw [if_pos c_1367]; done)) _ _ _ hW (lv_sub hl [0, 1] rfl)
set_option maxHeartbeats 4000000 in
set_option maxRecDepth 100000 in
theorem c_X11_begin (l : Launch) (G : gT) (of zL : Nat) (a : Nat → Int32) (w9 : Int32) (hL : 103 ≤ zL ∧ zL ≤ 159) : MV l G yX11_begin cX11_begin 3 ({ frames := 0, cells := 0, slots := 0, locals := 0 }) [.ref of, .int w9] [(of, .inl (G.2.1, zL, .inl a))] (fun w1 => ∃ u_ : Unit, (True) ∧ w1 = [(of, .inl (G.2.1, zL, .inl (bgA a w9)))]) := by
  refine MV.mk (by decide) (Nat.le_of_ble_eq_true rfl) ?_
  intro p_ e_ s_ m_ ar_ be_ me_ cd_ A_ ls C hrt hW hl
  have hx := C.1; have hb := C.2.1; have hown := C.2.2.2.1; have ht := C.2.2.2.2.1
  replace hl : lv_has ls 3 [(0, .ref of), (1, .int w9)] := hl
  generalize hQ : MQ be_ _ ar_ s_ 0 0 A_ = Q
  refine lv_iconst (v := 0) hx hb dX11_begin_0 (by decide) ?_
  refine lv_istore_n (lv' := [(2, .int 0), (0, .ref of), (1, .int w9)]) hx hb dX11_begin_1 rfl hl (by decide) rfl ?_
  clear hl ls; intro ls hl
  have K_1370 : ∀ (n_ : Nat) (j : Nat) (x_1371 : Int32) (g_1372 : Nat → Int32) (_ : x_1371 = nI j) (_ : g_1372 = (fun i => if i < j then 0 else a i)) (_ : j ≤ 103) (_ : 103 - j < n_) (H : Heap) (locs : List Loc) (ls : Array Slot), Wd G A_ s_.heap [(of, .inl (G.2.1, zL, .inl g_1372))] H locs → lv_has ls 3 [(2, .int x_1371), (0, .ref of), (1, .int w9)] → W p_ l e_ ({ frames := 0, cells := 0, slots := 0, locals := 0 }) s_ m_ ar_ be_ me_ cd_ H locs 0 0 Q (F0 m_ 2 ls []) := by
    intro n_
    induction n_ with
    | zero => intro j x_1371 g_1372 ex_1371 eg_1372 hj hm_; exact absurd hm_ (Nat.not_lt_zero _)
    | succ n_ ihK_1370 =>
      intro j x_1371 g_1372 ex_1371 eg_1372 hj hm_ H locs ls hW hl
      subst ex_1371
      subst eg_1372
      refine lv_iload_n hx hb dX11_begin_2 rfl (lv_at hl 0 rfl) ?_
      refine lv_bipush (v := 103) hx hb dX11_begin_3 (by decide) ?_
      refine lv_icmp_ge (tgt := 18) hx hb dX11_begin_5 (by decide) (fun c_1373 => ?_) (fun c_1373 => ?_)
      · replace c_1373 := Int32.not_lt.mpr c_1373
        have c_1373n : ¬ j < 103 := fun q => c_1373 ((nI_ltI (a := j) (b := 103) (by omega) (by omega)).mpr q)
        refine lv_aload_n hx hb dX11_begin_18 rfl (lv_at hl 1 rfl) ?_
        refine lv_iconst (v := 5) hx hb dX11_begin_19 (by decide) ?_
        refine lv_iload_n hx hb dX11_begin_20 rfl (lv_at hl 2 rfl) ?_
        refine g_ast (w' := [(of, .inl (G.2.1, zL, .inl (upd (fun i => if i < j then 0 else a i) 5 w9)))]) C hW 0 rfl (vp_in_nI (n := 5) (by omega) (by omega)) (by rw [show (5 : Int32).toNatClampNeg = 5 from rfl]; rfl) dX11_begin_21 ?_
        clear hW H locs; intro H locs hW
        refine lv_aload_n hx hb dX11_begin_22 rfl (lv_at hl 1 rfl) ?_
        refine lv_bipush (v := 7) hx hb dX11_begin_23 (by decide) ?_
        refine lv_iconst (v := 1) hx hb dX11_begin_25 (by decide) ?_
        refine g_ast (w' := [(of, .inl (G.2.1, zL, .inl (upd (upd (fun i => if i < j then 0 else a i) 5 w9) 7 1)))]) C hW 0 rfl (vp_in_nI (n := 7) (by omega) (by omega)) (by rw [show (7 : Int32).toNatClampNeg = 7 from rfl]; rfl) dX11_begin_26 ?_
        clear hW H locs; intro H locs hW
        refine lv_aload_n hx hb dX11_begin_27 rfl (lv_at hl 1 rfl) ?_
        refine lv_bipush (v := 9) hx hb dX11_begin_28 (by decide) ?_
        refine lv_iconst (v := 1) hx hb dX11_begin_30 (by decide) ?_
        refine g_ast (w' := [(of, .inl (G.2.1, zL, .inl (upd (upd (upd (fun i => if i < j then 0 else a i) 5 w9) 7 1) 9 1)))]) C hW 0 rfl (vp_in_nI (n := 9) (by omega) (by omega)) (by rw [show (9 : Int32).toNatClampNeg = 9 from rfl]; rfl) dX11_begin_31 ?_
        clear hW H locs; intro H locs hW
        subst hQ
        exact g_vret C hW hrt ⟨(), trivial, by (rw [show j = 103 by omega]; rfl)⟩ dX11_begin_32
      · replace c_1373 := Int32.not_le.mp c_1373
        have c_1373n : j < 103 := (nI_ltI (a := j) (b := 103) (by omega) (by omega)).mp c_1373
        refine lv_aload_n hx hb dX11_begin_8 rfl (lv_at hl 1 rfl) ?_
        refine lv_iload_n hx hb dX11_begin_9 rfl (lv_at hl 0 rfl) ?_
        refine lv_iconst (v := 0) hx hb dX11_begin_10 (by decide) ?_
        refine g_ast (w' := [(of, .inl (G.2.1, zL, .inl (upd (fun i => if i < j then 0 else a i) j 0)))]) C hW 0 rfl (ix_in (show (nI j) = nI j from (by first | rfl | (simp only [nI_lit, nI_add, pk_mul]; done) | (simp only [nI_lit, nI_add, pk_mul]; congr 1; omega))) (by omega) (by omega)) (by rw [show (nI j).toNatClampNeg = j from nI_clamp (by omega)]; rfl) dX11_begin_11 ?_
        clear hW H locs; intro H locs hW
        refine lv_iinc (v := (nI j) + 1) (lv' := [(2, .int ((nI j) + 1)), (0, .ref of), (1, .int w9)]) hx hb dX11_begin_12 hl (k := 0) rfl rfl (by decide) rfl ?_
        clear hl ls; intro ls hl
        refine lv_goto (tgt := 2) hx hb dX11_begin_15 (by decide) ?_
        exact ihK_1370 (j + 1) ((nI j) + 1) (upd (fun i => if i < j then 0 else a i) j 0) (by exact nI_1 _) (by exact fill_upd a 0 j) (by first | omega | assumption | (simp; done)) (by omega) _ _ _ hW (lv_sub hl [0, 1, 2] rfl)
  exact K_1370 _ 0 0 a (by first | exact rfl | (simp; done)) (by (funext i; exact (if_neg (Nat.not_lt_zero i)).symm)) (by first | omega | assumption | (simp; done)) (Nat.lt_succ_self _) _ _ _ hW (lv_sub hl [0, 1, 2] rfl)
set_option maxHeartbeats 4000000 in
set_option maxRecDepth 100000 in
theorem c_X11_many (l : Launch) (G : gT) (mo al ke ik rq so ha te bt an vs : Nat) (mab mbe : Int64) (bL tA tL tK tV : Int32) (a : Nat → Int32) (n : Nat) (e0 : a 0 = nI n) : MI l G yX11_many cX11_many 1 .int ({ frames := 0, cells := 0, slots := 0, locals := 0 }) [.ref mo] [(mo, .inr (9, [.ref al, .ref ke, .ref ik, .ref rq, .long mab, .long mbe, .ref so, .ref ha, .ref te, .ref bt, .int bL, .int tA, .int tL, .int tK, .int tV, .ref an, .ref vs])), (al, .inl (G.2.1, 159, .inl a))] (fun (r : Int32) w1 => (r = nI n) ∧ w1 = [(mo, .inr (9, [.ref al, .ref ke, .ref ik, .ref rq, .long mab, .long mbe, .ref so, .ref ha, .ref te, .ref bt, .int bL, .int tA, .int tL, .int tK, .int tV, .ref an, .ref vs])), (al, .inl (G.2.1, 159, .inl a))]) := by
  refine MI.mk (by decide) (Nat.le_of_ble_eq_true rfl) ?_
  intro p_ e_ s_ m_ ar_ be_ me_ cd_ A_ ls C hrt hW hl
  have hx := C.1; have hb := C.2.1; have hown := C.2.2.2.1; have ht := C.2.2.2.2.1
  replace hl : lv_has ls 1 [(0, .ref mo)] := hl
  generalize hQ : MQ be_ _ ar_ s_ 0 0 A_ = Q
  refine lv_aload_n hx hb dX11_many_0 rfl (lv_at hl 0 rfl) ?_
  refine g_get (k := 0) (v := .ref al) C hW 0 rfl rfl jnX11 (by decide) k_fl_X11_7 rfl dX11_many_1 ?_
  refine lv_iconst (v := 0) hx hb dX11_many_4 (by decide) ?_
  refine g_ald C hW 1 rfl (vp_in_nI (n := 0) (by omega) (by omega)) dX11_many_5 ?_
  refine lv_as (y := a 0) (rfl) ?_
  subst hQ
  exact g_iret (v := (a 0)) C hW hrt ⟨by exact e0, rfl⟩ dX11_many_6
set_option maxHeartbeats 4000000 in
set_option maxRecDepth 100000 in
theorem c_X11_isPlayer (l : Launch) (G : gT) (mo al ke ik rq so ha te bt an vs : Nat) (mab mbe : Int64) (bL tA tL tK tV : Int32) (a : Nat → Int32) (n : Nat) (p9 : Int32) (e0 : a 0 = nI n) (hn : n ≤ 7) : MI l G yX11_isPlayer cX11_isPlayer 2 .boolean ({ frames := 1, cells := 0, slots := 0, locals := 25 }) [.ref mo, .int p9] [(mo, .inr (9, [.ref al, .ref ke, .ref ik, .ref rq, .long mab, .long mbe, .ref so, .ref ha, .ref te, .ref bt, .int bL, .int tA, .int tL, .int tK, .int tV, .ref an, .ref vs])), (al, .inl (G.2.1, 159, .inl a))] (fun (r : Int32) w1 => (r = bI (okp n p9)) ∧ w1 = [(mo, .inr (9, [.ref al, .ref ke, .ref ik, .ref rq, .long mab, .long mbe, .ref so, .ref ha, .ref te, .ref bt, .int bL, .int tA, .int tL, .int tK, .int tV, .ref an, .ref vs])), (al, .inl (G.2.1, 159, .inl a))]) := by
  refine MI.mk (by decide) (Nat.le_of_ble_eq_true rfl) ?_
  intro p_ e_ s_ m_ ar_ be_ me_ cd_ A_ ls C hrt hW hl
  have hx := C.1; have hb := C.2.1; have hown := C.2.2.2.1; have ht := C.2.2.2.2.1
  replace hl : lv_has ls 2 [(0, .ref mo), (1, .int p9)] := hl
  generalize hQ : MQ be_ _ ar_ s_ 0 0 A_ = Q
  refine lv_iload_n hx hb dX11_isPlayer_0 rfl (lv_at hl 1 rfl) ?_
  refine lv_i2l hx hb dX11_isPlayer_1 rfl ?_
  refine lv_lconst (v := 0) hx hb dX11_isPlayer_2 (by decide) ?_
  refine lv_aload_n hx hb dX11_isPlayer_3 rfl (lv_at hl 0 rfl) ?_
  refine g_fi C hW [0, 1] rfl (g_runV (As := []) (rest := [.long 0, .long p9.toInt64]) (wc := [(mo, .inr (9, [.ref al, .ref ke, .ref ik, .ref rq, .long mab, .long mbe, .ref so, .ref ha, .ref te, .ref bt, .int bL, .int tA, .int tL, .int tK, .int tV, .ref an, .ref vs])), (al, .inl (G.2.1, 159, .inl a))]) (q0 := 0) (ci := 9) C hW hl (c_X11_many l G mo al ke ik rq so ha te bt an vs mab mbe bL tA tL tK tV a n (by first | assumption | omega) _) k_ml_X11_49 q_X11_many (by decide) [0, 1] rfl rfl rfl rfl rfl rfl (Nat.le_of_ble_eq_true rfl) dX11_isPlayer_4 (by decide)) (fun r_1374 er_1374 => ?_)
  clear hW; intro H locs hW
  refine lv_as (y := nI n) er_1374 ?_
  clear er_1374 r_1374
  refine lv_iconst (v := 1) hx hb dX11_isPlayer_7 (by decide) ?_
  refine lv_isub hx hb dX11_isPlayer_8 ?_
  refine lv_i2l hx hb dX11_isPlayer_9 rfl ?_
  refine g_fi C hW [] rfl (g_runS (As := [.long p9.toInt64, .long 0, .long (((nI n) - 1).toInt64)]) (rest := []) (wc := []) C hW hl (c_X11_in l G p9 0 ((nI n) - 1) 0 (((nI n) - 1).toInt64) (by first | rfl | decide) (by first | rfl | decide) _) k_ml_X11_53 q_X11_in (by decide) [] rfl rfl rfl rfl (Nat.le_of_ble_eq_true rfl) dX11_isPlayer_10 (by decide)) (fun r_1375 er_1375 => ?_)
  clear hW H locs; intro H locs hW
  refine lv_as (y := bI (iw p9 0 ((nI n) - 1))) er_1375 ?_
  clear er_1375 r_1375
  subst hQ
  exact g_zret (v := (bI (iw p9 0 ((nI n) - 1)))) C hW hrt (by first | exact bI_nar _ | rfl | (simp only [e0]; (repeat' split) <;> rfl)) ⟨by exact ip_eq hn, rfl⟩ dX11_isPlayer_13
set_option maxHeartbeats 4000000 in
set_option maxRecDepth 100000 in
theorem c_X11_isKind (l : Launch) (G : gT) (x9 : Int32)  : MI l G yX11_isKind cX11_isKind 1 .boolean ({ frames := 1, cells := 0, slots := 0, locals := 25 }) [.int x9] [] (fun (r : Int32) w1 => (r = bI (iw x9 0 5)) ∧ w1 = []) := by
  refine MI.mk (by decide) (Nat.le_of_ble_eq_true rfl) ?_
  intro p_ e_ s_ m_ ar_ be_ me_ cd_ A_ ls C hrt hW hl
  have hx := C.1; have hb := C.2.1; have hown := C.2.2.2.1; have ht := C.2.2.2.2.1
  replace hl : lv_has ls 1 [(0, .int x9)] := hl
  generalize hQ : MQ be_ _ ar_ s_ 0 0 A_ = Q
  refine lv_iload_n hx hb dX11_isKind_0 rfl (lv_at hl 0 rfl) ?_
  refine lv_i2l hx hb dX11_isKind_1 rfl ?_
  refine lv_lconst (v := 0) hx hb dX11_isKind_2 (by decide) ?_
  refine lv_ldc2 (v := 5) hx hb hown (ht _ k_cg_X11_57) dX11_isKind_3 ?_
  refine g_fi C hW [] rfl (g_runS (As := [.long x9.toInt64, .long 0, .long 5]) (rest := []) (wc := []) C hW hl (c_X11_in l G x9 0 5 0 5 (by first | rfl | decide) (by first | rfl | decide) _) k_ml_X11_53 q_X11_in (by decide) [] rfl rfl rfl rfl (Nat.le_of_ble_eq_true rfl) dX11_isKind_6 (by decide)) (fun r_1376 er_1376 => ?_)
  clear hW; intro H locs hW
  refine lv_as (y := bI (iw x9 0 5)) er_1376 ?_
  clear er_1376 r_1376
  subst hQ
  exact g_zret (v := (bI (iw x9 0 5))) C hW hrt (by first | exact bI_nar _ | rfl | (simp only []; (repeat' split) <;> rfl)) ⟨by rfl, rfl⟩ dX11_isKind_9
set_option maxHeartbeats 4000000 in
set_option maxRecDepth 100000 in
theorem c_X11_isNine (l : Launch) (G : gT) (x9 : Int32)  : MI l G yX11_isNine cX11_isNine 1 .boolean ({ frames := 1, cells := 0, slots := 0, locals := 25 }) [.int x9] [] (fun (r : Int32) w1 => (r = bI (iw x9 1 9)) ∧ w1 = []) := by
  refine MI.mk (by decide) (Nat.le_of_ble_eq_true rfl) ?_
  intro p_ e_ s_ m_ ar_ be_ me_ cd_ A_ ls C hrt hW hl
  have hx := C.1; have hb := C.2.1; have hown := C.2.2.2.1; have ht := C.2.2.2.2.1
  replace hl : lv_has ls 1 [(0, .int x9)] := hl
  generalize hQ : MQ be_ _ ar_ s_ 0 0 A_ = Q
  refine lv_iload_n hx hb dX11_isNine_0 rfl (lv_at hl 0 rfl) ?_
  refine lv_i2l hx hb dX11_isNine_1 rfl ?_
  refine lv_lconst (v := 1) hx hb dX11_isNine_2 (by decide) ?_
  refine lv_ldc2 (v := 9) hx hb hown (ht _ k_cg_X11_59) dX11_isNine_3 ?_
  refine g_fi C hW [] rfl (g_runS (As := [.long x9.toInt64, .long 1, .long 9]) (rest := []) (wc := []) C hW hl (c_X11_in l G x9 1 9 1 9 (by first | rfl | decide) (by first | rfl | decide) _) k_ml_X11_53 q_X11_in (by decide) [] rfl rfl rfl rfl (Nat.le_of_ble_eq_true rfl) dX11_isNine_6 (by decide)) (fun r_1377 er_1377 => ?_)
  clear hW; intro H locs hW
  refine lv_as (y := bI (iw x9 1 9)) er_1377 ?_
  clear er_1377 r_1377
  subst hQ
  exact g_zret (v := (bI (iw x9 1 9))) C hW hrt (by first | exact bI_nar _ | rfl | (simp only []; (repeat' split) <;> rfl)) ⟨by rfl, rfl⟩ dX11_isNine_9
set_option maxHeartbeats 4000000 in
set_option maxRecDepth 100000 in
theorem c_X11_isHill (l : Launch) (G : gT) (x9 : Int32)  : MI l G yX11_isHill cX11_isHill 1 .boolean ({ frames := 1, cells := 0, slots := 0, locals := 25 }) [.int x9] [] (fun (r : Int32) w1 => (r = bI (iw x9 0 1)) ∧ w1 = []) := by
  refine MI.mk (by decide) (Nat.le_of_ble_eq_true rfl) ?_
  intro p_ e_ s_ m_ ar_ be_ me_ cd_ A_ ls C hrt hW hl
  have hx := C.1; have hb := C.2.1; have hown := C.2.2.2.1; have ht := C.2.2.2.2.1
  replace hl : lv_has ls 1 [(0, .int x9)] := hl
  generalize hQ : MQ be_ _ ar_ s_ 0 0 A_ = Q
  refine lv_iload_n hx hb dX11_isHill_0 rfl (lv_at hl 0 rfl) ?_
  refine lv_i2l hx hb dX11_isHill_1 rfl ?_
  refine lv_lconst (v := 0) hx hb dX11_isHill_2 (by decide) ?_
  refine lv_lconst (v := 1) hx hb dX11_isHill_3 (by decide) ?_
  refine g_fi C hW [] rfl (g_runS (As := [.long x9.toInt64, .long 0, .long 1]) (rest := []) (wc := []) C hW hl (c_X11_in l G x9 0 1 0 1 (by first | rfl | decide) (by first | rfl | decide) _) k_ml_X11_53 q_X11_in (by decide) [] rfl rfl rfl rfl (Nat.le_of_ble_eq_true rfl) dX11_isHill_4 (by decide)) (fun r_1378 er_1378 => ?_)
  clear hW; intro H locs hW
  refine lv_as (y := bI (iw x9 0 1)) er_1378 ?_
  clear er_1378 r_1378
  subst hQ
  exact g_zret (v := (bI (iw x9 0 1))) C hW hrt (by first | exact bI_nar _ | rfl | (simp only []; (repeat' split) <;> rfl)) ⟨by rfl, rfl⟩ dX11_isHill_7
set_option maxHeartbeats 4000000 in
set_option maxRecDepth 100000 in
theorem c_X11_isWind (l : Launch) (G : gT) (x9 : Int32)  : MI l G yX11_isWind cX11_isWind 1 .boolean ({ frames := 1, cells := 0, slots := 0, locals := 25 }) [.int x9] [] (fun (r : Int32) w1 => (r = bI (iw x9 (-4) 4)) ∧ w1 = []) := by
  refine MI.mk (by decide) (Nat.le_of_ble_eq_true rfl) ?_
  intro p_ e_ s_ m_ ar_ be_ me_ cd_ A_ ls C hrt hW hl
  have hx := C.1; have hb := C.2.1; have hown := C.2.2.2.1; have ht := C.2.2.2.2.1
  replace hl : lv_has ls 1 [(0, .int x9)] := hl
  generalize hQ : MQ be_ _ ar_ s_ 0 0 A_ = Q
  refine lv_iload_n hx hb dX11_isWind_0 rfl (lv_at hl 0 rfl) ?_
  refine lv_i2l hx hb dX11_isWind_1 rfl ?_
  refine lv_ldc2 (v := (-4)) hx hb hown (ht _ k_cg_X11_61) dX11_isWind_2 ?_
  refine lv_ldc2 (v := 4) hx hb hown (ht _ k_cg_X11_63) dX11_isWind_5 ?_
  refine g_fi C hW [] rfl (g_runS (As := [.long x9.toInt64, .long (-4), .long 4]) (rest := []) (wc := []) C hW hl (c_X11_in l G x9 (-4) 4 (-4) 4 (by first | rfl | decide) (by first | rfl | decide) _) k_ml_X11_53 q_X11_in (by decide) [] rfl rfl rfl rfl (Nat.le_of_ble_eq_true rfl) dX11_isWind_8 (by decide)) (fun r_1379 er_1379 => ?_)
  clear hW; intro H locs hW
  refine lv_as (y := bI (iw x9 (-4) 4)) er_1379 ?_
  clear er_1379 r_1379
  subst hQ
  exact g_zret (v := (bI (iw x9 (-4) 4))) C hW hrt (by first | exact bI_nar _ | rfl | (simp only []; (repeat' split) <;> rfl)) ⟨by rfl, rfl⟩ dX11_isWind_11
