set_option maxHeartbeats 4000000 in
set_option maxRecDepth 100000 in
theorem c_X7_hillIn (l : Launch) (G : gT) (st sc fh j : Nat) (hf : fh < 2) (hj : j < 1000) : MI l G yX7_hillIn cX7_hillIn 2 .int ({ frames := 0, cells := 0, slots := 0, locals := 0 }) [.ref st, .int (nI j)] [(st, .inr (5, [.ref sc, .int (nI fh)]))] (fun (r : Int32) w1 => (r = nI ((fh + j) % 2)) ∧ w1 = [(st, .inr (5, [.ref sc, .int (nI fh)]))]) := by
  refine MI.mk (by decide) (Nat.le_of_ble_eq_true rfl) ?_
  intro p_ e_ s_ m_ ar_ be_ me_ cd_ A_ ls C hrt hW hl
  have hx := C.1; have hb := C.2.1; have hown := C.2.2.2.1; have ht := C.2.2.2.2.1
  replace hl : lv_has ls 2 [(0, .ref st), (1, .int (nI j))] := hl
  generalize hQ : MQ be_ _ ar_ s_ 0 0 A_ = Q
  refine lv_aload_n hx hb dX7_hillIn_0 rfl (lv_at hl 0 rfl) ?_
  refine g_get (k := 1) (v := .int (nI fh)) C hW 0 rfl rfl jnX7 (by decide) k_fl_X7_13 rfl dX7_hillIn_1 ?_
  refine lv_iload_n hx hb dX7_hillIn_4 rfl (lv_at hl 1 rfl) ?_
  refine lv_iadd hx hb dX7_hillIn_5 ?_
  refine lv_iconst (v := 2) hx hb dX7_hillIn_6 (by decide) ?_
  refine lv_irem hx hb dX7_hillIn_7 (by decide) ?_
  refine lv_as (y := nI ((fh + j) % 2)) (by rw [nI_add]; exact pk_rem (d := 2) (by omega) (by decide) (by decide)) ?_
  subst hQ
  exact g_iret (v := (nI ((fh + j) % 2))) C hW hrt ⟨by first | rfl | (simp only [if_true, if_false, reduceIte]; done) | (simp []; done) | (simp_all []; done) | (simp only []; (repeat' split) <;> first | rfl | (simp_all; done)), rfl⟩ dX7_hillIn_8
set_option maxHeartbeats 4000000 in
set_option maxRecDepth 100000 in
theorem c_X7_watch (l : Launch) (G : gT) (st sc : Nat) (f0 : Int32) (cr : Nat → Int32) (v vw vc vp vs vn vm vu : Nat) (wide : Int32) (vpc n : Nat) (pf : Nat → Int32) (ck wd : Nat → Int32) (hr fh : Nat) (hn : n ≤ 7) (eh : ck 6 = nI hr) (hh : hr < 10000) (eh2 : ck 2 = nI fh) (hf : fh < 2) (hP : okP n pf) (hWd : okW wd) (hg : Rg (ck 1) 1 9) : MV l G yX7_watch cX7_watch 3 ({ frames := 4, cells := 0, slots := 0, locals := 95 }) [.ref st, .ref v] [(st, .inr (5, [.ref sc, .int f0])), (sc, .inl (G.2.1, 60, .inl cr)), (v, .inr (7, [.int wide, .ref vw, .ref vc, .ref vp, .ref vs, .ref vn, .ref vm, .ref vu])), (vp, .inr (4, [.int 7, .int 3, .ref vpc, .int (nI n)])), (vpc, .inl (G.2.1, 21, .inl pf)), (vc, .inl (G.2.1, 7, .inl ck)), (vw, .inl (G.2.1, 6, .inl wd))] (fun w1 => ∃ u_ : Nat → Int32, (∀ i, i < 60 → (∀ q, q < i → cfS wide ck wd pf n hr fh q ≠ 0) → u_ i = cfS wide ck wd pf n hr fh i) ∧ w1 = [(st, .inr (5, [.ref sc, .int (nI fh)])), (sc, .inl (G.2.1, 60, .inl u_)), (v, .inr (7, [.int wide, .ref vw, .ref vc, .ref vp, .ref vs, .ref vn, .ref vm, .ref vu])), (vp, .inr (4, [.int 7, .int 3, .ref vpc, .int (nI n)])), (vpc, .inl (G.2.1, 21, .inl pf)), (vc, .inl (G.2.1, 7, .inl ck)), (vw, .inl (G.2.1, 6, .inl wd))]) := by
  refine MV.mk (by decide) (Nat.le_of_ble_eq_true rfl) ?_
  intro p_ e_ s_ m_ ar_ be_ me_ cd_ A_ ls C hrt hW hl
  have hx := C.1; have hb := C.2.1; have hown := C.2.2.2.1; have ht := C.2.2.2.2.1
  replace hl : lv_has ls 3 [(0, .ref st), (1, .ref v)] := hl
  generalize hQ : MQ be_ _ ar_ s_ 0 0 A_ = Q
  refine lv_aload_n hx hb dX7_watch_0 rfl (lv_at hl 0 rfl) ?_
  refine lv_aload_n hx hb dX7_watch_1 rfl (lv_at hl 1 rfl) ?_
  refine g_fi C hW [2, 5] rfl (g_runV (As := []) (rest := [.ref st]) (wc := [(v, .inr (7, [.int wide, .ref vw, .ref vc, .ref vp, .ref vs, .ref vn, .ref vm, .ref vu])), (vc, .inl (G.2.1, 7, .inl ck))]) (q0 := 0) (ci := 7) C hW hl (c_X9_hill l G v vw vc vp vs vn vm vu wide ck  _) k_ml_X7_17 q_X9_hill (by decide) [2, 5] rfl rfl rfl rfl rfl rfl (Nat.le_of_ble_eq_true rfl) dX7_watch_2 (by decide)) (fun r_372 er_372 => ?_)
  clear hW; intro H locs hW
  subst er_372
  refine lv_as (y := nI fh) (eh2) ?_
  refine g_put (k := 1) (ty := .int) (w' := [(st, .inr (5, [.ref sc, .int (nI fh)])), (sc, .inl (G.2.1, 60, .inl cr)), (v, .inr (7, [.int wide, .ref vw, .ref vc, .ref vp, .ref vs, .ref vn, .ref vm, .ref vu])), (vp, .inr (4, [.int 7, .int 3, .ref vpc, .int (nI n)])), (vpc, .inl (G.2.1, 21, .inl pf)), (vc, .inl (G.2.1, 7, .inl ck)), (vw, .inl (G.2.1, 6, .inl wd))]) C hW 0 rfl rfl jnX7 tyX7_ok nmX7 (by decide) k_fl_X7_13 rfl rfl rfl rfl (Nat.le_of_ble_eq_true rfl) rfl dX7_watch_5 ?_
  clear hW H locs; intro H locs hW
  refine lv_iconst (v := 0) hx hb dX7_watch_8 (by decide) ?_
  refine lv_istore_n (lv' := [(2, .int 0), (0, .ref st), (1, .ref v)]) hx hb dX7_watch_9 rfl hl (by decide) rfl ?_
  clear hl ls; intro ls hl
  have K_373 : ∀ (n_ : Nat) (j : Nat) (x_374 : Int32) (cz : Nat → Int32) (_ : x_374 = nI j) (_ : j ≤ 60) (_ : ∀ i, i < j → (cz i = cfS wide ck wd pf n hr fh i ∧ cfS wide ck wd pf n hr fh i ≠ 0)) (_ : 60 - j < n_) (H : Heap) (locs : List Loc) (ls : Array Slot), Wd G A_ s_.heap [(st, .inr (5, [.ref sc, .int (nI fh)])), (sc, .inl (G.2.1, 60, .inl cz)), (v, .inr (7, [.int wide, .ref vw, .ref vc, .ref vp, .ref vs, .ref vn, .ref vm, .ref vu])), (vp, .inr (4, [.int 7, .int 3, .ref vpc, .int (nI n)])), (vpc, .inl (G.2.1, 21, .inl pf)), (vc, .inl (G.2.1, 7, .inl ck)), (vw, .inl (G.2.1, 6, .inl wd))] H locs → lv_has ls 3 [(2, .int x_374), (0, .ref st), (1, .ref v)] → W p_ l e_ ({ frames := 4, cells := 0, slots := 0, locals := 95 }) s_ m_ ar_ be_ me_ cd_ H locs 0 0 Q (F0 m_ 10 ls []) := by
    intro n_
    induction n_ with
    | zero => intro j x_374 cz ex_374 hj hz hm_; exact absurd hm_ (Nat.not_lt_zero _)
    | succ n_ ihK_373 =>
      intro j x_374 cz ex_374 hj hz hm_ H locs ls hW hl
      subst ex_374
      refine lv_iload_n hx hb dX7_watch_10 rfl (lv_at hl 0 rfl) ?_
      refine lv_bipush (v := 60) hx hb dX7_watch_11 (by decide) ?_
      refine lv_icmp_ge (tgt := 55) hx hb dX7_watch_13 (by decide) (fun c_375 => ?_) (fun c_375 => ?_)
      · replace c_375 := Int32.not_lt.mpr c_375
        have c_375n : ¬ j < 60 := fun q => c_375 ((nI_ltI (a := j) (b := 60) (by omega) (by omega)).mpr q)
        subst hQ
        exact g_vret C hW hrt ⟨cz, by first | exact wa_e (show 60 ≤ j by omega) hz | exact wa_b hz c_375, by rfl⟩ dX7_watch_55
      · replace c_375 := Int32.not_le.mp c_375
        have c_375n : j < 60 := (nI_ltI (a := j) (b := 60) (by omega) (by omega)).mp c_375
        refine lv_aload_n hx hb dX7_watch_16 rfl (lv_at hl 1 rfl) ?_
        refine g_get (k := 0) (v := .ref sc) C hW 0 rfl rfl jnX7 (by decide) k_fl_X7_9 rfl dX7_watch_17 ?_
        refine lv_iload_n hx hb dX7_watch_20 rfl (lv_at hl 0 rfl) ?_
        refine lv_aload_n hx hb dX7_watch_21 rfl (lv_at hl 2 rfl) ?_
        refine lv_aload_n hx hb dX7_watch_22 rfl (lv_at hl 1 rfl) ?_
        refine lv_iload_n hx hb dX7_watch_23 rfl (lv_at hl 0 rfl) ?_
        refine g_fi C hW [0] rfl (g_runV (As := [.int (nI j)]) (rest := [.ref v, .int (nI j), .ref sc]) (wc := [(st, .inr (5, [.ref sc, .int (nI fh)]))]) (q0 := 0) (ci := 5) C hW hl (c_X7_hillIn l G st sc fh j (by first | assumption | omega) (by omega) _) k_ml_X7_23 q_X7_hillIn (by decide) [0] rfl rfl rfl rfl rfl rfl (Nat.le_of_ble_eq_true rfl) dX7_watch_24 (by decide)) (fun r_379 er_379 => ?_)
        clear hW H locs; intro H locs hW
        subst er_379
        refine lv_aload_n hx hb dX7_watch_27 rfl (lv_at hl 2 rfl) ?_
        refine g_fi C hW [2, 5] rfl (g_runV (As := []) (rest := [.int (nI ((fh + j) % 2)), .ref v, .int (nI j), .ref sc]) (wc := [(v, .inr (7, [.int wide, .ref vw, .ref vc, .ref vp, .ref vs, .ref vn, .ref vm, .ref vu])), (vc, .inl (G.2.1, 7, .inl ck))]) (q0 := 0) (ci := 7) C hW hl (c_X9_hour l G v vw vc vp vs vn vm vu wide ck  _) k_ml_X7_27 q_X9_hour (by decide) [2, 5] rfl rfl rfl rfl rfl rfl (Nat.le_of_ble_eq_true rfl) dX7_watch_28 (by decide)) (fun r_380 er_380 => ?_)
        clear hW H locs; intro H locs hW
        subst er_380
        refine lv_as (y := nI hr) (eh) ?_
        refine lv_iload_n hx hb dX7_watch_31 rfl (lv_at hl 0 rfl) ?_
        refine lv_iadd hx hb dX7_watch_32 ?_
        refine lv_as (y := nI (hr + j)) (nI_add _ _) ?_
        refine g_fi C hW [2, 3, 4, 5, 6] rfl (g_runV (As := [.int (nI ((fh + j) % 2)), .int (nI (hr + j))]) (rest := [.int (nI j), .ref sc]) (wc := [(v, .inr (7, [.int wide, .ref vw, .ref vc, .ref vp, .ref vs, .ref vn, .ref vm, .ref vu])), (vp, .inr (4, [.int 7, .int 3, .ref vpc, .int (nI n)])), (vpc, .inl (G.2.1, 21, .inl pf)), (vc, .inl (G.2.1, 7, .inl ck)), (vw, .inl (G.2.1, 6, .inl wd))]) (q0 := 0) (ci := 7) C hW hl (c_X9_carriersFrom l G v vw vc vp vs vn vm vu wide vpc n pf ck wd (nI ((fh + j) % 2)) (hr + j) (by first | assumption | omega) (by omega) (by assumption) (by assumption) (by assumption) _) k_ml_X7_30 q_X9_carriersFrom (by decide) [2, 3, 4, 5, 6] rfl rfl rfl rfl rfl rfl (Nat.le_of_ble_eq_true rfl) dX7_watch_33 (by decide)) (fun r_381 er_381 => ?_)
        clear hW H locs; intro H locs hW
        subst er_381
        refine lv_as (y := cfS wide ck wd pf n hr fh j) (rfl) ?_
        refine g_ast (w' := [(st, .inr (5, [.ref sc, .int (nI fh)])), (sc, .inl (G.2.1, 60, .inl (upd cz j (cfS wide ck wd pf n hr fh j)))), (v, .inr (7, [.int wide, .ref vw, .ref vc, .ref vp, .ref vs, .ref vn, .ref vm, .ref vu])), (vp, .inr (4, [.int 7, .int 3, .ref vpc, .int (nI n)])), (vpc, .inl (G.2.1, 21, .inl pf)), (vc, .inl (G.2.1, 7, .inl ck)), (vw, .inl (G.2.1, 6, .inl wd))]) C hW 1 rfl (ix_in (show (nI j) = nI j from (by first | rfl | (simp only [nI_lit, nI_add, pk_mul]; done) | (simp only [nI_lit, nI_add, pk_mul]; congr 1; omega))) (by omega) (by omega)) (by rw [show (nI j).toNatClampNeg = j from nI_clamp (by omega)]; rfl) dX7_watch_36 ?_
        clear hW H locs; intro H locs hW
        refine lv_aload_n hx hb dX7_watch_37 rfl (lv_at hl 1 rfl) ?_
        refine g_get (k := 0) (v := .ref sc) C hW 0 rfl rfl jnX7 (by decide) k_fl_X7_9 rfl dX7_watch_38 ?_
        refine lv_iload_n hx hb dX7_watch_41 rfl (lv_at hl 0 rfl) ?_
        refine g_ald C hW 1 rfl (ix_in (show (nI j) = nI j from (by first | rfl | (simp only [nI_lit, nI_add, pk_mul]; done) | (simp only [nI_lit, nI_add, pk_mul]; congr 1; omega))) (by omega) (by omega)) dX7_watch_42 ?_
        refine lv_as (y := (upd cz j (cfS wide ck wd pf n hr fh j)) j) (by rw [show (nI j).toNatClampNeg = j from nI_clamp (by omega)]) ?_
        refine lv_as (y := cfS wide ck wd pf n hr fh j) (pk_us) ?_
        refine lv_if_ne (tgt := 49) hx hb dX7_watch_43 (by decide) (fun c_382 => ?_) (fun c_382 => ?_)
        · refine lv_iinc (v := (nI j) + 1) (lv' := [(2, .int ((nI j) + 1)), (0, .ref st), (1, .ref v)]) hx hb dX7_watch_49 hl (k := 0) rfl rfl (by decide) rfl ?_
          clear hl ls; intro ls hl
          refine lv_goto (tgt := 10) hx hb dX7_watch_52 (by decide) ?_
          exact ihK_373 (j + 1) ((nI j) + 1) (upd cz j (cfS wide ck wd pf n hr fh j)) (by first | assumption | omega | exact nI_1 _ | rfl | (simp; done)) (by first | assumption | omega | exact nI_1 _ | rfl | (simp; done)) (by exact wa_s hz c_382) (by omega) _ _ _ hW (lv_sub hl [0, 1, 2] rfl)
        · refine lv_goto (tgt := 55) hx hb dX7_watch_46 (by decide) ?_
          subst hQ
          exact g_vret C hW hrt ⟨upd cz j (cfS wide ck wd pf n hr fh j), by first | exact wa_e (show 60 ≤ j by omega) hz | exact wa_b hz c_382, by rfl⟩ dX7_watch_55
  exact K_373 _ 0 0 cr (by first | assumption | omega | exact nI_1 _ | rfl | (simp; done)) (by first | assumption | omega | exact nI_1 _ | rfl | (simp; done)) (by exact lt_0) (Nat.lt_succ_self _) _ _ _ hW (lv_sub hl [0, 1, 2] rfl)
set_option maxHeartbeats 4000000 in
set_option maxRecDepth 100000 in
theorem c_X7_strokes (l : Launch) (G : gT) (st sc fh : Nat) (cr : Nat → Int32) (on : Int32) (hf : fh < 2) : MI l G yX7_strokes cX7_strokes 4 .int ({ frames := 1, cells := 0, slots := 0, locals := 21 }) [.ref st, .int on] [(st, .inr (5, [.ref sc, .int (nI fh)])), (sc, .inl (G.2.1, 60, .inl cr))] (fun (r : Int32) w1 => (r = nI (stq cr fh on)) ∧ w1 = [(st, .inr (5, [.ref sc, .int (nI fh)])), (sc, .inl (G.2.1, 60, .inl cr))]) := by
  refine MI.mk (by decide) (Nat.le_of_ble_eq_true rfl) ?_
  intro p_ e_ s_ m_ ar_ be_ me_ cd_ A_ ls C hrt hW hl
  have hx := C.1; have hb := C.2.1; have hown := C.2.2.2.1; have ht := C.2.2.2.2.1
  replace hl : lv_has ls 4 [(0, .ref st), (1, .int on)] := hl
  generalize hQ : MQ be_ _ ar_ s_ 0 0 A_ = Q
  refine lv_iconst (v := 0) hx hb dX7_strokes_0 (by decide) ?_
  refine lv_istore_n (lv' := [(2, .int 0), (0, .ref st), (1, .int on)]) hx hb dX7_strokes_1 rfl hl (by decide) rfl ?_
  clear hl ls; intro ls hl
  have K_383 : ∀ (n_ : Nat) (j : Nat) (x_384 : Int32) (_ : x_384 = nI j) (_ : j ≤ 60) (_ : ∀ i, i < j → decide (cr i &&& (if (fh + i) % 2 = 1 then on else on ^^^ (-1)) = 0) = false) (_ : 60 - j < n_) (H : Heap) (locs : List Loc) (ls : Array Slot), Wd G A_ s_.heap [(st, .inr (5, [.ref sc, .int (nI fh)])), (sc, .inl (G.2.1, 60, .inl cr))] H locs → lv_has ls 4 [(2, .int x_384), (0, .ref st), (1, .int on)] → W p_ l e_ ({ frames := 1, cells := 0, slots := 0, locals := 21 }) s_ m_ ar_ be_ me_ cd_ H locs 0 0 Q (F0 m_ 2 ls []) := by
    intro n_
    induction n_ with
    | zero => intro j x_384 ex_384 hj hz hm_; exact absurd hm_ (Nat.not_lt_zero _)
    | succ n_ ihK_383 =>
      intro j x_384 ex_384 hj hz hm_ H locs ls hW hl
      subst ex_384
      refine lv_iload_n hx hb dX7_strokes_2 rfl (lv_at hl 0 rfl) ?_
      refine lv_bipush (v := 60) hx hb dX7_strokes_3 (by decide) ?_
      refine lv_icmp_ge (tgt := 44) hx hb dX7_strokes_5 (by decide) (fun c_385 => ?_) (fun c_385 => ?_)
      · replace c_385 := Int32.not_lt.mpr c_385
        have c_385n : ¬ j < 60 := fun q => c_385 ((nI_ltI (a := j) (b := 60) (by omega) (by omega)).mpr q)
        refine lv_bipush (v := 60) hx hb dX7_strokes_44 (by decide) ?_
        subst hQ
        exact g_iret (v := 60) C hW hrt ⟨by (have e : j = 60 := by omega); (subst e; rw [stq, first_all hz]; rfl), rfl⟩ dX7_strokes_46
      · replace c_385 := Int32.not_le.mp c_385
        have c_385n : j < 60 := (nI_ltI (a := j) (b := 60) (by omega) (by omega)).mp c_385
        refine lv_aload_n hx hb dX7_strokes_8 rfl (lv_at hl 1 rfl) ?_
        refine lv_iload_n hx hb dX7_strokes_9 rfl (lv_at hl 0 rfl) ?_
        refine g_fi C hW [0] rfl (g_runV (As := [.int (nI j)]) (rest := []) (wc := [(st, .inr (5, [.ref sc, .int (nI fh)]))]) (q0 := 0) (ci := 5) C hW hl (c_X7_hillIn l G st sc fh j (by first | assumption | omega) (by omega) _) k_ml_X7_23 q_X7_hillIn (by decide) [0] rfl rfl rfl rfl rfl rfl (Nat.le_of_ble_eq_true rfl) dX7_strokes_10 (by decide)) (fun r_386 er_386 => ?_)
        clear hW H locs; intro H locs hW
        subst er_386
        refine lv_iconst (v := 1) hx hb dX7_strokes_13 (by decide) ?_
        have J_389 : ∀ (y_388 : Int32) (_ : y_388 = (if (nI ((fh + j) % 2)) = 1 then on else on ^^^ (-1))), ∀ (H : Heap) (locs : List Loc) (ls : Array Slot), Wd G A_ s_.heap [(st, .inr (5, [.ref sc, .int (nI fh)])), (sc, .inl (G.2.1, 60, .inl cr))] H locs → lv_has ls 4 [(2, .int (nI j)), (0, .ref st), (1, .int on)] → W p_ l e_ ({ frames := 1, cells := 0, slots := 0, locals := 21 }) s_ m_ ar_ be_ me_ cd_ H locs 0 0 Q (F0 m_ 24 ls [.int y_388]) := by
          intro y_388 ey_388 H locs ls hW hl
          refine lv_istore_n (lv' := [(3, .int y_388), (2, .int (nI j)), (0, .ref st), (1, .int on)]) hx hb dX7_strokes_24 rfl hl (by decide) rfl ?_
          clear hl ls; intro ls hl
          refine lv_aload_n hx hb dX7_strokes_25 rfl (lv_at hl 2 rfl) ?_
          refine g_get (k := 0) (v := .ref sc) C hW 0 rfl rfl jnX7 (by decide) k_fl_X7_9 rfl dX7_strokes_26 ?_
          refine lv_iload_n hx hb dX7_strokes_29 rfl (lv_at hl 1 rfl) ?_
          refine g_ald C hW 1 rfl (ix_in (show (nI j) = nI j from (by first | rfl | (simp only [nI_lit, nI_add, pk_mul]; done) | (simp only [nI_lit, nI_add, pk_mul]; congr 1; omega))) (by omega) (by omega)) dX7_strokes_30 ?_
          refine lv_as (y := cr j) (by rw [show (nI j).toNatClampNeg = j from nI_clamp (by omega)]) ?_
          refine lv_iload_n hx hb dX7_strokes_31 rfl (lv_at hl 0 rfl) ?_
          refine lv_iand hx hb dX7_strokes_32 ?_
          refine lv_if_ne (tgt := 38) hx hb dX7_strokes_33 (by decide) (fun c_390 => ?_) (fun c_390 => ?_)
          · refine lv_iinc (v := (nI j) + 1) (lv' := [(2, .int ((nI j) + 1)), (3, .int y_388), (0, .ref st), (1, .int on)]) hx hb dX7_strokes_38 hl (k := 1) rfl rfl (by decide) rfl ?_
            clear hl ls; intro ls hl
            refine lv_goto (tgt := 2) hx hb dX7_strokes_41 (by decide) ?_
            exact ihK_383 (j + 1) ((nI j) + 1) (by first | assumption | omega | exact nI_1 _ | rfl | (simp; done)) (by first | assumption | omega | exact nI_1 _ | rfl | (simp; done)) (by exact lt_s hz (by have z := c_390; rw [ey_388, st_if (Nat.mod_lt _ (by decide))] at z; exact decide_eq_false z)) (by omega) _ _ _ hW (lv_sub hl [0, 2, 3] rfl)
          · refine lv_iload_n hx hb dX7_strokes_36 rfl (lv_at hl 1 rfl) ?_
            subst hQ
            exact g_iret (v := (nI j)) C hW hrt ⟨by exact congrArg nI (first_eq (by omega) hz (by have z := c_390; rw [ey_388, st_if (Nat.mod_lt _ (by decide))] at z; exact decide_eq_true z)).symm, rfl⟩ dX7_strokes_37
        refine lv_icmp_ne (tgt := 21) hx hb dX7_strokes_14 (by decide) (fun c_387 => ?_) (fun c_387 => ?_)
        · have c_387n : ¬ ((fh + j) % 2) = 1 := fun q => c_387 ((nI_eq (a := ((fh + j) % 2)) (b := 1) (by omega) (by omega)).mpr q)
          refine lv_iload_n hx hb dX7_strokes_21 rfl (lv_at hl 2 rfl) ?_
          refine lv_iconst (v := (-1)) hx hb dX7_strokes_22 (by decide) ?_
          refine lv_ixor hx hb dX7_strokes_23 ?_
          exact J_389 (on ^^^ (-1)) (by first | (simp only [c_387, if_true, if_false, reduceIte]; done) | (simp [c_387]; done) | rfl) _ _ _ hW (lv_sub hl [0, 1, 2] rfl)
        · have c_387n : ((fh + j) % 2) = 1 := (nI_eq (a := ((fh + j) % 2)) (b := 1) (by omega) (by omega)).mp c_387
          refine lv_iload_n hx hb dX7_strokes_17 rfl (lv_at hl 2 rfl) ?_
          refine lv_goto (tgt := 24) hx hb dX7_strokes_18 (by decide) ?_
          exact J_389 on (by first | (simp only [c_387, if_true, if_false, reduceIte]; done) | (simp [c_387]; done) | rfl) _ _ _ hW (lv_sub hl [0, 1, 2] rfl)
  exact K_383 _ 0 0 (by first | assumption | omega | exact nI_1 _ | rfl | (simp; done)) (by first | assumption | omega | exact nI_1 _ | rfl | (simp; done)) (by exact lt_0) (Nat.lt_succ_self _) _ _ _ hW (lv_sub hl [0, 1, 2] rfl)
set_option maxHeartbeats 4000000 in
set_option maxRecDepth 100000 in
theorem c_X7_mirrored (l : Launch) (G : gT) (o1 : Int32) (n : Nat) (hn : n ≤ 7) : MI l G yX7_mirrored cX7_mirrored 4 .int ({ frames := 0, cells := 0, slots := 0, locals := 0 }) [.int o1, .int (nI n)] [] (fun (r : Int32) w1 => (r = mirF o1 n n) ∧ w1 = []) := by
  refine MI.mk (by decide) (Nat.le_of_ble_eq_true rfl) ?_
  intro p_ e_ s_ m_ ar_ be_ me_ cd_ A_ ls C hrt hW hl
  have hx := C.1; have hb := C.2.1; have hown := C.2.2.2.1; have ht := C.2.2.2.2.1
  replace hl : lv_has ls 4 [(0, .int o1), (1, .int (nI n))] := hl
  generalize hQ : MQ be_ _ ar_ s_ 0 0 A_ = Q
  refine lv_iconst (v := 0) hx hb dX7_mirrored_0 (by decide) ?_
  refine lv_istore_n (lv' := [(2, .int 0), (0, .int o1), (1, .int (nI n))]) hx hb dX7_mirrored_1 rfl hl (by decide) rfl ?_
  clear hl ls; intro ls hl
  refine lv_iconst (v := 0) hx hb dX7_mirrored_2 (by decide) ?_
  refine lv_istore_n (lv' := [(3, .int 0), (2, .int 0), (0, .int o1), (1, .int (nI n))]) hx hb dX7_mirrored_3 rfl hl (by decide) rfl ?_
  clear hl ls; intro ls hl
  have K_391 : ∀ (n_ : Nat) (j : Nat) (x_392 : Int32) (x_393 : Int32) (_ : x_392 = nI j) (_ : x_393 = mirF o1 n j) (_ : j ≤ n) (_ : n - j < n_) (H : Heap) (locs : List Loc) (ls : Array Slot), Wd G A_ s_.heap [] H locs → lv_has ls 4 [(3, .int x_392), (2, .int x_393), (0, .int o1), (1, .int (nI n))] → W p_ l e_ ({ frames := 0, cells := 0, slots := 0, locals := 0 }) s_ m_ ar_ be_ me_ cd_ H locs 0 0 Q (F0 m_ 4 ls []) := by
    intro n_
    induction n_ with
    | zero => intro j x_392 x_393 ex_392 ex_393 hj hm_; exact absurd hm_ (Nat.not_lt_zero _)
    | succ n_ ihK_391 =>
      intro j x_392 x_393 ex_392 ex_393 hj hm_ H locs ls hW hl
      subst ex_392
      subst ex_393
      refine lv_iload_n hx hb dX7_mirrored_4 rfl (lv_at hl 0 rfl) ?_
      refine lv_iload_n hx hb dX7_mirrored_5 rfl (lv_at hl 3 rfl) ?_
      refine lv_icmp_ge (tgt := 29) hx hb dX7_mirrored_6 (by decide) (fun c_394 => ?_) (fun c_394 => ?_)
      · replace c_394 := Int32.not_lt.mpr c_394
        have c_394n : ¬ j < n := fun q => c_394 ((nI_ltI (a := j) (b := n) (by omega) (by omega)).mpr q)
        refine lv_iload_n hx hb dX7_mirrored_29 rfl (lv_at hl 1 rfl) ?_
        subst hQ
        exact g_iret (v := (mirF o1 n j)) C hW hrt ⟨by rw [show j = n by omega], rfl⟩ dX7_mirrored_30
      · replace c_394 := Int32.not_le.mp c_394
        have c_394n : j < n := (nI_ltI (a := j) (b := n) (by omega) (by omega)).mp c_394
        refine lv_iload_n hx hb dX7_mirrored_9 rfl (lv_at hl 1 rfl) ?_
        refine lv_iload_n hx hb dX7_mirrored_10 rfl (lv_at hl 2 rfl) ?_
        refine lv_iload_n hx hb dX7_mirrored_11 rfl (lv_at hl 3 rfl) ?_
        refine lv_iconst (v := 1) hx hb dX7_mirrored_12 (by decide) ?_
        refine lv_isub hx hb dX7_mirrored_13 ?_
        refine lv_iload_n hx hb dX7_mirrored_14 rfl (lv_at hl 0 rfl) ?_
        refine lv_isub hx hb dX7_mirrored_15 ?_
        refine lv_ishr hx hb dX7_mirrored_16 ?_
        refine lv_iconst (v := 1) hx hb dX7_mirrored_17 (by decide) ?_
        refine lv_iand hx hb dX7_mirrored_18 ?_
        refine lv_iload_n hx hb dX7_mirrored_19 rfl (lv_at hl 0 rfl) ?_
        refine lv_ishl hx hb dX7_mirrored_20 ?_
        refine lv_ior hx hb dX7_mirrored_21 ?_
        refine lv_istore_n (lv' := [(2, .int ((mirF o1 n j) ||| (((o1 >>> ((((nI n) - 1) - (nI j)) &&& 31)) &&& 1) <<< ((nI j) &&& 31)))), (3, .int (nI j)), (0, .int o1), (1, .int (nI n))]) hx hb dX7_mirrored_22 rfl hl (by decide) rfl ?_
        clear hl ls; intro ls hl
        refine lv_iinc (v := (nI j) + 1) (lv' := [(3, .int ((nI j) + 1)), (2, .int ((mirF o1 n j) ||| (((o1 >>> ((((nI n) - 1) - (nI j)) &&& 31)) &&& 1) <<< ((nI j) &&& 31)))), (0, .int o1), (1, .int (nI n))]) hx hb dX7_mirrored_23 hl (k := 1) rfl rfl (by decide) rfl ?_
        clear hl ls; intro ls hl
        refine lv_goto (tgt := 4) hx hb dX7_mirrored_26 (by decide) ?_
        exact ihK_391 (j + 1) ((nI j) + 1) ((mirF o1 n j) ||| (((o1 >>> ((((nI n) - 1) - (nI j)) &&& 31)) &&& 1) <<< ((nI j) &&& 31))) (by first | assumption | omega | exact nI_1 _ | rfl | (simp; done)) (by first | assumption | omega | exact nI_1 _ | rfl | (simp; done)) (by first | assumption | omega | exact nI_1 _ | rfl | (simp; done)) (by omega) _ _ _ hW (lv_sub hl [0, 1, 2, 3] rfl)
  exact K_391 _ 0 0 0 (by first | assumption | omega | exact nI_1 _ | rfl | (simp; done)) (by first | assumption | omega | exact nI_1 _ | rfl | (simp; done)) (by first | assumption | omega | exact nI_1 _ | rfl | (simp; done)) (Nat.lt_succ_self _) _ _ _ hW (lv_sub hl [0, 1, 2, 3] rfl)
set_option maxHeartbeats 4000000 in
set_option maxRecDepth 100000 in
theorem c_X7_firstBestWay (l : Launch) (G : gT) (st sc fh : Nat) (cr : Nat → Int32) (n N : Nat) (hf : fh < 2) (hn : n ≤ 7) (eN : N = 2 ^ n) : MI l G yX7_firstBestWay cX7_firstBestWay 7 .int ({ frames := 2, cells := 0, slots := 0, locals := 44 }) [.ref st, .int (nI n)] [(st, .inr (5, [.ref sc, .int (nI fh)])), (sc, .inl (G.2.1, 60, .inl cr))] (fun (r : Int32) w1 => (r = (bwG cr fh n N).1) ∧ w1 = [(st, .inr (5, [.ref sc, .int (nI fh)])), (sc, .inl (G.2.1, 60, .inl cr))]) := by
  refine MI.mk (by decide) (Nat.le_of_ble_eq_true rfl) ?_
  intro p_ e_ s_ m_ ar_ be_ me_ cd_ A_ ls C hrt hW hl
  have hx := C.1; have hb := C.2.1; have hown := C.2.2.2.1; have ht := C.2.2.2.2.1
  replace hl : lv_has ls 7 [(0, .ref st), (1, .int (nI n))] := hl
  generalize hQ : MQ be_ _ ar_ s_ 0 0 A_ = Q
  have h2n : 1 ≤ N ∧ N ≤ 128 := by rw [eN]; exact pw7 hn
  refine lv_iconst (v := 0) hx hb dX7_firstBestWay_0 (by decide) ?_
  refine lv_istore_n (lv' := [(2, .int 0), (0, .ref st), (1, .int (nI n))]) hx hb dX7_firstBestWay_1 rfl hl (by decide) rfl ?_
  clear hl ls; intro ls hl
  refine lv_iconst (v := (-1)) hx hb dX7_firstBestWay_2 (by decide) ?_
  refine lv_istore_n (lv' := [(3, .int (-1)), (2, .int 0), (0, .ref st), (1, .int (nI n))]) hx hb dX7_firstBestWay_3 rfl hl (by decide) rfl ?_
  clear hl ls; intro ls hl
  refine lv_iconst (v := 0) hx hb dX7_firstBestWay_4 (by decide) ?_
  refine lv_istore (lv' := [(4, .int 0), (3, .int (-1)), (2, .int 0), (0, .ref st), (1, .int (nI n))]) hx hb dX7_firstBestWay_5 hl (by decide) rfl ?_
  clear hl ls; intro ls hl
  have K_395 : ∀ (n_ : Nat) (j : Nat) (x_396 : Int32) (x_397 : Int32) (x_398 : Int32) (_ : x_396 = nI j) (_ : x_397 = (bwG cr fh n j).2) (_ : x_398 = (bwG cr fh n j).1) (_ : j ≤ N) (_ : N - j < n_) (H : Heap) (locs : List Loc) (ls : Array Slot), Wd G A_ s_.heap [(st, .inr (5, [.ref sc, .int (nI fh)])), (sc, .inl (G.2.1, 60, .inl cr))] H locs → lv_has ls 7 [(4, .int x_396), (3, .int x_397), (2, .int x_398), (0, .ref st), (1, .int (nI n))] → W p_ l e_ ({ frames := 2, cells := 0, slots := 0, locals := 44 }) s_ m_ ar_ be_ me_ cd_ H locs 0 0 Q (F0 m_ 7 ls []) := by
    intro n_
    induction n_ with
    | zero => intro j x_396 x_397 x_398 ex_396 ex_397 ex_398 hj hm_; exact absurd hm_ (Nat.not_lt_zero _)
    | succ n_ ihK_395 =>
      intro j x_396 x_397 x_398 ex_396 ex_397 ex_398 hj hm_ H locs ls hW hl
      subst ex_396
      subst ex_397
      subst ex_398
      refine lv_iload hx hb dX7_firstBestWay_7 (lv_at hl 0 rfl) ?_
      refine lv_iconst (v := 1) hx hb dX7_firstBestWay_9 (by decide) ?_
      refine lv_iload_n hx hb dX7_firstBestWay_10 rfl (lv_at hl 4 rfl) ?_
      refine lv_ishl hx hb dX7_firstBestWay_11 ?_
      refine lv_as (y := nI N) (by rw [eN]; exact sh1 n (by omega)) ?_
      refine lv_icmp_ge (tgt := 55) hx hb dX7_firstBestWay_12 (by decide) (fun c_399 => ?_) (fun c_399 => ?_)
      · replace c_399 := Int32.not_lt.mpr c_399
        have c_399n : ¬ j < N := fun q => c_399 ((nI_ltI (a := j) (b := N) (by omega) (by omega)).mpr q)
        refine lv_iload_n hx hb dX7_firstBestWay_55 rfl (lv_at hl 2 rfl) ?_
        subst hQ
        exact g_iret (v := ((bwG cr fh n j).1)) C hW hrt ⟨by (first | (rw [show j = N by omega]; done) | (rw [show N = j + (N - j) by omega, bwG_stop c_399])), rfl⟩ dX7_firstBestWay_56
      · replace c_399 := Int32.not_le.mp c_399
        have c_399n : j < N := (nI_ltI (a := j) (b := N) (by omega) (by omega)).mp c_399
        refine lv_iload_n hx hb dX7_firstBestWay_15 rfl (lv_at hl 1 rfl) ?_
        refine lv_bipush (v := 60) hx hb dX7_firstBestWay_16 (by decide) ?_
        refine lv_icmp_ge (tgt := 55) hx hb dX7_firstBestWay_18 (by decide) (fun c_400 => ?_) (fun c_400 => ?_)
        · replace c_400 := Int32.not_lt.mpr c_400
          refine lv_iload_n hx hb dX7_firstBestWay_55 rfl (lv_at hl 2 rfl) ?_
          subst hQ
          exact g_iret (v := ((bwG cr fh n j).1)) C hW hrt ⟨by (first | (rw [show j = N by omega]; done) | (rw [show N = j + (N - j) by omega, bwG_stop c_400])), rfl⟩ dX7_firstBestWay_56
        · replace c_400 := Int32.not_le.mp c_400
          refine lv_iload hx hb dX7_firstBestWay_21 (lv_at hl 0 rfl) ?_
          refine lv_iload_n hx hb dX7_firstBestWay_23 rfl (lv_at hl 4 rfl) ?_
          refine g_fi C hW [] rfl (g_runS (As := [.int (nI j), .int (nI n)]) (rest := []) (wc := []) C hW hl (c_X7_mirrored l G (nI j) n (by first | assumption | omega) _) k_ml_X7_34 q_X7_mirrored (by decide) [] rfl rfl rfl rfl (Nat.le_of_ble_eq_true rfl) dX7_firstBestWay_24 (by decide)) (fun r_401 er_401 => ?_)
          clear hW H locs; intro H locs hW
          subst er_401
          refine lv_istore (lv' := [(5, .int (mirF (nI j) n n)), (4, .int (nI j)), (3, .int ((bwG cr fh n j).2)), (2, .int ((bwG cr fh n j).1)), (0, .ref st), (1, .int (nI n))]) hx hb dX7_firstBestWay_27 hl (by decide) rfl ?_
          clear hl ls; intro ls hl
          refine lv_aload_n hx hb dX7_firstBestWay_29 rfl (lv_at hl 4 rfl) ?_
          refine lv_iload hx hb dX7_firstBestWay_30 (lv_at hl 0 rfl) ?_
          refine g_fi C hW [0, 1] rfl (g_runV (As := [.int (mirF (nI j) n n)]) (rest := []) (wc := [(st, .inr (5, [.ref sc, .int (nI fh)])), (sc, .inl (G.2.1, 60, .inl cr))]) (q0 := 0) (ci := 5) C hW hl (c_X7_strokes l G st sc fh cr (mirF (nI j) n n) (by first | assumption | omega) _) k_ml_X7_37 q_X7_strokes (by decide) [0, 1] rfl rfl rfl rfl rfl rfl (Nat.le_of_ble_eq_true rfl) dX7_firstBestWay_32 (by decide)) (fun r_402 er_402 => ?_)
          clear hW H locs; intro H locs hW
          subst er_402
          refine lv_istore (lv' := [(6, .int (nI (stq cr fh (mirF (nI j) n n)))), (5, .int (mirF (nI j) n n)), (4, .int (nI j)), (3, .int ((bwG cr fh n j).2)), (2, .int ((bwG cr fh n j).1)), (0, .ref st), (1, .int (nI n))]) hx hb dX7_firstBestWay_35 hl (by decide) rfl ?_
          clear hl ls; intro ls hl
          refine lv_iload hx hb dX7_firstBestWay_37 (lv_at hl 0 rfl) ?_
          refine lv_iload_n hx hb dX7_firstBestWay_39 rfl (lv_at hl 3 rfl) ?_
          have J_406 : ∀ (x_404 : Int32) (_ : x_404 = (if ((bwG cr fh n j).2) < (nI (stq cr fh (mirF (nI j) n n))) then mirF (nI j) n n else (bwG cr fh n j).1)) (x_405 : Int32) (_ : x_405 = (if ((bwG cr fh n j).2) < (nI (stq cr fh (mirF (nI j) n n))) then nI (stq cr fh (mirF (nI j) n n)) else (bwG cr fh n j).2)), ∀ (H : Heap) (locs : List Loc) (ls : Array Slot), Wd G A_ s_.heap [(st, .inr (5, [.ref sc, .int (nI fh)])), (sc, .inl (G.2.1, 60, .inl cr))] H locs → lv_has ls 7 [(2, .int x_404), (3, .int x_405), (6, .int (nI (stq cr fh (mirF (nI j) n n)))), (5, .int (mirF (nI j) n n)), (4, .int (nI j)), (0, .ref st), (1, .int (nI n))] → W p_ l e_ ({ frames := 2, cells := 0, slots := 0, locals := 44 }) s_ m_ ar_ be_ me_ cd_ H locs 0 0 Q (F0 m_ 49 ls []) := by
            intro x_404 ex_404 x_405 ex_405 H locs ls hW hl
            refine lv_iinc (v := (nI j) + 1) (lv' := [(4, .int ((nI j) + 1)), (2, .int x_404), (3, .int x_405), (6, .int (nI (stq cr fh (mirF (nI j) n n)))), (5, .int (mirF (nI j) n n)), (0, .ref st), (1, .int (nI n))]) hx hb dX7_firstBestWay_49 hl (k := 4) rfl rfl (by decide) rfl ?_
            clear hl ls; intro ls hl
            refine lv_goto (tgt := 7) hx hb dX7_firstBestWay_52 (by decide) ?_
            exact ihK_395 (j + 1) ((nI j) + 1) x_405 x_404 (by first | assumption | omega | exact nI_1 _ | rfl | (simp; done)) (by (simp only [ex_404, ex_405, bwG]; exact bw_2 c_400)) (by (simp only [ex_404, ex_405, bwG]; exact bw_1 c_400)) (by first | assumption | omega | exact nI_1 _ | rfl | (simp; done)) (by omega) _ _ _ hW (lv_sub hl [0, 2, 1, 5, 6] rfl)
          refine lv_icmp_le (tgt := 49) hx hb dX7_firstBestWay_40 (by decide) (fun c_403 => ?_) (fun c_403 => ?_)
          · replace c_403 := Int32.not_lt.mpr c_403
            exact J_406 ((bwG cr fh n j).1) (by first | (simp only [c_403, if_true, if_false, reduceIte]; done) | (simp [c_403]; done) | rfl) ((bwG cr fh n j).2) (by first | (simp only [c_403, if_true, if_false, reduceIte]; done) | (simp [c_403]; done) | rfl) _ _ _ hW (lv_sub hl [4, 3, 0, 1, 2, 5, 6] rfl)
          · replace c_403 := Int32.not_le.mp c_403
            refine lv_iload hx hb dX7_firstBestWay_43 (lv_at hl 0 rfl) ?_
            refine lv_istore_n (lv' := [(3, .int (nI (stq cr fh (mirF (nI j) n n)))), (6, .int (nI (stq cr fh (mirF (nI j) n n)))), (5, .int (mirF (nI j) n n)), (4, .int (nI j)), (2, .int ((bwG cr fh n j).1)), (0, .ref st), (1, .int (nI n))]) hx hb dX7_firstBestWay_45 rfl hl (by decide) rfl ?_
            clear hl ls; intro ls hl
            refine lv_iload hx hb dX7_firstBestWay_46 (lv_at hl 2 rfl) ?_
            refine lv_istore_n (lv' := [(2, .int (mirF (nI j) n n)), (3, .int (nI (stq cr fh (mirF (nI j) n n)))), (6, .int (nI (stq cr fh (mirF (nI j) n n)))), (5, .int (mirF (nI j) n n)), (4, .int (nI j)), (0, .ref st), (1, .int (nI n))]) hx hb dX7_firstBestWay_48 rfl hl (by decide) rfl ?_
            clear hl ls; intro ls hl
            exact J_406 (mirF (nI j) n n) (by first | (simp only [c_403, if_true, if_false, reduceIte]; done) | (simp [c_403]; done) | rfl) (nI (stq cr fh (mirF (nI j) n n))) (by first | (simp only [c_403, if_true, if_false, reduceIte]; done) | (simp [c_403]; done) | rfl) _ _ _ hW (lv_sub hl [0, 1, 2, 3, 4, 5, 6] rfl)
  exact K_395 _ 0 0 (-1) 0 (by first | assumption | omega | exact nI_1 _ | rfl | (simp; done)) (by first | assumption | omega | exact nI_1 _ | rfl | (simp; done)) (by first | assumption | omega | exact nI_1 _ | rfl | (simp; done)) (by first | assumption | omega | exact nI_1 _ | rfl | (simp; done)) (Nat.lt_succ_self _) _ _ _ hW (lv_sub hl [0, 1, 2, 3, 4] rfl)
