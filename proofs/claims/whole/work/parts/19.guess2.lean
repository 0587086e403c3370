set_option maxHeartbeats 4000000 in
set_option maxRecDepth 100000 in
theorem c_X1_askingHour (l : Launch) (G : gT) (o_ om : Nat) (ms : Nat → Int32) (v vw vc vp vs vn vm vu : Nat) (wide : Int32) (vpc n : Nat) (pf : Nat → Int32) (vmc mn : Nat) (mf : Nat → Int32) (k : Nat) (hk : k < n) (hn : n ≤ 7) (hm : mn ≤ 6) : MI l G yX1_askingHour cX1_askingHour 9 .int ({ frames := 3, cells := 0, slots := 0, locals := 73 }) [.ref o_, .ref v, .int (nI k)] [(o_, .inr (0, [.ref om])), (om, .inl (G.2.1, 6, .inl ms)), (v, .inr (7, [.int wide, .ref vw, .ref vc, .ref vp, .ref vs, .ref vn, .ref vm, .ref vu])), (vp, .inr (4, [.int 7, .int 3, .ref vpc, .int (nI n)])), (vpc, .inl (G.2.1, 21, .inl pf)), (vm, .inr (4, [.int 6, .int 4, .ref vmc, .int (nI mn)])), (vmc, .inl (G.2.1, 24, .inl mf))] (fun (r : Int32) w1 => ∃ u_ : Nat → Int32, (r = (amnG nI (fun t => mal (orF (fun i => allB (mB mf (nI k) (nI i)) mn) 6) (fun i => bl (nI i) (pf (k * 3 + 2)) (nI t))) (-1, bc (orF (fun i => allB (mB mf (nI k) (nI i)) mn) 6) + 1) 24).1) ∧ w1 = [(o_, .inr (0, [.ref om])), (om, .inl (G.2.1, 6, .inl u_)), (v, .inr (7, [.int wide, .ref vw, .ref vc, .ref vp, .ref vs, .ref vn, .ref vm, .ref vu])), (vp, .inr (4, [.int 7, .int 3, .ref vpc, .int (nI n)])), (vpc, .inl (G.2.1, 21, .inl pf)), (vm, .inr (4, [.int 6, .int 4, .ref vmc, .int (nI mn)])), (vmc, .inl (G.2.1, 24, .inl mf))]) := by
  refine MI.mk (by decide) (Nat.le_of_ble_eq_true rfl) ?_
  intro p_ e_ s_ m_ ar_ be_ me_ cd_ A_ ls C hrt hW hl
  have hx := C.1; have hb := C.2.1; have hown := C.2.2.2.1; have ht := C.2.2.2.2.1
  replace hl : lv_has ls 9 [(0, .ref o_), (1, .ref v), (2, .int (nI k))] := hl
  generalize hQ : MQ be_ _ ar_ s_ 0 0 A_ = Q
  refine lv_aload_n hx hb dX1_askingHour_0 rfl (lv_at hl 0 rfl) ?_
  refine lv_aload_n hx hb dX1_askingHour_1 rfl (lv_at hl 1 rfl) ?_
  refine lv_iload_n hx hb dX1_askingHour_2 rfl (lv_at hl 2 rfl) ?_
  refine g_fi C hW [0, 2, 5, 6] rfl (g_runV (As := [.ref v, .int (nI k)]) (rest := []) (wc := [(o_, .inr (0, [.ref om])), (v, .inr (7, [.int wide, .ref vw, .ref vc, .ref vp, .ref vs, .ref vn, .ref vm, .ref vu])), (vm, .inr (4, [.int 6, .int 4, .ref vmc, .int (nI mn)])), (vmc, .inl (G.2.1, 24, .inl mf))]) (q0 := 0) (ci := 0) C hW hl (c_X1_playerKinds l G o_ om v vw vc vp vs vn vm vu wide vmc mn mf (nI k) (by first | assumption | omega) _) k_ml_X1_59 q_X1_playerKinds (by decide) [0, 2, 5, 6] rfl rfl rfl rfl rfl rfl (Nat.le_of_ble_eq_true rfl) dX1_askingHour_3 (by decide)) (fun r_336 er_336 => ?_)
  clear hW; intro H locs hW
  subst er_336
  refine lv_istore_n (lv' := [(3, .int (orF (fun i => allB (mB mf (nI k) (nI i)) mn) 6)), (0, .ref o_), (1, .ref v), (2, .int (nI k))]) hx hb dX1_askingHour_6 rfl hl (by decide) rfl ?_
  clear hl ls; intro ls hl
  refine lv_aload_n hx hb dX1_askingHour_7 rfl (lv_at hl 2 rfl) ?_
  refine g_getN (k := 3) (v := .ref vp) (host := RX10) C hW 2 rfl rfl jnX9 (by decide) (List.mem_of_getElem? (i := 7) rfl) rfl dX1_askingHour_8 ?_
  refine lv_iload_n hx hb dX1_askingHour_11 rfl (lv_at hl 3 rfl) ?_
  refine lv_iconst (v := 2) hx hb dX1_askingHour_12 (by decide) ?_
  refine g_fi C hW [3, 4] rfl (g_runV (As := [.int (nI k), .int 2]) (rest := []) (wc := [(vp, .inr (4, [.int 7, .int 3, .ref vpc, .int (nI n)])), (vpc, .inl (G.2.1, 21, .inl pf))]) (q0 := 0) (ci := 4) C hW hl (c_X6_cell l G vp vpc 7 3 n pf k 2 (by first | assumption | omega) (by first | assumption | omega) (by first | assumption | omega) (by first | assumption | omega) _) k_ml_X1_66 q_X6_cell (by decide) [3, 4] rfl rfl rfl rfl rfl rfl (Nat.le_of_ble_eq_true rfl) dX1_askingHour_13 (by decide)) (fun r_337 er_337 => ?_)
  clear hW H locs; intro H locs hW
  subst er_337
  refine lv_istore (lv' := [(4, .int (pf (k * 3 + 2))), (3, .int (orF (fun i => allB (mB mf (nI k) (nI i)) mn) 6)), (0, .ref o_), (1, .ref v), (2, .int (nI k))]) hx hb dX1_askingHour_16 hl (by decide) rfl ?_
  clear hl ls; intro ls hl
  refine lv_iconst (v := (-1)) hx hb dX1_askingHour_18 (by decide) ?_
  refine lv_istore (lv' := [(5, .int (-1)), (4, .int (pf (k * 3 + 2))), (3, .int (orF (fun i => allB (mB mf (nI k) (nI i)) mn) 6)), (0, .ref o_), (1, .ref v), (2, .int (nI k))]) hx hb dX1_askingHour_19 hl (by decide) rfl ?_
  clear hl ls; intro ls hl
  refine lv_iload_n hx hb dX1_askingHour_21 rfl (lv_at hl 2 rfl) ?_
  refine g_fi C hW [] rfl (g_runS (As := [.int (orF (fun i => allB (mB mf (nI k) (nI i)) mn) 6)]) (rest := []) (wc := []) C hW hl (c_J6_bitCount_0f7a4 l G (orF (fun i => allB (mB mf (nI k) (nI i)) mn) 6)  _) k_ml_X1_23 q_J6_bitCount_0f7a4 (by decide) [] rfl rfl rfl rfl (Nat.le_of_ble_eq_true rfl) dX1_askingHour_22 (by decide)) (fun r_338 er_338 => ?_)
  clear hW H locs; intro H locs hW
  subst er_338
  refine lv_iconst (v := 1) hx hb dX1_askingHour_25 (by decide) ?_
  refine lv_iadd hx hb dX1_askingHour_26 ?_
  refine lv_istore (lv' := [(6, .int ((bc (orF (fun i => allB (mB mf (nI k) (nI i)) mn) 6)) + 1)), (5, .int (-1)), (4, .int (pf (k * 3 + 2))), (3, .int (orF (fun i => allB (mB mf (nI k) (nI i)) mn) 6)), (0, .ref o_), (1, .ref v), (2, .int (nI k))]) hx hb dX1_askingHour_27 hl (by decide) rfl ?_
  clear hl ls; intro ls hl
  refine lv_iconst (v := 0) hx hb dX1_askingHour_29 (by decide) ?_
  refine lv_istore (lv' := [(7, .int 0), (6, .int ((bc (orF (fun i => allB (mB mf (nI k) (nI i)) mn) 6)) + 1)), (5, .int (-1)), (4, .int (pf (k * 3 + 2))), (3, .int (orF (fun i => allB (mB mf (nI k) (nI i)) mn) 6)), (0, .ref o_), (1, .ref v), (2, .int (nI k))]) hx hb dX1_askingHour_30 hl (by decide) rfl ?_
  clear hl ls; intro ls hl
  have K_339 : ∀ (n_ : Nat) (j : Nat) (x_340 : Int32) (x_341 : Int32) (x_342 : Int32) (mz : Nat → Int32) (_ : x_340 = nI j) (_ : x_341 = (amnG nI (fun t => mal (orF (fun i => allB (mB mf (nI k) (nI i)) mn) 6) (fun i => bl (nI i) (pf (k * 3 + 2)) (nI t))) (-1, bc (orF (fun i => allB (mB mf (nI k) (nI i)) mn) 6) + 1) j).2) (_ : x_342 = (amnG nI (fun t => mal (orF (fun i => allB (mB mf (nI k) (nI i)) mn) 6) (fun i => bl (nI i) (pf (k * 3 + 2)) (nI t))) (-1, bc (orF (fun i => allB (mB mf (nI k) (nI i)) mn) 6) + 1) j).1) (_ : j ≤ 24) (_ : 24 - j < n_) (H : Heap) (locs : List Loc) (ls : Array Slot), Wd G A_ s_.heap [(o_, .inr (0, [.ref om])), (om, .inl (G.2.1, 6, .inl mz)), (v, .inr (7, [.int wide, .ref vw, .ref vc, .ref vp, .ref vs, .ref vn, .ref vm, .ref vu])), (vp, .inr (4, [.int 7, .int 3, .ref vpc, .int (nI n)])), (vpc, .inl (G.2.1, 21, .inl pf)), (vm, .inr (4, [.int 6, .int 4, .ref vmc, .int (nI mn)])), (vmc, .inl (G.2.1, 24, .inl mf))] H locs → lv_has ls 9 [(7, .int x_340), (6, .int x_341), (5, .int x_342), (4, .int (pf (k * 3 + 2))), (3, .int (orF (fun i => allB (mB mf (nI k) (nI i)) mn) 6)), (0, .ref o_), (1, .ref v), (2, .int (nI k))] → W p_ l e_ ({ frames := 3, cells := 0, slots := 0, locals := 73 }) s_ m_ ar_ be_ me_ cd_ H locs 0 0 Q (F0 m_ 32 ls []) := by
    intro n_
    induction n_ with
    | zero => intro j x_340 x_341 x_342 mz ex_340 ex_341 ex_342 hj hm_; exact absurd hm_ (Nat.not_lt_zero _)
    | succ n_ ihK_339 =>
      intro j x_340 x_341 x_342 mz ex_340 ex_341 ex_342 hj hm_ H locs ls hW hl
      subst ex_340
      subst ex_341
      subst ex_342
      refine lv_iload hx hb dX1_askingHour_32 (lv_at hl 0 rfl) ?_
      refine lv_bipush (v := 24) hx hb dX1_askingHour_34 (by decide) ?_
      refine lv_icmp_ge (tgt := 77) hx hb dX1_askingHour_36 (by decide) (fun c_343 => ?_) (fun c_343 => ?_)
      · replace c_343 := Int32.not_lt.mpr c_343
        have c_343n : ¬ j < 24 := fun q => c_343 ((nI_ltI (a := j) (b := 24) (by omega) (by omega)).mpr q)
        refine lv_iload hx hb dX1_askingHour_77 (lv_at hl 2 rfl) ?_
        subst hQ
        exact g_iret (v := ((amnG nI (fun t => mal (orF (fun i => allB (mB mf (nI k) (nI i)) mn) 6) (fun i => bl (nI i) (pf (k * 3 + 2)) (nI t))) (-1, bc (orF (fun i => allB (mB mf (nI k) (nI i)) mn) 6) + 1) j).1)) C hW hrt ⟨mz, by (first | (rw [show j = 24 by omega]; done) | (rw [show (24 : Nat) = j + (24 - j) by omega, amnG_stop c_343])), by rfl⟩ dX1_askingHour_79
      · replace c_343 := Int32.not_le.mp c_343
        have c_343n : j < 24 := (nI_ltI (a := j) (b := 24) (by omega) (by omega)).mp c_343
        refine lv_iload hx hb dX1_askingHour_39 (lv_at hl 1 rfl) ?_
        refine lv_iconst (v := 1) hx hb dX1_askingHour_41 (by decide) ?_
        refine lv_icmp_le (tgt := 77) hx hb dX1_askingHour_42 (by decide) (fun c_344 => ?_) (fun c_344 => ?_)
        · replace c_344 := Int32.not_lt.mpr c_344
          refine lv_iload hx hb dX1_askingHour_77 (lv_at hl 2 rfl) ?_
          subst hQ
          exact g_iret (v := ((amnG nI (fun t => mal (orF (fun i => allB (mB mf (nI k) (nI i)) mn) 6) (fun i => bl (nI i) (pf (k * 3 + 2)) (nI t))) (-1, bc (orF (fun i => allB (mB mf (nI k) (nI i)) mn) 6) + 1) j).1)) C hW hrt ⟨mz, by (first | (rw [show j = 24 by omega]; done) | (rw [show (24 : Nat) = j + (24 - j) by omega, amnG_stop c_344])), by rfl⟩ dX1_askingHour_79
        · replace c_344 := Int32.not_le.mp c_344
          refine lv_aload_n hx hb dX1_askingHour_45 rfl (lv_at hl 5 rfl) ?_
          refine lv_iload_n hx hb dX1_askingHour_46 rfl (lv_at hl 4 rfl) ?_
          refine lv_iload hx hb dX1_askingHour_47 (lv_at hl 3 rfl) ?_
          refine lv_iload hx hb dX1_askingHour_49 (lv_at hl 0 rfl) ?_
          refine g_fiw (wr := [(v, .inr (7, [.int wide, .ref vw, .ref vc, .ref vp, .ref vs, .ref vn, .ref vm, .ref vu])), (vp, .inr (4, [.int 7, .int 3, .ref vpc, .int (nI n)])), (vpc, .inl (G.2.1, 21, .inl pf)), (vm, .inr (4, [.int 6, .int 4, .ref vmc, .int (nI mn)])), (vmc, .inl (G.2.1, 24, .inl mf))]) (ww := fun (u_ : Unit) => [(o_, .inr (0, [.ref om])), (om, .inl (G.2.1, 6, .inl (fun i => if i < 6 then bl (nI i) (pf (k * 3 + 2)) (nI j) else mz i)))]) (w2 := fun (u_ : Unit) => [(o_, .inr (0, [.ref om])), (om, .inl (G.2.1, 6, .inl (fun i => if i < 6 then bl (nI i) (pf (k * 3 + 2)) (nI j) else mz i))), (v, .inr (7, [.int wide, .ref vw, .ref vc, .ref vp, .ref vs, .ref vn, .ref vm, .ref vu])), (vp, .inr (4, [.int 7, .int 3, .ref vpc, .int (nI n)])), (vpc, .inl (G.2.1, 21, .inl pf)), (vm, .inr (4, [.int 6, .int 4, .ref vmc, .int (nI mn)])), (vmc, .inl (G.2.1, 24, .inl mf))]) C hW [0, 1] [2, 3, 4, 5, 6] [5, 6, 0, 1, 2, 3, 4] rfl rfl (by decide) (by decide) (by decide) (fun _ => rfl) (g_runV (As := [.int (orF (fun i => allB (mB mf (nI k) (nI i)) mn) 6), .int (pf (k * 3 + 2)), .int (nI j)]) (rest := []) (wc := [(o_, .inr (0, [.ref om])), (om, .inl (G.2.1, 6, .inl mz))]) (q0 := 0) (ci := 0) C hW hl (c_X1_mostAsHard l G o_ om mz (orF (fun i => allB (mB mf (nI k) (nI i)) mn) 6) (pf (k * 3 + 2)) (nI j)  _) k_ml_X1_72 q_X1_mostAsHard (by decide) [0, 1] rfl rfl rfl rfl rfl rfl (Nat.le_of_ble_eq_true rfl) dX1_askingHour_51 (by decide)) (fun r_345 _ er_345 => ?_)
          clear hW H locs; intro H locs hW
          subst er_345
          replace hW : Wd G A_ s_.heap [(o_, .inr (0, [.ref om])), (om, .inl (G.2.1, 6, .inl (fun i => if i < 6 then bl (nI i) (pf (k * 3 + 2)) (nI j) else mz i))), (v, .inr (7, [.int wide, .ref vw, .ref vc, .ref vp, .ref vs, .ref vn, .ref vm, .ref vu])), (vp, .inr (4, [.int 7, .int 3, .ref vpc, .int (nI n)])), (vpc, .inl (G.2.1, 21, .inl pf)), (vm, .inr (4, [.int 6, .int 4, .ref vmc, .int (nI mn)])), (vmc, .inl (G.2.1, 24, .inl mf))] H locs := hW
          refine lv_istore (lv' := [(8, .int (mal (orF (fun i => allB (mB mf (nI k) (nI i)) mn) 6) (fun i => bl (nI i) (pf (k * 3 + 2)) (nI j)))), (7, .int (nI j)), (6, .int ((amnG nI (fun t => mal (orF (fun i => allB (mB mf (nI k) (nI i)) mn) 6) (fun i => bl (nI i) (pf (k * 3 + 2)) (nI t))) (-1, bc (orF (fun i => allB (mB mf (nI k) (nI i)) mn) 6) + 1) j).2)), (5, .int ((amnG nI (fun t => mal (orF (fun i => allB (mB mf (nI k) (nI i)) mn) 6) (fun i => bl (nI i) (pf (k * 3 + 2)) (nI t))) (-1, bc (orF (fun i => allB (mB mf (nI k) (nI i)) mn) 6) + 1) j).1)), (4, .int (pf (k * 3 + 2))), (3, .int (orF (fun i => allB (mB mf (nI k) (nI i)) mn) 6)), (0, .ref o_), (1, .ref v), (2, .int (nI k))]) hx hb dX1_askingHour_54 hl (by decide) rfl ?_
          clear hl ls; intro ls hl
          refine lv_iload hx hb dX1_askingHour_56 (lv_at hl 0 rfl) ?_
          refine lv_iload hx hb dX1_askingHour_58 (lv_at hl 2 rfl) ?_
          have J_350 : ∀ (x_348 : Int32) (_ : x_348 = (if (mal (orF (fun i => allB (mB mf (nI k) (nI i)) mn) 6) (fun i => bl (nI i) (pf (k * 3 + 2)) (nI j))) < ((amnG nI (fun t => mal (orF (fun i => allB (mB mf (nI k) (nI i)) mn) 6) (fun i => bl (nI i) (pf (k * 3 + 2)) (nI t))) (-1, bc (orF (fun i => allB (mB mf (nI k) (nI i)) mn) 6) + 1) j).2) then nI j else (amnG nI (fun t => mal (orF (fun i => allB (mB mf (nI k) (nI i)) mn) 6) (fun i => bl (nI i) (pf (k * 3 + 2)) (nI t))) (-1, bc (orF (fun i => allB (mB mf (nI k) (nI i)) mn) 6) + 1) j).1)) (x_349 : Int32) (_ : x_349 = (if (mal (orF (fun i => allB (mB mf (nI k) (nI i)) mn) 6) (fun i => bl (nI i) (pf (k * 3 + 2)) (nI j))) < ((amnG nI (fun t => mal (orF (fun i => allB (mB mf (nI k) (nI i)) mn) 6) (fun i => bl (nI i) (pf (k * 3 + 2)) (nI t))) (-1, bc (orF (fun i => allB (mB mf (nI k) (nI i)) mn) 6) + 1) j).2) then mal (orF (fun i => allB (mB mf (nI k) (nI i)) mn) 6) (fun i => bl (nI i) (pf (k * 3 + 2)) (nI j)) else (amnG nI (fun t => mal (orF (fun i => allB (mB mf (nI k) (nI i)) mn) 6) (fun i => bl (nI i) (pf (k * 3 + 2)) (nI t))) (-1, bc (orF (fun i => allB (mB mf (nI k) (nI i)) mn) 6) + 1) j).2)), ∀ (H : Heap) (locs : List Loc) (ls : Array Slot), Wd G A_ s_.heap [(o_, .inr (0, [.ref om])), (om, .inl (G.2.1, 6, .inl (fun i => if i < 6 then bl (nI i) (pf (k * 3 + 2)) (nI j) else mz i))), (v, .inr (7, [.int wide, .ref vw, .ref vc, .ref vp, .ref vs, .ref vn, .ref vm, .ref vu])), (vp, .inr (4, [.int 7, .int 3, .ref vpc, .int (nI n)])), (vpc, .inl (G.2.1, 21, .inl pf)), (vm, .inr (4, [.int 6, .int 4, .ref vmc, .int (nI mn)])), (vmc, .inl (G.2.1, 24, .inl mf))] H locs → lv_has ls 9 [(5, .int x_348), (6, .int x_349), (8, .int (mal (orF (fun i => allB (mB mf (nI k) (nI i)) mn) 6) (fun i => bl (nI i) (pf (k * 3 + 2)) (nI j)))), (7, .int (nI j)), (4, .int (pf (k * 3 + 2))), (3, .int (orF (fun i => allB (mB mf (nI k) (nI i)) mn) 6)), (0, .ref o_), (1, .ref v), (2, .int (nI k))] → W p_ l e_ ({ frames := 3, cells := 0, slots := 0, locals := 73 }) s_ m_ ar_ be_ me_ cd_ H locs 0 0 Q (F0 m_ 71 ls []) := by
            intro x_348 ex_348 x_349 ex_349 H locs ls hW hl
            refine lv_iinc (v := (nI j) + 1) (lv' := [(7, .int ((nI j) + 1)), (5, .int x_348), (6, .int x_349), (8, .int (mal (orF (fun i => allB (mB mf (nI k) (nI i)) mn) 6) (fun i => bl (nI i) (pf (k * 3 + 2)) (nI j)))), (4, .int (pf (k * 3 + 2))), (3, .int (orF (fun i => allB (mB mf (nI k) (nI i)) mn) 6)), (0, .ref o_), (1, .ref v), (2, .int (nI k))]) hx hb dX1_askingHour_71 hl (k := 3) rfl rfl (by decide) rfl ?_
            clear hl ls; intro ls hl
            refine lv_goto (tgt := 32) hx hb dX1_askingHour_74 (by decide) ?_
            exact ihK_339 (j + 1) ((nI j) + 1) x_349 x_348 (fun i => if i < 6 then bl (nI i) (pf (k * 3 + 2)) (nI j) else mz i) (by first | rfl | assumption | omega | exact nI_1 _ | (simp; done)) (by (simp only [ex_348, ex_349, amnG]; exact am_2 c_344)) (by (simp only [ex_348, ex_349, amnG]; exact am_1 c_344)) (by first | rfl | assumption | omega | exact nI_1 _ | (simp; done)) (by omega) _ _ _ hW (lv_sub hl [0, 2, 1, 4, 5, 6, 7, 8] rfl)
          refine lv_icmp_ge (tgt := 71) hx hb dX1_askingHour_60 (by decide) (fun c_347 => ?_) (fun c_347 => ?_)
          · replace c_347 := Int32.not_lt.mpr c_347
            exact J_350 ((amnG nI (fun t => mal (orF (fun i => allB (mB mf (nI k) (nI i)) mn) 6) (fun i => bl (nI i) (pf (k * 3 + 2)) (nI t))) (-1, bc (orF (fun i => allB (mB mf (nI k) (nI i)) mn) 6) + 1) j).1) (by first | rfl | (simp only [c_347, if_true, if_false, reduceIte]; done) | (simp [c_347]; done)) ((amnG nI (fun t => mal (orF (fun i => allB (mB mf (nI k) (nI i)) mn) 6) (fun i => bl (nI i) (pf (k * 3 + 2)) (nI t))) (-1, bc (orF (fun i => allB (mB mf (nI k) (nI i)) mn) 6) + 1) j).2) (by first | rfl | (simp only [c_347, if_true, if_false, reduceIte]; done) | (simp [c_347]; done)) _ _ _ hW (lv_sub hl [3, 2, 0, 1, 4, 5, 6, 7, 8] rfl)
          · replace c_347 := Int32.not_le.mp c_347
            refine lv_iload hx hb dX1_askingHour_63 (lv_at hl 0 rfl) ?_
            refine lv_istore (lv' := [(6, .int (mal (orF (fun i => allB (mB mf (nI k) (nI i)) mn) 6) (fun i => bl (nI i) (pf (k * 3 + 2)) (nI j)))), (8, .int (mal (orF (fun i => allB (mB mf (nI k) (nI i)) mn) 6) (fun i => bl (nI i) (pf (k * 3 + 2)) (nI j)))), (7, .int (nI j)), (5, .int ((amnG nI (fun t => mal (orF (fun i => allB (mB mf (nI k) (nI i)) mn) 6) (fun i => bl (nI i) (pf (k * 3 + 2)) (nI t))) (-1, bc (orF (fun i => allB (mB mf (nI k) (nI i)) mn) 6) + 1) j).1)), (4, .int (pf (k * 3 + 2))), (3, .int (orF (fun i => allB (mB mf (nI k) (nI i)) mn) 6)), (0, .ref o_), (1, .ref v), (2, .int (nI k))]) hx hb dX1_askingHour_65 hl (by decide) rfl ?_
            clear hl ls; intro ls hl
            refine lv_iload hx hb dX1_askingHour_67 (lv_at hl 2 rfl) ?_
            refine lv_istore (lv' := [(5, .int (nI j)), (6, .int (mal (orF (fun i => allB (mB mf (nI k) (nI i)) mn) 6) (fun i => bl (nI i) (pf (k * 3 + 2)) (nI j)))), (8, .int (mal (orF (fun i => allB (mB mf (nI k) (nI i)) mn) 6) (fun i => bl (nI i) (pf (k * 3 + 2)) (nI j)))), (7, .int (nI j)), (4, .int (pf (k * 3 + 2))), (3, .int (orF (fun i => allB (mB mf (nI k) (nI i)) mn) 6)), (0, .ref o_), (1, .ref v), (2, .int (nI k))]) hx hb dX1_askingHour_69 hl (by decide) rfl ?_
            clear hl ls; intro ls hl
            exact J_350 (nI j) (by first | rfl | (simp only [c_347, if_true, if_false, reduceIte]; done) | (simp [c_347]; done)) (mal (orF (fun i => allB (mB mf (nI k) (nI i)) mn) 6) (fun i => bl (nI i) (pf (k * 3 + 2)) (nI j))) (by first | rfl | (simp only [c_347, if_true, if_false, reduceIte]; done) | (simp [c_347]; done)) _ _ _ hW (lv_sub hl [0, 1, 2, 3, 4, 5, 6, 7, 8] rfl)
  exact K_339 _ 0 0 ((bc (orF (fun i => allB (mB mf (nI k) (nI i)) mn) 6)) + 1) (-1) ms (by first | rfl | assumption | omega | exact nI_1 _ | (simp; done)) (by first | rfl | assumption | omega | exact nI_1 _ | (simp; done)) (by first | rfl | assumption | omega | exact nI_1 _ | (simp; done)) (by first | rfl | assumption | omega | exact nI_1 _ | (simp; done)) (Nat.lt_succ_self _) _ _ _ hW (lv_sub hl [0, 1, 2, 3, 4, 5, 6, 7] rfl)
