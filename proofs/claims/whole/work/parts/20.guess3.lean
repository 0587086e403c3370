set_option maxHeartbeats 4000000 in
set_option maxRecDepth 100000 in
theorem c_X1_nextLook (l : Launch) (G : gT) (o_ om : Nat) (ms : Nat → Int32) (v vw vc vp vs vn vm vu : Nat) (wide : Int32) (ck : Nat → Int32) (vnc nn : Nat) (nf : Nat → Int32) (ho : nn ≤ 6) (hO : okN nn nf) (hg : Rg (ck 1) 1 9) : MI l G yX1_nextLook cX1_nextLook 9 .int ({ frames := 4, cells := 0, slots := 0, locals := 84 }) [.ref o_, .ref v] [(o_, .inr (0, [.ref om])), (om, .inl (G.2.1, 6, .inl ms)), (v, .inr (7, [.int wide, .ref vw, .ref vc, .ref vp, .ref vs, .ref vn, .ref vm, .ref vu])), (vc, .inl (G.2.1, 7, .inl ck)), (vn, .inr (4, [.int 6, .int 4, .ref vnc, .int (nI nn)])), (vnc, .inl (G.2.1, 24, .inl nf))] (fun (r : Int32) w1 => ∃ u_ : Nat → Int32, (r = (lookC (fun a b => nI (10 * a + b)) (fun a b => mal (orF (fun i => allB (nB nf (nI i)) nn) 6) (fun i => fl (nI i) (ck 1) (nI a) (nI b - 4))) (-1, bc (orF (fun i => allB (nB nf (nI i)) nn) 6) + 1) 31).1) ∧ w1 = [(o_, .inr (0, [.ref om])), (om, .inl (G.2.1, 6, .inl u_)), (v, .inr (7, [.int wide, .ref vw, .ref vc, .ref vp, .ref vs, .ref vn, .ref vm, .ref vu])), (vc, .inl (G.2.1, 7, .inl ck)), (vn, .inr (4, [.int 6, .int 4, .ref vnc, .int (nI nn)])), (vnc, .inl (G.2.1, 24, .inl nf))]) := by
  refine MI.mk (by decide) (Nat.le_of_ble_eq_true rfl) ?_
  intro p_ e_ s_ m_ ar_ be_ me_ cd_ A_ ls C hrt hW hl
  have hx := C.1; have hb := C.2.1; have hown := C.2.2.2.1; have ht := C.2.2.2.2.1
  replace hl : lv_has ls 9 [(0, .ref o_), (1, .ref v)] := hl
  generalize hQ : MQ be_ _ ar_ s_ 0 0 A_ = Q
  refine lv_aload_n hx hb dX1_nextLook_0 rfl (lv_at hl 0 rfl) ?_
  refine lv_aload_n hx hb dX1_nextLook_1 rfl (lv_at hl 1 rfl) ?_
  refine g_fi C hW [0, 2, 4, 5] rfl (g_runV (As := [.ref v]) (rest := []) (wc := [(o_, .inr (0, [.ref om])), (v, .inr (7, [.int wide, .ref vw, .ref vc, .ref vp, .ref vs, .ref vn, .ref vm, .ref vu])), (vn, .inr (4, [.int 6, .int 4, .ref vnc, .int (nI nn)])), (vnc, .inl (G.2.1, 24, .inl nf))]) (q0 := 0) (ci := 0) C hW hl (c_X1_cockKinds l G o_ om v vw vc vp vs vn vm vu wide vnc nn nf (by first | assumption | omega) (by assumption) _) k_ml_X1_41 q_X1_cockKinds (by decide) [0, 2, 4, 5] rfl rfl rfl rfl rfl rfl (Nat.le_of_ble_eq_true rfl) dX1_nextLook_2 (by decide)) (fun r_351 er_351 => ?_)
  clear hW; intro H locs hW
  subst er_351
  refine lv_istore_n (lv' := [(2, .int (orF (fun i => allB (nB nf (nI i)) nn) 6)), (0, .ref o_), (1, .ref v)]) hx hb dX1_nextLook_5 rfl hl (by decide) rfl ?_
  clear hl ls; intro ls hl
  refine lv_aload_n hx hb dX1_nextLook_6 rfl (lv_at hl 2 rfl) ?_
  refine g_getN (k := 2) (v := .ref vc) (host := RX10) C hW 2 rfl rfl jnX9 (by decide) (List.mem_of_getElem? (i := 3) rfl) rfl dX1_nextLook_7 ?_
  refine lv_iconst (v := 1) hx hb dX1_nextLook_10 (by decide) ?_
  refine g_ald C hW 3 rfl (vp_in_nI (n := 1) (by omega) (by omega)) dX1_nextLook_11 ?_
  refine lv_as (y := ck 1) (rfl) ?_
  refine lv_istore_n (lv' := [(3, .int (ck 1)), (2, .int (orF (fun i => allB (nB nf (nI i)) nn) 6)), (0, .ref o_), (1, .ref v)]) hx hb dX1_nextLook_12 rfl hl (by decide) rfl ?_
  clear hl ls; intro ls hl
  refine lv_iconst (v := (-1)) hx hb dX1_nextLook_13 (by decide) ?_
  refine lv_istore (lv' := [(4, .int (-1)), (3, .int (ck 1)), (2, .int (orF (fun i => allB (nB nf (nI i)) nn) 6)), (0, .ref o_), (1, .ref v)]) hx hb dX1_nextLook_14 hl (by decide) rfl ?_
  clear hl ls; intro ls hl
  refine lv_iload_n hx hb dX1_nextLook_16 rfl (lv_at hl 2 rfl) ?_
  refine g_fi C hW [] rfl (g_runS (As := [.int (orF (fun i => allB (nB nf (nI i)) nn) 6)]) (rest := []) (wc := []) C hW hl (c_J6_bitCount_0f7a4 l G (orF (fun i => allB (nB nf (nI i)) nn) 6)  _) k_ml_X1_23 q_J6_bitCount_0f7a4 (by decide) [] rfl rfl rfl rfl (Nat.le_of_ble_eq_true rfl) dX1_nextLook_17 (by decide)) (fun r_352 er_352 => ?_)
  clear hW H locs; intro H locs hW
  subst er_352
  refine lv_iconst (v := 1) hx hb dX1_nextLook_20 (by decide) ?_
  refine lv_iadd hx hb dX1_nextLook_21 ?_
  refine lv_istore (lv' := [(5, .int ((bc (orF (fun i => allB (nB nf (nI i)) nn) 6)) + 1)), (4, .int (-1)), (3, .int (ck 1)), (2, .int (orF (fun i => allB (nB nf (nI i)) nn) 6)), (0, .ref o_), (1, .ref v)]) hx hb dX1_nextLook_22 hl (by decide) rfl ?_
  clear hl ls; intro ls hl
  refine lv_iconst (v := 0) hx hb dX1_nextLook_24 (by decide) ?_
  refine lv_istore (lv' := [(6, .int 0), (5, .int ((bc (orF (fun i => allB (nB nf (nI i)) nn) 6)) + 1)), (4, .int (-1)), (3, .int (ck 1)), (2, .int (orF (fun i => allB (nB nf (nI i)) nn) 6)), (0, .ref o_), (1, .ref v)]) hx hb dX1_nextLook_25 hl (by decide) rfl ?_
  clear hl ls; intro ls hl
  have K_353 : ∀ (n_ : Nat) (xx : Nat) (x_354 : Int32) (x_355 : Int32) (x_356 : Int32) (mz : Nat → Int32) (_ : x_354 = nI xx) (_ : x_355 = (lookC (fun a b => nI (10 * a + b)) (fun a b => mal (orF (fun i => allB (nB nf (nI i)) nn) 6) (fun i => fl (nI i) (ck 1) (nI a) (nI b - 4))) (-1, bc (orF (fun i => allB (nB nf (nI i)) nn) 6) + 1) xx).2) (_ : x_356 = (lookC (fun a b => nI (10 * a + b)) (fun a b => mal (orF (fun i => allB (nB nf (nI i)) nn) 6) (fun i => fl (nI i) (ck 1) (nI a) (nI b - 4))) (-1, bc (orF (fun i => allB (nB nf (nI i)) nn) 6) + 1) xx).1) (_ : xx ≤ 31) (_ : 31 - xx < n_) (H : Heap) (locs : List Loc) (ls : Array Slot), Wd G A_ s_.heap [(o_, .inr (0, [.ref om])), (om, .inl (G.2.1, 6, .inl mz)), (v, .inr (7, [.int wide, .ref vw, .ref vc, .ref vp, .ref vs, .ref vn, .ref vm, .ref vu])), (vc, .inl (G.2.1, 7, .inl ck)), (vn, .inr (4, [.int 6, .int 4, .ref vnc, .int (nI nn)])), (vnc, .inl (G.2.1, 24, .inl nf))] H locs → lv_has ls 9 [(6, .int x_354), (5, .int x_355), (4, .int x_356), (3, .int (ck 1)), (2, .int (orF (fun i => allB (nB nf (nI i)) nn) 6)), (0, .ref o_), (1, .ref v)] → W p_ l e_ ({ frames := 4, cells := 0, slots := 0, locals := 84 }) s_ m_ ar_ be_ me_ cd_ H locs 0 0 Q (F0 m_ 27 ls []) := by
    intro n_
    induction n_ with
    | zero => intro xx x_354 x_355 x_356 mz ex_354 ex_355 ex_356 hx9 hm_; exact absurd hm_ (Nat.not_lt_zero _)
    | succ n_ ihK_353 =>
      intro xx x_354 x_355 x_356 mz ex_354 ex_355 ex_356 hx9 hm_ H locs ls hW hl
      subst ex_354
      subst ex_355
      subst ex_356
      refine lv_iload hx hb dX1_nextLook_27 (lv_at hl 0 rfl) ?_
      refine lv_bipush (v := 30) hx hb dX1_nextLook_29 (by decide) ?_
      refine lv_icmp_gt (tgt := 97) hx hb dX1_nextLook_31 (by decide) (fun c_357 => ?_) (fun c_357 => ?_)
      · replace c_357 := Int32.not_le.mpr c_357
        have c_357n : ¬ xx ≤ 30 := fun q => c_357 ((nI_leI (a := xx) (b := 30) (by omega) (by omega)).mpr q)
        refine lv_iload hx hb dX1_nextLook_97 (lv_at hl 2 rfl) ?_
        subst hQ
        exact g_iret (v := ((lookC (fun a b => nI (10 * a + b)) (fun a b => mal (orF (fun i => allB (nB nf (nI i)) nn) 6) (fun i => fl (nI i) (ck 1) (nI a) (nI b - 4))) (-1, bc (orF (fun i => allB (nB nf (nI i)) nn) 6) + 1) xx).1)) C hW hrt ⟨mz, by (first | (rw [show xx = 31 by omega]; done) | (rw [show (31 : Nat) = xx + (31 - xx) by omega, lookC_stop c_357])), by rfl⟩ dX1_nextLook_99
      · replace c_357 := Int32.not_lt.mp c_357
        have c_357n : xx ≤ 30 := (nI_leI (a := xx) (b := 30) (by omega) (by omega)).mp c_357
        refine lv_iload hx hb dX1_nextLook_34 (lv_at hl 1 rfl) ?_
        refine lv_iconst (v := 1) hx hb dX1_nextLook_36 (by decide) ?_
        refine lv_icmp_le (tgt := 97) hx hb dX1_nextLook_37 (by decide) (fun c_358 => ?_) (fun c_358 => ?_)
        · replace c_358 := Int32.not_lt.mpr c_358
          refine lv_iload hx hb dX1_nextLook_97 (lv_at hl 2 rfl) ?_
          subst hQ
          exact g_iret (v := ((lookC (fun a b => nI (10 * a + b)) (fun a b => mal (orF (fun i => allB (nB nf (nI i)) nn) 6) (fun i => fl (nI i) (ck 1) (nI a) (nI b - 4))) (-1, bc (orF (fun i => allB (nB nf (nI i)) nn) 6) + 1) xx).1)) C hW hrt ⟨mz, by (first | (rw [show xx = 31 by omega]; done) | (rw [show (31 : Nat) = xx + (31 - xx) by omega, lookC_stop c_358])), by rfl⟩ dX1_nextLook_99
        · replace c_358 := Int32.not_le.mp c_358
          have hgo := c_358
          refine lv_bipush (v := (-4)) hx hb dX1_nextLook_40 (by decide) ?_
          refine lv_istore (lv' := [(7, .int (-4)), (6, .int (nI xx)), (5, .int ((lookC (fun a b => nI (10 * a + b)) (fun a b => mal (orF (fun i => allB (nB nf (nI i)) nn) 6) (fun i => fl (nI i) (ck 1) (nI a) (nI b - 4))) (-1, bc (orF (fun i => allB (nB nf (nI i)) nn) 6) + 1) xx).2)), (4, .int ((lookC (fun a b => nI (10 * a + b)) (fun a b => mal (orF (fun i => allB (nB nf (nI i)) nn) 6) (fun i => fl (nI i) (ck 1) (nI a) (nI b - 4))) (-1, bc (orF (fun i => allB (nB nf (nI i)) nn) 6) + 1) xx).1)), (3, .int (ck 1)), (2, .int (orF (fun i => allB (nB nf (nI i)) nn) 6)), (0, .ref o_), (1, .ref v)]) hx hb dX1_nextLook_42 hl (by decide) rfl ?_
          clear hl ls; intro ls hl
          have K_359 : ∀ (n_ : Nat) (yy : Nat) (x_360 : Int32) (x_361 : Int32) (x_362 : Int32) (my : Nat → Int32) (_ : x_360 = nI yy - 4) (_ : x_361 = (amnF (fun b => nI (10 * xx + b)) (fun b => mal (orF (fun i => allB (nB nf (nI i)) nn) 6) (fun i => fl (nI i) (ck 1) (nI xx) (nI b - 4))) (lookC (fun a b => nI (10 * a + b)) (fun a b => mal (orF (fun i => allB (nB nf (nI i)) nn) 6) (fun i => fl (nI i) (ck 1) (nI a) (nI b - 4))) (-1, bc (orF (fun i => allB (nB nf (nI i)) nn) 6) + 1) xx) yy).2) (_ : x_362 = (amnF (fun b => nI (10 * xx + b)) (fun b => mal (orF (fun i => allB (nB nf (nI i)) nn) 6) (fun i => fl (nI i) (ck 1) (nI xx) (nI b - 4))) (lookC (fun a b => nI (10 * a + b)) (fun a b => mal (orF (fun i => allB (nB nf (nI i)) nn) 6) (fun i => fl (nI i) (ck 1) (nI a) (nI b - 4))) (-1, bc (orF (fun i => allB (nB nf (nI i)) nn) 6) + 1) xx) yy).1) (_ : yy ≤ 9) (_ : 9 - yy < n_) (H : Heap) (locs : List Loc) (ls : Array Slot), Wd G A_ s_.heap [(o_, .inr (0, [.ref om])), (om, .inl (G.2.1, 6, .inl my)), (v, .inr (7, [.int wide, .ref vw, .ref vc, .ref vp, .ref vs, .ref vn, .ref vm, .ref vu])), (vc, .inl (G.2.1, 7, .inl ck)), (vn, .inr (4, [.int 6, .int 4, .ref vnc, .int (nI nn)])), (vnc, .inl (G.2.1, 24, .inl nf))] H locs → lv_has ls 9 [(7, .int x_360), (6, .int (nI xx)), (5, .int x_361), (4, .int x_362), (3, .int (ck 1)), (2, .int (orF (fun i => allB (nB nf (nI i)) nn) 6)), (0, .ref o_), (1, .ref v)] → W p_ l e_ ({ frames := 4, cells := 0, slots := 0, locals := 84 }) s_ m_ ar_ be_ me_ cd_ H locs 0 0 Q (F0 m_ 44 ls []) := by
            intro n_
            induction n_ with
            | zero => intro yy x_360 x_361 x_362 my ex_360 ex_361 ex_362 hy9 hm_; exact absurd hm_ (Nat.not_lt_zero _)
            | succ n_ ihK_359 =>
              intro yy x_360 x_361 x_362 my ex_360 ex_361 ex_362 hy9 hm_ H locs ls hW hl
              subst ex_360
              subst ex_361
              subst ex_362
              refine lv_iload hx hb dX1_nextLook_44 (lv_at hl 0 rfl) ?_
              refine lv_iconst (v := 4) hx hb dX1_nextLook_46 (by decide) ?_
              refine lv_icmp_gt (tgt := 91) hx hb dX1_nextLook_47 (by decide) (fun c_363 => ?_) (fun c_363 => ?_)
              · replace c_363 := Int32.not_le.mpr c_363
                have hy8 : ¬ yy < 9 := fun q => c_363 ((look_le hy9).mpr q)
                obtain rfl : yy = 9 := by omega
                refine lv_iinc (v := (nI xx) + 1) (lv' := [(6, .int ((nI xx) + 1)), (7, .int (nI 9 - 4)), (5, .int ((amnF (fun b => nI (10 * xx + b)) (fun b => mal (orF (fun i => allB (nB nf (nI i)) nn) 6) (fun i => fl (nI i) (ck 1) (nI xx) (nI b - 4))) (lookC (fun a b => nI (10 * a + b)) (fun a b => mal (orF (fun i => allB (nB nf (nI i)) nn) 6) (fun i => fl (nI i) (ck 1) (nI a) (nI b - 4))) (-1, bc (orF (fun i => allB (nB nf (nI i)) nn) 6) + 1) xx) 9).2)), (4, .int ((amnF (fun b => nI (10 * xx + b)) (fun b => mal (orF (fun i => allB (nB nf (nI i)) nn) 6) (fun i => fl (nI i) (ck 1) (nI xx) (nI b - 4))) (lookC (fun a b => nI (10 * a + b)) (fun a b => mal (orF (fun i => allB (nB nf (nI i)) nn) 6) (fun i => fl (nI i) (ck 1) (nI a) (nI b - 4))) (-1, bc (orF (fun i => allB (nB nf (nI i)) nn) 6) + 1) xx) 9).1)), (3, .int (ck 1)), (2, .int (orF (fun i => allB (nB nf (nI i)) nn) 6)), (0, .ref o_), (1, .ref v)]) hx hb dX1_nextLook_91 hl (k := 1) rfl rfl (by decide) rfl ?_
                clear hl ls; intro ls hl
                refine lv_goto (tgt := 27) hx hb dX1_nextLook_94 (by decide) ?_
                exact ihK_353 (xx + 1) ((nI xx) + 1) ((amnF (fun b => nI (10 * xx + b)) (fun b => mal (orF (fun i => allB (nB nf (nI i)) nn) 6) (fun i => fl (nI i) (ck 1) (nI xx) (nI b - 4))) (lookC (fun a b => nI (10 * a + b)) (fun a b => mal (orF (fun i => allB (nB nf (nI i)) nn) 6) (fun i => fl (nI i) (ck 1) (nI a) (nI b - 4))) (-1, bc (orF (fun i => allB (nB nf (nI i)) nn) 6) + 1) xx) 9).2) ((amnF (fun b => nI (10 * xx + b)) (fun b => mal (orF (fun i => allB (nB nf (nI i)) nn) 6) (fun i => fl (nI i) (ck 1) (nI xx) (nI b - 4))) (lookC (fun a b => nI (10 * a + b)) (fun a b => mal (orF (fun i => allB (nB nf (nI i)) nn) 6) (fun i => fl (nI i) (ck 1) (nI a) (nI b - 4))) (-1, bc (orF (fun i => allB (nB nf (nI i)) nn) 6) + 1) xx) 9).1) my (by first | rfl | assumption | omega | exact nI_1 _ | (simp; done)) (by (rw [lookC, if_pos hgo])) (by (rw [lookC, if_pos hgo])) (by first | rfl | assumption | omega | exact nI_1 _ | (simp; done)) (by omega) _ _ _ hW (lv_sub hl [0, 2, 3, 4, 5, 6, 7] rfl)
              · replace c_363 := Int32.not_lt.mp c_363
                have hy8 := (look_le hy9).mp c_363
                refine lv_aload_n hx hb dX1_nextLook_50 rfl (lv_at hl 6 rfl) ?_
                refine lv_iload_n hx hb dX1_nextLook_51 rfl (lv_at hl 5 rfl) ?_
                refine lv_iload_n hx hb dX1_nextLook_52 rfl (lv_at hl 4 rfl) ?_
                refine lv_iload hx hb dX1_nextLook_53 (lv_at hl 1 rfl) ?_
                refine lv_iload hx hb dX1_nextLook_55 (lv_at hl 0 rfl) ?_
                refine g_fiw (wr := [(v, .inr (7, [.int wide, .ref vw, .ref vc, .ref vp, .ref vs, .ref vn, .ref vm, .ref vu])), (vc, .inl (G.2.1, 7, .inl ck)), (vn, .inr (4, [.int 6, .int 4, .ref vnc, .int (nI nn)])), (vnc, .inl (G.2.1, 24, .inl nf))]) (ww := fun (u_ : Unit) => [(o_, .inr (0, [.ref om])), (om, .inl (G.2.1, 6, .inl (fun i => if i < 6 then fl (nI i) (ck 1) (nI xx) (nI yy - 4) else my i)))]) (w2 := fun (u_ : Unit) => [(o_, .inr (0, [.ref om])), (om, .inl (G.2.1, 6, .inl (fun i => if i < 6 then fl (nI i) (ck 1) (nI xx) (nI yy - 4) else my i))), (v, .inr (7, [.int wide, .ref vw, .ref vc, .ref vp, .ref vs, .ref vn, .ref vm, .ref vu])), (vc, .inl (G.2.1, 7, .inl ck)), (vn, .inr (4, [.int 6, .int 4, .ref vnc, .int (nI nn)])), (vnc, .inl (G.2.1, 24, .inl nf))]) C hW [0, 1] [2, 3, 4, 5] [4, 5, 0, 1, 2, 3] rfl rfl (by decide) (by decide) (by decide) (fun _ => rfl) (g_runV (As := [.int (orF (fun i => allB (nB nf (nI i)) nn) 6), .int (ck 1), .int (nI xx), .int (nI yy - 4)]) (rest := []) (wc := [(o_, .inr (0, [.ref om])), (om, .inl (G.2.1, 6, .inl my))]) (q0 := 0) (ci := 0) C hW hl (c_X1_mostAsFar l G o_ om my (orF (fun i => allB (nB nf (nI i)) nn) 6) (ck 1) (nI xx) (nI yy - 4) (by exact hg) (by exact Rg_nI (by omega) (by omega) (by omega)) (by exact look_rg (by omega)) _) k_ml_X1_48 q_X1_mostAsFar (by decide) [0, 1] rfl rfl rfl rfl rfl rfl (Nat.le_of_ble_eq_true rfl) dX1_nextLook_57 (by decide)) (fun r_366 _ er_366 => ?_)
                clear hW H locs; intro H locs hW
                subst er_366
                replace hW : Wd G A_ s_.heap [(o_, .inr (0, [.ref om])), (om, .inl (G.2.1, 6, .inl (fun i => if i < 6 then fl (nI i) (ck 1) (nI xx) (nI yy - 4) else my i))), (v, .inr (7, [.int wide, .ref vw, .ref vc, .ref vp, .ref vs, .ref vn, .ref vm, .ref vu])), (vc, .inl (G.2.1, 7, .inl ck)), (vn, .inr (4, [.int 6, .int 4, .ref vnc, .int (nI nn)])), (vnc, .inl (G.2.1, 24, .inl nf))] H locs := hW
                refine lv_istore (lv' := [(8, .int (mal (orF (fun i => allB (nB nf (nI i)) nn) 6) (fun i => fl (nI i) (ck 1) (nI xx) (nI yy - 4)))), (7, .int (nI yy - 4)), (6, .int (nI xx)), (5, .int ((amnF (fun b => nI (10 * xx + b)) (fun b => mal (orF (fun i => allB (nB nf (nI i)) nn) 6) (fun i => fl (nI i) (ck 1) (nI xx) (nI b - 4))) (lookC (fun a b => nI (10 * a + b)) (fun a b => mal (orF (fun i => allB (nB nf (nI i)) nn) 6) (fun i => fl (nI i) (ck 1) (nI a) (nI b - 4))) (-1, bc (orF (fun i => allB (nB nf (nI i)) nn) 6) + 1) xx) yy).2)), (4, .int ((amnF (fun b => nI (10 * xx + b)) (fun b => mal (orF (fun i => allB (nB nf (nI i)) nn) 6) (fun i => fl (nI i) (ck 1) (nI xx) (nI b - 4))) (lookC (fun a b => nI (10 * a + b)) (fun a b => mal (orF (fun i => allB (nB nf (nI i)) nn) 6) (fun i => fl (nI i) (ck 1) (nI a) (nI b - 4))) (-1, bc (orF (fun i => allB (nB nf (nI i)) nn) 6) + 1) xx) yy).1)), (3, .int (ck 1)), (2, .int (orF (fun i => allB (nB nf (nI i)) nn) 6)), (0, .ref o_), (1, .ref v)]) hx hb dX1_nextLook_60 hl (by decide) rfl ?_
                clear hl ls; intro ls hl
                refine lv_iload hx hb dX1_nextLook_62 (lv_at hl 0 rfl) ?_
                refine lv_iload hx hb dX1_nextLook_64 (lv_at hl 3 rfl) ?_
                have J_371 : ∀ (x_369 : Int32) (_ : x_369 = (if (mal (orF (fun i => allB (nB nf (nI i)) nn) 6) (fun i => fl (nI i) (ck 1) (nI xx) (nI yy - 4))) < ((amnF (fun b => nI (10 * xx + b)) (fun b => mal (orF (fun i => allB (nB nf (nI i)) nn) 6) (fun i => fl (nI i) (ck 1) (nI xx) (nI b - 4))) (lookC (fun a b => nI (10 * a + b)) (fun a b => mal (orF (fun i => allB (nB nf (nI i)) nn) 6) (fun i => fl (nI i) (ck 1) (nI a) (nI b - 4))) (-1, bc (orF (fun i => allB (nB nf (nI i)) nn) 6) + 1) xx) yy).2) then ((10 * (nI xx)) + (nI yy - 4)) + 4 else (amnF (fun b => nI (10 * xx + b)) (fun b => mal (orF (fun i => allB (nB nf (nI i)) nn) 6) (fun i => fl (nI i) (ck 1) (nI xx) (nI b - 4))) (lookC (fun a b => nI (10 * a + b)) (fun a b => mal (orF (fun i => allB (nB nf (nI i)) nn) 6) (fun i => fl (nI i) (ck 1) (nI a) (nI b - 4))) (-1, bc (orF (fun i => allB (nB nf (nI i)) nn) 6) + 1) xx) yy).1)) (x_370 : Int32) (_ : x_370 = (if (mal (orF (fun i => allB (nB nf (nI i)) nn) 6) (fun i => fl (nI i) (ck 1) (nI xx) (nI yy - 4))) < ((amnF (fun b => nI (10 * xx + b)) (fun b => mal (orF (fun i => allB (nB nf (nI i)) nn) 6) (fun i => fl (nI i) (ck 1) (nI xx) (nI b - 4))) (lookC (fun a b => nI (10 * a + b)) (fun a b => mal (orF (fun i => allB (nB nf (nI i)) nn) 6) (fun i => fl (nI i) (ck 1) (nI a) (nI b - 4))) (-1, bc (orF (fun i => allB (nB nf (nI i)) nn) 6) + 1) xx) yy).2) then mal (orF (fun i => allB (nB nf (nI i)) nn) 6) (fun i => fl (nI i) (ck 1) (nI xx) (nI yy - 4)) else (amnF (fun b => nI (10 * xx + b)) (fun b => mal (orF (fun i => allB (nB nf (nI i)) nn) 6) (fun i => fl (nI i) (ck 1) (nI xx) (nI b - 4))) (lookC (fun a b => nI (10 * a + b)) (fun a b => mal (orF (fun i => allB (nB nf (nI i)) nn) 6) (fun i => fl (nI i) (ck 1) (nI a) (nI b - 4))) (-1, bc (orF (fun i => allB (nB nf (nI i)) nn) 6) + 1) xx) yy).2)), ∀ (H : Heap) (locs : List Loc) (ls : Array Slot), Wd G A_ s_.heap [(o_, .inr (0, [.ref om])), (om, .inl (G.2.1, 6, .inl (fun i => if i < 6 then fl (nI i) (ck 1) (nI xx) (nI yy - 4) else my i))), (v, .inr (7, [.int wide, .ref vw, .ref vc, .ref vp, .ref vs, .ref vn, .ref vm, .ref vu])), (vc, .inl (G.2.1, 7, .inl ck)), (vn, .inr (4, [.int 6, .int 4, .ref vnc, .int (nI nn)])), (vnc, .inl (G.2.1, 24, .inl nf))] H locs → lv_has ls 9 [(4, .int x_369), (5, .int x_370), (8, .int (mal (orF (fun i => allB (nB nf (nI i)) nn) 6) (fun i => fl (nI i) (ck 1) (nI xx) (nI yy - 4)))), (7, .int (nI yy - 4)), (6, .int (nI xx)), (3, .int (ck 1)), (2, .int (orF (fun i => allB (nB nf (nI i)) nn) 6)), (0, .ref o_), (1, .ref v)] → W p_ l e_ ({ frames := 4, cells := 0, slots := 0, locals := 84 }) s_ m_ ar_ be_ me_ cd_ H locs 0 0 Q (F0 m_ 85 ls []) := by
                  intro x_369 ex_369 x_370 ex_370 H locs ls hW hl
                  refine lv_iinc (v := (nI yy - 4) + 1) (lv' := [(7, .int ((nI yy - 4) + 1)), (4, .int x_369), (5, .int x_370), (8, .int (mal (orF (fun i => allB (nB nf (nI i)) nn) 6) (fun i => fl (nI i) (ck 1) (nI xx) (nI yy - 4)))), (6, .int (nI xx)), (3, .int (ck 1)), (2, .int (orF (fun i => allB (nB nf (nI i)) nn) 6)), (0, .ref o_), (1, .ref v)]) hx hb dX1_nextLook_85 hl (k := 3) rfl rfl (by decide) rfl ?_
                  clear hl ls; intro ls hl
                  refine lv_goto (tgt := 44) hx hb dX1_nextLook_88 (by decide) ?_
                  exact ihK_359 (yy + 1) ((nI yy - 4) + 1) x_370 x_369 (fun i => if i < 6 then fl (nI i) (ck 1) (nI xx) (nI yy - 4) else my i) (by exact look_w yy) (by (simp only [ex_369, ex_370, amnF, look_v]; exact af_2)) (by (simp only [ex_369, ex_370, amnF, look_v]; exact af_1)) (by first | rfl | assumption | omega | exact nI_1 _ | (simp; done)) (by omega) _ _ _ hW (lv_sub hl [0, 4, 2, 1, 5, 6, 7, 8] rfl)
                refine lv_icmp_ge (tgt := 85) hx hb dX1_nextLook_66 (by decide) (fun c_368 => ?_) (fun c_368 => ?_)
                · replace c_368 := Int32.not_lt.mpr c_368
                  exact J_371 ((amnF (fun b => nI (10 * xx + b)) (fun b => mal (orF (fun i => allB (nB nf (nI i)) nn) 6) (fun i => fl (nI i) (ck 1) (nI xx) (nI b - 4))) (lookC (fun a b => nI (10 * a + b)) (fun a b => mal (orF (fun i => allB (nB nf (nI i)) nn) 6) (fun i => fl (nI i) (ck 1) (nI a) (nI b - 4))) (-1, bc (orF (fun i => allB (nB nf (nI i)) nn) 6) + 1) xx) yy).1) (by first | rfl | (simp only [c_368, if_true, if_false, reduceIte]; done) | (simp [c_368]; done)) ((amnF (fun b => nI (10 * xx + b)) (fun b => mal (orF (fun i => allB (nB nf (nI i)) nn) 6) (fun i => fl (nI i) (ck 1) (nI xx) (nI b - 4))) (lookC (fun a b => nI (10 * a + b)) (fun a b => mal (orF (fun i => allB (nB nf (nI i)) nn) 6) (fun i => fl (nI i) (ck 1) (nI a) (nI b - 4))) (-1, bc (orF (fun i => allB (nB nf (nI i)) nn) 6) + 1) xx) yy).2) (by first | rfl | (simp only [c_368, if_true, if_false, reduceIte]; done) | (simp [c_368]; done)) _ _ _ hW (lv_sub hl [4, 3, 0, 1, 2, 5, 6, 7, 8] rfl)
                · replace c_368 := Int32.not_le.mp c_368
                  refine lv_iload hx hb dX1_nextLook_69 (lv_at hl 0 rfl) ?_
                  refine lv_istore (lv' := [(5, .int (mal (orF (fun i => allB (nB nf (nI i)) nn) 6) (fun i => fl (nI i) (ck 1) (nI xx) (nI yy - 4)))), (8, .int (mal (orF (fun i => allB (nB nf (nI i)) nn) 6) (fun i => fl (nI i) (ck 1) (nI xx) (nI yy - 4)))), (7, .int (nI yy - 4)), (6, .int (nI xx)), (4, .int ((amnF (fun b => nI (10 * xx + b)) (fun b => mal (orF (fun i => allB (nB nf (nI i)) nn) 6) (fun i => fl (nI i) (ck 1) (nI xx) (nI b - 4))) (lookC (fun a b => nI (10 * a + b)) (fun a b => mal (orF (fun i => allB (nB nf (nI i)) nn) 6) (fun i => fl (nI i) (ck 1) (nI a) (nI b - 4))) (-1, bc (orF (fun i => allB (nB nf (nI i)) nn) 6) + 1) xx) yy).1)), (3, .int (ck 1)), (2, .int (orF (fun i => allB (nB nf (nI i)) nn) 6)), (0, .ref o_), (1, .ref v)]) hx hb dX1_nextLook_71 hl (by decide) rfl ?_
                  clear hl ls; intro ls hl
                  refine lv_bipush (v := 10) hx hb dX1_nextLook_73 (by decide) ?_
                  refine lv_iload hx hb dX1_nextLook_75 (lv_at hl 3 rfl) ?_
                  refine lv_imul hx hb dX1_nextLook_77 ?_
                  refine lv_iload hx hb dX1_nextLook_78 (lv_at hl 2 rfl) ?_
                  refine lv_iadd hx hb dX1_nextLook_80 ?_
                  refine lv_iconst (v := 4) hx hb dX1_nextLook_81 (by decide) ?_
                  refine lv_iadd hx hb dX1_nextLook_82 ?_
                  refine lv_istore (lv' := [(4, .int (((10 * (nI xx)) + (nI yy - 4)) + 4)), (5, .int (mal (orF (fun i => allB (nB nf (nI i)) nn) 6) (fun i => fl (nI i) (ck 1) (nI xx) (nI yy - 4)))), (8, .int (mal (orF (fun i => allB (nB nf (nI i)) nn) 6) (fun i => fl (nI i) (ck 1) (nI xx) (nI yy - 4)))), (7, .int (nI yy - 4)), (6, .int (nI xx)), (3, .int (ck 1)), (2, .int (orF (fun i => allB (nB nf (nI i)) nn) 6)), (0, .ref o_), (1, .ref v)]) hx hb dX1_nextLook_83 hl (by decide) rfl ?_
                  clear hl ls; intro ls hl
                  exact J_371 (((10 * (nI xx)) + (nI yy - 4)) + 4) (by first | rfl | (simp only [c_368, if_true, if_false, reduceIte]; done) | (simp [c_368]; done)) (mal (orF (fun i => allB (nB nf (nI i)) nn) 6) (fun i => fl (nI i) (ck 1) (nI xx) (nI yy - 4))) (by first | rfl | (simp only [c_368, if_true, if_false, reduceIte]; done) | (simp [c_368]; done)) _ _ _ hW (lv_sub hl [0, 1, 2, 3, 4, 5, 6, 7, 8] rfl)
          exact K_359 _ 0 (-4) ((lookC (fun a b => nI (10 * a + b)) (fun a b => mal (orF (fun i => allB (nB nf (nI i)) nn) 6) (fun i => fl (nI i) (ck 1) (nI a) (nI b - 4))) (-1, bc (orF (fun i => allB (nB nf (nI i)) nn) 6) + 1) xx).2) ((lookC (fun a b => nI (10 * a + b)) (fun a b => mal (orF (fun i => allB (nB nf (nI i)) nn) 6) (fun i => fl (nI i) (ck 1) (nI a) (nI b - 4))) (-1, bc (orF (fun i => allB (nB nf (nI i)) nn) 6) + 1) xx).1) mz (by decide) (by exact rfl) (by exact rfl) (by first | rfl | assumption | omega | exact nI_1 _ | (simp; done)) (Nat.lt_succ_self _) _ _ _ hW (lv_sub hl [0, 1, 2, 3, 4, 5, 6, 7] rfl)
  exact K_353 _ 0 0 ((bc (orF (fun i => allB (nB nf (nI i)) nn) 6)) + 1) (-1) ms (by first | rfl | assumption | omega | exact nI_1 _ | (simp; done)) (by first | rfl | assumption | omega | exact nI_1 _ | (simp; done)) (by first | rfl | assumption | omega | exact nI_1 _ | (simp; done)) (by first | rfl | assumption | omega | exact nI_1 _ | (simp; done)) (Nat.lt_succ_self _) _ _ _ hW (lv_sub hl [0, 1, 2, 3, 4, 5, 6] rfl)
