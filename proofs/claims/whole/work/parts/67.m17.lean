set_option maxHeartbeats 4000000 in
set_option maxRecDepth 100000 in
theorem c_X11_spot (l : Launch) (G : gT) (h9 l9 s9 : Nat)  : MI l G yX11_spot cX11_spot 3 .int ({ frames := 0, cells := 0, slots := 0, locals := 0 }) [.int (nI h9), .int (nI l9), .int (nI s9)] [] (fun (r : Int32) w1 => (r = nI (256 * h9 + 128 * l9 + s9)) ∧ w1 = []) := by
  refine MI.mk (by decide) (Nat.le_of_ble_eq_true rfl) ?_
  intro p_ e_ s_ m_ ar_ be_ me_ cd_ A_ ls C hrt hW hl
  have hx := C.1; have hb := C.2.1; have hown := C.2.2.2.1; have ht := C.2.2.2.2.1
  replace hl : lv_has ls 3 [(0, .int (nI h9)), (1, .int (nI l9)), (2, .int (nI s9))] := hl
  generalize hQ : MQ be_ _ ar_ s_ 0 0 A_ = Q
  refine lv_sipush (v := 256) hx hb dX11_spot_0 (by decide) ?_
  refine lv_iload_n hx hb dX11_spot_3 rfl (lv_at hl 0 rfl) ?_
  refine lv_imul hx hb dX11_spot_4 ?_
  refine lv_sipush (v := 128) hx hb dX11_spot_5 (by decide) ?_
  refine lv_iload_n hx hb dX11_spot_8 rfl (lv_at hl 1 rfl) ?_
  refine lv_imul hx hb dX11_spot_9 ?_
  refine lv_iadd hx hb dX11_spot_10 ?_
  refine lv_iload_n hx hb dX11_spot_11 rfl (lv_at hl 2 rfl) ?_
  refine lv_iadd hx hb dX11_spot_12 ?_
  subst hQ
  exact g_iret (v := (((256 * (nI h9)) + (128 * (nI l9))) + (nI s9))) C hW hrt ⟨by (simp only [nI_lit, pk_mul, nI_add]), rfl⟩ dX11_spot_13
set_option maxHeartbeats 4000000 in
set_option maxRecDepth 100000 in
theorem c_X11_laySoonest (l : Launch) (G : gT) (mo al ke ik rq so ha te bt an vs : Nat) (mab mbe : Int64) (bL tA tL tK tV : Int32) (a : Nat → Int32) (sv : Nat → Int32) (n hr td N : Nat) (e0 : a 0 = nI n) (hn : n ≤ 7) (e12 : a 12 = nI hr) (hh : hr < 10000) (eN : N = 2 ^ n) : MV l G yX11_laySoonest cX11_laySoonest 8 ({ frames := 3, cells := 0, slots := 0, locals := 72 }) [.ref mo, .int (nI td)] [(mo, .inr (9, [.ref al, .ref ke, .ref ik, .ref rq, .long mab, .long mbe, .ref so, .ref ha, .ref te, .ref bt, .int bL, .int tA, .int tL, .int tK, .int tV, .ref an, .ref vs])), (al, .inl (G.2.1, 159, .inl a)), (so, .inl (G.2.1, 5376, .inl sv))] (fun w1 => ∃ u_ : Nat → Int32, (soJ a n hr td u_ 0 0 0) ∧ w1 = [(mo, .inr (9, [.ref al, .ref ke, .ref ik, .ref rq, .long mab, .long mbe, .ref so, .ref ha, .ref te, .ref bt, .int bL, .int tA, .int tL, .int tK, .int tV, .ref an, .ref vs])), (al, .inl (G.2.1, 159, .inl a)), (so, .inl (G.2.1, 5376, .inl u_))]) := by
  refine MV.mk (by decide) (Nat.le_of_ble_eq_true rfl) ?_
  intro p_ e_ s_ m_ ar_ be_ me_ cd_ A_ ls C hrt hW hl
  have hx := C.1; have hb := C.2.1; have hown := C.2.2.2.1; have ht := C.2.2.2.2.1
  replace hl : lv_has ls 8 [(0, .ref mo), (1, .int (nI td))] := hl
  generalize hQ : MQ be_ _ ar_ s_ 0 0 A_ = Q
  have h2n : 1 ≤ N ∧ N ≤ 128 := by rw [eN]; exact pw7 hn
  refine lv_bipush (v := 20) hx hb dX11_laySoonest_0 (by decide) ?_
  refine lv_istore_n (lv' := [(2, .int 20), (0, .ref mo), (1, .int (nI td))]) hx hb dX11_laySoonest_2 rfl hl (by decide) rfl ?_
  clear hl ls; intro ls hl
  have K_2655 : ∀ (n_ : Nat) (tt : Nat) (x_2656 : Int32) (sx : Nat → Int32) (_ : x_2656 = nI tt - 1) (_ : tt ≤ 21) (_ : soJ a n hr td sx tt 0 0) (_ : tt < n_) (H : Heap) (locs : List Loc) (ls : Array Slot), Wd G A_ s_.heap [(mo, .inr (9, [.ref al, .ref ke, .ref ik, .ref rq, .long mab, .long mbe, .ref so, .ref ha, .ref te, .ref bt, .int bL, .int tA, .int tL, .int tK, .int tV, .ref an, .ref vs])), (al, .inl (G.2.1, 159, .inl a)), (so, .inl (G.2.1, 5376, .inl sx))] H locs → lv_has ls 8 [(2, .int x_2656), (0, .ref mo), (1, .int (nI td))] → W p_ l e_ ({ frames := 3, cells := 0, slots := 0, locals := 72 }) s_ m_ ar_ be_ me_ cd_ H locs 0 0 Q (F0 m_ 3 ls []) := by
    intro n_
    induction n_ with
    | zero => intro tt x_2656 sx ex_2656 htt9 hJ hm_; exact absurd hm_ (Nat.not_lt_zero _)
    | succ n_ ihK_2655 =>
      intro tt x_2656 sx ex_2656 htt9 hJ hm_ H locs ls hW hl
      subst ex_2656
      refine lv_iload_n hx hb dX11_laySoonest_3 rfl (lv_at hl 0 rfl) ?_
      refine lv_if_lt (tgt := 205) hx hb dX11_laySoonest_4 (by decide) (fun c_2657 => ?_) (fun c_2657 => ?_)
      · replace c_2657 := Int32.not_le.mpr c_2657
        have ht0 : ¬ 0 < tt := fun q => c_2657 ((m1_ge (by omega)).mpr q)
        subst hQ
        exact g_vret C hW hrt ⟨sx, by (rw [show tt = 0 by omega] at hJ; exact hJ), by rfl⟩ dX11_laySoonest_205
      · replace c_2657 := Int32.not_lt.mp c_2657
        have ht1 : 0 < tt := (m1_ge (by omega)).mp c_2657
        refine lv_iconst (v := 0) hx hb dX11_laySoonest_7 (by decide) ?_
        refine lv_istore_n (lv' := [(3, .int 0), (2, .int (nI tt - 1)), (0, .ref mo), (1, .int (nI td))]) hx hb dX11_laySoonest_8 rfl hl (by decide) rfl ?_
        clear hl ls; intro ls hl
        have K_2658 : ∀ (n_ : Nat) (hl9 : Nat) (x_2659 : Int32) (sx : Nat → Int32) (_ : x_2659 = nI hl9) (_ : hl9 ≤ 2) (_ : soJ a n hr td sx tt hl9 0) (_ : 2 - hl9 < n_) (H : Heap) (locs : List Loc) (ls : Array Slot), Wd G A_ s_.heap [(mo, .inr (9, [.ref al, .ref ke, .ref ik, .ref rq, .long mab, .long mbe, .ref so, .ref ha, .ref te, .ref bt, .int bL, .int tA, .int tL, .int tK, .int tV, .ref an, .ref vs])), (al, .inl (G.2.1, 159, .inl a)), (so, .inl (G.2.1, 5376, .inl sx))] H locs → lv_has ls 8 [(3, .int x_2659), (2, .int (nI tt - 1)), (0, .ref mo), (1, .int (nI td))] → W p_ l e_ ({ frames := 3, cells := 0, slots := 0, locals := 72 }) s_ m_ ar_ be_ me_ cd_ H locs 0 0 Q (F0 m_ 9 ls []) := by
          intro n_
          induction n_ with
          | zero => intro hl9 x_2659 sx ex_2659 hhl hJ hm_; exact absurd hm_ (Nat.not_lt_zero _)
          | succ n_ ihK_2658 =>
            intro hl9 x_2659 sx ex_2659 hhl hJ hm_ H locs ls hW hl
            subst ex_2659
            refine lv_iload_n hx hb dX11_laySoonest_9 rfl (lv_at hl 0 rfl) ?_
            refine lv_iconst (v := 2) hx hb dX11_laySoonest_10 (by decide) ?_
            refine lv_icmp_ge (tgt := 199) hx hb dX11_laySoonest_11 (by decide) (fun c_2660 => ?_) (fun c_2660 => ?_)
            · replace c_2660 := Int32.not_lt.mpr c_2660
              have c_2660n : ¬ hl9 < 2 := fun q => c_2660 ((nI_ltI (a := hl9) (b := 2) (by omega) (by omega)).mpr q)
              refine lv_iinc (v := (nI tt - 1) + (-1)) (lv' := [(2, .int ((nI tt - 1) + (-1))), (3, .int (nI hl9)), (0, .ref mo), (1, .int (nI td))]) hx hb dX11_laySoonest_199 hl (k := 1) rfl rfl (by decide) rfl ?_
              clear hl ls; intro ls hl
              refine lv_goto (tgt := 3) hx hb dX11_laySoonest_202 (by decide) ?_
              exact ihK_2655 (tt - 1) ((nI tt - 1) + (-1)) sx (by exact m1_p ht1) (by first | omega | assumption | (simp; done)) (by exact soJ_tt hJ (by omega)) (by omega) _ _ _ hW (lv_sub hl [0, 2, 3] rfl)
            · replace c_2660 := Int32.not_le.mp c_2660
              have c_2660n : hl9 < 2 := (nI_ltI (a := hl9) (b := 2) (by omega) (by omega)).mp c_2660
              refine lv_iconst (v := 0) hx hb dX11_laySoonest_14 (by decide) ?_
              refine lv_istore (lv' := [(4, .int 0), (3, .int (nI hl9)), (2, .int (nI tt - 1)), (0, .ref mo), (1, .int (nI td))]) hx hb dX11_laySoonest_15 hl (by decide) rfl ?_
              clear hl ls; intro ls hl
              have K_2661 : ∀ (n_ : Nat) (st9 : Nat) (x_2662 : Int32) (sx : Nat → Int32) (_ : x_2662 = nI st9) (_ : st9 ≤ N) (_ : soJ a n hr td sx tt hl9 st9) (_ : N - st9 < n_) (H : Heap) (locs : List Loc) (ls : Array Slot), Wd G A_ s_.heap [(mo, .inr (9, [.ref al, .ref ke, .ref ik, .ref rq, .long mab, .long mbe, .ref so, .ref ha, .ref te, .ref bt, .int bL, .int tA, .int tL, .int tK, .int tV, .ref an, .ref vs])), (al, .inl (G.2.1, 159, .inl a)), (so, .inl (G.2.1, 5376, .inl sx))] H locs → lv_has ls 8 [(4, .int x_2662), (3, .int (nI hl9)), (2, .int (nI tt - 1)), (0, .ref mo), (1, .int (nI td))] → W p_ l e_ ({ frames := 3, cells := 0, slots := 0, locals := 72 }) s_ m_ ar_ be_ me_ cd_ H locs 0 0 Q (F0 m_ 17 ls []) := by
                intro n_
                induction n_ with
                | zero => intro st9 x_2662 sx ex_2662 hst hJ hm_; exact absurd hm_ (Nat.not_lt_zero _)
                | succ n_ ihK_2661 =>
                  intro st9 x_2662 sx ex_2662 hst hJ hm_ H locs ls hW hl
                  subst ex_2662
                  refine lv_iload hx hb dX11_laySoonest_17 (lv_at hl 0 rfl) ?_
                  refine lv_iconst (v := 1) hx hb dX11_laySoonest_19 (by decide) ?_
                  refine lv_aload_n hx hb dX11_laySoonest_20 rfl (lv_at hl 3 rfl) ?_
                  refine g_fi C hW [0, 1] rfl (g_runV (As := []) (rest := [.int 1, .int (nI st9)]) (wc := [(mo, .inr (9, [.ref al, .ref ke, .ref ik, .ref rq, .long mab, .long mbe, .ref so, .ref ha, .ref te, .ref bt, .int bL, .int tA, .int tL, .int tK, .int tV, .ref an, .ref vs])), (al, .inl (G.2.1, 159, .inl a))]) (q0 := 0) (ci := 9) C hW hl (c_X11_many l G mo al ke ik rq so ha te bt an vs mab mbe bL tA tL tK tV a n (by first | assumption | omega) _) k_ml_X11_49 q_X11_many (by decide) [0, 1] rfl rfl rfl rfl rfl rfl (Nat.le_of_ble_eq_true rfl) dX11_laySoonest_21 (by decide)) (fun r_2663 er_2663 => ?_)
                  clear hW H locs; intro H locs hW
                  refine lv_as (y := nI n) er_2663 ?_
                  clear er_2663 r_2663
                  refine lv_ishl hx hb dX11_laySoonest_24 ?_
                  refine lv_as (y := nI N) (by rw [eN]; exact sh1 n (by omega)) ?_
                  refine lv_icmp_ge (tgt := 193) hx hb dX11_laySoonest_25 (by decide) (fun c_2664 => ?_) (fun c_2664 => ?_)
                  · replace c_2664 := Int32.not_lt.mpr c_2664
                    have c_2664n : ¬ st9 < N := fun q => c_2664 ((nI_ltI (a := st9) (b := N) (by omega) (by omega)).mpr q)
                    refine lv_iinc (v := (nI hl9) + 1) (lv' := [(3, .int ((nI hl9) + 1)), (4, .int (nI st9)), (2, .int (nI tt - 1)), (0, .ref mo), (1, .int (nI td))]) hx hb dX11_laySoonest_193 hl (k := 1) rfl rfl (by decide) rfl ?_
                    clear hl ls; intro ls hl
                    refine lv_goto (tgt := 9) hx hb dX11_laySoonest_196 (by decide) ?_
                    exact ihK_2658 (hl9 + 1) ((nI hl9) + 1) sx (by exact nI_1 _) (by first | omega | assumption | (simp; done)) (by exact soJ_hl hJ (by omega)) (by omega) _ _ _ hW (lv_sub hl [0, 2, 3, 4] rfl)
                  · replace c_2664 := Int32.not_le.mp c_2664
                    have c_2664n : st9 < N := (nI_ltI (a := st9) (b := N) (by omega) (by omega)).mp c_2664
                    refine lv_iload_n hx hb dX11_laySoonest_28 rfl (lv_at hl 4 rfl) ?_
                    refine lv_iload hx hb dX11_laySoonest_29 (lv_at hl 0 rfl) ?_
                    refine lv_iconst (v := (-1)) hx hb dX11_laySoonest_31 (by decide) ?_
                    refine lv_ixor hx hb dX11_laySoonest_32 ?_
                    refine lv_iand hx hb dX11_laySoonest_33 ?_
                    have J_2670 : ∀ (y_2669 : Int32) (_ : y_2669 = (if ((nI td) &&& ((nI st9) ^^^ ((-1) : Int32))) = 0 then nI (tt - 1) else (if (nI (tt - 1)) = 20 then 1000000 else sx (256 * tt + 128 * hl9 + st9)))), ∀ (H : Heap) (locs : List Loc) (ls : Array Slot), Wd G A_ s_.heap [(mo, .inr (9, [.ref al, .ref ke, .ref ik, .ref rq, .long mab, .long mbe, .ref so, .ref ha, .ref te, .ref bt, .int bL, .int tA, .int tL, .int tK, .int tV, .ref an, .ref vs])), (al, .inl (G.2.1, 159, .inl a)), (so, .inl (G.2.1, 5376, .inl sx))] H locs → lv_has ls 8 [(4, .int (nI st9)), (3, .int (nI hl9)), (2, .int (nI tt - 1)), (0, .ref mo), (1, .int (nI td))] → W p_ l e_ ({ frames := 3, cells := 0, slots := 0, locals := 72 }) s_ m_ ar_ be_ me_ cd_ H locs 0 0 Q (F0 m_ 66 ls [.int y_2669]) := by
                      intro y_2669 ey_2669 H locs ls hW hl
                      refine lv_istore (lv' := [(5, .int y_2669), (4, .int (nI st9)), (3, .int (nI hl9)), (2, .int (nI tt - 1)), (0, .ref mo), (1, .int (nI td))]) hx hb dX11_laySoonest_66 hl (by decide) rfl ?_
                      clear hl ls; intro ls hl
                      refine lv_iconst (v := 0) hx hb dX11_laySoonest_68 (by decide) ?_
                      refine lv_istore (lv' := [(6, .int 0), (5, .int y_2669), (4, .int (nI st9)), (3, .int (nI hl9)), (2, .int (nI tt - 1)), (0, .ref mo), (1, .int (nI td))]) hx hb dX11_laySoonest_69 hl (by decide) rfl ?_
                      clear hl ls; intro ls hl
                      have K_2671 : ∀  (x_2672 : Int32) (_ : x_2672 = (soD a n hr td (21 - tt) hl9 st9))  (H : Heap) (locs : List Loc) (ls : Array Slot), Wd G A_ s_.heap [(mo, .inr (9, [.ref al, .ref ke, .ref ik, .ref rq, .long mab, .long mbe, .ref so, .ref ha, .ref te, .ref bt, .int bL, .int tA, .int tL, .int tK, .int tV, .ref an, .ref vs])), (al, .inl (G.2.1, 159, .inl a)), (so, .inl (G.2.1, 5376, .inl sx))] H locs → lv_has ls 8 [(5, .int x_2672), (4, .int (nI st9)), (3, .int (nI hl9)), (2, .int (nI tt - 1)), (0, .ref mo), (1, .int (nI td))] → W p_ l e_ ({ frames := 3, cells := 0, slots := 0, locals := 72 }) s_ m_ ar_ be_ me_ cd_ H locs 0 0 Q (F0 m_ 173 ls []) := by
                        intro x_2672 ex_2672 H locs ls hW hl
                        subst ex_2672
                        refine lv_aload_n hx hb dX11_laySoonest_173 rfl (lv_at hl 4 rfl) ?_
                        refine g_get (k := 6) (v := .ref so) C hW 0 rfl rfl jnX11 (by decide) k_fl_X11_27 rfl dX11_laySoonest_174 ?_
                        refine lv_iload_n hx hb dX11_laySoonest_177 rfl (lv_at hl 3 rfl) ?_
                        refine lv_as (y := nI (tt - 1)) (tt_e ht1) ?_
                        refine lv_iload_n hx hb dX11_laySoonest_178 rfl (lv_at hl 2 rfl) ?_
                        refine lv_iload hx hb dX11_laySoonest_179 (lv_at hl 1 rfl) ?_
                        refine g_fi C hW [] rfl (g_runS (As := [.int (nI (tt - 1)), .int (nI hl9), .int (nI st9)]) (rest := [.ref so]) (wc := []) C hW hl (c_X11_spot l G (tt - 1) hl9 st9  _) k_ml_X11_146 q_X11_spot (by decide) [] rfl rfl rfl rfl (Nat.le_of_ble_eq_true rfl) dX11_laySoonest_181 (by decide)) (fun r_2673 er_2673 => ?_)
                        clear hW H locs; intro H locs hW
                        refine lv_as (y := nI (256 * (tt - 1) + 128 * hl9 + st9)) er_2673 ?_
                        clear er_2673 r_2673
                        refine lv_iload hx hb dX11_laySoonest_184 (lv_at hl 0 rfl) ?_
                        refine g_ast (w' := [(mo, .inr (9, [.ref al, .ref ke, .ref ik, .ref rq, .long mab, .long mbe, .ref so, .ref ha, .ref te, .ref bt, .int bL, .int tA, .int tL, .int tK, .int tV, .ref an, .ref vs])), (al, .inl (G.2.1, 159, .inl a)), (so, .inl (G.2.1, 5376, .inl (upd sx (256 * (tt - 1) + 128 * hl9 + st9) (soD a n hr td (21 - tt) hl9 st9))))]) C hW 2 rfl (ix_in (show (nI (256 * (tt - 1) + 128 * hl9 + st9)) = nI (256 * (tt - 1) + 128 * hl9 + st9) from (by first | rfl | (simp only [nI_lit, nI_add, pk_mul]; done) | (simp only [nI_lit, nI_add, pk_mul]; congr 1; omega))) (by omega) (by omega)) (by rw [show (nI (256 * (tt - 1) + 128 * hl9 + st9)).toNatClampNeg = (256 * (tt - 1) + 128 * hl9 + st9) from ix_cl (show (nI (256 * (tt - 1) + 128 * hl9 + st9)) = nI (256 * (tt - 1) + 128 * hl9 + st9) from (by first | rfl | (simp only [nI_lit, nI_add, pk_mul]; done) | (simp only [nI_lit, nI_add, pk_mul]; congr 1; omega))) (Nat.lt_of_lt_of_le (m := 5376) (by omega) (by omega))]; rfl) dX11_laySoonest_186 ?_
                        clear hW H locs; intro H locs hW
                        refine lv_iinc (v := (nI st9) + 1) (lv' := [(4, .int ((nI st9) + 1)), (5, .int (soD a n hr td (21 - tt) hl9 st9)), (3, .int (nI hl9)), (2, .int (nI tt - 1)), (0, .ref mo), (1, .int (nI td))]) hx hb dX11_laySoonest_187 hl (k := 1) rfl rfl (by decide) rfl ?_
                        clear hl ls; intro ls hl
                        refine lv_goto (tgt := 17) hx hb dX11_laySoonest_190 (by decide) ?_
                        exact ihK_2661 (st9 + 1) ((nI st9) + 1) (upd sx (256 * (tt - 1) + 128 * hl9 + st9) (soD a n hr td (21 - tt) hl9 st9)) (by exact nI_1 _) (by first | omega | assumption | (simp; done)) (by exact soJ_put hn hJ ⟨ht1, htt9⟩ (by omega) (by omega)) (by omega) _ _ _ hW (lv_sub hl [0, 2, 3, 4, 5] rfl)
                      have K_2674 : ∀ (n_ : Nat) (pq : Nat) (x_2675 : Int32) (x_2676 : Int32) (_ : x_2675 = nI pq) (_ : x_2676 = (soL a hr td (tt - 1) (soX a n hr td (21 - tt)) hl9 st9 pq)) (_ : pq ≤ n) (_ : tt = 21 → pq = 0) (_ : n - pq < n_) (H : Heap) (locs : List Loc) (ls : Array Slot), Wd G A_ s_.heap [(mo, .inr (9, [.ref al, .ref ke, .ref ik, .ref rq, .long mab, .long mbe, .ref so, .ref ha, .ref te, .ref bt, .int bL, .int tA, .int tL, .int tK, .int tV, .ref an, .ref vs])), (al, .inl (G.2.1, 159, .inl a)), (so, .inl (G.2.1, 5376, .inl sx))] H locs → lv_has ls 8 [(6, .int x_2675), (5, .int x_2676), (4, .int (nI st9)), (3, .int (nI hl9)), (2, .int (nI tt - 1)), (0, .ref mo), (1, .int (nI td))] → W p_ l e_ ({ frames := 3, cells := 0, slots := 0, locals := 72 }) s_ m_ ar_ be_ me_ cd_ H locs 0 0 Q (F0 m_ 71 ls []) := by
                        intro n_
                        induction n_ with
                        | zero => intro pq x_2675 x_2676 ex_2675 ex_2676 hpq hp0 hm_; exact absurd hm_ (Nat.not_lt_zero _)
                        | succ n_ ihK_2674 =>
                          intro pq x_2675 x_2676 ex_2675 ex_2676 hpq hp0 hm_ H locs ls hW hl
                          subst ex_2675
                          subst ex_2676
                          refine lv_iload hx hb dX11_laySoonest_71 (lv_at hl 0 rfl) ?_
                          refine lv_aload_n hx hb dX11_laySoonest_73 rfl (lv_at hl 5 rfl) ?_
                          refine g_fi C hW [0, 1] rfl (g_runV (As := []) (rest := [.int (nI pq)]) (wc := [(mo, .inr (9, [.ref al, .ref ke, .ref ik, .ref rq, .long mab, .long mbe, .ref so, .ref ha, .ref te, .ref bt, .int bL, .int tA, .int tL, .int tK, .int tV, .ref an, .ref vs])), (al, .inl (G.2.1, 159, .inl a))]) (q0 := 0) (ci := 9) C hW hl (c_X11_many l G mo al ke ik rq so ha te bt an vs mab mbe bL tA tL tK tV a n (by first | assumption | omega) _) k_ml_X11_49 q_X11_many (by decide) [0, 1] rfl rfl rfl rfl rfl rfl (Nat.le_of_ble_eq_true rfl) dX11_laySoonest_74 (by decide)) (fun r_2677 er_2677 => ?_)
                          clear hW H locs; intro H locs hW
                          refine lv_as (y := nI n) er_2677 ?_
                          clear er_2677 r_2677
                          refine lv_icmp_ge (tgt := 173) hx hb dX11_laySoonest_77 (by decide) (fun c_2678 => ?_) (fun c_2678 => ?_)
                          · replace c_2678 := Int32.not_lt.mpr c_2678
                            have c_2678n : ¬ pq < n := fun q => c_2678 ((nI_ltI (a := pq) (b := n) (by omega) (by omega)).mpr q)
                            exact K_2671 (soL a hr td (tt - 1) (soX a n hr td (21 - tt)) hl9 st9 pq) (by exact so_x ⟨ht1, htt9⟩ hp0 hpq (by first | exact Or.inl (Or.inl c_2678n) | exact Or.inl (Or.inr c_2678) | exact Or.inr c_2678n)) _ _ _ hW (lv_sub hl [1, 2, 3, 4, 5, 6] rfl)
                          · replace c_2678 := Int32.not_le.mp c_2678
                            have c_2678n : pq < n := (nI_ltI (a := pq) (b := n) (by omega) (by omega)).mp c_2678
                            refine lv_iload hx hb dX11_laySoonest_80 (lv_at hl 1 rfl) ?_
                            refine lv_iload_n hx hb dX11_laySoonest_82 rfl (lv_at hl 4 rfl) ?_
                            refine lv_as (y := nI (tt - 1)) (tt_e ht1) ?_
                            refine lv_icmp_le (tgt := 173) hx hb dX11_laySoonest_83 (by decide) (fun c_2679 => ?_) (fun c_2679 => ?_)
                            · replace c_2679 := Int32.not_lt.mpr c_2679
                              exact K_2671 (soL a hr td (tt - 1) (soX a n hr td (21 - tt)) hl9 st9 pq) (by exact so_x ⟨ht1, htt9⟩ hp0 hpq (by first | exact Or.inl (Or.inl c_2678n) | exact Or.inl (Or.inr c_2679) | exact Or.inr c_2678n)) _ _ _ hW (lv_sub hl [1, 2, 3, 4, 5, 6] rfl)
                            · replace c_2679 := Int32.not_le.mp c_2679
                              refine lv_iload_n hx hb dX11_laySoonest_86 rfl (lv_at hl 4 rfl) ?_
                              refine lv_as (y := nI (tt - 1)) (tt_e ht1) ?_
                              refine lv_bipush (v := 20) hx hb dX11_laySoonest_87 (by decide) ?_
                              refine lv_icmp_ge (tgt := 173) hx hb dX11_laySoonest_89 (by decide) (fun c_2680 => ?_) (fun c_2680 => ?_)
                              · replace c_2680 := Int32.not_lt.mpr c_2680
                                have c_2680n : ¬ (tt - 1) < 20 := fun q => c_2680 ((nI_ltI (a := (tt - 1)) (b := 20) (by omega) (by omega)).mpr q)
                                exact K_2671 (soL a hr td (tt - 1) (soX a n hr td (21 - tt)) hl9 st9 pq) (by exact so_x ⟨ht1, htt9⟩ hp0 hpq (by first | exact Or.inl (Or.inl c_2680n) | exact Or.inl (Or.inr c_2680) | exact Or.inr c_2680n)) _ _ _ hW (lv_sub hl [1, 2, 3, 4, 5, 6] rfl)
                              · replace c_2680 := Int32.not_le.mp c_2680
                                have c_2680n : (tt - 1) < 20 := (nI_ltI (a := (tt - 1)) (b := 20) (by omega) (by omega)).mp c_2680
                                have hlt := c_2679
                                have ht20 : tt - 1 < 20 := c_2680n
                                have hor : st9 ||| 2 ^ pq < 2 ^ n := or_lt (by omega) (by omega)
                                refine lv_aload_n hx hb dX11_laySoonest_92 rfl (lv_at hl 5 rfl) ?_
                                refine g_get (k := 0) (v := .ref al) C hW 0 rfl rfl jnX11 (by decide) k_fl_X11_7 rfl dX11_laySoonest_93 ?_
                                refine lv_bipush (v := 26) hx hb dX11_laySoonest_96 (by decide) ?_
                                refine lv_iload hx hb dX11_laySoonest_98 (lv_at hl 0 rfl) ?_
                                refine lv_iadd hx hb dX11_laySoonest_100 ?_
                                refine g_ald C hW 1 rfl (ix_in (show (26 + (nI pq)) = nI (26 + pq) from (by first | rfl | (simp only [nI_lit, nI_add, pk_mul]; done) | (simp only [nI_lit, nI_add, pk_mul]; congr 1; omega))) (by omega) (by omega)) dX11_laySoonest_101 ?_
                                refine lv_as (y := a (26 + pq)) (by rw [show (26 + (nI pq)).toNatClampNeg = (26 + pq) from ix_cl (show (26 + (nI pq)) = nI (26 + pq) from (by first | rfl | (simp only [nI_lit, nI_add, pk_mul]; done) | (simp only [nI_lit, nI_add, pk_mul]; congr 1; omega))) (Nat.lt_of_lt_of_le (m := 159) (by omega) (by omega))]) ?_
                                refine lv_iload_n hx hb dX11_laySoonest_102 rfl (lv_at hl 3 rfl) ?_
                                have J_2687 : ∀ (x_2686 : Int32) (_ : x_2686 = (if (a (26 + pq)) = (nI hl9) then if (bI (crA a pq (hr + (tt - 1)) (nI hl9))) = 0 then (soL a hr td (tt - 1) (soX a n hr td (21 - tt)) hl9 st9 pq) else (if (soD a n hr td (20 - tt) (1 - hl9) (st9 ||| 2 ^ pq)) < (soL a hr td (tt - 1) (soX a n hr td (21 - tt)) hl9 st9 pq) then (soD a n hr td (20 - tt) (1 - hl9) (st9 ||| 2 ^ pq)) else (soL a hr td (tt - 1) (soX a n hr td (21 - tt)) hl9 st9 pq)) else (soL a hr td (tt - 1) (soX a n hr td (21 - tt)) hl9 st9 pq))), ∀ (H : Heap) (locs : List Loc) (ls : Array Slot), Wd G A_ s_.heap [(mo, .inr (9, [.ref al, .ref ke, .ref ik, .ref rq, .long mab, .long mbe, .ref so, .ref ha, .ref te, .ref bt, .int bL, .int tA, .int tL, .int tK, .int tV, .ref an, .ref vs])), (al, .inl (G.2.1, 159, .inl a)), (so, .inl (G.2.1, 5376, .inl sx))] H locs → lv_has ls 8 [(6, .int (nI pq)), (5, .int x_2686), (4, .int (nI st9)), (3, .int (nI hl9)), (2, .int (nI tt - 1)), (0, .ref mo), (1, .int (nI td))] → W p_ l e_ ({ frames := 3, cells := 0, slots := 0, locals := 72 }) s_ m_ ar_ be_ me_ cd_ H locs 0 0 Q (F0 m_ 167 ls []) := by
                                  intro x_2686 ex_2686 H locs ls hW hl
                                  refine lv_iinc (v := (nI pq) + 1) (lv' := [(6, .int ((nI pq) + 1)), (5, .int x_2686), (4, .int (nI st9)), (3, .int (nI hl9)), (2, .int (nI tt - 1)), (0, .ref mo), (1, .int (nI td))]) hx hb dX11_laySoonest_167 hl (k := 0) rfl rfl (by decide) rfl ?_
                                  clear hl ls; intro ls hl
                                  refine lv_goto (tgt := 71) hx hb dX11_laySoonest_170 (by decide) ?_
                                  exact ihK_2674 (pq + 1) ((nI pq) + 1) x_2686 (by exact nI_1 _) (by (simp only [ey_2669, ex_2686]; exact so_s rfl hlt (by rw [show 21 - tt = (20 - tt) + 1 by omega, soX]))) (by first | omega | assumption | (simp; done)) (by exact fun q => absurd q (by omega)) (by omega) _ _ _ hW (lv_sub hl [0, 1, 2, 3, 4, 5, 6] rfl)
                                refine lv_icmp_ne (tgt := 167) hx hb dX11_laySoonest_103 (by decide) (fun c_2681 => ?_) (fun c_2681 => ?_)
                                · exact J_2687 (soL a hr td (tt - 1) (soX a n hr td (21 - tt)) hl9 st9 pq) (by first | (simp only [c_2681, if_true, if_false, reduceIte]; done) | (simp [c_2681]; done) | rfl | (rw [if_neg c_2681]; done)) _ _ _ hW (lv_sub hl [0, 1, 2, 3, 4, 5, 6] rfl)
                                · refine lv_aload_n hx hb dX11_laySoonest_106 rfl (lv_at hl 5 rfl) ?_
                                  refine g_get (k := 0) (v := .ref al) C hW 0 rfl rfl jnX11 (by decide) k_fl_X11_7 rfl dX11_laySoonest_107 ?_
                                  refine lv_iload hx hb dX11_laySoonest_110 (lv_at hl 0 rfl) ?_
                                  refine lv_iload_n hx hb dX11_laySoonest_112 rfl (lv_at hl 3 rfl) ?_
                                  refine lv_aload_n hx hb dX11_laySoonest_113 rfl (lv_at hl 5 rfl) ?_
                                  refine g_get (k := 0) (v := .ref al) C hW 0 rfl rfl jnX11 (by decide) k_fl_X11_7 rfl dX11_laySoonest_114 ?_
                                  refine lv_bipush (v := 12) hx hb dX11_laySoonest_117 (by decide) ?_
                                  refine g_ald C hW 1 rfl (vp_in_nI (n := 12) (by omega) (by omega)) dX11_laySoonest_119 ?_
                                  refine lv_as (y := a 12) (rfl) ?_
                                  refine lv_as (y := nI hr) (e12) ?_
                                  refine lv_iload_n hx hb dX11_laySoonest_120 rfl (lv_at hl 4 rfl) ?_
                                  refine lv_as (y := nI (tt - 1)) (tt_e ht1) ?_
                                  refine lv_iadd hx hb dX11_laySoonest_121 ?_
                                  refine lv_as (y := nI (hr + (tt - 1))) (nI_add _ _) ?_
                                  refine g_fi C hW [1] rfl (g_runS (As := [.ref al, .int (nI pq), .int (nI hl9), .int (nI (hr + (tt - 1)))]) (rest := []) (wc := [(al, .inl (G.2.1, 159, .inl a))]) C hW hl (c_X11_carries l G al 159 a pq (hr + (tt - 1)) (nI hl9) (by first | assumption | omega) (by first | assumption | omega) (by first | assumption | omega) _) k_ml_X11_111 q_X11_carries (by decide) [1] rfl rfl rfl rfl (Nat.le_of_ble_eq_true rfl) dX11_laySoonest_122 (by decide)) (fun r_2688 er_2688 => ?_)
                                  clear hW H locs; intro H locs hW
                                  refine lv_as (y := bI (crA a pq (hr + (tt - 1)) (nI hl9))) er_2688 ?_
                                  clear er_2688 r_2688
                                  refine lv_if_eq (tgt := 167) hx hb dX11_laySoonest_125 (by decide) (fun c_2689 => ?_) (fun c_2689 => ?_)
                                  · exact J_2687 (soL a hr td (tt - 1) (soX a n hr td (21 - tt)) hl9 st9 pq) (by first | (simp only [c_2681, c_2689, if_true, if_false, reduceIte]; done) | (simp [c_2681, c_2689]; done) | rfl | (rw [if_pos c_2681, if_pos c_2689]; done)) _ _ _ hW (lv_sub hl [0, 1, 2, 3, 4, 5, 6] rfl)
                                  · refine lv_aload_n hx hb dX11_laySoonest_128 rfl (lv_at hl 5 rfl) ?_
                                    refine g_get (k := 6) (v := .ref so) C hW 0 rfl rfl jnX11 (by decide) k_fl_X11_27 rfl dX11_laySoonest_129 ?_
                                    refine lv_iload_n hx hb dX11_laySoonest_132 rfl (lv_at hl 4 rfl) ?_
                                    refine lv_as (y := nI (tt - 1)) (tt_e ht1) ?_
                                    refine lv_iconst (v := 1) hx hb dX11_laySoonest_133 (by decide) ?_
                                    refine lv_iadd hx hb dX11_laySoonest_134 ?_
                                    refine lv_as (y := nI tt) (tt_1 ht1) ?_
                                    refine lv_iconst (v := 1) hx hb dX11_laySoonest_135 (by decide) ?_
                                    refine lv_iload_n hx hb dX11_laySoonest_136 rfl (lv_at hl 3 rfl) ?_
                                    refine lv_isub hx hb dX11_laySoonest_137 ?_
                                    refine lv_as (y := nI (1 - hl9)) (hl_e (by omega)) ?_
                                    refine lv_iload hx hb dX11_laySoonest_138 (lv_at hl 2 rfl) ?_
                                    refine lv_iconst (v := 1) hx hb dX11_laySoonest_140 (by decide) ?_
                                    refine lv_iload hx hb dX11_laySoonest_141 (lv_at hl 0 rfl) ?_
                                    refine lv_ishl hx hb dX11_laySoonest_143 ?_
                                    refine lv_ior hx hb dX11_laySoonest_144 ?_
                                    refine lv_as (y := nI (st9 ||| 2 ^ pq)) (or_e (by omega)) ?_
                                    refine g_fi C hW [] rfl (g_runS (As := [.int (nI tt), .int (nI (1 - hl9)), .int (nI (st9 ||| 2 ^ pq))]) (rest := [.ref so]) (wc := []) C hW hl (c_X11_spot l G tt (1 - hl9) (st9 ||| 2 ^ pq)  _) k_ml_X11_146 q_X11_spot (by decide) [] rfl rfl rfl rfl (Nat.le_of_ble_eq_true rfl) dX11_laySoonest_145 (by decide)) (fun r_2690 er_2690 => ?_)
                                    clear hW H locs; intro H locs hW
                                    refine lv_as (y := nI (256 * tt + 128 * (1 - hl9) + (st9 ||| 2 ^ pq))) er_2690 ?_
                                    clear er_2690 r_2690
                                    refine g_ald C hW 2 rfl (ix_in (show (nI (256 * tt + 128 * (1 - hl9) + (st9 ||| 2 ^ pq))) = nI (256 * tt + 128 * (1 - hl9) + (st9 ||| 2 ^ pq)) from (by first | rfl | (simp only [nI_lit, nI_add, pk_mul]; done) | (simp only [nI_lit, nI_add, pk_mul]; congr 1; omega))) (by omega) (by omega)) dX11_laySoonest_148 ?_
                                    refine lv_as (y := sx (256 * tt + 128 * (1 - hl9) + (st9 ||| 2 ^ pq))) (by rw [show (nI (256 * tt + 128 * (1 - hl9) + (st9 ||| 2 ^ pq))).toNatClampNeg = (256 * tt + 128 * (1 - hl9) + (st9 ||| 2 ^ pq)) from ix_cl (show (nI (256 * tt + 128 * (1 - hl9) + (st9 ||| 2 ^ pq))) = nI (256 * tt + 128 * (1 - hl9) + (st9 ||| 2 ^ pq)) from (by first | rfl | (simp only [nI_lit, nI_add, pk_mul]; done) | (simp only [nI_lit, nI_add, pk_mul]; congr 1; omega))) (Nat.lt_of_lt_of_le (m := 5376) (by omega) (by omega))]) ?_
                                    refine lv_as (y := (soD a n hr td (20 - tt) (1 - hl9) (st9 ||| 2 ^ pq))) (hJ tt _ _ (by omega) hor (Or.inl ⟨Nat.le_refl _, by omega⟩)) ?_
                                    refine lv_istore (lv' := [(7, .int (soD a n hr td (20 - tt) (1 - hl9) (st9 ||| 2 ^ pq))), (6, .int (nI pq)), (5, .int (soL a hr td (tt - 1) (soX a n hr td (21 - tt)) hl9 st9 pq)), (4, .int (nI st9)), (3, .int (nI hl9)), (2, .int (nI tt - 1)), (0, .ref mo), (1, .int (nI td))]) hx hb dX11_laySoonest_149 hl (by decide) rfl ?_
                                    clear hl ls; intro ls hl
                                    refine lv_iload hx hb dX11_laySoonest_151 (lv_at hl 0 rfl) ?_
                                    refine lv_iload hx hb dX11_laySoonest_153 (lv_at hl 2 rfl) ?_
                                    have J_2693 : ∀ (y_2692 : Int32) (_ : y_2692 = (if (soD a n hr td (20 - tt) (1 - hl9) (st9 ||| 2 ^ pq)) < (soL a hr td (tt - 1) (soX a n hr td (21 - tt)) hl9 st9 pq) then (soD a n hr td (20 - tt) (1 - hl9) (st9 ||| 2 ^ pq)) else (soL a hr td (tt - 1) (soX a n hr td (21 - tt)) hl9 st9 pq))), ∀ (H : Heap) (locs : List Loc) (ls : Array Slot), Wd G A_ s_.heap [(mo, .inr (9, [.ref al, .ref ke, .ref ik, .ref rq, .long mab, .long mbe, .ref so, .ref ha, .ref te, .ref bt, .int bL, .int tA, .int tL, .int tK, .int tV, .ref an, .ref vs])), (al, .inl (G.2.1, 159, .inl a)), (so, .inl (G.2.1, 5376, .inl sx))] H locs → lv_has ls 8 [(7, .int (soD a n hr td (20 - tt) (1 - hl9) (st9 ||| 2 ^ pq))), (6, .int (nI pq)), (5, .int (soL a hr td (tt - 1) (soX a n hr td (21 - tt)) hl9 st9 pq)), (4, .int (nI st9)), (3, .int (nI hl9)), (2, .int (nI tt - 1)), (0, .ref mo), (1, .int (nI td))] → W p_ l e_ ({ frames := 3, cells := 0, slots := 0, locals := 72 }) s_ m_ ar_ be_ me_ cd_ H locs 0 0 Q (F0 m_ 165 ls [.int y_2692]) := by
                                      intro y_2692 ey_2692 H locs ls hW hl
                                      refine lv_istore (lv' := [(5, .int y_2692), (7, .int (soD a n hr td (20 - tt) (1 - hl9) (st9 ||| 2 ^ pq))), (6, .int (nI pq)), (4, .int (nI st9)), (3, .int (nI hl9)), (2, .int (nI tt - 1)), (0, .ref mo), (1, .int (nI td))]) hx hb dX11_laySoonest_165 hl (by decide) rfl ?_
                                      clear hl ls; intro ls hl
                                      exact J_2687 y_2692 (by first | (simp only [c_2681, c_2689, if_true, if_false, reduceIte]; done) | (subst ey_2692; simp only [c_2681, c_2689, if_true, if_false, reduceIte]; done) | (subst ey_2692; simp [c_2681, c_2689]; done) | (subst ey_2692; (repeat' split) <;> simp_all)) _ _ _ hW (lv_sub hl [2, 0, 3, 4, 5, 6, 7] rfl)
                                    refine lv_icmp_ge (tgt := 163) hx hb dX11_laySoonest_155 (by decide) (fun c_2691 => ?_) (fun c_2691 => ?_)
                                    · replace c_2691 := Int32.not_lt.mpr c_2691
                                      refine lv_iload hx hb dX11_laySoonest_163 (lv_at hl 2 rfl) ?_
                                      exact J_2693 (soL a hr td (tt - 1) (soX a n hr td (21 - tt)) hl9 st9 pq) (by first | (simp only [c_2691, if_true, if_false, reduceIte]; done) | (simp [c_2691]; done) | rfl | (rw [if_neg c_2691]; done)) _ _ _ hW (lv_sub hl [0, 1, 2, 3, 4, 5, 6, 7] rfl)
                                    · replace c_2691 := Int32.not_le.mp c_2691
                                      refine lv_iload hx hb dX11_laySoonest_158 (lv_at hl 0 rfl) ?_
                                      refine lv_goto (tgt := 165) hx hb dX11_laySoonest_160 (by decide) ?_
                                      exact J_2693 (soD a n hr td (20 - tt) (1 - hl9) (st9 ||| 2 ^ pq)) (by first | (simp only [c_2691, if_true, if_false, reduceIte]; done) | (simp [c_2691]; done) | rfl | (rw [if_pos c_2691]; done)) _ _ _ hW (lv_sub hl [0, 1, 2, 3, 4, 5, 6, 7] rfl)
                      exact K_2674 _ 0 0 y_2669 (by first | exact rfl | (simp; done)) (by (simp only [ey_2669]; exact so_0 ⟨ht1, htt9⟩ (fun q => hJ tt hl9 st9 (by omega) (by omega) (Or.inl ⟨Nat.le_refl _, by omega⟩)))) (by first | omega | assumption | (simp; done)) (by exact fun _ => rfl) (Nat.lt_succ_self _) _ _ _ hW (lv_sub hl [0, 1, 2, 3, 4, 5, 6] rfl)
                    refine lv_if_ne (tgt := 41) hx hb dX11_laySoonest_34 (by decide) (fun c_2666 => ?_) (fun c_2666 => ?_)
                    · refine lv_iload_n hx hb dX11_laySoonest_41 rfl (lv_at hl 2 rfl) ?_
                      refine lv_as (y := nI (tt - 1)) (tt_e ht1) ?_
                      refine lv_bipush (v := 20) hx hb dX11_laySoonest_42 (by decide) ?_
                      refine lv_icmp_ne (tgt := 52) hx hb dX11_laySoonest_44 (by decide) (fun c_2694 => ?_) (fun c_2694 => ?_)
                      · have ht21 : tt < 21 := by rcases Nat.lt_or_ge tt 21 with q | q; exact q; exact absurd (by rw [show tt - 1 = 20 by omega]; rfl) c_2694
                        refine lv_aload_n hx hb dX11_laySoonest_52 rfl (lv_at hl 3 rfl) ?_
                        refine g_get (k := 6) (v := .ref so) C hW 0 rfl rfl jnX11 (by decide) k_fl_X11_27 rfl dX11_laySoonest_53 ?_
                        refine lv_iload_n hx hb dX11_laySoonest_56 rfl (lv_at hl 2 rfl) ?_
                        refine lv_as (y := nI (tt - 1)) (tt_e ht1) ?_
                        refine lv_iconst (v := 1) hx hb dX11_laySoonest_57 (by decide) ?_
                        refine lv_iadd hx hb dX11_laySoonest_58 ?_
                        refine lv_as (y := nI tt) (tt_1 ht1) ?_
                        refine lv_iload_n hx hb dX11_laySoonest_59 rfl (lv_at hl 1 rfl) ?_
                        refine lv_iload hx hb dX11_laySoonest_60 (lv_at hl 0 rfl) ?_
                        refine g_fi C hW [] rfl (g_runS (As := [.int (nI tt), .int (nI hl9), .int (nI st9)]) (rest := [.ref so]) (wc := []) C hW hl (c_X11_spot l G tt hl9 st9  _) k_ml_X11_146 q_X11_spot (by decide) [] rfl rfl rfl rfl (Nat.le_of_ble_eq_true rfl) dX11_laySoonest_62 (by decide)) (fun r_2695 er_2695 => ?_)
                        clear hW H locs; intro H locs hW
                        refine lv_as (y := nI (256 * tt + 128 * hl9 + st9)) er_2695 ?_
                        clear er_2695 r_2695
                        refine g_ald C hW 2 rfl (ix_in (show (nI (256 * tt + 128 * hl9 + st9)) = nI (256 * tt + 128 * hl9 + st9) from (by first | rfl | (simp only [nI_lit, nI_add, pk_mul]; done) | (simp only [nI_lit, nI_add, pk_mul]; congr 1; omega))) (by omega) (by omega)) dX11_laySoonest_65 ?_
                        refine lv_as (y := sx (256 * tt + 128 * hl9 + st9)) (by rw [show (nI (256 * tt + 128 * hl9 + st9)).toNatClampNeg = (256 * tt + 128 * hl9 + st9) from ix_cl (show (nI (256 * tt + 128 * hl9 + st9)) = nI (256 * tt + 128 * hl9 + st9) from (by first | rfl | (simp only [nI_lit, nI_add, pk_mul]; done) | (simp only [nI_lit, nI_add, pk_mul]; congr 1; omega))) (Nat.lt_of_lt_of_le (m := 5376) (by omega) (by omega))]) ?_
                        exact J_2670 (sx (256 * tt + 128 * hl9 + st9)) (by first | (simp only [c_2666, c_2694, if_true, if_false, reduceIte]; done) | (simp [c_2666, c_2694]; done) | rfl | (rw [if_neg c_2666, if_neg c_2694]; done)) _ _ _ hW (lv_sub hl [0, 1, 2, 3, 4] rfl)
                      · refine lv_ldc (v := 1000000) hx hb hown (ht _ k_ct_X11_145) dX11_laySoonest_47 ?_
                        refine lv_goto (tgt := 66) hx hb dX11_laySoonest_49 (by decide) ?_
                        exact J_2670 1000000 (by first | (simp only [c_2666, c_2694, if_true, if_false, reduceIte]; done) | (simp [c_2666, c_2694]; done) | rfl | (rw [if_neg c_2666, if_pos c_2694]; done)) _ _ _ hW (lv_sub hl [0, 1, 2, 3, 4] rfl)
                    · refine lv_iload_n hx hb dX11_laySoonest_37 rfl (lv_at hl 2 rfl) ?_
                      refine lv_as (y := nI (tt - 1)) (tt_e ht1) ?_
                      refine lv_goto (tgt := 66) hx hb dX11_laySoonest_38 (by decide) ?_
                      exact J_2670 (nI (tt - 1)) (by first | (simp only [c_2666, if_true, if_false, reduceIte]; done) | (simp [c_2666]; done) | rfl | (rw [if_pos c_2666]; done)) _ _ _ hW (lv_sub hl [0, 1, 2, 3, 4] rfl)
              exact K_2661 _ 0 0 sx (by first | exact rfl | (simp; done)) (by first | omega | assumption | (simp; done)) (by exact hJ) (Nat.lt_succ_self _) _ _ _ hW (lv_sub hl [0, 1, 2, 3, 4] rfl)
        exact K_2658 _ 0 0 sx (by first | exact rfl | (simp; done)) (by first | omega | assumption | (simp; done)) (by exact hJ) (Nat.lt_succ_self _) _ _ _ hW (lv_sub hl [0, 1, 2, 3] rfl)
  exact K_2655 _ 21 20 sv (by decide) (by first | omega | assumption | (simp; done)) (by exact soJ_0) (Nat.lt_succ_self _) _ _ _ hW (lv_sub hl [0, 1, 2] rfl)
