set_option maxHeartbeats 4000000 in
set_option maxRecDepth 100000 in
theorem c_X11_rally_none (l : Launch) (G : gT) (mo al ke ik rq so ha te bt an vs : Nat) (mab mbe : Int64) (bL tA tL tK tV : Int32) (a : Nat → Int32) (sv : Nat → Int32) (n hr pl f0 N : Nat) (k9 : Int32) (e0 : a 0 = nI n) (hn : n ≤ 7) (e12 : a 12 = nI hr) (hh : hr < 10000) (e8 : a 8 = nI f0) (hf : f0 < 2) (eN : N = 2 ^ n) (hpl : pl < 2 ^ n) (hk2 : ¬ k9 < -2) (hk1 : ¬ k9 = -1) (hF : 20 < rlF a n hr pl f0) : MI l G yX11_rally cX11_rally 4 .int ({ frames := 4, cells := 0, slots := 0, locals := 99 }) [.ref mo, .int (nI pl), .int k9] [(mo, .inr (9, [.ref al, .ref ke, .ref ik, .ref rq, .long mab, .long mbe, .ref so, .ref ha, .ref te, .ref bt, .int bL, .int tA, .int tL, .int tK, .int tV, .ref an, .ref vs])), (al, .inl (G.2.1, 159, .inl a)), (so, .inl (G.2.1, 5376, .inl sv))] (fun (r : Int32) w1 => ∃ u_ : Nat → Int32, (r = (-6)) ∧ w1 = [(mo, .inr (9, [.ref al, .ref ke, .ref ik, .ref rq, .long mab, .long mbe, .ref so, .ref ha, .ref te, .ref bt, .int bL, .int tA, .int tL, .int tK, .int tV, .ref an, .ref vs])), (al, .inl (G.2.1, 159, .inl a)), (so, .inl (G.2.1, 5376, .inl u_))]) := by
  refine MI.mk (by decide) (Nat.le_of_ble_eq_true rfl) ?_
  intro p_ e_ s_ m_ ar_ be_ me_ cd_ A_ ls C hrt hW hl
  have hx := C.1; have hb := C.2.1; have hown := C.2.2.2.1; have ht := C.2.2.2.2.1
  replace hl : lv_has ls 4 [(0, .ref mo), (1, .int (nI pl)), (2, .int k9)] := hl
  generalize hQ : MQ be_ _ ar_ s_ 0 0 A_ = Q
  have h2n := pw7 hn
  have hk3 : ¬ ¬ (-2) ≤ k9 := fun q => q (Int32.not_lt.mp hk2)
  refine lv_iload_n hx hb dX11_rally_0 rfl (lv_at hl 1 rfl) ?_
  refine lv_i2l hx hb dX11_rally_1 rfl ?_
  refine lv_lconst (v := 0) hx hb dX11_rally_2 (by decide) ?_
  refine lv_iconst (v := 1) hx hb dX11_rally_3 (by decide) ?_
  refine lv_aload_n hx hb dX11_rally_4 rfl (lv_at hl 0 rfl) ?_
  refine g_fi C hW [0, 1] rfl (g_runV (As := []) (rest := [.int 1, .long 0, .long ((nI pl).toInt64)]) (wc := [(mo, .inr (9, [.ref al, .ref ke, .ref ik, .ref rq, .long mab, .long mbe, .ref so, .ref ha, .ref te, .ref bt, .int bL, .int tA, .int tL, .int tK, .int tV, .ref an, .ref vs])), (al, .inl (G.2.1, 159, .inl a))]) (q0 := 0) (ci := 9) C hW hl (c_X11_many l G mo al ke ik rq so ha te bt an vs mab mbe bL tA tL tK tV a n (by first | assumption | omega) _) k_ml_X11_49 q_X11_many (by decide) [0, 1] rfl rfl rfl rfl rfl rfl (Nat.le_of_ble_eq_true rfl) dX11_rally_5 (by decide)) (fun r_2711 er_2711 => ?_)
  clear hW; intro H locs hW
  refine lv_as (y := nI n) er_2711 ?_
  clear er_2711 r_2711
  refine lv_ishl hx hb dX11_rally_8 ?_
  refine lv_iconst (v := 1) hx hb dX11_rally_9 (by decide) ?_
  refine lv_isub hx hb dX11_rally_10 ?_
  refine lv_i2l hx hb dX11_rally_11 rfl ?_
  refine g_fi C hW [] rfl (g_runS (As := [.long ((nI pl).toInt64), .long 0, .long ((((1 : Int32) <<< ((nI n) &&& 31)) - 1).toInt64)]) (rest := []) (wc := []) C hW hl (c_X11_in l G (nI pl) 0 (((1 : Int32) <<< ((nI n) &&& 31)) - 1) 0 ((((1 : Int32) <<< ((nI n) &&& 31)) - 1).toInt64) (by first | rfl | decide) (by first | rfl | decide) _) k_ml_X11_53 q_X11_in (by decide) [] rfl rfl rfl rfl (Nat.le_of_ble_eq_true rfl) dX11_rally_12 (by decide)) (fun r_2712 er_2712 => ?_)
  clear hW H locs; intro H locs hW
  refine lv_as (y := bI (iw (nI pl) 0 (((1 : Int32) <<< ((nI n) &&& 31)) - 1))) er_2712 ?_
  clear er_2712 r_2712
  refine lv_if_eq (tgt := 29) hx hb dX11_rally_15 (by decide) (fun c_2713 => ?_) (fun c_2713 => ?_)
  · exfalso; exact dd (iw_pl hn hpl) c_2713
  · refine lv_iload_n hx hb dX11_rally_18 rfl (lv_at hl 2 rfl) ?_
    refine lv_bipush (v := (-2)) hx hb dX11_rally_19 (by decide) ?_
    refine lv_icmp_lt (tgt := 29) hx hb dX11_rally_21 (by decide) (fun c_2714 => ?_) (fun c_2714 => ?_)
    · replace c_2714 := Int32.not_le.mpr c_2714
      exfalso; exact hk3 c_2714
    · replace c_2714 := Int32.not_lt.mp c_2714
      refine lv_iload_n hx hb dX11_rally_24 rfl (lv_at hl 2 rfl) ?_
      refine lv_iconst (v := (-1)) hx hb dX11_rally_25 (by decide) ?_
      refine lv_icmp_ne (tgt := 36) hx hb dX11_rally_26 (by decide) (fun c_2715 => ?_) (fun c_2715 => ?_)
      · refine lv_aload_n hx hb dX11_rally_36 rfl (lv_at hl 0 rfl) ?_
        refine lv_iload_n hx hb dX11_rally_37 rfl (lv_at hl 1 rfl) ?_
        refine g_fvw (wr := []) (ww := fun (u_ : Nat → Int32) => [(mo, .inr (9, [.ref al, .ref ke, .ref ik, .ref rq, .long mab, .long mbe, .ref so, .ref ha, .ref te, .ref bt, .int bL, .int tA, .int tL, .int tK, .int tV, .ref an, .ref vs])), (al, .inl (G.2.1, 159, .inl a)), (so, .inl (G.2.1, 5376, .inl u_))]) (w2 := fun (u_ : Nat → Int32) => [(mo, .inr (9, [.ref al, .ref ke, .ref ik, .ref rq, .long mab, .long mbe, .ref so, .ref ha, .ref te, .ref bt, .int bL, .int tA, .int tL, .int tK, .int tV, .ref an, .ref vs])), (al, .inl (G.2.1, 159, .inl a)), (so, .inl (G.2.1, 5376, .inl u_))]) C hW [0, 1, 2] [] [0, 1, 2] rfl rfl (by decide) (by decide) (by decide) (fun _ => rfl) (g_runV (As := [.int (nI pl)]) (rest := []) (wc := [(mo, .inr (9, [.ref al, .ref ke, .ref ik, .ref rq, .long mab, .long mbe, .ref so, .ref ha, .ref te, .ref bt, .int bL, .int tA, .int tL, .int tK, .int tV, .ref an, .ref vs])), (al, .inl (G.2.1, 159, .inl a)), (so, .inl (G.2.1, 5376, .inl sv))]) (q0 := 0) (ci := 9) C hW hl (c_X11_laySoonest l G mo al ke ik rq so ha te bt an vs mab mbe bL tA tL tK tV a sv n hr pl N (by first | assumption | omega) (by first | assumption | omega) (by first | assumption | omega) (by first | assumption | omega) (by first | assumption | rfl) _) k_ml_X11_149 q_X11_laySoonest (by decide) [0, 1, 2] rfl rfl rfl rfl rfl rfl (Nat.le_of_ble_eq_true rfl) dX11_rally_38 (by decide)) (fun u_2717 er_2716 => ?_)
        clear hW H locs; intro H locs hW
        replace hW : Wd G A_ s_.heap [(mo, .inr (9, [.ref al, .ref ke, .ref ik, .ref rq, .long mab, .long mbe, .ref so, .ref ha, .ref te, .ref bt, .int bL, .int tA, .int tL, .int tK, .int tV, .ref an, .ref vs])), (al, .inl (G.2.1, 159, .inl a)), (so, .inl (G.2.1, 5376, .inl u_2717))] H locs := hW
        have hSo := er_2716
        refine lv_aload_n hx hb dX11_rally_41 rfl (lv_at hl 0 rfl) ?_
        refine g_get (k := 0) (v := .ref al) C hW 0 rfl rfl jnX11 (by decide) k_fl_X11_7 rfl dX11_rally_42 ?_
        refine lv_bipush (v := 9) hx hb dX11_rally_45 (by decide) ?_
        refine g_ald C hW 1 rfl (vp_in_nI (n := 9) (by omega) (by omega)) dX11_rally_47 ?_
        refine lv_as (y := a 9) (rfl) ?_
        refine lv_iconst (v := 1) hx hb dX11_rally_48 (by decide) ?_
        have J_2724 : ∀ (y_2723 : Int32) (_ : y_2723 = (if (a 9) = 1 then u_2717 (256 * 0 + 128 * f0 + 0) else (if (nI pl) = 0 then u_2717 (256 * 0 + 128 * f0 + 0) else 1000000))), ∀ (H : Heap) (locs : List Loc) (ls : Array Slot), Wd G A_ s_.heap [(mo, .inr (9, [.ref al, .ref ke, .ref ik, .ref rq, .long mab, .long mbe, .ref so, .ref ha, .ref te, .ref bt, .int bL, .int tA, .int tL, .int tK, .int tV, .ref an, .ref vs])), (al, .inl (G.2.1, 159, .inl a)), (so, .inl (G.2.1, 5376, .inl u_2717))] H locs → lv_has ls 4 [(0, .ref mo), (1, .int (nI pl)), (2, .int k9)] → W p_ l e_ ({ frames := 4, cells := 0, slots := 0, locals := 99 }) s_ m_ ar_ be_ me_ cd_ H locs 0 0 Q (F0 m_ 78 ls [.int y_2723]) := by
          intro y_2723 ey_2723 H locs ls hW hl
          refine lv_as (y := rlF a n hr pl f0) (by simp only [ey_2723]; exact rl_e hf (by omega) hSo) ?_
          refine lv_istore_n (lv' := [(3, .int (rlF a n hr pl f0)), (0, .ref mo), (1, .int (nI pl)), (2, .int k9)]) hx hb dX11_rally_78 rfl hl (by decide) rfl ?_
          clear hl ls; intro ls hl
          refine lv_iload_n hx hb dX11_rally_79 rfl (lv_at hl 0 rfl) ?_
          refine lv_bipush (v := 20) hx hb dX11_rally_80 (by decide) ?_
          refine lv_icmp_le (tgt := 88) hx hb dX11_rally_82 (by decide) (fun c_2725 => ?_) (fun c_2725 => ?_)
          · replace c_2725 := Int32.not_lt.mpr c_2725
            exfalso; exact c_2725 hF
          · replace c_2725 := Int32.not_le.mp c_2725
            refine lv_bipush (v := (-6)) hx hb dX11_rally_85 (by decide) ?_
            subst hQ
            exact g_iret (v := (-6)) C hW hrt ⟨u_2717, by rfl, by rfl⟩ dX11_rally_87
        refine lv_icmp_eq (tgt := 56) hx hb dX11_rally_49 (by decide) (fun c_2718 => ?_) (fun c_2718 => ?_)
        · refine lv_aload_n hx hb dX11_rally_56 rfl (lv_at hl 0 rfl) ?_
          refine g_get (k := 6) (v := .ref so) C hW 0 rfl rfl jnX11 (by decide) k_fl_X11_27 rfl dX11_rally_57 ?_
          refine lv_iconst (v := 0) hx hb dX11_rally_60 (by decide) ?_
          refine lv_aload_n hx hb dX11_rally_61 rfl (lv_at hl 0 rfl) ?_
          refine g_get (k := 0) (v := .ref al) C hW 0 rfl rfl jnX11 (by decide) k_fl_X11_7 rfl dX11_rally_62 ?_
          refine lv_bipush (v := 8) hx hb dX11_rally_65 (by decide) ?_
          refine g_ald C hW 1 rfl (vp_in_nI (n := 8) (by omega) (by omega)) dX11_rally_67 ?_
          refine lv_as (y := a 8) (rfl) ?_
          refine lv_as (y := nI f0) (e8) ?_
          refine lv_iconst (v := 0) hx hb dX11_rally_68 (by decide) ?_
          refine g_fi C hW [] rfl (g_runS (As := [.int 0, .int (nI f0), .int 0]) (rest := [.ref so]) (wc := []) C hW hl (c_X11_spot l G 0 f0 0  _) k_ml_X11_146 q_X11_spot (by decide) [] rfl rfl rfl rfl (Nat.le_of_ble_eq_true rfl) dX11_rally_69 (by decide)) (fun r_2726 er_2726 => ?_)
          clear hW H locs; intro H locs hW
          refine lv_as (y := nI (256 * 0 + 128 * f0 + 0)) er_2726 ?_
          clear er_2726 r_2726
          refine g_ald C hW 2 rfl (ix_in (show (nI (256 * 0 + 128 * f0 + 0)) = nI (256 * 0 + 128 * f0 + 0) from (by first | rfl | (simp only [nI_lit, nI_add, pk_mul]; done) | (simp only [nI_lit, nI_add, pk_mul]; congr 1; omega))) (by omega) (by omega)) dX11_rally_72 ?_
          refine lv_as (y := u_2717 (256 * 0 + 128 * f0 + 0)) (by rw [show (nI (256 * 0 + 128 * f0 + 0)).toNatClampNeg = (256 * 0 + 128 * f0 + 0) from ix_cl (show (nI (256 * 0 + 128 * f0 + 0)) = nI (256 * 0 + 128 * f0 + 0) from (by first | rfl | (simp only [nI_lit, nI_add, pk_mul]; done) | (simp only [nI_lit, nI_add, pk_mul]; congr 1; omega))) (Nat.lt_of_lt_of_le (m := 5376) (by omega) (by omega))]) ?_
          refine lv_goto (tgt := 78) hx hb dX11_rally_73 (by decide) ?_
          exact J_2724 (u_2717 (256 * 0 + 128 * f0 + 0)) (by first | (simp only [c_2718, if_true, if_false, reduceIte]; done) | (simp [c_2718]; done) | rfl | (rw [if_pos c_2718]; done)) _ _ _ hW (lv_sub hl [0, 1, 2] rfl)
        · refine lv_iload_n hx hb dX11_rally_52 rfl (lv_at hl 1 rfl) ?_
          refine lv_if_ne (tgt := 76) hx hb dX11_rally_53 (by decide) (fun c_2727 => ?_) (fun c_2727 => ?_)
          · refine lv_ldc (v := 1000000) hx hb hown (ht _ k_ct_X11_145) dX11_rally_76 ?_
            exact J_2724 1000000 (by first | (simp only [c_2718, c_2727, if_true, if_false, reduceIte]; done) | (simp [c_2718, c_2727]; done) | rfl | (rw [if_neg c_2718, if_neg c_2727]; done)) _ _ _ hW (lv_sub hl [0, 1, 2] rfl)
          · refine lv_aload_n hx hb dX11_rally_56 rfl (lv_at hl 0 rfl) ?_
            refine g_get (k := 6) (v := .ref so) C hW 0 rfl rfl jnX11 (by decide) k_fl_X11_27 rfl dX11_rally_57 ?_
            refine lv_iconst (v := 0) hx hb dX11_rally_60 (by decide) ?_
            refine lv_aload_n hx hb dX11_rally_61 rfl (lv_at hl 0 rfl) ?_
            refine g_get (k := 0) (v := .ref al) C hW 0 rfl rfl jnX11 (by decide) k_fl_X11_7 rfl dX11_rally_62 ?_
            refine lv_bipush (v := 8) hx hb dX11_rally_65 (by decide) ?_
            refine g_ald C hW 1 rfl (vp_in_nI (n := 8) (by omega) (by omega)) dX11_rally_67 ?_
            refine lv_as (y := a 8) (rfl) ?_
            refine lv_as (y := nI f0) (e8) ?_
            refine lv_iconst (v := 0) hx hb dX11_rally_68 (by decide) ?_
            refine g_fi C hW [] rfl (g_runS (As := [.int 0, .int (nI f0), .int 0]) (rest := [.ref so]) (wc := []) C hW hl (c_X11_spot l G 0 f0 0  _) k_ml_X11_146 q_X11_spot (by decide) [] rfl rfl rfl rfl (Nat.le_of_ble_eq_true rfl) dX11_rally_69 (by decide)) (fun r_2728 er_2728 => ?_)
            clear hW H locs; intro H locs hW
            refine lv_as (y := nI (256 * 0 + 128 * f0 + 0)) er_2728 ?_
            clear er_2728 r_2728
            refine g_ald C hW 2 rfl (ix_in (show (nI (256 * 0 + 128 * f0 + 0)) = nI (256 * 0 + 128 * f0 + 0) from (by first | rfl | (simp only [nI_lit, nI_add, pk_mul]; done) | (simp only [nI_lit, nI_add, pk_mul]; congr 1; omega))) (by omega) (by omega)) dX11_rally_72 ?_
            refine lv_as (y := u_2717 (256 * 0 + 128 * f0 + 0)) (by rw [show (nI (256 * 0 + 128 * f0 + 0)).toNatClampNeg = (256 * 0 + 128 * f0 + 0) from ix_cl (show (nI (256 * 0 + 128 * f0 + 0)) = nI (256 * 0 + 128 * f0 + 0) from (by first | rfl | (simp only [nI_lit, nI_add, pk_mul]; done) | (simp only [nI_lit, nI_add, pk_mul]; congr 1; omega))) (Nat.lt_of_lt_of_le (m := 5376) (by omega) (by omega))]) ?_
            refine lv_goto (tgt := 78) hx hb dX11_rally_73 (by decide) ?_
            exact J_2724 (u_2717 (256 * 0 + 128 * f0 + 0)) (by first | (simp only [c_2718, c_2727, if_true, if_false, reduceIte]; done) | (simp [c_2718, c_2727]; done) | rfl | (rw [if_neg c_2718, if_pos c_2727]; done)) _ _ _ hW (lv_sub hl [0, 1, 2] rfl)
      · exfalso; exact hk1 c_2715
set_option maxHeartbeats 4000000 in
set_option maxRecDepth 100000 in
theorem c_X11_rally_many (l : Launch) (G : gT) (mo al ke ik rq so ha te bt an vs : Nat) (mab mbe : Int64) (bL tA tL tK tV : Int32) (a : Nat → Int32) (sv : Nat → Int32) (n hr pl f0 N : Nat) (e0 : a 0 = nI n) (hn : n ≤ 7) (e12 : a 12 = nI hr) (hh : hr < 10000) (e8 : a 8 = nI f0) (hf : f0 < 2) (eN : N = 2 ^ n) (hpl : pl < 2 ^ n) (hF : ¬ 20 < rlF a n hr pl f0) : MI l G yX11_rally cX11_rally 4 .int ({ frames := 4, cells := 0, slots := 0, locals := 99 }) [.ref mo, .int (nI pl), .int (-2)] [(mo, .inr (9, [.ref al, .ref ke, .ref ik, .ref rq, .long mab, .long mbe, .ref so, .ref ha, .ref te, .ref bt, .int bL, .int tA, .int tL, .int tK, .int tV, .ref an, .ref vs])), (al, .inl (G.2.1, 159, .inl a)), (so, .inl (G.2.1, 5376, .inl sv))] (fun (r : Int32) w1 => ∃ u_ : Nat → Int32, (r = rlF a n hr pl f0) ∧ w1 = [(mo, .inr (9, [.ref al, .ref ke, .ref ik, .ref rq, .long mab, .long mbe, .ref so, .ref ha, .ref te, .ref bt, .int bL, .int tA, .int tL, .int tK, .int tV, .ref an, .ref vs])), (al, .inl (G.2.1, 159, .inl a)), (so, .inl (G.2.1, 5376, .inl u_))]) := by
  refine MI.mk (by decide) (Nat.le_of_ble_eq_true rfl) ?_
  intro p_ e_ s_ m_ ar_ be_ me_ cd_ A_ ls C hrt hW hl
  have hx := C.1; have hb := C.2.1; have hown := C.2.2.2.1; have ht := C.2.2.2.2.1
  replace hl : lv_has ls 4 [(0, .ref mo), (1, .int (nI pl)), (2, .int (-2))] := hl
  generalize hQ : MQ be_ _ ar_ s_ 0 0 A_ = Q
  have h2n := pw7 hn
  refine lv_iload_n hx hb dX11_rally_0 rfl (lv_at hl 1 rfl) ?_
  refine lv_i2l hx hb dX11_rally_1 rfl ?_
  refine lv_lconst (v := 0) hx hb dX11_rally_2 (by decide) ?_
  refine lv_iconst (v := 1) hx hb dX11_rally_3 (by decide) ?_
  refine lv_aload_n hx hb dX11_rally_4 rfl (lv_at hl 0 rfl) ?_
  refine g_fi C hW [0, 1] rfl (g_runV (As := []) (rest := [.int 1, .long 0, .long ((nI pl).toInt64)]) (wc := [(mo, .inr (9, [.ref al, .ref ke, .ref ik, .ref rq, .long mab, .long mbe, .ref so, .ref ha, .ref te, .ref bt, .int bL, .int tA, .int tL, .int tK, .int tV, .ref an, .ref vs])), (al, .inl (G.2.1, 159, .inl a))]) (q0 := 0) (ci := 9) C hW hl (c_X11_many l G mo al ke ik rq so ha te bt an vs mab mbe bL tA tL tK tV a n (by first | assumption | omega) _) k_ml_X11_49 q_X11_many (by decide) [0, 1] rfl rfl rfl rfl rfl rfl (Nat.le_of_ble_eq_true rfl) dX11_rally_5 (by decide)) (fun r_2729 er_2729 => ?_)
  clear hW; intro H locs hW
  refine lv_as (y := nI n) er_2729 ?_
  clear er_2729 r_2729
  refine lv_ishl hx hb dX11_rally_8 ?_
  refine lv_iconst (v := 1) hx hb dX11_rally_9 (by decide) ?_
  refine lv_isub hx hb dX11_rally_10 ?_
  refine lv_i2l hx hb dX11_rally_11 rfl ?_
  refine g_fi C hW [] rfl (g_runS (As := [.long ((nI pl).toInt64), .long 0, .long ((((1 : Int32) <<< ((nI n) &&& 31)) - 1).toInt64)]) (rest := []) (wc := []) C hW hl (c_X11_in l G (nI pl) 0 (((1 : Int32) <<< ((nI n) &&& 31)) - 1) 0 ((((1 : Int32) <<< ((nI n) &&& 31)) - 1).toInt64) (by first | rfl | decide) (by first | rfl | decide) _) k_ml_X11_53 q_X11_in (by decide) [] rfl rfl rfl rfl (Nat.le_of_ble_eq_true rfl) dX11_rally_12 (by decide)) (fun r_2730 er_2730 => ?_)
  clear hW H locs; intro H locs hW
  refine lv_as (y := bI (iw (nI pl) 0 (((1 : Int32) <<< ((nI n) &&& 31)) - 1))) er_2730 ?_
  clear er_2730 r_2730
  refine lv_if_eq (tgt := 29) hx hb dX11_rally_15 (by decide) (fun c_2731 => ?_) (fun c_2731 => ?_)
  · exfalso; exact dd (iw_pl hn hpl) c_2731
  · refine lv_iload_n hx hb dX11_rally_18 rfl (lv_at hl 2 rfl) ?_
    refine lv_bipush (v := (-2)) hx hb dX11_rally_19 (by decide) ?_
    refine lv_icmp_lt (tgt := 29) hx hb dX11_rally_21 (by decide) (fun c_2732 => ?_) (fun c_2732 => ?_)
    · replace c_2732 := Int32.not_le.mpr c_2732
      exfalso; exact c_2732 (by decide)
    · replace c_2732 := Int32.not_lt.mp c_2732
      refine lv_iload_n hx hb dX11_rally_24 rfl (lv_at hl 2 rfl) ?_
      refine lv_iconst (v := (-1)) hx hb dX11_rally_25 (by decide) ?_
      refine lv_icmp_ne (tgt := 36) hx hb dX11_rally_26 (by decide) (fun c_2733 => ?_) (fun c_2733 => ?_)
      · refine lv_aload_n hx hb dX11_rally_36 rfl (lv_at hl 0 rfl) ?_
        refine lv_iload_n hx hb dX11_rally_37 rfl (lv_at hl 1 rfl) ?_
        refine g_fvw (wr := []) (ww := fun (u_ : Nat → Int32) => [(mo, .inr (9, [.ref al, .ref ke, .ref ik, .ref rq, .long mab, .long mbe, .ref so, .ref ha, .ref te, .ref bt, .int bL, .int tA, .int tL, .int tK, .int tV, .ref an, .ref vs])), (al, .inl (G.2.1, 159, .inl a)), (so, .inl (G.2.1, 5376, .inl u_))]) (w2 := fun (u_ : Nat → Int32) => [(mo, .inr (9, [.ref al, .ref ke, .ref ik, .ref rq, .long mab, .long mbe, .ref so, .ref ha, .ref te, .ref bt, .int bL, .int tA, .int tL, .int tK, .int tV, .ref an, .ref vs])), (al, .inl (G.2.1, 159, .inl a)), (so, .inl (G.2.1, 5376, .inl u_))]) C hW [0, 1, 2] [] [0, 1, 2] rfl rfl (by decide) (by decide) (by decide) (fun _ => rfl) (g_runV (As := [.int (nI pl)]) (rest := []) (wc := [(mo, .inr (9, [.ref al, .ref ke, .ref ik, .ref rq, .long mab, .long mbe, .ref so, .ref ha, .ref te, .ref bt, .int bL, .int tA, .int tL, .int tK, .int tV, .ref an, .ref vs])), (al, .inl (G.2.1, 159, .inl a)), (so, .inl (G.2.1, 5376, .inl sv))]) (q0 := 0) (ci := 9) C hW hl (c_X11_laySoonest l G mo al ke ik rq so ha te bt an vs mab mbe bL tA tL tK tV a sv n hr pl N (by first | assumption | omega) (by first | assumption | omega) (by first | assumption | omega) (by first | assumption | omega) (by first | assumption | rfl) _) k_ml_X11_149 q_X11_laySoonest (by decide) [0, 1, 2] rfl rfl rfl rfl rfl rfl (Nat.le_of_ble_eq_true rfl) dX11_rally_38 (by decide)) (fun u_2735 er_2734 => ?_)
        clear hW H locs; intro H locs hW
        replace hW : Wd G A_ s_.heap [(mo, .inr (9, [.ref al, .ref ke, .ref ik, .ref rq, .long mab, .long mbe, .ref so, .ref ha, .ref te, .ref bt, .int bL, .int tA, .int tL, .int tK, .int tV, .ref an, .ref vs])), (al, .inl (G.2.1, 159, .inl a)), (so, .inl (G.2.1, 5376, .inl u_2735))] H locs := hW
        have hSo := er_2734
        refine lv_aload_n hx hb dX11_rally_41 rfl (lv_at hl 0 rfl) ?_
        refine g_get (k := 0) (v := .ref al) C hW 0 rfl rfl jnX11 (by decide) k_fl_X11_7 rfl dX11_rally_42 ?_
        refine lv_bipush (v := 9) hx hb dX11_rally_45 (by decide) ?_
        refine g_ald C hW 1 rfl (vp_in_nI (n := 9) (by omega) (by omega)) dX11_rally_47 ?_
        refine lv_as (y := a 9) (rfl) ?_
        refine lv_iconst (v := 1) hx hb dX11_rally_48 (by decide) ?_
        have J_2742 : ∀ (y_2741 : Int32) (_ : y_2741 = (if (a 9) = 1 then u_2735 (256 * 0 + 128 * f0 + 0) else (if (nI pl) = 0 then u_2735 (256 * 0 + 128 * f0 + 0) else 1000000))), ∀ (H : Heap) (locs : List Loc) (ls : Array Slot), Wd G A_ s_.heap [(mo, .inr (9, [.ref al, .ref ke, .ref ik, .ref rq, .long mab, .long mbe, .ref so, .ref ha, .ref te, .ref bt, .int bL, .int tA, .int tL, .int tK, .int tV, .ref an, .ref vs])), (al, .inl (G.2.1, 159, .inl a)), (so, .inl (G.2.1, 5376, .inl u_2735))] H locs → lv_has ls 4 [(0, .ref mo), (1, .int (nI pl)), (2, .int (-2))] → W p_ l e_ ({ frames := 4, cells := 0, slots := 0, locals := 99 }) s_ m_ ar_ be_ me_ cd_ H locs 0 0 Q (F0 m_ 78 ls [.int y_2741]) := by
          intro y_2741 ey_2741 H locs ls hW hl
          refine lv_as (y := rlF a n hr pl f0) (by simp only [ey_2741]; exact rl_e hf (by omega) hSo) ?_
          refine lv_istore_n (lv' := [(3, .int (rlF a n hr pl f0)), (0, .ref mo), (1, .int (nI pl)), (2, .int (-2))]) hx hb dX11_rally_78 rfl hl (by decide) rfl ?_
          clear hl ls; intro ls hl
          refine lv_iload_n hx hb dX11_rally_79 rfl (lv_at hl 0 rfl) ?_
          refine lv_bipush (v := 20) hx hb dX11_rally_80 (by decide) ?_
          refine lv_icmp_le (tgt := 88) hx hb dX11_rally_82 (by decide) (fun c_2743 => ?_) (fun c_2743 => ?_)
          · replace c_2743 := Int32.not_lt.mpr c_2743
            refine lv_iload_n hx hb dX11_rally_88 rfl (lv_at hl 3 rfl) ?_
            refine lv_bipush (v := (-2)) hx hb dX11_rally_89 (by decide) ?_
            refine lv_icmp_ne (tgt := 98) hx hb dX11_rally_91 (by decide) (fun c_2744 => ?_) (fun c_2744 => ?_)
            · exfalso; exact c_2744 rfl
            · refine lv_iload_n hx hb dX11_rally_94 rfl (lv_at hl 0 rfl) ?_
              refine lv_goto (tgt := 114) hx hb dX11_rally_95 (by decide) ?_
              subst hQ
              exact g_iret (v := (rlF a n hr pl f0)) C hW hrt ⟨u_2735, by rfl, by rfl⟩ dX11_rally_114
          · replace c_2743 := Int32.not_le.mp c_2743
            exfalso; exact hF c_2743
        refine lv_icmp_eq (tgt := 56) hx hb dX11_rally_49 (by decide) (fun c_2736 => ?_) (fun c_2736 => ?_)
        · refine lv_aload_n hx hb dX11_rally_56 rfl (lv_at hl 0 rfl) ?_
          refine g_get (k := 6) (v := .ref so) C hW 0 rfl rfl jnX11 (by decide) k_fl_X11_27 rfl dX11_rally_57 ?_
          refine lv_iconst (v := 0) hx hb dX11_rally_60 (by decide) ?_
          refine lv_aload_n hx hb dX11_rally_61 rfl (lv_at hl 0 rfl) ?_
          refine g_get (k := 0) (v := .ref al) C hW 0 rfl rfl jnX11 (by decide) k_fl_X11_7 rfl dX11_rally_62 ?_
          refine lv_bipush (v := 8) hx hb dX11_rally_65 (by decide) ?_
          refine g_ald C hW 1 rfl (vp_in_nI (n := 8) (by omega) (by omega)) dX11_rally_67 ?_
          refine lv_as (y := a 8) (rfl) ?_
          refine lv_as (y := nI f0) (e8) ?_
          refine lv_iconst (v := 0) hx hb dX11_rally_68 (by decide) ?_
          refine g_fi C hW [] rfl (g_runS (As := [.int 0, .int (nI f0), .int 0]) (rest := [.ref so]) (wc := []) C hW hl (c_X11_spot l G 0 f0 0  _) k_ml_X11_146 q_X11_spot (by decide) [] rfl rfl rfl rfl (Nat.le_of_ble_eq_true rfl) dX11_rally_69 (by decide)) (fun r_2745 er_2745 => ?_)
          clear hW H locs; intro H locs hW
          refine lv_as (y := nI (256 * 0 + 128 * f0 + 0)) er_2745 ?_
          clear er_2745 r_2745
          refine g_ald C hW 2 rfl (ix_in (show (nI (256 * 0 + 128 * f0 + 0)) = nI (256 * 0 + 128 * f0 + 0) from (by first | rfl | (simp only [nI_lit, nI_add, pk_mul]; done) | (simp only [nI_lit, nI_add, pk_mul]; congr 1; omega))) (by omega) (by omega)) dX11_rally_72 ?_
          refine lv_as (y := u_2735 (256 * 0 + 128 * f0 + 0)) (by rw [show (nI (256 * 0 + 128 * f0 + 0)).toNatClampNeg = (256 * 0 + 128 * f0 + 0) from ix_cl (show (nI (256 * 0 + 128 * f0 + 0)) = nI (256 * 0 + 128 * f0 + 0) from (by first | rfl | (simp only [nI_lit, nI_add, pk_mul]; done) | (simp only [nI_lit, nI_add, pk_mul]; congr 1; omega))) (Nat.lt_of_lt_of_le (m := 5376) (by omega) (by omega))]) ?_
          refine lv_goto (tgt := 78) hx hb dX11_rally_73 (by decide) ?_
          exact J_2742 (u_2735 (256 * 0 + 128 * f0 + 0)) (by first | (simp only [c_2736, if_true, if_false, reduceIte]; done) | (simp [c_2736]; done) | rfl | (rw [if_pos c_2736]; done)) _ _ _ hW (lv_sub hl [0, 1, 2] rfl)
        · refine lv_iload_n hx hb dX11_rally_52 rfl (lv_at hl 1 rfl) ?_
          refine lv_if_ne (tgt := 76) hx hb dX11_rally_53 (by decide) (fun c_2746 => ?_) (fun c_2746 => ?_)
          · refine lv_ldc (v := 1000000) hx hb hown (ht _ k_ct_X11_145) dX11_rally_76 ?_
            exact J_2742 1000000 (by first | (simp only [c_2736, c_2746, if_true, if_false, reduceIte]; done) | (simp [c_2736, c_2746]; done) | rfl | (rw [if_neg c_2736, if_neg c_2746]; done)) _ _ _ hW (lv_sub hl [0, 1, 2] rfl)
          · refine lv_aload_n hx hb dX11_rally_56 rfl (lv_at hl 0 rfl) ?_
            refine g_get (k := 6) (v := .ref so) C hW 0 rfl rfl jnX11 (by decide) k_fl_X11_27 rfl dX11_rally_57 ?_
            refine lv_iconst (v := 0) hx hb dX11_rally_60 (by decide) ?_
            refine lv_aload_n hx hb dX11_rally_61 rfl (lv_at hl 0 rfl) ?_
            refine g_get (k := 0) (v := .ref al) C hW 0 rfl rfl jnX11 (by decide) k_fl_X11_7 rfl dX11_rally_62 ?_
            refine lv_bipush (v := 8) hx hb dX11_rally_65 (by decide) ?_
            refine g_ald C hW 1 rfl (vp_in_nI (n := 8) (by omega) (by omega)) dX11_rally_67 ?_
            refine lv_as (y := a 8) (rfl) ?_
            refine lv_as (y := nI f0) (e8) ?_
            refine lv_iconst (v := 0) hx hb dX11_rally_68 (by decide) ?_
            refine g_fi C hW [] rfl (g_runS (As := [.int 0, .int (nI f0), .int 0]) (rest := [.ref so]) (wc := []) C hW hl (c_X11_spot l G 0 f0 0  _) k_ml_X11_146 q_X11_spot (by decide) [] rfl rfl rfl rfl (Nat.le_of_ble_eq_true rfl) dX11_rally_69 (by decide)) (fun r_2747 er_2747 => ?_)
            clear hW H locs; intro H locs hW
            refine lv_as (y := nI (256 * 0 + 128 * f0 + 0)) er_2747 ?_
            clear er_2747 r_2747
            refine g_ald C hW 2 rfl (ix_in (show (nI (256 * 0 + 128 * f0 + 0)) = nI (256 * 0 + 128 * f0 + 0) from (by first | rfl | (simp only [nI_lit, nI_add, pk_mul]; done) | (simp only [nI_lit, nI_add, pk_mul]; congr 1; omega))) (by omega) (by omega)) dX11_rally_72 ?_
            refine lv_as (y := u_2735 (256 * 0 + 128 * f0 + 0)) (by rw [show (nI (256 * 0 + 128 * f0 + 0)).toNatClampNeg = (256 * 0 + 128 * f0 + 0) from ix_cl (show (nI (256 * 0 + 128 * f0 + 0)) = nI (256 * 0 + 128 * f0 + 0) from (by first | rfl | (simp only [nI_lit, nI_add, pk_mul]; done) | (simp only [nI_lit, nI_add, pk_mul]; congr 1; omega))) (Nat.lt_of_lt_of_le (m := 5376) (by omega) (by omega))]) ?_
            refine lv_goto (tgt := 78) hx hb dX11_rally_73 (by decide) ?_
            exact J_2742 (u_2735 (256 * 0 + 128 * f0 + 0)) (by first | (simp only [c_2736, c_2746, if_true, if_false, reduceIte]; done) | (simp [c_2736, c_2746]; done) | rfl | (rw [if_neg c_2736, if_pos c_2746]; done)) _ _ _ hW (lv_sub hl [0, 1, 2] rfl)
      · exfalso; exact absurd c_2733 (by decide)
set_option maxHeartbeats 4000000 in
set_option maxRecDepth 100000 in
theorem c_X11_rally_less (l : Launch) (G : gT) (mo al ke ik rq so ha te bt an vs : Nat) (mab mbe : Int64) (bL tA tL tK tV : Int32) (a : Nat → Int32) (sv : Nat → Int32) (n hr pl f0 N : Nat) (k9 : Int32) (e0 : a 0 = nI n) (hn : n ≤ 7) (e12 : a 12 = nI hr) (hh : hr < 10000) (e8 : a 8 = nI f0) (hf : f0 < 2) (eN : N = 2 ^ n) (hpl : pl < 2 ^ n) (hk0 : 0 ≤ k9) (hF : ¬ 20 < rlF a n hr pl f0) (hl9 : ¬ k9 < rlF a n hr pl f0) : MI l G yX11_rally cX11_rally 4 .int ({ frames := 4, cells := 0, slots := 0, locals := 99 }) [.ref mo, .int (nI pl), .int k9] [(mo, .inr (9, [.ref al, .ref ke, .ref ik, .ref rq, .long mab, .long mbe, .ref so, .ref ha, .ref te, .ref bt, .int bL, .int tA, .int tL, .int tK, .int tV, .ref an, .ref vs])), (al, .inl (G.2.1, 159, .inl a)), (so, .inl (G.2.1, 5376, .inl sv))] (fun (r : Int32) w1 => ∃ u_ : Nat → Int32, (r = (-5)) ∧ w1 = [(mo, .inr (9, [.ref al, .ref ke, .ref ik, .ref rq, .long mab, .long mbe, .ref so, .ref ha, .ref te, .ref bt, .int bL, .int tA, .int tL, .int tK, .int tV, .ref an, .ref vs])), (al, .inl (G.2.1, 159, .inl a)), (so, .inl (G.2.1, 5376, .inl u_))]) := by
  refine MI.mk (by decide) (Nat.le_of_ble_eq_true rfl) ?_
  intro p_ e_ s_ m_ ar_ be_ me_ cd_ A_ ls C hrt hW hl
  have hx := C.1; have hb := C.2.1; have hown := C.2.2.2.1; have ht := C.2.2.2.2.1
  replace hl : lv_has ls 4 [(0, .ref mo), (1, .int (nI pl)), (2, .int k9)] := hl
  generalize hQ : MQ be_ _ ar_ s_ 0 0 A_ = Q
  have h2n := pw7 hn
  refine lv_iload_n hx hb dX11_rally_0 rfl (lv_at hl 1 rfl) ?_
  refine lv_i2l hx hb dX11_rally_1 rfl ?_
  refine lv_lconst (v := 0) hx hb dX11_rally_2 (by decide) ?_
  refine lv_iconst (v := 1) hx hb dX11_rally_3 (by decide) ?_
  refine lv_aload_n hx hb dX11_rally_4 rfl (lv_at hl 0 rfl) ?_
  refine g_fi C hW [0, 1] rfl (g_runV (As := []) (rest := [.int 1, .long 0, .long ((nI pl).toInt64)]) (wc := [(mo, .inr (9, [.ref al, .ref ke, .ref ik, .ref rq, .long mab, .long mbe, .ref so, .ref ha, .ref te, .ref bt, .int bL, .int tA, .int tL, .int tK, .int tV, .ref an, .ref vs])), (al, .inl (G.2.1, 159, .inl a))]) (q0 := 0) (ci := 9) C hW hl (c_X11_many l G mo al ke ik rq so ha te bt an vs mab mbe bL tA tL tK tV a n (by first | assumption | omega) _) k_ml_X11_49 q_X11_many (by decide) [0, 1] rfl rfl rfl rfl rfl rfl (Nat.le_of_ble_eq_true rfl) dX11_rally_5 (by decide)) (fun r_2748 er_2748 => ?_)
  clear hW; intro H locs hW
  refine lv_as (y := nI n) er_2748 ?_
  clear er_2748 r_2748
  refine lv_ishl hx hb dX11_rally_8 ?_
  refine lv_iconst (v := 1) hx hb dX11_rally_9 (by decide) ?_
  refine lv_isub hx hb dX11_rally_10 ?_
  refine lv_i2l hx hb dX11_rally_11 rfl ?_
  refine g_fi C hW [] rfl (g_runS (As := [.long ((nI pl).toInt64), .long 0, .long ((((1 : Int32) <<< ((nI n) &&& 31)) - 1).toInt64)]) (rest := []) (wc := []) C hW hl (c_X11_in l G (nI pl) 0 (((1 : Int32) <<< ((nI n) &&& 31)) - 1) 0 ((((1 : Int32) <<< ((nI n) &&& 31)) - 1).toInt64) (by first | rfl | decide) (by first | rfl | decide) _) k_ml_X11_53 q_X11_in (by decide) [] rfl rfl rfl rfl (Nat.le_of_ble_eq_true rfl) dX11_rally_12 (by decide)) (fun r_2749 er_2749 => ?_)
  clear hW H locs; intro H locs hW
  refine lv_as (y := bI (iw (nI pl) 0 (((1 : Int32) <<< ((nI n) &&& 31)) - 1))) er_2749 ?_
  clear er_2749 r_2749
  refine lv_if_eq (tgt := 29) hx hb dX11_rally_15 (by decide) (fun c_2750 => ?_) (fun c_2750 => ?_)
  · exfalso; exact dd (iw_pl hn hpl) c_2750
  · refine lv_iload_n hx hb dX11_rally_18 rfl (lv_at hl 2 rfl) ?_
    refine lv_bipush (v := (-2)) hx hb dX11_rally_19 (by decide) ?_
    refine lv_icmp_lt (tgt := 29) hx hb dX11_rally_21 (by decide) (fun c_2751 => ?_) (fun c_2751 => ?_)
    · replace c_2751 := Int32.not_le.mpr c_2751
      exfalso; exact c_2751 (ge_m2 hk0)
    · replace c_2751 := Int32.not_lt.mp c_2751
      refine lv_iload_n hx hb dX11_rally_24 rfl (lv_at hl 2 rfl) ?_
      refine lv_iconst (v := (-1)) hx hb dX11_rally_25 (by decide) ?_
      refine lv_icmp_ne (tgt := 36) hx hb dX11_rally_26 (by decide) (fun c_2752 => ?_) (fun c_2752 => ?_)
      · refine lv_aload_n hx hb dX11_rally_36 rfl (lv_at hl 0 rfl) ?_
        refine lv_iload_n hx hb dX11_rally_37 rfl (lv_at hl 1 rfl) ?_
        refine g_fvw (wr := []) (ww := fun (u_ : Nat → Int32) => [(mo, .inr (9, [.ref al, .ref ke, .ref ik, .ref rq, .long mab, .long mbe, .ref so, .ref ha, .ref te, .ref bt, .int bL, .int tA, .int tL, .int tK, .int tV, .ref an, .ref vs])), (al, .inl (G.2.1, 159, .inl a)), (so, .inl (G.2.1, 5376, .inl u_))]) (w2 := fun (u_ : Nat → Int32) => [(mo, .inr (9, [.ref al, .ref ke, .ref ik, .ref rq, .long mab, .long mbe, .ref so, .ref ha, .ref te, .ref bt, .int bL, .int tA, .int tL, .int tK, .int tV, .ref an, .ref vs])), (al, .inl (G.2.1, 159, .inl a)), (so, .inl (G.2.1, 5376, .inl u_))]) C hW [0, 1, 2] [] [0, 1, 2] rfl rfl (by decide) (by decide) (by decide) (fun _ => rfl) (g_runV (As := [.int (nI pl)]) (rest := []) (wc := [(mo, .inr (9, [.ref al, .ref ke, .ref ik, .ref rq, .long mab, .long mbe, .ref so, .ref ha, .ref te, .ref bt, .int bL, .int tA, .int tL, .int tK, .int tV, .ref an, .ref vs])), (al, .inl (G.2.1, 159, .inl a)), (so, .inl (G.2.1, 5376, .inl sv))]) (q0 := 0) (ci := 9) C hW hl (c_X11_laySoonest l G mo al ke ik rq so ha te bt an vs mab mbe bL tA tL tK tV a sv n hr pl N (by first | assumption | omega) (by first | assumption | omega) (by first | assumption | omega) (by first | assumption | omega) (by first | assumption | rfl) _) k_ml_X11_149 q_X11_laySoonest (by decide) [0, 1, 2] rfl rfl rfl rfl rfl rfl (Nat.le_of_ble_eq_true rfl) dX11_rally_38 (by decide)) (fun u_2754 er_2753 => ?_)
        clear hW H locs; intro H locs hW
        replace hW : Wd G A_ s_.heap [(mo, .inr (9, [.ref al, .ref ke, .ref ik, .ref rq, .long mab, .long mbe, .ref so, .ref ha, .ref te, .ref bt, .int bL, .int tA, .int tL, .int tK, .int tV, .ref an, .ref vs])), (al, .inl (G.2.1, 159, .inl a)), (so, .inl (G.2.1, 5376, .inl u_2754))] H locs := hW
        have hSo := er_2753
        refine lv_aload_n hx hb dX11_rally_41 rfl (lv_at hl 0 rfl) ?_
        refine g_get (k := 0) (v := .ref al) C hW 0 rfl rfl jnX11 (by decide) k_fl_X11_7 rfl dX11_rally_42 ?_
        refine lv_bipush (v := 9) hx hb dX11_rally_45 (by decide) ?_
        refine g_ald C hW 1 rfl (vp_in_nI (n := 9) (by omega) (by omega)) dX11_rally_47 ?_
        refine lv_as (y := a 9) (rfl) ?_
        refine lv_iconst (v := 1) hx hb dX11_rally_48 (by decide) ?_
        have J_2761 : ∀ (y_2760 : Int32) (_ : y_2760 = (if (a 9) = 1 then u_2754 (256 * 0 + 128 * f0 + 0) else (if (nI pl) = 0 then u_2754 (256 * 0 + 128 * f0 + 0) else 1000000))), ∀ (H : Heap) (locs : List Loc) (ls : Array Slot), Wd G A_ s_.heap [(mo, .inr (9, [.ref al, .ref ke, .ref ik, .ref rq, .long mab, .long mbe, .ref so, .ref ha, .ref te, .ref bt, .int bL, .int tA, .int tL, .int tK, .int tV, .ref an, .ref vs])), (al, .inl (G.2.1, 159, .inl a)), (so, .inl (G.2.1, 5376, .inl u_2754))] H locs → lv_has ls 4 [(0, .ref mo), (1, .int (nI pl)), (2, .int k9)] → W p_ l e_ ({ frames := 4, cells := 0, slots := 0, locals := 99 }) s_ m_ ar_ be_ me_ cd_ H locs 0 0 Q (F0 m_ 78 ls [.int y_2760]) := by
          intro y_2760 ey_2760 H locs ls hW hl
          refine lv_as (y := rlF a n hr pl f0) (by simp only [ey_2760]; exact rl_e hf (by omega) hSo) ?_
          refine lv_istore_n (lv' := [(3, .int (rlF a n hr pl f0)), (0, .ref mo), (1, .int (nI pl)), (2, .int k9)]) hx hb dX11_rally_78 rfl hl (by decide) rfl ?_
          clear hl ls; intro ls hl
          refine lv_iload_n hx hb dX11_rally_79 rfl (lv_at hl 0 rfl) ?_
          refine lv_bipush (v := 20) hx hb dX11_rally_80 (by decide) ?_
          refine lv_icmp_le (tgt := 88) hx hb dX11_rally_82 (by decide) (fun c_2762 => ?_) (fun c_2762 => ?_)
          · replace c_2762 := Int32.not_lt.mpr c_2762
            refine lv_iload_n hx hb dX11_rally_88 rfl (lv_at hl 3 rfl) ?_
            refine lv_bipush (v := (-2)) hx hb dX11_rally_89 (by decide) ?_
            refine lv_icmp_ne (tgt := 98) hx hb dX11_rally_91 (by decide) (fun c_2763 => ?_) (fun c_2763 => ?_)
            · refine lv_iload_n hx hb dX11_rally_98 rfl (lv_at hl 3 rfl) ?_
              refine lv_iload_n hx hb dX11_rally_99 rfl (lv_at hl 0 rfl) ?_
              refine lv_icmp_lt (tgt := 108) hx hb dX11_rally_100 (by decide) (fun c_2764 => ?_) (fun c_2764 => ?_)
              · replace c_2764 := Int32.not_le.mpr c_2764
                exfalso; exact c_2764 (Int32.not_lt.mp hl9)
              · replace c_2764 := Int32.not_lt.mp c_2764
                refine lv_bipush (v := (-5)) hx hb dX11_rally_103 (by decide) ?_
                refine lv_goto (tgt := 114) hx hb dX11_rally_105 (by decide) ?_
                subst hQ
                exact g_iret (v := (-5)) C hW hrt ⟨u_2754, by rfl, by rfl⟩ dX11_rally_114
            · exfalso; exact ge_ne2 hk0 c_2763
          · replace c_2762 := Int32.not_le.mp c_2762
            exfalso; exact hF c_2762
        refine lv_icmp_eq (tgt := 56) hx hb dX11_rally_49 (by decide) (fun c_2755 => ?_) (fun c_2755 => ?_)
        · refine lv_aload_n hx hb dX11_rally_56 rfl (lv_at hl 0 rfl) ?_
          refine g_get (k := 6) (v := .ref so) C hW 0 rfl rfl jnX11 (by decide) k_fl_X11_27 rfl dX11_rally_57 ?_
          refine lv_iconst (v := 0) hx hb dX11_rally_60 (by decide) ?_
          refine lv_aload_n hx hb dX11_rally_61 rfl (lv_at hl 0 rfl) ?_
          refine g_get (k := 0) (v := .ref al) C hW 0 rfl rfl jnX11 (by decide) k_fl_X11_7 rfl dX11_rally_62 ?_
          refine lv_bipush (v := 8) hx hb dX11_rally_65 (by decide) ?_
          refine g_ald C hW 1 rfl (vp_in_nI (n := 8) (by omega) (by omega)) dX11_rally_67 ?_
          refine lv_as (y := a 8) (rfl) ?_
          refine lv_as (y := nI f0) (e8) ?_
          refine lv_iconst (v := 0) hx hb dX11_rally_68 (by decide) ?_
          refine g_fi C hW [] rfl (g_runS (As := [.int 0, .int (nI f0), .int 0]) (rest := [.ref so]) (wc := []) C hW hl (c_X11_spot l G 0 f0 0  _) k_ml_X11_146 q_X11_spot (by decide) [] rfl rfl rfl rfl (Nat.le_of_ble_eq_true rfl) dX11_rally_69 (by decide)) (fun r_2765 er_2765 => ?_)
          clear hW H locs; intro H locs hW
          refine lv_as (y := nI (256 * 0 + 128 * f0 + 0)) er_2765 ?_
          clear er_2765 r_2765
          refine g_ald C hW 2 rfl (ix_in (show (nI (256 * 0 + 128 * f0 + 0)) = nI (256 * 0 + 128 * f0 + 0) from (by first | rfl | (simp only [nI_lit, nI_add, pk_mul]; done) | (simp only [nI_lit, nI_add, pk_mul]; congr 1; omega))) (by omega) (by omega)) dX11_rally_72 ?_
          refine lv_as (y := u_2754 (256 * 0 + 128 * f0 + 0)) (by rw [show (nI (256 * 0 + 128 * f0 + 0)).toNatClampNeg = (256 * 0 + 128 * f0 + 0) from ix_cl (show (nI (256 * 0 + 128 * f0 + 0)) = nI (256 * 0 + 128 * f0 + 0) from (by first | rfl | (simp only [nI_lit, nI_add, pk_mul]; done) | (simp only [nI_lit, nI_add, pk_mul]; congr 1; omega))) (Nat.lt_of_lt_of_le (m := 5376) (by omega) (by omega))]) ?_
          refine lv_goto (tgt := 78) hx hb dX11_rally_73 (by decide) ?_
          exact J_2761 (u_2754 (256 * 0 + 128 * f0 + 0)) (by first | (simp only [c_2755, if_true, if_false, reduceIte]; done) | (simp [c_2755]; done) | rfl | (rw [if_pos c_2755]; done)) _ _ _ hW (lv_sub hl [0, 1, 2] rfl)
        · refine lv_iload_n hx hb dX11_rally_52 rfl (lv_at hl 1 rfl) ?_
          refine lv_if_ne (tgt := 76) hx hb dX11_rally_53 (by decide) (fun c_2766 => ?_) (fun c_2766 => ?_)
          · refine lv_ldc (v := 1000000) hx hb hown (ht _ k_ct_X11_145) dX11_rally_76 ?_
            exact J_2761 1000000 (by first | (simp only [c_2755, c_2766, if_true, if_false, reduceIte]; done) | (simp [c_2755, c_2766]; done) | rfl | (rw [if_neg c_2755, if_neg c_2766]; done)) _ _ _ hW (lv_sub hl [0, 1, 2] rfl)
          · refine lv_aload_n hx hb dX11_rally_56 rfl (lv_at hl 0 rfl) ?_
            refine g_get (k := 6) (v := .ref so) C hW 0 rfl rfl jnX11 (by decide) k_fl_X11_27 rfl dX11_rally_57 ?_
            refine lv_iconst (v := 0) hx hb dX11_rally_60 (by decide) ?_
            refine lv_aload_n hx hb dX11_rally_61 rfl (lv_at hl 0 rfl) ?_
            refine g_get (k := 0) (v := .ref al) C hW 0 rfl rfl jnX11 (by decide) k_fl_X11_7 rfl dX11_rally_62 ?_
            refine lv_bipush (v := 8) hx hb dX11_rally_65 (by decide) ?_
            refine g_ald C hW 1 rfl (vp_in_nI (n := 8) (by omega) (by omega)) dX11_rally_67 ?_
            refine lv_as (y := a 8) (rfl) ?_
            refine lv_as (y := nI f0) (e8) ?_
            refine lv_iconst (v := 0) hx hb dX11_rally_68 (by decide) ?_
            refine g_fi C hW [] rfl (g_runS (As := [.int 0, .int (nI f0), .int 0]) (rest := [.ref so]) (wc := []) C hW hl (c_X11_spot l G 0 f0 0  _) k_ml_X11_146 q_X11_spot (by decide) [] rfl rfl rfl rfl (Nat.le_of_ble_eq_true rfl) dX11_rally_69 (by decide)) (fun r_2767 er_2767 => ?_)
            clear hW H locs; intro H locs hW
            refine lv_as (y := nI (256 * 0 + 128 * f0 + 0)) er_2767 ?_
            clear er_2767 r_2767
            refine g_ald C hW 2 rfl (ix_in (show (nI (256 * 0 + 128 * f0 + 0)) = nI (256 * 0 + 128 * f0 + 0) from (by first | rfl | (simp only [nI_lit, nI_add, pk_mul]; done) | (simp only [nI_lit, nI_add, pk_mul]; congr 1; omega))) (by omega) (by omega)) dX11_rally_72 ?_
            refine lv_as (y := u_2754 (256 * 0 + 128 * f0 + 0)) (by rw [show (nI (256 * 0 + 128 * f0 + 0)).toNatClampNeg = (256 * 0 + 128 * f0 + 0) from ix_cl (show (nI (256 * 0 + 128 * f0 + 0)) = nI (256 * 0 + 128 * f0 + 0) from (by first | rfl | (simp only [nI_lit, nI_add, pk_mul]; done) | (simp only [nI_lit, nI_add, pk_mul]; congr 1; omega))) (Nat.lt_of_lt_of_le (m := 5376) (by omega) (by omega))]) ?_
            refine lv_goto (tgt := 78) hx hb dX11_rally_73 (by decide) ?_
            exact J_2761 (u_2754 (256 * 0 + 128 * f0 + 0)) (by first | (simp only [c_2755, c_2766, if_true, if_false, reduceIte]; done) | (simp [c_2755, c_2766]; done) | rfl | (rw [if_neg c_2755, if_pos c_2766]; done)) _ _ _ hW (lv_sub hl [0, 1, 2] rfl)
      · exfalso; exact ge_m1 hk0 c_2752
set_option maxHeartbeats 4000000 in
set_option maxRecDepth 100000 in
theorem c_X11_rally_who (l : Launch) (G : gT) (mo al ke ik rq so ha te bt an vs : Nat) (mab mbe : Int64) (bL tA tL tK tV : Int32) (a : Nat → Int32) (sv : Nat → Int32) (n hr pl f0 N : Nat) (k m : Nat) (e0 : a 0 = nI n) (hn : n ≤ 7) (e12 : a 12 = nI hr) (hh : hr < 10000) (e8 : a 8 = nI f0) (hf : f0 < 2) (eN : N = 2 ^ n) (hpl : pl < 2 ^ n) (hF : rlF a n hr pl f0 = nI m) (hkm : k < m ∧ m ≤ 20) (hok : ∀ h, h < k + 1 → nI m < soD a n hr pl (20 - (h + 1)) (skR a n hr pl m f0 h).1 (skR a n hr pl m f0 h).2.1 → wfN a n hr pl h (skR a n hr pl m f0 h).1 (skR a n hr pl m f0 h).2.1 m < n) : MI l G yX11_rally cX11_rally 4 .int ({ frames := 4, cells := 0, slots := 0, locals := 99 }) [.ref mo, .int (nI pl), .int (nI k)] [(mo, .inr (9, [.ref al, .ref ke, .ref ik, .ref rq, .long mab, .long mbe, .ref so, .ref ha, .ref te, .ref bt, .int bL, .int tA, .int tL, .int tK, .int tV, .ref an, .ref vs])), (al, .inl (G.2.1, 159, .inl a)), (so, .inl (G.2.1, 5376, .inl sv))] (fun (r : Int32) w1 => ∃ u_ : Nat → Int32, (r = (skR a n hr pl m f0 (k + 1)).2.2) ∧ w1 = [(mo, .inr (9, [.ref al, .ref ke, .ref ik, .ref rq, .long mab, .long mbe, .ref so, .ref ha, .ref te, .ref bt, .int bL, .int tA, .int tL, .int tK, .int tV, .ref an, .ref vs])), (al, .inl (G.2.1, 159, .inl a)), (so, .inl (G.2.1, 5376, .inl u_))]) := by
  refine MI.mk (by decide) (Nat.le_of_ble_eq_true rfl) ?_
  intro p_ e_ s_ m_ ar_ be_ me_ cd_ A_ ls C hrt hW hl
  have hx := C.1; have hb := C.2.1; have hown := C.2.2.2.1; have ht := C.2.2.2.2.1
  replace hl : lv_has ls 4 [(0, .ref mo), (1, .int (nI pl)), (2, .int (nI k))] := hl
  generalize hQ : MQ be_ _ ar_ s_ 0 0 A_ = Q
  have h2n := pw7 hn
  refine lv_iload_n hx hb dX11_rally_0 rfl (lv_at hl 1 rfl) ?_
  refine lv_i2l hx hb dX11_rally_1 rfl ?_
  refine lv_lconst (v := 0) hx hb dX11_rally_2 (by decide) ?_
  refine lv_iconst (v := 1) hx hb dX11_rally_3 (by decide) ?_
  refine lv_aload_n hx hb dX11_rally_4 rfl (lv_at hl 0 rfl) ?_
  refine g_fi C hW [0, 1] rfl (g_runV (As := []) (rest := [.int 1, .long 0, .long ((nI pl).toInt64)]) (wc := [(mo, .inr (9, [.ref al, .ref ke, .ref ik, .ref rq, .long mab, .long mbe, .ref so, .ref ha, .ref te, .ref bt, .int bL, .int tA, .int tL, .int tK, .int tV, .ref an, .ref vs])), (al, .inl (G.2.1, 159, .inl a))]) (q0 := 0) (ci := 9) C hW hl (c_X11_many l G mo al ke ik rq so ha te bt an vs mab mbe bL tA tL tK tV a n (by first | assumption | omega) _) k_ml_X11_49 q_X11_many (by decide) [0, 1] rfl rfl rfl rfl rfl rfl (Nat.le_of_ble_eq_true rfl) dX11_rally_5 (by decide)) (fun r_2768 er_2768 => ?_)
  clear hW; intro H locs hW
  refine lv_as (y := nI n) er_2768 ?_
  clear er_2768 r_2768
  refine lv_ishl hx hb dX11_rally_8 ?_
  refine lv_iconst (v := 1) hx hb dX11_rally_9 (by decide) ?_
  refine lv_isub hx hb dX11_rally_10 ?_
  refine lv_i2l hx hb dX11_rally_11 rfl ?_
  refine g_fi C hW [] rfl (g_runS (As := [.long ((nI pl).toInt64), .long 0, .long ((((1 : Int32) <<< ((nI n) &&& 31)) - 1).toInt64)]) (rest := []) (wc := []) C hW hl (c_X11_in l G (nI pl) 0 (((1 : Int32) <<< ((nI n) &&& 31)) - 1) 0 ((((1 : Int32) <<< ((nI n) &&& 31)) - 1).toInt64) (by first | rfl | decide) (by first | rfl | decide) _) k_ml_X11_53 q_X11_in (by decide) [] rfl rfl rfl rfl (Nat.le_of_ble_eq_true rfl) dX11_rally_12 (by decide)) (fun r_2769 er_2769 => ?_)
  clear hW H locs; intro H locs hW
  refine lv_as (y := bI (iw (nI pl) 0 (((1 : Int32) <<< ((nI n) &&& 31)) - 1))) er_2769 ?_
  clear er_2769 r_2769
  refine lv_if_eq (tgt := 29) hx hb dX11_rally_15 (by decide) (fun c_2770 => ?_) (fun c_2770 => ?_)
  · exfalso; exact dd (iw_pl hn hpl) c_2770
  · refine lv_iload_n hx hb dX11_rally_18 rfl (lv_at hl 2 rfl) ?_
    refine lv_bipush (v := (-2)) hx hb dX11_rally_19 (by decide) ?_
    refine lv_icmp_lt (tgt := 29) hx hb dX11_rally_21 (by decide) (fun c_2771 => ?_) (fun c_2771 => ?_)
    · replace c_2771 := Int32.not_le.mpr c_2771
      exfalso; exact c_2771 (ge_m2 (nI_pos' (by omega)))
    · replace c_2771 := Int32.not_lt.mp c_2771
      refine lv_iload_n hx hb dX11_rally_24 rfl (lv_at hl 2 rfl) ?_
      refine lv_iconst (v := (-1)) hx hb dX11_rally_25 (by decide) ?_
      refine lv_icmp_ne (tgt := 36) hx hb dX11_rally_26 (by decide) (fun c_2772 => ?_) (fun c_2772 => ?_)
      · refine lv_aload_n hx hb dX11_rally_36 rfl (lv_at hl 0 rfl) ?_
        refine lv_iload_n hx hb dX11_rally_37 rfl (lv_at hl 1 rfl) ?_
        refine g_fvw (wr := []) (ww := fun (u_ : Nat → Int32) => [(mo, .inr (9, [.ref al, .ref ke, .ref ik, .ref rq, .long mab, .long mbe, .ref so, .ref ha, .ref te, .ref bt, .int bL, .int tA, .int tL, .int tK, .int tV, .ref an, .ref vs])), (al, .inl (G.2.1, 159, .inl a)), (so, .inl (G.2.1, 5376, .inl u_))]) (w2 := fun (u_ : Nat → Int32) => [(mo, .inr (9, [.ref al, .ref ke, .ref ik, .ref rq, .long mab, .long mbe, .ref so, .ref ha, .ref te, .ref bt, .int bL, .int tA, .int tL, .int tK, .int tV, .ref an, .ref vs])), (al, .inl (G.2.1, 159, .inl a)), (so, .inl (G.2.1, 5376, .inl u_))]) C hW [0, 1, 2] [] [0, 1, 2] rfl rfl (by decide) (by decide) (by decide) (fun _ => rfl) (g_runV (As := [.int (nI pl)]) (rest := []) (wc := [(mo, .inr (9, [.ref al, .ref ke, .ref ik, .ref rq, .long mab, .long mbe, .ref so, .ref ha, .ref te, .ref bt, .int bL, .int tA, .int tL, .int tK, .int tV, .ref an, .ref vs])), (al, .inl (G.2.1, 159, .inl a)), (so, .inl (G.2.1, 5376, .inl sv))]) (q0 := 0) (ci := 9) C hW hl (c_X11_laySoonest l G mo al ke ik rq so ha te bt an vs mab mbe bL tA tL tK tV a sv n hr pl N (by first | assumption | omega) (by first | assumption | omega) (by first | assumption | omega) (by first | assumption | omega) (by first | assumption | rfl) _) k_ml_X11_149 q_X11_laySoonest (by decide) [0, 1, 2] rfl rfl rfl rfl rfl rfl (Nat.le_of_ble_eq_true rfl) dX11_rally_38 (by decide)) (fun u_2774 er_2773 => ?_)
        clear hW H locs; intro H locs hW
        replace hW : Wd G A_ s_.heap [(mo, .inr (9, [.ref al, .ref ke, .ref ik, .ref rq, .long mab, .long mbe, .ref so, .ref ha, .ref te, .ref bt, .int bL, .int tA, .int tL, .int tK, .int tV, .ref an, .ref vs])), (al, .inl (G.2.1, 159, .inl a)), (so, .inl (G.2.1, 5376, .inl u_2774))] H locs := hW
        have hSo := er_2773
        refine lv_aload_n hx hb dX11_rally_41 rfl (lv_at hl 0 rfl) ?_
        refine g_get (k := 0) (v := .ref al) C hW 0 rfl rfl jnX11 (by decide) k_fl_X11_7 rfl dX11_rally_42 ?_
        refine lv_bipush (v := 9) hx hb dX11_rally_45 (by decide) ?_
        refine g_ald C hW 1 rfl (vp_in_nI (n := 9) (by omega) (by omega)) dX11_rally_47 ?_
        refine lv_as (y := a 9) (rfl) ?_
        refine lv_iconst (v := 1) hx hb dX11_rally_48 (by decide) ?_
        have J_2781 : ∀ (y_2780 : Int32) (_ : y_2780 = (if (a 9) = 1 then u_2774 (256 * 0 + 128 * f0 + 0) else (if (nI pl) = 0 then u_2774 (256 * 0 + 128 * f0 + 0) else 1000000))), ∀ (H : Heap) (locs : List Loc) (ls : Array Slot), Wd G A_ s_.heap [(mo, .inr (9, [.ref al, .ref ke, .ref ik, .ref rq, .long mab, .long mbe, .ref so, .ref ha, .ref te, .ref bt, .int bL, .int tA, .int tL, .int tK, .int tV, .ref an, .ref vs])), (al, .inl (G.2.1, 159, .inl a)), (so, .inl (G.2.1, 5376, .inl u_2774))] H locs → lv_has ls 4 [(0, .ref mo), (1, .int (nI pl)), (2, .int (nI k))] → W p_ l e_ ({ frames := 4, cells := 0, slots := 0, locals := 99 }) s_ m_ ar_ be_ me_ cd_ H locs 0 0 Q (F0 m_ 78 ls [.int y_2780]) := by
          intro y_2780 ey_2780 H locs ls hW hl
          refine lv_as (y := rlF a n hr pl f0) (by simp only [ey_2780]; exact rl_e hf (by omega) hSo) ?_
          refine lv_istore_n (lv' := [(3, .int (rlF a n hr pl f0)), (0, .ref mo), (1, .int (nI pl)), (2, .int (nI k))]) hx hb dX11_rally_78 rfl hl (by decide) rfl ?_
          clear hl ls; intro ls hl
          refine lv_iload_n hx hb dX11_rally_79 rfl (lv_at hl 0 rfl) ?_
          refine lv_as (y := nI m) (hF) ?_
          refine lv_bipush (v := 20) hx hb dX11_rally_80 (by decide) ?_
          refine lv_icmp_le (tgt := 88) hx hb dX11_rally_82 (by decide) (fun c_2782 => ?_) (fun c_2782 => ?_)
          · replace c_2782 := Int32.not_lt.mpr c_2782
            have c_2782n : ¬ 20 < m := fun q => c_2782 ((nI_ltI (a := 20) (b := m) (by omega) (by omega)).mpr q)
            refine lv_iload_n hx hb dX11_rally_88 rfl (lv_at hl 3 rfl) ?_
            refine lv_bipush (v := (-2)) hx hb dX11_rally_89 (by decide) ?_
            refine lv_icmp_ne (tgt := 98) hx hb dX11_rally_91 (by decide) (fun c_2783 => ?_) (fun c_2783 => ?_)
            · refine lv_iload_n hx hb dX11_rally_98 rfl (lv_at hl 3 rfl) ?_
              refine lv_iload_n hx hb dX11_rally_99 rfl (lv_at hl 0 rfl) ?_
              refine lv_as (y := nI m) (hF) ?_
              refine lv_icmp_lt (tgt := 108) hx hb dX11_rally_100 (by decide) (fun c_2784 => ?_) (fun c_2784 => ?_)
              · replace c_2784 := Int32.not_le.mpr c_2784
                have c_2784n : ¬ m ≤ k := fun q => c_2784 ((nI_leI (a := m) (b := k) (by omega) (by omega)).mpr q)
                refine lv_aload_n hx hb dX11_rally_108 rfl (lv_at hl 1 rfl) ?_
                refine lv_iload_n hx hb dX11_rally_109 rfl (lv_at hl 3 rfl) ?_
                refine lv_iload_n hx hb dX11_rally_110 rfl (lv_at hl 0 rfl) ?_
                refine lv_as (y := nI m) (hF) ?_
                refine g_fi C hW [0, 1, 2] rfl (g_runV (As := [.int (nI k), .int (nI m)]) (rest := []) (wc := [(mo, .inr (9, [.ref al, .ref ke, .ref ik, .ref rq, .long mab, .long mbe, .ref so, .ref ha, .ref te, .ref bt, .int bL, .int tA, .int tL, .int tK, .int tV, .ref an, .ref vs])), (al, .inl (G.2.1, 159, .inl a)), (so, .inl (G.2.1, 5376, .inl u_2774))]) (q0 := 0) (ci := 9) C hW hl (c_X11_strikerIn l G mo al ke ik rq so ha te bt an vs mab mbe bL tA tL tK tV a u_2774 n hr pl k m f0 (by first | assumption | omega) (by first | assumption | omega) (by first | assumption | omega) (by first | assumption | omega) (by first | assumption | omega) (by first | assumption | omega) (by assumption) (by first | assumption | omega) (by assumption) _) k_ml_X11_153 q_X11_strikerIn (by decide) [0, 1, 2] rfl rfl rfl rfl rfl rfl (Nat.le_of_ble_eq_true rfl) dX11_rally_111 (by decide)) (fun r_2785 er_2785 => ?_)
                clear hW H locs; intro H locs hW
                refine lv_as (y := (skR a n hr pl m f0 (k + 1)).2.2) er_2785 ?_
                clear er_2785 r_2785
                subst hQ
                exact g_iret (v := ((skR a n hr pl m f0 (k + 1)).2.2)) C hW hrt ⟨u_2774, by rfl, by rfl⟩ dX11_rally_114
              · replace c_2784 := Int32.not_lt.mp c_2784
                have c_2784n : m ≤ k := (nI_leI (a := m) (b := k) (by omega) (by omega)).mp c_2784
                exfalso; omega
            · exfalso; exact ge_ne2 (nI_pos' (by omega)) c_2783
          · replace c_2782 := Int32.not_le.mp c_2782
            have c_2782n : 20 < m := (nI_ltI (a := 20) (b := m) (by omega) (by omega)).mp c_2782
            exfalso; omega
        refine lv_icmp_eq (tgt := 56) hx hb dX11_rally_49 (by decide) (fun c_2775 => ?_) (fun c_2775 => ?_)
        · refine lv_aload_n hx hb dX11_rally_56 rfl (lv_at hl 0 rfl) ?_
          refine g_get (k := 6) (v := .ref so) C hW 0 rfl rfl jnX11 (by decide) k_fl_X11_27 rfl dX11_rally_57 ?_
          refine lv_iconst (v := 0) hx hb dX11_rally_60 (by decide) ?_
          refine lv_aload_n hx hb dX11_rally_61 rfl (lv_at hl 0 rfl) ?_
          refine g_get (k := 0) (v := .ref al) C hW 0 rfl rfl jnX11 (by decide) k_fl_X11_7 rfl dX11_rally_62 ?_
          refine lv_bipush (v := 8) hx hb dX11_rally_65 (by decide) ?_
          refine g_ald C hW 1 rfl (vp_in_nI (n := 8) (by omega) (by omega)) dX11_rally_67 ?_
          refine lv_as (y := a 8) (rfl) ?_
          refine lv_as (y := nI f0) (e8) ?_
          refine lv_iconst (v := 0) hx hb dX11_rally_68 (by decide) ?_
          refine g_fi C hW [] rfl (g_runS (As := [.int 0, .int (nI f0), .int 0]) (rest := [.ref so]) (wc := []) C hW hl (c_X11_spot l G 0 f0 0  _) k_ml_X11_146 q_X11_spot (by decide) [] rfl rfl rfl rfl (Nat.le_of_ble_eq_true rfl) dX11_rally_69 (by decide)) (fun r_2786 er_2786 => ?_)
          clear hW H locs; intro H locs hW
          refine lv_as (y := nI (256 * 0 + 128 * f0 + 0)) er_2786 ?_
          clear er_2786 r_2786
          refine g_ald C hW 2 rfl (ix_in (show (nI (256 * 0 + 128 * f0 + 0)) = nI (256 * 0 + 128 * f0 + 0) from (by first | rfl | (simp only [nI_lit, nI_add, pk_mul]; done) | (simp only [nI_lit, nI_add, pk_mul]; congr 1; omega))) (by omega) (by omega)) dX11_rally_72 ?_
          refine lv_as (y := u_2774 (256 * 0 + 128 * f0 + 0)) (by rw [show (nI (256 * 0 + 128 * f0 + 0)).toNatClampNeg = (256 * 0 + 128 * f0 + 0) from ix_cl (show (nI (256 * 0 + 128 * f0 + 0)) = nI (256 * 0 + 128 * f0 + 0) from (by first | rfl | (simp only [nI_lit, nI_add, pk_mul]; done) | (simp only [nI_lit, nI_add, pk_mul]; congr 1; omega))) (Nat.lt_of_lt_of_le (m := 5376) (by omega) (by omega))]) ?_
          refine lv_goto (tgt := 78) hx hb dX11_rally_73 (by decide) ?_
          exact J_2781 (u_2774 (256 * 0 + 128 * f0 + 0)) (by first | (simp only [c_2775, if_true, if_false, reduceIte]; done) | (simp [c_2775]; done) | rfl | (rw [if_pos c_2775]; done)) _ _ _ hW (lv_sub hl [0, 1, 2] rfl)
        · refine lv_iload_n hx hb dX11_rally_52 rfl (lv_at hl 1 rfl) ?_
          refine lv_if_ne (tgt := 76) hx hb dX11_rally_53 (by decide) (fun c_2787 => ?_) (fun c_2787 => ?_)
          · refine lv_ldc (v := 1000000) hx hb hown (ht _ k_ct_X11_145) dX11_rally_76 ?_
            exact J_2781 1000000 (by first | (simp only [c_2775, c_2787, if_true, if_false, reduceIte]; done) | (simp [c_2775, c_2787]; done) | rfl | (rw [if_neg c_2775, if_neg c_2787]; done)) _ _ _ hW (lv_sub hl [0, 1, 2] rfl)
          · refine lv_aload_n hx hb dX11_rally_56 rfl (lv_at hl 0 rfl) ?_
            refine g_get (k := 6) (v := .ref so) C hW 0 rfl rfl jnX11 (by decide) k_fl_X11_27 rfl dX11_rally_57 ?_
            refine lv_iconst (v := 0) hx hb dX11_rally_60 (by decide) ?_
            refine lv_aload_n hx hb dX11_rally_61 rfl (lv_at hl 0 rfl) ?_
            refine g_get (k := 0) (v := .ref al) C hW 0 rfl rfl jnX11 (by decide) k_fl_X11_7 rfl dX11_rally_62 ?_
            refine lv_bipush (v := 8) hx hb dX11_rally_65 (by decide) ?_
            refine g_ald C hW 1 rfl (vp_in_nI (n := 8) (by omega) (by omega)) dX11_rally_67 ?_
            refine lv_as (y := a 8) (rfl) ?_
            refine lv_as (y := nI f0) (e8) ?_
            refine lv_iconst (v := 0) hx hb dX11_rally_68 (by decide) ?_
            refine g_fi C hW [] rfl (g_runS (As := [.int 0, .int (nI f0), .int 0]) (rest := [.ref so]) (wc := []) C hW hl (c_X11_spot l G 0 f0 0  _) k_ml_X11_146 q_X11_spot (by decide) [] rfl rfl rfl rfl (Nat.le_of_ble_eq_true rfl) dX11_rally_69 (by decide)) (fun r_2788 er_2788 => ?_)
            clear hW H locs; intro H locs hW
            refine lv_as (y := nI (256 * 0 + 128 * f0 + 0)) er_2788 ?_
            clear er_2788 r_2788
            refine g_ald C hW 2 rfl (ix_in (show (nI (256 * 0 + 128 * f0 + 0)) = nI (256 * 0 + 128 * f0 + 0) from (by first | rfl | (simp only [nI_lit, nI_add, pk_mul]; done) | (simp only [nI_lit, nI_add, pk_mul]; congr 1; omega))) (by omega) (by omega)) dX11_rally_72 ?_
            refine lv_as (y := u_2774 (256 * 0 + 128 * f0 + 0)) (by rw [show (nI (256 * 0 + 128 * f0 + 0)).toNatClampNeg = (256 * 0 + 128 * f0 + 0) from ix_cl (show (nI (256 * 0 + 128 * f0 + 0)) = nI (256 * 0 + 128 * f0 + 0) from (by first | rfl | (simp only [nI_lit, nI_add, pk_mul]; done) | (simp only [nI_lit, nI_add, pk_mul]; congr 1; omega))) (Nat.lt_of_lt_of_le (m := 5376) (by omega) (by omega))]) ?_
            refine lv_goto (tgt := 78) hx hb dX11_rally_73 (by decide) ?_
            exact J_2781 (u_2774 (256 * 0 + 128 * f0 + 0)) (by first | (simp only [c_2775, c_2787, if_true, if_false, reduceIte]; done) | (simp [c_2775, c_2787]; done) | rfl | (rw [if_neg c_2775, if_pos c_2787]; done)) _ _ _ hW (lv_sub hl [0, 1, 2] rfl)
      · exfalso; exact ge_m1 (nI_pos' (by omega)) c_2772
set_option maxHeartbeats 4000000 in
set_option maxRecDepth 100000 in
theorem c_X11_rally_bad (l : Launch) (G : gT) (mo al ke ik rq so ha te bt an vs : Nat) (mab mbe : Int64) (bL tA tL tK tV : Int32) (rv : Nat → Int32) (a : Nat → Int32) (n : Nat) (p9 k9 : Int32) (e0 : a 0 = nI n) (hn : n ≤ 7) (hbad : (iw p9 0 (((1 : Int32) <<< (nI n &&& 31)) - 1) && (decide (-2 ≤ k9) && !(decide (k9 = -1)))) = false) : MI l G yX11_rally cX11_rally 4 .int ({ frames := 1, cells := 0, slots := 0, locals := 25 }) [.ref mo, .int p9, .int k9] [(mo, .inr (9, [.ref al, .ref ke, .ref ik, .ref rq, .long mab, .long mbe, .ref so, .ref ha, .ref te, .ref bt, .int bL, .int tA, .int tL, .int tK, .int tV, .ref an, .ref vs])), (al, .inl (G.2.1, 159, .inl a)), (rq, .inl (G.2.1, 3, .inl rv))] (fun (r : Int32) w1 => ∃ u_ : Unit, (r = (-10)) ∧ w1 = [(mo, .inr (9, [.ref al, .ref ke, .ref ik, .ref rq, .long mab, .long mbe, .ref so, .ref ha, .ref te, .ref bt, .int bL, .int tA, .int tL, .int tK, .int tV, .ref an, .ref vs])), (al, .inl (G.2.1, 159, .inl a)), (rq, .inl (G.2.1, 3, .inl (upd rv 0 (rv 0 + 1))))]) := by
  refine MI.mk (by decide) (Nat.le_of_ble_eq_true rfl) ?_
  intro p_ e_ s_ m_ ar_ be_ me_ cd_ A_ ls C hrt hW hl
  have hx := C.1; have hb := C.2.1; have hown := C.2.2.2.1; have ht := C.2.2.2.2.1
  replace hl : lv_has ls 4 [(0, .ref mo), (1, .int p9), (2, .int k9)] := hl
  generalize hQ : MQ be_ _ ar_ s_ 0 0 A_ = Q
  refine lv_iload_n hx hb dX11_rally_0 rfl (lv_at hl 1 rfl) ?_
  refine lv_i2l hx hb dX11_rally_1 rfl ?_
  refine lv_lconst (v := 0) hx hb dX11_rally_2 (by decide) ?_
  refine lv_iconst (v := 1) hx hb dX11_rally_3 (by decide) ?_
  refine lv_aload_n hx hb dX11_rally_4 rfl (lv_at hl 0 rfl) ?_
  refine g_fi C hW [0, 1] rfl (g_runV (As := []) (rest := [.int 1, .long 0, .long p9.toInt64]) (wc := [(mo, .inr (9, [.ref al, .ref ke, .ref ik, .ref rq, .long mab, .long mbe, .ref so, .ref ha, .ref te, .ref bt, .int bL, .int tA, .int tL, .int tK, .int tV, .ref an, .ref vs])), (al, .inl (G.2.1, 159, .inl a))]) (q0 := 0) (ci := 9) C hW hl (c_X11_many l G mo al ke ik rq so ha te bt an vs mab mbe bL tA tL tK tV a n (by first | assumption | omega) _) k_ml_X11_49 q_X11_many (by decide) [0, 1] rfl rfl rfl rfl rfl rfl (Nat.le_of_ble_eq_true rfl) dX11_rally_5 (by decide)) (fun r_2789 er_2789 => ?_)
  clear hW; intro H locs hW
  refine lv_as (y := nI n) er_2789 ?_
  clear er_2789 r_2789
  refine lv_ishl hx hb dX11_rally_8 ?_
  refine lv_iconst (v := 1) hx hb dX11_rally_9 (by decide) ?_
  refine lv_isub hx hb dX11_rally_10 ?_
  refine lv_i2l hx hb dX11_rally_11 rfl ?_
  refine g_fi C hW [] rfl (g_runS (As := [.long p9.toInt64, .long 0, .long ((((1 : Int32) <<< ((nI n) &&& 31)) - 1).toInt64)]) (rest := []) (wc := []) C hW hl (c_X11_in l G p9 0 (((1 : Int32) <<< ((nI n) &&& 31)) - 1) 0 ((((1 : Int32) <<< ((nI n) &&& 31)) - 1).toInt64) (by first | rfl | decide) (by first | rfl | decide) _) k_ml_X11_53 q_X11_in (by decide) [] rfl rfl rfl rfl (Nat.le_of_ble_eq_true rfl) dX11_rally_12 (by decide)) (fun r_2790 er_2790 => ?_)
  clear hW H locs; intro H locs hW
  refine lv_as (y := bI (iw p9 0 (((1 : Int32) <<< ((nI n) &&& 31)) - 1))) er_2790 ?_
  clear er_2790 r_2790
  have J_2792 : ∀ (H : Heap) (locs : List Loc) (ls : Array Slot), Wd G A_ s_.heap [(mo, .inr (9, [.ref al, .ref ke, .ref ik, .ref rq, .long mab, .long mbe, .ref so, .ref ha, .ref te, .ref bt, .int bL, .int tA, .int tL, .int tK, .int tV, .ref an, .ref vs])), (al, .inl (G.2.1, 159, .inl a)), (rq, .inl (G.2.1, 3, .inl rv))] H locs → lv_has ls 4 [(0, .ref mo), (1, .int p9), (2, .int k9)] → W p_ l e_ ({ frames := 1, cells := 0, slots := 0, locals := 25 }) s_ m_ ar_ be_ me_ cd_ H locs 0 0 Q (F0 m_ 29 ls []) := by
    intro  H locs ls hW hl
    refine lv_aload_n hx hb dX11_rally_29 rfl (lv_at hl 0 rfl) ?_
    refine lv_bipush (v := (-10)) hx hb dX11_rally_30 (by decide) ?_
    refine g_fiw (wr := [(al, .inl (G.2.1, 159, .inl a))]) (ww := fun (u_ : Unit) => [(mo, .inr (9, [.ref al, .ref ke, .ref ik, .ref rq, .long mab, .long mbe, .ref so, .ref ha, .ref te, .ref bt, .int bL, .int tA, .int tL, .int tK, .int tV, .ref an, .ref vs])), (rq, .inl (G.2.1, 3, .inl (upd rv 0 (rv 0 + 1))))]) (w2 := fun (u_ : Unit) => [(mo, .inr (9, [.ref al, .ref ke, .ref ik, .ref rq, .long mab, .long mbe, .ref so, .ref ha, .ref te, .ref bt, .int bL, .int tA, .int tL, .int tK, .int tV, .ref an, .ref vs])), (al, .inl (G.2.1, 159, .inl a)), (rq, .inl (G.2.1, 3, .inl (upd rv 0 (rv 0 + 1))))]) C hW [0, 2] [1] [1, 0, 2] rfl rfl (by decide) (by decide) (by decide) (fun _ => rfl) (g_runV (As := [.int (-10)]) (rest := []) (wc := [(mo, .inr (9, [.ref al, .ref ke, .ref ik, .ref rq, .long mab, .long mbe, .ref so, .ref ha, .ref te, .ref bt, .int bL, .int tA, .int tL, .int tK, .int tV, .ref an, .ref vs])), (rq, .inl (G.2.1, 3, .inl rv))]) (q0 := 0) (ci := 9) C hW hl (c_X11_bad l G mo al ke ik rq so ha te bt an vs mab mbe bL tA tL tK tV rv (-10)  _) k_ml_X11_67 q_X11_bad (by decide) [0, 2] rfl rfl rfl rfl rfl rfl (Nat.le_of_ble_eq_true rfl) dX11_rally_32 (by decide)) (fun r_2793 _ er_2793 => ?_)
    clear hW H locs; intro H locs hW
    refine lv_as (y := (-10)) er_2793 ?_
    clear er_2793 r_2793
    replace hW : Wd G A_ s_.heap [(mo, .inr (9, [.ref al, .ref ke, .ref ik, .ref rq, .long mab, .long mbe, .ref so, .ref ha, .ref te, .ref bt, .int bL, .int tA, .int tL, .int tK, .int tV, .ref an, .ref vs])), (al, .inl (G.2.1, 159, .inl a)), (rq, .inl (G.2.1, 3, .inl (upd rv 0 (rv 0 + 1))))] H locs := hW
    subst hQ
    exact g_iret (v := (-10)) C hW hrt ⟨(), by rfl, by rfl⟩ dX11_rally_35
  refine lv_if_eq (tgt := 29) hx hb dX11_rally_15 (by decide) (fun c_2791 => ?_) (fun c_2791 => ?_)
  · exact J_2792  _ _ _ hW (lv_sub hl [0, 1, 2] rfl)
  · refine lv_iload_n hx hb dX11_rally_18 rfl (lv_at hl 2 rfl) ?_
    refine lv_bipush (v := (-2)) hx hb dX11_rally_19 (by decide) ?_
    refine lv_icmp_lt (tgt := 29) hx hb dX11_rally_21 (by decide) (fun c_2795 => ?_) (fun c_2795 => ?_)
    · replace c_2795 := Int32.not_le.mpr c_2795
      exact J_2792  _ _ _ hW (lv_sub hl [0, 1, 2] rfl)
    · replace c_2795 := Int32.not_lt.mp c_2795
      refine lv_iload_n hx hb dX11_rally_24 rfl (lv_at hl 2 rfl) ?_
      refine lv_iconst (v := (-1)) hx hb dX11_rally_25 (by decide) ?_
      refine lv_icmp_ne (tgt := 36) hx hb dX11_rally_26 (by decide) (fun c_2796 => ?_) (fun c_2796 => ?_)
      · exfalso; simp [bI_ne.mp c_2791, c_2795, c_2796, if_true, if_false, reduceIte, Bool.false_eq_true] at hbad
      · exact J_2792  _ _ _ hW (lv_sub hl [0, 1, 2] rfl)
