set_option maxHeartbeats 4000000 in
set_option maxRecDepth 100000 in
theorem c_X11_seen_ok (l : Launch) (G : gT) (mo al ke ik rq so ha te bt an vs : Nat) (mab mbe : Int64) (bL tA tL tK tV : Int32) (a : Nat → Int32) (n sn k : Nat) (h9 o9 : Int32) (hk : k < n) (hn : n ≤ 7) (e0 : a 0 = nI n) (h2 : iw h9 0 99 = true) (h3 : iw o9 0 1 = true) (e1 : a 1 = nI sn) (hs : sn < 5) : MI l G yX11_seen cX11_seen 5 .int ({ frames := 2, cells := 0, slots := 0, locals := 46 }) [.ref mo, .int (nI k), .int h9, .int o9] [(mo, .inr (9, [.ref al, .ref ke, .ref ik, .ref rq, .long mab, .long mbe, .ref so, .ref ha, .ref te, .ref bt, .int bL, .int tA, .int tL, .int tK, .int tV, .ref an, .ref vs])), (al, .inl (G.2.1, 159, .inl a))] (fun (r : Int32) w1 => ∃ u_ : Unit, (r = nI (sn + 1)) ∧ w1 = [(mo, .inr (9, [.ref al, .ref ke, .ref ik, .ref rq, .long mab, .long mbe, .ref so, .ref ha, .ref te, .ref bt, .int bL, .int tA, .int tL, .int tK, .int tV, .ref an, .ref vs])), (al, .inl (G.2.1, 159, .inl (upd (upd (upd (upd a (40 + 3 * sn) (nI k)) (40 + 3 * sn + 1) h9) (40 + 3 * sn + 2) o9) 1 (nI (sn + 1)))))]) := by
  refine MI.mk (by decide) (Nat.le_of_ble_eq_true rfl) ?_
  intro p_ e_ s_ m_ ar_ be_ me_ cd_ A_ ls C hrt hW hl
  have hx := C.1; have hb := C.2.1; have hown := C.2.2.2.1; have ht := C.2.2.2.2.1
  replace hl : lv_has ls 5 [(0, .ref mo), (1, .int (nI k)), (2, .int h9), (3, .int o9)] := hl
  generalize hQ : MQ be_ _ ar_ s_ 0 0 A_ = Q
  refine lv_aload_n hx hb dX11_seen_0 rfl (lv_at hl 0 rfl) ?_
  refine lv_iload_n hx hb dX11_seen_1 rfl (lv_at hl 1 rfl) ?_
  refine g_fi C hW [0, 1] rfl (g_runV (As := [.int (nI k)]) (rest := []) (wc := [(mo, .inr (9, [.ref al, .ref ke, .ref ik, .ref rq, .long mab, .long mbe, .ref so, .ref ha, .ref te, .ref bt, .int bL, .int tA, .int tL, .int tK, .int tV, .ref an, .ref vs])), (al, .inl (G.2.1, 159, .inl a))]) (q0 := 0) (ci := 9) C hW hl (c_X11_isPlayer l G mo al ke ik rq so ha te bt an vs mab mbe bL tA tL tK tV a n (nI k) (by first | assumption | omega) (by first | assumption | omega) _) k_ml_X11_118 q_X11_isPlayer (by decide) [0, 1] rfl rfl rfl rfl rfl rfl (Nat.le_of_ble_eq_true rfl) dX11_seen_2 (by decide)) (fun r_1794 er_1794 => ?_)
  clear hW; intro H locs hW
  refine lv_as (y := bI (okp n (nI k))) er_1794 ?_
  clear er_1794 r_1794
  refine lv_if_eq (tgt := 30) hx hb dX11_seen_5 (by decide) (fun c_1795 => ?_) (fun c_1795 => ?_)
  · exfalso; exact dd (okp_nI (by omega) (by assumption)) c_1795
  · refine lv_iload_n hx hb dX11_seen_8 rfl (lv_at hl 2 rfl) ?_
    refine lv_i2l hx hb dX11_seen_9 rfl ?_
    refine lv_lconst (v := 0) hx hb dX11_seen_10 (by decide) ?_
    refine lv_ldc2 (v := 99) hx hb hown (ht _ k_cg_X11_134) dX11_seen_11 ?_
    refine g_fi C hW [] rfl (g_runS (As := [.long h9.toInt64, .long 0, .long 99]) (rest := []) (wc := []) C hW hl (c_X11_in l G h9 0 99 0 99 (by first | rfl | decide) (by first | rfl | decide) _) k_ml_X11_53 q_X11_in (by decide) [] rfl rfl rfl rfl (Nat.le_of_ble_eq_true rfl) dX11_seen_14 (by decide)) (fun r_1796 er_1796 => ?_)
    clear hW H locs; intro H locs hW
    refine lv_as (y := bI (iw h9 0 99)) er_1796 ?_
    clear er_1796 r_1796
    refine lv_if_eq (tgt := 30) hx hb dX11_seen_17 (by decide) (fun c_1797 => ?_) (fun c_1797 => ?_)
    · exfalso; exact dd (by first | assumption | exact okp_nI (by omega) (by assumption) | exact decide_eq_true (by first | assumption | omega)) c_1797
    · refine lv_iload_n hx hb dX11_seen_20 rfl (lv_at hl 3 rfl) ?_
      refine lv_i2l hx hb dX11_seen_21 rfl ?_
      refine lv_lconst (v := 0) hx hb dX11_seen_22 (by decide) ?_
      refine lv_lconst (v := 1) hx hb dX11_seen_23 (by decide) ?_
      refine g_fi C hW [] rfl (g_runS (As := [.long o9.toInt64, .long 0, .long 1]) (rest := []) (wc := []) C hW hl (c_X11_in l G o9 0 1 0 1 (by first | rfl | decide) (by first | rfl | decide) _) k_ml_X11_53 q_X11_in (by decide) [] rfl rfl rfl rfl (Nat.le_of_ble_eq_true rfl) dX11_seen_24 (by decide)) (fun r_1798 er_1798 => ?_)
      clear hW H locs; intro H locs hW
      refine lv_as (y := bI (iw o9 0 1)) er_1798 ?_
      clear er_1798 r_1798
      refine lv_if_ne (tgt := 37) hx hb dX11_seen_27 (by decide) (fun c_1799 => ?_) (fun c_1799 => ?_)
      · refine lv_aload_n hx hb dX11_seen_37 rfl (lv_at hl 0 rfl) ?_
        refine g_get (k := 0) (v := .ref al) C hW 0 rfl rfl jnX11 (by decide) k_fl_X11_7 rfl dX11_seen_38 ?_
        refine lv_iconst (v := 1) hx hb dX11_seen_41 (by decide) ?_
        refine g_ald C hW 1 rfl (vp_in_nI (n := 1) (by omega) (by omega)) dX11_seen_42 ?_
        refine lv_as (y := a 1) (rfl) ?_
        refine lv_as (y := nI sn) (e1) ?_
        refine lv_iconst (v := 5) hx hb dX11_seen_43 (by decide) ?_
        refine lv_icmp_ne (tgt := 52) hx hb dX11_seen_44 (by decide) (fun c_1800 => ?_) (fun c_1800 => ?_)
        · have c_1800n : ¬ sn = 5 := fun q => c_1800 ((nI_eq (a := sn) (b := 5) (by omega) (by omega)).mpr q)
          refine lv_bipush (v := 40) hx hb dX11_seen_52 (by decide) ?_
          refine lv_iconst (v := 3) hx hb dX11_seen_54 (by decide) ?_
          refine lv_aload_n hx hb dX11_seen_55 rfl (lv_at hl 0 rfl) ?_
          refine g_get (k := 0) (v := .ref al) C hW 0 rfl rfl jnX11 (by decide) k_fl_X11_7 rfl dX11_seen_56 ?_
          refine lv_iconst (v := 1) hx hb dX11_seen_59 (by decide) ?_
          refine g_ald C hW 1 rfl (vp_in_nI (n := 1) (by omega) (by omega)) dX11_seen_60 ?_
          refine lv_as (y := a 1) (rfl) ?_
          refine lv_as (y := nI sn) (e1) ?_
          refine lv_imul hx hb dX11_seen_61 ?_
          refine lv_iadd hx hb dX11_seen_62 ?_
          refine lv_as (y := nI (40 + 3 * sn)) (by simp only [nI_lit, nI_add, pk_mul]) ?_
          refine lv_istore (lv' := [(4, .int (nI (40 + 3 * sn))), (0, .ref mo), (1, .int (nI k)), (2, .int h9), (3, .int o9)]) hx hb dX11_seen_63 hl (by decide) rfl ?_
          clear hl ls; intro ls hl
          refine lv_aload_n hx hb dX11_seen_65 rfl (lv_at hl 1 rfl) ?_
          refine g_get (k := 0) (v := .ref al) C hW 0 rfl rfl jnX11 (by decide) k_fl_X11_7 rfl dX11_seen_66 ?_
          refine lv_iload hx hb dX11_seen_69 (lv_at hl 0 rfl) ?_
          refine lv_iload_n hx hb dX11_seen_71 rfl (lv_at hl 2 rfl) ?_
          refine g_ast (w' := [(mo, .inr (9, [.ref al, .ref ke, .ref ik, .ref rq, .long mab, .long mbe, .ref so, .ref ha, .ref te, .ref bt, .int bL, .int tA, .int tL, .int tK, .int tV, .ref an, .ref vs])), (al, .inl (G.2.1, 159, .inl (upd a (40 + 3 * sn) (nI k))))]) C hW 1 rfl (ix_in (show (nI (40 + 3 * sn)) = nI (40 + 3 * sn) from (by first | rfl | (simp only [nI_lit, nI_add, pk_mul]; done) | (simp only [nI_lit, nI_add, pk_mul]; congr 1; omega))) (by omega) (by omega)) (by rw [show (nI (40 + 3 * sn)).toNatClampNeg = (40 + 3 * sn) from ix_cl (show (nI (40 + 3 * sn)) = nI (40 + 3 * sn) from (by first | rfl | (simp only [nI_lit, nI_add, pk_mul]; done) | (simp only [nI_lit, nI_add, pk_mul]; congr 1; omega))) (Nat.lt_of_lt_of_le (m := 159) (by omega) (by omega))]; rfl) dX11_seen_72 ?_
          clear hW H locs; intro H locs hW
          refine lv_aload_n hx hb dX11_seen_73 rfl (lv_at hl 1 rfl) ?_
          refine g_get (k := 0) (v := .ref al) C hW 0 rfl rfl jnX11 (by decide) k_fl_X11_7 rfl dX11_seen_74 ?_
          refine lv_iload hx hb dX11_seen_77 (lv_at hl 0 rfl) ?_
          refine lv_iconst (v := 1) hx hb dX11_seen_79 (by decide) ?_
          refine lv_iadd hx hb dX11_seen_80 ?_
          refine lv_iload_n hx hb dX11_seen_81 rfl (lv_at hl 3 rfl) ?_
          refine g_ast (w' := [(mo, .inr (9, [.ref al, .ref ke, .ref ik, .ref rq, .long mab, .long mbe, .ref so, .ref ha, .ref te, .ref bt, .int bL, .int tA, .int tL, .int tK, .int tV, .ref an, .ref vs])), (al, .inl (G.2.1, 159, .inl (upd (upd a (40 + 3 * sn) (nI k)) (40 + 3 * sn + 1) h9)))]) C hW 1 rfl (ix_in (show ((nI (40 + 3 * sn)) + 1) = nI (40 + 3 * sn + 1) from (by first | rfl | (simp only [nI_lit, nI_add, pk_mul]; done) | (simp only [nI_lit, nI_add, pk_mul]; congr 1; omega))) (by omega) (by omega)) (by rw [show ((nI (40 + 3 * sn)) + 1).toNatClampNeg = (40 + 3 * sn + 1) from ix_cl (show ((nI (40 + 3 * sn)) + 1) = nI (40 + 3 * sn + 1) from (by first | rfl | (simp only [nI_lit, nI_add, pk_mul]; done) | (simp only [nI_lit, nI_add, pk_mul]; congr 1; omega))) (Nat.lt_of_lt_of_le (m := 159) (by omega) (by omega))]; rfl) dX11_seen_82 ?_
          clear hW H locs; intro H locs hW
          refine lv_aload_n hx hb dX11_seen_83 rfl (lv_at hl 1 rfl) ?_
          refine g_get (k := 0) (v := .ref al) C hW 0 rfl rfl jnX11 (by decide) k_fl_X11_7 rfl dX11_seen_84 ?_
          refine lv_iload hx hb dX11_seen_87 (lv_at hl 0 rfl) ?_
          refine lv_iconst (v := 2) hx hb dX11_seen_89 (by decide) ?_
          refine lv_iadd hx hb dX11_seen_90 ?_
          refine lv_iload_n hx hb dX11_seen_91 rfl (lv_at hl 4 rfl) ?_
          refine g_ast (w' := [(mo, .inr (9, [.ref al, .ref ke, .ref ik, .ref rq, .long mab, .long mbe, .ref so, .ref ha, .ref te, .ref bt, .int bL, .int tA, .int tL, .int tK, .int tV, .ref an, .ref vs])), (al, .inl (G.2.1, 159, .inl (upd (upd (upd a (40 + 3 * sn) (nI k)) (40 + 3 * sn + 1) h9) (40 + 3 * sn + 2) o9)))]) C hW 1 rfl (ix_in (show ((nI (40 + 3 * sn)) + 2) = nI (40 + 3 * sn + 2) from (by first | rfl | (simp only [nI_lit, nI_add, pk_mul]; done) | (simp only [nI_lit, nI_add, pk_mul]; congr 1; omega))) (by omega) (by omega)) (by rw [show ((nI (40 + 3 * sn)) + 2).toNatClampNeg = (40 + 3 * sn + 2) from ix_cl (show ((nI (40 + 3 * sn)) + 2) = nI (40 + 3 * sn + 2) from (by first | rfl | (simp only [nI_lit, nI_add, pk_mul]; done) | (simp only [nI_lit, nI_add, pk_mul]; congr 1; omega))) (Nat.lt_of_lt_of_le (m := 159) (by omega) (by omega))]; rfl) dX11_seen_92 ?_
          clear hW H locs; intro H locs hW
          refine lv_aload_n hx hb dX11_seen_93 rfl (lv_at hl 1 rfl) ?_
          refine g_get (k := 0) (v := .ref al) C hW 0 rfl rfl jnX11 (by decide) k_fl_X11_7 rfl dX11_seen_94 ?_
          refine lv_iconst (v := 1) hx hb dX11_seen_97 (by decide) ?_
          refine lv_dup2_11 hx hb dX11_seen_98 rfl rfl ?_
          refine g_ald C hW 1 rfl (vp_in_nI (n := 1) (by omega) (by omega)) dX11_seen_99 ?_
          refine lv_as (y := (upd (upd (upd a (40 + 3 * sn) (nI k)) (40 + 3 * sn + 1) h9) (40 + 3 * sn + 2) o9) 1) (rfl) ?_
          refine lv_as (y := nI sn) (by rw [pk_un (by omega), pk_un (by omega), pk_un (by omega)]; exact e1) ?_
          refine lv_iconst (v := 1) hx hb dX11_seen_100 (by decide) ?_
          refine lv_iadd hx hb dX11_seen_101 ?_
          refine lv_as (y := nI (sn + 1)) (nI_1 sn) ?_
          refine g_ast (w' := [(mo, .inr (9, [.ref al, .ref ke, .ref ik, .ref rq, .long mab, .long mbe, .ref so, .ref ha, .ref te, .ref bt, .int bL, .int tA, .int tL, .int tK, .int tV, .ref an, .ref vs])), (al, .inl (G.2.1, 159, .inl (upd (upd (upd (upd a (40 + 3 * sn) (nI k)) (40 + 3 * sn + 1) h9) (40 + 3 * sn + 2) o9) 1 (nI (sn + 1)))))]) C hW 1 rfl (vp_in_nI (n := 1) (by omega) (by omega)) (by rw [show (1 : Int32).toNatClampNeg = 1 from rfl]; rfl) dX11_seen_102 ?_
          clear hW H locs; intro H locs hW
          refine lv_aload_n hx hb dX11_seen_103 rfl (lv_at hl 1 rfl) ?_
          refine g_get (k := 0) (v := .ref al) C hW 0 rfl rfl jnX11 (by decide) k_fl_X11_7 rfl dX11_seen_104 ?_
          refine lv_iconst (v := 1) hx hb dX11_seen_107 (by decide) ?_
          refine g_ald C hW 1 rfl (vp_in_nI (n := 1) (by omega) (by omega)) dX11_seen_108 ?_
          refine lv_as (y := (upd (upd (upd (upd a (40 + 3 * sn) (nI k)) (40 + 3 * sn + 1) h9) (40 + 3 * sn + 2) o9) 1 (nI (sn + 1))) 1) (rfl) ?_
          subst hQ
          exact g_iret (v := ((upd (upd (upd (upd a (40 + 3 * sn) (nI k)) (40 + 3 * sn + 1) h9) (40 + 3 * sn + 2) o9) 1 (nI (sn + 1))) 1)) C hW hrt ⟨(), by exact pk_us, by rfl⟩ dX11_seen_109
        · have c_1800n : sn = 5 := (nI_eq (a := sn) (b := 5) (by omega) (by omega)).mp c_1800
          exfalso; omega
      · exfalso; exact dd (by first | assumption | exact okp_nI (by omega) (by assumption) | exact decide_eq_true (by first | assumption | omega)) c_1799
set_option maxHeartbeats 4000000 in
set_option maxRecDepth 100000 in
theorem c_X11_seen_full (l : Launch) (G : gT) (mo al ke ik rq so ha te bt an vs : Nat) (mab mbe : Int64) (bL tA tL tK tV : Int32) (rv : Nat → Int32) (a : Nat → Int32) (n sn k : Nat) (h9 o9 : Int32) (hk : k < n) (hn : n ≤ 7) (e0 : a 0 = nI n) (h2 : iw h9 0 99 = true) (h3 : iw o9 0 1 = true) (e1 : a 1 = nI sn) (hs : sn = 5) : MI l G yX11_seen cX11_seen 5 .int ({ frames := 2, cells := 0, slots := 0, locals := 46 }) [.ref mo, .int (nI k), .int h9, .int o9] [(mo, .inr (9, [.ref al, .ref ke, .ref ik, .ref rq, .long mab, .long mbe, .ref so, .ref ha, .ref te, .ref bt, .int bL, .int tA, .int tL, .int tK, .int tV, .ref an, .ref vs])), (al, .inl (G.2.1, 159, .inl a)), (rq, .inl (G.2.1, 3, .inl rv))] (fun (r : Int32) w1 => ∃ u_ : Unit, (r = (-4)) ∧ w1 = [(mo, .inr (9, [.ref al, .ref ke, .ref ik, .ref rq, .long mab, .long mbe, .ref so, .ref ha, .ref te, .ref bt, .int bL, .int tA, .int tL, .int tK, .int tV, .ref an, .ref vs])), (al, .inl (G.2.1, 159, .inl a)), (rq, .inl (G.2.1, 3, .inl (upd rv 2 (rv 2 + 1))))]) := by
  refine MI.mk (by decide) (Nat.le_of_ble_eq_true rfl) ?_
  intro p_ e_ s_ m_ ar_ be_ me_ cd_ A_ ls C hrt hW hl
  have hx := C.1; have hb := C.2.1; have hown := C.2.2.2.1; have ht := C.2.2.2.2.1
  replace hl : lv_has ls 5 [(0, .ref mo), (1, .int (nI k)), (2, .int h9), (3, .int o9)] := hl
  generalize hQ : MQ be_ _ ar_ s_ 0 0 A_ = Q
  refine lv_aload_n hx hb dX11_seen_0 rfl (lv_at hl 0 rfl) ?_
  refine lv_iload_n hx hb dX11_seen_1 rfl (lv_at hl 1 rfl) ?_
  refine g_fi C hW [0, 1] rfl (g_runV (As := [.int (nI k)]) (rest := []) (wc := [(mo, .inr (9, [.ref al, .ref ke, .ref ik, .ref rq, .long mab, .long mbe, .ref so, .ref ha, .ref te, .ref bt, .int bL, .int tA, .int tL, .int tK, .int tV, .ref an, .ref vs])), (al, .inl (G.2.1, 159, .inl a))]) (q0 := 0) (ci := 9) C hW hl (c_X11_isPlayer l G mo al ke ik rq so ha te bt an vs mab mbe bL tA tL tK tV a n (nI k) (by first | assumption | omega) (by first | assumption | omega) _) k_ml_X11_118 q_X11_isPlayer (by decide) [0, 1] rfl rfl rfl rfl rfl rfl (Nat.le_of_ble_eq_true rfl) dX11_seen_2 (by decide)) (fun r_1801 er_1801 => ?_)
  clear hW; intro H locs hW
  refine lv_as (y := bI (okp n (nI k))) er_1801 ?_
  clear er_1801 r_1801
  refine lv_if_eq (tgt := 30) hx hb dX11_seen_5 (by decide) (fun c_1802 => ?_) (fun c_1802 => ?_)
  · exfalso; exact dd (okp_nI (by omega) (by assumption)) c_1802
  · refine lv_iload_n hx hb dX11_seen_8 rfl (lv_at hl 2 rfl) ?_
    refine lv_i2l hx hb dX11_seen_9 rfl ?_
    refine lv_lconst (v := 0) hx hb dX11_seen_10 (by decide) ?_
    refine lv_ldc2 (v := 99) hx hb hown (ht _ k_cg_X11_134) dX11_seen_11 ?_
    refine g_fi C hW [] rfl (g_runS (As := [.long h9.toInt64, .long 0, .long 99]) (rest := []) (wc := []) C hW hl (c_X11_in l G h9 0 99 0 99 (by first | rfl | decide) (by first | rfl | decide) _) k_ml_X11_53 q_X11_in (by decide) [] rfl rfl rfl rfl (Nat.le_of_ble_eq_true rfl) dX11_seen_14 (by decide)) (fun r_1803 er_1803 => ?_)
    clear hW H locs; intro H locs hW
    refine lv_as (y := bI (iw h9 0 99)) er_1803 ?_
    clear er_1803 r_1803
    refine lv_if_eq (tgt := 30) hx hb dX11_seen_17 (by decide) (fun c_1804 => ?_) (fun c_1804 => ?_)
    · exfalso; exact dd (by first | assumption | exact okp_nI (by omega) (by assumption) | exact decide_eq_true (by first | assumption | omega)) c_1804
    · refine lv_iload_n hx hb dX11_seen_20 rfl (lv_at hl 3 rfl) ?_
      refine lv_i2l hx hb dX11_seen_21 rfl ?_
      refine lv_lconst (v := 0) hx hb dX11_seen_22 (by decide) ?_
      refine lv_lconst (v := 1) hx hb dX11_seen_23 (by decide) ?_
      refine g_fi C hW [] rfl (g_runS (As := [.long o9.toInt64, .long 0, .long 1]) (rest := []) (wc := []) C hW hl (c_X11_in l G o9 0 1 0 1 (by first | rfl | decide) (by first | rfl | decide) _) k_ml_X11_53 q_X11_in (by decide) [] rfl rfl rfl rfl (Nat.le_of_ble_eq_true rfl) dX11_seen_24 (by decide)) (fun r_1805 er_1805 => ?_)
      clear hW H locs; intro H locs hW
      refine lv_as (y := bI (iw o9 0 1)) er_1805 ?_
      clear er_1805 r_1805
      refine lv_if_ne (tgt := 37) hx hb dX11_seen_27 (by decide) (fun c_1806 => ?_) (fun c_1806 => ?_)
      · refine lv_aload_n hx hb dX11_seen_37 rfl (lv_at hl 0 rfl) ?_
        refine g_get (k := 0) (v := .ref al) C hW 0 rfl rfl jnX11 (by decide) k_fl_X11_7 rfl dX11_seen_38 ?_
        refine lv_iconst (v := 1) hx hb dX11_seen_41 (by decide) ?_
        refine g_ald C hW 1 rfl (vp_in_nI (n := 1) (by omega) (by omega)) dX11_seen_42 ?_
        refine lv_as (y := a 1) (rfl) ?_
        refine lv_as (y := nI sn) (e1) ?_
        refine lv_iconst (v := 5) hx hb dX11_seen_43 (by decide) ?_
        refine lv_icmp_ne (tgt := 52) hx hb dX11_seen_44 (by decide) (fun c_1807 => ?_) (fun c_1807 => ?_)
        · have c_1807n : ¬ sn = 5 := fun q => c_1807 ((nI_eq (a := sn) (b := 5) (by omega) (by omega)).mpr q)
          exfalso; omega
        · have c_1807n : sn = 5 := (nI_eq (a := sn) (b := 5) (by omega) (by omega)).mp c_1807
          refine lv_aload_n hx hb dX11_seen_47 rfl (lv_at hl 0 rfl) ?_
          refine g_fiw (wr := [(al, .inl (G.2.1, 159, .inl a))]) (ww := fun (u_ : Unit) => [(mo, .inr (9, [.ref al, .ref ke, .ref ik, .ref rq, .long mab, .long mbe, .ref so, .ref ha, .ref te, .ref bt, .int bL, .int tA, .int tL, .int tK, .int tV, .ref an, .ref vs])), (rq, .inl (G.2.1, 3, .inl (upd rv 2 (rv 2 + 1))))]) (w2 := fun (u_ : Unit) => [(mo, .inr (9, [.ref al, .ref ke, .ref ik, .ref rq, .long mab, .long mbe, .ref so, .ref ha, .ref te, .ref bt, .int bL, .int tA, .int tL, .int tK, .int tV, .ref an, .ref vs])), (al, .inl (G.2.1, 159, .inl a)), (rq, .inl (G.2.1, 3, .inl (upd rv 2 (rv 2 + 1))))]) C hW [0, 2] [1] [1, 0, 2] rfl rfl (by decide) (by decide) (by decide) (fun _ => rfl) (g_runV (As := []) (rest := []) (wc := [(mo, .inr (9, [.ref al, .ref ke, .ref ik, .ref rq, .long mab, .long mbe, .ref so, .ref ha, .ref te, .ref bt, .int bL, .int tA, .int tL, .int tK, .int tV, .ref an, .ref vs])), (rq, .inl (G.2.1, 3, .inl rv))]) (q0 := 0) (ci := 9) C hW hl (c_X11_full l G mo al ke ik rq so ha te bt an vs mab mbe bL tA tL tK tV rv  _) k_ml_X11_84 q_X11_full (by decide) [0, 2] rfl rfl rfl rfl rfl rfl (Nat.le_of_ble_eq_true rfl) dX11_seen_48 (by decide)) (fun r_1808 _ er_1808 => ?_)
          clear hW H locs; intro H locs hW
          refine lv_as (y := (-4)) er_1808 ?_
          clear er_1808 r_1808
          replace hW : Wd G A_ s_.heap [(mo, .inr (9, [.ref al, .ref ke, .ref ik, .ref rq, .long mab, .long mbe, .ref so, .ref ha, .ref te, .ref bt, .int bL, .int tA, .int tL, .int tK, .int tV, .ref an, .ref vs])), (al, .inl (G.2.1, 159, .inl a)), (rq, .inl (G.2.1, 3, .inl (upd rv 2 (rv 2 + 1))))] H locs := hW
          subst hQ
          exact g_iret (v := (-4)) C hW hrt ⟨(), by rfl, by rfl⟩ dX11_seen_51
      · exfalso; exact dd (by first | assumption | exact okp_nI (by omega) (by assumption) | exact decide_eq_true (by first | assumption | omega)) c_1806
set_option maxHeartbeats 4000000 in
set_option maxRecDepth 100000 in
theorem c_X11_seen_bad (l : Launch) (G : gT) (mo al ke ik rq so ha te bt an vs : Nat) (mab mbe : Int64) (bL tA tL tK tV : Int32) (rv : Nat → Int32) (a : Nat → Int32) (n : Nat) (p9 h9 o9 : Int32) (e0 : a 0 = nI n) (hn : n ≤ 7) (hbad : (okp n p9 && (iw h9 0 99 && iw o9 0 1)) = false) : MI l G yX11_seen cX11_seen 5 .int ({ frames := 2, cells := 0, slots := 0, locals := 46 }) [.ref mo, .int p9, .int h9, .int o9] [(mo, .inr (9, [.ref al, .ref ke, .ref ik, .ref rq, .long mab, .long mbe, .ref so, .ref ha, .ref te, .ref bt, .int bL, .int tA, .int tL, .int tK, .int tV, .ref an, .ref vs])), (al, .inl (G.2.1, 159, .inl a)), (rq, .inl (G.2.1, 3, .inl rv))] (fun (r : Int32) w1 => ∃ u_ : Unit, (r = (-2)) ∧ w1 = [(mo, .inr (9, [.ref al, .ref ke, .ref ik, .ref rq, .long mab, .long mbe, .ref so, .ref ha, .ref te, .ref bt, .int bL, .int tA, .int tL, .int tK, .int tV, .ref an, .ref vs])), (al, .inl (G.2.1, 159, .inl a)), (rq, .inl (G.2.1, 3, .inl (upd rv 0 (rv 0 + 1))))]) := by
  refine MI.mk (by decide) (Nat.le_of_ble_eq_true rfl) ?_
  intro p_ e_ s_ m_ ar_ be_ me_ cd_ A_ ls C hrt hW hl
  have hx := C.1; have hb := C.2.1; have hown := C.2.2.2.1; have ht := C.2.2.2.2.1
  replace hl : lv_has ls 5 [(0, .ref mo), (1, .int p9), (2, .int h9), (3, .int o9)] := hl
  generalize hQ : MQ be_ _ ar_ s_ 0 0 A_ = Q
  refine lv_aload_n hx hb dX11_seen_0 rfl (lv_at hl 0 rfl) ?_
  refine lv_iload_n hx hb dX11_seen_1 rfl (lv_at hl 1 rfl) ?_
  refine g_fi C hW [0, 1] rfl (g_runV (As := [.int p9]) (rest := []) (wc := [(mo, .inr (9, [.ref al, .ref ke, .ref ik, .ref rq, .long mab, .long mbe, .ref so, .ref ha, .ref te, .ref bt, .int bL, .int tA, .int tL, .int tK, .int tV, .ref an, .ref vs])), (al, .inl (G.2.1, 159, .inl a))]) (q0 := 0) (ci := 9) C hW hl (c_X11_isPlayer l G mo al ke ik rq so ha te bt an vs mab mbe bL tA tL tK tV a n p9 (by first | assumption | omega) (by first | assumption | omega) _) k_ml_X11_118 q_X11_isPlayer (by decide) [0, 1] rfl rfl rfl rfl rfl rfl (Nat.le_of_ble_eq_true rfl) dX11_seen_2 (by decide)) (fun r_1810 er_1810 => ?_)
  clear hW; intro H locs hW
  refine lv_as (y := bI (okp n p9)) er_1810 ?_
  clear er_1810 r_1810
  have J_1816 : ∀ (H : Heap) (locs : List Loc) (ls : Array Slot), Wd G A_ s_.heap [(mo, .inr (9, [.ref al, .ref ke, .ref ik, .ref rq, .long mab, .long mbe, .ref so, .ref ha, .ref te, .ref bt, .int bL, .int tA, .int tL, .int tK, .int tV, .ref an, .ref vs])), (al, .inl (G.2.1, 159, .inl a)), (rq, .inl (G.2.1, 3, .inl rv))] H locs → lv_has ls 5 [(0, .ref mo), (1, .int p9), (2, .int h9), (3, .int o9)] → W p_ l e_ ({ frames := 2, cells := 0, slots := 0, locals := 46 }) s_ m_ ar_ be_ me_ cd_ H locs 0 0 Q (F0 m_ 30 ls []) := by
    intro  H locs ls hW hl
    refine lv_aload_n hx hb dX11_seen_30 rfl (lv_at hl 0 rfl) ?_
    refine lv_bipush (v := (-2)) hx hb dX11_seen_31 (by decide) ?_
    refine g_fiw (wr := [(al, .inl (G.2.1, 159, .inl a))]) (ww := fun (u_ : Unit) => [(mo, .inr (9, [.ref al, .ref ke, .ref ik, .ref rq, .long mab, .long mbe, .ref so, .ref ha, .ref te, .ref bt, .int bL, .int tA, .int tL, .int tK, .int tV, .ref an, .ref vs])), (rq, .inl (G.2.1, 3, .inl (upd rv 0 (rv 0 + 1))))]) (w2 := fun (u_ : Unit) => [(mo, .inr (9, [.ref al, .ref ke, .ref ik, .ref rq, .long mab, .long mbe, .ref so, .ref ha, .ref te, .ref bt, .int bL, .int tA, .int tL, .int tK, .int tV, .ref an, .ref vs])), (al, .inl (G.2.1, 159, .inl a)), (rq, .inl (G.2.1, 3, .inl (upd rv 0 (rv 0 + 1))))]) C hW [0, 2] [1] [1, 0, 2] rfl rfl (by decide) (by decide) (by decide) (fun _ => rfl) (g_runV (As := [.int (-2)]) (rest := []) (wc := [(mo, .inr (9, [.ref al, .ref ke, .ref ik, .ref rq, .long mab, .long mbe, .ref so, .ref ha, .ref te, .ref bt, .int bL, .int tA, .int tL, .int tK, .int tV, .ref an, .ref vs])), (rq, .inl (G.2.1, 3, .inl rv))]) (q0 := 0) (ci := 9) C hW hl (c_X11_bad l G mo al ke ik rq so ha te bt an vs mab mbe bL tA tL tK tV rv (-2)  _) k_ml_X11_67 q_X11_bad (by decide) [0, 2] rfl rfl rfl rfl rfl rfl (Nat.le_of_ble_eq_true rfl) dX11_seen_33 (by decide)) (fun r_1817 _ er_1817 => ?_)
    clear hW H locs; intro H locs hW
    refine lv_as (y := (-2)) er_1817 ?_
    clear er_1817 r_1817
    replace hW : Wd G A_ s_.heap [(mo, .inr (9, [.ref al, .ref ke, .ref ik, .ref rq, .long mab, .long mbe, .ref so, .ref ha, .ref te, .ref bt, .int bL, .int tA, .int tL, .int tK, .int tV, .ref an, .ref vs])), (al, .inl (G.2.1, 159, .inl a)), (rq, .inl (G.2.1, 3, .inl (upd rv 0 (rv 0 + 1))))] H locs := hW
    subst hQ
    exact g_iret (v := (-2)) C hW hrt ⟨(), by rfl, by rfl⟩ dX11_seen_36
  refine lv_if_eq (tgt := 30) hx hb dX11_seen_5 (by decide) (fun c_1811 => ?_) (fun c_1811 => ?_)
  · exact J_1816  _ _ _ hW (lv_sub hl [0, 1, 2, 3] rfl)
  · refine lv_iload_n hx hb dX11_seen_8 rfl (lv_at hl 2 rfl) ?_
    refine lv_i2l hx hb dX11_seen_9 rfl ?_
    refine lv_lconst (v := 0) hx hb dX11_seen_10 (by decide) ?_
    refine lv_ldc2 (v := 99) hx hb hown (ht _ k_cg_X11_134) dX11_seen_11 ?_
    refine g_fi C hW [] rfl (g_runS (As := [.long h9.toInt64, .long 0, .long 99]) (rest := []) (wc := []) C hW hl (c_X11_in l G h9 0 99 0 99 (by first | rfl | decide) (by first | rfl | decide) _) k_ml_X11_53 q_X11_in (by decide) [] rfl rfl rfl rfl (Nat.le_of_ble_eq_true rfl) dX11_seen_14 (by decide)) (fun r_1819 er_1819 => ?_)
    clear hW H locs; intro H locs hW
    refine lv_as (y := bI (iw h9 0 99)) er_1819 ?_
    clear er_1819 r_1819
    refine lv_if_eq (tgt := 30) hx hb dX11_seen_17 (by decide) (fun c_1820 => ?_) (fun c_1820 => ?_)
    · exact J_1816  _ _ _ hW (lv_sub hl [0, 1, 2, 3] rfl)
    · refine lv_iload_n hx hb dX11_seen_20 rfl (lv_at hl 3 rfl) ?_
      refine lv_i2l hx hb dX11_seen_21 rfl ?_
      refine lv_lconst (v := 0) hx hb dX11_seen_22 (by decide) ?_
      refine lv_lconst (v := 1) hx hb dX11_seen_23 (by decide) ?_
      refine g_fi C hW [] rfl (g_runS (As := [.long o9.toInt64, .long 0, .long 1]) (rest := []) (wc := []) C hW hl (c_X11_in l G o9 0 1 0 1 (by first | rfl | decide) (by first | rfl | decide) _) k_ml_X11_53 q_X11_in (by decide) [] rfl rfl rfl rfl (Nat.le_of_ble_eq_true rfl) dX11_seen_24 (by decide)) (fun r_1821 er_1821 => ?_)
      clear hW H locs; intro H locs hW
      refine lv_as (y := bI (iw o9 0 1)) er_1821 ?_
      clear er_1821 r_1821
      refine lv_if_ne (tgt := 37) hx hb dX11_seen_27 (by decide) (fun c_1822 => ?_) (fun c_1822 => ?_)
      · exfalso; simp [bI_ne.mp c_1811, bI_ne.mp c_1820, bI_ne.mp c_1822, if_true, if_false, reduceIte, Bool.false_eq_true] at hbad
      · exact J_1816  _ _ _ hW (lv_sub hl [0, 1, 2, 3] rfl)
set_option maxHeartbeats 4000000 in
set_option maxRecDepth 100000 in
theorem c_X11_isOverBy (l : Launch) (G : gT) (mo al ke ik rq so ha te bt an vs : Nat) (mab mbe : Int64) (bL tA tL tK tV : Int32) (a : Nat → Int32) (k t : Nat) (g : Int32) (hk : k < 7) (ht : t < 20000) : MI l G yX11_isOverBy cX11_isOverBy 4 .boolean ({ frames := 2, cells := 0, slots := 0, locals := 49 }) [.ref mo, .int (nI k), .int (nI t), .int g] [(mo, .inr (9, [.ref al, .ref ke, .ref ik, .ref rq, .long mab, .long mbe, .ref so, .ref ha, .ref te, .ref bt, .int bL, .int tA, .int tL, .int tK, .int tV, .ref an, .ref vs])), (al, .inl (G.2.1, 159, .inl a))] (fun (r : Int32) w1 => (r = bI (ovA a k t g)) ∧ w1 = [(mo, .inr (9, [.ref al, .ref ke, .ref ik, .ref rq, .long mab, .long mbe, .ref so, .ref ha, .ref te, .ref bt, .int bL, .int tA, .int tL, .int tK, .int tV, .ref an, .ref vs])), (al, .inl (G.2.1, 159, .inl a))]) := by
  refine MI.mk (by decide) (Nat.le_of_ble_eq_true rfl) ?_
  intro p_ e_ s_ m_ ar_ be_ me_ cd_ A_ ls C hrt hW hl
  have hx := C.1; have hb := C.2.1; have hown := C.2.2.2.1; have ht := C.2.2.2.2.1
  replace hl : lv_has ls 4 [(0, .ref mo), (1, .int (nI k)), (2, .int (nI t)), (3, .int g)] := hl
  generalize hQ : MQ be_ _ ar_ s_ 0 0 A_ = Q
  refine lv_aload_n hx hb dX11_isOverBy_0 rfl (lv_at hl 0 rfl) ?_
  refine g_get (k := 0) (v := .ref al) C hW 0 rfl rfl jnX11 (by decide) k_fl_X11_7 rfl dX11_isOverBy_1 ?_
  refine lv_iload_n hx hb dX11_isOverBy_4 rfl (lv_at hl 1 rfl) ?_
  refine lv_aload_n hx hb dX11_isOverBy_5 rfl (lv_at hl 0 rfl) ?_
  refine g_get (k := 0) (v := .ref al) C hW 0 rfl rfl jnX11 (by decide) k_fl_X11_7 rfl dX11_isOverBy_6 ?_
  refine lv_bipush (v := 26) hx hb dX11_isOverBy_9 (by decide) ?_
  refine lv_iload_n hx hb dX11_isOverBy_11 rfl (lv_at hl 1 rfl) ?_
  refine lv_iadd hx hb dX11_isOverBy_12 ?_
  refine g_ald C hW 1 rfl (ix_in (show (26 + (nI k)) = nI (26 + k) from (by first | rfl | (simp only [nI_lit, nI_add, pk_mul]; done) | (simp only [nI_lit, nI_add, pk_mul]; congr 1; omega))) (by omega) (by omega)) dX11_isOverBy_13 ?_
  refine lv_as (y := a (26 + k)) (by rw [show (26 + (nI k)).toNatClampNeg = (26 + k) from ix_cl (show (26 + (nI k)) = nI (26 + k) from (by first | rfl | (simp only [nI_lit, nI_add, pk_mul]; done) | (simp only [nI_lit, nI_add, pk_mul]; congr 1; omega))) (Nat.lt_of_lt_of_le (m := 159) (by omega) (by omega))]) ?_
  refine lv_iload_n hx hb dX11_isOverBy_14 rfl (lv_at hl 2 rfl) ?_
  refine lv_iload_n hx hb dX11_isOverBy_15 rfl (lv_at hl 3 rfl) ?_
  refine g_fi C hW [1] rfl (g_runS (As := [.ref al, .int (nI k), .int (a (26 + k)), .int (nI t), .int g]) (rest := []) (wc := [(al, .inl (G.2.1, 159, .inl a))]) C hW hl (c_X11_reachFrom l G al 159 a k t (a (26 + k)) g (by first | assumption | omega) (by first | assumption | omega) (by first | assumption | omega) _) k_ml_X11_103 q_X11_reachFrom (by decide) [1] rfl rfl rfl rfl (Nat.le_of_ble_eq_true rfl) dX11_isOverBy_16 (by decide)) (fun r_1823 er_1823 => ?_)
  clear hW; intro H locs hW
  refine lv_as (y := rcA a k t (a (26 + k)) g) er_1823 ?_
  clear er_1823 r_1823
  refine lv_aload_n hx hb dX11_isOverBy_19 rfl (lv_at hl 0 rfl) ?_
  refine g_get (k := 0) (v := .ref al) C hW 0 rfl rfl jnX11 (by decide) k_fl_X11_7 rfl dX11_isOverBy_20 ?_
  refine lv_iconst (v := 5) hx hb dX11_isOverBy_23 (by decide) ?_
  refine g_ald C hW 1 rfl (vp_in_nI (n := 5) (by omega) (by omega)) dX11_isOverBy_24 ?_
  refine lv_as (y := a 5) (rfl) ?_
  have J_1826 : ∀ (y_1825 : Int32) (_ : y_1825 = (if (a 5) ≤ (rcA a k t (a (26 + k)) g) then 1 else 0)), ∀ (H : Heap) (locs : List Loc) (ls : Array Slot), Wd G A_ s_.heap [(mo, .inr (9, [.ref al, .ref ke, .ref ik, .ref rq, .long mab, .long mbe, .ref so, .ref ha, .ref te, .ref bt, .int bL, .int tA, .int tL, .int tK, .int tV, .ref an, .ref vs])), (al, .inl (G.2.1, 159, .inl a))] H locs → lv_has ls 4 [(0, .ref mo), (1, .int (nI k)), (2, .int (nI t)), (3, .int g)] → W p_ l e_ ({ frames := 2, cells := 0, slots := 0, locals := 49 }) s_ m_ ar_ be_ me_ cd_ H locs 0 0 Q (F0 m_ 33 ls [.int y_1825]) := by
    intro y_1825 ey_1825 H locs ls hW hl
    subst hQ
    exact g_zret (v := y_1825) C hW hrt (by (simp only [ey_1825]; rw [bI_if]; exact bI_nar _)) ⟨by (simp only [ey_1825]; exact bI_if), rfl⟩ dX11_isOverBy_33
  refine lv_icmp_lt (tgt := 32) hx hb dX11_isOverBy_25 (by decide) (fun c_1824 => ?_) (fun c_1824 => ?_)
  · replace c_1824 := Int32.not_le.mpr c_1824
    refine lv_iconst (v := 0) hx hb dX11_isOverBy_32 (by decide) ?_
    exact J_1826 0 (by first | (simp only [c_1824, if_true, if_false, reduceIte]; done) | (simp [c_1824]; done) | rfl | (rw [if_neg c_1824]; done)) _ _ _ hW (lv_sub hl [0, 1, 2, 3] rfl)
  · replace c_1824 := Int32.not_lt.mp c_1824
    refine lv_iconst (v := 1) hx hb dX11_isOverBy_28 (by decide) ?_
    refine lv_goto (tgt := 33) hx hb dX11_isOverBy_29 (by decide) ?_
    exact J_1826 1 (by first | (simp only [c_1824, if_true, if_false, reduceIte]; done) | (simp [c_1824]; done) | rfl | (rw [if_pos c_1824]; done)) _ _ _ hW (lv_sub hl [0, 1, 2, 3] rfl)
set_option maxHeartbeats 4000000 in
set_option maxRecDepth 100000 in
theorem c_X11_isHeavy (l : Launch) (G : gT) (mo al ke ik rq so ha te bt an vs : Nat) (mab mbe : Int64) (bL tA tL tK tV : Int32) (a : Nat → Int32) (sn : Nat) (g : Int32) (e1 : a 1 = nI sn) (hs : sn ≤ 5) (hS : oSA a sn) : MI l G yX11_isHeavy cX11_isHeavy 5 .boolean ({ frames := 3, cells := 0, slots := 0, locals := 72 }) [.ref mo, .int g] [(mo, .inr (9, [.ref al, .ref ke, .ref ik, .ref rq, .long mab, .long mbe, .ref so, .ref ha, .ref te, .ref bt, .int bL, .int tA, .int tL, .int tK, .int tV, .ref an, .ref vs])), (al, .inl (G.2.1, 159, .inl a))] (fun (r : Int32) w1 => (r = bI (hwA a g sn)) ∧ w1 = [(mo, .inr (9, [.ref al, .ref ke, .ref ik, .ref rq, .long mab, .long mbe, .ref so, .ref ha, .ref te, .ref bt, .int bL, .int tA, .int tL, .int tK, .int tV, .ref an, .ref vs])), (al, .inl (G.2.1, 159, .inl a))]) := by
  refine MI.mk (by decide) (Nat.le_of_ble_eq_true rfl) ?_
  intro p_ e_ s_ m_ ar_ be_ me_ cd_ A_ ls C hrt hW hl
  have hx := C.1; have hb := C.2.1; have hown := C.2.2.2.1; have ht := C.2.2.2.2.1
  replace hl : lv_has ls 5 [(0, .ref mo), (1, .int g)] := hl
  generalize hQ : MQ be_ _ ar_ s_ 0 0 A_ = Q
  refine lv_iconst (v := 1) hx hb dX11_isHeavy_0 (by decide) ?_
  refine lv_istore_n (lv' := [(2, .int 1), (0, .ref mo), (1, .int g)]) hx hb dX11_isHeavy_1 rfl hl (by decide) rfl ?_
  clear hl ls; intro ls hl
  refine lv_iconst (v := 0) hx hb dX11_isHeavy_2 (by decide) ?_
  refine lv_istore_n (lv' := [(3, .int 0), (2, .int 1), (0, .ref mo), (1, .int g)]) hx hb dX11_isHeavy_3 rfl hl (by decide) rfl ?_
  clear hl ls; intro ls hl
  have K_1827 : ∀ (n_ : Nat) (j : Nat) (x_1828 : Int32) (x_1829 : Int32) (_ : x_1828 = nI j) (_ : x_1829 = bI (hwA a g j)) (_ : j ≤ sn) (_ : sn - j < n_) (H : Heap) (locs : List Loc) (ls : Array Slot), Wd G A_ s_.heap [(mo, .inr (9, [.ref al, .ref ke, .ref ik, .ref rq, .long mab, .long mbe, .ref so, .ref ha, .ref te, .ref bt, .int bL, .int tA, .int tL, .int tK, .int tV, .ref an, .ref vs])), (al, .inl (G.2.1, 159, .inl a))] H locs → lv_has ls 5 [(3, .int x_1828), (2, .int x_1829), (0, .ref mo), (1, .int g)] → W p_ l e_ ({ frames := 3, cells := 0, slots := 0, locals := 72 }) s_ m_ ar_ be_ me_ cd_ H locs 0 0 Q (F0 m_ 4 ls []) := by
    intro n_
    induction n_ with
    | zero => intro j x_1828 x_1829 ex_1828 ex_1829 hj hm_; exact absurd hm_ (Nat.not_lt_zero _)
    | succ n_ ihK_1827 =>
      intro j x_1828 x_1829 ex_1828 ex_1829 hj hm_ H locs ls hW hl
      subst ex_1828
      subst ex_1829
      refine lv_iload_n hx hb dX11_isHeavy_4 rfl (lv_at hl 0 rfl) ?_
      refine lv_aload_n hx hb dX11_isHeavy_5 rfl (lv_at hl 2 rfl) ?_
      refine g_get (k := 0) (v := .ref al) C hW 0 rfl rfl jnX11 (by decide) k_fl_X11_7 rfl dX11_isHeavy_6 ?_
      refine lv_iconst (v := 1) hx hb dX11_isHeavy_9 (by decide) ?_
      refine g_ald C hW 1 rfl (vp_in_nI (n := 1) (by omega) (by omega)) dX11_isHeavy_10 ?_
      refine lv_as (y := a 1) (rfl) ?_
      refine lv_as (y := nI sn) (e1) ?_
      refine lv_icmp_ge (tgt := 80) hx hb dX11_isHeavy_11 (by decide) (fun c_1830 => ?_) (fun c_1830 => ?_)
      · replace c_1830 := Int32.not_lt.mpr c_1830
        have c_1830n : ¬ j < sn := fun q => c_1830 ((nI_ltI (a := j) (b := sn) (by omega) (by omega)).mpr q)
        refine lv_iload_n hx hb dX11_isHeavy_80 rfl (lv_at hl 1 rfl) ?_
        subst hQ
        exact g_zret (v := (bI (hwA a g j))) C hW hrt (by exact bI_nar _) ⟨by (rw [show j = sn by omega]), rfl⟩ dX11_isHeavy_81
      · replace c_1830 := Int32.not_le.mp c_1830
        have c_1830n : j < sn := (nI_ltI (a := j) (b := sn) (by omega) (by omega)).mp c_1830
        obtain ⟨k, t, hk, ht, ek, et⟩ := hS j (by omega)
        refine lv_bipush (v := 40) hx hb dX11_isHeavy_14 (by decide) ?_
        refine lv_iconst (v := 3) hx hb dX11_isHeavy_16 (by decide) ?_
        refine lv_iload_n hx hb dX11_isHeavy_17 rfl (lv_at hl 0 rfl) ?_
        refine lv_imul hx hb dX11_isHeavy_18 ?_
        refine lv_iadd hx hb dX11_isHeavy_19 ?_
        refine lv_as (y := nI (40 + 3 * j)) (by simp only [nI_lit, nI_add, pk_mul]) ?_
        refine lv_istore (lv' := [(4, .int (nI (40 + 3 * j))), (3, .int (nI j)), (2, .int (bI (hwA a g j))), (0, .ref mo), (1, .int g)]) hx hb dX11_isHeavy_20 hl (by decide) rfl ?_
        clear hl ls; intro ls hl
        refine lv_iload_n hx hb dX11_isHeavy_22 rfl (lv_at hl 2 rfl) ?_
        have J_1835 : ∀ (y_1834 : Int32) (_ : y_1834 = (if (bI (hwA a g j)) = 0 then 0 else (if (a (40 + 3 * j + 2)) = 1 then if (bI (ovA a k t g)) = 1 then 1 else 0 else (if (bI (ovA a k t g)) = 0 then 1 else 0)))), ∀ (H : Heap) (locs : List Loc) (ls : Array Slot), Wd G A_ s_.heap [(mo, .inr (9, [.ref al, .ref ke, .ref ik, .ref rq, .long mab, .long mbe, .ref so, .ref ha, .ref te, .ref bt, .int bL, .int tA, .int tL, .int tK, .int tV, .ref an, .ref vs])), (al, .inl (G.2.1, 159, .inl a))] H locs → lv_has ls 5 [(4, .int (nI (40 + 3 * j))), (3, .int (nI j)), (2, .int (bI (hwA a g j))), (0, .ref mo), (1, .int g)] → W p_ l e_ ({ frames := 3, cells := 0, slots := 0, locals := 72 }) s_ m_ ar_ be_ me_ cd_ H locs 0 0 Q (F0 m_ 73 ls [.int y_1834]) := by
          intro y_1834 ey_1834 H locs ls hW hl
          refine lv_istore_n (lv' := [(2, .int y_1834), (4, .int (nI (40 + 3 * j))), (3, .int (nI j)), (0, .ref mo), (1, .int g)]) hx hb dX11_isHeavy_73 rfl hl (by decide) rfl ?_
          clear hl ls; intro ls hl
          refine lv_iinc (v := (nI j) + 1) (lv' := [(3, .int ((nI j) + 1)), (2, .int y_1834), (4, .int (nI (40 + 3 * j))), (0, .ref mo), (1, .int g)]) hx hb dX11_isHeavy_74 hl (k := 2) rfl rfl (by decide) rfl ?_
          clear hl ls; intro ls hl
          refine lv_goto (tgt := 4) hx hb dX11_isHeavy_77 (by decide) ?_
          exact ihK_1827 (j + 1) ((nI j) + 1) y_1834 (by exact nI_1 _) (by (simp only [ey_1834]; exact hw_s hk ht ek et)) (by first | omega | assumption | (simp; done)) (by omega) _ _ _ hW (lv_sub hl [0, 1, 3, 4] rfl)
        refine lv_if_eq (tgt := 72) hx hb dX11_isHeavy_23 (by decide) (fun c_1831 => ?_) (fun c_1831 => ?_)
        · refine lv_iconst (v := 0) hx hb dX11_isHeavy_72 (by decide) ?_
          exact J_1835 0 (by first | (simp only [c_1831, if_true, if_false, reduceIte]; done) | (simp [c_1831]; done) | rfl | (rw [if_pos c_1831]; done)) _ _ _ hW (lv_sub hl [0, 1, 2, 3, 4] rfl)
        · refine lv_aload_n hx hb dX11_isHeavy_26 rfl (lv_at hl 3 rfl) ?_
          refine lv_aload_n hx hb dX11_isHeavy_27 rfl (lv_at hl 3 rfl) ?_
          refine g_get (k := 0) (v := .ref al) C hW 0 rfl rfl jnX11 (by decide) k_fl_X11_7 rfl dX11_isHeavy_28 ?_
          refine lv_iload hx hb dX11_isHeavy_31 (lv_at hl 0 rfl) ?_
          refine g_ald C hW 1 rfl (ix_in (show (nI (40 + 3 * j)) = nI (40 + 3 * j) from (by first | rfl | (simp only [nI_lit, nI_add, pk_mul]; done) | (simp only [nI_lit, nI_add, pk_mul]; congr 1; omega))) (by omega) (by omega)) dX11_isHeavy_33 ?_
          refine lv_as (y := a (40 + 3 * j)) (by rw [show (nI (40 + 3 * j)).toNatClampNeg = (40 + 3 * j) from ix_cl (show (nI (40 + 3 * j)) = nI (40 + 3 * j) from (by first | rfl | (simp only [nI_lit, nI_add, pk_mul]; done) | (simp only [nI_lit, nI_add, pk_mul]; congr 1; omega))) (Nat.lt_of_lt_of_le (m := 159) (by omega) (by omega))]) ?_
          refine lv_as (y := nI k) (ek) ?_
          refine lv_aload_n hx hb dX11_isHeavy_34 rfl (lv_at hl 3 rfl) ?_
          refine g_get (k := 0) (v := .ref al) C hW 0 rfl rfl jnX11 (by decide) k_fl_X11_7 rfl dX11_isHeavy_35 ?_
          refine lv_iload hx hb dX11_isHeavy_38 (lv_at hl 0 rfl) ?_
          refine lv_iconst (v := 1) hx hb dX11_isHeavy_40 (by decide) ?_
          refine lv_iadd hx hb dX11_isHeavy_41 ?_
          refine g_ald C hW 1 rfl (ix_in (show ((nI (40 + 3 * j)) + 1) = nI (40 + 3 * j + 1) from (by first | rfl | (simp only [nI_lit, nI_add, pk_mul]; done) | (simp only [nI_lit, nI_add, pk_mul]; congr 1; omega))) (by omega) (by omega)) dX11_isHeavy_42 ?_
          refine lv_as (y := a (40 + 3 * j + 1)) (by rw [show ((nI (40 + 3 * j)) + 1).toNatClampNeg = (40 + 3 * j + 1) from ix_cl (show ((nI (40 + 3 * j)) + 1) = nI (40 + 3 * j + 1) from (by first | rfl | (simp only [nI_lit, nI_add, pk_mul]; done) | (simp only [nI_lit, nI_add, pk_mul]; congr 1; omega))) (Nat.lt_of_lt_of_le (m := 159) (by omega) (by omega))]) ?_
          refine lv_as (y := nI t) (et) ?_
          refine lv_iload_n hx hb dX11_isHeavy_43 rfl (lv_at hl 4 rfl) ?_
          refine g_fi C hW [0, 1] rfl (g_runV (As := [.int (nI k), .int (nI t), .int g]) (rest := []) (wc := [(mo, .inr (9, [.ref al, .ref ke, .ref ik, .ref rq, .long mab, .long mbe, .ref so, .ref ha, .ref te, .ref bt, .int bL, .int tA, .int tL, .int tK, .int tV, .ref an, .ref vs])), (al, .inl (G.2.1, 159, .inl a))]) (q0 := 0) (ci := 9) C hW hl (c_X11_isOverBy l G mo al ke ik rq so ha te bt an vs mab mbe bL tA tL tK tV a k t g (by first | assumption | omega) (by first | assumption | omega) _) k_ml_X11_163 q_X11_isOverBy (by decide) [0, 1] rfl rfl rfl rfl rfl rfl (Nat.le_of_ble_eq_true rfl) dX11_isHeavy_44 (by decide)) (fun r_1836 er_1836 => ?_)
          clear hW H locs; intro H locs hW
          refine lv_as (y := bI (ovA a k t g)) er_1836 ?_
          clear er_1836 r_1836
          refine lv_aload_n hx hb dX11_isHeavy_47 rfl (lv_at hl 3 rfl) ?_
          refine g_get (k := 0) (v := .ref al) C hW 0 rfl rfl jnX11 (by decide) k_fl_X11_7 rfl dX11_isHeavy_48 ?_
          refine lv_iload hx hb dX11_isHeavy_51 (lv_at hl 0 rfl) ?_
          refine lv_iconst (v := 2) hx hb dX11_isHeavy_53 (by decide) ?_
          refine lv_iadd hx hb dX11_isHeavy_54 ?_
          refine g_ald C hW 1 rfl (ix_in (show ((nI (40 + 3 * j)) + 2) = nI (40 + 3 * j + 2) from (by first | rfl | (simp only [nI_lit, nI_add, pk_mul]; done) | (simp only [nI_lit, nI_add, pk_mul]; congr 1; omega))) (by omega) (by omega)) dX11_isHeavy_55 ?_
          refine lv_as (y := a (40 + 3 * j + 2)) (by rw [show ((nI (40 + 3 * j)) + 2).toNatClampNeg = (40 + 3 * j + 2) from ix_cl (show ((nI (40 + 3 * j)) + 2) = nI (40 + 3 * j + 2) from (by first | rfl | (simp only [nI_lit, nI_add, pk_mul]; done) | (simp only [nI_lit, nI_add, pk_mul]; congr 1; omega))) (Nat.lt_of_lt_of_le (m := 159) (by omega) (by omega))]) ?_
          refine lv_iconst (v := 1) hx hb dX11_isHeavy_56 (by decide) ?_
          have J_1839 : ∀ (y_1838 : Int32) (_ : y_1838 = (if (a (40 + 3 * j + 2)) = 1 then 1 else 0)), ∀ (H : Heap) (locs : List Loc) (ls : Array Slot), Wd G A_ s_.heap [(mo, .inr (9, [.ref al, .ref ke, .ref ik, .ref rq, .long mab, .long mbe, .ref so, .ref ha, .ref te, .ref bt, .int bL, .int tA, .int tL, .int tK, .int tV, .ref an, .ref vs])), (al, .inl (G.2.1, 159, .inl a))] H locs → lv_has ls 5 [(4, .int (nI (40 + 3 * j))), (3, .int (nI j)), (2, .int (bI (hwA a g j))), (0, .ref mo), (1, .int g)] → W p_ l e_ ({ frames := 3, cells := 0, slots := 0, locals := 72 }) s_ m_ ar_ be_ me_ cd_ H locs 0 0 Q (F0 m_ 65 ls [.int y_1838, .int (bI (ovA a k t g))]) := by
            intro y_1838 ey_1838 H locs ls hW hl
            refine lv_icmp_ne (tgt := 72) hx hb dX11_isHeavy_65 (by decide) (fun c_1840 => ?_) (fun c_1840 => ?_)
            · refine lv_iconst (v := 0) hx hb dX11_isHeavy_72 (by decide) ?_
              exact J_1835 0 (by first | (simp only [c_1831, c_1840, if_true, if_false, reduceIte]; done) | (subst ey_1838; simp only [c_1831, c_1840, if_true, if_false, reduceIte]; done) | (subst ey_1838; simp [c_1831, c_1840]; done) | (subst ey_1838; (repeat' split) <;> simp_all)) _ _ _ hW (lv_sub hl [0, 1, 2, 3, 4] rfl)
            · refine lv_iconst (v := 1) hx hb dX11_isHeavy_68 (by decide) ?_
              refine lv_goto (tgt := 73) hx hb dX11_isHeavy_69 (by decide) ?_
              exact J_1835 1 (by first | (simp only [c_1831, c_1840, if_true, if_false, reduceIte]; done) | (subst ey_1838; simp only [c_1831, c_1840, if_true, if_false, reduceIte]; done) | (subst ey_1838; simp [c_1831, c_1840]; done) | (subst ey_1838; (repeat' split) <;> simp_all)) _ _ _ hW (lv_sub hl [0, 1, 2, 3, 4] rfl)
          refine lv_icmp_ne (tgt := 64) hx hb dX11_isHeavy_57 (by decide) (fun c_1837 => ?_) (fun c_1837 => ?_)
          · refine lv_iconst (v := 0) hx hb dX11_isHeavy_64 (by decide) ?_
            exact J_1839 0 (by first | (simp only [c_1837, if_true, if_false, reduceIte]; done) | (simp [c_1837]; done) | rfl | (rw [if_neg c_1837]; done)) _ _ _ hW (lv_sub hl [0, 1, 2, 3, 4] rfl)
          · refine lv_iconst (v := 1) hx hb dX11_isHeavy_60 (by decide) ?_
            refine lv_goto (tgt := 65) hx hb dX11_isHeavy_61 (by decide) ?_
            exact J_1839 1 (by first | (simp only [c_1837, if_true, if_false, reduceIte]; done) | (simp [c_1837]; done) | rfl | (rw [if_pos c_1837]; done)) _ _ _ hW (lv_sub hl [0, 1, 2, 3, 4] rfl)
  exact K_1827 _ 0 0 1 (by first | exact rfl | (simp; done)) (by exact rfl) (by first | omega | assumption | (simp; done)) (Nat.lt_succ_self _) _ _ _ hW (lv_sub hl [0, 1, 2, 3] rfl)
set_option maxHeartbeats 4000000 in
set_option maxRecDepth 100000 in
theorem c_X11_heavy_0 (l : Launch) (G : gT) (mo al ke ik rq so ha te bt an vs : Nat) (mab mbe : Int64) (bL tA tL tK tV : Int32) (a : Nat → Int32) (sn : Nat) (x9 : Int32) (e1 : a 1 = nI sn) (hs : sn ≤ 5) (hS : oSA a sn) (hx9 : x9 = 0) : MI l G yX11_heavy cX11_heavy 6 .int ({ frames := 4, cells := 0, slots := 0, locals := 96 }) [.ref mo, .int x9] [(mo, .inr (9, [.ref al, .ref ke, .ref ik, .ref rq, .long mab, .long mbe, .ref so, .ref ha, .ref te, .ref bt, .int bL, .int tA, .int tL, .int tK, .int tV, .ref an, .ref vs])), (al, .inl (G.2.1, 159, .inl a))] (fun (r : Int32) w1 => (r = (hvF (fun g => hwA a (nI g) sn) 9).1) ∧ w1 = [(mo, .inr (9, [.ref al, .ref ke, .ref ik, .ref rq, .long mab, .long mbe, .ref so, .ref ha, .ref te, .ref bt, .int bL, .int tA, .int tL, .int tK, .int tV, .ref an, .ref vs])), (al, .inl (G.2.1, 159, .inl a))]) := by
  refine MI.mk (by decide) (Nat.le_of_ble_eq_true rfl) ?_
  intro p_ e_ s_ m_ ar_ be_ me_ cd_ A_ ls C hrt hW hl
  have hx := C.1; have hb := C.2.1; have hown := C.2.2.2.1; have ht := C.2.2.2.2.1
  replace hl : lv_has ls 6 [(0, .ref mo), (1, .int x9)] := hl
  generalize hQ : MQ be_ _ ar_ s_ 0 0 A_ = Q
  refine lv_iload_n hx hb dX11_heavy_0 rfl (lv_at hl 1 rfl) ?_
  refine lv_i2l hx hb dX11_heavy_1 rfl ?_
  refine lv_lconst (v := 0) hx hb dX11_heavy_2 (by decide) ?_
  refine lv_ldc2 (v := 2) hx hb hown (ht _ k_cg_X11_167) dX11_heavy_3 ?_
  refine g_fi C hW [] rfl (g_runS (As := [.long x9.toInt64, .long 0, .long 2]) (rest := []) (wc := []) C hW hl (c_X11_in l G x9 0 2 0 2 (by first | rfl | decide) (by first | rfl | decide) _) k_ml_X11_53 q_X11_in (by decide) [] rfl rfl rfl rfl (Nat.le_of_ble_eq_true rfl) dX11_heavy_6 (by decide)) (fun r_1841 er_1841 => ?_)
  clear hW; intro H locs hW
  refine lv_as (y := bI (iw x9 0 2)) er_1841 ?_
  clear er_1841 r_1841
  refine lv_if_ne (tgt := 19) hx hb dX11_heavy_9 (by decide) (fun c_1842 => ?_) (fun c_1842 => ?_)
  · refine lv_iconst (v := 0) hx hb dX11_heavy_19 (by decide) ?_
    refine lv_istore_n (lv' := [(2, .int 0), (0, .ref mo), (1, .int x9)]) hx hb dX11_heavy_20 rfl hl (by decide) rfl ?_
    clear hl ls; intro ls hl
    refine lv_iconst (v := (-1)) hx hb dX11_heavy_21 (by decide) ?_
    refine lv_istore_n (lv' := [(3, .int (-1)), (2, .int 0), (0, .ref mo), (1, .int x9)]) hx hb dX11_heavy_22 rfl hl (by decide) rfl ?_
    clear hl ls; intro ls hl
    refine lv_iconst (v := (-1)) hx hb dX11_heavy_23 (by decide) ?_
    refine lv_istore (lv' := [(4, .int (-1)), (3, .int (-1)), (2, .int 0), (0, .ref mo), (1, .int x9)]) hx hb dX11_heavy_24 hl (by decide) rfl ?_
    clear hl ls; intro ls hl
    refine lv_iconst (v := 1) hx hb dX11_heavy_26 (by decide) ?_
    refine lv_istore (lv' := [(5, .int 1), (4, .int (-1)), (3, .int (-1)), (2, .int 0), (0, .ref mo), (1, .int x9)]) hx hb dX11_heavy_27 hl (by decide) rfl ?_
    clear hl ls; intro ls hl
    have K_1843 : ∀ (n_ : Nat) (i : Nat) (x_1844 : Int32) (x_1845 : Int32) (x_1846 : Int32) (x_1847 : Int32) (_ : x_1844 = nI (i + 1)) (_ : x_1845 = (hvF (fun g => hwA a (nI g) sn) i).2.2) (_ : x_1846 = (hvF (fun g => hwA a (nI g) sn) i).2.1) (_ : x_1847 = (hvF (fun g => hwA a (nI g) sn) i).1) (_ : i ≤ 9) (_ : 9 - i < n_) (H : Heap) (locs : List Loc) (ls : Array Slot), Wd G A_ s_.heap [(mo, .inr (9, [.ref al, .ref ke, .ref ik, .ref rq, .long mab, .long mbe, .ref so, .ref ha, .ref te, .ref bt, .int bL, .int tA, .int tL, .int tK, .int tV, .ref an, .ref vs])), (al, .inl (G.2.1, 159, .inl a))] H locs → lv_has ls 6 [(5, .int x_1844), (4, .int x_1845), (3, .int x_1846), (2, .int x_1847), (0, .ref mo), (1, .int x9)] → W p_ l e_ ({ frames := 4, cells := 0, slots := 0, locals := 96 }) s_ m_ ar_ be_ me_ cd_ H locs 0 0 Q (F0 m_ 29 ls []) := by
      intro n_
      induction n_ with
      | zero => intro i x_1844 x_1845 x_1846 x_1847 ex_1844 ex_1845 ex_1846 ex_1847 hi9 hm_; exact absurd hm_ (Nat.not_lt_zero _)
      | succ n_ ihK_1843 =>
        intro i x_1844 x_1845 x_1846 x_1847 ex_1844 ex_1845 ex_1846 ex_1847 hi9 hm_ H locs ls hW hl
        subst ex_1844
        subst ex_1845
        subst ex_1846
        subst ex_1847
        refine lv_iload hx hb dX11_heavy_29 (lv_at hl 0 rfl) ?_
        refine lv_bipush (v := 10) hx hb dX11_heavy_31 (by decide) ?_
        refine lv_icmp_ge (tgt := 69) hx hb dX11_heavy_33 (by decide) (fun c_1848 => ?_) (fun c_1848 => ?_)
        · replace c_1848 := Int32.not_lt.mpr c_1848
          have c_1848n : ¬ (i + 1) < 10 := fun q => c_1848 ((nI_ltI (a := (i + 1)) (b := 10) (by omega) (by omega)).mpr q)
          refine lv_iload_n hx hb dX11_heavy_69 rfl (lv_at hl 5 rfl) ?_
          refine lv_if_ne (tgt := 77) hx hb dX11_heavy_70 (by decide) (fun c_1850 => ?_) (fun c_1850 => ?_)
          · exfalso; exact c_1850 hx9
          · refine lv_iload_n hx hb dX11_heavy_73 rfl (lv_at hl 3 rfl) ?_
            refine lv_goto (tgt := 88) hx hb dX11_heavy_74 (by decide) ?_
            subst hQ
            exact g_iret (v := ((hvF (fun g => hwA a (nI g) sn) i).1)) C hW hrt ⟨by (rw [show i = 9 by omega]), rfl⟩ dX11_heavy_88
        · replace c_1848 := Int32.not_le.mp c_1848
          have c_1848n : (i + 1) < 10 := (nI_ltI (a := (i + 1)) (b := 10) (by omega) (by omega)).mp c_1848
          refine lv_aload_n hx hb dX11_heavy_36 rfl (lv_at hl 4 rfl) ?_
          refine lv_iload hx hb dX11_heavy_37 (lv_at hl 0 rfl) ?_
          refine g_fi C hW [0, 1] rfl (g_runV (As := [.int (nI (i + 1))]) (rest := []) (wc := [(mo, .inr (9, [.ref al, .ref ke, .ref ik, .ref rq, .long mab, .long mbe, .ref so, .ref ha, .ref te, .ref bt, .int bL, .int tA, .int tL, .int tK, .int tV, .ref an, .ref vs])), (al, .inl (G.2.1, 159, .inl a))]) (q0 := 0) (ci := 9) C hW hl (c_X11_isHeavy l G mo al ke ik rq so ha te bt an vs mab mbe bL tA tL tK tV a sn (nI (i + 1)) (by first | assumption | omega) (by first | assumption | omega) (by assumption) _) k_ml_X11_169 q_X11_isHeavy (by decide) [0, 1] rfl rfl rfl rfl rfl rfl (Nat.le_of_ble_eq_true rfl) dX11_heavy_39 (by decide)) (fun r_1851 er_1851 => ?_)
          clear hW H locs; intro H locs hW
          refine lv_as (y := bI (hwA a (nI (i + 1)) sn)) er_1851 ?_
          clear er_1851 r_1851
          have J_1856 : ∀ (x_1853 : Int32) (_ : x_1853 = (if (bI (hwA a (nI (i + 1)) sn)) = 0 then (hvF (fun g => hwA a (nI g) sn) i).2.2 else nI (i + 1))) (x_1854 : Int32) (_ : x_1854 = (if (bI (hwA a (nI (i + 1)) sn)) = 0 then (hvF (fun g => hwA a (nI g) sn) i).2.1 else (if ((hvF (fun g => hwA a (nI g) sn) i).1) = 0 then nI (i + 1) else (hvF (fun g => hwA a (nI g) sn) i).2.1))) (x_1855 : Int32) (_ : x_1855 = (if (bI (hwA a (nI (i + 1)) sn)) = 0 then (hvF (fun g => hwA a (nI g) sn) i).1 else ((hvF (fun g => hwA a (nI g) sn) i).1) + 1)), ∀ (H : Heap) (locs : List Loc) (ls : Array Slot), Wd G A_ s_.heap [(mo, .inr (9, [.ref al, .ref ke, .ref ik, .ref rq, .long mab, .long mbe, .ref so, .ref ha, .ref te, .ref bt, .int bL, .int tA, .int tL, .int tK, .int tV, .ref an, .ref vs])), (al, .inl (G.2.1, 159, .inl a))] H locs → lv_has ls 6 [(5, .int (nI (i + 1))), (4, .int x_1853), (3, .int x_1854), (2, .int x_1855), (0, .ref mo), (1, .int x9)] → W p_ l e_ ({ frames := 4, cells := 0, slots := 0, locals := 96 }) s_ m_ ar_ be_ me_ cd_ H locs 0 0 Q (F0 m_ 63 ls []) := by
            intro x_1853 ex_1853 x_1854 ex_1854 x_1855 ex_1855 H locs ls hW hl
            refine lv_iinc (v := (nI (i + 1)) + 1) (lv' := [(5, .int ((nI (i + 1)) + 1)), (4, .int x_1853), (3, .int x_1854), (2, .int x_1855), (0, .ref mo), (1, .int x9)]) hx hb dX11_heavy_63 hl (k := 0) rfl rfl (by decide) rfl ?_
            clear hl ls; intro ls hl
            refine lv_goto (tgt := 29) hx hb dX11_heavy_66 (by decide) ?_
            exact ihK_1843 (i + 1) ((nI (i + 1)) + 1) x_1853 x_1854 x_1855 (by exact nI_1 _) (by (simp only [ex_1853, ex_1854, ex_1855]; exact hv_3)) (by (simp only [ex_1853, ex_1854, ex_1855]; exact hv_2)) (by (simp only [ex_1853, ex_1854, ex_1855]; exact hv_1)) (by first | omega | assumption | (simp; done)) (by omega) _ _ _ hW (lv_sub hl [0, 1, 2, 3, 4, 5] rfl)
          refine lv_if_eq (tgt := 63) hx hb dX11_heavy_42 (by decide) (fun c_1852 => ?_) (fun c_1852 => ?_)
          · exact J_1856 ((hvF (fun g => hwA a (nI g) sn) i).2.2) (by first | (simp only [c_1852, if_true, if_false, reduceIte]; done) | (simp [c_1852]; done) | rfl | (rw [if_pos c_1852]; done)) ((hvF (fun g => hwA a (nI g) sn) i).2.1) (by first | (simp only [c_1852, if_true, if_false, reduceIte]; done) | (simp [c_1852]; done) | rfl | (rw [if_pos c_1852]; done)) ((hvF (fun g => hwA a (nI g) sn) i).1) (by first | (simp only [c_1852, if_true, if_false, reduceIte]; done) | (simp [c_1852]; done) | rfl | (rw [if_pos c_1852]; done)) _ _ _ hW (lv_sub hl [0, 1, 2, 3, 4, 5] rfl)
          · refine lv_iload_n hx hb dX11_heavy_45 rfl (lv_at hl 3 rfl) ?_
            have J_1859 : ∀ (y_1858 : Int32) (_ : y_1858 = (if ((hvF (fun g => hwA a (nI g) sn) i).1) = 0 then nI (i + 1) else (hvF (fun g => hwA a (nI g) sn) i).2.1)), ∀ (H : Heap) (locs : List Loc) (ls : Array Slot), Wd G A_ s_.heap [(mo, .inr (9, [.ref al, .ref ke, .ref ik, .ref rq, .long mab, .long mbe, .ref so, .ref ha, .ref te, .ref bt, .int bL, .int tA, .int tL, .int tK, .int tV, .ref an, .ref vs])), (al, .inl (G.2.1, 159, .inl a))] H locs → lv_has ls 6 [(5, .int (nI (i + 1))), (4, .int ((hvF (fun g => hwA a (nI g) sn) i).2.2)), (3, .int ((hvF (fun g => hwA a (nI g) sn) i).2.1)), (2, .int ((hvF (fun g => hwA a (nI g) sn) i).1)), (0, .ref mo), (1, .int x9)] → W p_ l e_ ({ frames := 4, cells := 0, slots := 0, locals := 96 }) s_ m_ ar_ be_ me_ cd_ H locs 0 0 Q (F0 m_ 55 ls [.int y_1858]) := by
              intro y_1858 ey_1858 H locs ls hW hl
              refine lv_istore_n (lv' := [(3, .int y_1858), (5, .int (nI (i + 1))), (4, .int ((hvF (fun g => hwA a (nI g) sn) i).2.2)), (2, .int ((hvF (fun g => hwA a (nI g) sn) i).1)), (0, .ref mo), (1, .int x9)]) hx hb dX11_heavy_55 rfl hl (by decide) rfl ?_
              clear hl ls; intro ls hl
              refine lv_iload hx hb dX11_heavy_56 (lv_at hl 1 rfl) ?_
              refine lv_istore (lv' := [(4, .int (nI (i + 1))), (3, .int y_1858), (5, .int (nI (i + 1))), (2, .int ((hvF (fun g => hwA a (nI g) sn) i).1)), (0, .ref mo), (1, .int x9)]) hx hb dX11_heavy_58 hl (by decide) rfl ?_
              clear hl ls; intro ls hl
              refine lv_iinc (v := ((hvF (fun g => hwA a (nI g) sn) i).1) + 1) (lv' := [(2, .int (((hvF (fun g => hwA a (nI g) sn) i).1) + 1)), (4, .int (nI (i + 1))), (3, .int y_1858), (5, .int (nI (i + 1))), (0, .ref mo), (1, .int x9)]) hx hb dX11_heavy_60 hl (k := 3) rfl rfl (by decide) rfl ?_
              clear hl ls; intro ls hl
              exact J_1856 (nI (i + 1)) (by first | (simp only [c_1852, if_true, if_false, reduceIte]; done) | (subst ey_1858; simp only [c_1852, if_true, if_false, reduceIte]; done) | (subst ey_1858; simp [c_1852]; done) | (subst ey_1858; (repeat' split) <;> simp_all)) y_1858 (by first | (simp only [c_1852, if_true, if_false, reduceIte]; done) | (subst ey_1858; simp only [c_1852, if_true, if_false, reduceIte]; done) | (subst ey_1858; simp [c_1852]; done) | (subst ey_1858; (repeat' split) <;> simp_all)) (((hvF (fun g => hwA a (nI g) sn) i).1) + 1) (by first | (simp only [c_1852, if_true, if_false, reduceIte]; done) | (subst ey_1858; simp only [c_1852, if_true, if_false, reduceIte]; done) | (subst ey_1858; simp [c_1852]; done) | (subst ey_1858; (repeat' split) <;> simp_all)) _ _ _ hW (lv_sub hl [3, 1, 2, 0, 4, 5] rfl)
            refine lv_if_ne (tgt := 54) hx hb dX11_heavy_46 (by decide) (fun c_1857 => ?_) (fun c_1857 => ?_)
            · refine lv_iload_n hx hb dX11_heavy_54 rfl (lv_at hl 2 rfl) ?_
              exact J_1859 ((hvF (fun g => hwA a (nI g) sn) i).2.1) (by first | (simp only [c_1857, if_true, if_false, reduceIte]; done) | (simp [c_1857]; done) | rfl | (rw [if_neg c_1857]; done)) _ _ _ hW (lv_sub hl [0, 1, 2, 3, 4, 5] rfl)
            · refine lv_iload hx hb dX11_heavy_49 (lv_at hl 0 rfl) ?_
              refine lv_goto (tgt := 55) hx hb dX11_heavy_51 (by decide) ?_
              exact J_1859 (nI (i + 1)) (by first | (simp only [c_1857, if_true, if_false, reduceIte]; done) | (simp [c_1857]; done) | rfl | (rw [if_pos c_1857]; done)) _ _ _ hW (lv_sub hl [0, 1, 2, 3, 4, 5] rfl)
    exact K_1843 _ 0 1 (-1) (-1) 0 (by exact rfl) (by exact rfl) (by exact rfl) (by exact rfl) (by first | omega | assumption | (simp; done)) (Nat.lt_succ_self _) _ _ _ hW (lv_sub hl [0, 1, 2, 3, 4, 5] rfl)
  · exfalso; exact dd (by rw [hx9]; decide) c_1842
set_option maxHeartbeats 4000000 in
set_option maxRecDepth 100000 in
theorem c_X11_heavy_1 (l : Launch) (G : gT) (mo al ke ik rq so ha te bt an vs : Nat) (mab mbe : Int64) (bL tA tL tK tV : Int32) (a : Nat → Int32) (sn : Nat) (x9 : Int32) (e1 : a 1 = nI sn) (hs : sn ≤ 5) (hS : oSA a sn) (hx9 : x9 = 1) : MI l G yX11_heavy cX11_heavy 6 .int ({ frames := 4, cells := 0, slots := 0, locals := 96 }) [.ref mo, .int x9] [(mo, .inr (9, [.ref al, .ref ke, .ref ik, .ref rq, .long mab, .long mbe, .ref so, .ref ha, .ref te, .ref bt, .int bL, .int tA, .int tL, .int tK, .int tV, .ref an, .ref vs])), (al, .inl (G.2.1, 159, .inl a))] (fun (r : Int32) w1 => (r = (hvF (fun g => hwA a (nI g) sn) 9).2.1) ∧ w1 = [(mo, .inr (9, [.ref al, .ref ke, .ref ik, .ref rq, .long mab, .long mbe, .ref so, .ref ha, .ref te, .ref bt, .int bL, .int tA, .int tL, .int tK, .int tV, .ref an, .ref vs])), (al, .inl (G.2.1, 159, .inl a))]) := by
  refine MI.mk (by decide) (Nat.le_of_ble_eq_true rfl) ?_
  intro p_ e_ s_ m_ ar_ be_ me_ cd_ A_ ls C hrt hW hl
  have hx := C.1; have hb := C.2.1; have hown := C.2.2.2.1; have ht := C.2.2.2.2.1
  replace hl : lv_has ls 6 [(0, .ref mo), (1, .int x9)] := hl
  generalize hQ : MQ be_ _ ar_ s_ 0 0 A_ = Q
  refine lv_iload_n hx hb dX11_heavy_0 rfl (lv_at hl 1 rfl) ?_
  refine lv_i2l hx hb dX11_heavy_1 rfl ?_
  refine lv_lconst (v := 0) hx hb dX11_heavy_2 (by decide) ?_
  refine lv_ldc2 (v := 2) hx hb hown (ht _ k_cg_X11_167) dX11_heavy_3 ?_
  refine g_fi C hW [] rfl (g_runS (As := [.long x9.toInt64, .long 0, .long 2]) (rest := []) (wc := []) C hW hl (c_X11_in l G x9 0 2 0 2 (by first | rfl | decide) (by first | rfl | decide) _) k_ml_X11_53 q_X11_in (by decide) [] rfl rfl rfl rfl (Nat.le_of_ble_eq_true rfl) dX11_heavy_6 (by decide)) (fun r_1860 er_1860 => ?_)
  clear hW; intro H locs hW
  refine lv_as (y := bI (iw x9 0 2)) er_1860 ?_
  clear er_1860 r_1860
  refine lv_if_ne (tgt := 19) hx hb dX11_heavy_9 (by decide) (fun c_1861 => ?_) (fun c_1861 => ?_)
  · refine lv_iconst (v := 0) hx hb dX11_heavy_19 (by decide) ?_
    refine lv_istore_n (lv' := [(2, .int 0), (0, .ref mo), (1, .int x9)]) hx hb dX11_heavy_20 rfl hl (by decide) rfl ?_
    clear hl ls; intro ls hl
    refine lv_iconst (v := (-1)) hx hb dX11_heavy_21 (by decide) ?_
    refine lv_istore_n (lv' := [(3, .int (-1)), (2, .int 0), (0, .ref mo), (1, .int x9)]) hx hb dX11_heavy_22 rfl hl (by decide) rfl ?_
    clear hl ls; intro ls hl
    refine lv_iconst (v := (-1)) hx hb dX11_heavy_23 (by decide) ?_
    refine lv_istore (lv' := [(4, .int (-1)), (3, .int (-1)), (2, .int 0), (0, .ref mo), (1, .int x9)]) hx hb dX11_heavy_24 hl (by decide) rfl ?_
    clear hl ls; intro ls hl
    refine lv_iconst (v := 1) hx hb dX11_heavy_26 (by decide) ?_
    refine lv_istore (lv' := [(5, .int 1), (4, .int (-1)), (3, .int (-1)), (2, .int 0), (0, .ref mo), (1, .int x9)]) hx hb dX11_heavy_27 hl (by decide) rfl ?_
    clear hl ls; intro ls hl
    have K_1862 : ∀ (n_ : Nat) (i : Nat) (x_1863 : Int32) (x_1864 : Int32) (x_1865 : Int32) (x_1866 : Int32) (_ : x_1863 = nI (i + 1)) (_ : x_1864 = (hvF (fun g => hwA a (nI g) sn) i).2.2) (_ : x_1865 = (hvF (fun g => hwA a (nI g) sn) i).2.1) (_ : x_1866 = (hvF (fun g => hwA a (nI g) sn) i).1) (_ : i ≤ 9) (_ : 9 - i < n_) (H : Heap) (locs : List Loc) (ls : Array Slot), Wd G A_ s_.heap [(mo, .inr (9, [.ref al, .ref ke, .ref ik, .ref rq, .long mab, .long mbe, .ref so, .ref ha, .ref te, .ref bt, .int bL, .int tA, .int tL, .int tK, .int tV, .ref an, .ref vs])), (al, .inl (G.2.1, 159, .inl a))] H locs → lv_has ls 6 [(5, .int x_1863), (4, .int x_1864), (3, .int x_1865), (2, .int x_1866), (0, .ref mo), (1, .int x9)] → W p_ l e_ ({ frames := 4, cells := 0, slots := 0, locals := 96 }) s_ m_ ar_ be_ me_ cd_ H locs 0 0 Q (F0 m_ 29 ls []) := by
      intro n_
      induction n_ with
      | zero => intro i x_1863 x_1864 x_1865 x_1866 ex_1863 ex_1864 ex_1865 ex_1866 hi9 hm_; exact absurd hm_ (Nat.not_lt_zero _)
      | succ n_ ihK_1862 =>
        intro i x_1863 x_1864 x_1865 x_1866 ex_1863 ex_1864 ex_1865 ex_1866 hi9 hm_ H locs ls hW hl
        subst ex_1863
        subst ex_1864
        subst ex_1865
        subst ex_1866
        refine lv_iload hx hb dX11_heavy_29 (lv_at hl 0 rfl) ?_
        refine lv_bipush (v := 10) hx hb dX11_heavy_31 (by decide) ?_
        refine lv_icmp_ge (tgt := 69) hx hb dX11_heavy_33 (by decide) (fun c_1867 => ?_) (fun c_1867 => ?_)
        · replace c_1867 := Int32.not_lt.mpr c_1867
          have c_1867n : ¬ (i + 1) < 10 := fun q => c_1867 ((nI_ltI (a := (i + 1)) (b := 10) (by omega) (by omega)).mpr q)
          refine lv_iload_n hx hb dX11_heavy_69 rfl (lv_at hl 5 rfl) ?_
          refine lv_if_ne (tgt := 77) hx hb dX11_heavy_70 (by decide) (fun c_1869 => ?_) (fun c_1869 => ?_)
          · refine lv_iload_n hx hb dX11_heavy_77 rfl (lv_at hl 5 rfl) ?_
            refine lv_iconst (v := 1) hx hb dX11_heavy_78 (by decide) ?_
            refine lv_icmp_ne (tgt := 86) hx hb dX11_heavy_79 (by decide) (fun c_1870 => ?_) (fun c_1870 => ?_)
            · exfalso; exact c_1870 hx9
            · refine lv_iload_n hx hb dX11_heavy_82 rfl (lv_at hl 2 rfl) ?_
              refine lv_goto (tgt := 88) hx hb dX11_heavy_83 (by decide) ?_
              subst hQ
              exact g_iret (v := ((hvF (fun g => hwA a (nI g) sn) i).2.1)) C hW hrt ⟨by (rw [show i = 9 by omega]), rfl⟩ dX11_heavy_88
          · exfalso; (rw [hx9] at c_1869; exact absurd c_1869 (by decide))
        · replace c_1867 := Int32.not_le.mp c_1867
          have c_1867n : (i + 1) < 10 := (nI_ltI (a := (i + 1)) (b := 10) (by omega) (by omega)).mp c_1867
          refine lv_aload_n hx hb dX11_heavy_36 rfl (lv_at hl 4 rfl) ?_
          refine lv_iload hx hb dX11_heavy_37 (lv_at hl 0 rfl) ?_
          refine g_fi C hW [0, 1] rfl (g_runV (As := [.int (nI (i + 1))]) (rest := []) (wc := [(mo, .inr (9, [.ref al, .ref ke, .ref ik, .ref rq, .long mab, .long mbe, .ref so, .ref ha, .ref te, .ref bt, .int bL, .int tA, .int tL, .int tK, .int tV, .ref an, .ref vs])), (al, .inl (G.2.1, 159, .inl a))]) (q0 := 0) (ci := 9) C hW hl (c_X11_isHeavy l G mo al ke ik rq so ha te bt an vs mab mbe bL tA tL tK tV a sn (nI (i + 1)) (by first | assumption | omega) (by first | assumption | omega) (by assumption) _) k_ml_X11_169 q_X11_isHeavy (by decide) [0, 1] rfl rfl rfl rfl rfl rfl (Nat.le_of_ble_eq_true rfl) dX11_heavy_39 (by decide)) (fun r_1871 er_1871 => ?_)
          clear hW H locs; intro H locs hW
          refine lv_as (y := bI (hwA a (nI (i + 1)) sn)) er_1871 ?_
          clear er_1871 r_1871
          have J_1876 : ∀ (x_1873 : Int32) (_ : x_1873 = (if (bI (hwA a (nI (i + 1)) sn)) = 0 then (hvF (fun g => hwA a (nI g) sn) i).2.2 else nI (i + 1))) (x_1874 : Int32) (_ : x_1874 = (if (bI (hwA a (nI (i + 1)) sn)) = 0 then (hvF (fun g => hwA a (nI g) sn) i).2.1 else (if ((hvF (fun g => hwA a (nI g) sn) i).1) = 0 then nI (i + 1) else (hvF (fun g => hwA a (nI g) sn) i).2.1))) (x_1875 : Int32) (_ : x_1875 = (if (bI (hwA a (nI (i + 1)) sn)) = 0 then (hvF (fun g => hwA a (nI g) sn) i).1 else ((hvF (fun g => hwA a (nI g) sn) i).1) + 1)), ∀ (H : Heap) (locs : List Loc) (ls : Array Slot), Wd G A_ s_.heap [(mo, .inr (9, [.ref al, .ref ke, .ref ik, .ref rq, .long mab, .long mbe, .ref so, .ref ha, .ref te, .ref bt, .int bL, .int tA, .int tL, .int tK, .int tV, .ref an, .ref vs])), (al, .inl (G.2.1, 159, .inl a))] H locs → lv_has ls 6 [(5, .int (nI (i + 1))), (4, .int x_1873), (3, .int x_1874), (2, .int x_1875), (0, .ref mo), (1, .int x9)] → W p_ l e_ ({ frames := 4, cells := 0, slots := 0, locals := 96 }) s_ m_ ar_ be_ me_ cd_ H locs 0 0 Q (F0 m_ 63 ls []) := by
            intro x_1873 ex_1873 x_1874 ex_1874 x_1875 ex_1875 H locs ls hW hl
            refine lv_iinc (v := (nI (i + 1)) + 1) (lv' := [(5, .int ((nI (i + 1)) + 1)), (4, .int x_1873), (3, .int x_1874), (2, .int x_1875), (0, .ref mo), (1, .int x9)]) hx hb dX11_heavy_63 hl (k := 0) rfl rfl (by decide) rfl ?_
            clear hl ls; intro ls hl
            refine lv_goto (tgt := 29) hx hb dX11_heavy_66 (by decide) ?_
            exact ihK_1862 (i + 1) ((nI (i + 1)) + 1) x_1873 x_1874 x_1875 (by exact nI_1 _) (by (simp only [ex_1873, ex_1874, ex_1875]; exact hv_3)) (by (simp only [ex_1873, ex_1874, ex_1875]; exact hv_2)) (by (simp only [ex_1873, ex_1874, ex_1875]; exact hv_1)) (by first | omega | assumption | (simp; done)) (by omega) _ _ _ hW (lv_sub hl [0, 1, 2, 3, 4, 5] rfl)
          refine lv_if_eq (tgt := 63) hx hb dX11_heavy_42 (by decide) (fun c_1872 => ?_) (fun c_1872 => ?_)
          · exact J_1876 ((hvF (fun g => hwA a (nI g) sn) i).2.2) (by first | (simp only [c_1872, if_true, if_false, reduceIte]; done) | (simp [c_1872]; done) | rfl | (rw [if_pos c_1872]; done)) ((hvF (fun g => hwA a (nI g) sn) i).2.1) (by first | (simp only [c_1872, if_true, if_false, reduceIte]; done) | (simp [c_1872]; done) | rfl | (rw [if_pos c_1872]; done)) ((hvF (fun g => hwA a (nI g) sn) i).1) (by first | (simp only [c_1872, if_true, if_false, reduceIte]; done) | (simp [c_1872]; done) | rfl | (rw [if_pos c_1872]; done)) _ _ _ hW (lv_sub hl [0, 1, 2, 3, 4, 5] rfl)
          · refine lv_iload_n hx hb dX11_heavy_45 rfl (lv_at hl 3 rfl) ?_
            have J_1879 : ∀ (y_1878 : Int32) (_ : y_1878 = (if ((hvF (fun g => hwA a (nI g) sn) i).1) = 0 then nI (i + 1) else (hvF (fun g => hwA a (nI g) sn) i).2.1)), ∀ (H : Heap) (locs : List Loc) (ls : Array Slot), Wd G A_ s_.heap [(mo, .inr (9, [.ref al, .ref ke, .ref ik, .ref rq, .long mab, .long mbe, .ref so, .ref ha, .ref te, .ref bt, .int bL, .int tA, .int tL, .int tK, .int tV, .ref an, .ref vs])), (al, .inl (G.2.1, 159, .inl a))] H locs → lv_has ls 6 [(5, .int (nI (i + 1))), (4, .int ((hvF (fun g => hwA a (nI g) sn) i).2.2)), (3, .int ((hvF (fun g => hwA a (nI g) sn) i).2.1)), (2, .int ((hvF (fun g => hwA a (nI g) sn) i).1)), (0, .ref mo), (1, .int x9)] → W p_ l e_ ({ frames := 4, cells := 0, slots := 0, locals := 96 }) s_ m_ ar_ be_ me_ cd_ H locs 0 0 Q (F0 m_ 55 ls [.int y_1878]) := by
              intro y_1878 ey_1878 H locs ls hW hl
              refine lv_istore_n (lv' := [(3, .int y_1878), (5, .int (nI (i + 1))), (4, .int ((hvF (fun g => hwA a (nI g) sn) i).2.2)), (2, .int ((hvF (fun g => hwA a (nI g) sn) i).1)), (0, .ref mo), (1, .int x9)]) hx hb dX11_heavy_55 rfl hl (by decide) rfl ?_
              clear hl ls; intro ls hl
              refine lv_iload hx hb dX11_heavy_56 (lv_at hl 1 rfl) ?_
              refine lv_istore (lv' := [(4, .int (nI (i + 1))), (3, .int y_1878), (5, .int (nI (i + 1))), (2, .int ((hvF (fun g => hwA a (nI g) sn) i).1)), (0, .ref mo), (1, .int x9)]) hx hb dX11_heavy_58 hl (by decide) rfl ?_
              clear hl ls; intro ls hl
              refine lv_iinc (v := ((hvF (fun g => hwA a (nI g) sn) i).1) + 1) (lv' := [(2, .int (((hvF (fun g => hwA a (nI g) sn) i).1) + 1)), (4, .int (nI (i + 1))), (3, .int y_1878), (5, .int (nI (i + 1))), (0, .ref mo), (1, .int x9)]) hx hb dX11_heavy_60 hl (k := 3) rfl rfl (by decide) rfl ?_
              clear hl ls; intro ls hl
              exact J_1876 (nI (i + 1)) (by first | (simp only [c_1872, if_true, if_false, reduceIte]; done) | (subst ey_1878; simp only [c_1872, if_true, if_false, reduceIte]; done) | (subst ey_1878; simp [c_1872]; done) | (subst ey_1878; (repeat' split) <;> simp_all)) y_1878 (by first | (simp only [c_1872, if_true, if_false, reduceIte]; done) | (subst ey_1878; simp only [c_1872, if_true, if_false, reduceIte]; done) | (subst ey_1878; simp [c_1872]; done) | (subst ey_1878; (repeat' split) <;> simp_all)) (((hvF (fun g => hwA a (nI g) sn) i).1) + 1) (by first | (simp only [c_1872, if_true, if_false, reduceIte]; done) | (subst ey_1878; simp only [c_1872, if_true, if_false, reduceIte]; done) | (subst ey_1878; simp [c_1872]; done) | (subst ey_1878; (repeat' split) <;> simp_all)) _ _ _ hW (lv_sub hl [3, 1, 2, 0, 4, 5] rfl)
            refine lv_if_ne (tgt := 54) hx hb dX11_heavy_46 (by decide) (fun c_1877 => ?_) (fun c_1877 => ?_)
            · refine lv_iload_n hx hb dX11_heavy_54 rfl (lv_at hl 2 rfl) ?_
              exact J_1879 ((hvF (fun g => hwA a (nI g) sn) i).2.1) (by first | (simp only [c_1877, if_true, if_false, reduceIte]; done) | (simp [c_1877]; done) | rfl | (rw [if_neg c_1877]; done)) _ _ _ hW (lv_sub hl [0, 1, 2, 3, 4, 5] rfl)
            · refine lv_iload hx hb dX11_heavy_49 (lv_at hl 0 rfl) ?_
              refine lv_goto (tgt := 55) hx hb dX11_heavy_51 (by decide) ?_
              exact J_1879 (nI (i + 1)) (by first | (simp only [c_1877, if_true, if_false, reduceIte]; done) | (simp [c_1877]; done) | rfl | (rw [if_pos c_1877]; done)) _ _ _ hW (lv_sub hl [0, 1, 2, 3, 4, 5] rfl)
    exact K_1862 _ 0 1 (-1) (-1) 0 (by exact rfl) (by exact rfl) (by exact rfl) (by exact rfl) (by first | omega | assumption | (simp; done)) (Nat.lt_succ_self _) _ _ _ hW (lv_sub hl [0, 1, 2, 3, 4, 5] rfl)
  · exfalso; exact dd (by rw [hx9]; decide) c_1861
set_option maxHeartbeats 4000000 in
set_option maxRecDepth 100000 in
theorem c_X11_heavy_2 (l : Launch) (G : gT) (mo al ke ik rq so ha te bt an vs : Nat) (mab mbe : Int64) (bL tA tL tK tV : Int32) (a : Nat → Int32) (sn : Nat) (x9 : Int32) (e1 : a 1 = nI sn) (hs : sn ≤ 5) (hS : oSA a sn) (hx9 : x9 = 2) : MI l G yX11_heavy cX11_heavy 6 .int ({ frames := 4, cells := 0, slots := 0, locals := 96 }) [.ref mo, .int x9] [(mo, .inr (9, [.ref al, .ref ke, .ref ik, .ref rq, .long mab, .long mbe, .ref so, .ref ha, .ref te, .ref bt, .int bL, .int tA, .int tL, .int tK, .int tV, .ref an, .ref vs])), (al, .inl (G.2.1, 159, .inl a))] (fun (r : Int32) w1 => (r = (hvF (fun g => hwA a (nI g) sn) 9).2.2) ∧ w1 = [(mo, .inr (9, [.ref al, .ref ke, .ref ik, .ref rq, .long mab, .long mbe, .ref so, .ref ha, .ref te, .ref bt, .int bL, .int tA, .int tL, .int tK, .int tV, .ref an, .ref vs])), (al, .inl (G.2.1, 159, .inl a))]) := by
  refine MI.mk (by decide) (Nat.le_of_ble_eq_true rfl) ?_
  intro p_ e_ s_ m_ ar_ be_ me_ cd_ A_ ls C hrt hW hl
  have hx := C.1; have hb := C.2.1; have hown := C.2.2.2.1; have ht := C.2.2.2.2.1
  replace hl : lv_has ls 6 [(0, .ref mo), (1, .int x9)] := hl
  generalize hQ : MQ be_ _ ar_ s_ 0 0 A_ = Q
  refine lv_iload_n hx hb dX11_heavy_0 rfl (lv_at hl 1 rfl) ?_
  refine lv_i2l hx hb dX11_heavy_1 rfl ?_
  refine lv_lconst (v := 0) hx hb dX11_heavy_2 (by decide) ?_
  refine lv_ldc2 (v := 2) hx hb hown (ht _ k_cg_X11_167) dX11_heavy_3 ?_
  refine g_fi C hW [] rfl (g_runS (As := [.long x9.toInt64, .long 0, .long 2]) (rest := []) (wc := []) C hW hl (c_X11_in l G x9 0 2 0 2 (by first | rfl | decide) (by first | rfl | decide) _) k_ml_X11_53 q_X11_in (by decide) [] rfl rfl rfl rfl (Nat.le_of_ble_eq_true rfl) dX11_heavy_6 (by decide)) (fun r_1880 er_1880 => ?_)
  clear hW; intro H locs hW
  refine lv_as (y := bI (iw x9 0 2)) er_1880 ?_
  clear er_1880 r_1880
  refine lv_if_ne (tgt := 19) hx hb dX11_heavy_9 (by decide) (fun c_1881 => ?_) (fun c_1881 => ?_)
  · refine lv_iconst (v := 0) hx hb dX11_heavy_19 (by decide) ?_
    refine lv_istore_n (lv' := [(2, .int 0), (0, .ref mo), (1, .int x9)]) hx hb dX11_heavy_20 rfl hl (by decide) rfl ?_
    clear hl ls; intro ls hl
    refine lv_iconst (v := (-1)) hx hb dX11_heavy_21 (by decide) ?_
    refine lv_istore_n (lv' := [(3, .int (-1)), (2, .int 0), (0, .ref mo), (1, .int x9)]) hx hb dX11_heavy_22 rfl hl (by decide) rfl ?_
    clear hl ls; intro ls hl
    refine lv_iconst (v := (-1)) hx hb dX11_heavy_23 (by decide) ?_
    refine lv_istore (lv' := [(4, .int (-1)), (3, .int (-1)), (2, .int 0), (0, .ref mo), (1, .int x9)]) hx hb dX11_heavy_24 hl (by decide) rfl ?_
    clear hl ls; intro ls hl
    refine lv_iconst (v := 1) hx hb dX11_heavy_26 (by decide) ?_
    refine lv_istore (lv' := [(5, .int 1), (4, .int (-1)), (3, .int (-1)), (2, .int 0), (0, .ref mo), (1, .int x9)]) hx hb dX11_heavy_27 hl (by decide) rfl ?_
    clear hl ls; intro ls hl
    have K_1882 : ∀ (n_ : Nat) (i : Nat) (x_1883 : Int32) (x_1884 : Int32) (x_1885 : Int32) (x_1886 : Int32) (_ : x_1883 = nI (i + 1)) (_ : x_1884 = (hvF (fun g => hwA a (nI g) sn) i).2.2) (_ : x_1885 = (hvF (fun g => hwA a (nI g) sn) i).2.1) (_ : x_1886 = (hvF (fun g => hwA a (nI g) sn) i).1) (_ : i ≤ 9) (_ : 9 - i < n_) (H : Heap) (locs : List Loc) (ls : Array Slot), Wd G A_ s_.heap [(mo, .inr (9, [.ref al, .ref ke, .ref ik, .ref rq, .long mab, .long mbe, .ref so, .ref ha, .ref te, .ref bt, .int bL, .int tA, .int tL, .int tK, .int tV, .ref an, .ref vs])), (al, .inl (G.2.1, 159, .inl a))] H locs → lv_has ls 6 [(5, .int x_1883), (4, .int x_1884), (3, .int x_1885), (2, .int x_1886), (0, .ref mo), (1, .int x9)] → W p_ l e_ ({ frames := 4, cells := 0, slots := 0, locals := 96 }) s_ m_ ar_ be_ me_ cd_ H locs 0 0 Q (F0 m_ 29 ls []) := by
      intro n_
      induction n_ with
      | zero => intro i x_1883 x_1884 x_1885 x_1886 ex_1883 ex_1884 ex_1885 ex_1886 hi9 hm_; exact absurd hm_ (Nat.not_lt_zero _)
      | succ n_ ihK_1882 =>
        intro i x_1883 x_1884 x_1885 x_1886 ex_1883 ex_1884 ex_1885 ex_1886 hi9 hm_ H locs ls hW hl
        subst ex_1883
        subst ex_1884
        subst ex_1885
        subst ex_1886
        refine lv_iload hx hb dX11_heavy_29 (lv_at hl 0 rfl) ?_
        refine lv_bipush (v := 10) hx hb dX11_heavy_31 (by decide) ?_
        refine lv_icmp_ge (tgt := 69) hx hb dX11_heavy_33 (by decide) (fun c_1887 => ?_) (fun c_1887 => ?_)
        · replace c_1887 := Int32.not_lt.mpr c_1887
          have c_1887n : ¬ (i + 1) < 10 := fun q => c_1887 ((nI_ltI (a := (i + 1)) (b := 10) (by omega) (by omega)).mpr q)
          refine lv_iload_n hx hb dX11_heavy_69 rfl (lv_at hl 5 rfl) ?_
          refine lv_if_ne (tgt := 77) hx hb dX11_heavy_70 (by decide) (fun c_1889 => ?_) (fun c_1889 => ?_)
          · refine lv_iload_n hx hb dX11_heavy_77 rfl (lv_at hl 5 rfl) ?_
            refine lv_iconst (v := 1) hx hb dX11_heavy_78 (by decide) ?_
            refine lv_icmp_ne (tgt := 86) hx hb dX11_heavy_79 (by decide) (fun c_1890 => ?_) (fun c_1890 => ?_)
            · refine lv_iload hx hb dX11_heavy_86 (lv_at hl 1 rfl) ?_
              subst hQ
              exact g_iret (v := ((hvF (fun g => hwA a (nI g) sn) i).2.2)) C hW hrt ⟨by (rw [show i = 9 by omega]), rfl⟩ dX11_heavy_88
            · exfalso; (rw [hx9] at c_1890; exact absurd c_1890 (by decide))
          · exfalso; (rw [hx9] at c_1889; exact absurd c_1889 (by decide))
        · replace c_1887 := Int32.not_le.mp c_1887
          have c_1887n : (i + 1) < 10 := (nI_ltI (a := (i + 1)) (b := 10) (by omega) (by omega)).mp c_1887
          refine lv_aload_n hx hb dX11_heavy_36 rfl (lv_at hl 4 rfl) ?_
          refine lv_iload hx hb dX11_heavy_37 (lv_at hl 0 rfl) ?_
          refine g_fi C hW [0, 1] rfl (g_runV (As := [.int (nI (i + 1))]) (rest := []) (wc := [(mo, .inr (9, [.ref al, .ref ke, .ref ik, .ref rq, .long mab, .long mbe, .ref so, .ref ha, .ref te, .ref bt, .int bL, .int tA, .int tL, .int tK, .int tV, .ref an, .ref vs])), (al, .inl (G.2.1, 159, .inl a))]) (q0 := 0) (ci := 9) C hW hl (c_X11_isHeavy l G mo al ke ik rq so ha te bt an vs mab mbe bL tA tL tK tV a sn (nI (i + 1)) (by first | assumption | omega) (by first | assumption | omega) (by assumption) _) k_ml_X11_169 q_X11_isHeavy (by decide) [0, 1] rfl rfl rfl rfl rfl rfl (Nat.le_of_ble_eq_true rfl) dX11_heavy_39 (by decide)) (fun r_1891 er_1891 => ?_)
          clear hW H locs; intro H locs hW
          refine lv_as (y := bI (hwA a (nI (i + 1)) sn)) er_1891 ?_
          clear er_1891 r_1891
          have J_1896 : ∀ (x_1893 : Int32) (_ : x_1893 = (if (bI (hwA a (nI (i + 1)) sn)) = 0 then (hvF (fun g => hwA a (nI g) sn) i).2.2 else nI (i + 1))) (x_1894 : Int32) (_ : x_1894 = (if (bI (hwA a (nI (i + 1)) sn)) = 0 then (hvF (fun g => hwA a (nI g) sn) i).2.1 else (if ((hvF (fun g => hwA a (nI g) sn) i).1) = 0 then nI (i + 1) else (hvF (fun g => hwA a (nI g) sn) i).2.1))) (x_1895 : Int32) (_ : x_1895 = (if (bI (hwA a (nI (i + 1)) sn)) = 0 then (hvF (fun g => hwA a (nI g) sn) i).1 else ((hvF (fun g => hwA a (nI g) sn) i).1) + 1)), ∀ (H : Heap) (locs : List Loc) (ls : Array Slot), Wd G A_ s_.heap [(mo, .inr (9, [.ref al, .ref ke, .ref ik, .ref rq, .long mab, .long mbe, .ref so, .ref ha, .ref te, .ref bt, .int bL, .int tA, .int tL, .int tK, .int tV, .ref an, .ref vs])), (al, .inl (G.2.1, 159, .inl a))] H locs → lv_has ls 6 [(5, .int (nI (i + 1))), (4, .int x_1893), (3, .int x_1894), (2, .int x_1895), (0, .ref mo), (1, .int x9)] → W p_ l e_ ({ frames := 4, cells := 0, slots := 0, locals := 96 }) s_ m_ ar_ be_ me_ cd_ H locs 0 0 Q (F0 m_ 63 ls []) := by
            intro x_1893 ex_1893 x_1894 ex_1894 x_1895 ex_1895 H locs ls hW hl
            refine lv_iinc (v := (nI (i + 1)) + 1) (lv' := [(5, .int ((nI (i + 1)) + 1)), (4, .int x_1893), (3, .int x_1894), (2, .int x_1895), (0, .ref mo), (1, .int x9)]) hx hb dX11_heavy_63 hl (k := 0) rfl rfl (by decide) rfl ?_
            clear hl ls; intro ls hl
            refine lv_goto (tgt := 29) hx hb dX11_heavy_66 (by decide) ?_
            exact ihK_1882 (i + 1) ((nI (i + 1)) + 1) x_1893 x_1894 x_1895 (by exact nI_1 _) (by (simp only [ex_1893, ex_1894, ex_1895]; exact hv_3)) (by (simp only [ex_1893, ex_1894, ex_1895]; exact hv_2)) (by (simp only [ex_1893, ex_1894, ex_1895]; exact hv_1)) (by first | omega | assumption | (simp; done)) (by omega) _ _ _ hW (lv_sub hl [0, 1, 2, 3, 4, 5] rfl)
          refine lv_if_eq (tgt := 63) hx hb dX11_heavy_42 (by decide) (fun c_1892 => ?_) (fun c_1892 => ?_)
          · exact J_1896 ((hvF (fun g => hwA a (nI g) sn) i).2.2) (by first | (simp only [c_1892, if_true, if_false, reduceIte]; done) | (simp [c_1892]; done) | rfl | (rw [if_pos c_1892]; done)) ((hvF (fun g => hwA a (nI g) sn) i).2.1) (by first | (simp only [c_1892, if_true, if_false, reduceIte]; done) | (simp [c_1892]; done) | rfl | (rw [if_pos c_1892]; done)) ((hvF (fun g => hwA a (nI g) sn) i).1) (by first | (simp only [c_1892, if_true, if_false, reduceIte]; done) | (simp [c_1892]; done) | rfl | (rw [if_pos c_1892]; done)) _ _ _ hW (lv_sub hl [0, 1, 2, 3, 4, 5] rfl)
          · refine lv_iload_n hx hb dX11_heavy_45 rfl (lv_at hl 3 rfl) ?_
            have J_1899 : ∀ (y_1898 : Int32) (_ : y_1898 = (if ((hvF (fun g => hwA a (nI g) sn) i).1) = 0 then nI (i + 1) else (hvF (fun g => hwA a (nI g) sn) i).2.1)), ∀ (H : Heap) (locs : List Loc) (ls : Array Slot), Wd G A_ s_.heap [(mo, .inr (9, [.ref al, .ref ke, .ref ik, .ref rq, .long mab, .long mbe, .ref so, .ref ha, .ref te, .ref bt, .int bL, .int tA, .int tL, .int tK, .int tV, .ref an, .ref vs])), (al, .inl (G.2.1, 159, .inl a))] H locs → lv_has ls 6 [(5, .int (nI (i + 1))), (4, .int ((hvF (fun g => hwA a (nI g) sn) i).2.2)), (3, .int ((hvF (fun g => hwA a (nI g) sn) i).2.1)), (2, .int ((hvF (fun g => hwA a (nI g) sn) i).1)), (0, .ref mo), (1, .int x9)] → W p_ l e_ ({ frames := 4, cells := 0, slots := 0, locals := 96 }) s_ m_ ar_ be_ me_ cd_ H locs 0 0 Q (F0 m_ 55 ls [.int y_1898]) := by
              intro y_1898 ey_1898 H locs ls hW hl
              refine lv_istore_n (lv' := [(3, .int y_1898), (5, .int (nI (i + 1))), (4, .int ((hvF (fun g => hwA a (nI g) sn) i).2.2)), (2, .int ((hvF (fun g => hwA a (nI g) sn) i).1)), (0, .ref mo), (1, .int x9)]) hx hb dX11_heavy_55 rfl hl (by decide) rfl ?_
              clear hl ls; intro ls hl
              refine lv_iload hx hb dX11_heavy_56 (lv_at hl 1 rfl) ?_
              refine lv_istore (lv' := [(4, .int (nI (i + 1))), (3, .int y_1898), (5, .int (nI (i + 1))), (2, .int ((hvF (fun g => hwA a (nI g) sn) i).1)), (0, .ref mo), (1, .int x9)]) hx hb dX11_heavy_58 hl (by decide) rfl ?_
              clear hl ls; intro ls hl
              refine lv_iinc (v := ((hvF (fun g => hwA a (nI g) sn) i).1) + 1) (lv' := [(2, .int (((hvF (fun g => hwA a (nI g) sn) i).1) + 1)), (4, .int (nI (i + 1))), (3, .int y_1898), (5, .int (nI (i + 1))), (0, .ref mo), (1, .int x9)]) hx hb dX11_heavy_60 hl (k := 3) rfl rfl (by decide) rfl ?_
              clear hl ls; intro ls hl
              exact J_1896 (nI (i + 1)) (by first | (simp only [c_1892, if_true, if_false, reduceIte]; done) | (subst ey_1898; simp only [c_1892, if_true, if_false, reduceIte]; done) | (subst ey_1898; simp [c_1892]; done) | (subst ey_1898; (repeat' split) <;> simp_all)) y_1898 (by first | (simp only [c_1892, if_true, if_false, reduceIte]; done) | (subst ey_1898; simp only [c_1892, if_true, if_false, reduceIte]; done) | (subst ey_1898; simp [c_1892]; done) | (subst ey_1898; (repeat' split) <;> simp_all)) (((hvF (fun g => hwA a (nI g) sn) i).1) + 1) (by first | (simp only [c_1892, if_true, if_false, reduceIte]; done) | (subst ey_1898; simp only [c_1892, if_true, if_false, reduceIte]; done) | (subst ey_1898; simp [c_1892]; done) | (subst ey_1898; (repeat' split) <;> simp_all)) _ _ _ hW (lv_sub hl [3, 1, 2, 0, 4, 5] rfl)
            refine lv_if_ne (tgt := 54) hx hb dX11_heavy_46 (by decide) (fun c_1897 => ?_) (fun c_1897 => ?_)
            · refine lv_iload_n hx hb dX11_heavy_54 rfl (lv_at hl 2 rfl) ?_
              exact J_1899 ((hvF (fun g => hwA a (nI g) sn) i).2.1) (by first | (simp only [c_1897, if_true, if_false, reduceIte]; done) | (simp [c_1897]; done) | rfl | (rw [if_neg c_1897]; done)) _ _ _ hW (lv_sub hl [0, 1, 2, 3, 4, 5] rfl)
            · refine lv_iload hx hb dX11_heavy_49 (lv_at hl 0 rfl) ?_
              refine lv_goto (tgt := 55) hx hb dX11_heavy_51 (by decide) ?_
              exact J_1899 (nI (i + 1)) (by first | (simp only [c_1897, if_true, if_false, reduceIte]; done) | (simp [c_1897]; done) | rfl | (rw [if_pos c_1897]; done)) _ _ _ hW (lv_sub hl [0, 1, 2, 3, 4, 5] rfl)
    exact K_1882 _ 0 1 (-1) (-1) 0 (by exact rfl) (by exact rfl) (by exact rfl) (by exact rfl) (by first | omega | assumption | (simp; done)) (Nat.lt_succ_self _) _ _ _ hW (lv_sub hl [0, 1, 2, 3, 4, 5] rfl)
  · exfalso; exact dd (by rw [hx9]; decide) c_1881
set_option maxHeartbeats 4000000 in
set_option maxRecDepth 100000 in
theorem c_X11_heavy_bad (l : Launch) (G : gT) (mo al ke ik rq so ha te bt an vs : Nat) (mab mbe : Int64) (bL tA tL tK tV : Int32) (rv : Nat → Int32) (x9 : Int32) (hbad : iw x9 0 2 = false) : MI l G yX11_heavy cX11_heavy 6 .int ({ frames := 1, cells := 0, slots := 0, locals := 25 }) [.ref mo, .int x9] [(mo, .inr (9, [.ref al, .ref ke, .ref ik, .ref rq, .long mab, .long mbe, .ref so, .ref ha, .ref te, .ref bt, .int bL, .int tA, .int tL, .int tK, .int tV, .ref an, .ref vs])), (rq, .inl (G.2.1, 3, .inl rv))] (fun (r : Int32) w1 => ∃ u_ : Unit, (r = (-2)) ∧ w1 = [(mo, .inr (9, [.ref al, .ref ke, .ref ik, .ref rq, .long mab, .long mbe, .ref so, .ref ha, .ref te, .ref bt, .int bL, .int tA, .int tL, .int tK, .int tV, .ref an, .ref vs])), (rq, .inl (G.2.1, 3, .inl (upd rv 0 (rv 0 + 1))))]) := by
  refine MI.mk (by decide) (Nat.le_of_ble_eq_true rfl) ?_
  intro p_ e_ s_ m_ ar_ be_ me_ cd_ A_ ls C hrt hW hl
  have hx := C.1; have hb := C.2.1; have hown := C.2.2.2.1; have ht := C.2.2.2.2.1
  replace hl : lv_has ls 6 [(0, .ref mo), (1, .int x9)] := hl
  generalize hQ : MQ be_ _ ar_ s_ 0 0 A_ = Q
  refine lv_iload_n hx hb dX11_heavy_0 rfl (lv_at hl 1 rfl) ?_
  refine lv_i2l hx hb dX11_heavy_1 rfl ?_
  refine lv_lconst (v := 0) hx hb dX11_heavy_2 (by decide) ?_
  refine lv_ldc2 (v := 2) hx hb hown (ht _ k_cg_X11_167) dX11_heavy_3 ?_
  refine g_fi C hW [] rfl (g_runS (As := [.long x9.toInt64, .long 0, .long 2]) (rest := []) (wc := []) C hW hl (c_X11_in l G x9 0 2 0 2 (by first | rfl | decide) (by first | rfl | decide) _) k_ml_X11_53 q_X11_in (by decide) [] rfl rfl rfl rfl (Nat.le_of_ble_eq_true rfl) dX11_heavy_6 (by decide)) (fun r_1900 er_1900 => ?_)
  clear hW; intro H locs hW
  refine lv_as (y := bI (iw x9 0 2)) er_1900 ?_
  clear er_1900 r_1900
  refine lv_if_ne (tgt := 19) hx hb dX11_heavy_9 (by decide) (fun c_1901 => ?_) (fun c_1901 => ?_)
  · exfalso; simp [bI_ne.mp c_1901, if_true, if_false, reduceIte, Bool.false_eq_true] at hbad
  · refine lv_aload_n hx hb dX11_heavy_12 rfl (lv_at hl 0 rfl) ?_
    refine lv_bipush (v := (-2)) hx hb dX11_heavy_13 (by decide) ?_
    refine g_fiw (wr := []) (ww := fun (u_ : Unit) => [(mo, .inr (9, [.ref al, .ref ke, .ref ik, .ref rq, .long mab, .long mbe, .ref so, .ref ha, .ref te, .ref bt, .int bL, .int tA, .int tL, .int tK, .int tV, .ref an, .ref vs])), (rq, .inl (G.2.1, 3, .inl (upd rv 0 (rv 0 + 1))))]) (w2 := fun (u_ : Unit) => [(mo, .inr (9, [.ref al, .ref ke, .ref ik, .ref rq, .long mab, .long mbe, .ref so, .ref ha, .ref te, .ref bt, .int bL, .int tA, .int tL, .int tK, .int tV, .ref an, .ref vs])), (rq, .inl (G.2.1, 3, .inl (upd rv 0 (rv 0 + 1))))]) C hW [0, 1] [] [0, 1] rfl rfl (by decide) (by decide) (by decide) (fun _ => rfl) (g_runV (As := [.int (-2)]) (rest := []) (wc := [(mo, .inr (9, [.ref al, .ref ke, .ref ik, .ref rq, .long mab, .long mbe, .ref so, .ref ha, .ref te, .ref bt, .int bL, .int tA, .int tL, .int tK, .int tV, .ref an, .ref vs])), (rq, .inl (G.2.1, 3, .inl rv))]) (q0 := 0) (ci := 9) C hW hl (c_X11_bad l G mo al ke ik rq so ha te bt an vs mab mbe bL tA tL tK tV rv (-2)  _) k_ml_X11_67 q_X11_bad (by decide) [0, 1] rfl rfl rfl rfl rfl rfl (Nat.le_of_ble_eq_true rfl) dX11_heavy_15 (by decide)) (fun r_1902 _ er_1902 => ?_)
    clear hW H locs; intro H locs hW
    refine lv_as (y := (-2)) er_1902 ?_
    clear er_1902 r_1902
    replace hW : Wd G A_ s_.heap [(mo, .inr (9, [.ref al, .ref ke, .ref ik, .ref rq, .long mab, .long mbe, .ref so, .ref ha, .ref te, .ref bt, .int bL, .int tA, .int tL, .int tK, .int tV, .ref an, .ref vs])), (rq, .inl (G.2.1, 3, .inl (upd rv 0 (rv 0 + 1))))] H locs := hW
    subst hQ
    exact g_iret (v := (-2)) C hW hrt ⟨(), by rfl, by rfl⟩ dX11_heavy_18
set_option maxHeartbeats 4000000 in
set_option maxRecDepth 100000 in
theorem c_X11_tell_ok (l : Launch) (G : gT) (mo al ke ik rq so ha te bt an vs : Nat) (mab mbe : Int64) (bL tA tL tK tV : Int32) (a : Nat → Int32) (n sn k : Nat) (hk : k < n) (hn : n ≤ 7) (e0 : a 0 = nI n) (e1 : a 1 = nI sn) (hs : sn ≤ 5) (hS : oSA a sn) : MI l G yX11_tell cX11_tell 9 .int ({ frames := 4, cells := 0, slots := 0, locals := 96 }) [.ref mo, .int (nI k)] [(mo, .inr (9, [.ref al, .ref ke, .ref ik, .ref rq, .long mab, .long mbe, .ref so, .ref ha, .ref te, .ref bt, .int bL, .int tA, .int tL, .int tK, .int tV, .ref an, .ref vs])), (al, .inl (G.2.1, 159, .inl a))] (fun (r : Int32) w1 => (r = (amT (teM a sn k) 24).1) ∧ w1 = [(mo, .inr (9, [.ref al, .ref ke, .ref ik, .ref rq, .long mab, .long mbe, .ref so, .ref ha, .ref te, .ref bt, .int bL, .int tA, .int tL, .int tK, .int tV, .ref an, .ref vs])), (al, .inl (G.2.1, 159, .inl a))]) := by
  refine MI.mk (by decide) (Nat.le_of_ble_eq_true rfl) ?_
  intro p_ e_ s_ m_ ar_ be_ me_ cd_ A_ ls C hrt hW hl
  have hx := C.1; have hb := C.2.1; have hown := C.2.2.2.1; have ht := C.2.2.2.2.1
  replace hl : lv_has ls 9 [(0, .ref mo), (1, .int (nI k))] := hl
  generalize hQ : MQ be_ _ ar_ s_ 0 0 A_ = Q
  refine lv_aload_n hx hb dX11_tell_0 rfl (lv_at hl 0 rfl) ?_
  refine lv_iload_n hx hb dX11_tell_1 rfl (lv_at hl 1 rfl) ?_
  refine g_fi C hW [0, 1] rfl (g_runV (As := [.int (nI k)]) (rest := []) (wc := [(mo, .inr (9, [.ref al, .ref ke, .ref ik, .ref rq, .long mab, .long mbe, .ref so, .ref ha, .ref te, .ref bt, .int bL, .int tA, .int tL, .int tK, .int tV, .ref an, .ref vs])), (al, .inl (G.2.1, 159, .inl a))]) (q0 := 0) (ci := 9) C hW hl (c_X11_isPlayer l G mo al ke ik rq so ha te bt an vs mab mbe bL tA tL tK tV a n (nI k) (by first | assumption | omega) (by first | assumption | omega) _) k_ml_X11_118 q_X11_isPlayer (by decide) [0, 1] rfl rfl rfl rfl rfl rfl (Nat.le_of_ble_eq_true rfl) dX11_tell_2 (by decide)) (fun r_1904 er_1904 => ?_)
  clear hW; intro H locs hW
  refine lv_as (y := bI (okp n (nI k))) er_1904 ?_
  clear er_1904 r_1904
  refine lv_if_ne (tgt := 15) hx hb dX11_tell_5 (by decide) (fun c_1905 => ?_) (fun c_1905 => ?_)
  · refine lv_iconst (v := (-1)) hx hb dX11_tell_15 (by decide) ?_
    refine lv_istore_n (lv' := [(2, .int (-1)), (0, .ref mo), (1, .int (nI k))]) hx hb dX11_tell_16 rfl hl (by decide) rfl ?_
    clear hl ls; intro ls hl
    refine lv_ldc (v := 1000000) hx hb hown (ht _ k_ct_X11_145) dX11_tell_17 ?_
    refine lv_istore_n (lv' := [(3, .int 1000000), (2, .int (-1)), (0, .ref mo), (1, .int (nI k))]) hx hb dX11_tell_19 rfl hl (by decide) rfl ?_
    clear hl ls; intro ls hl
    refine lv_iconst (v := 0) hx hb dX11_tell_20 (by decide) ?_
    refine lv_istore (lv' := [(4, .int 0), (3, .int 1000000), (2, .int (-1)), (0, .ref mo), (1, .int (nI k))]) hx hb dX11_tell_21 hl (by decide) rfl ?_
    clear hl ls; intro ls hl
    have K_1906 : ∀ (n_ : Nat) (t : Nat) (x_1907 : Int32) (x_1908 : Int32) (x_1909 : Int32) (_ : x_1907 = nI t) (_ : x_1908 = (amT (teM a sn k) t).2) (_ : x_1909 = (amT (teM a sn k) t).1) (_ : t ≤ 24) (_ : 24 - t < n_) (H : Heap) (locs : List Loc) (ls : Array Slot), Wd G A_ s_.heap [(mo, .inr (9, [.ref al, .ref ke, .ref ik, .ref rq, .long mab, .long mbe, .ref so, .ref ha, .ref te, .ref bt, .int bL, .int tA, .int tL, .int tK, .int tV, .ref an, .ref vs])), (al, .inl (G.2.1, 159, .inl a))] H locs → lv_has ls 9 [(4, .int x_1907), (3, .int x_1908), (2, .int x_1909), (0, .ref mo), (1, .int (nI k))] → W p_ l e_ ({ frames := 4, cells := 0, slots := 0, locals := 96 }) s_ m_ ar_ be_ me_ cd_ H locs 0 0 Q (F0 m_ 23 ls []) := by
      intro n_
      induction n_ with
      | zero => intro t x_1907 x_1908 x_1909 ex_1907 ex_1908 ex_1909 ht hm_; exact absurd hm_ (Nat.not_lt_zero _)
      | succ n_ ihK_1906 =>
        intro t x_1907 x_1908 x_1909 ex_1907 ex_1908 ex_1909 ht hm_ H locs ls hW hl
        subst ex_1907
        subst ex_1908
        subst ex_1909
        refine lv_iload hx hb dX11_tell_23 (lv_at hl 0 rfl) ?_
        refine lv_bipush (v := 24) hx hb dX11_tell_25 (by decide) ?_
        refine lv_icmp_ge (tgt := 169) hx hb dX11_tell_27 (by decide) (fun c_1910 => ?_) (fun c_1910 => ?_)
        · replace c_1910 := Int32.not_lt.mpr c_1910
          have c_1910n : ¬ t < 24 := fun q => c_1910 ((nI_ltI (a := t) (b := 24) (by omega) (by omega)).mpr q)
          refine lv_iload_n hx hb dX11_tell_169 rfl (lv_at hl 2 rfl) ?_
          subst hQ
          exact g_iret (v := ((amT (teM a sn k) t).1)) C hW hrt ⟨by (rw [show t = 24 by omega]), rfl⟩ dX11_tell_170
        · replace c_1910 := Int32.not_le.mp c_1910
          have c_1910n : t < 24 := (nI_ltI (a := t) (b := 24) (by omega) (by omega)).mp c_1910
          refine lv_iconst (v := 0) hx hb dX11_tell_30 (by decide) ?_
          refine lv_istore (lv' := [(5, .int 0), (4, .int (nI t)), (3, .int ((amT (teM a sn k) t).2)), (2, .int ((amT (teM a sn k) t).1)), (0, .ref mo), (1, .int (nI k))]) hx hb dX11_tell_31 hl (by decide) rfl ?_
          clear hl ls; intro ls hl
          refine lv_iconst (v := 0) hx hb dX11_tell_33 (by decide) ?_
          refine lv_istore (lv' := [(6, .int 0), (5, .int 0), (4, .int (nI t)), (3, .int ((amT (teM a sn k) t).2)), (2, .int ((amT (teM a sn k) t).1)), (0, .ref mo), (1, .int (nI k))]) hx hb dX11_tell_34 hl (by decide) rfl ?_
          clear hl ls; intro ls hl
          refine lv_iconst (v := 1) hx hb dX11_tell_36 (by decide) ?_
          refine lv_istore (lv' := [(7, .int 1), (6, .int 0), (5, .int 0), (4, .int (nI t)), (3, .int ((amT (teM a sn k) t).2)), (2, .int ((amT (teM a sn k) t).1)), (0, .ref mo), (1, .int (nI k))]) hx hb dX11_tell_37 hl (by decide) rfl ?_
          clear hl ls; intro ls hl
          have K_1911 : ∀ (n_ : Nat) (j : Nat) (x_1912 : Int32) (x_1913 : Int32) (x_1914 : Int32) (_ : x_1912 = nI j) (_ : x_1913 = teA a sn k t false j) (_ : x_1914 = teA a sn k t true j) (_ : 1 ≤ j ∧ j ≤ 10) (_ : 10 - j < n_) (H : Heap) (locs : List Loc) (ls : Array Slot), Wd G A_ s_.heap [(mo, .inr (9, [.ref al, .ref ke, .ref ik, .ref rq, .long mab, .long mbe, .ref so, .ref ha, .ref te, .ref bt, .int bL, .int tA, .int tL, .int tK, .int tV, .ref an, .ref vs])), (al, .inl (G.2.1, 159, .inl a))] H locs → lv_has ls 9 [(7, .int x_1912), (6, .int x_1913), (5, .int x_1914), (4, .int (nI t)), (3, .int ((amT (teM a sn k) t).2)), (2, .int ((amT (teM a sn k) t).1)), (0, .ref mo), (1, .int (nI k))] → W p_ l e_ ({ frames := 4, cells := 0, slots := 0, locals := 96 }) s_ m_ ar_ be_ me_ cd_ H locs 0 0 Q (F0 m_ 39 ls []) := by
            intro n_
            induction n_ with
            | zero => intro j x_1912 x_1913 x_1914 ex_1912 ex_1913 ex_1914 hj hm_; exact absurd hm_ (Nat.not_lt_zero _)
            | succ n_ ihK_1911 =>
              intro j x_1912 x_1913 x_1914 ex_1912 ex_1913 ex_1914 hj hm_ H locs ls hW hl
              subst ex_1912
              subst ex_1913
              subst ex_1914
              refine lv_iload hx hb dX11_tell_39 (lv_at hl 0 rfl) ?_
              refine lv_bipush (v := 10) hx hb dX11_tell_41 (by decide) ?_
              refine lv_icmp_ge (tgt := 111) hx hb dX11_tell_43 (by decide) (fun c_1915 => ?_) (fun c_1915 => ?_)
              · replace c_1915 := Int32.not_lt.mpr c_1915
                have c_1915n : ¬ j < 10 := fun q => c_1915 ((nI_ltI (a := j) (b := 10) (by omega) (by omega)).mpr q)
                obtain rfl : j = 10 := by omega
                refine lv_iload hx hb dX11_tell_111 (lv_at hl 2 rfl) ?_
                refine lv_iload hx hb dX11_tell_113 (lv_at hl 1 rfl) ?_
                have J_1921 : ∀ (y_1920 : Int32) (_ : y_1920 = (if (teA a sn k t false 10) < (teA a sn k t true 10) then teA a sn k t true 10 else teA a sn k t false 10)), ∀ (H : Heap) (locs : List Loc) (ls : Array Slot), Wd G A_ s_.heap [(mo, .inr (9, [.ref al, .ref ke, .ref ik, .ref rq, .long mab, .long mbe, .ref so, .ref ha, .ref te, .ref bt, .int bL, .int tA, .int tL, .int tK, .int tV, .ref an, .ref vs])), (al, .inl (G.2.1, 159, .inl a))] H locs → lv_has ls 9 [(7, .int (nI 10)), (6, .int (teA a sn k t false 10)), (5, .int (teA a sn k t true 10)), (4, .int (nI t)), (3, .int ((amT (teM a sn k) t).2)), (2, .int ((amT (teM a sn k) t).1)), (0, .ref mo), (1, .int (nI k))] → W p_ l e_ ({ frames := 4, cells := 0, slots := 0, locals := 96 }) s_ m_ ar_ be_ me_ cd_ H locs 0 0 Q (F0 m_ 125 ls [.int y_1920]) := by
                  intro y_1920 ey_1920 H locs ls hW hl
                  refine lv_as (y := teM a sn k t) (by simp only [ey_1920]; rfl) ?_
                  refine lv_istore (lv' := [(7, .int (teM a sn k t)), (6, .int (teA a sn k t false 10)), (5, .int (teA a sn k t true 10)), (4, .int (nI t)), (3, .int ((amT (teM a sn k) t).2)), (2, .int ((amT (teM a sn k) t).1)), (0, .ref mo), (1, .int (nI k))]) hx hb dX11_tell_125 hl (by decide) rfl ?_
                  clear hl ls; intro ls hl
                  refine lv_iload hx hb dX11_tell_127 (lv_at hl 0 rfl) ?_
                  have J_1924 : ∀ (y_1923 : Int32) (_ : y_1923 = (if 0 < (teM a sn k t) then if (teM a sn k t) < ((amT (teM a sn k) t).2) then nI t else (amT (teM a sn k) t).1 else (amT (teM a sn k) t).1)), ∀ (H : Heap) (locs : List Loc) (ls : Array Slot), Wd G A_ s_.heap [(mo, .inr (9, [.ref al, .ref ke, .ref ik, .ref rq, .long mab, .long mbe, .ref so, .ref ha, .ref te, .ref bt, .int bL, .int tA, .int tL, .int tK, .int tV, .ref an, .ref vs])), (al, .inl (G.2.1, 159, .inl a))] H locs → lv_has ls 9 [(7, .int (teM a sn k t)), (6, .int (teA a sn k t false 10)), (5, .int (teA a sn k t true 10)), (4, .int (nI t)), (3, .int ((amT (teM a sn k) t).2)), (2, .int ((amT (teM a sn k) t).1)), (0, .ref mo), (1, .int (nI k))] → W p_ l e_ ({ frames := 4, cells := 0, slots := 0, locals := 96 }) s_ m_ ar_ be_ me_ cd_ H locs 0 0 Q (F0 m_ 144 ls [.int y_1923]) := by
                    intro y_1923 ey_1923 H locs ls hW hl
                    refine lv_istore_n (lv' := [(2, .int y_1923), (7, .int (teM a sn k t)), (6, .int (teA a sn k t false 10)), (5, .int (teA a sn k t true 10)), (4, .int (nI t)), (3, .int ((amT (teM a sn k) t).2)), (0, .ref mo), (1, .int (nI k))]) hx hb dX11_tell_144 rfl hl (by decide) rfl ?_
                    clear hl ls; intro ls hl
                    refine lv_iload hx hb dX11_tell_145 (lv_at hl 1 rfl) ?_
                    have J_1927 : ∀ (y_1926 : Int32) (_ : y_1926 = (if 0 < (teM a sn k t) then if (teM a sn k t) < ((amT (teM a sn k) t).2) then teM a sn k t else (amT (teM a sn k) t).2 else (amT (teM a sn k) t).2)), ∀ (H : Heap) (locs : List Loc) (ls : Array Slot), Wd G A_ s_.heap [(mo, .inr (9, [.ref al, .ref ke, .ref ik, .ref rq, .long mab, .long mbe, .ref so, .ref ha, .ref te, .ref bt, .int bL, .int tA, .int tL, .int tK, .int tV, .ref an, .ref vs])), (al, .inl (G.2.1, 159, .inl a))] H locs → lv_has ls 9 [(2, .int y_1923), (7, .int (teM a sn k t)), (6, .int (teA a sn k t false 10)), (5, .int (teA a sn k t true 10)), (4, .int (nI t)), (3, .int ((amT (teM a sn k) t).2)), (0, .ref mo), (1, .int (nI k))] → W p_ l e_ ({ frames := 4, cells := 0, slots := 0, locals := 96 }) s_ m_ ar_ be_ me_ cd_ H locs 0 0 Q (F0 m_ 162 ls [.int y_1926]) := by
                      intro y_1926 ey_1926 H locs ls hW hl
                      refine lv_istore_n (lv' := [(3, .int y_1926), (2, .int y_1923), (7, .int (teM a sn k t)), (6, .int (teA a sn k t false 10)), (5, .int (teA a sn k t true 10)), (4, .int (nI t)), (0, .ref mo), (1, .int (nI k))]) hx hb dX11_tell_162 rfl hl (by decide) rfl ?_
                      clear hl ls; intro ls hl
                      refine lv_iinc (v := (nI t) + 1) (lv' := [(4, .int ((nI t) + 1)), (3, .int y_1926), (2, .int y_1923), (7, .int (teM a sn k t)), (6, .int (teA a sn k t false 10)), (5, .int (teA a sn k t true 10)), (0, .ref mo), (1, .int (nI k))]) hx hb dX11_tell_163 hl (k := 5) rfl rfl (by decide) rfl ?_
                      clear hl ls; intro ls hl
                      refine lv_goto (tgt := 23) hx hb dX11_tell_166 (by decide) ?_
                      exact ihK_1906 (t + 1) ((nI t) + 1) y_1926 y_1923 (by exact nI_1 _) (by (simp only [ey_1920, ey_1923, ey_1926]; exact at_2)) (by (simp only [ey_1920, ey_1923, ey_1926]; exact at_1)) (by first | omega | assumption | (simp; done)) (by omega) _ _ _ hW (lv_sub hl [0, 1, 2, 6, 7] rfl)
                    refine lv_if_le (tgt := 161) hx hb dX11_tell_147 (by decide) (fun c_1925 => ?_) (fun c_1925 => ?_)
                    · replace c_1925 := Int32.not_lt.mpr c_1925
                      refine lv_iload_n hx hb dX11_tell_161 rfl (lv_at hl 5 rfl) ?_
                      exact J_1927 ((amT (teM a sn k) t).2) (by first | (simp only [c_1925, if_true, if_false, reduceIte]; done) | (simp [c_1925]; done) | rfl | (rw [if_neg c_1925]; done)) _ _ _ hW (lv_sub hl [0, 1, 2, 3, 4, 5, 6, 7] rfl)
                    · replace c_1925 := Int32.not_le.mp c_1925
                      refine lv_iload hx hb dX11_tell_150 (lv_at hl 1 rfl) ?_
                      refine lv_iload_n hx hb dX11_tell_152 rfl (lv_at hl 5 rfl) ?_
                      refine lv_icmp_ge (tgt := 161) hx hb dX11_tell_153 (by decide) (fun c_1928 => ?_) (fun c_1928 => ?_)
                      · replace c_1928 := Int32.not_lt.mpr c_1928
                        refine lv_iload_n hx hb dX11_tell_161 rfl (lv_at hl 5 rfl) ?_
                        exact J_1927 ((amT (teM a sn k) t).2) (by first | (simp only [c_1925, c_1928, if_true, if_false, reduceIte]; done) | (simp [c_1925, c_1928]; done) | rfl | (rw [if_pos c_1925, if_neg c_1928]; done)) _ _ _ hW (lv_sub hl [0, 1, 2, 3, 4, 5, 6, 7] rfl)
                      · replace c_1928 := Int32.not_le.mp c_1928
                        refine lv_iload hx hb dX11_tell_156 (lv_at hl 1 rfl) ?_
                        refine lv_goto (tgt := 162) hx hb dX11_tell_158 (by decide) ?_
                        exact J_1927 (teM a sn k t) (by first | (simp only [c_1925, c_1928, if_true, if_false, reduceIte]; done) | (simp [c_1925, c_1928]; done) | rfl | (rw [if_pos c_1925, if_pos c_1928]; done)) _ _ _ hW (lv_sub hl [0, 1, 2, 3, 4, 5, 6, 7] rfl)
                  refine lv_if_le (tgt := 143) hx hb dX11_tell_129 (by decide) (fun c_1922 => ?_) (fun c_1922 => ?_)
                  · replace c_1922 := Int32.not_lt.mpr c_1922
                    refine lv_iload_n hx hb dX11_tell_143 rfl (lv_at hl 5 rfl) ?_
                    exact J_1924 ((amT (teM a sn k) t).1) (by first | (simp only [c_1922, if_true, if_false, reduceIte]; done) | (simp [c_1922]; done) | rfl | (rw [if_neg c_1922]; done)) _ _ _ hW (lv_sub hl [0, 1, 2, 3, 4, 5, 6, 7] rfl)
                  · replace c_1922 := Int32.not_le.mp c_1922
                    refine lv_iload hx hb dX11_tell_132 (lv_at hl 0 rfl) ?_
                    refine lv_iload_n hx hb dX11_tell_134 rfl (lv_at hl 4 rfl) ?_
                    refine lv_icmp_ge (tgt := 143) hx hb dX11_tell_135 (by decide) (fun c_1929 => ?_) (fun c_1929 => ?_)
                    · replace c_1929 := Int32.not_lt.mpr c_1929
                      refine lv_iload_n hx hb dX11_tell_143 rfl (lv_at hl 5 rfl) ?_
                      exact J_1924 ((amT (teM a sn k) t).1) (by first | (simp only [c_1922, c_1929, if_true, if_false, reduceIte]; done) | (simp [c_1922, c_1929]; done) | rfl | (rw [if_pos c_1922, if_neg c_1929]; done)) _ _ _ hW (lv_sub hl [0, 1, 2, 3, 4, 5, 6, 7] rfl)
                    · replace c_1929 := Int32.not_le.mp c_1929
                      refine lv_iload hx hb dX11_tell_138 (lv_at hl 3 rfl) ?_
                      refine lv_goto (tgt := 144) hx hb dX11_tell_140 (by decide) ?_
                      exact J_1924 (nI t) (by first | (simp only [c_1922, c_1929, if_true, if_false, reduceIte]; done) | (simp [c_1922, c_1929]; done) | rfl | (rw [if_pos c_1922, if_pos c_1929]; done)) _ _ _ hW (lv_sub hl [0, 1, 2, 3, 4, 5, 6, 7] rfl)
                refine lv_icmp_le (tgt := 123) hx hb dX11_tell_115 (by decide) (fun c_1919 => ?_) (fun c_1919 => ?_)
                · replace c_1919 := Int32.not_lt.mpr c_1919
                  refine lv_iload hx hb dX11_tell_123 (lv_at hl 1 rfl) ?_
                  exact J_1921 (teA a sn k t false 10) (by first | (simp only [c_1919, if_true, if_false, reduceIte]; done) | (simp [c_1919]; done) | rfl | (rw [if_neg c_1919]; done)) _ _ _ hW (lv_sub hl [0, 1, 2, 3, 4, 5, 6, 7] rfl)
                · replace c_1919 := Int32.not_le.mp c_1919
                  refine lv_iload hx hb dX11_tell_118 (lv_at hl 2 rfl) ?_
                  refine lv_goto (tgt := 125) hx hb dX11_tell_120 (by decide) ?_
                  exact J_1921 (teA a sn k t true 10) (by first | (simp only [c_1919, if_true, if_false, reduceIte]; done) | (simp [c_1919]; done) | rfl | (rw [if_pos c_1919]; done)) _ _ _ hW (lv_sub hl [0, 1, 2, 3, 4, 5, 6, 7] rfl)
              · replace c_1915 := Int32.not_le.mp c_1915
                have c_1915n : j < 10 := (nI_ltI (a := j) (b := 10) (by omega) (by omega)).mp c_1915
                refine lv_aload_n hx hb dX11_tell_46 rfl (lv_at hl 6 rfl) ?_
                refine lv_iload_n hx hb dX11_tell_47 rfl (lv_at hl 7 rfl) ?_
                refine lv_iload hx hb dX11_tell_48 (lv_at hl 3 rfl) ?_
                refine lv_iload hx hb dX11_tell_50 (lv_at hl 0 rfl) ?_
                refine g_fi C hW [0, 1] rfl (g_runV (As := [.int (nI k), .int (nI t), .int (nI j)]) (rest := []) (wc := [(mo, .inr (9, [.ref al, .ref ke, .ref ik, .ref rq, .long mab, .long mbe, .ref so, .ref ha, .ref te, .ref bt, .int bL, .int tA, .int tL, .int tK, .int tV, .ref an, .ref vs])), (al, .inl (G.2.1, 159, .inl a))]) (q0 := 0) (ci := 9) C hW hl (c_X11_isOverBy l G mo al ke ik rq so ha te bt an vs mab mbe bL tA tL tK tV a k t (nI j) (by first | assumption | omega) (by first | assumption | omega) _) k_ml_X11_163 q_X11_isOverBy (by decide) [0, 1] rfl rfl rfl rfl rfl rfl (Nat.le_of_ble_eq_true rfl) dX11_tell_52 (by decide)) (fun r_1930 er_1930 => ?_)
                clear hW H locs; intro H locs hW
                refine lv_as (y := bI (ovA a k t (nI j))) er_1930 ?_
                clear er_1930 r_1930
                refine lv_istore (lv' := [(8, .int (bI (ovA a k t (nI j)))), (7, .int (nI j)), (6, .int (teA a sn k t false j)), (5, .int (teA a sn k t true j)), (4, .int (nI t)), (3, .int ((amT (teM a sn k) t).2)), (2, .int ((amT (teM a sn k) t).1)), (0, .ref mo), (1, .int (nI k))]) hx hb dX11_tell_55 hl (by decide) rfl ?_
                clear hl ls; intro ls hl
                refine lv_iload hx hb dX11_tell_57 (lv_at hl 3 rfl) ?_
                refine lv_aload_n hx hb dX11_tell_59 rfl (lv_at hl 7 rfl) ?_
                refine lv_iload hx hb dX11_tell_60 (lv_at hl 1 rfl) ?_
                refine g_fi C hW [0, 1] rfl (g_runV (As := [.int (nI j)]) (rest := [.int (teA a sn k t true j)]) (wc := [(mo, .inr (9, [.ref al, .ref ke, .ref ik, .ref rq, .long mab, .long mbe, .ref so, .ref ha, .ref te, .ref bt, .int bL, .int tA, .int tL, .int tK, .int tV, .ref an, .ref vs])), (al, .inl (G.2.1, 159, .inl a))]) (q0 := 0) (ci := 9) C hW hl (c_X11_isHeavy l G mo al ke ik rq so ha te bt an vs mab mbe bL tA tL tK tV a sn (nI j) (by first | assumption | omega) (by first | assumption | omega) (by assumption) _) k_ml_X11_169 q_X11_isHeavy (by decide) [0, 1] rfl rfl rfl rfl rfl rfl (Nat.le_of_ble_eq_true rfl) dX11_tell_62 (by decide)) (fun r_1931 er_1931 => ?_)
                clear hW H locs; intro H locs hW
                refine lv_as (y := bI (hwA a (nI j) sn)) er_1931 ?_
                clear er_1931 r_1931
                have J_1934 : ∀ (y_1933 : Int32) (_ : y_1933 = (if (bI (hwA a (nI j) sn)) = 0 then 0 else (if (bI (ovA a k t (nI j))) = 0 then 0 else 1))), ∀ (H : Heap) (locs : List Loc) (ls : Array Slot), Wd G A_ s_.heap [(mo, .inr (9, [.ref al, .ref ke, .ref ik, .ref rq, .long mab, .long mbe, .ref so, .ref ha, .ref te, .ref bt, .int bL, .int tA, .int tL, .int tK, .int tV, .ref an, .ref vs])), (al, .inl (G.2.1, 159, .inl a))] H locs → lv_has ls 9 [(8, .int (bI (ovA a k t (nI j)))), (7, .int (nI j)), (6, .int (teA a sn k t false j)), (5, .int (teA a sn k t true j)), (4, .int (nI t)), (3, .int ((amT (teM a sn k) t).2)), (2, .int ((amT (teM a sn k) t).1)), (0, .ref mo), (1, .int (nI k))] → W p_ l e_ ({ frames := 4, cells := 0, slots := 0, locals := 96 }) s_ m_ ar_ be_ me_ cd_ H locs 0 0 Q (F0 m_ 78 ls [.int y_1933, .int (teA a sn k t true j)]) := by
                  intro y_1933 ey_1933 H locs ls hW hl
                  refine lv_iadd hx hb dX11_tell_78 ?_
                  refine lv_istore (lv' := [(5, .int ((teA a sn k t true j) + y_1933)), (8, .int (bI (ovA a k t (nI j)))), (7, .int (nI j)), (6, .int (teA a sn k t false j)), (4, .int (nI t)), (3, .int ((amT (teM a sn k) t).2)), (2, .int ((amT (teM a sn k) t).1)), (0, .ref mo), (1, .int (nI k))]) hx hb dX11_tell_79 hl (by decide) rfl ?_
                  clear hl ls; intro ls hl
                  refine lv_iload hx hb dX11_tell_81 (lv_at hl 3 rfl) ?_
                  refine lv_aload_n hx hb dX11_tell_83 rfl (lv_at hl 7 rfl) ?_
                  refine lv_iload hx hb dX11_tell_84 (lv_at hl 2 rfl) ?_
                  refine g_fi C hW [0, 1] rfl (g_runV (As := [.int (nI j)]) (rest := [.int (teA a sn k t false j)]) (wc := [(mo, .inr (9, [.ref al, .ref ke, .ref ik, .ref rq, .long mab, .long mbe, .ref so, .ref ha, .ref te, .ref bt, .int bL, .int tA, .int tL, .int tK, .int tV, .ref an, .ref vs])), (al, .inl (G.2.1, 159, .inl a))]) (q0 := 0) (ci := 9) C hW hl (c_X11_isHeavy l G mo al ke ik rq so ha te bt an vs mab mbe bL tA tL tK tV a sn (nI j) (by first | assumption | omega) (by first | assumption | omega) (by assumption) _) k_ml_X11_169 q_X11_isHeavy (by decide) [0, 1] rfl rfl rfl rfl rfl rfl (Nat.le_of_ble_eq_true rfl) dX11_tell_86 (by decide)) (fun r_1935 er_1935 => ?_)
                  clear hW H locs; intro H locs hW
                  refine lv_as (y := bI (hwA a (nI j) sn)) er_1935 ?_
                  clear er_1935 r_1935
                  have J_1938 : ∀ (y_1937 : Int32) (_ : y_1937 = (if (bI (hwA a (nI j) sn)) = 0 then 0 else (if (bI (ovA a k t (nI j))) = 0 then 1 else 0))), ∀ (H : Heap) (locs : List Loc) (ls : Array Slot), Wd G A_ s_.heap [(mo, .inr (9, [.ref al, .ref ke, .ref ik, .ref rq, .long mab, .long mbe, .ref so, .ref ha, .ref te, .ref bt, .int bL, .int tA, .int tL, .int tK, .int tV, .ref an, .ref vs])), (al, .inl (G.2.1, 159, .inl a))] H locs → lv_has ls 9 [(5, .int ((teA a sn k t true j) + y_1933)), (8, .int (bI (ovA a k t (nI j)))), (7, .int (nI j)), (6, .int (teA a sn k t false j)), (4, .int (nI t)), (3, .int ((amT (teM a sn k) t).2)), (2, .int ((amT (teM a sn k) t).1)), (0, .ref mo), (1, .int (nI k))] → W p_ l e_ ({ frames := 4, cells := 0, slots := 0, locals := 96 }) s_ m_ ar_ be_ me_ cd_ H locs 0 0 Q (F0 m_ 102 ls [.int y_1937, .int (teA a sn k t false j)]) := by
                    intro y_1937 ey_1937 H locs ls hW hl
                    refine lv_iadd hx hb dX11_tell_102 ?_
                    refine lv_istore (lv' := [(6, .int ((teA a sn k t false j) + y_1937)), (5, .int ((teA a sn k t true j) + y_1933)), (8, .int (bI (ovA a k t (nI j)))), (7, .int (nI j)), (4, .int (nI t)), (3, .int ((amT (teM a sn k) t).2)), (2, .int ((amT (teM a sn k) t).1)), (0, .ref mo), (1, .int (nI k))]) hx hb dX11_tell_103 hl (by decide) rfl ?_
                    clear hl ls; intro ls hl
                    refine lv_iinc (v := (nI j) + 1) (lv' := [(7, .int ((nI j) + 1)), (6, .int ((teA a sn k t false j) + y_1937)), (5, .int ((teA a sn k t true j) + y_1933)), (8, .int (bI (ovA a k t (nI j)))), (4, .int (nI t)), (3, .int ((amT (teM a sn k) t).2)), (2, .int ((amT (teM a sn k) t).1)), (0, .ref mo), (1, .int (nI k))]) hx hb dX11_tell_105 hl (k := 3) rfl rfl (by decide) rfl ?_
                    clear hl ls; intro ls hl
                    refine lv_goto (tgt := 39) hx hb dX11_tell_108 (by decide) ?_
                    exact ihK_1911 (j + 1) ((nI j) + 1) ((teA a sn k t false j) + y_1937) ((teA a sn k t true j) + y_1933) (by exact nI_1 _) (by (simp only [ey_1933, ey_1937]; exact te_0 hj.1)) (by (simp only [ey_1933, ey_1937]; exact te_1 hj.1)) (by first | omega | assumption | (simp; done)) (by omega) _ _ _ hW (lv_sub hl [0, 1, 2, 4, 5, 6, 7, 8] rfl)
                  refine lv_if_eq (tgt := 101) hx hb dX11_tell_89 (by decide) (fun c_1936 => ?_) (fun c_1936 => ?_)
                  · refine lv_iconst (v := 0) hx hb dX11_tell_101 (by decide) ?_
                    exact J_1938 0 (by first | (simp only [c_1936, if_true, if_false, reduceIte]; done) | (simp [c_1936]; done) | rfl | (rw [if_pos c_1936]; done)) _ _ _ hW (lv_sub hl [0, 1, 2, 3, 4, 5, 6, 7, 8] rfl)
                  · refine lv_iload hx hb dX11_tell_92 (lv_at hl 1 rfl) ?_
                    refine lv_if_ne (tgt := 101) hx hb dX11_tell_94 (by decide) (fun c_1939 => ?_) (fun c_1939 => ?_)
                    · refine lv_iconst (v := 0) hx hb dX11_tell_101 (by decide) ?_
                      exact J_1938 0 (by first | (simp only [c_1936, c_1939, if_true, if_false, reduceIte]; done) | (simp [c_1936, c_1939]; done) | rfl | (rw [if_neg c_1936, if_neg c_1939]; done)) _ _ _ hW (lv_sub hl [0, 1, 2, 3, 4, 5, 6, 7, 8] rfl)
                    · refine lv_iconst (v := 1) hx hb dX11_tell_97 (by decide) ?_
                      refine lv_goto (tgt := 102) hx hb dX11_tell_98 (by decide) ?_
                      exact J_1938 1 (by first | (simp only [c_1936, c_1939, if_true, if_false, reduceIte]; done) | (simp [c_1936, c_1939]; done) | rfl | (rw [if_neg c_1936, if_pos c_1939]; done)) _ _ _ hW (lv_sub hl [0, 1, 2, 3, 4, 5, 6, 7, 8] rfl)
                refine lv_if_eq (tgt := 77) hx hb dX11_tell_65 (by decide) (fun c_1932 => ?_) (fun c_1932 => ?_)
                · refine lv_iconst (v := 0) hx hb dX11_tell_77 (by decide) ?_
                  exact J_1934 0 (by first | (simp only [c_1932, if_true, if_false, reduceIte]; done) | (simp [c_1932]; done) | rfl | (rw [if_pos c_1932]; done)) _ _ _ hW (lv_sub hl [0, 1, 2, 3, 4, 5, 6, 7, 8] rfl)
                · refine lv_iload hx hb dX11_tell_68 (lv_at hl 0 rfl) ?_
                  refine lv_if_eq (tgt := 77) hx hb dX11_tell_70 (by decide) (fun c_1940 => ?_) (fun c_1940 => ?_)
                  · refine lv_iconst (v := 0) hx hb dX11_tell_77 (by decide) ?_
                    exact J_1934 0 (by first | (simp only [c_1932, c_1940, if_true, if_false, reduceIte]; done) | (simp [c_1932, c_1940]; done) | rfl | (rw [if_neg c_1932, if_pos c_1940]; done)) _ _ _ hW (lv_sub hl [0, 1, 2, 3, 4, 5, 6, 7, 8] rfl)
                  · refine lv_iconst (v := 1) hx hb dX11_tell_73 (by decide) ?_
                    refine lv_goto (tgt := 78) hx hb dX11_tell_74 (by decide) ?_
                    exact J_1934 1 (by first | (simp only [c_1932, c_1940, if_true, if_false, reduceIte]; done) | (simp [c_1932, c_1940]; done) | rfl | (rw [if_neg c_1932, if_neg c_1940]; done)) _ _ _ hW (lv_sub hl [0, 1, 2, 3, 4, 5, 6, 7, 8] rfl)
          exact K_1911 _ 1 1 0 0 (by first | exact rfl | (simp; done)) (by exact rfl) (by exact rfl) (by first | omega | assumption | (simp; done)) (Nat.lt_succ_self _) _ _ _ hW (lv_sub hl [0, 1, 2, 3, 4, 5, 6, 7] rfl)
    exact K_1906 _ 0 0 1000000 (-1) (by first | exact rfl | (simp; done)) (by exact rfl) (by exact rfl) (by first | omega | assumption | (simp; done)) (Nat.lt_succ_self _) _ _ _ hW (lv_sub hl [0, 1, 2, 3, 4] rfl)
  · exfalso; exact dd (okp_nI (by omega) (by assumption)) c_1905
set_option maxHeartbeats 4000000 in
set_option maxRecDepth 100000 in
theorem c_X11_tell_bad (l : Launch) (G : gT) (mo al ke ik rq so ha te bt an vs : Nat) (mab mbe : Int64) (bL tA tL tK tV : Int32) (rv : Nat → Int32) (a : Nat → Int32) (n : Nat) (p9 : Int32) (e0 : a 0 = nI n) (hn : n ≤ 7) (hbad : okp n p9 = false) : MI l G yX11_tell cX11_tell 9 .int ({ frames := 2, cells := 0, slots := 0, locals := 46 }) [.ref mo, .int p9] [(mo, .inr (9, [.ref al, .ref ke, .ref ik, .ref rq, .long mab, .long mbe, .ref so, .ref ha, .ref te, .ref bt, .int bL, .int tA, .int tL, .int tK, .int tV, .ref an, .ref vs])), (al, .inl (G.2.1, 159, .inl a)), (rq, .inl (G.2.1, 3, .inl rv))] (fun (r : Int32) w1 => ∃ u_ : Unit, (r = (-2)) ∧ w1 = [(mo, .inr (9, [.ref al, .ref ke, .ref ik, .ref rq, .long mab, .long mbe, .ref so, .ref ha, .ref te, .ref bt, .int bL, .int tA, .int tL, .int tK, .int tV, .ref an, .ref vs])), (al, .inl (G.2.1, 159, .inl a)), (rq, .inl (G.2.1, 3, .inl (upd rv 0 (rv 0 + 1))))]) := by
  refine MI.mk (by decide) (Nat.le_of_ble_eq_true rfl) ?_
  intro p_ e_ s_ m_ ar_ be_ me_ cd_ A_ ls C hrt hW hl
  have hx := C.1; have hb := C.2.1; have hown := C.2.2.2.1; have ht := C.2.2.2.2.1
  replace hl : lv_has ls 9 [(0, .ref mo), (1, .int p9)] := hl
  generalize hQ : MQ be_ _ ar_ s_ 0 0 A_ = Q
  refine lv_aload_n hx hb dX11_tell_0 rfl (lv_at hl 0 rfl) ?_
  refine lv_iload_n hx hb dX11_tell_1 rfl (lv_at hl 1 rfl) ?_
  refine g_fi C hW [0, 1] rfl (g_runV (As := [.int p9]) (rest := []) (wc := [(mo, .inr (9, [.ref al, .ref ke, .ref ik, .ref rq, .long mab, .long mbe, .ref so, .ref ha, .ref te, .ref bt, .int bL, .int tA, .int tL, .int tK, .int tV, .ref an, .ref vs])), (al, .inl (G.2.1, 159, .inl a))]) (q0 := 0) (ci := 9) C hW hl (c_X11_isPlayer l G mo al ke ik rq so ha te bt an vs mab mbe bL tA tL tK tV a n p9 (by first | assumption | omega) (by first | assumption | omega) _) k_ml_X11_118 q_X11_isPlayer (by decide) [0, 1] rfl rfl rfl rfl rfl rfl (Nat.le_of_ble_eq_true rfl) dX11_tell_2 (by decide)) (fun r_1941 er_1941 => ?_)
  clear hW; intro H locs hW
  refine lv_as (y := bI (okp n p9)) er_1941 ?_
  clear er_1941 r_1941
  refine lv_if_ne (tgt := 15) hx hb dX11_tell_5 (by decide) (fun c_1942 => ?_) (fun c_1942 => ?_)
  · exfalso; simp [bI_ne.mp c_1942, if_true, if_false, reduceIte, Bool.false_eq_true] at hbad
  · refine lv_aload_n hx hb dX11_tell_8 rfl (lv_at hl 0 rfl) ?_
    refine lv_bipush (v := (-2)) hx hb dX11_tell_9 (by decide) ?_
    refine g_fiw (wr := [(al, .inl (G.2.1, 159, .inl a))]) (ww := fun (u_ : Unit) => [(mo, .inr (9, [.ref al, .ref ke, .ref ik, .ref rq, .long mab, .long mbe, .ref so, .ref ha, .ref te, .ref bt, .int bL, .int tA, .int tL, .int tK, .int tV, .ref an, .ref vs])), (rq, .inl (G.2.1, 3, .inl (upd rv 0 (rv 0 + 1))))]) (w2 := fun (u_ : Unit) => [(mo, .inr (9, [.ref al, .ref ke, .ref ik, .ref rq, .long mab, .long mbe, .ref so, .ref ha, .ref te, .ref bt, .int bL, .int tA, .int tL, .int tK, .int tV, .ref an, .ref vs])), (al, .inl (G.2.1, 159, .inl a)), (rq, .inl (G.2.1, 3, .inl (upd rv 0 (rv 0 + 1))))]) C hW [0, 2] [1] [1, 0, 2] rfl rfl (by decide) (by decide) (by decide) (fun _ => rfl) (g_runV (As := [.int (-2)]) (rest := []) (wc := [(mo, .inr (9, [.ref al, .ref ke, .ref ik, .ref rq, .long mab, .long mbe, .ref so, .ref ha, .ref te, .ref bt, .int bL, .int tA, .int tL, .int tK, .int tV, .ref an, .ref vs])), (rq, .inl (G.2.1, 3, .inl rv))]) (q0 := 0) (ci := 9) C hW hl (c_X11_bad l G mo al ke ik rq so ha te bt an vs mab mbe bL tA tL tK tV rv (-2)  _) k_ml_X11_67 q_X11_bad (by decide) [0, 2] rfl rfl rfl rfl rfl rfl (Nat.le_of_ble_eq_true rfl) dX11_tell_11 (by decide)) (fun r_1943 _ er_1943 => ?_)
    clear hW H locs; intro H locs hW
    refine lv_as (y := (-2)) er_1943 ?_
    clear er_1943 r_1943
    replace hW : Wd G A_ s_.heap [(mo, .inr (9, [.ref al, .ref ke, .ref ik, .ref rq, .long mab, .long mbe, .ref so, .ref ha, .ref te, .ref bt, .int bL, .int tA, .int tL, .int tK, .int tV, .ref an, .ref vs])), (al, .inl (G.2.1, 159, .inl a)), (rq, .inl (G.2.1, 3, .inl (upd rv 0 (rv 0 + 1))))] H locs := hW
    subst hQ
    exact g_iret (v := (-2)) C hW hrt ⟨(), by rfl, by rfl⟩ dX11_tell_14
