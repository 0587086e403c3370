set_option maxHeartbeats 4000000 in
set_option maxRecDepth 100000 in
theorem c_X11_layFour (l : Launch) (G : gT) (mo al ke ik rq so ha te bt an vs : Nat) (mab mbe : Int64) (bL tA tL tK tV : Int32) (a : Nat → Int32) (z : Nat) (g9 x9 w9 y9 : Int32) (hz : z < 150) : MV l G yX11_layFour cX11_layFour 6 ({ frames := 0, cells := 0, slots := 0, locals := 0 }) [.ref mo, .int (nI z), .int g9, .int x9, .int w9, .int y9] [(mo, .inr (9, [.ref al, .ref ke, .ref ik, .ref rq, .long mab, .long mbe, .ref so, .ref ha, .ref te, .ref bt, .int bL, .int tA, .int tL, .int tK, .int tV, .ref an, .ref vs])), (al, .inl (G.2.1, 159, .inl a))] (fun w1 => ∃ u_ : Unit, (True) ∧ w1 = [(mo, .inr (9, [.ref al, .ref ke, .ref ik, .ref rq, .long mab, .long mbe, .ref so, .ref ha, .ref te, .ref bt, .int bL, .int tA, .int tL, .int tK, .int tV, .ref an, .ref vs])), (al, .inl (G.2.1, 159, .inl (upd (upd (upd (upd a z g9) (z + 1) x9) (z + 2) w9) (z + 3) y9)))]) := by
  refine MV.mk (by decide) (Nat.le_of_ble_eq_true rfl) ?_
  intro p_ e_ s_ m_ ar_ be_ me_ cd_ A_ ls C hrt hW hl
  have hx := C.1; have hb := C.2.1; have hown := C.2.2.2.1; have ht := C.2.2.2.2.1
  replace hl : lv_has ls 6 [(0, .ref mo), (1, .int (nI z)), (2, .int g9), (3, .int x9), (4, .int w9), (5, .int y9)] := hl
  generalize hQ : MQ be_ _ ar_ s_ 0 0 A_ = Q
  refine lv_aload_n hx hb dX11_layFour_0 rfl (lv_at hl 0 rfl) ?_
  refine g_get (k := 0) (v := .ref al) C hW 0 rfl rfl jnX11 (by decide) k_fl_X11_7 rfl dX11_layFour_1 ?_
  refine lv_iload_n hx hb dX11_layFour_4 rfl (lv_at hl 1 rfl) ?_
  refine lv_iload_n hx hb dX11_layFour_5 rfl (lv_at hl 2 rfl) ?_
  refine g_ast (w' := [(mo, .inr (9, [.ref al, .ref ke, .ref ik, .ref rq, .long mab, .long mbe, .ref so, .ref ha, .ref te, .ref bt, .int bL, .int tA, .int tL, .int tK, .int tV, .ref an, .ref vs])), (al, .inl (G.2.1, 159, .inl (upd a z g9)))]) C hW 1 rfl (ix_in (show (nI z) = nI z from (by first | rfl | (simp only [nI_lit, nI_add, pk_mul]; done) | (simp only [nI_lit, nI_add, pk_mul]; congr 1; omega))) (by omega) (by omega)) (by rw [show (nI z).toNatClampNeg = z from nI_clamp (by omega)]; rfl) dX11_layFour_6 ?_
  clear hW; intro H locs hW
  refine lv_aload_n hx hb dX11_layFour_7 rfl (lv_at hl 0 rfl) ?_
  refine g_get (k := 0) (v := .ref al) C hW 0 rfl rfl jnX11 (by decide) k_fl_X11_7 rfl dX11_layFour_8 ?_
  refine lv_iload_n hx hb dX11_layFour_11 rfl (lv_at hl 1 rfl) ?_
  refine lv_iconst (v := 1) hx hb dX11_layFour_12 (by decide) ?_
  refine lv_iadd hx hb dX11_layFour_13 ?_
  refine lv_iload_n hx hb dX11_layFour_14 rfl (lv_at hl 3 rfl) ?_
  refine g_ast (w' := [(mo, .inr (9, [.ref al, .ref ke, .ref ik, .ref rq, .long mab, .long mbe, .ref so, .ref ha, .ref te, .ref bt, .int bL, .int tA, .int tL, .int tK, .int tV, .ref an, .ref vs])), (al, .inl (G.2.1, 159, .inl (upd (upd a z g9) (z + 1) x9)))]) C hW 1 rfl (ix_in (show ((nI z) + 1) = nI (z + 1) from (by first | rfl | (simp only [nI_lit, nI_add, pk_mul]; done) | (simp only [nI_lit, nI_add, pk_mul]; congr 1; omega))) (by omega) (by omega)) (by rw [show ((nI z) + 1).toNatClampNeg = (z + 1) from ix_cl (show ((nI z) + 1) = nI (z + 1) from (by first | rfl | (simp only [nI_lit, nI_add, pk_mul]; done) | (simp only [nI_lit, nI_add, pk_mul]; congr 1; omega))) (Nat.lt_of_lt_of_le (m := 159) (by omega) (by omega))]; rfl) dX11_layFour_15 ?_
  clear hW H locs; intro H locs hW
  refine lv_aload_n hx hb dX11_layFour_16 rfl (lv_at hl 0 rfl) ?_
  refine g_get (k := 0) (v := .ref al) C hW 0 rfl rfl jnX11 (by decide) k_fl_X11_7 rfl dX11_layFour_17 ?_
  refine lv_iload_n hx hb dX11_layFour_20 rfl (lv_at hl 1 rfl) ?_
  refine lv_iconst (v := 2) hx hb dX11_layFour_21 (by decide) ?_
  refine lv_iadd hx hb dX11_layFour_22 ?_
  refine lv_iload hx hb dX11_layFour_23 (lv_at hl 4 rfl) ?_
  refine g_ast (w' := [(mo, .inr (9, [.ref al, .ref ke, .ref ik, .ref rq, .long mab, .long mbe, .ref so, .ref ha, .ref te, .ref bt, .int bL, .int tA, .int tL, .int tK, .int tV, .ref an, .ref vs])), (al, .inl (G.2.1, 159, .inl (upd (upd (upd a z g9) (z + 1) x9) (z + 2) w9)))]) C hW 1 rfl (ix_in (show ((nI z) + 2) = nI (z + 2) from (by first | rfl | (simp only [nI_lit, nI_add, pk_mul]; done) | (simp only [nI_lit, nI_add, pk_mul]; congr 1; omega))) (by omega) (by omega)) (by rw [show ((nI z) + 2).toNatClampNeg = (z + 2) from ix_cl (show ((nI z) + 2) = nI (z + 2) from (by first | rfl | (simp only [nI_lit, nI_add, pk_mul]; done) | (simp only [nI_lit, nI_add, pk_mul]; congr 1; omega))) (Nat.lt_of_lt_of_le (m := 159) (by omega) (by omega))]; rfl) dX11_layFour_25 ?_
  clear hW H locs; intro H locs hW
  refine lv_aload_n hx hb dX11_layFour_26 rfl (lv_at hl 0 rfl) ?_
  refine g_get (k := 0) (v := .ref al) C hW 0 rfl rfl jnX11 (by decide) k_fl_X11_7 rfl dX11_layFour_27 ?_
  refine lv_iload_n hx hb dX11_layFour_30 rfl (lv_at hl 1 rfl) ?_
  refine lv_iconst (v := 3) hx hb dX11_layFour_31 (by decide) ?_
  refine lv_iadd hx hb dX11_layFour_32 ?_
  refine lv_iload hx hb dX11_layFour_33 (lv_at hl 5 rfl) ?_
  refine g_ast (w' := [(mo, .inr (9, [.ref al, .ref ke, .ref ik, .ref rq, .long mab, .long mbe, .ref so, .ref ha, .ref te, .ref bt, .int bL, .int tA, .int tL, .int tK, .int tV, .ref an, .ref vs])), (al, .inl (G.2.1, 159, .inl (upd (upd (upd (upd a z g9) (z + 1) x9) (z + 2) w9) (z + 3) y9)))]) C hW 1 rfl (ix_in (show ((nI z) + 3) = nI (z + 3) from (by first | rfl | (simp only [nI_lit, nI_add, pk_mul]; done) | (simp only [nI_lit, nI_add, pk_mul]; congr 1; omega))) (by omega) (by omega)) (by rw [show ((nI z) + 3).toNatClampNeg = (z + 3) from ix_cl (show ((nI z) + 3) = nI (z + 3) from (by first | rfl | (simp only [nI_lit, nI_add, pk_mul]; done) | (simp only [nI_lit, nI_add, pk_mul]; congr 1; omega))) (Nat.lt_of_lt_of_le (m := 159) (by omega) (by omega))]; rfl) dX11_layFour_35 ?_
  clear hW H locs; intro H locs hW
  subst hQ
  exact g_vret C hW hrt ⟨(), trivial, by rfl⟩ dX11_layFour_36
set_option maxHeartbeats 4000000 in
set_option maxRecDepth 100000 in
theorem c_X11_note_ok (l : Launch) (G : gT) (mo al ke ik rq so ha te bt an vs : Nat) (mab mbe : Int64) (bL tA tL tK tV : Int32) (a : Nat → Int32) (nn : Nat) (g9 x9 w9 y9 : Int32) (h1 : iw g9 1 9 = true) (h2 : iw x9 0 30 = true) (h3 : iw w9 (-4) 4 = true) (h4 : iw y9 0 99 = true) (e2 : a 2 = nI nn) (ho : nn < 6) : MI l G yX11_note cX11_note 5 .int ({ frames := 2, cells := 0, slots := 0, locals := 45 }) [.ref mo, .int g9, .int x9, .int w9, .int y9] [(mo, .inr (9, [.ref al, .ref ke, .ref ik, .ref rq, .long mab, .long mbe, .ref so, .ref ha, .ref te, .ref bt, .int bL, .int tA, .int tL, .int tK, .int tV, .ref an, .ref vs])), (al, .inl (G.2.1, 159, .inl a))] (fun (r : Int32) w1 => ∃ u_ : Unit, (r = nI (nn + 1)) ∧ w1 = [(mo, .inr (9, [.ref al, .ref ke, .ref ik, .ref rq, .long mab, .long mbe, .ref so, .ref ha, .ref te, .ref bt, .int bL, .int tA, .int tL, .int tK, .int tV, .ref an, .ref vs])), (al, .inl (G.2.1, 159, .inl (upd (upd (upd (upd (upd a (55 + 4 * nn) g9) ((55 + 4 * nn) + 1) x9) ((55 + 4 * nn) + 2) w9) ((55 + 4 * nn) + 3) y9) 2 (nI (nn + 1)))))]) := by
  refine MI.mk (by decide) (Nat.le_of_ble_eq_true rfl) ?_
  intro p_ e_ s_ m_ ar_ be_ me_ cd_ A_ ls C hrt hW hl
  have hx := C.1; have hb := C.2.1; have hown := C.2.2.2.1; have ht := C.2.2.2.2.1
  replace hl : lv_has ls 5 [(0, .ref mo), (1, .int g9), (2, .int x9), (3, .int w9), (4, .int y9)] := hl
  generalize hQ : MQ be_ _ ar_ s_ 0 0 A_ = Q
  refine lv_iload_n hx hb dX11_note_0 rfl (lv_at hl 1 rfl) ?_
  refine g_fi C hW [] rfl (g_runS (As := [.int g9]) (rest := []) (wc := []) C hW hl (c_X11_isNine l G g9  _) k_ml_X11_81 q_X11_isNine (by decide) [] rfl rfl rfl rfl (Nat.le_of_ble_eq_true rfl) dX11_note_1 (by decide)) (fun r_1945 er_1945 => ?_)
  clear hW; intro H locs hW
  refine lv_as (y := bI (iw g9 1 9)) er_1945 ?_
  clear er_1945 r_1945
  refine lv_if_eq (tgt := 39) hx hb dX11_note_4 (by decide) (fun c_1946 => ?_) (fun c_1946 => ?_)
  · exfalso; exact dd (by first | assumption | exact okp_nI (by omega) (by assumption) | exact decide_eq_true (by first | assumption | omega)) c_1946
  · refine lv_iload_n hx hb dX11_note_7 rfl (lv_at hl 2 rfl) ?_
    refine lv_i2l hx hb dX11_note_8 rfl ?_
    refine lv_lconst (v := 0) hx hb dX11_note_9 (by decide) ?_
    refine lv_ldc2 (v := 30) hx hb hown (ht _ k_cg_X11_172) dX11_note_10 ?_
    refine g_fi C hW [] rfl (g_runS (As := [.long x9.toInt64, .long 0, .long 30]) (rest := []) (wc := []) C hW hl (c_X11_in l G x9 0 30 0 30 (by first | rfl | decide) (by first | rfl | decide) _) k_ml_X11_53 q_X11_in (by decide) [] rfl rfl rfl rfl (Nat.le_of_ble_eq_true rfl) dX11_note_13 (by decide)) (fun r_1947 er_1947 => ?_)
    clear hW H locs; intro H locs hW
    refine lv_as (y := bI (iw x9 0 30)) er_1947 ?_
    clear er_1947 r_1947
    refine lv_if_eq (tgt := 39) hx hb dX11_note_16 (by decide) (fun c_1948 => ?_) (fun c_1948 => ?_)
    · exfalso; exact dd (by first | assumption | exact okp_nI (by omega) (by assumption) | exact decide_eq_true (by first | assumption | omega)) c_1948
    · refine lv_iload_n hx hb dX11_note_19 rfl (lv_at hl 3 rfl) ?_
      refine g_fi C hW [] rfl (g_runS (As := [.int w9]) (rest := []) (wc := []) C hW hl (c_X11_isWind l G w9  _) k_ml_X11_71 q_X11_isWind (by decide) [] rfl rfl rfl rfl (Nat.le_of_ble_eq_true rfl) dX11_note_20 (by decide)) (fun r_1949 er_1949 => ?_)
      clear hW H locs; intro H locs hW
      refine lv_as (y := bI (iw w9 (-4) 4)) er_1949 ?_
      clear er_1949 r_1949
      refine lv_if_eq (tgt := 39) hx hb dX11_note_23 (by decide) (fun c_1950 => ?_) (fun c_1950 => ?_)
      · exfalso; exact dd (by first | assumption | exact okp_nI (by omega) (by assumption) | exact decide_eq_true (by first | assumption | omega)) c_1950
      · refine lv_iload hx hb dX11_note_26 (lv_at hl 4 rfl) ?_
        refine lv_i2l hx hb dX11_note_28 rfl ?_
        refine lv_lconst (v := 0) hx hb dX11_note_29 (by decide) ?_
        refine lv_ldc2 (v := 99) hx hb hown (ht _ k_cg_X11_134) dX11_note_30 ?_
        refine g_fi C hW [] rfl (g_runS (As := [.long y9.toInt64, .long 0, .long 99]) (rest := []) (wc := []) C hW hl (c_X11_in l G y9 0 99 0 99 (by first | rfl | decide) (by first | rfl | decide) _) k_ml_X11_53 q_X11_in (by decide) [] rfl rfl rfl rfl (Nat.le_of_ble_eq_true rfl) dX11_note_33 (by decide)) (fun r_1951 er_1951 => ?_)
        clear hW H locs; intro H locs hW
        refine lv_as (y := bI (iw y9 0 99)) er_1951 ?_
        clear er_1951 r_1951
        refine lv_if_ne (tgt := 46) hx hb dX11_note_36 (by decide) (fun c_1952 => ?_) (fun c_1952 => ?_)
        · refine lv_aload_n hx hb dX11_note_46 rfl (lv_at hl 0 rfl) ?_
          refine g_get (k := 0) (v := .ref al) C hW 0 rfl rfl jnX11 (by decide) k_fl_X11_7 rfl dX11_note_47 ?_
          refine lv_iconst (v := 2) hx hb dX11_note_50 (by decide) ?_
          refine g_ald C hW 1 rfl (vp_in_nI (n := 2) (by omega) (by omega)) dX11_note_51 ?_
          refine lv_as (y := a 2) (rfl) ?_
          refine lv_as (y := nI nn) (e2) ?_
          refine lv_bipush (v := 6) hx hb dX11_note_52 (by decide) ?_
          refine lv_icmp_ne (tgt := 62) hx hb dX11_note_54 (by decide) (fun c_1953 => ?_) (fun c_1953 => ?_)
          · have c_1953n : ¬ nn = 6 := fun q => c_1953 ((nI_eq (a := nn) (b := 6) (by omega) (by omega)).mpr q)
            refine lv_aload_n hx hb dX11_note_62 rfl (lv_at hl 0 rfl) ?_
            refine lv_bipush (v := 55) hx hb dX11_note_63 (by decide) ?_
            refine lv_iconst (v := 4) hx hb dX11_note_65 (by decide) ?_
            refine lv_aload_n hx hb dX11_note_66 rfl (lv_at hl 0 rfl) ?_
            refine g_get (k := 0) (v := .ref al) C hW 0 rfl rfl jnX11 (by decide) k_fl_X11_7 rfl dX11_note_67 ?_
            refine lv_iconst (v := 2) hx hb dX11_note_70 (by decide) ?_
            refine g_ald C hW 1 rfl (vp_in_nI (n := 2) (by omega) (by omega)) dX11_note_71 ?_
            refine lv_as (y := a 2) (rfl) ?_
            refine lv_as (y := nI nn) (e2) ?_
            refine lv_imul hx hb dX11_note_72 ?_
            refine lv_iadd hx hb dX11_note_73 ?_
            refine lv_as (y := nI (55 + 4 * nn)) (by simp only [nI_lit, nI_add, pk_mul]) ?_
            refine lv_iload_n hx hb dX11_note_74 rfl (lv_at hl 1 rfl) ?_
            refine lv_iload_n hx hb dX11_note_75 rfl (lv_at hl 2 rfl) ?_
            refine lv_iload_n hx hb dX11_note_76 rfl (lv_at hl 3 rfl) ?_
            refine lv_iload hx hb dX11_note_77 (lv_at hl 4 rfl) ?_
            refine g_fvw (wr := []) (ww := fun (u_ : Unit) => [(mo, .inr (9, [.ref al, .ref ke, .ref ik, .ref rq, .long mab, .long mbe, .ref so, .ref ha, .ref te, .ref bt, .int bL, .int tA, .int tL, .int tK, .int tV, .ref an, .ref vs])), (al, .inl (G.2.1, 159, .inl (upd (upd (upd (upd a (55 + 4 * nn) g9) ((55 + 4 * nn) + 1) x9) ((55 + 4 * nn) + 2) w9) ((55 + 4 * nn) + 3) y9)))]) (w2 := fun (u_ : Unit) => [(mo, .inr (9, [.ref al, .ref ke, .ref ik, .ref rq, .long mab, .long mbe, .ref so, .ref ha, .ref te, .ref bt, .int bL, .int tA, .int tL, .int tK, .int tV, .ref an, .ref vs])), (al, .inl (G.2.1, 159, .inl (upd (upd (upd (upd a (55 + 4 * nn) g9) ((55 + 4 * nn) + 1) x9) ((55 + 4 * nn) + 2) w9) ((55 + 4 * nn) + 3) y9)))]) C hW [0, 1] [] [0, 1] rfl rfl (by decide) (by decide) (by decide) (fun _ => rfl) (g_runV (As := [.int (nI (55 + 4 * nn)), .int g9, .int x9, .int w9, .int y9]) (rest := []) (wc := [(mo, .inr (9, [.ref al, .ref ke, .ref ik, .ref rq, .long mab, .long mbe, .ref so, .ref ha, .ref te, .ref bt, .int bL, .int tA, .int tL, .int tK, .int tV, .ref an, .ref vs])), (al, .inl (G.2.1, 159, .inl a))]) (q0 := 0) (ci := 9) C hW hl (c_X11_layFour l G mo al ke ik rq so ha te bt an vs mab mbe bL tA tL tK tV a (55 + 4 * nn) g9 x9 w9 y9 (by first | assumption | omega) _) k_ml_X11_174 q_X11_layFour (by decide) [0, 1] rfl rfl rfl rfl rfl rfl (Nat.le_of_ble_eq_true rfl) dX11_note_79 (by decide)) (fun _ er_1954 => ?_)
            clear hW H locs; intro H locs hW
            replace hW : Wd G A_ s_.heap [(mo, .inr (9, [.ref al, .ref ke, .ref ik, .ref rq, .long mab, .long mbe, .ref so, .ref ha, .ref te, .ref bt, .int bL, .int tA, .int tL, .int tK, .int tV, .ref an, .ref vs])), (al, .inl (G.2.1, 159, .inl (upd (upd (upd (upd a (55 + 4 * nn) g9) ((55 + 4 * nn) + 1) x9) ((55 + 4 * nn) + 2) w9) ((55 + 4 * nn) + 3) y9)))] H locs := hW
            refine lv_aload_n hx hb dX11_note_82 rfl (lv_at hl 0 rfl) ?_
            refine g_get (k := 0) (v := .ref al) C hW 0 rfl rfl jnX11 (by decide) k_fl_X11_7 rfl dX11_note_83 ?_
            refine lv_iconst (v := 2) hx hb dX11_note_86 (by decide) ?_
            refine lv_dup2_11 hx hb dX11_note_87 rfl rfl ?_
            refine g_ald C hW 1 rfl (vp_in_nI (n := 2) (by omega) (by omega)) dX11_note_88 ?_
            refine lv_as (y := (upd (upd (upd (upd a (55 + 4 * nn) g9) ((55 + 4 * nn) + 1) x9) ((55 + 4 * nn) + 2) w9) ((55 + 4 * nn) + 3) y9) 2) (rfl) ?_
            refine lv_as (y := nI nn) (by rw [pk_un (by omega), pk_un (by omega), pk_un (by omega), pk_un (by omega)]; exact e2) ?_
            refine lv_iconst (v := 1) hx hb dX11_note_89 (by decide) ?_
            refine lv_iadd hx hb dX11_note_90 ?_
            refine lv_as (y := nI (nn + 1)) (nI_1 nn) ?_
            refine g_ast (w' := [(mo, .inr (9, [.ref al, .ref ke, .ref ik, .ref rq, .long mab, .long mbe, .ref so, .ref ha, .ref te, .ref bt, .int bL, .int tA, .int tL, .int tK, .int tV, .ref an, .ref vs])), (al, .inl (G.2.1, 159, .inl (upd (upd (upd (upd (upd a (55 + 4 * nn) g9) ((55 + 4 * nn) + 1) x9) ((55 + 4 * nn) + 2) w9) ((55 + 4 * nn) + 3) y9) 2 (nI (nn + 1)))))]) C hW 1 rfl (vp_in_nI (n := 2) (by omega) (by omega)) (by rw [show (2 : Int32).toNatClampNeg = 2 from rfl]; rfl) dX11_note_91 ?_
            clear hW H locs; intro H locs hW
            refine lv_aload_n hx hb dX11_note_92 rfl (lv_at hl 0 rfl) ?_
            refine g_get (k := 0) (v := .ref al) C hW 0 rfl rfl jnX11 (by decide) k_fl_X11_7 rfl dX11_note_93 ?_
            refine lv_iconst (v := 2) hx hb dX11_note_96 (by decide) ?_
            refine g_ald C hW 1 rfl (vp_in_nI (n := 2) (by omega) (by omega)) dX11_note_97 ?_
            refine lv_as (y := (upd (upd (upd (upd (upd a (55 + 4 * nn) g9) ((55 + 4 * nn) + 1) x9) ((55 + 4 * nn) + 2) w9) ((55 + 4 * nn) + 3) y9) 2 (nI (nn + 1))) 2) (rfl) ?_
            subst hQ
            exact g_iret (v := ((upd (upd (upd (upd (upd a (55 + 4 * nn) g9) ((55 + 4 * nn) + 1) x9) ((55 + 4 * nn) + 2) w9) ((55 + 4 * nn) + 3) y9) 2 (nI (nn + 1))) 2)) C hW hrt ⟨(), by exact pk_us, by rfl⟩ dX11_note_98
          · have c_1953n : nn = 6 := (nI_eq (a := nn) (b := 6) (by omega) (by omega)).mp c_1953
            exfalso; omega
        · exfalso; exact dd (by first | assumption | exact okp_nI (by omega) (by assumption) | exact decide_eq_true (by first | assumption | omega)) c_1952
set_option maxHeartbeats 4000000 in
set_option maxRecDepth 100000 in
theorem c_X11_note_full (l : Launch) (G : gT) (mo al ke ik rq so ha te bt an vs : Nat) (mab mbe : Int64) (bL tA tL tK tV : Int32) (rv : Nat → Int32) (a : Nat → Int32) (nn : Nat) (g9 x9 w9 y9 : Int32) (h1 : iw g9 1 9 = true) (h2 : iw x9 0 30 = true) (h3 : iw w9 (-4) 4 = true) (h4 : iw y9 0 99 = true) (e2 : a 2 = nI nn) (ho : nn = 6) : MI l G yX11_note cX11_note 5 .int ({ frames := 2, cells := 0, slots := 0, locals := 45 }) [.ref mo, .int g9, .int x9, .int w9, .int y9] [(mo, .inr (9, [.ref al, .ref ke, .ref ik, .ref rq, .long mab, .long mbe, .ref so, .ref ha, .ref te, .ref bt, .int bL, .int tA, .int tL, .int tK, .int tV, .ref an, .ref vs])), (al, .inl (G.2.1, 159, .inl a)), (rq, .inl (G.2.1, 3, .inl rv))] (fun (r : Int32) w1 => ∃ u_ : Unit, (r = (-4)) ∧ w1 = [(mo, .inr (9, [.ref al, .ref ke, .ref ik, .ref rq, .long mab, .long mbe, .ref so, .ref ha, .ref te, .ref bt, .int bL, .int tA, .int tL, .int tK, .int tV, .ref an, .ref vs])), (al, .inl (G.2.1, 159, .inl a)), (rq, .inl (G.2.1, 3, .inl (upd rv 2 (rv 2 + 1))))]) := by
  refine MI.mk (by decide) (Nat.le_of_ble_eq_true rfl) ?_
  intro p_ e_ s_ m_ ar_ be_ me_ cd_ A_ ls C hrt hW hl
  have hx := C.1; have hb := C.2.1; have hown := C.2.2.2.1; have ht := C.2.2.2.2.1
  replace hl : lv_has ls 5 [(0, .ref mo), (1, .int g9), (2, .int x9), (3, .int w9), (4, .int y9)] := hl
  generalize hQ : MQ be_ _ ar_ s_ 0 0 A_ = Q
  refine lv_iload_n hx hb dX11_note_0 rfl (lv_at hl 1 rfl) ?_
  refine g_fi C hW [] rfl (g_runS (As := [.int g9]) (rest := []) (wc := []) C hW hl (c_X11_isNine l G g9  _) k_ml_X11_81 q_X11_isNine (by decide) [] rfl rfl rfl rfl (Nat.le_of_ble_eq_true rfl) dX11_note_1 (by decide)) (fun r_1956 er_1956 => ?_)
  clear hW; intro H locs hW
  refine lv_as (y := bI (iw g9 1 9)) er_1956 ?_
  clear er_1956 r_1956
  refine lv_if_eq (tgt := 39) hx hb dX11_note_4 (by decide) (fun c_1957 => ?_) (fun c_1957 => ?_)
  · exfalso; exact dd (by first | assumption | exact okp_nI (by omega) (by assumption) | exact decide_eq_true (by first | assumption | omega)) c_1957
  · refine lv_iload_n hx hb dX11_note_7 rfl (lv_at hl 2 rfl) ?_
    refine lv_i2l hx hb dX11_note_8 rfl ?_
    refine lv_lconst (v := 0) hx hb dX11_note_9 (by decide) ?_
    refine lv_ldc2 (v := 30) hx hb hown (ht _ k_cg_X11_172) dX11_note_10 ?_
    refine g_fi C hW [] rfl (g_runS (As := [.long x9.toInt64, .long 0, .long 30]) (rest := []) (wc := []) C hW hl (c_X11_in l G x9 0 30 0 30 (by first | rfl | decide) (by first | rfl | decide) _) k_ml_X11_53 q_X11_in (by decide) [] rfl rfl rfl rfl (Nat.le_of_ble_eq_true rfl) dX11_note_13 (by decide)) (fun r_1958 er_1958 => ?_)
    clear hW H locs; intro H locs hW
    refine lv_as (y := bI (iw x9 0 30)) er_1958 ?_
    clear er_1958 r_1958
    refine lv_if_eq (tgt := 39) hx hb dX11_note_16 (by decide) (fun c_1959 => ?_) (fun c_1959 => ?_)
    · exfalso; exact dd (by first | assumption | exact okp_nI (by omega) (by assumption) | exact decide_eq_true (by first | assumption | omega)) c_1959
    · refine lv_iload_n hx hb dX11_note_19 rfl (lv_at hl 3 rfl) ?_
      refine g_fi C hW [] rfl (g_runS (As := [.int w9]) (rest := []) (wc := []) C hW hl (c_X11_isWind l G w9  _) k_ml_X11_71 q_X11_isWind (by decide) [] rfl rfl rfl rfl (Nat.le_of_ble_eq_true rfl) dX11_note_20 (by decide)) (fun r_1960 er_1960 => ?_)
      clear hW H locs; intro H locs hW
      refine lv_as (y := bI (iw w9 (-4) 4)) er_1960 ?_
      clear er_1960 r_1960
      refine lv_if_eq (tgt := 39) hx hb dX11_note_23 (by decide) (fun c_1961 => ?_) (fun c_1961 => ?_)
      · exfalso; exact dd (by first | assumption | exact okp_nI (by omega) (by assumption) | exact decide_eq_true (by first | assumption | omega)) c_1961
      · refine lv_iload hx hb dX11_note_26 (lv_at hl 4 rfl) ?_
        refine lv_i2l hx hb dX11_note_28 rfl ?_
        refine lv_lconst (v := 0) hx hb dX11_note_29 (by decide) ?_
        refine lv_ldc2 (v := 99) hx hb hown (ht _ k_cg_X11_134) dX11_note_30 ?_
        refine g_fi C hW [] rfl (g_runS (As := [.long y9.toInt64, .long 0, .long 99]) (rest := []) (wc := []) C hW hl (c_X11_in l G y9 0 99 0 99 (by first | rfl | decide) (by first | rfl | decide) _) k_ml_X11_53 q_X11_in (by decide) [] rfl rfl rfl rfl (Nat.le_of_ble_eq_true rfl) dX11_note_33 (by decide)) (fun r_1962 er_1962 => ?_)
        clear hW H locs; intro H locs hW
        refine lv_as (y := bI (iw y9 0 99)) er_1962 ?_
        clear er_1962 r_1962
        refine lv_if_ne (tgt := 46) hx hb dX11_note_36 (by decide) (fun c_1963 => ?_) (fun c_1963 => ?_)
        · refine lv_aload_n hx hb dX11_note_46 rfl (lv_at hl 0 rfl) ?_
          refine g_get (k := 0) (v := .ref al) C hW 0 rfl rfl jnX11 (by decide) k_fl_X11_7 rfl dX11_note_47 ?_
          refine lv_iconst (v := 2) hx hb dX11_note_50 (by decide) ?_
          refine g_ald C hW 1 rfl (vp_in_nI (n := 2) (by omega) (by omega)) dX11_note_51 ?_
          refine lv_as (y := a 2) (rfl) ?_
          refine lv_as (y := nI nn) (e2) ?_
          refine lv_bipush (v := 6) hx hb dX11_note_52 (by decide) ?_
          refine lv_icmp_ne (tgt := 62) hx hb dX11_note_54 (by decide) (fun c_1964 => ?_) (fun c_1964 => ?_)
          · have c_1964n : ¬ nn = 6 := fun q => c_1964 ((nI_eq (a := nn) (b := 6) (by omega) (by omega)).mpr q)
            exfalso; omega
          · have c_1964n : nn = 6 := (nI_eq (a := nn) (b := 6) (by omega) (by omega)).mp c_1964
            refine lv_aload_n hx hb dX11_note_57 rfl (lv_at hl 0 rfl) ?_
            refine g_fiw (wr := [(al, .inl (G.2.1, 159, .inl a))]) (ww := fun (u_ : Unit) => [(mo, .inr (9, [.ref al, .ref ke, .ref ik, .ref rq, .long mab, .long mbe, .ref so, .ref ha, .ref te, .ref bt, .int bL, .int tA, .int tL, .int tK, .int tV, .ref an, .ref vs])), (rq, .inl (G.2.1, 3, .inl (upd rv 2 (rv 2 + 1))))]) (w2 := fun (u_ : Unit) => [(mo, .inr (9, [.ref al, .ref ke, .ref ik, .ref rq, .long mab, .long mbe, .ref so, .ref ha, .ref te, .ref bt, .int bL, .int tA, .int tL, .int tK, .int tV, .ref an, .ref vs])), (al, .inl (G.2.1, 159, .inl a)), (rq, .inl (G.2.1, 3, .inl (upd rv 2 (rv 2 + 1))))]) C hW [0, 2] [1] [1, 0, 2] rfl rfl (by decide) (by decide) (by decide) (fun _ => rfl) (g_runV (As := []) (rest := []) (wc := [(mo, .inr (9, [.ref al, .ref ke, .ref ik, .ref rq, .long mab, .long mbe, .ref so, .ref ha, .ref te, .ref bt, .int bL, .int tA, .int tL, .int tK, .int tV, .ref an, .ref vs])), (rq, .inl (G.2.1, 3, .inl rv))]) (q0 := 0) (ci := 9) C hW hl (c_X11_full l G mo al ke ik rq so ha te bt an vs mab mbe bL tA tL tK tV rv  _) k_ml_X11_84 q_X11_full (by decide) [0, 2] rfl rfl rfl rfl rfl rfl (Nat.le_of_ble_eq_true rfl) dX11_note_58 (by decide)) (fun r_1965 _ er_1965 => ?_)
            clear hW H locs; intro H locs hW
            refine lv_as (y := (-4)) er_1965 ?_
            clear er_1965 r_1965
            replace hW : Wd G A_ s_.heap [(mo, .inr (9, [.ref al, .ref ke, .ref ik, .ref rq, .long mab, .long mbe, .ref so, .ref ha, .ref te, .ref bt, .int bL, .int tA, .int tL, .int tK, .int tV, .ref an, .ref vs])), (al, .inl (G.2.1, 159, .inl a)), (rq, .inl (G.2.1, 3, .inl (upd rv 2 (rv 2 + 1))))] H locs := hW
            subst hQ
            exact g_iret (v := (-4)) C hW hrt ⟨(), by rfl, by rfl⟩ dX11_note_61
        · exfalso; exact dd (by first | assumption | exact okp_nI (by omega) (by assumption) | exact decide_eq_true (by first | assumption | omega)) c_1963
set_option maxHeartbeats 4000000 in
set_option maxRecDepth 100000 in
theorem c_X11_note_bad (l : Launch) (G : gT) (mo al ke ik rq so ha te bt an vs : Nat) (mab mbe : Int64) (bL tA tL tK tV : Int32) (rv : Nat → Int32) (g9 x9 w9 y9 : Int32) (hbad : (iw g9 1 9 && (iw x9 0 30 && (iw w9 (-4) 4 && iw y9 0 99))) = false) : MI l G yX11_note cX11_note 5 .int ({ frames := 2, cells := 0, slots := 0, locals := 45 }) [.ref mo, .int g9, .int x9, .int w9, .int y9] [(mo, .inr (9, [.ref al, .ref ke, .ref ik, .ref rq, .long mab, .long mbe, .ref so, .ref ha, .ref te, .ref bt, .int bL, .int tA, .int tL, .int tK, .int tV, .ref an, .ref vs])), (rq, .inl (G.2.1, 3, .inl rv))] (fun (r : Int32) w1 => ∃ u_ : Unit, (r = (-2)) ∧ w1 = [(mo, .inr (9, [.ref al, .ref ke, .ref ik, .ref rq, .long mab, .long mbe, .ref so, .ref ha, .ref te, .ref bt, .int bL, .int tA, .int tL, .int tK, .int tV, .ref an, .ref vs])), (rq, .inl (G.2.1, 3, .inl (upd rv 0 (rv 0 + 1))))]) := by
  refine MI.mk (by decide) (Nat.le_of_ble_eq_true rfl) ?_
  intro p_ e_ s_ m_ ar_ be_ me_ cd_ A_ ls C hrt hW hl
  have hx := C.1; have hb := C.2.1; have hown := C.2.2.2.1; have ht := C.2.2.2.2.1
  replace hl : lv_has ls 5 [(0, .ref mo), (1, .int g9), (2, .int x9), (3, .int w9), (4, .int y9)] := hl
  generalize hQ : MQ be_ _ ar_ s_ 0 0 A_ = Q
  refine lv_iload_n hx hb dX11_note_0 rfl (lv_at hl 1 rfl) ?_
  refine g_fi C hW [] rfl (g_runS (As := [.int g9]) (rest := []) (wc := []) C hW hl (c_X11_isNine l G g9  _) k_ml_X11_81 q_X11_isNine (by decide) [] rfl rfl rfl rfl (Nat.le_of_ble_eq_true rfl) dX11_note_1 (by decide)) (fun r_1967 er_1967 => ?_)
  clear hW; intro H locs hW
  refine lv_as (y := bI (iw g9 1 9)) er_1967 ?_
  clear er_1967 r_1967
  have J_1975 : ∀ (H : Heap) (locs : List Loc) (ls : Array Slot), Wd G A_ s_.heap [(mo, .inr (9, [.ref al, .ref ke, .ref ik, .ref rq, .long mab, .long mbe, .ref so, .ref ha, .ref te, .ref bt, .int bL, .int tA, .int tL, .int tK, .int tV, .ref an, .ref vs])), (rq, .inl (G.2.1, 3, .inl rv))] H locs → lv_has ls 5 [(0, .ref mo), (1, .int g9), (2, .int x9), (3, .int w9), (4, .int y9)] → W p_ l e_ ({ frames := 2, cells := 0, slots := 0, locals := 45 }) s_ m_ ar_ be_ me_ cd_ H locs 0 0 Q (F0 m_ 39 ls []) := by
    intro  H locs ls hW hl
    refine lv_aload_n hx hb dX11_note_39 rfl (lv_at hl 0 rfl) ?_
    refine lv_bipush (v := (-2)) hx hb dX11_note_40 (by decide) ?_
    refine g_fiw (wr := []) (ww := fun (u_ : Unit) => [(mo, .inr (9, [.ref al, .ref ke, .ref ik, .ref rq, .long mab, .long mbe, .ref so, .ref ha, .ref te, .ref bt, .int bL, .int tA, .int tL, .int tK, .int tV, .ref an, .ref vs])), (rq, .inl (G.2.1, 3, .inl (upd rv 0 (rv 0 + 1))))]) (w2 := fun (u_ : Unit) => [(mo, .inr (9, [.ref al, .ref ke, .ref ik, .ref rq, .long mab, .long mbe, .ref so, .ref ha, .ref te, .ref bt, .int bL, .int tA, .int tL, .int tK, .int tV, .ref an, .ref vs])), (rq, .inl (G.2.1, 3, .inl (upd rv 0 (rv 0 + 1))))]) C hW [0, 1] [] [0, 1] rfl rfl (by decide) (by decide) (by decide) (fun _ => rfl) (g_runV (As := [.int (-2)]) (rest := []) (wc := [(mo, .inr (9, [.ref al, .ref ke, .ref ik, .ref rq, .long mab, .long mbe, .ref so, .ref ha, .ref te, .ref bt, .int bL, .int tA, .int tL, .int tK, .int tV, .ref an, .ref vs])), (rq, .inl (G.2.1, 3, .inl rv))]) (q0 := 0) (ci := 9) C hW hl (c_X11_bad l G mo al ke ik rq so ha te bt an vs mab mbe bL tA tL tK tV rv (-2)  _) k_ml_X11_67 q_X11_bad (by decide) [0, 1] rfl rfl rfl rfl rfl rfl (Nat.le_of_ble_eq_true rfl) dX11_note_42 (by decide)) (fun r_1976 _ er_1976 => ?_)
    clear hW H locs; intro H locs hW
    refine lv_as (y := (-2)) er_1976 ?_
    clear er_1976 r_1976
    replace hW : Wd G A_ s_.heap [(mo, .inr (9, [.ref al, .ref ke, .ref ik, .ref rq, .long mab, .long mbe, .ref so, .ref ha, .ref te, .ref bt, .int bL, .int tA, .int tL, .int tK, .int tV, .ref an, .ref vs])), (rq, .inl (G.2.1, 3, .inl (upd rv 0 (rv 0 + 1))))] H locs := hW
    subst hQ
    exact g_iret (v := (-2)) C hW hrt ⟨(), by rfl, by rfl⟩ dX11_note_45
  refine lv_if_eq (tgt := 39) hx hb dX11_note_4 (by decide) (fun c_1968 => ?_) (fun c_1968 => ?_)
  · exact J_1975  _ _ _ hW (lv_sub hl [0, 1, 2, 3, 4] rfl)
  · refine lv_iload_n hx hb dX11_note_7 rfl (lv_at hl 2 rfl) ?_
    refine lv_i2l hx hb dX11_note_8 rfl ?_
    refine lv_lconst (v := 0) hx hb dX11_note_9 (by decide) ?_
    refine lv_ldc2 (v := 30) hx hb hown (ht _ k_cg_X11_172) dX11_note_10 ?_
    refine g_fi C hW [] rfl (g_runS (As := [.long x9.toInt64, .long 0, .long 30]) (rest := []) (wc := []) C hW hl (c_X11_in l G x9 0 30 0 30 (by first | rfl | decide) (by first | rfl | decide) _) k_ml_X11_53 q_X11_in (by decide) [] rfl rfl rfl rfl (Nat.le_of_ble_eq_true rfl) dX11_note_13 (by decide)) (fun r_1978 er_1978 => ?_)
    clear hW H locs; intro H locs hW
    refine lv_as (y := bI (iw x9 0 30)) er_1978 ?_
    clear er_1978 r_1978
    refine lv_if_eq (tgt := 39) hx hb dX11_note_16 (by decide) (fun c_1979 => ?_) (fun c_1979 => ?_)
    · exact J_1975  _ _ _ hW (lv_sub hl [0, 1, 2, 3, 4] rfl)
    · refine lv_iload_n hx hb dX11_note_19 rfl (lv_at hl 3 rfl) ?_
      refine g_fi C hW [] rfl (g_runS (As := [.int w9]) (rest := []) (wc := []) C hW hl (c_X11_isWind l G w9  _) k_ml_X11_71 q_X11_isWind (by decide) [] rfl rfl rfl rfl (Nat.le_of_ble_eq_true rfl) dX11_note_20 (by decide)) (fun r_1980 er_1980 => ?_)
      clear hW H locs; intro H locs hW
      refine lv_as (y := bI (iw w9 (-4) 4)) er_1980 ?_
      clear er_1980 r_1980
      refine lv_if_eq (tgt := 39) hx hb dX11_note_23 (by decide) (fun c_1981 => ?_) (fun c_1981 => ?_)
      · exact J_1975  _ _ _ hW (lv_sub hl [0, 1, 2, 3, 4] rfl)
      · refine lv_iload hx hb dX11_note_26 (lv_at hl 4 rfl) ?_
        refine lv_i2l hx hb dX11_note_28 rfl ?_
        refine lv_lconst (v := 0) hx hb dX11_note_29 (by decide) ?_
        refine lv_ldc2 (v := 99) hx hb hown (ht _ k_cg_X11_134) dX11_note_30 ?_
        refine g_fi C hW [] rfl (g_runS (As := [.long y9.toInt64, .long 0, .long 99]) (rest := []) (wc := []) C hW hl (c_X11_in l G y9 0 99 0 99 (by first | rfl | decide) (by first | rfl | decide) _) k_ml_X11_53 q_X11_in (by decide) [] rfl rfl rfl rfl (Nat.le_of_ble_eq_true rfl) dX11_note_33 (by decide)) (fun r_1982 er_1982 => ?_)
        clear hW H locs; intro H locs hW
        refine lv_as (y := bI (iw y9 0 99)) er_1982 ?_
        clear er_1982 r_1982
        refine lv_if_ne (tgt := 46) hx hb dX11_note_36 (by decide) (fun c_1983 => ?_) (fun c_1983 => ?_)
        · exfalso; simp [bI_ne.mp c_1968, bI_ne.mp c_1979, bI_ne.mp c_1981, bI_ne.mp c_1983, if_true, if_false, reduceIte, Bool.false_eq_true] at hbad
        · exact J_1975  _ _ _ hW (lv_sub hl [0, 1, 2, 3, 4] rfl)
set_option maxHeartbeats 4000000 in
set_option maxRecDepth 100000 in
theorem c_X11_mark_ok (l : Launch) (G : gT) (mo al ke ik rq so ha te bt an vs : Nat) (mab mbe : Int64) (bL tA tL tK tV : Int32) (a : Nat → Int32) (n mn k : Nat) (b9 t9 x9 : Int32) (hk : k < n) (hn : n ≤ 7) (e0 : a 0 = nI n) (h2 : iw b9 1 9 = true) (h3 : iw t9 0 23 = true) (h4 : iw x9 0 30 = true) (e3 : a 3 = nI mn) (hm : mn < 6) : MI l G yX11_mark cX11_mark 5 .int ({ frames := 2, cells := 0, slots := 0, locals := 46 }) [.ref mo, .int (nI k), .int b9, .int t9, .int x9] [(mo, .inr (9, [.ref al, .ref ke, .ref ik, .ref rq, .long mab, .long mbe, .ref so, .ref ha, .ref te, .ref bt, .int bL, .int tA, .int tL, .int tK, .int tV, .ref an, .ref vs])), (al, .inl (G.2.1, 159, .inl a))] (fun (r : Int32) w1 => ∃ u_ : Unit, (r = nI (mn + 1)) ∧ w1 = [(mo, .inr (9, [.ref al, .ref ke, .ref ik, .ref rq, .long mab, .long mbe, .ref so, .ref ha, .ref te, .ref bt, .int bL, .int tA, .int tL, .int tK, .int tV, .ref an, .ref vs])), (al, .inl (G.2.1, 159, .inl (upd (upd (upd (upd (upd a (79 + 4 * mn) (nI k)) ((79 + 4 * mn) + 1) b9) ((79 + 4 * mn) + 2) t9) ((79 + 4 * mn) + 3) x9) 3 (nI (mn + 1)))))]) := by
  refine MI.mk (by decide) (Nat.le_of_ble_eq_true rfl) ?_
  intro p_ e_ s_ m_ ar_ be_ me_ cd_ A_ ls C hrt hW hl
  have hx := C.1; have hb := C.2.1; have hown := C.2.2.2.1; have ht := C.2.2.2.2.1
  replace hl : lv_has ls 5 [(0, .ref mo), (1, .int (nI k)), (2, .int b9), (3, .int t9), (4, .int x9)] := hl
  generalize hQ : MQ be_ _ ar_ s_ 0 0 A_ = Q
  refine lv_aload_n hx hb dX11_mark_0 rfl (lv_at hl 0 rfl) ?_
  refine lv_iload_n hx hb dX11_mark_1 rfl (lv_at hl 1 rfl) ?_
  refine g_fi C hW [0, 1] rfl (g_runV (As := [.int (nI k)]) (rest := []) (wc := [(mo, .inr (9, [.ref al, .ref ke, .ref ik, .ref rq, .long mab, .long mbe, .ref so, .ref ha, .ref te, .ref bt, .int bL, .int tA, .int tL, .int tK, .int tV, .ref an, .ref vs])), (al, .inl (G.2.1, 159, .inl a))]) (q0 := 0) (ci := 9) C hW hl (c_X11_isPlayer l G mo al ke ik rq so ha te bt an vs mab mbe bL tA tL tK tV a n (nI k) (by first | assumption | omega) (by first | assumption | omega) _) k_ml_X11_118 q_X11_isPlayer (by decide) [0, 1] rfl rfl rfl rfl rfl rfl (Nat.le_of_ble_eq_true rfl) dX11_mark_2 (by decide)) (fun r_1984 er_1984 => ?_)
  clear hW; intro H locs hW
  refine lv_as (y := bI (okp n (nI k))) er_1984 ?_
  clear er_1984 r_1984
  refine lv_if_eq (tgt := 40) hx hb dX11_mark_5 (by decide) (fun c_1985 => ?_) (fun c_1985 => ?_)
  · exfalso; exact dd (okp_nI (by omega) (by assumption)) c_1985
  · refine lv_iload_n hx hb dX11_mark_8 rfl (lv_at hl 2 rfl) ?_
    refine g_fi C hW [] rfl (g_runS (As := [.int b9]) (rest := []) (wc := []) C hW hl (c_X11_isNine l G b9  _) k_ml_X11_81 q_X11_isNine (by decide) [] rfl rfl rfl rfl (Nat.le_of_ble_eq_true rfl) dX11_mark_9 (by decide)) (fun r_1986 er_1986 => ?_)
    clear hW H locs; intro H locs hW
    refine lv_as (y := bI (iw b9 1 9)) er_1986 ?_
    clear er_1986 r_1986
    refine lv_if_eq (tgt := 40) hx hb dX11_mark_12 (by decide) (fun c_1987 => ?_) (fun c_1987 => ?_)
    · exfalso; exact dd (by first | assumption | exact okp_nI (by omega) (by assumption) | exact decide_eq_true (by first | assumption | omega)) c_1987
    · refine lv_iload_n hx hb dX11_mark_15 rfl (lv_at hl 3 rfl) ?_
      refine lv_i2l hx hb dX11_mark_16 rfl ?_
      refine lv_lconst (v := 0) hx hb dX11_mark_17 (by decide) ?_
      refine lv_ldc2 (v := 23) hx hb hown (ht _ k_cg_X11_178) dX11_mark_18 ?_
      refine g_fi C hW [] rfl (g_runS (As := [.long t9.toInt64, .long 0, .long 23]) (rest := []) (wc := []) C hW hl (c_X11_in l G t9 0 23 0 23 (by first | rfl | decide) (by first | rfl | decide) _) k_ml_X11_53 q_X11_in (by decide) [] rfl rfl rfl rfl (Nat.le_of_ble_eq_true rfl) dX11_mark_21 (by decide)) (fun r_1988 er_1988 => ?_)
      clear hW H locs; intro H locs hW
      refine lv_as (y := bI (iw t9 0 23)) er_1988 ?_
      clear er_1988 r_1988
      refine lv_if_eq (tgt := 40) hx hb dX11_mark_24 (by decide) (fun c_1989 => ?_) (fun c_1989 => ?_)
      · exfalso; exact dd (by first | assumption | exact okp_nI (by omega) (by assumption) | exact decide_eq_true (by first | assumption | omega)) c_1989
      · refine lv_iload hx hb dX11_mark_27 (lv_at hl 4 rfl) ?_
        refine lv_i2l hx hb dX11_mark_29 rfl ?_
        refine lv_lconst (v := 0) hx hb dX11_mark_30 (by decide) ?_
        refine lv_ldc2 (v := 30) hx hb hown (ht _ k_cg_X11_172) dX11_mark_31 ?_
        refine g_fi C hW [] rfl (g_runS (As := [.long x9.toInt64, .long 0, .long 30]) (rest := []) (wc := []) C hW hl (c_X11_in l G x9 0 30 0 30 (by first | rfl | decide) (by first | rfl | decide) _) k_ml_X11_53 q_X11_in (by decide) [] rfl rfl rfl rfl (Nat.le_of_ble_eq_true rfl) dX11_mark_34 (by decide)) (fun r_1990 er_1990 => ?_)
        clear hW H locs; intro H locs hW
        refine lv_as (y := bI (iw x9 0 30)) er_1990 ?_
        clear er_1990 r_1990
        refine lv_if_ne (tgt := 47) hx hb dX11_mark_37 (by decide) (fun c_1991 => ?_) (fun c_1991 => ?_)
        · refine lv_aload_n hx hb dX11_mark_47 rfl (lv_at hl 0 rfl) ?_
          refine g_get (k := 0) (v := .ref al) C hW 0 rfl rfl jnX11 (by decide) k_fl_X11_7 rfl dX11_mark_48 ?_
          refine lv_iconst (v := 3) hx hb dX11_mark_51 (by decide) ?_
          refine g_ald C hW 1 rfl (vp_in_nI (n := 3) (by omega) (by omega)) dX11_mark_52 ?_
          refine lv_as (y := a 3) (rfl) ?_
          refine lv_as (y := nI mn) (e3) ?_
          refine lv_bipush (v := 6) hx hb dX11_mark_53 (by decide) ?_
          refine lv_icmp_ne (tgt := 63) hx hb dX11_mark_55 (by decide) (fun c_1992 => ?_) (fun c_1992 => ?_)
          · have c_1992n : ¬ mn = 6 := fun q => c_1992 ((nI_eq (a := mn) (b := 6) (by omega) (by omega)).mpr q)
            refine lv_aload_n hx hb dX11_mark_63 rfl (lv_at hl 0 rfl) ?_
            refine lv_bipush (v := 79) hx hb dX11_mark_64 (by decide) ?_
            refine lv_iconst (v := 4) hx hb dX11_mark_66 (by decide) ?_
            refine lv_aload_n hx hb dX11_mark_67 rfl (lv_at hl 0 rfl) ?_
            refine g_get (k := 0) (v := .ref al) C hW 0 rfl rfl jnX11 (by decide) k_fl_X11_7 rfl dX11_mark_68 ?_
            refine lv_iconst (v := 3) hx hb dX11_mark_71 (by decide) ?_
            refine g_ald C hW 1 rfl (vp_in_nI (n := 3) (by omega) (by omega)) dX11_mark_72 ?_
            refine lv_as (y := a 3) (rfl) ?_
            refine lv_as (y := nI mn) (e3) ?_
            refine lv_imul hx hb dX11_mark_73 ?_
            refine lv_iadd hx hb dX11_mark_74 ?_
            refine lv_as (y := nI (79 + 4 * mn)) (by simp only [nI_lit, nI_add, pk_mul]) ?_
            refine lv_iload_n hx hb dX11_mark_75 rfl (lv_at hl 1 rfl) ?_
            refine lv_iload_n hx hb dX11_mark_76 rfl (lv_at hl 2 rfl) ?_
            refine lv_iload_n hx hb dX11_mark_77 rfl (lv_at hl 3 rfl) ?_
            refine lv_iload hx hb dX11_mark_78 (lv_at hl 4 rfl) ?_
            refine g_fvw (wr := []) (ww := fun (u_ : Unit) => [(mo, .inr (9, [.ref al, .ref ke, .ref ik, .ref rq, .long mab, .long mbe, .ref so, .ref ha, .ref te, .ref bt, .int bL, .int tA, .int tL, .int tK, .int tV, .ref an, .ref vs])), (al, .inl (G.2.1, 159, .inl (upd (upd (upd (upd a (79 + 4 * mn) (nI k)) ((79 + 4 * mn) + 1) b9) ((79 + 4 * mn) + 2) t9) ((79 + 4 * mn) + 3) x9)))]) (w2 := fun (u_ : Unit) => [(mo, .inr (9, [.ref al, .ref ke, .ref ik, .ref rq, .long mab, .long mbe, .ref so, .ref ha, .ref te, .ref bt, .int bL, .int tA, .int tL, .int tK, .int tV, .ref an, .ref vs])), (al, .inl (G.2.1, 159, .inl (upd (upd (upd (upd a (79 + 4 * mn) (nI k)) ((79 + 4 * mn) + 1) b9) ((79 + 4 * mn) + 2) t9) ((79 + 4 * mn) + 3) x9)))]) C hW [0, 1] [] [0, 1] rfl rfl (by decide) (by decide) (by decide) (fun _ => rfl) (g_runV (As := [.int (nI (79 + 4 * mn)), .int (nI k), .int b9, .int t9, .int x9]) (rest := []) (wc := [(mo, .inr (9, [.ref al, .ref ke, .ref ik, .ref rq, .long mab, .long mbe, .ref so, .ref ha, .ref te, .ref bt, .int bL, .int tA, .int tL, .int tK, .int tV, .ref an, .ref vs])), (al, .inl (G.2.1, 159, .inl a))]) (q0 := 0) (ci := 9) C hW hl (c_X11_layFour l G mo al ke ik rq so ha te bt an vs mab mbe bL tA tL tK tV a (79 + 4 * mn) (nI k) b9 t9 x9 (by first | assumption | omega) _) k_ml_X11_174 q_X11_layFour (by decide) [0, 1] rfl rfl rfl rfl rfl rfl (Nat.le_of_ble_eq_true rfl) dX11_mark_80 (by decide)) (fun _ er_1993 => ?_)
            clear hW H locs; intro H locs hW
            replace hW : Wd G A_ s_.heap [(mo, .inr (9, [.ref al, .ref ke, .ref ik, .ref rq, .long mab, .long mbe, .ref so, .ref ha, .ref te, .ref bt, .int bL, .int tA, .int tL, .int tK, .int tV, .ref an, .ref vs])), (al, .inl (G.2.1, 159, .inl (upd (upd (upd (upd a (79 + 4 * mn) (nI k)) ((79 + 4 * mn) + 1) b9) ((79 + 4 * mn) + 2) t9) ((79 + 4 * mn) + 3) x9)))] H locs := hW
            refine lv_aload_n hx hb dX11_mark_83 rfl (lv_at hl 0 rfl) ?_
            refine g_get (k := 0) (v := .ref al) C hW 0 rfl rfl jnX11 (by decide) k_fl_X11_7 rfl dX11_mark_84 ?_
            refine lv_iconst (v := 3) hx hb dX11_mark_87 (by decide) ?_
            refine lv_dup2_11 hx hb dX11_mark_88 rfl rfl ?_
            refine g_ald C hW 1 rfl (vp_in_nI (n := 3) (by omega) (by omega)) dX11_mark_89 ?_
            refine lv_as (y := (upd (upd (upd (upd a (79 + 4 * mn) (nI k)) ((79 + 4 * mn) + 1) b9) ((79 + 4 * mn) + 2) t9) ((79 + 4 * mn) + 3) x9) 3) (rfl) ?_
            refine lv_as (y := nI mn) (by rw [pk_un (by omega), pk_un (by omega), pk_un (by omega), pk_un (by omega)]; exact e3) ?_
            refine lv_iconst (v := 1) hx hb dX11_mark_90 (by decide) ?_
            refine lv_iadd hx hb dX11_mark_91 ?_
            refine lv_as (y := nI (mn + 1)) (nI_1 mn) ?_
            refine g_ast (w' := [(mo, .inr (9, [.ref al, .ref ke, .ref ik, .ref rq, .long mab, .long mbe, .ref so, .ref ha, .ref te, .ref bt, .int bL, .int tA, .int tL, .int tK, .int tV, .ref an, .ref vs])), (al, .inl (G.2.1, 159, .inl (upd (upd (upd (upd (upd a (79 + 4 * mn) (nI k)) ((79 + 4 * mn) + 1) b9) ((79 + 4 * mn) + 2) t9) ((79 + 4 * mn) + 3) x9) 3 (nI (mn + 1)))))]) C hW 1 rfl (vp_in_nI (n := 3) (by omega) (by omega)) (by rw [show (3 : Int32).toNatClampNeg = 3 from rfl]; rfl) dX11_mark_92 ?_
            clear hW H locs; intro H locs hW
            refine lv_aload_n hx hb dX11_mark_93 rfl (lv_at hl 0 rfl) ?_
            refine g_get (k := 0) (v := .ref al) C hW 0 rfl rfl jnX11 (by decide) k_fl_X11_7 rfl dX11_mark_94 ?_
            refine lv_iconst (v := 3) hx hb dX11_mark_97 (by decide) ?_
            refine g_ald C hW 1 rfl (vp_in_nI (n := 3) (by omega) (by omega)) dX11_mark_98 ?_
            refine lv_as (y := (upd (upd (upd (upd (upd a (79 + 4 * mn) (nI k)) ((79 + 4 * mn) + 1) b9) ((79 + 4 * mn) + 2) t9) ((79 + 4 * mn) + 3) x9) 3 (nI (mn + 1))) 3) (rfl) ?_
            subst hQ
            exact g_iret (v := ((upd (upd (upd (upd (upd a (79 + 4 * mn) (nI k)) ((79 + 4 * mn) + 1) b9) ((79 + 4 * mn) + 2) t9) ((79 + 4 * mn) + 3) x9) 3 (nI (mn + 1))) 3)) C hW hrt ⟨(), by exact pk_us, by rfl⟩ dX11_mark_99
          · have c_1992n : mn = 6 := (nI_eq (a := mn) (b := 6) (by omega) (by omega)).mp c_1992
            exfalso; omega
        · exfalso; exact dd (by first | assumption | exact okp_nI (by omega) (by assumption) | exact decide_eq_true (by first | assumption | omega)) c_1991
set_option maxHeartbeats 4000000 in
set_option maxRecDepth 100000 in
theorem c_X11_mark_full (l : Launch) (G : gT) (mo al ke ik rq so ha te bt an vs : Nat) (mab mbe : Int64) (bL tA tL tK tV : Int32) (rv : Nat → Int32) (a : Nat → Int32) (n mn k : Nat) (b9 t9 x9 : Int32) (hk : k < n) (hn : n ≤ 7) (e0 : a 0 = nI n) (h2 : iw b9 1 9 = true) (h3 : iw t9 0 23 = true) (h4 : iw x9 0 30 = true) (e3 : a 3 = nI mn) (hm : mn = 6) : MI l G yX11_mark cX11_mark 5 .int ({ frames := 2, cells := 0, slots := 0, locals := 46 }) [.ref mo, .int (nI k), .int b9, .int t9, .int x9] [(mo, .inr (9, [.ref al, .ref ke, .ref ik, .ref rq, .long mab, .long mbe, .ref so, .ref ha, .ref te, .ref bt, .int bL, .int tA, .int tL, .int tK, .int tV, .ref an, .ref vs])), (al, .inl (G.2.1, 159, .inl a)), (rq, .inl (G.2.1, 3, .inl rv))] (fun (r : Int32) w1 => ∃ u_ : Unit, (r = (-4)) ∧ w1 = [(mo, .inr (9, [.ref al, .ref ke, .ref ik, .ref rq, .long mab, .long mbe, .ref so, .ref ha, .ref te, .ref bt, .int bL, .int tA, .int tL, .int tK, .int tV, .ref an, .ref vs])), (al, .inl (G.2.1, 159, .inl a)), (rq, .inl (G.2.1, 3, .inl (upd rv 2 (rv 2 + 1))))]) := by
  refine MI.mk (by decide) (Nat.le_of_ble_eq_true rfl) ?_
  intro p_ e_ s_ m_ ar_ be_ me_ cd_ A_ ls C hrt hW hl
  have hx := C.1; have hb := C.2.1; have hown := C.2.2.2.1; have ht := C.2.2.2.2.1
  replace hl : lv_has ls 5 [(0, .ref mo), (1, .int (nI k)), (2, .int b9), (3, .int t9), (4, .int x9)] := hl
  generalize hQ : MQ be_ _ ar_ s_ 0 0 A_ = Q
  refine lv_aload_n hx hb dX11_mark_0 rfl (lv_at hl 0 rfl) ?_
  refine lv_iload_n hx hb dX11_mark_1 rfl (lv_at hl 1 rfl) ?_
  refine g_fi C hW [0, 1] rfl (g_runV (As := [.int (nI k)]) (rest := []) (wc := [(mo, .inr (9, [.ref al, .ref ke, .ref ik, .ref rq, .long mab, .long mbe, .ref so, .ref ha, .ref te, .ref bt, .int bL, .int tA, .int tL, .int tK, .int tV, .ref an, .ref vs])), (al, .inl (G.2.1, 159, .inl a))]) (q0 := 0) (ci := 9) C hW hl (c_X11_isPlayer l G mo al ke ik rq so ha te bt an vs mab mbe bL tA tL tK tV a n (nI k) (by first | assumption | omega) (by first | assumption | omega) _) k_ml_X11_118 q_X11_isPlayer (by decide) [0, 1] rfl rfl rfl rfl rfl rfl (Nat.le_of_ble_eq_true rfl) dX11_mark_2 (by decide)) (fun r_1995 er_1995 => ?_)
  clear hW; intro H locs hW
  refine lv_as (y := bI (okp n (nI k))) er_1995 ?_
  clear er_1995 r_1995
  refine lv_if_eq (tgt := 40) hx hb dX11_mark_5 (by decide) (fun c_1996 => ?_) (fun c_1996 => ?_)
  · exfalso; exact dd (okp_nI (by omega) (by assumption)) c_1996
  · refine lv_iload_n hx hb dX11_mark_8 rfl (lv_at hl 2 rfl) ?_
    refine g_fi C hW [] rfl (g_runS (As := [.int b9]) (rest := []) (wc := []) C hW hl (c_X11_isNine l G b9  _) k_ml_X11_81 q_X11_isNine (by decide) [] rfl rfl rfl rfl (Nat.le_of_ble_eq_true rfl) dX11_mark_9 (by decide)) (fun r_1997 er_1997 => ?_)
    clear hW H locs; intro H locs hW
    refine lv_as (y := bI (iw b9 1 9)) er_1997 ?_
    clear er_1997 r_1997
    refine lv_if_eq (tgt := 40) hx hb dX11_mark_12 (by decide) (fun c_1998 => ?_) (fun c_1998 => ?_)
    · exfalso; exact dd (by first | assumption | exact okp_nI (by omega) (by assumption) | exact decide_eq_true (by first | assumption | omega)) c_1998
    · refine lv_iload_n hx hb dX11_mark_15 rfl (lv_at hl 3 rfl) ?_
      refine lv_i2l hx hb dX11_mark_16 rfl ?_
      refine lv_lconst (v := 0) hx hb dX11_mark_17 (by decide) ?_
      refine lv_ldc2 (v := 23) hx hb hown (ht _ k_cg_X11_178) dX11_mark_18 ?_
      refine g_fi C hW [] rfl (g_runS (As := [.long t9.toInt64, .long 0, .long 23]) (rest := []) (wc := []) C hW hl (c_X11_in l G t9 0 23 0 23 (by first | rfl | decide) (by first | rfl | decide) _) k_ml_X11_53 q_X11_in (by decide) [] rfl rfl rfl rfl (Nat.le_of_ble_eq_true rfl) dX11_mark_21 (by decide)) (fun r_1999 er_1999 => ?_)
      clear hW H locs; intro H locs hW
      refine lv_as (y := bI (iw t9 0 23)) er_1999 ?_
      clear er_1999 r_1999
      refine lv_if_eq (tgt := 40) hx hb dX11_mark_24 (by decide) (fun c_2000 => ?_) (fun c_2000 => ?_)
      · exfalso; exact dd (by first | assumption | exact okp_nI (by omega) (by assumption) | exact decide_eq_true (by first | assumption | omega)) c_2000
      · refine lv_iload hx hb dX11_mark_27 (lv_at hl 4 rfl) ?_
        refine lv_i2l hx hb dX11_mark_29 rfl ?_
        refine lv_lconst (v := 0) hx hb dX11_mark_30 (by decide) ?_
        refine lv_ldc2 (v := 30) hx hb hown (ht _ k_cg_X11_172) dX11_mark_31 ?_
        refine g_fi C hW [] rfl (g_runS (As := [.long x9.toInt64, .long 0, .long 30]) (rest := []) (wc := []) C hW hl (c_X11_in l G x9 0 30 0 30 (by first | rfl | decide) (by first | rfl | decide) _) k_ml_X11_53 q_X11_in (by decide) [] rfl rfl rfl rfl (Nat.le_of_ble_eq_true rfl) dX11_mark_34 (by decide)) (fun r_2001 er_2001 => ?_)
        clear hW H locs; intro H locs hW
        refine lv_as (y := bI (iw x9 0 30)) er_2001 ?_
        clear er_2001 r_2001
        refine lv_if_ne (tgt := 47) hx hb dX11_mark_37 (by decide) (fun c_2002 => ?_) (fun c_2002 => ?_)
        · refine lv_aload_n hx hb dX11_mark_47 rfl (lv_at hl 0 rfl) ?_
          refine g_get (k := 0) (v := .ref al) C hW 0 rfl rfl jnX11 (by decide) k_fl_X11_7 rfl dX11_mark_48 ?_
          refine lv_iconst (v := 3) hx hb dX11_mark_51 (by decide) ?_
          refine g_ald C hW 1 rfl (vp_in_nI (n := 3) (by omega) (by omega)) dX11_mark_52 ?_
          refine lv_as (y := a 3) (rfl) ?_
          refine lv_as (y := nI mn) (e3) ?_
          refine lv_bipush (v := 6) hx hb dX11_mark_53 (by decide) ?_
          refine lv_icmp_ne (tgt := 63) hx hb dX11_mark_55 (by decide) (fun c_2003 => ?_) (fun c_2003 => ?_)
          · have c_2003n : ¬ mn = 6 := fun q => c_2003 ((nI_eq (a := mn) (b := 6) (by omega) (by omega)).mpr q)
            exfalso; omega
          · have c_2003n : mn = 6 := (nI_eq (a := mn) (b := 6) (by omega) (by omega)).mp c_2003
            refine lv_aload_n hx hb dX11_mark_58 rfl (lv_at hl 0 rfl) ?_
            refine g_fiw (wr := [(al, .inl (G.2.1, 159, .inl a))]) (ww := fun (u_ : Unit) => [(mo, .inr (9, [.ref al, .ref ke, .ref ik, .ref rq, .long mab, .long mbe, .ref so, .ref ha, .ref te, .ref bt, .int bL, .int tA, .int tL, .int tK, .int tV, .ref an, .ref vs])), (rq, .inl (G.2.1, 3, .inl (upd rv 2 (rv 2 + 1))))]) (w2 := fun (u_ : Unit) => [(mo, .inr (9, [.ref al, .ref ke, .ref ik, .ref rq, .long mab, .long mbe, .ref so, .ref ha, .ref te, .ref bt, .int bL, .int tA, .int tL, .int tK, .int tV, .ref an, .ref vs])), (al, .inl (G.2.1, 159, .inl a)), (rq, .inl (G.2.1, 3, .inl (upd rv 2 (rv 2 + 1))))]) C hW [0, 2] [1] [1, 0, 2] rfl rfl (by decide) (by decide) (by decide) (fun _ => rfl) (g_runV (As := []) (rest := []) (wc := [(mo, .inr (9, [.ref al, .ref ke, .ref ik, .ref rq, .long mab, .long mbe, .ref so, .ref ha, .ref te, .ref bt, .int bL, .int tA, .int tL, .int tK, .int tV, .ref an, .ref vs])), (rq, .inl (G.2.1, 3, .inl rv))]) (q0 := 0) (ci := 9) C hW hl (c_X11_full l G mo al ke ik rq so ha te bt an vs mab mbe bL tA tL tK tV rv  _) k_ml_X11_84 q_X11_full (by decide) [0, 2] rfl rfl rfl rfl rfl rfl (Nat.le_of_ble_eq_true rfl) dX11_mark_59 (by decide)) (fun r_2004 _ er_2004 => ?_)
            clear hW H locs; intro H locs hW
            refine lv_as (y := (-4)) er_2004 ?_
            clear er_2004 r_2004
            replace hW : Wd G A_ s_.heap [(mo, .inr (9, [.ref al, .ref ke, .ref ik, .ref rq, .long mab, .long mbe, .ref so, .ref ha, .ref te, .ref bt, .int bL, .int tA, .int tL, .int tK, .int tV, .ref an, .ref vs])), (al, .inl (G.2.1, 159, .inl a)), (rq, .inl (G.2.1, 3, .inl (upd rv 2 (rv 2 + 1))))] H locs := hW
            subst hQ
            exact g_iret (v := (-4)) C hW hrt ⟨(), by rfl, by rfl⟩ dX11_mark_62
        · exfalso; exact dd (by first | assumption | exact okp_nI (by omega) (by assumption) | exact decide_eq_true (by first | assumption | omega)) c_2002
set_option maxHeartbeats 4000000 in
set_option maxRecDepth 100000 in
theorem c_X11_mark_bad (l : Launch) (G : gT) (mo al ke ik rq so ha te bt an vs : Nat) (mab mbe : Int64) (bL tA tL tK tV : Int32) (rv : Nat → Int32) (a : Nat → Int32) (n : Nat) (p9 b9 t9 x9 : Int32) (e0 : a 0 = nI n) (hn : n ≤ 7) (hbad : (okp n p9 && (iw b9 1 9 && (iw t9 0 23 && iw x9 0 30))) = false) : MI l G yX11_mark cX11_mark 5 .int ({ frames := 2, cells := 0, slots := 0, locals := 46 }) [.ref mo, .int p9, .int b9, .int t9, .int x9] [(mo, .inr (9, [.ref al, .ref ke, .ref ik, .ref rq, .long mab, .long mbe, .ref so, .ref ha, .ref te, .ref bt, .int bL, .int tA, .int tL, .int tK, .int tV, .ref an, .ref vs])), (al, .inl (G.2.1, 159, .inl a)), (rq, .inl (G.2.1, 3, .inl rv))] (fun (r : Int32) w1 => ∃ u_ : Unit, (r = (-2)) ∧ w1 = [(mo, .inr (9, [.ref al, .ref ke, .ref ik, .ref rq, .long mab, .long mbe, .ref so, .ref ha, .ref te, .ref bt, .int bL, .int tA, .int tL, .int tK, .int tV, .ref an, .ref vs])), (al, .inl (G.2.1, 159, .inl a)), (rq, .inl (G.2.1, 3, .inl (upd rv 0 (rv 0 + 1))))]) := by
  refine MI.mk (by decide) (Nat.le_of_ble_eq_true rfl) ?_
  intro p_ e_ s_ m_ ar_ be_ me_ cd_ A_ ls C hrt hW hl
  have hx := C.1; have hb := C.2.1; have hown := C.2.2.2.1; have ht := C.2.2.2.2.1
  replace hl : lv_has ls 5 [(0, .ref mo), (1, .int p9), (2, .int b9), (3, .int t9), (4, .int x9)] := hl
  generalize hQ : MQ be_ _ ar_ s_ 0 0 A_ = Q
  refine lv_aload_n hx hb dX11_mark_0 rfl (lv_at hl 0 rfl) ?_
  refine lv_iload_n hx hb dX11_mark_1 rfl (lv_at hl 1 rfl) ?_
  refine g_fi C hW [0, 1] rfl (g_runV (As := [.int p9]) (rest := []) (wc := [(mo, .inr (9, [.ref al, .ref ke, .ref ik, .ref rq, .long mab, .long mbe, .ref so, .ref ha, .ref te, .ref bt, .int bL, .int tA, .int tL, .int tK, .int tV, .ref an, .ref vs])), (al, .inl (G.2.1, 159, .inl a))]) (q0 := 0) (ci := 9) C hW hl (c_X11_isPlayer l G mo al ke ik rq so ha te bt an vs mab mbe bL tA tL tK tV a n p9 (by first | assumption | omega) (by first | assumption | omega) _) k_ml_X11_118 q_X11_isPlayer (by decide) [0, 1] rfl rfl rfl rfl rfl rfl (Nat.le_of_ble_eq_true rfl) dX11_mark_2 (by decide)) (fun r_2006 er_2006 => ?_)
  clear hW; intro H locs hW
  refine lv_as (y := bI (okp n p9)) er_2006 ?_
  clear er_2006 r_2006
  have J_2014 : ∀ (H : Heap) (locs : List Loc) (ls : Array Slot), Wd G A_ s_.heap [(mo, .inr (9, [.ref al, .ref ke, .ref ik, .ref rq, .long mab, .long mbe, .ref so, .ref ha, .ref te, .ref bt, .int bL, .int tA, .int tL, .int tK, .int tV, .ref an, .ref vs])), (al, .inl (G.2.1, 159, .inl a)), (rq, .inl (G.2.1, 3, .inl rv))] H locs → lv_has ls 5 [(0, .ref mo), (1, .int p9), (2, .int b9), (3, .int t9), (4, .int x9)] → W p_ l e_ ({ frames := 2, cells := 0, slots := 0, locals := 46 }) s_ m_ ar_ be_ me_ cd_ H locs 0 0 Q (F0 m_ 40 ls []) := by
    intro  H locs ls hW hl
    refine lv_aload_n hx hb dX11_mark_40 rfl (lv_at hl 0 rfl) ?_
    refine lv_bipush (v := (-2)) hx hb dX11_mark_41 (by decide) ?_
    refine g_fiw (wr := [(al, .inl (G.2.1, 159, .inl a))]) (ww := fun (u_ : Unit) => [(mo, .inr (9, [.ref al, .ref ke, .ref ik, .ref rq, .long mab, .long mbe, .ref so, .ref ha, .ref te, .ref bt, .int bL, .int tA, .int tL, .int tK, .int tV, .ref an, .ref vs])), (rq, .inl (G.2.1, 3, .inl (upd rv 0 (rv 0 + 1))))]) (w2 := fun (u_ : Unit) => [(mo, .inr (9, [.ref al, .ref ke, .ref ik, .ref rq, .long mab, .long mbe, .ref so, .ref ha, .ref te, .ref bt, .int bL, .int tA, .int tL, .int tK, .int tV, .ref an, .ref vs])), (al, .inl (G.2.1, 159, .inl a)), (rq, .inl (G.2.1, 3, .inl (upd rv 0 (rv 0 + 1))))]) C hW [0, 2] [1] [1, 0, 2] rfl rfl (by decide) (by decide) (by decide) (fun _ => rfl) (g_runV (As := [.int (-2)]) (rest := []) (wc := [(mo, .inr (9, [.ref al, .ref ke, .ref ik, .ref rq, .long mab, .long mbe, .ref so, .ref ha, .ref te, .ref bt, .int bL, .int tA, .int tL, .int tK, .int tV, .ref an, .ref vs])), (rq, .inl (G.2.1, 3, .inl rv))]) (q0 := 0) (ci := 9) C hW hl (c_X11_bad l G mo al ke ik rq so ha te bt an vs mab mbe bL tA tL tK tV rv (-2)  _) k_ml_X11_67 q_X11_bad (by decide) [0, 2] rfl rfl rfl rfl rfl rfl (Nat.le_of_ble_eq_true rfl) dX11_mark_43 (by decide)) (fun r_2015 _ er_2015 => ?_)
    clear hW H locs; intro H locs hW
    refine lv_as (y := (-2)) er_2015 ?_
    clear er_2015 r_2015
    replace hW : Wd G A_ s_.heap [(mo, .inr (9, [.ref al, .ref ke, .ref ik, .ref rq, .long mab, .long mbe, .ref so, .ref ha, .ref te, .ref bt, .int bL, .int tA, .int tL, .int tK, .int tV, .ref an, .ref vs])), (al, .inl (G.2.1, 159, .inl a)), (rq, .inl (G.2.1, 3, .inl (upd rv 0 (rv 0 + 1))))] H locs := hW
    subst hQ
    exact g_iret (v := (-2)) C hW hrt ⟨(), by rfl, by rfl⟩ dX11_mark_46
  refine lv_if_eq (tgt := 40) hx hb dX11_mark_5 (by decide) (fun c_2007 => ?_) (fun c_2007 => ?_)
  · exact J_2014  _ _ _ hW (lv_sub hl [0, 1, 2, 3, 4] rfl)
  · refine lv_iload_n hx hb dX11_mark_8 rfl (lv_at hl 2 rfl) ?_
    refine g_fi C hW [] rfl (g_runS (As := [.int b9]) (rest := []) (wc := []) C hW hl (c_X11_isNine l G b9  _) k_ml_X11_81 q_X11_isNine (by decide) [] rfl rfl rfl rfl (Nat.le_of_ble_eq_true rfl) dX11_mark_9 (by decide)) (fun r_2017 er_2017 => ?_)
    clear hW H locs; intro H locs hW
    refine lv_as (y := bI (iw b9 1 9)) er_2017 ?_
    clear er_2017 r_2017
    refine lv_if_eq (tgt := 40) hx hb dX11_mark_12 (by decide) (fun c_2018 => ?_) (fun c_2018 => ?_)
    · exact J_2014  _ _ _ hW (lv_sub hl [0, 1, 2, 3, 4] rfl)
    · refine lv_iload_n hx hb dX11_mark_15 rfl (lv_at hl 3 rfl) ?_
      refine lv_i2l hx hb dX11_mark_16 rfl ?_
      refine lv_lconst (v := 0) hx hb dX11_mark_17 (by decide) ?_
      refine lv_ldc2 (v := 23) hx hb hown (ht _ k_cg_X11_178) dX11_mark_18 ?_
      refine g_fi C hW [] rfl (g_runS (As := [.long t9.toInt64, .long 0, .long 23]) (rest := []) (wc := []) C hW hl (c_X11_in l G t9 0 23 0 23 (by first | rfl | decide) (by first | rfl | decide) _) k_ml_X11_53 q_X11_in (by decide) [] rfl rfl rfl rfl (Nat.le_of_ble_eq_true rfl) dX11_mark_21 (by decide)) (fun r_2019 er_2019 => ?_)
      clear hW H locs; intro H locs hW
      refine lv_as (y := bI (iw t9 0 23)) er_2019 ?_
      clear er_2019 r_2019
      refine lv_if_eq (tgt := 40) hx hb dX11_mark_24 (by decide) (fun c_2020 => ?_) (fun c_2020 => ?_)
      · exact J_2014  _ _ _ hW (lv_sub hl [0, 1, 2, 3, 4] rfl)
      · refine lv_iload hx hb dX11_mark_27 (lv_at hl 4 rfl) ?_
        refine lv_i2l hx hb dX11_mark_29 rfl ?_
        refine lv_lconst (v := 0) hx hb dX11_mark_30 (by decide) ?_
        refine lv_ldc2 (v := 30) hx hb hown (ht _ k_cg_X11_172) dX11_mark_31 ?_
        refine g_fi C hW [] rfl (g_runS (As := [.long x9.toInt64, .long 0, .long 30]) (rest := []) (wc := []) C hW hl (c_X11_in l G x9 0 30 0 30 (by first | rfl | decide) (by first | rfl | decide) _) k_ml_X11_53 q_X11_in (by decide) [] rfl rfl rfl rfl (Nat.le_of_ble_eq_true rfl) dX11_mark_34 (by decide)) (fun r_2021 er_2021 => ?_)
        clear hW H locs; intro H locs hW
        refine lv_as (y := bI (iw x9 0 30)) er_2021 ?_
        clear er_2021 r_2021
        refine lv_if_ne (tgt := 47) hx hb dX11_mark_37 (by decide) (fun c_2022 => ?_) (fun c_2022 => ?_)
        · exfalso; simp [bI_ne.mp c_2007, bI_ne.mp c_2018, bI_ne.mp c_2020, bI_ne.mp c_2022, if_true, if_false, reduceIte, Bool.false_eq_true] at hbad
        · exact J_2014  _ _ _ hW (lv_sub hl [0, 1, 2, 3, 4] rfl)
set_option maxHeartbeats 4000000 in
set_option maxRecDepth 100000 in
theorem c_X11_forget_ok (l : Launch) (G : gT) (mo al ke ik rq so ha te bt an vs : Nat) (mab mbe : Int64) (bL tA tL tK tV : Int32) (a : Nat → Int32) (j : Nat) (hj : j < 3) : MI l G yX11_forget cX11_forget 3 .int ({ frames := 1, cells := 0, slots := 0, locals := 25 }) [.ref mo, .int (nI j)] [(mo, .inr (9, [.ref al, .ref ke, .ref ik, .ref rq, .long mab, .long mbe, .ref so, .ref ha, .ref te, .ref bt, .int bL, .int tA, .int tL, .int tK, .int tV, .ref an, .ref vs])), (al, .inl (G.2.1, 159, .inl a))] (fun (r : Int32) w1 => ∃ u_ : Unit, (r = a (1 + j)) ∧ w1 = [(mo, .inr (9, [.ref al, .ref ke, .ref ik, .ref rq, .long mab, .long mbe, .ref so, .ref ha, .ref te, .ref bt, .int bL, .int tA, .int tL, .int tK, .int tV, .ref an, .ref vs])), (al, .inl (G.2.1, 159, .inl (upd a (1 + j) 0)))]) := by
  refine MI.mk (by decide) (Nat.le_of_ble_eq_true rfl) ?_
  intro p_ e_ s_ m_ ar_ be_ me_ cd_ A_ ls C hrt hW hl
  have hx := C.1; have hb := C.2.1; have hown := C.2.2.2.1; have ht := C.2.2.2.2.1
  replace hl : lv_has ls 3 [(0, .ref mo), (1, .int (nI j))] := hl
  generalize hQ : MQ be_ _ ar_ s_ 0 0 A_ = Q
  refine lv_iload_n hx hb dX11_forget_0 rfl (lv_at hl 1 rfl) ?_
  refine lv_i2l hx hb dX11_forget_1 rfl ?_
  refine lv_lconst (v := 0) hx hb dX11_forget_2 (by decide) ?_
  refine lv_ldc2 (v := 2) hx hb hown (ht _ k_cg_X11_167) dX11_forget_3 ?_
  refine g_fi C hW [] rfl (g_runS (As := [.long ((nI j).toInt64), .long 0, .long 2]) (rest := []) (wc := []) C hW hl (c_X11_in l G (nI j) 0 2 0 2 (by first | rfl | decide) (by first | rfl | decide) _) k_ml_X11_53 q_X11_in (by decide) [] rfl rfl rfl rfl (Nat.le_of_ble_eq_true rfl) dX11_forget_6 (by decide)) (fun r_2023 er_2023 => ?_)
  clear hW; intro H locs hW
  refine lv_as (y := bI (iw (nI j) 0 2)) er_2023 ?_
  clear er_2023 r_2023
  refine lv_if_ne (tgt := 19) hx hb dX11_forget_9 (by decide) (fun c_2024 => ?_) (fun c_2024 => ?_)
  · refine lv_aload_n hx hb dX11_forget_19 rfl (lv_at hl 0 rfl) ?_
    refine g_get (k := 0) (v := .ref al) C hW 0 rfl rfl jnX11 (by decide) k_fl_X11_7 rfl dX11_forget_20 ?_
    refine lv_iconst (v := 1) hx hb dX11_forget_23 (by decide) ?_
    refine lv_iload_n hx hb dX11_forget_24 rfl (lv_at hl 1 rfl) ?_
    refine lv_iadd hx hb dX11_forget_25 ?_
    refine g_ald C hW 1 rfl (ix_in (show (1 + (nI j)) = nI (1 + j) from (by first | rfl | (simp only [nI_lit, nI_add, pk_mul]; done) | (simp only [nI_lit, nI_add, pk_mul]; congr 1; omega))) (by omega) (by omega)) dX11_forget_26 ?_
    refine lv_as (y := a (1 + j)) (by rw [show (1 + (nI j)).toNatClampNeg = (1 + j) from ix_cl (show (1 + (nI j)) = nI (1 + j) from (by first | rfl | (simp only [nI_lit, nI_add, pk_mul]; done) | (simp only [nI_lit, nI_add, pk_mul]; congr 1; omega))) (Nat.lt_of_lt_of_le (m := 159) (by omega) (by omega))]) ?_
    refine lv_istore_n (lv' := [(2, .int (a (1 + j))), (0, .ref mo), (1, .int (nI j))]) hx hb dX11_forget_27 rfl hl (by decide) rfl ?_
    clear hl ls; intro ls hl
    refine lv_aload_n hx hb dX11_forget_28 rfl (lv_at hl 1 rfl) ?_
    refine g_get (k := 0) (v := .ref al) C hW 0 rfl rfl jnX11 (by decide) k_fl_X11_7 rfl dX11_forget_29 ?_
    refine lv_iconst (v := 1) hx hb dX11_forget_32 (by decide) ?_
    refine lv_iload_n hx hb dX11_forget_33 rfl (lv_at hl 2 rfl) ?_
    refine lv_iadd hx hb dX11_forget_34 ?_
    refine lv_iconst (v := 0) hx hb dX11_forget_35 (by decide) ?_
    refine g_ast (w' := [(mo, .inr (9, [.ref al, .ref ke, .ref ik, .ref rq, .long mab, .long mbe, .ref so, .ref ha, .ref te, .ref bt, .int bL, .int tA, .int tL, .int tK, .int tV, .ref an, .ref vs])), (al, .inl (G.2.1, 159, .inl (upd a (1 + j) 0)))]) C hW 1 rfl (ix_in (show (1 + (nI j)) = nI (1 + j) from (by first | rfl | (simp only [nI_lit, nI_add, pk_mul]; done) | (simp only [nI_lit, nI_add, pk_mul]; congr 1; omega))) (by omega) (by omega)) (by rw [show (1 + (nI j)).toNatClampNeg = (1 + j) from ix_cl (show (1 + (nI j)) = nI (1 + j) from (by first | rfl | (simp only [nI_lit, nI_add, pk_mul]; done) | (simp only [nI_lit, nI_add, pk_mul]; congr 1; omega))) (Nat.lt_of_lt_of_le (m := 159) (by omega) (by omega))]; rfl) dX11_forget_36 ?_
    clear hW H locs; intro H locs hW
    refine lv_iload_n hx hb dX11_forget_37 rfl (lv_at hl 0 rfl) ?_
    subst hQ
    exact g_iret (v := (a (1 + j))) C hW hrt ⟨(), by rfl, by rfl⟩ dX11_forget_38
  · exfalso; exact dd (iw_nI (m := 2) (by omega) (by omega)) c_2024
set_option maxHeartbeats 4000000 in
set_option maxRecDepth 100000 in
theorem c_X11_forget_bad (l : Launch) (G : gT) (mo al ke ik rq so ha te bt an vs : Nat) (mab mbe : Int64) (bL tA tL tK tV : Int32) (rv : Nat → Int32) (x9 : Int32) (hbad : iw x9 0 2 = false) : MI l G yX11_forget cX11_forget 3 .int ({ frames := 1, cells := 0, slots := 0, locals := 25 }) [.ref mo, .int x9] [(mo, .inr (9, [.ref al, .ref ke, .ref ik, .ref rq, .long mab, .long mbe, .ref so, .ref ha, .ref te, .ref bt, .int bL, .int tA, .int tL, .int tK, .int tV, .ref an, .ref vs])), (rq, .inl (G.2.1, 3, .inl rv))] (fun (r : Int32) w1 => ∃ u_ : Unit, (r = (-2)) ∧ w1 = [(mo, .inr (9, [.ref al, .ref ke, .ref ik, .ref rq, .long mab, .long mbe, .ref so, .ref ha, .ref te, .ref bt, .int bL, .int tA, .int tL, .int tK, .int tV, .ref an, .ref vs])), (rq, .inl (G.2.1, 3, .inl (upd rv 0 (rv 0 + 1))))]) := by
  refine MI.mk (by decide) (Nat.le_of_ble_eq_true rfl) ?_
  intro p_ e_ s_ m_ ar_ be_ me_ cd_ A_ ls C hrt hW hl
  have hx := C.1; have hb := C.2.1; have hown := C.2.2.2.1; have ht := C.2.2.2.2.1
  replace hl : lv_has ls 3 [(0, .ref mo), (1, .int x9)] := hl
  generalize hQ : MQ be_ _ ar_ s_ 0 0 A_ = Q
  refine lv_iload_n hx hb dX11_forget_0 rfl (lv_at hl 1 rfl) ?_
  refine lv_i2l hx hb dX11_forget_1 rfl ?_
  refine lv_lconst (v := 0) hx hb dX11_forget_2 (by decide) ?_
  refine lv_ldc2 (v := 2) hx hb hown (ht _ k_cg_X11_167) dX11_forget_3 ?_
  refine g_fi C hW [] rfl (g_runS (As := [.long x9.toInt64, .long 0, .long 2]) (rest := []) (wc := []) C hW hl (c_X11_in l G x9 0 2 0 2 (by first | rfl | decide) (by first | rfl | decide) _) k_ml_X11_53 q_X11_in (by decide) [] rfl rfl rfl rfl (Nat.le_of_ble_eq_true rfl) dX11_forget_6 (by decide)) (fun r_2025 er_2025 => ?_)
  clear hW; intro H locs hW
  refine lv_as (y := bI (iw x9 0 2)) er_2025 ?_
  clear er_2025 r_2025
  refine lv_if_ne (tgt := 19) hx hb dX11_forget_9 (by decide) (fun c_2026 => ?_) (fun c_2026 => ?_)
  · exfalso; simp [bI_ne.mp c_2026, if_true, if_false, reduceIte, Bool.false_eq_true] at hbad
  · refine lv_aload_n hx hb dX11_forget_12 rfl (lv_at hl 0 rfl) ?_
    refine lv_bipush (v := (-2)) hx hb dX11_forget_13 (by decide) ?_
    refine g_fiw (wr := []) (ww := fun (u_ : Unit) => [(mo, .inr (9, [.ref al, .ref ke, .ref ik, .ref rq, .long mab, .long mbe, .ref so, .ref ha, .ref te, .ref bt, .int bL, .int tA, .int tL, .int tK, .int tV, .ref an, .ref vs])), (rq, .inl (G.2.1, 3, .inl (upd rv 0 (rv 0 + 1))))]) (w2 := fun (u_ : Unit) => [(mo, .inr (9, [.ref al, .ref ke, .ref ik, .ref rq, .long mab, .long mbe, .ref so, .ref ha, .ref te, .ref bt, .int bL, .int tA, .int tL, .int tK, .int tV, .ref an, .ref vs])), (rq, .inl (G.2.1, 3, .inl (upd rv 0 (rv 0 + 1))))]) C hW [0, 1] [] [0, 1] rfl rfl (by decide) (by decide) (by decide) (fun _ => rfl) (g_runV (As := [.int (-2)]) (rest := []) (wc := [(mo, .inr (9, [.ref al, .ref ke, .ref ik, .ref rq, .long mab, .long mbe, .ref so, .ref ha, .ref te, .ref bt, .int bL, .int tA, .int tL, .int tK, .int tV, .ref an, .ref vs])), (rq, .inl (G.2.1, 3, .inl rv))]) (q0 := 0) (ci := 9) C hW hl (c_X11_bad l G mo al ke ik rq so ha te bt an vs mab mbe bL tA tL tK tV rv (-2)  _) k_ml_X11_67 q_X11_bad (by decide) [0, 1] rfl rfl rfl rfl rfl rfl (Nat.le_of_ble_eq_true rfl) dX11_forget_15 (by decide)) (fun r_2027 _ er_2027 => ?_)
    clear hW H locs; intro H locs hW
    refine lv_as (y := (-2)) er_2027 ?_
    clear er_2027 r_2027
    replace hW : Wd G A_ s_.heap [(mo, .inr (9, [.ref al, .ref ke, .ref ik, .ref rq, .long mab, .long mbe, .ref so, .ref ha, .ref te, .ref bt, .int bL, .int tA, .int tL, .int tK, .int tV, .ref an, .ref vs])), (rq, .inl (G.2.1, 3, .inl (upd rv 0 (rv 0 + 1))))] H locs := hW
    subst hQ
    exact g_iret (v := (-2)) C hW hrt ⟨(), by rfl, by rfl⟩ dX11_forget_18
set_option maxHeartbeats 4000000 in
set_option maxRecDepth 100000 in
theorem c_X11_kindsOfCock (l : Launch) (G : gT) (mo al ke ik rq so ha te bt an vs : Nat) (mab mbe : Int64) (bL tA tL tK tV : Int32) (a : Nat → Int32) (nn : Nat) (e2 : a 2 = nI nn) (ho : nn ≤ 6) : MI l G yX11_kindsOfCock cX11_kindsOfCock 6 .int ({ frames := 1, cells := 0, slots := 0, locals := 25 }) [.ref mo] [(mo, .inr (9, [.ref al, .ref ke, .ref ik, .ref rq, .long mab, .long mbe, .ref so, .ref ha, .ref te, .ref bt, .int bL, .int tA, .int tL, .int tK, .int tV, .ref an, .ref vs])), (al, .inl (G.2.1, 159, .inl a))] (fun (r : Int32) w1 => (r = kcA a nn) ∧ w1 = [(mo, .inr (9, [.ref al, .ref ke, .ref ik, .ref rq, .long mab, .long mbe, .ref so, .ref ha, .ref te, .ref bt, .int bL, .int tA, .int tL, .int tK, .int tV, .ref an, .ref vs])), (al, .inl (G.2.1, 159, .inl a))]) := by
  refine MI.mk (by decide) (Nat.le_of_ble_eq_true rfl) ?_
  intro p_ e_ s_ m_ ar_ be_ me_ cd_ A_ ls C hrt hW hl
  have hx := C.1; have hb := C.2.1; have hown := C.2.2.2.1; have ht := C.2.2.2.2.1
  replace hl : lv_has ls 6 [(0, .ref mo)] := hl
  generalize hQ : MQ be_ _ ar_ s_ 0 0 A_ = Q
  refine lv_iconst (v := 0) hx hb dX11_kindsOfCock_0 (by decide) ?_
  refine lv_istore_n (lv' := [(1, .int 0), (0, .ref mo)]) hx hb dX11_kindsOfCock_1 rfl hl (by decide) rfl ?_
  clear hl ls; intro ls hl
  refine lv_iconst (v := 0) hx hb dX11_kindsOfCock_2 (by decide) ?_
  refine lv_istore_n (lv' := [(2, .int 0), (1, .int 0), (0, .ref mo)]) hx hb dX11_kindsOfCock_3 rfl hl (by decide) rfl ?_
  clear hl ls; intro ls hl
  have K_2029 : ∀ (n_ : Nat) (i : Nat) (x_2030 : Int32) (x_2031 : Int32) (_ : x_2030 = nI i) (_ : x_2031 = orF (fun i => ncA a (nI i) nn) i) (_ : i ≤ 6) (_ : 6 - i < n_) (H : Heap) (locs : List Loc) (ls : Array Slot), Wd G A_ s_.heap [(mo, .inr (9, [.ref al, .ref ke, .ref ik, .ref rq, .long mab, .long mbe, .ref so, .ref ha, .ref te, .ref bt, .int bL, .int tA, .int tL, .int tK, .int tV, .ref an, .ref vs])), (al, .inl (G.2.1, 159, .inl a))] H locs → lv_has ls 6 [(2, .int x_2030), (1, .int x_2031), (0, .ref mo)] → W p_ l e_ ({ frames := 1, cells := 0, slots := 0, locals := 25 }) s_ m_ ar_ be_ me_ cd_ H locs 0 0 Q (F0 m_ 4 ls []) := by
    intro n_
    induction n_ with
    | zero => intro i x_2030 x_2031 ex_2030 ex_2031 hi9 hm_; exact absurd hm_ (Nat.not_lt_zero _)
    | succ n_ ihK_2029 =>
      intro i x_2030 x_2031 ex_2030 ex_2031 hi9 hm_ H locs ls hW hl
      subst ex_2030
      subst ex_2031
      refine lv_iload_n hx hb dX11_kindsOfCock_4 rfl (lv_at hl 0 rfl) ?_
      refine lv_bipush (v := 6) hx hb dX11_kindsOfCock_5 (by decide) ?_
      refine lv_icmp_ge (tgt := 112) hx hb dX11_kindsOfCock_7 (by decide) (fun c_2032 => ?_) (fun c_2032 => ?_)
      · replace c_2032 := Int32.not_lt.mpr c_2032
        have c_2032n : ¬ i < 6 := fun q => c_2032 ((nI_ltI (a := i) (b := 6) (by omega) (by omega)).mpr q)
        refine lv_iload_n hx hb dX11_kindsOfCock_112 rfl (lv_at hl 1 rfl) ?_
        subst hQ
        exact g_iret (v := (orF (fun i => ncA a (nI i) nn) i)) C hW hrt ⟨by (rw [show i = 6 by omega]; rfl), rfl⟩ dX11_kindsOfCock_113
      · replace c_2032 := Int32.not_le.mp c_2032
        have c_2032n : i < 6 := (nI_ltI (a := i) (b := 6) (by omega) (by omega)).mp c_2032
        refine lv_iconst (v := 1) hx hb dX11_kindsOfCock_10 (by decide) ?_
        refine lv_istore_n (lv' := [(3, .int 1), (2, .int (nI i)), (1, .int (orF (fun i => ncA a (nI i) nn) i)), (0, .ref mo)]) hx hb dX11_kindsOfCock_11 rfl hl (by decide) rfl ?_
        clear hl ls; intro ls hl
        refine lv_iconst (v := 0) hx hb dX11_kindsOfCock_12 (by decide) ?_
        refine lv_istore (lv' := [(4, .int 0), (3, .int 1), (2, .int (nI i)), (1, .int (orF (fun i => ncA a (nI i) nn) i)), (0, .ref mo)]) hx hb dX11_kindsOfCock_13 hl (by decide) rfl ?_
        clear hl ls; intro ls hl
        have K_2033 : ∀ (n_ : Nat) (j : Nat) (x_2034 : Int32) (x_2035 : Int32) (_ : x_2034 = nI j) (_ : x_2035 = bI (ncA a (nI i) j)) (_ : j ≤ nn) (_ : nn - j < n_) (H : Heap) (locs : List Loc) (ls : Array Slot), Wd G A_ s_.heap [(mo, .inr (9, [.ref al, .ref ke, .ref ik, .ref rq, .long mab, .long mbe, .ref so, .ref ha, .ref te, .ref bt, .int bL, .int tA, .int tL, .int tK, .int tV, .ref an, .ref vs])), (al, .inl (G.2.1, 159, .inl a))] H locs → lv_has ls 6 [(4, .int x_2034), (3, .int x_2035), (2, .int (nI i)), (1, .int (orF (fun i => ncA a (nI i) nn) i)), (0, .ref mo)] → W p_ l e_ ({ frames := 1, cells := 0, slots := 0, locals := 25 }) s_ m_ ar_ be_ me_ cd_ H locs 0 0 Q (F0 m_ 15 ls []) := by
          intro n_
          induction n_ with
          | zero => intro j x_2034 x_2035 ex_2034 ex_2035 hj hm_; exact absurd hm_ (Nat.not_lt_zero _)
          | succ n_ ihK_2033 =>
            intro j x_2034 x_2035 ex_2034 ex_2035 hj hm_ H locs ls hW hl
            subst ex_2034
            subst ex_2035
            refine lv_iload hx hb dX11_kindsOfCock_15 (lv_at hl 0 rfl) ?_
            refine lv_aload_n hx hb dX11_kindsOfCock_17 rfl (lv_at hl 4 rfl) ?_
            refine g_get (k := 0) (v := .ref al) C hW 0 rfl rfl jnX11 (by decide) k_fl_X11_7 rfl dX11_kindsOfCock_18 ?_
            refine lv_iconst (v := 2) hx hb dX11_kindsOfCock_21 (by decide) ?_
            refine g_ald C hW 1 rfl (vp_in_nI (n := 2) (by omega) (by omega)) dX11_kindsOfCock_22 ?_
            refine lv_as (y := a 2) (rfl) ?_
            refine lv_as (y := nI nn) (e2) ?_
            refine lv_icmp_ge (tgt := 92) hx hb dX11_kindsOfCock_23 (by decide) (fun c_2036 => ?_) (fun c_2036 => ?_)
            · replace c_2036 := Int32.not_lt.mpr c_2036
              have c_2036n : ¬ j < nn := fun q => c_2036 ((nI_ltI (a := j) (b := nn) (by omega) (by omega)).mpr q)
              have ej : j = nn := by omega
              refine lv_iload_n hx hb dX11_kindsOfCock_92 rfl (lv_at hl 3 rfl) ?_
              refine lv_iload_n hx hb dX11_kindsOfCock_93 rfl (lv_at hl 1 rfl) ?_
              refine lv_as (y := bI (ncA a (nI i) nn)) (by rw [ej]) ?_
              have J_2039 : ∀ (y_2038 : Int32) (_ : y_2038 = (if (bI (ncA a (nI i) nn)) = 0 then 0 else (1 : Int32) <<< ((nI i) &&& 31))), ∀ (H : Heap) (locs : List Loc) (ls : Array Slot), Wd G A_ s_.heap [(mo, .inr (9, [.ref al, .ref ke, .ref ik, .ref rq, .long mab, .long mbe, .ref so, .ref ha, .ref te, .ref bt, .int bL, .int tA, .int tL, .int tK, .int tV, .ref an, .ref vs])), (al, .inl (G.2.1, 159, .inl a))] H locs → lv_has ls 6 [(4, .int (nI j)), (3, .int (bI (ncA a (nI i) j))), (2, .int (nI i)), (1, .int (orF (fun i => ncA a (nI i) nn) i)), (0, .ref mo)] → W p_ l e_ ({ frames := 1, cells := 0, slots := 0, locals := 25 }) s_ m_ ar_ be_ me_ cd_ H locs 0 0 Q (F0 m_ 104 ls [.int y_2038, .int (orF (fun i => ncA a (nI i) nn) i)]) := by
                intro y_2038 ey_2038 H locs ls hW hl
                refine lv_ior hx hb dX11_kindsOfCock_104 ?_
                refine lv_istore_n (lv' := [(1, .int ((orF (fun i => ncA a (nI i) nn) i) ||| y_2038)), (4, .int (nI j)), (3, .int (bI (ncA a (nI i) j))), (2, .int (nI i)), (0, .ref mo)]) hx hb dX11_kindsOfCock_105 rfl hl (by decide) rfl ?_
                clear hl ls; intro ls hl
                refine lv_iinc (v := (nI i) + 1) (lv' := [(2, .int ((nI i) + 1)), (1, .int ((orF (fun i => ncA a (nI i) nn) i) ||| y_2038)), (4, .int (nI j)), (3, .int (bI (ncA a (nI i) j))), (0, .ref mo)]) hx hb dX11_kindsOfCock_106 hl (k := 3) rfl rfl (by decide) rfl ?_
                clear hl ls; intro ls hl
                refine lv_goto (tgt := 4) hx hb dX11_kindsOfCock_109 (by decide) ?_
                exact ihK_2029 (i + 1) ((nI i) + 1) ((orF (fun i => ncA a (nI i) nn) i) ||| y_2038) (by exact nI_1 _) (by (simp only [ey_2038]; exact or_s rfl rfl)) (by first | omega | assumption | (simp; done)) (by omega) _ _ _ hW (lv_sub hl [0, 1, 4] rfl)
              refine lv_if_eq (tgt := 103) hx hb dX11_kindsOfCock_94 (by decide) (fun c_2037 => ?_) (fun c_2037 => ?_)
              · refine lv_iconst (v := 0) hx hb dX11_kindsOfCock_103 (by decide) ?_
                exact J_2039 0 (by first | (simp only [c_2037, if_true, if_false, reduceIte]; done) | (simp [c_2037]; done) | rfl | (rw [if_pos c_2037]; done)) _ _ _ hW (lv_sub hl [0, 1, 2, 3, 4] rfl)
              · refine lv_iconst (v := 1) hx hb dX11_kindsOfCock_97 (by decide) ?_
                refine lv_iload_n hx hb dX11_kindsOfCock_98 rfl (lv_at hl 2 rfl) ?_
                refine lv_ishl hx hb dX11_kindsOfCock_99 ?_
                refine lv_goto (tgt := 104) hx hb dX11_kindsOfCock_100 (by decide) ?_
                exact J_2039 ((1 : Int32) <<< ((nI i) &&& 31)) (by first | (simp only [c_2037, if_true, if_false, reduceIte]; done) | (simp [c_2037]; done) | rfl | (rw [if_neg c_2037]; done)) _ _ _ hW (lv_sub hl [0, 1, 2, 3, 4] rfl)
            · replace c_2036 := Int32.not_le.mp c_2036
              have c_2036n : j < nn := (nI_ltI (a := j) (b := nn) (by omega) (by omega)).mp c_2036
              refine lv_bipush (v := 55) hx hb dX11_kindsOfCock_26 (by decide) ?_
              refine lv_iconst (v := 4) hx hb dX11_kindsOfCock_28 (by decide) ?_
              refine lv_iload hx hb dX11_kindsOfCock_29 (lv_at hl 0 rfl) ?_
              refine lv_imul hx hb dX11_kindsOfCock_31 ?_
              refine lv_iadd hx hb dX11_kindsOfCock_32 ?_
              refine lv_as (y := nI (55 + 4 * j)) (by simp only [nI_lit, nI_add, pk_mul]) ?_
              refine lv_istore (lv' := [(5, .int (nI (55 + 4 * j))), (4, .int (nI j)), (3, .int (bI (ncA a (nI i) j))), (2, .int (nI i)), (1, .int (orF (fun i => ncA a (nI i) nn) i)), (0, .ref mo)]) hx hb dX11_kindsOfCock_33 hl (by decide) rfl ?_
              clear hl ls; intro ls hl
              refine lv_iload_n hx hb dX11_kindsOfCock_35 rfl (lv_at hl 2 rfl) ?_
              have J_2044 : ∀ (y_2043 : Int32) (_ : y_2043 = (if (bI (ncA a (nI i) j)) = 0 then 0 else (if (fl (nI i) (a (55 + 4 * j)) (a (55 + 4 * j + 1)) (a (55 + 4 * j + 2))) = (a (55 + 4 * j + 3)) then 1 else 0))), ∀ (H : Heap) (locs : List Loc) (ls : Array Slot), Wd G A_ s_.heap [(mo, .inr (9, [.ref al, .ref ke, .ref ik, .ref rq, .long mab, .long mbe, .ref so, .ref ha, .ref te, .ref bt, .int bL, .int tA, .int tL, .int tK, .int tV, .ref an, .ref vs])), (al, .inl (G.2.1, 159, .inl a))] H locs → lv_has ls 6 [(5, .int (nI (55 + 4 * j))), (4, .int (nI j)), (3, .int (bI (ncA a (nI i) j))), (2, .int (nI i)), (1, .int (orF (fun i => ncA a (nI i) nn) i)), (0, .ref mo)] → W p_ l e_ ({ frames := 1, cells := 0, slots := 0, locals := 25 }) s_ m_ ar_ be_ me_ cd_ H locs 0 0 Q (F0 m_ 85 ls [.int y_2043]) := by
                intro y_2043 ey_2043 H locs ls hW hl
                refine lv_istore_n (lv' := [(3, .int y_2043), (5, .int (nI (55 + 4 * j))), (4, .int (nI j)), (2, .int (nI i)), (1, .int (orF (fun i => ncA a (nI i) nn) i)), (0, .ref mo)]) hx hb dX11_kindsOfCock_85 rfl hl (by decide) rfl ?_
                clear hl ls; intro ls hl
                refine lv_iinc (v := (nI j) + 1) (lv' := [(4, .int ((nI j) + 1)), (3, .int y_2043), (5, .int (nI (55 + 4 * j))), (2, .int (nI i)), (1, .int (orF (fun i => ncA a (nI i) nn) i)), (0, .ref mo)]) hx hb dX11_kindsOfCock_86 hl (k := 2) rfl rfl (by decide) rfl ?_
                clear hl ls; intro ls hl
                refine lv_goto (tgt := 15) hx hb dX11_kindsOfCock_89 (by decide) ?_
                exact ihK_2033 (j + 1) ((nI j) + 1) y_2043 (by exact nI_1 _) (by (simp only [ey_2043]; exact al_s)) (by first | omega | assumption | (simp; done)) (by omega) _ _ _ hW (lv_sub hl [0, 1, 3, 4, 5] rfl)
              refine lv_if_eq (tgt := 84) hx hb dX11_kindsOfCock_36 (by decide) (fun c_2040 => ?_) (fun c_2040 => ?_)
              · refine lv_iconst (v := 0) hx hb dX11_kindsOfCock_84 (by decide) ?_
                exact J_2044 0 (by first | (simp only [c_2040, if_true, if_false, reduceIte]; done) | (simp [c_2040]; done) | rfl | (rw [if_pos c_2040]; done)) _ _ _ hW (lv_sub hl [0, 1, 2, 3, 4, 5] rfl)
              · refine lv_iload_n hx hb dX11_kindsOfCock_39 rfl (lv_at hl 3 rfl) ?_
                refine lv_aload_n hx hb dX11_kindsOfCock_40 rfl (lv_at hl 5 rfl) ?_
                refine g_get (k := 0) (v := .ref al) C hW 0 rfl rfl jnX11 (by decide) k_fl_X11_7 rfl dX11_kindsOfCock_41 ?_
                refine lv_iload hx hb dX11_kindsOfCock_44 (lv_at hl 0 rfl) ?_
                refine g_ald C hW 1 rfl (ix_in (show (nI (55 + 4 * j)) = nI (55 + 4 * j) from (by first | rfl | (simp only [nI_lit, nI_add, pk_mul]; done) | (simp only [nI_lit, nI_add, pk_mul]; congr 1; omega))) (by omega) (by omega)) dX11_kindsOfCock_46 ?_
                refine lv_as (y := a (55 + 4 * j)) (by rw [show (nI (55 + 4 * j)).toNatClampNeg = (55 + 4 * j) from ix_cl (show (nI (55 + 4 * j)) = nI (55 + 4 * j) from (by first | rfl | (simp only [nI_lit, nI_add, pk_mul]; done) | (simp only [nI_lit, nI_add, pk_mul]; congr 1; omega))) (Nat.lt_of_lt_of_le (m := 159) (by omega) (by omega))]) ?_
                refine lv_aload_n hx hb dX11_kindsOfCock_47 rfl (lv_at hl 5 rfl) ?_
                refine g_get (k := 0) (v := .ref al) C hW 0 rfl rfl jnX11 (by decide) k_fl_X11_7 rfl dX11_kindsOfCock_48 ?_
                refine lv_iload hx hb dX11_kindsOfCock_51 (lv_at hl 0 rfl) ?_
                refine lv_iconst (v := 1) hx hb dX11_kindsOfCock_53 (by decide) ?_
                refine lv_iadd hx hb dX11_kindsOfCock_54 ?_
                refine g_ald C hW 1 rfl (ix_in (show ((nI (55 + 4 * j)) + 1) = nI (55 + 4 * j + 1) from (by first | rfl | (simp only [nI_lit, nI_add, pk_mul]; done) | (simp only [nI_lit, nI_add, pk_mul]; congr 1; omega))) (by omega) (by omega)) dX11_kindsOfCock_55 ?_
                refine lv_as (y := a (55 + 4 * j + 1)) (by rw [show ((nI (55 + 4 * j)) + 1).toNatClampNeg = (55 + 4 * j + 1) from ix_cl (show ((nI (55 + 4 * j)) + 1) = nI (55 + 4 * j + 1) from (by first | rfl | (simp only [nI_lit, nI_add, pk_mul]; done) | (simp only [nI_lit, nI_add, pk_mul]; congr 1; omega))) (Nat.lt_of_lt_of_le (m := 159) (by omega) (by omega))]) ?_
                refine lv_aload_n hx hb dX11_kindsOfCock_56 rfl (lv_at hl 5 rfl) ?_
                refine g_get (k := 0) (v := .ref al) C hW 0 rfl rfl jnX11 (by decide) k_fl_X11_7 rfl dX11_kindsOfCock_57 ?_
                refine lv_iload hx hb dX11_kindsOfCock_60 (lv_at hl 0 rfl) ?_
                refine lv_iconst (v := 2) hx hb dX11_kindsOfCock_62 (by decide) ?_
                refine lv_iadd hx hb dX11_kindsOfCock_63 ?_
                refine g_ald C hW 1 rfl (ix_in (show ((nI (55 + 4 * j)) + 2) = nI (55 + 4 * j + 2) from (by first | rfl | (simp only [nI_lit, nI_add, pk_mul]; done) | (simp only [nI_lit, nI_add, pk_mul]; congr 1; omega))) (by omega) (by omega)) dX11_kindsOfCock_64 ?_
                refine lv_as (y := a (55 + 4 * j + 2)) (by rw [show ((nI (55 + 4 * j)) + 2).toNatClampNeg = (55 + 4 * j + 2) from ix_cl (show ((nI (55 + 4 * j)) + 2) = nI (55 + 4 * j + 2) from (by first | rfl | (simp only [nI_lit, nI_add, pk_mul]; done) | (simp only [nI_lit, nI_add, pk_mul]; congr 1; omega))) (Nat.lt_of_lt_of_le (m := 159) (by omega) (by omega))]) ?_
                refine g_fi C hW [] rfl (g_runS (As := [.int (nI i), .int (a (55 + 4 * j)), .int (a (55 + 4 * j + 1)), .int (a (55 + 4 * j + 2))]) (rest := []) (wc := []) C hW hl (c_X11_fliesAs l G (nI i) (a (55 + 4 * j)) (a (55 + 4 * j + 1)) (a (55 + 4 * j + 2))  _) k_ml_X11_99 q_X11_fliesAs (by decide) [] rfl rfl rfl rfl (Nat.le_of_ble_eq_true rfl) dX11_kindsOfCock_65 (by decide)) (fun r_2045 er_2045 => ?_)
                clear hW H locs; intro H locs hW
                refine lv_as (y := fl (nI i) (a (55 + 4 * j)) (a (55 + 4 * j + 1)) (a (55 + 4 * j + 2))) er_2045 ?_
                clear er_2045 r_2045
                refine lv_aload_n hx hb dX11_kindsOfCock_68 rfl (lv_at hl 5 rfl) ?_
                refine g_get (k := 0) (v := .ref al) C hW 0 rfl rfl jnX11 (by decide) k_fl_X11_7 rfl dX11_kindsOfCock_69 ?_
                refine lv_iload hx hb dX11_kindsOfCock_72 (lv_at hl 0 rfl) ?_
                refine lv_iconst (v := 3) hx hb dX11_kindsOfCock_74 (by decide) ?_
                refine lv_iadd hx hb dX11_kindsOfCock_75 ?_
                refine g_ald C hW 1 rfl (ix_in (show ((nI (55 + 4 * j)) + 3) = nI (55 + 4 * j + 3) from (by first | rfl | (simp only [nI_lit, nI_add, pk_mul]; done) | (simp only [nI_lit, nI_add, pk_mul]; congr 1; omega))) (by omega) (by omega)) dX11_kindsOfCock_76 ?_
                refine lv_as (y := a (55 + 4 * j + 3)) (by rw [show ((nI (55 + 4 * j)) + 3).toNatClampNeg = (55 + 4 * j + 3) from ix_cl (show ((nI (55 + 4 * j)) + 3) = nI (55 + 4 * j + 3) from (by first | rfl | (simp only [nI_lit, nI_add, pk_mul]; done) | (simp only [nI_lit, nI_add, pk_mul]; congr 1; omega))) (Nat.lt_of_lt_of_le (m := 159) (by omega) (by omega))]) ?_
                refine lv_icmp_ne (tgt := 84) hx hb dX11_kindsOfCock_77 (by decide) (fun c_2046 => ?_) (fun c_2046 => ?_)
                · refine lv_iconst (v := 0) hx hb dX11_kindsOfCock_84 (by decide) ?_
                  exact J_2044 0 (by first | (simp only [c_2040, c_2046, if_true, if_false, reduceIte]; done) | (simp [c_2040, c_2046]; done) | rfl | (rw [if_neg c_2040, if_neg c_2046]; done)) _ _ _ hW (lv_sub hl [0, 1, 2, 3, 4, 5] rfl)
                · refine lv_iconst (v := 1) hx hb dX11_kindsOfCock_80 (by decide) ?_
                  refine lv_goto (tgt := 85) hx hb dX11_kindsOfCock_81 (by decide) ?_
                  exact J_2044 1 (by first | (simp only [c_2040, c_2046, if_true, if_false, reduceIte]; done) | (simp [c_2040, c_2046]; done) | rfl | (rw [if_neg c_2040, if_pos c_2046]; done)) _ _ _ hW (lv_sub hl [0, 1, 2, 3, 4, 5] rfl)
        exact K_2033 _ 0 0 1 (by first | exact rfl | (simp; done)) (by exact rfl) (by first | omega | assumption | (simp; done)) (Nat.lt_succ_self _) _ _ _ hW (lv_sub hl [0, 1, 2, 3, 4] rfl)
  exact K_2029 _ 0 0 0 (by first | exact rfl | (simp; done)) (by exact rfl) (by first | omega | assumption | (simp; done)) (Nat.lt_succ_self _) _ _ _ hW (lv_sub hl [0, 1, 2] rfl)
set_option maxHeartbeats 4000000 in
set_option maxRecDepth 100000 in
theorem c_X11_kindsOfPlayer (l : Launch) (G : gT) (mo al ke ik rq so ha te bt an vs : Nat) (mab mbe : Int64) (bL tA tL tK tV : Int32) (a : Nat → Int32) (mn : Nat) (p9 : Int32) (e3 : a 3 = nI mn) (hm : mn ≤ 6) : MI l G yX11_kindsOfPlayer cX11_kindsOfPlayer 7 .int ({ frames := 1, cells := 0, slots := 0, locals := 24 }) [.ref mo, .int p9] [(mo, .inr (9, [.ref al, .ref ke, .ref ik, .ref rq, .long mab, .long mbe, .ref so, .ref ha, .ref te, .ref bt, .int bL, .int tA, .int tL, .int tK, .int tV, .ref an, .ref vs])), (al, .inl (G.2.1, 159, .inl a))] (fun (r : Int32) w1 => (r = kpA a p9 mn) ∧ w1 = [(mo, .inr (9, [.ref al, .ref ke, .ref ik, .ref rq, .long mab, .long mbe, .ref so, .ref ha, .ref te, .ref bt, .int bL, .int tA, .int tL, .int tK, .int tV, .ref an, .ref vs])), (al, .inl (G.2.1, 159, .inl a))]) := by
  refine MI.mk (by decide) (Nat.le_of_ble_eq_true rfl) ?_
  intro p_ e_ s_ m_ ar_ be_ me_ cd_ A_ ls C hrt hW hl
  have hx := C.1; have hb := C.2.1; have hown := C.2.2.2.1; have ht := C.2.2.2.2.1
  replace hl : lv_has ls 7 [(0, .ref mo), (1, .int p9)] := hl
  generalize hQ : MQ be_ _ ar_ s_ 0 0 A_ = Q
  refine lv_iconst (v := 0) hx hb dX11_kindsOfPlayer_0 (by decide) ?_
  refine lv_istore_n (lv' := [(2, .int 0), (0, .ref mo), (1, .int p9)]) hx hb dX11_kindsOfPlayer_1 rfl hl (by decide) rfl ?_
  clear hl ls; intro ls hl
  refine lv_iconst (v := 0) hx hb dX11_kindsOfPlayer_2 (by decide) ?_
  refine lv_istore_n (lv' := [(3, .int 0), (2, .int 0), (0, .ref mo), (1, .int p9)]) hx hb dX11_kindsOfPlayer_3 rfl hl (by decide) rfl ?_
  clear hl ls; intro ls hl
  have K_2047 : ∀ (n_ : Nat) (i : Nat) (x_2048 : Int32) (x_2049 : Int32) (_ : x_2048 = nI i) (_ : x_2049 = orF (fun i => mcA a p9 (nI i) mn) i) (_ : i ≤ 6) (_ : 6 - i < n_) (H : Heap) (locs : List Loc) (ls : Array Slot), Wd G A_ s_.heap [(mo, .inr (9, [.ref al, .ref ke, .ref ik, .ref rq, .long mab, .long mbe, .ref so, .ref ha, .ref te, .ref bt, .int bL, .int tA, .int tL, .int tK, .int tV, .ref an, .ref vs])), (al, .inl (G.2.1, 159, .inl a))] H locs → lv_has ls 7 [(3, .int x_2048), (2, .int x_2049), (0, .ref mo), (1, .int p9)] → W p_ l e_ ({ frames := 1, cells := 0, slots := 0, locals := 24 }) s_ m_ ar_ be_ me_ cd_ H locs 0 0 Q (F0 m_ 4 ls []) := by
    intro n_
    induction n_ with
    | zero => intro i x_2048 x_2049 ex_2048 ex_2049 hi9 hm_; exact absurd hm_ (Nat.not_lt_zero _)
    | succ n_ ihK_2047 =>
      intro i x_2048 x_2049 ex_2048 ex_2049 hi9 hm_ H locs ls hW hl
      subst ex_2048
      subst ex_2049
      refine lv_iload_n hx hb dX11_kindsOfPlayer_4 rfl (lv_at hl 0 rfl) ?_
      refine lv_bipush (v := 6) hx hb dX11_kindsOfPlayer_5 (by decide) ?_
      refine lv_icmp_ge (tgt := 120) hx hb dX11_kindsOfPlayer_7 (by decide) (fun c_2050 => ?_) (fun c_2050 => ?_)
      · replace c_2050 := Int32.not_lt.mpr c_2050
        have c_2050n : ¬ i < 6 := fun q => c_2050 ((nI_ltI (a := i) (b := 6) (by omega) (by omega)).mpr q)
        refine lv_iload_n hx hb dX11_kindsOfPlayer_120 rfl (lv_at hl 1 rfl) ?_
        subst hQ
        exact g_iret (v := (orF (fun i => mcA a p9 (nI i) mn) i)) C hW hrt ⟨by (rw [show i = 6 by omega]; rfl), rfl⟩ dX11_kindsOfPlayer_121
      · replace c_2050 := Int32.not_le.mp c_2050
        have c_2050n : i < 6 := (nI_ltI (a := i) (b := 6) (by omega) (by omega)).mp c_2050
        refine lv_iconst (v := 1) hx hb dX11_kindsOfPlayer_10 (by decide) ?_
        refine lv_istore (lv' := [(4, .int 1), (3, .int (nI i)), (2, .int (orF (fun i => mcA a p9 (nI i) mn) i)), (0, .ref mo), (1, .int p9)]) hx hb dX11_kindsOfPlayer_11 hl (by decide) rfl ?_
        clear hl ls; intro ls hl
        refine lv_iconst (v := 0) hx hb dX11_kindsOfPlayer_13 (by decide) ?_
        refine lv_istore (lv' := [(5, .int 0), (4, .int 1), (3, .int (nI i)), (2, .int (orF (fun i => mcA a p9 (nI i) mn) i)), (0, .ref mo), (1, .int p9)]) hx hb dX11_kindsOfPlayer_14 hl (by decide) rfl ?_
        clear hl ls; intro ls hl
        have K_2051 : ∀ (n_ : Nat) (j : Nat) (x_2052 : Int32) (x_2053 : Int32) (_ : x_2052 = nI j) (_ : x_2053 = bI (mcA a p9 (nI i) j)) (_ : j ≤ mn) (_ : mn - j < n_) (H : Heap) (locs : List Loc) (ls : Array Slot), Wd G A_ s_.heap [(mo, .inr (9, [.ref al, .ref ke, .ref ik, .ref rq, .long mab, .long mbe, .ref so, .ref ha, .ref te, .ref bt, .int bL, .int tA, .int tL, .int tK, .int tV, .ref an, .ref vs])), (al, .inl (G.2.1, 159, .inl a))] H locs → lv_has ls 7 [(5, .int x_2052), (4, .int x_2053), (3, .int (nI i)), (2, .int (orF (fun i => mcA a p9 (nI i) mn) i)), (0, .ref mo), (1, .int p9)] → W p_ l e_ ({ frames := 1, cells := 0, slots := 0, locals := 24 }) s_ m_ ar_ be_ me_ cd_ H locs 0 0 Q (F0 m_ 16 ls []) := by
          intro n_
          induction n_ with
          | zero => intro j x_2052 x_2053 ex_2052 ex_2053 hj hm_; exact absurd hm_ (Nat.not_lt_zero _)
          | succ n_ ihK_2051 =>
            intro j x_2052 x_2053 ex_2052 ex_2053 hj hm_ H locs ls hW hl
            subst ex_2052
            subst ex_2053
            refine lv_iload hx hb dX11_kindsOfPlayer_16 (lv_at hl 0 rfl) ?_
            refine lv_aload_n hx hb dX11_kindsOfPlayer_18 rfl (lv_at hl 4 rfl) ?_
            refine g_get (k := 0) (v := .ref al) C hW 0 rfl rfl jnX11 (by decide) k_fl_X11_7 rfl dX11_kindsOfPlayer_19 ?_
            refine lv_iconst (v := 3) hx hb dX11_kindsOfPlayer_22 (by decide) ?_
            refine g_ald C hW 1 rfl (vp_in_nI (n := 3) (by omega) (by omega)) dX11_kindsOfPlayer_23 ?_
            refine lv_as (y := a 3) (rfl) ?_
            refine lv_as (y := nI mn) (e3) ?_
            refine lv_icmp_ge (tgt := 99) hx hb dX11_kindsOfPlayer_24 (by decide) (fun c_2054 => ?_) (fun c_2054 => ?_)
            · replace c_2054 := Int32.not_lt.mpr c_2054
              have c_2054n : ¬ j < mn := fun q => c_2054 ((nI_ltI (a := j) (b := mn) (by omega) (by omega)).mpr q)
              have ej : j = mn := by omega
              refine lv_iload_n hx hb dX11_kindsOfPlayer_99 rfl (lv_at hl 3 rfl) ?_
              refine lv_iload hx hb dX11_kindsOfPlayer_100 (lv_at hl 1 rfl) ?_
              refine lv_as (y := bI (mcA a p9 (nI i) mn)) (by rw [ej]) ?_
              have J_2057 : ∀ (y_2056 : Int32) (_ : y_2056 = (if (bI (mcA a p9 (nI i) mn)) = 0 then 0 else (1 : Int32) <<< ((nI i) &&& 31))), ∀ (H : Heap) (locs : List Loc) (ls : Array Slot), Wd G A_ s_.heap [(mo, .inr (9, [.ref al, .ref ke, .ref ik, .ref rq, .long mab, .long mbe, .ref so, .ref ha, .ref te, .ref bt, .int bL, .int tA, .int tL, .int tK, .int tV, .ref an, .ref vs])), (al, .inl (G.2.1, 159, .inl a))] H locs → lv_has ls 7 [(5, .int (nI j)), (4, .int (bI (mcA a p9 (nI i) j))), (3, .int (nI i)), (2, .int (orF (fun i => mcA a p9 (nI i) mn) i)), (0, .ref mo), (1, .int p9)] → W p_ l e_ ({ frames := 1, cells := 0, slots := 0, locals := 24 }) s_ m_ ar_ be_ me_ cd_ H locs 0 0 Q (F0 m_ 112 ls [.int y_2056, .int (orF (fun i => mcA a p9 (nI i) mn) i)]) := by
                intro y_2056 ey_2056 H locs ls hW hl
                refine lv_ior hx hb dX11_kindsOfPlayer_112 ?_
                refine lv_istore_n (lv' := [(2, .int ((orF (fun i => mcA a p9 (nI i) mn) i) ||| y_2056)), (5, .int (nI j)), (4, .int (bI (mcA a p9 (nI i) j))), (3, .int (nI i)), (0, .ref mo), (1, .int p9)]) hx hb dX11_kindsOfPlayer_113 rfl hl (by decide) rfl ?_
                clear hl ls; intro ls hl
                refine lv_iinc (v := (nI i) + 1) (lv' := [(3, .int ((nI i) + 1)), (2, .int ((orF (fun i => mcA a p9 (nI i) mn) i) ||| y_2056)), (5, .int (nI j)), (4, .int (bI (mcA a p9 (nI i) j))), (0, .ref mo), (1, .int p9)]) hx hb dX11_kindsOfPlayer_114 hl (k := 3) rfl rfl (by decide) rfl ?_
                clear hl ls; intro ls hl
                refine lv_goto (tgt := 4) hx hb dX11_kindsOfPlayer_117 (by decide) ?_
                exact ihK_2047 (i + 1) ((nI i) + 1) ((orF (fun i => mcA a p9 (nI i) mn) i) ||| y_2056) (by exact nI_1 _) (by (simp only [ey_2056]; exact or_s rfl rfl)) (by first | omega | assumption | (simp; done)) (by omega) _ _ _ hW (lv_sub hl [0, 1, 4, 5] rfl)
              refine lv_if_eq (tgt := 111) hx hb dX11_kindsOfPlayer_102 (by decide) (fun c_2055 => ?_) (fun c_2055 => ?_)
              · refine lv_iconst (v := 0) hx hb dX11_kindsOfPlayer_111 (by decide) ?_
                exact J_2057 0 (by first | (simp only [c_2055, if_true, if_false, reduceIte]; done) | (simp [c_2055]; done) | rfl | (rw [if_pos c_2055]; done)) _ _ _ hW (lv_sub hl [0, 1, 2, 3, 4, 5] rfl)
              · refine lv_iconst (v := 1) hx hb dX11_kindsOfPlayer_105 (by decide) ?_
                refine lv_iload_n hx hb dX11_kindsOfPlayer_106 rfl (lv_at hl 2 rfl) ?_
                refine lv_ishl hx hb dX11_kindsOfPlayer_107 ?_
                refine lv_goto (tgt := 112) hx hb dX11_kindsOfPlayer_108 (by decide) ?_
                exact J_2057 ((1 : Int32) <<< ((nI i) &&& 31)) (by first | (simp only [c_2055, if_true, if_false, reduceIte]; done) | (simp [c_2055]; done) | rfl | (rw [if_neg c_2055]; done)) _ _ _ hW (lv_sub hl [0, 1, 2, 3, 4, 5] rfl)
            · replace c_2054 := Int32.not_le.mp c_2054
              have c_2054n : j < mn := (nI_ltI (a := j) (b := mn) (by omega) (by omega)).mp c_2054
              refine lv_bipush (v := 79) hx hb dX11_kindsOfPlayer_27 (by decide) ?_
              refine lv_iconst (v := 4) hx hb dX11_kindsOfPlayer_29 (by decide) ?_
              refine lv_iload hx hb dX11_kindsOfPlayer_30 (lv_at hl 0 rfl) ?_
              refine lv_imul hx hb dX11_kindsOfPlayer_32 ?_
              refine lv_iadd hx hb dX11_kindsOfPlayer_33 ?_
              refine lv_as (y := nI (79 + 4 * j)) (by simp only [nI_lit, nI_add, pk_mul]) ?_
              refine lv_istore (lv' := [(6, .int (nI (79 + 4 * j))), (5, .int (nI j)), (4, .int (bI (mcA a p9 (nI i) j))), (3, .int (nI i)), (2, .int (orF (fun i => mcA a p9 (nI i) mn) i)), (0, .ref mo), (1, .int p9)]) hx hb dX11_kindsOfPlayer_34 hl (by decide) rfl ?_
              clear hl ls; intro ls hl
              refine lv_iload hx hb dX11_kindsOfPlayer_36 (lv_at hl 2 rfl) ?_
              have J_2062 : ∀ (y_2061 : Int32) (_ : y_2061 = (if (bI (mcA a p9 (nI i) j)) = 0 then 0 else (if (a (79 + 4 * j)) = p9 then if (bl (nI i) (a (79 + 4 * j + 1)) (a (79 + 4 * j + 2))) = (a (79 + 4 * j + 3)) then 1 else 0 else 1))), ∀ (H : Heap) (locs : List Loc) (ls : Array Slot), Wd G A_ s_.heap [(mo, .inr (9, [.ref al, .ref ke, .ref ik, .ref rq, .long mab, .long mbe, .ref so, .ref ha, .ref te, .ref bt, .int bL, .int tA, .int tL, .int tK, .int tV, .ref an, .ref vs])), (al, .inl (G.2.1, 159, .inl a))] H locs → lv_has ls 7 [(6, .int (nI (79 + 4 * j))), (5, .int (nI j)), (4, .int (bI (mcA a p9 (nI i) j))), (3, .int (nI i)), (2, .int (orF (fun i => mcA a p9 (nI i) mn) i)), (0, .ref mo), (1, .int p9)] → W p_ l e_ ({ frames := 1, cells := 0, slots := 0, locals := 24 }) s_ m_ ar_ be_ me_ cd_ H locs 0 0 Q (F0 m_ 91 ls [.int y_2061]) := by
                intro y_2061 ey_2061 H locs ls hW hl
                refine lv_istore (lv' := [(4, .int y_2061), (6, .int (nI (79 + 4 * j))), (5, .int (nI j)), (3, .int (nI i)), (2, .int (orF (fun i => mcA a p9 (nI i) mn) i)), (0, .ref mo), (1, .int p9)]) hx hb dX11_kindsOfPlayer_91 hl (by decide) rfl ?_
                clear hl ls; intro ls hl
                refine lv_iinc (v := (nI j) + 1) (lv' := [(5, .int ((nI j) + 1)), (4, .int y_2061), (6, .int (nI (79 + 4 * j))), (3, .int (nI i)), (2, .int (orF (fun i => mcA a p9 (nI i) mn) i)), (0, .ref mo), (1, .int p9)]) hx hb dX11_kindsOfPlayer_93 hl (k := 2) rfl rfl (by decide) rfl ?_
                clear hl ls; intro ls hl
                refine lv_goto (tgt := 16) hx hb dX11_kindsOfPlayer_96 (by decide) ?_
                exact ihK_2051 (j + 1) ((nI j) + 1) y_2061 (by exact nI_1 _) (by (simp only [ey_2061]; exact al_m)) (by first | omega | assumption | (simp; done)) (by omega) _ _ _ hW (lv_sub hl [0, 1, 3, 4, 5, 6] rfl)
              refine lv_if_eq (tgt := 90) hx hb dX11_kindsOfPlayer_38 (by decide) (fun c_2058 => ?_) (fun c_2058 => ?_)
              · refine lv_iconst (v := 0) hx hb dX11_kindsOfPlayer_90 (by decide) ?_
                exact J_2062 0 (by first | (simp only [c_2058, if_true, if_false, reduceIte]; done) | (simp [c_2058]; done) | rfl | (rw [if_pos c_2058]; done)) _ _ _ hW (lv_sub hl [0, 1, 2, 3, 4, 5, 6] rfl)
              · refine lv_aload_n hx hb dX11_kindsOfPlayer_41 rfl (lv_at hl 5 rfl) ?_
                refine g_get (k := 0) (v := .ref al) C hW 0 rfl rfl jnX11 (by decide) k_fl_X11_7 rfl dX11_kindsOfPlayer_42 ?_
                refine lv_iload hx hb dX11_kindsOfPlayer_45 (lv_at hl 0 rfl) ?_
                refine g_ald C hW 1 rfl (ix_in (show (nI (79 + 4 * j)) = nI (79 + 4 * j) from (by first | rfl | (simp only [nI_lit, nI_add, pk_mul]; done) | (simp only [nI_lit, nI_add, pk_mul]; congr 1; omega))) (by omega) (by omega)) dX11_kindsOfPlayer_47 ?_
                refine lv_as (y := a (79 + 4 * j)) (by rw [show (nI (79 + 4 * j)).toNatClampNeg = (79 + 4 * j) from ix_cl (show (nI (79 + 4 * j)) = nI (79 + 4 * j) from (by first | rfl | (simp only [nI_lit, nI_add, pk_mul]; done) | (simp only [nI_lit, nI_add, pk_mul]; congr 1; omega))) (Nat.lt_of_lt_of_le (m := 159) (by omega) (by omega))]) ?_
                refine lv_iload_n hx hb dX11_kindsOfPlayer_48 rfl (lv_at hl 6 rfl) ?_
                refine lv_icmp_ne (tgt := 86) hx hb dX11_kindsOfPlayer_49 (by decide) (fun c_2063 => ?_) (fun c_2063 => ?_)
                · refine lv_iconst (v := 1) hx hb dX11_kindsOfPlayer_86 (by decide) ?_
                  refine lv_goto (tgt := 91) hx hb dX11_kindsOfPlayer_87 (by decide) ?_
                  exact J_2062 1 (by first | (simp only [c_2058, c_2063, if_true, if_false, reduceIte]; done) | (simp [c_2058, c_2063]; done) | rfl | (rw [if_neg c_2058, if_neg c_2063]; done)) _ _ _ hW (lv_sub hl [0, 1, 2, 3, 4, 5, 6] rfl)
                · refine lv_iload_n hx hb dX11_kindsOfPlayer_52 rfl (lv_at hl 3 rfl) ?_
                  refine lv_aload_n hx hb dX11_kindsOfPlayer_53 rfl (lv_at hl 5 rfl) ?_
                  refine g_get (k := 0) (v := .ref al) C hW 0 rfl rfl jnX11 (by decide) k_fl_X11_7 rfl dX11_kindsOfPlayer_54 ?_
                  refine lv_iload hx hb dX11_kindsOfPlayer_57 (lv_at hl 0 rfl) ?_
                  refine lv_iconst (v := 1) hx hb dX11_kindsOfPlayer_59 (by decide) ?_
                  refine lv_iadd hx hb dX11_kindsOfPlayer_60 ?_
                  refine g_ald C hW 1 rfl (ix_in (show ((nI (79 + 4 * j)) + 1) = nI (79 + 4 * j + 1) from (by first | rfl | (simp only [nI_lit, nI_add, pk_mul]; done) | (simp only [nI_lit, nI_add, pk_mul]; congr 1; omega))) (by omega) (by omega)) dX11_kindsOfPlayer_61 ?_
                  refine lv_as (y := a (79 + 4 * j + 1)) (by rw [show ((nI (79 + 4 * j)) + 1).toNatClampNeg = (79 + 4 * j + 1) from ix_cl (show ((nI (79 + 4 * j)) + 1) = nI (79 + 4 * j + 1) from (by first | rfl | (simp only [nI_lit, nI_add, pk_mul]; done) | (simp only [nI_lit, nI_add, pk_mul]; congr 1; omega))) (Nat.lt_of_lt_of_le (m := 159) (by omega) (by omega))]) ?_
                  refine lv_aload_n hx hb dX11_kindsOfPlayer_62 rfl (lv_at hl 5 rfl) ?_
                  refine g_get (k := 0) (v := .ref al) C hW 0 rfl rfl jnX11 (by decide) k_fl_X11_7 rfl dX11_kindsOfPlayer_63 ?_
                  refine lv_iload hx hb dX11_kindsOfPlayer_66 (lv_at hl 0 rfl) ?_
                  refine lv_iconst (v := 2) hx hb dX11_kindsOfPlayer_68 (by decide) ?_
                  refine lv_iadd hx hb dX11_kindsOfPlayer_69 ?_
                  refine g_ald C hW 1 rfl (ix_in (show ((nI (79 + 4 * j)) + 2) = nI (79 + 4 * j + 2) from (by first | rfl | (simp only [nI_lit, nI_add, pk_mul]; done) | (simp only [nI_lit, nI_add, pk_mul]; congr 1; omega))) (by omega) (by omega)) dX11_kindsOfPlayer_70 ?_
                  refine lv_as (y := a (79 + 4 * j + 2)) (by rw [show ((nI (79 + 4 * j)) + 2).toNatClampNeg = (79 + 4 * j + 2) from ix_cl (show ((nI (79 + 4 * j)) + 2) = nI (79 + 4 * j + 2) from (by first | rfl | (simp only [nI_lit, nI_add, pk_mul]; done) | (simp only [nI_lit, nI_add, pk_mul]; congr 1; omega))) (Nat.lt_of_lt_of_le (m := 159) (by omega) (by omega))]) ?_
                  refine g_fi C hW [] rfl (g_runS (As := [.int (nI i), .int (a (79 + 4 * j + 1)), .int (a (79 + 4 * j + 2))]) (rest := []) (wc := []) C hW hl (c_X11_hitsAs l G (nI i) (a (79 + 4 * j + 1)) (a (79 + 4 * j + 2))  _) k_ml_X11_91 q_X11_hitsAs (by decide) [] rfl rfl rfl rfl (Nat.le_of_ble_eq_true rfl) dX11_kindsOfPlayer_71 (by decide)) (fun r_2064 er_2064 => ?_)
                  clear hW H locs; intro H locs hW
                  refine lv_as (y := bl (nI i) (a (79 + 4 * j + 1)) (a (79 + 4 * j + 2))) er_2064 ?_
                  clear er_2064 r_2064
                  refine lv_aload_n hx hb dX11_kindsOfPlayer_74 rfl (lv_at hl 5 rfl) ?_
                  refine g_get (k := 0) (v := .ref al) C hW 0 rfl rfl jnX11 (by decide) k_fl_X11_7 rfl dX11_kindsOfPlayer_75 ?_
                  refine lv_iload hx hb dX11_kindsOfPlayer_78 (lv_at hl 0 rfl) ?_
                  refine lv_iconst (v := 3) hx hb dX11_kindsOfPlayer_80 (by decide) ?_
                  refine lv_iadd hx hb dX11_kindsOfPlayer_81 ?_
                  refine g_ald C hW 1 rfl (ix_in (show ((nI (79 + 4 * j)) + 3) = nI (79 + 4 * j + 3) from (by first | rfl | (simp only [nI_lit, nI_add, pk_mul]; done) | (simp only [nI_lit, nI_add, pk_mul]; congr 1; omega))) (by omega) (by omega)) dX11_kindsOfPlayer_82 ?_
                  refine lv_as (y := a (79 + 4 * j + 3)) (by rw [show ((nI (79 + 4 * j)) + 3).toNatClampNeg = (79 + 4 * j + 3) from ix_cl (show ((nI (79 + 4 * j)) + 3) = nI (79 + 4 * j + 3) from (by first | rfl | (simp only [nI_lit, nI_add, pk_mul]; done) | (simp only [nI_lit, nI_add, pk_mul]; congr 1; omega))) (Nat.lt_of_lt_of_le (m := 159) (by omega) (by omega))]) ?_
                  refine lv_icmp_ne (tgt := 90) hx hb dX11_kindsOfPlayer_83 (by decide) (fun c_2065 => ?_) (fun c_2065 => ?_)
                  · refine lv_iconst (v := 0) hx hb dX11_kindsOfPlayer_90 (by decide) ?_
                    exact J_2062 0 (by first | (simp only [c_2058, c_2063, c_2065, if_true, if_false, reduceIte]; done) | (simp [c_2058, c_2063, c_2065]; done) | rfl | (rw [if_neg c_2058, if_pos c_2063, if_neg c_2065]; done)) _ _ _ hW (lv_sub hl [0, 1, 2, 3, 4, 5, 6] rfl)
                  · refine lv_iconst (v := 1) hx hb dX11_kindsOfPlayer_86 (by decide) ?_
                    refine lv_goto (tgt := 91) hx hb dX11_kindsOfPlayer_87 (by decide) ?_
                    exact J_2062 1 (by first | (simp only [c_2058, c_2063, c_2065, if_true, if_false, reduceIte]; done) | (simp [c_2058, c_2063, c_2065]; done) | rfl | (rw [if_neg c_2058, if_pos c_2063, if_pos c_2065]; done)) _ _ _ hW (lv_sub hl [0, 1, 2, 3, 4, 5, 6] rfl)
        exact K_2051 _ 0 0 1 (by first | exact rfl | (simp; done)) (by exact rfl) (by first | omega | assumption | (simp; done)) (Nat.lt_succ_self _) _ _ _ hW (lv_sub hl [0, 1, 2, 3, 4, 5] rfl)
  exact K_2047 _ 0 0 0 (by first | exact rfl | (simp; done)) (by exact rfl) (by first | omega | assumption | (simp; done)) (Nat.lt_succ_self _) _ _ _ hW (lv_sub hl [0, 1, 2, 3] rfl)
set_option maxHeartbeats 4000000 in
set_option maxRecDepth 100000 in
theorem c_X11_mostAlike (l : Launch) (G : gT) (mo al ke ik rq so ha te bt an vs : Nat) (mab mbe : Int64) (bL tA tL tK tV : Int32) (tf : Nat → Int32) (set_ : Int32)  : MI l G yX11_mostAlike cX11_mostAlike 6 .int ({ frames := 1, cells := 0, slots := 0, locals := 21 }) [.ref mo, .int set_] [(mo, .inr (9, [.ref al, .ref ke, .ref ik, .ref rq, .long mab, .long mbe, .ref so, .ref ha, .ref te, .ref bt, .int bL, .int tA, .int tL, .int tK, .int tV, .ref an, .ref vs])), (te, .inl (G.2.1, 6, .inl tf))] (fun (r : Int32) w1 => (r = mal set_ tf) ∧ w1 = [(mo, .inr (9, [.ref al, .ref ke, .ref ik, .ref rq, .long mab, .long mbe, .ref so, .ref ha, .ref te, .ref bt, .int bL, .int tA, .int tL, .int tK, .int tV, .ref an, .ref vs])), (te, .inl (G.2.1, 6, .inl tf))]) := by
  refine MI.mk (by decide) (Nat.le_of_ble_eq_true rfl) ?_
  intro p_ e_ s_ m_ ar_ be_ me_ cd_ A_ ls C hrt hW hl
  have hx := C.1; have hb := C.2.1; have hown := C.2.2.2.1; have ht := C.2.2.2.2.1
  replace hl : lv_has ls 6 [(0, .ref mo), (1, .int set_)] := hl
  generalize hQ : MQ be_ _ ar_ s_ 0 0 A_ = Q
  refine lv_iconst (v := 0) hx hb dX11_mostAlike_0 (by decide) ?_
  refine lv_istore_n (lv' := [(2, .int 0), (0, .ref mo), (1, .int set_)]) hx hb dX11_mostAlike_1 rfl hl (by decide) rfl ?_
  clear hl ls; intro ls hl
  refine lv_iconst (v := 0) hx hb dX11_mostAlike_2 (by decide) ?_
  refine lv_istore_n (lv' := [(3, .int 0), (2, .int 0), (0, .ref mo), (1, .int set_)]) hx hb dX11_mostAlike_3 rfl hl (by decide) rfl ?_
  clear hl ls; intro ls hl
  have K_2066 : ∀ (n_ : Nat) (i : Nat) (x_2067 : Int32) (x_2068 : Int32) (_ : x_2067 = nI i) (_ : x_2068 = maxF (tb set_) (fun i => lkF set_ tf i 6) i) (_ : i ≤ 6) (_ : 6 - i < n_) (H : Heap) (locs : List Loc) (ls : Array Slot), Wd G A_ s_.heap [(mo, .inr (9, [.ref al, .ref ke, .ref ik, .ref rq, .long mab, .long mbe, .ref so, .ref ha, .ref te, .ref bt, .int bL, .int tA, .int tL, .int tK, .int tV, .ref an, .ref vs])), (te, .inl (G.2.1, 6, .inl tf))] H locs → lv_has ls 6 [(3, .int x_2067), (2, .int x_2068), (0, .ref mo), (1, .int set_)] → W p_ l e_ ({ frames := 1, cells := 0, slots := 0, locals := 21 }) s_ m_ ar_ be_ me_ cd_ H locs 0 0 Q (F0 m_ 4 ls []) := by
    intro n_
    induction n_ with
    | zero => intro i x_2067 x_2068 ex_2067 ex_2068 hi9 hm_; exact absurd hm_ (Nat.not_lt_zero _)
    | succ n_ ihK_2066 =>
      intro i x_2067 x_2068 ex_2067 ex_2068 hi9 hm_ H locs ls hW hl
      subst ex_2067
      subst ex_2068
      refine lv_iload_n hx hb dX11_mostAlike_4 rfl (lv_at hl 0 rfl) ?_
      refine lv_bipush (v := 6) hx hb dX11_mostAlike_5 (by decide) ?_
      refine lv_icmp_ge (tgt := 91) hx hb dX11_mostAlike_7 (by decide) (fun c_2069 => ?_) (fun c_2069 => ?_)
      · replace c_2069 := Int32.not_lt.mpr c_2069
        have c_2069n : ¬ i < 6 := fun q => c_2069 ((nI_ltI (a := i) (b := 6) (by omega) (by omega)).mpr q)
        refine lv_iload_n hx hb dX11_mostAlike_91 rfl (lv_at hl 1 rfl) ?_
        subst hQ
        exact g_iret (v := (maxF (tb set_) (fun i => lkF set_ tf i 6) i)) C hW hrt ⟨by (rw [show i = 6 by omega]; rfl), rfl⟩ dX11_mostAlike_92
      · replace c_2069 := Int32.not_le.mp c_2069
        have c_2069n : i < 6 := (nI_ltI (a := i) (b := 6) (by omega) (by omega)).mp c_2069
        refine lv_iconst (v := 0) hx hb dX11_mostAlike_10 (by decide) ?_
        refine lv_istore (lv' := [(4, .int 0), (3, .int (nI i)), (2, .int (maxF (tb set_) (fun i => lkF set_ tf i 6) i)), (0, .ref mo), (1, .int set_)]) hx hb dX11_mostAlike_11 hl (by decide) rfl ?_
        clear hl ls; intro ls hl
        refine lv_iconst (v := 0) hx hb dX11_mostAlike_13 (by decide) ?_
        refine lv_istore (lv' := [(5, .int 0), (4, .int 0), (3, .int (nI i)), (2, .int (maxF (tb set_) (fun i => lkF set_ tf i 6) i)), (0, .ref mo), (1, .int set_)]) hx hb dX11_mostAlike_14 hl (by decide) rfl ?_
        clear hl ls; intro ls hl
        have K_2070 : ∀ (n_ : Nat) (j : Nat) (x_2071 : Int32) (lk : Int32) (_ : x_2071 = nI j) (_ : j ≤ 6) (_ : lk = if tb set_ i = true then lkF set_ tf i j else 0) (_ : 6 - j < n_) (H : Heap) (locs : List Loc) (ls : Array Slot), Wd G A_ s_.heap [(mo, .inr (9, [.ref al, .ref ke, .ref ik, .ref rq, .long mab, .long mbe, .ref so, .ref ha, .ref te, .ref bt, .int bL, .int tA, .int tL, .int tK, .int tV, .ref an, .ref vs])), (te, .inl (G.2.1, 6, .inl tf))] H locs → lv_has ls 6 [(5, .int x_2071), (4, .int lk), (3, .int (nI i)), (2, .int (maxF (tb set_) (fun i => lkF set_ tf i 6) i)), (0, .ref mo), (1, .int set_)] → W p_ l e_ ({ frames := 1, cells := 0, slots := 0, locals := 21 }) s_ m_ ar_ be_ me_ cd_ H locs 0 0 Q (F0 m_ 16 ls []) := by
          intro n_
          induction n_ with
          | zero => intro j x_2071 lk ex_2071 hj hq hm_; exact absurd hm_ (Nat.not_lt_zero _)
          | succ n_ ihK_2070 =>
            intro j x_2071 lk ex_2071 hj hq hm_ H locs ls hW hl
            subst ex_2071
            refine lv_iload hx hb dX11_mostAlike_16 (lv_at hl 0 rfl) ?_
            refine lv_bipush (v := 6) hx hb dX11_mostAlike_18 (by decide) ?_
            refine lv_icmp_ge (tgt := 72) hx hb dX11_mostAlike_20 (by decide) (fun c_2072 => ?_) (fun c_2072 => ?_)
            · replace c_2072 := Int32.not_lt.mpr c_2072
              have c_2072n : ¬ j < 6 := fun q => c_2072 ((nI_ltI (a := j) (b := 6) (by omega) (by omega)).mpr q)
              have hlk : lk = if tb set_ i = true then lkF set_ tf i 6 else 0 := by first | (rw [show (6 : Nat) = j by omega]; exact hq) | (rw [bI_0.mp c_2072] at hq ⊢; exact hq)
              refine lv_iload hx hb dX11_mostAlike_72 (lv_at hl 1 rfl) ?_
              refine lv_iload_n hx hb dX11_mostAlike_74 rfl (lv_at hl 3 rfl) ?_
              have J_2075 : ∀ (y_2074 : Int32) (_ : y_2074 = (if (maxF (tb set_) (fun i => lkF set_ tf i 6) i) < lk then lk else maxF (tb set_) (fun i => lkF set_ tf i 6) i)), ∀ (H : Heap) (locs : List Loc) (ls : Array Slot), Wd G A_ s_.heap [(mo, .inr (9, [.ref al, .ref ke, .ref ik, .ref rq, .long mab, .long mbe, .ref so, .ref ha, .ref te, .ref bt, .int bL, .int tA, .int tL, .int tK, .int tV, .ref an, .ref vs])), (te, .inl (G.2.1, 6, .inl tf))] H locs → lv_has ls 6 [(5, .int (nI j)), (4, .int lk), (3, .int (nI i)), (2, .int (maxF (tb set_) (fun i => lkF set_ tf i 6) i)), (0, .ref mo), (1, .int set_)] → W p_ l e_ ({ frames := 1, cells := 0, slots := 0, locals := 21 }) s_ m_ ar_ be_ me_ cd_ H locs 0 0 Q (F0 m_ 84 ls [.int y_2074]) := by
                intro y_2074 ey_2074 H locs ls hW hl
                refine lv_istore_n (lv' := [(2, .int y_2074), (5, .int (nI j)), (4, .int lk), (3, .int (nI i)), (0, .ref mo), (1, .int set_)]) hx hb dX11_mostAlike_84 rfl hl (by decide) rfl ?_
                clear hl ls; intro ls hl
                refine lv_iinc (v := (nI i) + 1) (lv' := [(3, .int ((nI i) + 1)), (2, .int y_2074), (5, .int (nI j)), (4, .int lk), (0, .ref mo), (1, .int set_)]) hx hb dX11_mostAlike_85 hl (k := 3) rfl rfl (by decide) rfl ?_
                clear hl ls; intro ls hl
                refine lv_goto (tgt := 4) hx hb dX11_mostAlike_88 (by decide) ?_
                exact ihK_2066 (i + 1) ((nI i) + 1) y_2074 (by exact nI_1 _) (by (simp only [ey_2074]; exact ma_s rfl hlk)) (by first | omega | assumption | (simp; done)) (by omega) _ _ _ hW (lv_sub hl [0, 1, 4, 5] rfl)
              refine lv_icmp_le (tgt := 83) hx hb dX11_mostAlike_75 (by decide) (fun c_2073 => ?_) (fun c_2073 => ?_)
              · replace c_2073 := Int32.not_lt.mpr c_2073
                refine lv_iload_n hx hb dX11_mostAlike_83 rfl (lv_at hl 3 rfl) ?_
                exact J_2075 (maxF (tb set_) (fun i => lkF set_ tf i 6) i) (by first | (simp only [c_2073, if_true, if_false, reduceIte]; done) | (simp [c_2073]; done) | rfl | (rw [if_neg c_2073]; done)) _ _ _ hW (lv_sub hl [0, 1, 2, 3, 4, 5] rfl)
              · replace c_2073 := Int32.not_le.mp c_2073
                refine lv_iload hx hb dX11_mostAlike_78 (lv_at hl 1 rfl) ?_
                refine lv_goto (tgt := 84) hx hb dX11_mostAlike_80 (by decide) ?_
                exact J_2075 lk (by first | (simp only [c_2073, if_true, if_false, reduceIte]; done) | (simp [c_2073]; done) | rfl | (rw [if_pos c_2073]; done)) _ _ _ hW (lv_sub hl [0, 1, 2, 3, 4, 5] rfl)
            · replace c_2072 := Int32.not_le.mp c_2072
              have c_2072n : j < 6 := (nI_ltI (a := j) (b := 6) (by omega) (by omega)).mp c_2072
              refine lv_iload_n hx hb dX11_mostAlike_23 rfl (lv_at hl 5 rfl) ?_
              refine lv_iload_n hx hb dX11_mostAlike_24 rfl (lv_at hl 2 rfl) ?_
              refine g_fi C hW [] rfl (g_runS (As := [.int set_, .int (nI i)]) (rest := []) (wc := []) C hW hl (c_X11_has l G set_ i  _) k_ml_X11_180 q_X11_has (by decide) [] rfl rfl rfl rfl (Nat.le_of_ble_eq_true rfl) dX11_mostAlike_25 (by decide)) (fun r_2076 er_2076 => ?_)
              clear hW H locs; intro H locs hW
              refine lv_as (y := bI (tb set_ i)) er_2076 ?_
              clear er_2076 r_2076
              refine lv_if_eq (tgt := 72) hx hb dX11_mostAlike_28 (by decide) (fun c_2077 => ?_) (fun c_2077 => ?_)
              · have hlk : lk = if tb set_ i = true then lkF set_ tf i 6 else 0 := by first | (rw [show (6 : Nat) = j by omega]; exact hq) | (rw [bI_0.mp c_2077] at hq ⊢; exact hq)
                refine lv_iload hx hb dX11_mostAlike_72 (lv_at hl 1 rfl) ?_
                refine lv_iload_n hx hb dX11_mostAlike_74 rfl (lv_at hl 3 rfl) ?_
                have J_2080 : ∀ (y_2079 : Int32) (_ : y_2079 = (if (maxF (tb set_) (fun i => lkF set_ tf i 6) i) < lk then lk else maxF (tb set_) (fun i => lkF set_ tf i 6) i)), ∀ (H : Heap) (locs : List Loc) (ls : Array Slot), Wd G A_ s_.heap [(mo, .inr (9, [.ref al, .ref ke, .ref ik, .ref rq, .long mab, .long mbe, .ref so, .ref ha, .ref te, .ref bt, .int bL, .int tA, .int tL, .int tK, .int tV, .ref an, .ref vs])), (te, .inl (G.2.1, 6, .inl tf))] H locs → lv_has ls 6 [(5, .int (nI j)), (4, .int lk), (3, .int (nI i)), (2, .int (maxF (tb set_) (fun i => lkF set_ tf i 6) i)), (0, .ref mo), (1, .int set_)] → W p_ l e_ ({ frames := 1, cells := 0, slots := 0, locals := 21 }) s_ m_ ar_ be_ me_ cd_ H locs 0 0 Q (F0 m_ 84 ls [.int y_2079]) := by
                  intro y_2079 ey_2079 H locs ls hW hl
                  refine lv_istore_n (lv' := [(2, .int y_2079), (5, .int (nI j)), (4, .int lk), (3, .int (nI i)), (0, .ref mo), (1, .int set_)]) hx hb dX11_mostAlike_84 rfl hl (by decide) rfl ?_
                  clear hl ls; intro ls hl
                  refine lv_iinc (v := (nI i) + 1) (lv' := [(3, .int ((nI i) + 1)), (2, .int y_2079), (5, .int (nI j)), (4, .int lk), (0, .ref mo), (1, .int set_)]) hx hb dX11_mostAlike_85 hl (k := 3) rfl rfl (by decide) rfl ?_
                  clear hl ls; intro ls hl
                  refine lv_goto (tgt := 4) hx hb dX11_mostAlike_88 (by decide) ?_
                  exact ihK_2066 (i + 1) ((nI i) + 1) y_2079 (by exact nI_1 _) (by (simp only [ey_2079]; exact ma_s rfl hlk)) (by first | omega | assumption | (simp; done)) (by omega) _ _ _ hW (lv_sub hl [0, 1, 4, 5] rfl)
                refine lv_icmp_le (tgt := 83) hx hb dX11_mostAlike_75 (by decide) (fun c_2078 => ?_) (fun c_2078 => ?_)
                · replace c_2078 := Int32.not_lt.mpr c_2078
                  refine lv_iload_n hx hb dX11_mostAlike_83 rfl (lv_at hl 3 rfl) ?_
                  exact J_2080 (maxF (tb set_) (fun i => lkF set_ tf i 6) i) (by first | (simp only [c_2078, if_true, if_false, reduceIte]; done) | (simp [c_2078]; done) | rfl | (rw [if_neg c_2078]; done)) _ _ _ hW (lv_sub hl [0, 1, 2, 3, 4, 5] rfl)
                · replace c_2078 := Int32.not_le.mp c_2078
                  refine lv_iload hx hb dX11_mostAlike_78 (lv_at hl 1 rfl) ?_
                  refine lv_goto (tgt := 84) hx hb dX11_mostAlike_80 (by decide) ?_
                  exact J_2080 lk (by first | (simp only [c_2078, if_true, if_false, reduceIte]; done) | (simp [c_2078]; done) | rfl | (rw [if_pos c_2078]; done)) _ _ _ hW (lv_sub hl [0, 1, 2, 3, 4, 5] rfl)
              · have hti := bI_ne.mp c_2077
                refine lv_iload hx hb dX11_mostAlike_31 (lv_at hl 1 rfl) ?_
                refine lv_iload_n hx hb dX11_mostAlike_33 rfl (lv_at hl 5 rfl) ?_
                refine lv_iload hx hb dX11_mostAlike_34 (lv_at hl 0 rfl) ?_
                refine g_fi C hW [] rfl (g_runS (As := [.int set_, .int (nI j)]) (rest := [.int lk]) (wc := []) C hW hl (c_X11_has l G set_ j  _) k_ml_X11_180 q_X11_has (by decide) [] rfl rfl rfl rfl (Nat.le_of_ble_eq_true rfl) dX11_mostAlike_36 (by decide)) (fun r_2081 er_2081 => ?_)
                clear hW H locs; intro H locs hW
                refine lv_as (y := bI (tb set_ j)) er_2081 ?_
                clear er_2081 r_2081
                have J_2084 : ∀ (y_2083 : Int32) (_ : y_2083 = (if (bI (tb set_ j)) = 0 then 0 else (if (tf i) = (tf j) then 1 else 0))), ∀ (H : Heap) (locs : List Loc) (ls : Array Slot), Wd G A_ s_.heap [(mo, .inr (9, [.ref al, .ref ke, .ref ik, .ref rq, .long mab, .long mbe, .ref so, .ref ha, .ref te, .ref bt, .int bL, .int tA, .int tL, .int tK, .int tV, .ref an, .ref vs])), (te, .inl (G.2.1, 6, .inl tf))] H locs → lv_has ls 6 [(5, .int (nI j)), (4, .int lk), (3, .int (nI i)), (2, .int (maxF (tb set_) (fun i => lkF set_ tf i 6) i)), (0, .ref mo), (1, .int set_)] → W p_ l e_ ({ frames := 1, cells := 0, slots := 0, locals := 21 }) s_ m_ ar_ be_ me_ cd_ H locs 0 0 Q (F0 m_ 63 ls [.int y_2083, .int lk]) := by
                  intro y_2083 ey_2083 H locs ls hW hl
                  refine lv_iadd hx hb dX11_mostAlike_63 ?_
                  refine lv_istore (lv' := [(4, .int (lk + y_2083)), (5, .int (nI j)), (3, .int (nI i)), (2, .int (maxF (tb set_) (fun i => lkF set_ tf i 6) i)), (0, .ref mo), (1, .int set_)]) hx hb dX11_mostAlike_64 hl (by decide) rfl ?_
                  clear hl ls; intro ls hl
                  refine lv_iinc (v := (nI j) + 1) (lv' := [(5, .int ((nI j) + 1)), (4, .int (lk + y_2083)), (3, .int (nI i)), (2, .int (maxF (tb set_) (fun i => lkF set_ tf i 6) i)), (0, .ref mo), (1, .int set_)]) hx hb dX11_mostAlike_66 hl (k := 1) rfl rfl (by decide) rfl ?_
                  clear hl ls; intro ls hl
                  refine lv_goto (tgt := 16) hx hb dX11_mostAlike_69 (by decide) ?_
                  exact ihK_2070 (j + 1) ((nI j) + 1) (lk + y_2083) (by exact nI_1 _) (by first | omega | assumption | (simp; done)) (by (simp only [ey_2083]; rw [if_pos hti] at hq ⊢; exact lk_s hq)) (by omega) _ _ _ hW (lv_sub hl [0, 1, 2, 3, 4, 5] rfl)
                refine lv_if_eq (tgt := 62) hx hb dX11_mostAlike_39 (by decide) (fun c_2082 => ?_) (fun c_2082 => ?_)
                · refine lv_iconst (v := 0) hx hb dX11_mostAlike_62 (by decide) ?_
                  exact J_2084 0 (by first | (simp only [c_2082, if_true, if_false, reduceIte]; done) | (simp [c_2082]; done) | rfl | (rw [if_pos c_2082]; done)) _ _ _ hW (lv_sub hl [0, 1, 2, 3, 4, 5] rfl)
                · refine lv_aload_n hx hb dX11_mostAlike_42 rfl (lv_at hl 4 rfl) ?_
                  refine g_get (k := 8) (v := .ref te) C hW 0 rfl rfl jnX11 (by decide) k_fl_X11_33 rfl dX11_mostAlike_43 ?_
                  refine lv_iload_n hx hb dX11_mostAlike_46 rfl (lv_at hl 2 rfl) ?_
                  refine g_ald C hW 1 rfl (ix_in (show (nI i) = nI i from (by first | rfl | (simp only [nI_lit, nI_add, pk_mul]; done) | (simp only [nI_lit, nI_add, pk_mul]; congr 1; omega))) (by omega) (by omega)) dX11_mostAlike_47 ?_
                  refine lv_as (y := tf i) (by rw [show (nI i).toNatClampNeg = i from nI_clamp (by omega)]) ?_
                  refine lv_aload_n hx hb dX11_mostAlike_48 rfl (lv_at hl 4 rfl) ?_
                  refine g_get (k := 8) (v := .ref te) C hW 0 rfl rfl jnX11 (by decide) k_fl_X11_33 rfl dX11_mostAlike_49 ?_
                  refine lv_iload hx hb dX11_mostAlike_52 (lv_at hl 0 rfl) ?_
                  refine g_ald C hW 1 rfl (ix_in (show (nI j) = nI j from (by first | rfl | (simp only [nI_lit, nI_add, pk_mul]; done) | (simp only [nI_lit, nI_add, pk_mul]; congr 1; omega))) (by omega) (by omega)) dX11_mostAlike_54 ?_
                  refine lv_as (y := tf j) (by rw [show (nI j).toNatClampNeg = j from nI_clamp (by omega)]) ?_
                  refine lv_icmp_ne (tgt := 62) hx hb dX11_mostAlike_55 (by decide) (fun c_2085 => ?_) (fun c_2085 => ?_)
                  · refine lv_iconst (v := 0) hx hb dX11_mostAlike_62 (by decide) ?_
                    exact J_2084 0 (by first | (simp only [c_2082, c_2085, if_true, if_false, reduceIte]; done) | (simp [c_2082, c_2085]; done) | rfl | (rw [if_neg c_2082, if_neg c_2085]; done)) _ _ _ hW (lv_sub hl [0, 1, 2, 3, 4, 5] rfl)
                  · refine lv_iconst (v := 1) hx hb dX11_mostAlike_58 (by decide) ?_
                    refine lv_goto (tgt := 63) hx hb dX11_mostAlike_59 (by decide) ?_
                    exact J_2084 1 (by first | (simp only [c_2082, c_2085, if_true, if_false, reduceIte]; done) | (simp [c_2082, c_2085]; done) | rfl | (rw [if_neg c_2082, if_pos c_2085]; done)) _ _ _ hW (lv_sub hl [0, 1, 2, 3, 4, 5] rfl)
        exact K_2070 _ 0 0 0 (by first | exact rfl | (simp; done)) (by first | omega | assumption | (simp; done)) (by (cases tb set_ i <;> rfl)) (Nat.lt_succ_self _) _ _ _ hW (lv_sub hl [0, 1, 2, 3, 4, 5] rfl)
  exact K_2066 _ 0 0 0 (by first | exact rfl | (simp; done)) (by exact rfl) (by first | omega | assumption | (simp; done)) (Nat.lt_succ_self _) _ _ _ hW (lv_sub hl [0, 1, 2, 3] rfl)
set_option maxHeartbeats 4000000 in
set_option maxRecDepth 100000 in
theorem c_X11_is (l : Launch) (G : gT) (mo al ke ik rq so ha te bt an vs : Nat) (mab mbe : Int64) (bL tA tL tK tV : Int32) (a : Nat → Int32) (nn : Nat) (e2 : a 2 = nI nn) (ho : nn ≤ 6) : MI l G yX11_is cX11_is 1 .int ({ frames := 2, cells := 0, slots := 0, locals := 50 }) [.ref mo] [(mo, .inr (9, [.ref al, .ref ke, .ref ik, .ref rq, .long mab, .long mbe, .ref so, .ref ha, .ref te, .ref bt, .int bL, .int tA, .int tL, .int tK, .int tV, .ref an, .ref vs])), (al, .inl (G.2.1, 159, .inl a))] (fun (r : Int32) w1 => (r = kcA a nn) ∧ w1 = [(mo, .inr (9, [.ref al, .ref ke, .ref ik, .ref rq, .long mab, .long mbe, .ref so, .ref ha, .ref te, .ref bt, .int bL, .int tA, .int tL, .int tK, .int tV, .ref an, .ref vs])), (al, .inl (G.2.1, 159, .inl a))]) := by
  refine MI.mk (by decide) (Nat.le_of_ble_eq_true rfl) ?_
  intro p_ e_ s_ m_ ar_ be_ me_ cd_ A_ ls C hrt hW hl
  have hx := C.1; have hb := C.2.1; have hown := C.2.2.2.1; have ht := C.2.2.2.2.1
  replace hl : lv_has ls 1 [(0, .ref mo)] := hl
  generalize hQ : MQ be_ _ ar_ s_ 0 0 A_ = Q
  refine lv_aload_n hx hb dX11_is_0 rfl (lv_at hl 0 rfl) ?_
  refine g_fi C hW [0, 1] rfl (g_runV (As := []) (rest := []) (wc := [(mo, .inr (9, [.ref al, .ref ke, .ref ik, .ref rq, .long mab, .long mbe, .ref so, .ref ha, .ref te, .ref bt, .int bL, .int tA, .int tL, .int tK, .int tV, .ref an, .ref vs])), (al, .inl (G.2.1, 159, .inl a))]) (q0 := 0) (ci := 9) C hW hl (c_X11_kindsOfCock l G mo al ke ik rq so ha te bt an vs mab mbe bL tA tL tK tV a nn (by first | assumption | omega) (by first | assumption | omega) _) k_ml_X11_184 q_X11_kindsOfCock (by decide) [0, 1] rfl rfl rfl rfl rfl rfl (Nat.le_of_ble_eq_true rfl) dX11_is_1 (by decide)) (fun r_2086 er_2086 => ?_)
  clear hW; intro H locs hW
  refine lv_as (y := kcA a nn) er_2086 ?_
  clear er_2086 r_2086
  subst hQ
  exact g_iret (v := (kcA a nn)) C hW hrt ⟨by rfl, rfl⟩ dX11_is_4
