set_option maxHeartbeats 4000000 in
set_option maxRecDepth 100000 in
theorem c_X11_strikerIn (l : Launch) (G : gT) (mo al ke ik rq so ha te bt an vs : Nat) (mab mbe : Int64) (bL tA tL tK tV : Int32) (a : Nat → Int32) (sv : Nat → Int32) (n hr td k m f0 : Nat) (e0 : a 0 = nI n) (hn : n ≤ 7) (e12 : a 12 = nI hr) (hh : hr < 10000) (e8 : a 8 = nI f0) (hf : f0 < 2) (hSo : soJ a n hr td sv 0 0 0) (hkm : k < m ∧ m ≤ 20) (hok : ∀ h, h < k + 1 → nI m < soD a n hr td (20 - (h + 1)) (skR a n hr td m f0 h).1 (skR a n hr td m f0 h).2.1 → wfN a n hr td h (skR a n hr td m f0 h).1 (skR a n hr td m f0 h).2.1 m < n) : MI l G yX11_strikerIn cX11_strikerIn 7 .int ({ frames := 3, cells := 0, slots := 0, locals := 72 }) [.ref mo, .int (nI k), .int (nI m)] [(mo, .inr (9, [.ref al, .ref ke, .ref ik, .ref rq, .long mab, .long mbe, .ref so, .ref ha, .ref te, .ref bt, .int bL, .int tA, .int tL, .int tK, .int tV, .ref an, .ref vs])), (al, .inl (G.2.1, 159, .inl a)), (so, .inl (G.2.1, 5376, .inl sv))] (fun (r : Int32) w1 => (r = (skR a n hr td m f0 (k + 1)).2.2) ∧ w1 = [(mo, .inr (9, [.ref al, .ref ke, .ref ik, .ref rq, .long mab, .long mbe, .ref so, .ref ha, .ref te, .ref bt, .int bL, .int tA, .int tL, .int tK, .int tV, .ref an, .ref vs])), (al, .inl (G.2.1, 159, .inl a)), (so, .inl (G.2.1, 5376, .inl sv))]) := by
  refine MI.mk (by decide) (Nat.le_of_ble_eq_true rfl) ?_
  intro p_ e_ s_ m_ ar_ be_ me_ cd_ A_ ls C hrt hW hl
  have hx := C.1; have hb := C.2.1; have hown := C.2.2.2.1; have ht := C.2.2.2.2.1
  replace hl : lv_has ls 7 [(0, .ref mo), (1, .int (nI k)), (2, .int (nI m))] := hl
  generalize hQ : MQ be_ _ ar_ s_ 0 0 A_ = Q
  have h2n := pw7 hn
  refine lv_aload_n hx hb dX11_strikerIn_0 rfl (lv_at hl 0 rfl) ?_
  refine g_get (k := 0) (v := .ref al) C hW 0 rfl rfl jnX11 (by decide) k_fl_X11_7 rfl dX11_strikerIn_1 ?_
  refine lv_bipush (v := 8) hx hb dX11_strikerIn_4 (by decide) ?_
  refine g_ald C hW 1 rfl (vp_in_nI (n := 8) (by omega) (by omega)) dX11_strikerIn_6 ?_
  refine lv_as (y := a 8) (rfl) ?_
  refine lv_istore_n (lv' := [(3, .int (a 8)), (0, .ref mo), (1, .int (nI k)), (2, .int (nI m))]) hx hb dX11_strikerIn_7 rfl hl (by decide) rfl ?_
  clear hl ls; intro ls hl
  refine lv_iconst (v := 0) hx hb dX11_strikerIn_8 (by decide) ?_
  refine lv_istore (lv' := [(4, .int 0), (3, .int (a 8)), (0, .ref mo), (1, .int (nI k)), (2, .int (nI m))]) hx hb dX11_strikerIn_9 hl (by decide) rfl ?_
  clear hl ls; intro ls hl
  refine lv_iconst (v := (-1)) hx hb dX11_strikerIn_11 (by decide) ?_
  refine lv_istore (lv' := [(5, .int (-1)), (4, .int 0), (3, .int (a 8)), (0, .ref mo), (1, .int (nI k)), (2, .int (nI m))]) hx hb dX11_strikerIn_12 hl (by decide) rfl ?_
  clear hl ls; intro ls hl
  refine lv_iconst (v := 0) hx hb dX11_strikerIn_14 (by decide) ?_
  refine lv_istore (lv' := [(6, .int 0), (5, .int (-1)), (4, .int 0), (3, .int (a 8)), (0, .ref mo), (1, .int (nI k)), (2, .int (nI m))]) hx hb dX11_strikerIn_15 hl (by decide) rfl ?_
  clear hl ls; intro ls hl
  have K_2696 : ∀ (n_ : Nat) (h : Nat) (x_2697 : Int32) (x_2698 : Int32) (x_2699 : Int32) (x_2700 : Int32) (_ : x_2697 = nI h) (_ : x_2698 = (skR a n hr td m f0 h).2.2) (_ : x_2699 = nI (skR a n hr td m f0 h).2.1) (_ : x_2700 = nI (skR a n hr td m f0 h).1) (_ : h ≤ k + 1) (_ : k + 1 - h < n_) (H : Heap) (locs : List Loc) (ls : Array Slot), Wd G A_ s_.heap [(mo, .inr (9, [.ref al, .ref ke, .ref ik, .ref rq, .long mab, .long mbe, .ref so, .ref ha, .ref te, .ref bt, .int bL, .int tA, .int tL, .int tK, .int tV, .ref an, .ref vs])), (al, .inl (G.2.1, 159, .inl a)), (so, .inl (G.2.1, 5376, .inl sv))] H locs → lv_has ls 7 [(6, .int x_2697), (5, .int x_2698), (4, .int x_2699), (3, .int x_2700), (0, .ref mo), (1, .int (nI k)), (2, .int (nI m))] → W p_ l e_ ({ frames := 3, cells := 0, slots := 0, locals := 72 }) s_ m_ ar_ be_ me_ cd_ H locs 0 0 Q (F0 m_ 17 ls []) := by
    intro n_
    induction n_ with
    | zero => intro h x_2697 x_2698 x_2699 x_2700 ex_2697 ex_2698 ex_2699 ex_2700 hh9 hm_; exact absurd hm_ (Nat.not_lt_zero _)
    | succ n_ ihK_2696 =>
      intro h x_2697 x_2698 x_2699 x_2700 ex_2697 ex_2698 ex_2699 ex_2700 hh9 hm_ H locs ls hW hl
      subst ex_2697
      subst ex_2698
      subst ex_2699
      subst ex_2700
      refine lv_iload hx hb dX11_strikerIn_17 (lv_at hl 0 rfl) ?_
      refine lv_iload_n hx hb dX11_strikerIn_19 rfl (lv_at hl 5 rfl) ?_
      refine lv_icmp_gt (tgt := 136) hx hb dX11_strikerIn_20 (by decide) (fun c_2701 => ?_) (fun c_2701 => ?_)
      · replace c_2701 := Int32.not_le.mpr c_2701
        have c_2701n : ¬ h ≤ k := fun q => c_2701 ((nI_leI (a := h) (b := k) (by omega) (by omega)).mpr q)
        refine lv_iload hx hb dX11_strikerIn_136 (lv_at hl 1 rfl) ?_
        subst hQ
        exact g_iret (v := ((skR a n hr td m f0 h).2.2)) C hW hrt ⟨by (rw [show h = k + 1 by omega]), rfl⟩ dX11_strikerIn_138
      · replace c_2701 := Int32.not_lt.mp c_2701
        have c_2701n : h ≤ k := (nI_leI (a := h) (b := k) (by omega) (by omega)).mp c_2701
        obtain ⟨hb1, hb2⟩ := skR_b hf hok h (by omega)
        refine lv_iconst (v := (-1)) hx hb dX11_strikerIn_23 (by decide) ?_
        refine lv_istore (lv' := [(5, .int (-1)), (6, .int (nI h)), (4, .int (nI (skR a n hr td m f0 h).2.1)), (3, .int (nI (skR a n hr td m f0 h).1)), (0, .ref mo), (1, .int (nI k)), (2, .int (nI m))]) hx hb dX11_strikerIn_24 hl (by decide) rfl ?_
        clear hl ls; intro ls hl
        refine lv_aload_n hx hb dX11_strikerIn_26 rfl (lv_at hl 4 rfl) ?_
        refine g_get (k := 6) (v := .ref so) C hW 0 rfl rfl jnX11 (by decide) k_fl_X11_27 rfl dX11_strikerIn_27 ?_
        refine lv_iload hx hb dX11_strikerIn_30 (lv_at hl 1 rfl) ?_
        refine lv_iconst (v := 1) hx hb dX11_strikerIn_32 (by decide) ?_
        refine lv_iadd hx hb dX11_strikerIn_33 ?_
        refine lv_as (y := nI (h + 1)) (nI_1 h) ?_
        refine lv_iload_n hx hb dX11_strikerIn_34 rfl (lv_at hl 3 rfl) ?_
        refine lv_iload hx hb dX11_strikerIn_35 (lv_at hl 2 rfl) ?_
        refine g_fi C hW [] rfl (g_runS (As := [.int (nI (h + 1)), .int (nI (skR a n hr td m f0 h).1), .int (nI (skR a n hr td m f0 h).2.1)]) (rest := [.ref so]) (wc := []) C hW hl (c_X11_spot l G (h + 1) ((skR a n hr td m f0 h).1) ((skR a n hr td m f0 h).2.1)  _) k_ml_X11_146 q_X11_spot (by decide) [] rfl rfl rfl rfl (Nat.le_of_ble_eq_true rfl) dX11_strikerIn_37 (by decide)) (fun r_2702 er_2702 => ?_)
        clear hW H locs; intro H locs hW
        refine lv_as (y := nI (256 * (h + 1) + 128 * ((skR a n hr td m f0 h).1) + ((skR a n hr td m f0 h).2.1))) er_2702 ?_
        clear er_2702 r_2702
        refine g_ald C hW 2 rfl (ix_in (show (nI (256 * (h + 1) + 128 * ((skR a n hr td m f0 h).1) + ((skR a n hr td m f0 h).2.1))) = nI (256 * (h + 1) + 128 * (skR a n hr td m f0 h).1 + (skR a n hr td m f0 h).2.1) from (by first | rfl | (simp only [nI_lit, nI_add, pk_mul]; done) | (simp only [nI_lit, nI_add, pk_mul]; congr 1; omega))) (by omega) (by omega)) dX11_strikerIn_40 ?_
        refine lv_as (y := sv (256 * (h + 1) + 128 * (skR a n hr td m f0 h).1 + (skR a n hr td m f0 h).2.1)) (by rw [show (nI (256 * (h + 1) + 128 * ((skR a n hr td m f0 h).1) + ((skR a n hr td m f0 h).2.1))).toNatClampNeg = (256 * (h + 1) + 128 * (skR a n hr td m f0 h).1 + (skR a n hr td m f0 h).2.1) from ix_cl (show (nI (256 * (h + 1) + 128 * ((skR a n hr td m f0 h).1) + ((skR a n hr td m f0 h).2.1))) = nI (256 * (h + 1) + 128 * (skR a n hr td m f0 h).1 + (skR a n hr td m f0 h).2.1) from (by first | rfl | (simp only [nI_lit, nI_add, pk_mul]; done) | (simp only [nI_lit, nI_add, pk_mul]; congr 1; omega))) (Nat.lt_of_lt_of_le (m := 5376) (by omega) (by omega))]) ?_
        refine lv_as (y := (soD a n hr td (20 - (h + 1)) (skR a n hr td m f0 h).1 (skR a n hr td m f0 h).2.1)) (hSo (h + 1) _ _ hb1 hb2 (Or.inl ⟨Nat.zero_le _, by omega⟩)) ?_
        refine lv_iload_n hx hb dX11_strikerIn_41 rfl (lv_at hl 6 rfl) ?_
        refine lv_icmp_le (tgt := 130) hx hb dX11_strikerIn_42 (by decide) (fun c_2703 => ?_) (fun c_2703 => ?_)
        · replace c_2703 := Int32.not_lt.mpr c_2703
          have hsk : (skR a n hr td m f0 (h + 1)) = ((skR a n hr td m f0 h).1, (skR a n hr td m f0 h).2.1, -1) := by rw [skR, if_neg c_2703]
          refine lv_iinc (v := (nI h) + 1) (lv' := [(6, .int ((nI h) + 1)), (5, .int (-1)), (4, .int (nI (skR a n hr td m f0 h).2.1)), (3, .int (nI (skR a n hr td m f0 h).1)), (0, .ref mo), (1, .int (nI k)), (2, .int (nI m))]) hx hb dX11_strikerIn_130 hl (k := 1) rfl rfl (by decide) rfl ?_
          clear hl ls; intro ls hl
          refine lv_goto (tgt := 17) hx hb dX11_strikerIn_133 (by decide) ?_
          exact ihK_2696 (h + 1) ((nI h) + 1) (-1) (nI (skR a n hr td m f0 h).2.1) (nI (skR a n hr td m f0 h).1) (by exact nI_1 _) (by (rw [hsk])) (by (rw [hsk])) (by (rw [hsk])) (by first | omega | assumption | (simp; done)) (by omega) _ _ _ hW (lv_sub hl [0, 1, 2, 3, 4, 5, 6] rfl)
        · replace c_2703 := Int32.not_le.mp c_2703
          have hgt := c_2703
          have hwn := hok h (by omega) hgt
          refine lv_iconst (v := 0) hx hb dX11_strikerIn_45 (by decide) ?_
          refine lv_istore (lv' := [(5, .int 0), (6, .int (nI h)), (4, .int (nI (skR a n hr td m f0 h).2.1)), (3, .int (nI (skR a n hr td m f0 h).1)), (0, .ref mo), (1, .int (nI k)), (2, .int (nI m))]) hx hb dX11_strikerIn_46 hl (by decide) rfl ?_
          clear hl ls; intro ls hl
          have K_2704 : ∀ (n_ : Nat) (pw : Nat) (x_2705 : Int32) (_ : x_2705 = nI pw) (_ : ∀ i, i < pw → wfQ a n hr td h (skR a n hr td m f0 h).1 (skR a n hr td m f0 h).2.1 m i = false) (_ : n - pw < n_) (H : Heap) (locs : List Loc) (ls : Array Slot), Wd G A_ s_.heap [(mo, .inr (9, [.ref al, .ref ke, .ref ik, .ref rq, .long mab, .long mbe, .ref so, .ref ha, .ref te, .ref bt, .int bL, .int tA, .int tL, .int tK, .int tV, .ref an, .ref vs])), (al, .inl (G.2.1, 159, .inl a)), (so, .inl (G.2.1, 5376, .inl sv))] H locs → lv_has ls 7 [(5, .int x_2705), (6, .int (nI h)), (4, .int (nI (skR a n hr td m f0 h).2.1)), (3, .int (nI (skR a n hr td m f0 h).1)), (0, .ref mo), (1, .int (nI k)), (2, .int (nI m))] → W p_ l e_ ({ frames := 3, cells := 0, slots := 0, locals := 72 }) s_ m_ ar_ be_ me_ cd_ H locs 0 0 Q (F0 m_ 48 ls []) := by
            intro n_
            induction n_ with
            | zero => intro pw x_2705 ex_2705 hz hm_; exact absurd hm_ (Nat.not_lt_zero _)
            | succ n_ ihK_2704 =>
              intro pw x_2705 ex_2705 hz hm_ H locs ls hW hl
              subst ex_2705
              have hpw := wf_le hwn hz
              refine lv_aload_n hx hb dX11_strikerIn_48 rfl (lv_at hl 4 rfl) ?_
              refine g_get (k := 0) (v := .ref al) C hW 0 rfl rfl jnX11 (by decide) k_fl_X11_7 rfl dX11_strikerIn_49 ?_
              refine lv_bipush (v := 26) hx hb dX11_strikerIn_52 (by decide) ?_
              refine lv_iload hx hb dX11_strikerIn_54 (lv_at hl 0 rfl) ?_
              refine lv_iadd hx hb dX11_strikerIn_56 ?_
              refine g_ald C hW 1 rfl (ix_in (show (26 + (nI pw)) = nI (26 + pw) from (by first | rfl | (simp only [nI_lit, nI_add, pk_mul]; done) | (simp only [nI_lit, nI_add, pk_mul]; congr 1; omega))) (by omega) (by omega)) dX11_strikerIn_57 ?_
              refine lv_as (y := a (26 + pw)) (by rw [show (26 + (nI pw)).toNatClampNeg = (26 + pw) from ix_cl (show (26 + (nI pw)) = nI (26 + pw) from (by first | rfl | (simp only [nI_lit, nI_add, pk_mul]; done) | (simp only [nI_lit, nI_add, pk_mul]; congr 1; omega))) (Nat.lt_of_lt_of_le (m := 159) (by omega) (by omega))]) ?_
              refine lv_iload_n hx hb dX11_strikerIn_58 rfl (lv_at hl 3 rfl) ?_
              refine lv_icmp_ne (tgt := 111) hx hb dX11_strikerIn_59 (by decide) (fun c_2706 => ?_) (fun c_2706 => ?_)
              · have hwno : wfQ a n hr td h (skR a n hr td m f0 h).1 (skR a n hr td m f0 h).2.1 m pw = false := by first | exact wf_no (Or.inl c_2706) | exact wf_no (Or.inr (Or.inl (bI_0.mp c_2706))) | exact wf_no (Or.inr (Or.inr c_2706))
                refine lv_iinc (v := (nI pw) + 1) (lv' := [(5, .int ((nI pw) + 1)), (6, .int (nI h)), (4, .int (nI (skR a n hr td m f0 h).2.1)), (3, .int (nI (skR a n hr td m f0 h).1)), (0, .ref mo), (1, .int (nI k)), (2, .int (nI m))]) hx hb dX11_strikerIn_111 hl (k := 0) rfl rfl (by decide) rfl ?_
                clear hl ls; intro ls hl
                refine lv_goto (tgt := 48) hx hb dX11_strikerIn_114 (by decide) ?_
                exact ihK_2704 (pw + 1) ((nI pw) + 1) (by exact nI_1 _) (by exact lt_s hz hwno) (by omega) _ _ _ hW (lv_sub hl [0, 1, 2, 3, 4, 5, 6] rfl)
              · refine lv_aload_n hx hb dX11_strikerIn_62 rfl (lv_at hl 4 rfl) ?_
                refine g_get (k := 0) (v := .ref al) C hW 0 rfl rfl jnX11 (by decide) k_fl_X11_7 rfl dX11_strikerIn_63 ?_
                refine lv_iload hx hb dX11_strikerIn_66 (lv_at hl 0 rfl) ?_
                refine lv_iload_n hx hb dX11_strikerIn_68 rfl (lv_at hl 3 rfl) ?_
                refine lv_aload_n hx hb dX11_strikerIn_69 rfl (lv_at hl 4 rfl) ?_
                refine g_get (k := 0) (v := .ref al) C hW 0 rfl rfl jnX11 (by decide) k_fl_X11_7 rfl dX11_strikerIn_70 ?_
                refine lv_bipush (v := 12) hx hb dX11_strikerIn_73 (by decide) ?_
                refine g_ald C hW 1 rfl (vp_in_nI (n := 12) (by omega) (by omega)) dX11_strikerIn_75 ?_
                refine lv_as (y := a 12) (rfl) ?_
                refine lv_as (y := nI hr) (e12) ?_
                refine lv_iload hx hb dX11_strikerIn_76 (lv_at hl 1 rfl) ?_
                refine lv_iadd hx hb dX11_strikerIn_78 ?_
                refine lv_as (y := nI (hr + h)) (nI_add _ _) ?_
                refine g_fi C hW [1] rfl (g_runS (As := [.ref al, .int (nI pw), .int (nI (skR a n hr td m f0 h).1), .int (nI (hr + h))]) (rest := []) (wc := [(al, .inl (G.2.1, 159, .inl a))]) C hW hl (c_X11_carries l G al 159 a pw (hr + h) (nI (skR a n hr td m f0 h).1) (by first | assumption | omega) (by first | assumption | omega) (by first | assumption | omega) _) k_ml_X11_111 q_X11_carries (by decide) [1] rfl rfl rfl rfl (Nat.le_of_ble_eq_true rfl) dX11_strikerIn_79 (by decide)) (fun r_2707 er_2707 => ?_)
                clear hW H locs; intro H locs hW
                refine lv_as (y := bI (crA a pw (hr + h) (nI (skR a n hr td m f0 h).1))) er_2707 ?_
                clear er_2707 r_2707
                refine lv_if_eq (tgt := 111) hx hb dX11_strikerIn_82 (by decide) (fun c_2708 => ?_) (fun c_2708 => ?_)
                · have hwno : wfQ a n hr td h (skR a n hr td m f0 h).1 (skR a n hr td m f0 h).2.1 m pw = false := by first | exact wf_no (Or.inl c_2708) | exact wf_no (Or.inr (Or.inl (bI_0.mp c_2708))) | exact wf_no (Or.inr (Or.inr c_2708))
                  refine lv_iinc (v := (nI pw) + 1) (lv' := [(5, .int ((nI pw) + 1)), (6, .int (nI h)), (4, .int (nI (skR a n hr td m f0 h).2.1)), (3, .int (nI (skR a n hr td m f0 h).1)), (0, .ref mo), (1, .int (nI k)), (2, .int (nI m))]) hx hb dX11_strikerIn_111 hl (k := 0) rfl rfl (by decide) rfl ?_
                  clear hl ls; intro ls hl
                  refine lv_goto (tgt := 48) hx hb dX11_strikerIn_114 (by decide) ?_
                  exact ihK_2704 (pw + 1) ((nI pw) + 1) (by exact nI_1 _) (by exact lt_s hz hwno) (by omega) _ _ _ hW (lv_sub hl [0, 1, 2, 3, 4, 5, 6] rfl)
                · have hor : (skR a n hr td m f0 h).2.1 ||| 2 ^ pw < 2 ^ n := or_lt hb2 (by omega)
                  refine lv_aload_n hx hb dX11_strikerIn_85 rfl (lv_at hl 4 rfl) ?_
                  refine g_get (k := 6) (v := .ref so) C hW 0 rfl rfl jnX11 (by decide) k_fl_X11_27 rfl dX11_strikerIn_86 ?_
                  refine lv_iload hx hb dX11_strikerIn_89 (lv_at hl 1 rfl) ?_
                  refine lv_iconst (v := 1) hx hb dX11_strikerIn_91 (by decide) ?_
                  refine lv_iadd hx hb dX11_strikerIn_92 ?_
                  refine lv_as (y := nI (h + 1)) (nI_1 h) ?_
                  refine lv_iconst (v := 1) hx hb dX11_strikerIn_93 (by decide) ?_
                  refine lv_iload_n hx hb dX11_strikerIn_94 rfl (lv_at hl 3 rfl) ?_
                  refine lv_isub hx hb dX11_strikerIn_95 ?_
                  refine lv_as (y := nI (1 - (skR a n hr td m f0 h).1)) (hl_e hb1) ?_
                  refine lv_iload hx hb dX11_strikerIn_96 (lv_at hl 2 rfl) ?_
                  refine lv_iconst (v := 1) hx hb dX11_strikerIn_98 (by decide) ?_
                  refine lv_iload hx hb dX11_strikerIn_99 (lv_at hl 0 rfl) ?_
                  refine lv_ishl hx hb dX11_strikerIn_101 ?_
                  refine lv_ior hx hb dX11_strikerIn_102 ?_
                  refine lv_as (y := nI ((skR a n hr td m f0 h).2.1 ||| 2 ^ pw)) (or_e (by omega)) ?_
                  refine g_fi C hW [] rfl (g_runS (As := [.int (nI (h + 1)), .int (nI (1 - (skR a n hr td m f0 h).1)), .int (nI ((skR a n hr td m f0 h).2.1 ||| 2 ^ pw))]) (rest := [.ref so]) (wc := []) C hW hl (c_X11_spot l G (h + 1) (1 - (skR a n hr td m f0 h).1) ((skR a n hr td m f0 h).2.1 ||| 2 ^ pw)  _) k_ml_X11_146 q_X11_spot (by decide) [] rfl rfl rfl rfl (Nat.le_of_ble_eq_true rfl) dX11_strikerIn_103 (by decide)) (fun r_2709 er_2709 => ?_)
                  clear hW H locs; intro H locs hW
                  refine lv_as (y := nI (256 * (h + 1) + 128 * (1 - (skR a n hr td m f0 h).1) + ((skR a n hr td m f0 h).2.1 ||| 2 ^ pw))) er_2709 ?_
                  clear er_2709 r_2709
                  refine g_ald C hW 2 rfl (ix_in (show (nI (256 * (h + 1) + 128 * (1 - (skR a n hr td m f0 h).1) + ((skR a n hr td m f0 h).2.1 ||| 2 ^ pw))) = nI (256 * (h + 1) + 128 * (1 - (skR a n hr td m f0 h).1) + ((skR a n hr td m f0 h).2.1 ||| 2 ^ pw)) from (by first | rfl | (simp only [nI_lit, nI_add, pk_mul]; done) | (simp only [nI_lit, nI_add, pk_mul]; congr 1; omega))) (by omega) (by omega)) dX11_strikerIn_106 ?_
                  refine lv_as (y := sv (256 * (h + 1) + 128 * (1 - (skR a n hr td m f0 h).1) + ((skR a n hr td m f0 h).2.1 ||| 2 ^ pw))) (by rw [show (nI (256 * (h + 1) + 128 * (1 - (skR a n hr td m f0 h).1) + ((skR a n hr td m f0 h).2.1 ||| 2 ^ pw))).toNatClampNeg = (256 * (h + 1) + 128 * (1 - (skR a n hr td m f0 h).1) + ((skR a n hr td m f0 h).2.1 ||| 2 ^ pw)) from ix_cl (show (nI (256 * (h + 1) + 128 * (1 - (skR a n hr td m f0 h).1) + ((skR a n hr td m f0 h).2.1 ||| 2 ^ pw))) = nI (256 * (h + 1) + 128 * (1 - (skR a n hr td m f0 h).1) + ((skR a n hr td m f0 h).2.1 ||| 2 ^ pw)) from (by first | rfl | (simp only [nI_lit, nI_add, pk_mul]; done) | (simp only [nI_lit, nI_add, pk_mul]; congr 1; omega))) (Nat.lt_of_lt_of_le (m := 5376) (by omega) (by omega))]) ?_
                  refine lv_as (y := soD a n hr td (20 - (h + 1)) (1 - (skR a n hr td m f0 h).1) ((skR a n hr td m f0 h).2.1 ||| 2 ^ pw)) (hSo (h + 1) _ _ (by omega) hor (Or.inl ⟨Nat.zero_le _, by omega⟩)) ?_
                  refine lv_iload_n hx hb dX11_strikerIn_107 rfl (lv_at hl 6 rfl) ?_
                  refine lv_icmp_le (tgt := 117) hx hb dX11_strikerIn_108 (by decide) (fun c_2710 => ?_) (fun c_2710 => ?_)
                  · replace c_2710 := Int32.not_lt.mpr c_2710
                    have hwf := wf_eq hwn hz (wf_yes c_2706 (bI_ne.mp c_2708) c_2710)
                    have hsk : (skR a n hr td m f0 (h + 1)) = (1 - (skR a n hr td m f0 h).1, (skR a n hr td m f0 h).2.1 ||| 2 ^ pw, nI pw) := by rw [skR, if_pos hgt, hwf]
                    refine lv_iconst (v := 1) hx hb dX11_strikerIn_117 (by decide) ?_
                    refine lv_iload_n hx hb dX11_strikerIn_118 rfl (lv_at hl 3 rfl) ?_
                    refine lv_isub hx hb dX11_strikerIn_119 ?_
                    refine lv_as (y := nI (1 - (skR a n hr td m f0 h).1)) (hl_e hb1) ?_
                    refine lv_istore_n (lv' := [(3, .int (nI (1 - (skR a n hr td m f0 h).1))), (5, .int (nI pw)), (6, .int (nI h)), (4, .int (nI (skR a n hr td m f0 h).2.1)), (0, .ref mo), (1, .int (nI k)), (2, .int (nI m))]) hx hb dX11_strikerIn_120 rfl hl (by decide) rfl ?_
                    clear hl ls; intro ls hl
                    refine lv_iload hx hb dX11_strikerIn_121 (lv_at hl 3 rfl) ?_
                    refine lv_iconst (v := 1) hx hb dX11_strikerIn_123 (by decide) ?_
                    refine lv_iload hx hb dX11_strikerIn_124 (lv_at hl 1 rfl) ?_
                    refine lv_ishl hx hb dX11_strikerIn_126 ?_
                    refine lv_ior hx hb dX11_strikerIn_127 ?_
                    refine lv_as (y := nI ((skR a n hr td m f0 h).2.1 ||| 2 ^ pw)) (or_e (by omega)) ?_
                    refine lv_istore (lv' := [(4, .int (nI ((skR a n hr td m f0 h).2.1 ||| 2 ^ pw))), (3, .int (nI (1 - (skR a n hr td m f0 h).1))), (5, .int (nI pw)), (6, .int (nI h)), (0, .ref mo), (1, .int (nI k)), (2, .int (nI m))]) hx hb dX11_strikerIn_128 hl (by decide) rfl ?_
                    clear hl ls; intro ls hl
                    refine lv_iinc (v := (nI h) + 1) (lv' := [(6, .int ((nI h) + 1)), (4, .int (nI ((skR a n hr td m f0 h).2.1 ||| 2 ^ pw))), (3, .int (nI (1 - (skR a n hr td m f0 h).1))), (5, .int (nI pw)), (0, .ref mo), (1, .int (nI k)), (2, .int (nI m))]) hx hb dX11_strikerIn_130 hl (k := 3) rfl rfl (by decide) rfl ?_
                    clear hl ls; intro ls hl
                    refine lv_goto (tgt := 17) hx hb dX11_strikerIn_133 (by decide) ?_
                    exact ihK_2696 (h + 1) ((nI h) + 1) (nI pw) (nI ((skR a n hr td m f0 h).2.1 ||| 2 ^ pw)) (nI (1 - (skR a n hr td m f0 h).1)) (by exact nI_1 _) (by (rw [hsk])) (by (rw [hsk])) (by (rw [hsk])) (by first | omega | assumption | (simp; done)) (by omega) _ _ _ hW (lv_sub hl [0, 3, 1, 2, 4, 5, 6] rfl)
                  · replace c_2710 := Int32.not_le.mp c_2710
                    have hwno : wfQ a n hr td h (skR a n hr td m f0 h).1 (skR a n hr td m f0 h).2.1 m pw = false := by first | exact wf_no (Or.inl c_2710) | exact wf_no (Or.inr (Or.inl (bI_0.mp c_2710))) | exact wf_no (Or.inr (Or.inr c_2710))
                    refine lv_iinc (v := (nI pw) + 1) (lv' := [(5, .int ((nI pw) + 1)), (6, .int (nI h)), (4, .int (nI (skR a n hr td m f0 h).2.1)), (3, .int (nI (skR a n hr td m f0 h).1)), (0, .ref mo), (1, .int (nI k)), (2, .int (nI m))]) hx hb dX11_strikerIn_111 hl (k := 0) rfl rfl (by decide) rfl ?_
                    clear hl ls; intro ls hl
                    refine lv_goto (tgt := 48) hx hb dX11_strikerIn_114 (by decide) ?_
                    exact ihK_2704 (pw + 1) ((nI pw) + 1) (by exact nI_1 _) (by exact lt_s hz hwno) (by omega) _ _ _ hW (lv_sub hl [0, 1, 2, 3, 4, 5, 6] rfl)
          exact K_2704 _ 0 0 (by first | exact rfl | (simp; done)) (by exact lt_0) (Nat.lt_succ_self _) _ _ _ hW (lv_sub hl [0, 1, 2, 3, 4, 5, 6] rfl)
  exact K_2696 _ 0 0 (-1) 0 (a 8) (by first | exact rfl | (simp; done)) (by exact rfl) (by exact rfl) (by exact e8) (by first | omega | assumption | (simp; done)) (Nat.lt_succ_self _) _ _ _ hW (lv_sub hl [0, 1, 2, 3, 4, 5, 6] rfl)
