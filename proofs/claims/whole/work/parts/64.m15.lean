set_option maxHeartbeats 4000000 in
set_option maxRecDepth 100000 in
theorem c_X11_counted (l : Launch) (G : gT) (mo al ke ik rq so ha te bt an vs : Nat) (mab mbe : Int64) (tA tL tK tV : Int32) (tn : Nat) (a : Nat → Int32) (n j : Nat) (e0 : a 0 = nI n) (hn : n ≤ 7) (hj : j < 9) : MI l G yX11_counted cX11_counted 4 .int ({ frames := 1, cells := 0, slots := 0, locals := 20 }) [.ref mo, .int (nI j)] [(mo, .inr (9, [.ref al, .ref ke, .ref ik, .ref rq, .long mab, .long mbe, .ref so, .ref ha, .ref te, .ref bt, .int (nI tn), .int tA, .int tL, .int tK, .int tV, .ref an, .ref vs])), (al, .inl (G.2.1, 159, .inl a))] (fun (r : Int32) w1 => (r = ctV a n tn j) ∧ w1 = [(mo, .inr (9, [.ref al, .ref ke, .ref ik, .ref rq, .long mab, .long mbe, .ref so, .ref ha, .ref te, .ref bt, .int (nI tn), .int tA, .int tL, .int tK, .int tV, .ref an, .ref vs])), (al, .inl (G.2.1, 159, .inl a))]) := by
  refine MI.mk (by decide) (Nat.le_of_ble_eq_true rfl) ?_
  intro p_ e_ s_ m_ ar_ be_ me_ cd_ A_ ls C hrt hW hl
  have hx := C.1; have hb := C.2.1; have hown := C.2.2.2.1; have ht := C.2.2.2.2.1
  replace hl : lv_has ls 4 [(0, .ref mo), (1, .int (nI j))] := hl
  generalize hQ : MQ be_ _ ar_ s_ 0 0 A_ = Q
  refine lv_iconst (v := 0) hx hb dX11_counted_0 (by decide) ?_
  refine lv_istore_n (lv' := [(2, .int 0), (0, .ref mo), (1, .int (nI j))]) hx hb dX11_counted_1 rfl hl (by decide) rfl ?_
  clear hl ls; intro ls hl
  refine lv_iconst (v := 0) hx hb dX11_counted_2 (by decide) ?_
  refine lv_istore_n (lv' := [(3, .int 0), (2, .int 0), (0, .ref mo), (1, .int (nI j))]) hx hb dX11_counted_3 rfl hl (by decide) rfl ?_
  clear hl ls; intro ls hl
  have K_2613 : ∀ (n_ : Nat) (q9 : Nat) (x_2614 : Int32) (x_2615 : Int32) (_ : x_2614 = nI q9) (_ : x_2615 = smF (fun p => a (26 + p)) q9) (_ : q9 ≤ n) (_ : n - q9 < n_) (H : Heap) (locs : List Loc) (ls : Array Slot), Wd G A_ s_.heap [(mo, .inr (9, [.ref al, .ref ke, .ref ik, .ref rq, .long mab, .long mbe, .ref so, .ref ha, .ref te, .ref bt, .int (nI tn), .int tA, .int tL, .int tK, .int tV, .ref an, .ref vs])), (al, .inl (G.2.1, 159, .inl a))] H locs → lv_has ls 4 [(3, .int x_2614), (2, .int x_2615), (0, .ref mo), (1, .int (nI j))] → W p_ l e_ ({ frames := 1, cells := 0, slots := 0, locals := 20 }) s_ m_ ar_ be_ me_ cd_ H locs 0 0 Q (F0 m_ 4 ls []) := by
    intro n_
    induction n_ with
    | zero => intro q9 x_2614 x_2615 ex_2614 ex_2615 hq hm_; exact absurd hm_ (Nat.not_lt_zero _)
    | succ n_ ihK_2613 =>
      intro q9 x_2614 x_2615 ex_2614 ex_2615 hq hm_ H locs ls hW hl
      subst ex_2614
      subst ex_2615
      refine lv_iload_n hx hb dX11_counted_4 rfl (lv_at hl 0 rfl) ?_
      refine lv_aload_n hx hb dX11_counted_5 rfl (lv_at hl 2 rfl) ?_
      refine g_fi C hW [0, 1] rfl (g_runV (As := []) (rest := [.int (nI q9)]) (wc := [(mo, .inr (9, [.ref al, .ref ke, .ref ik, .ref rq, .long mab, .long mbe, .ref so, .ref ha, .ref te, .ref bt, .int (nI tn), .int tA, .int tL, .int tK, .int tV, .ref an, .ref vs])), (al, .inl (G.2.1, 159, .inl a))]) (q0 := 0) (ci := 9) C hW hl (c_X11_many l G mo al ke ik rq so ha te bt an vs mab mbe (nI tn) tA tL tK tV a n (by first | assumption | omega) _) k_ml_X11_49 q_X11_many (by decide) [0, 1] rfl rfl rfl rfl rfl rfl (Nat.le_of_ble_eq_true rfl) dX11_counted_6 (by decide)) (fun r_2616 er_2616 => ?_)
      clear hW H locs; intro H locs hW
      refine lv_as (y := nI n) er_2616 ?_
      clear er_2616 r_2616
      refine lv_icmp_ge (tgt := 30) hx hb dX11_counted_9 (by decide) (fun c_2617 => ?_) (fun c_2617 => ?_)
      · replace c_2617 := Int32.not_lt.mpr c_2617
        have c_2617n : ¬ q9 < n := fun q => c_2617 ((nI_ltI (a := q9) (b := n) (by omega) (by omega)).mpr q)
        obtain rfl : n = q9 := (show q9 = n from by omega).symm
        refine lv_iload_n hx hb dX11_counted_30 rfl (lv_at hl 3 rfl) ?_
        by_cases c_2618 : (nI j) = 0
        · refine lv_as c_2618 (lv_tableIn (tgt := 80) hx hb dX11_counted_31 (by decide) (by decide) rfl (by decide) ?_)
          refine lv_aload_n hx hb dX11_counted_80 rfl (lv_at hl 2 rfl) ?_
          refine g_fi C hW [0, 1] rfl (g_runV (As := []) (rest := []) (wc := [(mo, .inr (9, [.ref al, .ref ke, .ref ik, .ref rq, .long mab, .long mbe, .ref so, .ref ha, .ref te, .ref bt, .int (nI tn), .int tA, .int tL, .int tK, .int tV, .ref an, .ref vs])), (al, .inl (G.2.1, 159, .inl a))]) (q0 := 0) (ci := 9) C hW hl (c_X11_many l G mo al ke ik rq so ha te bt an vs mab mbe (nI tn) tA tL tK tV a n (by first | assumption | omega) _) k_ml_X11_49 q_X11_many (by decide) [0, 1] rfl rfl rfl rfl rfl rfl (Nat.le_of_ble_eq_true rfl) dX11_counted_81 (by decide)) (fun r_2619 er_2619 => ?_)
          clear hW H locs; intro H locs hW
          refine lv_as (y := nI n) er_2619 ?_
          clear er_2619 r_2619
          subst hQ
          exact g_iret (v := (nI n)) C hW hrt ⟨by first | (obtain rfl : j = 0 := (nI_eq (a := j) (b := 0) (by omega) (by omega)).mp c_2618; first | rfl | exact e0) | (obtain rfl : j = 1 := (nI_eq (a := j) (b := 1) (by omega) (by omega)).mp c_2618; first | rfl | exact e0) | (obtain rfl : j = 2 := (nI_eq (a := j) (b := 2) (by omega) (by omega)).mp c_2618; first | rfl | exact e0) | (obtain rfl : j = 3 := (nI_eq (a := j) (b := 3) (by omega) (by omega)).mp c_2618; first | rfl | exact e0) | (obtain rfl : j = 4 := (nI_eq (a := j) (b := 4) (by omega) (by omega)).mp c_2618; first | rfl | exact e0) | (obtain rfl : j = 5 := (nI_eq (a := j) (b := 5) (by omega) (by omega)).mp c_2618; first | rfl | exact e0) | (obtain rfl : j = 6 := (nI_eq (a := j) (b := 6) (by omega) (by omega)).mp c_2618; first | rfl | exact e0) | (obtain rfl : j = 7 := (nI_eq (a := j) (b := 7) (by omega) (by omega)).mp c_2618; first | rfl | exact e0) | (obtain rfl : j = 8 := (nI_eq (a := j) (b := 8) (by omega) (by omega)).mp c_2618; first | rfl | exact e0), rfl⟩ dX11_counted_84
        by_cases c_2620 : (nI j) = 1
        · refine lv_as c_2620 (lv_tableIn (tgt := 85) hx hb dX11_counted_31 (by decide) (by decide) rfl (by decide) ?_)
          refine lv_iload_n hx hb dX11_counted_85 rfl (lv_at hl 1 rfl) ?_
          subst hQ
          exact g_iret (v := (smF (fun p => a (26 + p)) n)) C hW hrt ⟨by first | (obtain rfl : j = 0 := (nI_eq (a := j) (b := 0) (by omega) (by omega)).mp c_2620; first | rfl | exact e0) | (obtain rfl : j = 1 := (nI_eq (a := j) (b := 1) (by omega) (by omega)).mp c_2620; first | rfl | exact e0) | (obtain rfl : j = 2 := (nI_eq (a := j) (b := 2) (by omega) (by omega)).mp c_2620; first | rfl | exact e0) | (obtain rfl : j = 3 := (nI_eq (a := j) (b := 3) (by omega) (by omega)).mp c_2620; first | rfl | exact e0) | (obtain rfl : j = 4 := (nI_eq (a := j) (b := 4) (by omega) (by omega)).mp c_2620; first | rfl | exact e0) | (obtain rfl : j = 5 := (nI_eq (a := j) (b := 5) (by omega) (by omega)).mp c_2620; first | rfl | exact e0) | (obtain rfl : j = 6 := (nI_eq (a := j) (b := 6) (by omega) (by omega)).mp c_2620; first | rfl | exact e0) | (obtain rfl : j = 7 := (nI_eq (a := j) (b := 7) (by omega) (by omega)).mp c_2620; first | rfl | exact e0) | (obtain rfl : j = 8 := (nI_eq (a := j) (b := 8) (by omega) (by omega)).mp c_2620; first | rfl | exact e0), rfl⟩ dX11_counted_86
        by_cases c_2621 : (nI j) = 2
        · refine lv_as c_2621 (lv_tableIn (tgt := 87) hx hb dX11_counted_31 (by decide) (by decide) rfl (by decide) ?_)
          refine lv_aload_n hx hb dX11_counted_87 rfl (lv_at hl 2 rfl) ?_
          refine g_get (k := 0) (v := .ref al) C hW 0 rfl rfl jnX11 (by decide) k_fl_X11_7 rfl dX11_counted_88 ?_
          refine lv_bipush (v := 12) hx hb dX11_counted_91 (by decide) ?_
          refine g_ald C hW 1 rfl (vp_in_nI (n := 12) (by omega) (by omega)) dX11_counted_93 ?_
          refine lv_as (y := a 12) (rfl) ?_
          subst hQ
          exact g_iret (v := (a 12)) C hW hrt ⟨by first | (obtain rfl : j = 0 := (nI_eq (a := j) (b := 0) (by omega) (by omega)).mp c_2621; first | rfl | exact e0) | (obtain rfl : j = 1 := (nI_eq (a := j) (b := 1) (by omega) (by omega)).mp c_2621; first | rfl | exact e0) | (obtain rfl : j = 2 := (nI_eq (a := j) (b := 2) (by omega) (by omega)).mp c_2621; first | rfl | exact e0) | (obtain rfl : j = 3 := (nI_eq (a := j) (b := 3) (by omega) (by omega)).mp c_2621; first | rfl | exact e0) | (obtain rfl : j = 4 := (nI_eq (a := j) (b := 4) (by omega) (by omega)).mp c_2621; first | rfl | exact e0) | (obtain rfl : j = 5 := (nI_eq (a := j) (b := 5) (by omega) (by omega)).mp c_2621; first | rfl | exact e0) | (obtain rfl : j = 6 := (nI_eq (a := j) (b := 6) (by omega) (by omega)).mp c_2621; first | rfl | exact e0) | (obtain rfl : j = 7 := (nI_eq (a := j) (b := 7) (by omega) (by omega)).mp c_2621; first | rfl | exact e0) | (obtain rfl : j = 8 := (nI_eq (a := j) (b := 8) (by omega) (by omega)).mp c_2621; first | rfl | exact e0), rfl⟩ dX11_counted_94
        by_cases c_2622 : (nI j) = 3
        · refine lv_as c_2622 (lv_tableIn (tgt := 95) hx hb dX11_counted_31 (by decide) (by decide) rfl (by decide) ?_)
          refine lv_aload_n hx hb dX11_counted_95 rfl (lv_at hl 2 rfl) ?_
          refine g_get (k := 0) (v := .ref al) C hW 0 rfl rfl jnX11 (by decide) k_fl_X11_7 rfl dX11_counted_96 ?_
          refine lv_iconst (v := 5) hx hb dX11_counted_99 (by decide) ?_
          refine g_ald C hW 1 rfl (vp_in_nI (n := 5) (by omega) (by omega)) dX11_counted_100 ?_
          refine lv_as (y := a 5) (rfl) ?_
          subst hQ
          exact g_iret (v := (a 5)) C hW hrt ⟨by first | (obtain rfl : j = 0 := (nI_eq (a := j) (b := 0) (by omega) (by omega)).mp c_2622; first | rfl | exact e0) | (obtain rfl : j = 1 := (nI_eq (a := j) (b := 1) (by omega) (by omega)).mp c_2622; first | rfl | exact e0) | (obtain rfl : j = 2 := (nI_eq (a := j) (b := 2) (by omega) (by omega)).mp c_2622; first | rfl | exact e0) | (obtain rfl : j = 3 := (nI_eq (a := j) (b := 3) (by omega) (by omega)).mp c_2622; first | rfl | exact e0) | (obtain rfl : j = 4 := (nI_eq (a := j) (b := 4) (by omega) (by omega)).mp c_2622; first | rfl | exact e0) | (obtain rfl : j = 5 := (nI_eq (a := j) (b := 5) (by omega) (by omega)).mp c_2622; first | rfl | exact e0) | (obtain rfl : j = 6 := (nI_eq (a := j) (b := 6) (by omega) (by omega)).mp c_2622; first | rfl | exact e0) | (obtain rfl : j = 7 := (nI_eq (a := j) (b := 7) (by omega) (by omega)).mp c_2622; first | rfl | exact e0) | (obtain rfl : j = 8 := (nI_eq (a := j) (b := 8) (by omega) (by omega)).mp c_2622; first | rfl | exact e0), rfl⟩ dX11_counted_101
        by_cases c_2623 : (nI j) = 4
        · refine lv_as c_2623 (lv_tableIn (tgt := 107) hx hb dX11_counted_31 (by decide) (by decide) rfl (by decide) ?_)
          have hj4 : 4 ≤ j ∧ j ≤ 7 := by first | ((have q := (nI_eq (a := j) (b := 4) (by omega) (by omega)).mp c_2623); omega) | ((have q := (nI_eq (a := j) (b := 5) (by omega) (by omega)).mp c_2623); omega) | ((have q := (nI_eq (a := j) (b := 6) (by omega) (by omega)).mp c_2623); omega) | ((have q := (nI_eq (a := j) (b := 7) (by omega) (by omega)).mp c_2623); omega)
          refine lv_aload_n hx hb dX11_counted_107 rfl (lv_at hl 2 rfl) ?_
          refine g_get (k := 0) (v := .ref al) C hW 0 rfl rfl jnX11 (by decide) k_fl_X11_7 rfl dX11_counted_108 ?_
          refine lv_iconst (v := 1) hx hb dX11_counted_111 (by decide) ?_
          refine lv_iload_n hx hb dX11_counted_112 rfl (lv_at hl 3 rfl) ?_
          refine lv_iadd hx hb dX11_counted_113 ?_
          refine lv_iconst (v := 4) hx hb dX11_counted_114 (by decide) ?_
          refine lv_isub hx hb dX11_counted_115 ?_
          refine g_ald C hW 1 rfl (ix_in (show ((1 + (nI j)) - 4) = nI (j - 3) from (by exact fr_3 hj4.1)) (by omega) (by omega)) dX11_counted_116 ?_
          refine lv_as (y := a (j - 3)) (by rw [show ((1 + (nI j)) - 4).toNatClampNeg = (j - 3) from ix_cl (show ((1 + (nI j)) - 4) = nI (j - 3) from (by exact fr_3 hj4.1)) (Nat.lt_of_lt_of_le (m := 159) (by omega) (by omega))]) ?_
          subst hQ
          exact g_iret (v := (a (j - 3))) C hW hrt ⟨by (rw [ctV, if_neg (by omega), if_neg (by omega), if_neg (by omega), if_neg (by omega), if_neg (by omega)]), rfl⟩ dX11_counted_117
        by_cases c_2624 : (nI j) = 5
        · refine lv_as c_2624 (lv_tableIn (tgt := 107) hx hb dX11_counted_31 (by decide) (by decide) rfl (by decide) ?_)
          have hj4 : 4 ≤ j ∧ j ≤ 7 := by first | ((have q := (nI_eq (a := j) (b := 4) (by omega) (by omega)).mp c_2624); omega) | ((have q := (nI_eq (a := j) (b := 5) (by omega) (by omega)).mp c_2624); omega) | ((have q := (nI_eq (a := j) (b := 6) (by omega) (by omega)).mp c_2624); omega) | ((have q := (nI_eq (a := j) (b := 7) (by omega) (by omega)).mp c_2624); omega)
          refine lv_aload_n hx hb dX11_counted_107 rfl (lv_at hl 2 rfl) ?_
          refine g_get (k := 0) (v := .ref al) C hW 0 rfl rfl jnX11 (by decide) k_fl_X11_7 rfl dX11_counted_108 ?_
          refine lv_iconst (v := 1) hx hb dX11_counted_111 (by decide) ?_
          refine lv_iload_n hx hb dX11_counted_112 rfl (lv_at hl 3 rfl) ?_
          refine lv_iadd hx hb dX11_counted_113 ?_
          refine lv_iconst (v := 4) hx hb dX11_counted_114 (by decide) ?_
          refine lv_isub hx hb dX11_counted_115 ?_
          refine g_ald C hW 1 rfl (ix_in (show ((1 + (nI j)) - 4) = nI (j - 3) from (by exact fr_3 hj4.1)) (by omega) (by omega)) dX11_counted_116 ?_
          refine lv_as (y := a (j - 3)) (by rw [show ((1 + (nI j)) - 4).toNatClampNeg = (j - 3) from ix_cl (show ((1 + (nI j)) - 4) = nI (j - 3) from (by exact fr_3 hj4.1)) (Nat.lt_of_lt_of_le (m := 159) (by omega) (by omega))]) ?_
          subst hQ
          exact g_iret (v := (a (j - 3))) C hW hrt ⟨by (rw [ctV, if_neg (by omega), if_neg (by omega), if_neg (by omega), if_neg (by omega), if_neg (by omega)]), rfl⟩ dX11_counted_117
        by_cases c_2625 : (nI j) = 6
        · refine lv_as c_2625 (lv_tableIn (tgt := 107) hx hb dX11_counted_31 (by decide) (by decide) rfl (by decide) ?_)
          have hj4 : 4 ≤ j ∧ j ≤ 7 := by first | ((have q := (nI_eq (a := j) (b := 4) (by omega) (by omega)).mp c_2625); omega) | ((have q := (nI_eq (a := j) (b := 5) (by omega) (by omega)).mp c_2625); omega) | ((have q := (nI_eq (a := j) (b := 6) (by omega) (by omega)).mp c_2625); omega) | ((have q := (nI_eq (a := j) (b := 7) (by omega) (by omega)).mp c_2625); omega)
          refine lv_aload_n hx hb dX11_counted_107 rfl (lv_at hl 2 rfl) ?_
          refine g_get (k := 0) (v := .ref al) C hW 0 rfl rfl jnX11 (by decide) k_fl_X11_7 rfl dX11_counted_108 ?_
          refine lv_iconst (v := 1) hx hb dX11_counted_111 (by decide) ?_
          refine lv_iload_n hx hb dX11_counted_112 rfl (lv_at hl 3 rfl) ?_
          refine lv_iadd hx hb dX11_counted_113 ?_
          refine lv_iconst (v := 4) hx hb dX11_counted_114 (by decide) ?_
          refine lv_isub hx hb dX11_counted_115 ?_
          refine g_ald C hW 1 rfl (ix_in (show ((1 + (nI j)) - 4) = nI (j - 3) from (by exact fr_3 hj4.1)) (by omega) (by omega)) dX11_counted_116 ?_
          refine lv_as (y := a (j - 3)) (by rw [show ((1 + (nI j)) - 4).toNatClampNeg = (j - 3) from ix_cl (show ((1 + (nI j)) - 4) = nI (j - 3) from (by exact fr_3 hj4.1)) (Nat.lt_of_lt_of_le (m := 159) (by omega) (by omega))]) ?_
          subst hQ
          exact g_iret (v := (a (j - 3))) C hW hrt ⟨by (rw [ctV, if_neg (by omega), if_neg (by omega), if_neg (by omega), if_neg (by omega), if_neg (by omega)]), rfl⟩ dX11_counted_117
        by_cases c_2626 : (nI j) = 7
        · refine lv_as c_2626 (lv_tableIn (tgt := 107) hx hb dX11_counted_31 (by decide) (by decide) rfl (by decide) ?_)
          have hj4 : 4 ≤ j ∧ j ≤ 7 := by first | ((have q := (nI_eq (a := j) (b := 4) (by omega) (by omega)).mp c_2626); omega) | ((have q := (nI_eq (a := j) (b := 5) (by omega) (by omega)).mp c_2626); omega) | ((have q := (nI_eq (a := j) (b := 6) (by omega) (by omega)).mp c_2626); omega) | ((have q := (nI_eq (a := j) (b := 7) (by omega) (by omega)).mp c_2626); omega)
          refine lv_aload_n hx hb dX11_counted_107 rfl (lv_at hl 2 rfl) ?_
          refine g_get (k := 0) (v := .ref al) C hW 0 rfl rfl jnX11 (by decide) k_fl_X11_7 rfl dX11_counted_108 ?_
          refine lv_iconst (v := 1) hx hb dX11_counted_111 (by decide) ?_
          refine lv_iload_n hx hb dX11_counted_112 rfl (lv_at hl 3 rfl) ?_
          refine lv_iadd hx hb dX11_counted_113 ?_
          refine lv_iconst (v := 4) hx hb dX11_counted_114 (by decide) ?_
          refine lv_isub hx hb dX11_counted_115 ?_
          refine g_ald C hW 1 rfl (ix_in (show ((1 + (nI j)) - 4) = nI (j - 3) from (by exact fr_3 hj4.1)) (by omega) (by omega)) dX11_counted_116 ?_
          refine lv_as (y := a (j - 3)) (by rw [show ((1 + (nI j)) - 4).toNatClampNeg = (j - 3) from ix_cl (show ((1 + (nI j)) - 4) = nI (j - 3) from (by exact fr_3 hj4.1)) (Nat.lt_of_lt_of_le (m := 159) (by omega) (by omega))]) ?_
          subst hQ
          exact g_iret (v := (a (j - 3))) C hW hrt ⟨by (rw [ctV, if_neg (by omega), if_neg (by omega), if_neg (by omega), if_neg (by omega), if_neg (by omega)]), rfl⟩ dX11_counted_117
        by_cases c_2627 : (nI j) = 8
        · refine lv_as c_2627 (lv_tableIn (tgt := 102) hx hb dX11_counted_31 (by decide) (by decide) rfl (by decide) ?_)
          refine lv_aload_n hx hb dX11_counted_102 rfl (lv_at hl 2 rfl) ?_
          refine g_get (k := 10) (v := .int (nI tn)) C hW 0 rfl rfl jnX11 (by decide) k_fl_X11_224 rfl dX11_counted_103 ?_
          subst hQ
          exact g_iret (v := (nI tn)) C hW hrt ⟨by first | (obtain rfl : j = 0 := (nI_eq (a := j) (b := 0) (by omega) (by omega)).mp c_2627; first | rfl | exact e0) | (obtain rfl : j = 1 := (nI_eq (a := j) (b := 1) (by omega) (by omega)).mp c_2627; first | rfl | exact e0) | (obtain rfl : j = 2 := (nI_eq (a := j) (b := 2) (by omega) (by omega)).mp c_2627; first | rfl | exact e0) | (obtain rfl : j = 3 := (nI_eq (a := j) (b := 3) (by omega) (by omega)).mp c_2627; first | rfl | exact e0) | (obtain rfl : j = 4 := (nI_eq (a := j) (b := 4) (by omega) (by omega)).mp c_2627; first | rfl | exact e0) | (obtain rfl : j = 5 := (nI_eq (a := j) (b := 5) (by omega) (by omega)).mp c_2627; first | rfl | exact e0) | (obtain rfl : j = 6 := (nI_eq (a := j) (b := 6) (by omega) (by omega)).mp c_2627; first | rfl | exact e0) | (obtain rfl : j = 7 := (nI_eq (a := j) (b := 7) (by omega) (by omega)).mp c_2627; first | rfl | exact e0) | (obtain rfl : j = 8 := (nI_eq (a := j) (b := 8) (by omega) (by omega)).mp c_2627; first | rfl | exact e0), rfl⟩ dX11_counted_106
        exfalso; (rcases (show j = 0 ∨ j = 1 ∨ j = 2 ∨ j = 3 ∨ j = 4 ∨ j = 5 ∨ j = 6 ∨ j = 7 ∨ j = 8 by omega) with rfl | rfl | rfl | rfl | rfl | rfl | rfl | rfl | rfl <;> first | exact absurd (a := nI 0 = (0 : Int32)) rfl (by assumption) | exact absurd (a := nI 1 = (1 : Int32)) rfl (by assumption) | exact absurd (a := nI 2 = (2 : Int32)) rfl (by assumption) | exact absurd (a := nI 3 = (3 : Int32)) rfl (by assumption) | exact absurd (a := nI 4 = (4 : Int32)) rfl (by assumption) | exact absurd (a := nI 5 = (5 : Int32)) rfl (by assumption) | exact absurd (a := nI 6 = (6 : Int32)) rfl (by assumption) | exact absurd (a := nI 7 = (7 : Int32)) rfl (by assumption) | exact absurd (a := nI 8 = (8 : Int32)) rfl (by assumption))
      · replace c_2617 := Int32.not_le.mp c_2617
        have c_2617n : q9 < n := (nI_ltI (a := q9) (b := n) (by omega) (by omega)).mp c_2617
        refine lv_iload_n hx hb dX11_counted_12 rfl (lv_at hl 1 rfl) ?_
        refine lv_aload_n hx hb dX11_counted_13 rfl (lv_at hl 2 rfl) ?_
        refine g_get (k := 0) (v := .ref al) C hW 0 rfl rfl jnX11 (by decide) k_fl_X11_7 rfl dX11_counted_14 ?_
        refine lv_bipush (v := 26) hx hb dX11_counted_17 (by decide) ?_
        refine lv_iload_n hx hb dX11_counted_19 rfl (lv_at hl 0 rfl) ?_
        refine lv_iadd hx hb dX11_counted_20 ?_
        refine g_ald C hW 1 rfl (ix_in (show (26 + (nI q9)) = nI (26 + q9) from (by first | rfl | (simp only [nI_lit, nI_add, pk_mul]; done) | (simp only [nI_lit, nI_add, pk_mul]; congr 1; omega))) (by omega) (by omega)) dX11_counted_21 ?_
        refine lv_as (y := a (26 + q9)) (by rw [show (26 + (nI q9)).toNatClampNeg = (26 + q9) from ix_cl (show (26 + (nI q9)) = nI (26 + q9) from (by first | rfl | (simp only [nI_lit, nI_add, pk_mul]; done) | (simp only [nI_lit, nI_add, pk_mul]; congr 1; omega))) (Nat.lt_of_lt_of_le (m := 159) (by omega) (by omega))]) ?_
        refine lv_iadd hx hb dX11_counted_22 ?_
        refine lv_istore_n (lv' := [(2, .int ((smF (fun p => a (26 + p)) q9) + (a (26 + q9)))), (3, .int (nI q9)), (0, .ref mo), (1, .int (nI j))]) hx hb dX11_counted_23 rfl hl (by decide) rfl ?_
        clear hl ls; intro ls hl
        refine lv_iinc (v := (nI q9) + 1) (lv' := [(3, .int ((nI q9) + 1)), (2, .int ((smF (fun p => a (26 + p)) q9) + (a (26 + q9)))), (0, .ref mo), (1, .int (nI j))]) hx hb dX11_counted_24 hl (k := 1) rfl rfl (by decide) rfl ?_
        clear hl ls; intro ls hl
        refine lv_goto (tgt := 4) hx hb dX11_counted_27 (by decide) ?_
        exact ihK_2613 (q9 + 1) ((nI q9) + 1) ((smF (fun p => a (26 + p)) q9) + (a (26 + q9))) (by exact nI_1 _) (by exact rfl) (by first | omega | assumption | (simp; done)) (by omega) _ _ _ hW (lv_sub hl [0, 1, 2, 3] rfl)
  exact K_2613 _ 0 0 0 (by first | exact rfl | (simp; done)) (by exact rfl) (by first | omega | assumption | (simp; done)) (Nat.lt_succ_self _) _ _ _ hW (lv_sub hl [0, 1, 2, 3] rfl)
set_option maxHeartbeats 4000000 in
set_option maxRecDepth 100000 in
theorem c_X11_count_ok (l : Launch) (G : gT) (mo al ke ik rq so ha te bt an vs : Nat) (mab mbe : Int64) (tA tL tK tV : Int32) (tn : Nat) (a : Nat → Int32) (n j : Nat) (e0 : a 0 = nI n) (hn : n ≤ 7) (hj : j < 9) : MI l G yX11_count cX11_count 2 .int ({ frames := 2, cells := 0, slots := 0, locals := 43 }) [.ref mo, .int (nI j)] [(mo, .inr (9, [.ref al, .ref ke, .ref ik, .ref rq, .long mab, .long mbe, .ref so, .ref ha, .ref te, .ref bt, .int (nI tn), .int tA, .int tL, .int tK, .int tV, .ref an, .ref vs])), (al, .inl (G.2.1, 159, .inl a))] (fun (r : Int32) w1 => (r = ctV a n tn j) ∧ w1 = [(mo, .inr (9, [.ref al, .ref ke, .ref ik, .ref rq, .long mab, .long mbe, .ref so, .ref ha, .ref te, .ref bt, .int (nI tn), .int tA, .int tL, .int tK, .int tV, .ref an, .ref vs])), (al, .inl (G.2.1, 159, .inl a))]) := by
  refine MI.mk (by decide) (Nat.le_of_ble_eq_true rfl) ?_
  intro p_ e_ s_ m_ ar_ be_ me_ cd_ A_ ls C hrt hW hl
  have hx := C.1; have hb := C.2.1; have hown := C.2.2.2.1; have ht := C.2.2.2.2.1
  replace hl : lv_has ls 2 [(0, .ref mo), (1, .int (nI j))] := hl
  generalize hQ : MQ be_ _ ar_ s_ 0 0 A_ = Q
  refine lv_iload_n hx hb dX11_count_0 rfl (lv_at hl 1 rfl) ?_
  refine lv_i2l hx hb dX11_count_1 rfl ?_
  refine lv_lconst (v := 0) hx hb dX11_count_2 (by decide) ?_
  refine lv_ldc2 (v := 8) hx hb hown (ht _ k_cg_X11_289) dX11_count_3 ?_
  refine g_fi C hW [] rfl (g_runS (As := [.long ((nI j).toInt64), .long 0, .long 8]) (rest := []) (wc := []) C hW hl (c_X11_in l G (nI j) 0 8 0 8 (by first | rfl | decide) (by first | rfl | decide) _) k_ml_X11_53 q_X11_in (by decide) [] rfl rfl rfl rfl (Nat.le_of_ble_eq_true rfl) dX11_count_6 (by decide)) (fun r_2628 er_2628 => ?_)
  clear hW; intro H locs hW
  refine lv_as (y := bI (iw (nI j) 0 8)) er_2628 ?_
  clear er_2628 r_2628
  refine lv_if_eq (tgt := 20) hx hb dX11_count_9 (by decide) (fun c_2629 => ?_) (fun c_2629 => ?_)
  · exfalso; exact dd (iw_nI (m := 8) (by omega) (by omega)) c_2629
  · refine lv_aload_n hx hb dX11_count_12 rfl (lv_at hl 0 rfl) ?_
    refine lv_iload_n hx hb dX11_count_13 rfl (lv_at hl 1 rfl) ?_
    refine g_fi C hW [0, 1] rfl (g_runV (As := [.int (nI j)]) (rest := []) (wc := [(mo, .inr (9, [.ref al, .ref ke, .ref ik, .ref rq, .long mab, .long mbe, .ref so, .ref ha, .ref te, .ref bt, .int (nI tn), .int tA, .int tL, .int tK, .int tV, .ref an, .ref vs])), (al, .inl (G.2.1, 159, .inl a))]) (q0 := 0) (ci := 9) C hW hl (c_X11_counted l G mo al ke ik rq so ha te bt an vs mab mbe tA tL tK tV tn a n j (by first | assumption | omega) (by first | assumption | omega) (by first | assumption | omega) _) k_ml_X11_291 q_X11_counted (by decide) [0, 1] rfl rfl rfl rfl rfl rfl (Nat.le_of_ble_eq_true rfl) dX11_count_14 (by decide)) (fun r_2630 er_2630 => ?_)
    clear hW H locs; intro H locs hW
    refine lv_as (y := ctV a n tn j) er_2630 ?_
    clear er_2630 r_2630
    refine lv_goto (tgt := 26) hx hb dX11_count_17 (by decide) ?_
    subst hQ
    exact g_iret (v := (ctV a n tn j)) C hW hrt ⟨by rfl, rfl⟩ dX11_count_26
set_option maxHeartbeats 4000000 in
set_option maxRecDepth 100000 in
theorem c_X11_count_bad (l : Launch) (G : gT) (mo al ke ik rq so ha te bt an vs : Nat) (mab mbe : Int64) (bL tA tL tK tV : Int32) (rv : Nat → Int32) (x9 : Int32) (hbad : iw x9 0 8 = false) : MI l G yX11_count cX11_count 2 .int ({ frames := 1, cells := 0, slots := 0, locals := 25 }) [.ref mo, .int x9] [(mo, .inr (9, [.ref al, .ref ke, .ref ik, .ref rq, .long mab, .long mbe, .ref so, .ref ha, .ref te, .ref bt, .int bL, .int tA, .int tL, .int tK, .int tV, .ref an, .ref vs])), (rq, .inl (G.2.1, 3, .inl rv))] (fun (r : Int32) w1 => ∃ u_ : Unit, (r = (-2)) ∧ w1 = [(mo, .inr (9, [.ref al, .ref ke, .ref ik, .ref rq, .long mab, .long mbe, .ref so, .ref ha, .ref te, .ref bt, .int bL, .int tA, .int tL, .int tK, .int tV, .ref an, .ref vs])), (rq, .inl (G.2.1, 3, .inl (upd rv 0 (rv 0 + 1))))]) := by
  refine MI.mk (by decide) (Nat.le_of_ble_eq_true rfl) ?_
  intro p_ e_ s_ m_ ar_ be_ me_ cd_ A_ ls C hrt hW hl
  have hx := C.1; have hb := C.2.1; have hown := C.2.2.2.1; have ht := C.2.2.2.2.1
  replace hl : lv_has ls 2 [(0, .ref mo), (1, .int x9)] := hl
  generalize hQ : MQ be_ _ ar_ s_ 0 0 A_ = Q
  refine lv_iload_n hx hb dX11_count_0 rfl (lv_at hl 1 rfl) ?_
  refine lv_i2l hx hb dX11_count_1 rfl ?_
  refine lv_lconst (v := 0) hx hb dX11_count_2 (by decide) ?_
  refine lv_ldc2 (v := 8) hx hb hown (ht _ k_cg_X11_289) dX11_count_3 ?_
  refine g_fi C hW [] rfl (g_runS (As := [.long x9.toInt64, .long 0, .long 8]) (rest := []) (wc := []) C hW hl (c_X11_in l G x9 0 8 0 8 (by first | rfl | decide) (by first | rfl | decide) _) k_ml_X11_53 q_X11_in (by decide) [] rfl rfl rfl rfl (Nat.le_of_ble_eq_true rfl) dX11_count_6 (by decide)) (fun r_2631 er_2631 => ?_)
  clear hW; intro H locs hW
  refine lv_as (y := bI (iw x9 0 8)) er_2631 ?_
  clear er_2631 r_2631
  refine lv_if_eq (tgt := 20) hx hb dX11_count_9 (by decide) (fun c_2632 => ?_) (fun c_2632 => ?_)
  · refine lv_aload_n hx hb dX11_count_20 rfl (lv_at hl 0 rfl) ?_
    refine lv_bipush (v := (-2)) hx hb dX11_count_21 (by decide) ?_
    refine g_fiw (wr := []) (ww := fun (u_ : Unit) => [(mo, .inr (9, [.ref al, .ref ke, .ref ik, .ref rq, .long mab, .long mbe, .ref so, .ref ha, .ref te, .ref bt, .int bL, .int tA, .int tL, .int tK, .int tV, .ref an, .ref vs])), (rq, .inl (G.2.1, 3, .inl (upd rv 0 (rv 0 + 1))))]) (w2 := fun (u_ : Unit) => [(mo, .inr (9, [.ref al, .ref ke, .ref ik, .ref rq, .long mab, .long mbe, .ref so, .ref ha, .ref te, .ref bt, .int bL, .int tA, .int tL, .int tK, .int tV, .ref an, .ref vs])), (rq, .inl (G.2.1, 3, .inl (upd rv 0 (rv 0 + 1))))]) C hW [0, 1] [] [0, 1] rfl rfl (by decide) (by decide) (by decide) (fun _ => rfl) (g_runV (As := [.int (-2)]) (rest := []) (wc := [(mo, .inr (9, [.ref al, .ref ke, .ref ik, .ref rq, .long mab, .long mbe, .ref so, .ref ha, .ref te, .ref bt, .int bL, .int tA, .int tL, .int tK, .int tV, .ref an, .ref vs])), (rq, .inl (G.2.1, 3, .inl rv))]) (q0 := 0) (ci := 9) C hW hl (c_X11_bad l G mo al ke ik rq so ha te bt an vs mab mbe bL tA tL tK tV rv (-2)  _) k_ml_X11_67 q_X11_bad (by decide) [0, 1] rfl rfl rfl rfl rfl rfl (Nat.le_of_ble_eq_true rfl) dX11_count_23 (by decide)) (fun r_2633 _ er_2633 => ?_)
    clear hW H locs; intro H locs hW
    refine lv_as (y := (-2)) er_2633 ?_
    clear er_2633 r_2633
    replace hW : Wd G A_ s_.heap [(mo, .inr (9, [.ref al, .ref ke, .ref ik, .ref rq, .long mab, .long mbe, .ref so, .ref ha, .ref te, .ref bt, .int bL, .int tA, .int tL, .int tK, .int tV, .ref an, .ref vs])), (rq, .inl (G.2.1, 3, .inl (upd rv 0 (rv 0 + 1))))] H locs := hW
    subst hQ
    exact g_iret (v := (-2)) C hW hrt ⟨(), by rfl, by rfl⟩ dX11_count_26
  · exfalso; simp [bI_ne.mp c_2632, if_true, if_false, reduceIte, Bool.false_eq_true] at hbad
set_option maxHeartbeats 4000000 in
set_option maxRecDepth 100000 in
theorem c_X11_sums (l : Launch) (G : gT) (mo al ke ik rq so ha te bt an vs : Nat) (mab mbe : Int64) (bL tA tL tK tV : Int32) (a : Nat → Int32) (h0 : Int64) (s9 m9 : Nat) (hb_ : s9 + m9 ≤ 159) : ML l G yX11_sums cX11_sums 8 ({ frames := 0, cells := 0, slots := 0, locals := 0 }) [.ref mo, .long h0, .int (nI s9), .int (nI m9)] [(mo, .inr (9, [.ref al, .ref ke, .ref ik, .ref rq, .long mab, .long mbe, .ref so, .ref ha, .ref te, .ref bt, .int bL, .int tA, .int tL, .int tK, .int tV, .ref an, .ref vs])), (al, .inl (G.2.1, 159, .inl a))] (fun (r : Int64) w1 => (r = fd h0 (fun i => a (s9 + i)) m9) ∧ w1 = [(mo, .inr (9, [.ref al, .ref ke, .ref ik, .ref rq, .long mab, .long mbe, .ref so, .ref ha, .ref te, .ref bt, .int bL, .int tA, .int tL, .int tK, .int tV, .ref an, .ref vs])), (al, .inl (G.2.1, 159, .inl a))]) := by
  refine ML.mk (by decide) (Nat.le_of_ble_eq_true rfl) ?_
  intro p_ e_ s_ m_ ar_ be_ me_ cd_ A_ ls C hrt hW hl
  have hx := C.1; have hb := C.2.1; have hown := C.2.2.2.1; have ht := C.2.2.2.2.1
  replace hl : lv_has ls 8 [(0, .ref mo), (1, .long h0), (3, .int (nI s9)), (4, .int (nI m9))] := hl
  generalize hQ : MQ be_ _ ar_ s_ 0 0 A_ = Q
  refine lv_lload_n hx hb dX11_sums_0 rfl (lv_at hl 1 rfl) ?_
  refine lv_lstore (lv' := [(5, .long h0), (0, .ref mo), (1, .long h0), (3, .int (nI s9)), (4, .int (nI m9))]) hx hb dX11_sums_1 hl (by decide) rfl ?_
  clear hl ls; intro ls hl
  refine lv_iconst (v := 0) hx hb dX11_sums_3 (by decide) ?_
  refine lv_istore (lv' := [(7, .int 0), (5, .long h0), (0, .ref mo), (1, .long h0), (3, .int (nI s9)), (4, .int (nI m9))]) hx hb dX11_sums_4 hl (by decide) rfl ?_
  clear hl ls; intro ls hl
  have K_2635 : ∀ (n_ : Nat) (j : Nat) (x_2636 : Int32) (x_2637 : Int64) (_ : x_2636 = nI j) (_ : x_2637 = fd h0 (fun i => a (s9 + i)) j) (_ : j ≤ m9) (_ : m9 - j < n_) (H : Heap) (locs : List Loc) (ls : Array Slot), Wd G A_ s_.heap [(mo, .inr (9, [.ref al, .ref ke, .ref ik, .ref rq, .long mab, .long mbe, .ref so, .ref ha, .ref te, .ref bt, .int bL, .int tA, .int tL, .int tK, .int tV, .ref an, .ref vs])), (al, .inl (G.2.1, 159, .inl a))] H locs → lv_has ls 8 [(7, .int x_2636), (5, .long x_2637), (0, .ref mo), (1, .long h0), (3, .int (nI s9)), (4, .int (nI m9))] → W p_ l e_ ({ frames := 0, cells := 0, slots := 0, locals := 0 }) s_ m_ ar_ be_ me_ cd_ H locs 0 0 Q (F0 m_ 6 ls []) := by
    intro n_
    induction n_ with
    | zero => intro j x_2636 x_2637 ex_2636 ex_2637 hj hm_; exact absurd hm_ (Nat.not_lt_zero _)
    | succ n_ ihK_2635 =>
      intro j x_2636 x_2637 ex_2636 ex_2637 hj hm_ H locs ls hW hl
      subst ex_2636
      subst ex_2637
      refine lv_iload hx hb dX11_sums_6 (lv_at hl 0 rfl) ?_
      refine lv_iload hx hb dX11_sums_8 (lv_at hl 5 rfl) ?_
      refine lv_icmp_ge (tgt := 38) hx hb dX11_sums_10 (by decide) (fun c_2638 => ?_) (fun c_2638 => ?_)
      · replace c_2638 := Int32.not_lt.mpr c_2638
        have c_2638n : ¬ j < m9 := fun q => c_2638 ((nI_ltI (a := j) (b := m9) (by omega) (by omega)).mpr q)
        refine lv_lload hx hb dX11_sums_38 (lv_at hl 1 rfl) ?_
        subst hQ
        exact g_lret (v := (fd h0 (fun i => a (s9 + i)) j)) C hW hrt ⟨by (rw [show j = m9 by omega]), rfl⟩ dX11_sums_40
      · replace c_2638 := Int32.not_le.mp c_2638
        have c_2638n : j < m9 := (nI_ltI (a := j) (b := m9) (by omega) (by omega)).mp c_2638
        refine lv_ldc2 (v := 31) hx hb hown (ht _ k_cg_X11_294) dX11_sums_13 ?_
        refine lv_lload hx hb dX11_sums_16 (lv_at hl 1 rfl) ?_
        refine lv_lmul hx hb dX11_sums_18 ?_
        refine lv_aload_n hx hb dX11_sums_19 rfl (lv_at hl 2 rfl) ?_
        refine g_get (k := 0) (v := .ref al) C hW 0 rfl rfl jnX11 (by decide) k_fl_X11_7 rfl dX11_sums_20 ?_
        refine lv_iload_n hx hb dX11_sums_23 rfl (lv_at hl 4 rfl) ?_
        refine lv_iload hx hb dX11_sums_24 (lv_at hl 0 rfl) ?_
        refine lv_iadd hx hb dX11_sums_26 ?_
        refine g_ald C hW 1 rfl (ix_in (show ((nI s9) + (nI j)) = nI (s9 + j) from (by first | rfl | (simp only [nI_lit, nI_add, pk_mul]; done) | (simp only [nI_lit, nI_add, pk_mul]; congr 1; omega))) (by omega) (by omega)) dX11_sums_27 ?_
        refine lv_as (y := a (s9 + j)) (by rw [show ((nI s9) + (nI j)).toNatClampNeg = (s9 + j) from ix_cl (show ((nI s9) + (nI j)) = nI (s9 + j) from (by first | rfl | (simp only [nI_lit, nI_add, pk_mul]; done) | (simp only [nI_lit, nI_add, pk_mul]; congr 1; omega))) (Nat.lt_of_lt_of_le (m := 159) (by omega) (by omega))]) ?_
        refine lv_i2l hx hb dX11_sums_28 rfl ?_
        refine lv_ladd hx hb dX11_sums_29 ?_
        refine lv_lstore (lv' := [(5, .long ((31 * (fd h0 (fun i => a (s9 + i)) j)) + ((a (s9 + j)).toInt64))), (7, .int (nI j)), (0, .ref mo), (1, .long h0), (3, .int (nI s9)), (4, .int (nI m9))]) hx hb dX11_sums_30 hl (by decide) rfl ?_
        clear hl ls; intro ls hl
        refine lv_iinc (v := (nI j) + 1) (lv' := [(7, .int ((nI j) + 1)), (5, .long ((31 * (fd h0 (fun i => a (s9 + i)) j)) + ((a (s9 + j)).toInt64))), (0, .ref mo), (1, .long h0), (3, .int (nI s9)), (4, .int (nI m9))]) hx hb dX11_sums_32 hl (k := 1) rfl rfl (by decide) rfl ?_
        clear hl ls; intro ls hl
        refine lv_goto (tgt := 6) hx hb dX11_sums_35 (by decide) ?_
        exact ihK_2635 (j + 1) ((nI j) + 1) ((31 * (fd h0 (fun i => a (s9 + i)) j)) + ((a (s9 + j)).toInt64)) (by exact nI_1 _) (by exact rfl) (by first | omega | assumption | (simp; done)) (by omega) _ _ _ hW (lv_sub hl [0, 1, 2, 3, 4, 5] rfl)
  exact K_2635 _ 0 0 h0 (by first | exact rfl | (simp; done)) (by exact rfl) (by first | omega | assumption | (simp; done)) (Nat.lt_succ_self _) _ _ _ hW (lv_sub hl [0, 1, 2, 3, 4, 5] rfl)
