set_option maxHeartbeats 4000000 in
set_option maxRecDepth 100000 in
theorem c_X11_digest (l : Launch) (G : gT) (mo al ke ik rq so ha te bt an vs : Nat) (mab mbe : Int64) (tA tL tK tV : Int32) (tn : Nat) (a : Nat → Int32) (n sn nn mn : Nat) (e0 : a 0 = nI n) (hn : n ≤ 7) (e1 : a 1 = nI sn) (hs : sn ≤ 5) (e2 : a 2 = nI nn) (ho : nn ≤ 6) (e3 : a 3 = nI mn) (hm : mn ≤ 6) : ML l G yX11_digest cX11_digest 4 ({ frames := 2, cells := 0, slots := 0, locals := 43 }) [.ref mo] [(mo, .inr (9, [.ref al, .ref ke, .ref ik, .ref rq, .long mab, .long mbe, .ref so, .ref ha, .ref te, .ref bt, .int (nI tn), .int tA, .int tL, .int tK, .int tV, .ref an, .ref vs])), (al, .inl (G.2.1, 159, .inl a))] (fun (r : Int64) w1 => (r = 31 * (31 * fd (fd (fd (fd (fd (fd (fd 1663 (ctV a n tn) 9) (fun i => a (6 + i)) 6) (fun i => a (13 + i)) 6) (pfA a) (n * 3)) (fun i => a (40 + i)) (3 * sn)) (fun i => a (55 + i)) (4 * nn)) (fun i => a (79 + i)) (4 * mn) + mab) + mbe) ∧ w1 = [(mo, .inr (9, [.ref al, .ref ke, .ref ik, .ref rq, .long mab, .long mbe, .ref so, .ref ha, .ref te, .ref bt, .int (nI tn), .int tA, .int tL, .int tK, .int tV, .ref an, .ref vs])), (al, .inl (G.2.1, 159, .inl a))]) := by
  refine ML.mk (by decide) (Nat.le_of_ble_eq_true rfl) ?_
  intro p_ e_ s_ m_ ar_ be_ me_ cd_ A_ ls C hrt hW hl
  have hx := C.1; have hb := C.2.1; have hown := C.2.2.2.1; have ht := C.2.2.2.2.1
  replace hl : lv_has ls 4 [(0, .ref mo)] := hl
  generalize hQ : MQ be_ _ ar_ s_ 0 0 A_ = Q
  refine lv_ldc2 (v := 1663) hx hb hown (ht _ k_cg_X11_296) dX11_digest_0 ?_
  refine lv_lstore_n (lv' := [(1, .long 1663), (0, .ref mo)]) hx hb dX11_digest_3 rfl hl (by decide) rfl ?_
  clear hl ls; intro ls hl
  refine lv_iconst (v := 0) hx hb dX11_digest_4 (by decide) ?_
  refine lv_istore_n (lv' := [(3, .int 0), (1, .long 1663), (0, .ref mo)]) hx hb dX11_digest_5 rfl hl (by decide) rfl ?_
  clear hl ls; intro ls hl
  have K_2639 : ∀ (n_ : Nat) (j : Nat) (x_2640 : Int32) (x_2641 : Int64) (_ : x_2640 = nI j) (_ : x_2641 = fd 1663 (ctV a n tn) j) (_ : j ≤ 9) (_ : 9 - j < n_) (H : Heap) (locs : List Loc) (ls : Array Slot), Wd G A_ s_.heap [(mo, .inr (9, [.ref al, .ref ke, .ref ik, .ref rq, .long mab, .long mbe, .ref so, .ref ha, .ref te, .ref bt, .int (nI tn), .int tA, .int tL, .int tK, .int tV, .ref an, .ref vs])), (al, .inl (G.2.1, 159, .inl a))] H locs → lv_has ls 4 [(3, .int x_2640), (1, .long x_2641), (0, .ref mo)] → W p_ l e_ ({ frames := 2, cells := 0, slots := 0, locals := 43 }) s_ m_ ar_ be_ me_ cd_ H locs 0 0 Q (F0 m_ 6 ls []) := by
    intro n_
    induction n_ with
    | zero => intro j x_2640 x_2641 ex_2640 ex_2641 hj hm_; exact absurd hm_ (Nat.not_lt_zero _)
    | succ n_ ihK_2639 =>
      intro j x_2640 x_2641 ex_2640 ex_2641 hj hm_ H locs ls hW hl
      subst ex_2640
      subst ex_2641
      refine lv_iload_n hx hb dX11_digest_6 rfl (lv_at hl 0 rfl) ?_
      refine lv_bipush (v := 9) hx hb dX11_digest_7 (by decide) ?_
      refine lv_icmp_ge (tgt := 31) hx hb dX11_digest_9 (by decide) (fun c_2642 => ?_) (fun c_2642 => ?_)
      · replace c_2642 := Int32.not_lt.mpr c_2642
        have c_2642n : ¬ j < 9 := fun q => c_2642 ((nI_ltI (a := j) (b := 9) (by omega) (by omega)).mpr q)
        obtain rfl : j = 9 := by omega
        refine lv_aload_n hx hb dX11_digest_31 rfl (lv_at hl 2 rfl) ?_
        refine lv_lload_n hx hb dX11_digest_32 rfl (lv_at hl 1 rfl) ?_
        refine lv_bipush (v := 6) hx hb dX11_digest_33 (by decide) ?_
        refine lv_bipush (v := 6) hx hb dX11_digest_35 (by decide) ?_
        refine g_fl C hW [0, 1] rfl (g_runV (As := [.long (fd 1663 (ctV a n tn) 9), .int 6, .int 6]) (rest := []) (wc := [(mo, .inr (9, [.ref al, .ref ke, .ref ik, .ref rq, .long mab, .long mbe, .ref so, .ref ha, .ref te, .ref bt, .int (nI tn), .int tA, .int tL, .int tK, .int tV, .ref an, .ref vs])), (al, .inl (G.2.1, 159, .inl a))]) (q0 := 0) (ci := 9) C hW hl (c_X11_sums l G mo al ke ik rq so ha te bt an vs mab mbe (nI tn) tA tL tK tV a (fd 1663 (ctV a n tn) 9) 6 6 (by omega) _) k_ml_X11_298 q_X11_sums (by decide) [0, 1] rfl rfl rfl rfl rfl rfl (Nat.le_of_ble_eq_true rfl) dX11_digest_37 (by decide)) (fun r_2644 er_2644 => ?_)
        clear hW H locs; intro H locs hW
        refine lv_asl (y := fd (fd 1663 (ctV a n tn) 9) (fun i => a (6 + i)) 6) er_2644 ?_
        clear er_2644 r_2644
        refine lv_lstore_n (lv' := [(1, .long (fd (fd 1663 (ctV a n tn) 9) (fun i => a (6 + i)) 6)), (3, .int (nI 9)), (0, .ref mo)]) hx hb dX11_digest_40 rfl hl (by decide) rfl ?_
        clear hl ls; intro ls hl
        refine lv_aload_n hx hb dX11_digest_41 rfl (lv_at hl 2 rfl) ?_
        refine lv_lload_n hx hb dX11_digest_42 rfl (lv_at hl 0 rfl) ?_
        refine lv_bipush (v := 13) hx hb dX11_digest_43 (by decide) ?_
        refine lv_bipush (v := 6) hx hb dX11_digest_45 (by decide) ?_
        refine g_fl C hW [0, 1] rfl (g_runV (As := [.long (fd (fd 1663 (ctV a n tn) 9) (fun i => a (6 + i)) 6), .int 13, .int 6]) (rest := []) (wc := [(mo, .inr (9, [.ref al, .ref ke, .ref ik, .ref rq, .long mab, .long mbe, .ref so, .ref ha, .ref te, .ref bt, .int (nI tn), .int tA, .int tL, .int tK, .int tV, .ref an, .ref vs])), (al, .inl (G.2.1, 159, .inl a))]) (q0 := 0) (ci := 9) C hW hl (c_X11_sums l G mo al ke ik rq so ha te bt an vs mab mbe (nI tn) tA tL tK tV a (fd (fd 1663 (ctV a n tn) 9) (fun i => a (6 + i)) 6) 13 6 (by omega) _) k_ml_X11_298 q_X11_sums (by decide) [0, 1] rfl rfl rfl rfl rfl rfl (Nat.le_of_ble_eq_true rfl) dX11_digest_47 (by decide)) (fun r_2645 er_2645 => ?_)
        clear hW H locs; intro H locs hW
        refine lv_asl (y := fd (fd (fd 1663 (ctV a n tn) 9) (fun i => a (6 + i)) 6) (fun i => a (13 + i)) 6) er_2645 ?_
        clear er_2645 r_2645
        refine lv_lstore_n (lv' := [(1, .long (fd (fd (fd 1663 (ctV a n tn) 9) (fun i => a (6 + i)) 6) (fun i => a (13 + i)) 6)), (3, .int (nI 9)), (0, .ref mo)]) hx hb dX11_digest_50 rfl hl (by decide) rfl ?_
        clear hl ls; intro ls hl
        refine lv_iconst (v := 0) hx hb dX11_digest_51 (by decide) ?_
        refine lv_istore_n (lv' := [(3, .int 0), (1, .long (fd (fd (fd 1663 (ctV a n tn) 9) (fun i => a (6 + i)) 6) (fun i => a (13 + i)) 6)), (0, .ref mo)]) hx hb dX11_digest_52 rfl hl (by decide) rfl ?_
        clear hl ls; intro ls hl
        have K_2646 : ∀ (n_ : Nat) (p9 : Nat) (x_2647 : Int32) (x_2648 : Int64) (_ : x_2647 = nI p9) (_ : x_2648 = fd (fd (fd (fd 1663 (ctV a n tn) 9) (fun i => a (6 + i)) 6) (fun i => a (13 + i)) 6) (pfA a) (p9 * 3)) (_ : p9 ≤ n) (_ : n - p9 < n_) (H : Heap) (locs : List Loc) (ls : Array Slot), Wd G A_ s_.heap [(mo, .inr (9, [.ref al, .ref ke, .ref ik, .ref rq, .long mab, .long mbe, .ref so, .ref ha, .ref te, .ref bt, .int (nI tn), .int tA, .int tL, .int tK, .int tV, .ref an, .ref vs])), (al, .inl (G.2.1, 159, .inl a))] H locs → lv_has ls 4 [(3, .int x_2647), (1, .long x_2648), (0, .ref mo)] → W p_ l e_ ({ frames := 2, cells := 0, slots := 0, locals := 43 }) s_ m_ ar_ be_ me_ cd_ H locs 0 0 Q (F0 m_ 53 ls []) := by
          intro n_
          induction n_ with
          | zero => intro p9 x_2647 x_2648 ex_2647 ex_2648 hp9 hm_; exact absurd hm_ (Nat.not_lt_zero _)
          | succ n_ ihK_2646 =>
            intro p9 x_2647 x_2648 ex_2647 ex_2648 hp9 hm_ H locs ls hW hl
            subst ex_2647
            subst ex_2648
            refine lv_iload_n hx hb dX11_digest_53 rfl (lv_at hl 0 rfl) ?_
            refine lv_aload_n hx hb dX11_digest_54 rfl (lv_at hl 2 rfl) ?_
            refine g_fi C hW [0, 1] rfl (g_runV (As := []) (rest := [.int (nI p9)]) (wc := [(mo, .inr (9, [.ref al, .ref ke, .ref ik, .ref rq, .long mab, .long mbe, .ref so, .ref ha, .ref te, .ref bt, .int (nI tn), .int tA, .int tL, .int tK, .int tV, .ref an, .ref vs])), (al, .inl (G.2.1, 159, .inl a))]) (q0 := 0) (ci := 9) C hW hl (c_X11_many l G mo al ke ik rq so ha te bt an vs mab mbe (nI tn) tA tL tK tV a n (by first | assumption | omega) _) k_ml_X11_49 q_X11_many (by decide) [0, 1] rfl rfl rfl rfl rfl rfl (Nat.le_of_ble_eq_true rfl) dX11_digest_55 (by decide)) (fun r_2649 er_2649 => ?_)
            clear hW H locs; intro H locs hW
            refine lv_as (y := nI n) er_2649 ?_
            clear er_2649 r_2649
            refine lv_icmp_ge (tgt := 114) hx hb dX11_digest_58 (by decide) (fun c_2650 => ?_) (fun c_2650 => ?_)
            · replace c_2650 := Int32.not_lt.mpr c_2650
              have c_2650n : ¬ p9 < n := fun q => c_2650 ((nI_ltI (a := p9) (b := n) (by omega) (by omega)).mpr q)
              obtain rfl : n = p9 := (show p9 = n from by omega).symm
              refine lv_aload_n hx hb dX11_digest_114 rfl (lv_at hl 2 rfl) ?_
              refine lv_lload_n hx hb dX11_digest_115 rfl (lv_at hl 1 rfl) ?_
              refine lv_bipush (v := 40) hx hb dX11_digest_116 (by decide) ?_
              refine lv_iconst (v := 3) hx hb dX11_digest_118 (by decide) ?_
              refine lv_aload_n hx hb dX11_digest_119 rfl (lv_at hl 2 rfl) ?_
              refine g_get (k := 0) (v := .ref al) C hW 0 rfl rfl jnX11 (by decide) k_fl_X11_7 rfl dX11_digest_120 ?_
              refine lv_iconst (v := 1) hx hb dX11_digest_123 (by decide) ?_
              refine g_ald C hW 1 rfl (vp_in_nI (n := 1) (by omega) (by omega)) dX11_digest_124 ?_
              refine lv_as (y := a 1) (rfl) ?_
              refine lv_as (y := nI sn) (e1) ?_
              refine lv_imul hx hb dX11_digest_125 ?_
              refine lv_as (y := nI (3 * sn)) (by simp only [nI_lit, pk_mul]) ?_
              refine g_fl C hW [0, 1] rfl (g_runV (As := [.long (fd (fd (fd (fd 1663 (ctV a n tn) 9) (fun i => a (6 + i)) 6) (fun i => a (13 + i)) 6) (pfA a) (n * 3)), .int 40, .int (nI (3 * sn))]) (rest := []) (wc := [(mo, .inr (9, [.ref al, .ref ke, .ref ik, .ref rq, .long mab, .long mbe, .ref so, .ref ha, .ref te, .ref bt, .int (nI tn), .int tA, .int tL, .int tK, .int tV, .ref an, .ref vs])), (al, .inl (G.2.1, 159, .inl a))]) (q0 := 0) (ci := 9) C hW hl (c_X11_sums l G mo al ke ik rq so ha te bt an vs mab mbe (nI tn) tA tL tK tV a (fd (fd (fd (fd 1663 (ctV a n tn) 9) (fun i => a (6 + i)) 6) (fun i => a (13 + i)) 6) (pfA a) (n * 3)) 40 (3 * sn) (by omega) _) k_ml_X11_298 q_X11_sums (by decide) [0, 1] rfl rfl rfl rfl rfl rfl (Nat.le_of_ble_eq_true rfl) dX11_digest_126 (by decide)) (fun r_2651 er_2651 => ?_)
              clear hW H locs; intro H locs hW
              refine lv_asl (y := fd (fd (fd (fd (fd 1663 (ctV a n tn) 9) (fun i => a (6 + i)) 6) (fun i => a (13 + i)) 6) (pfA a) (n * 3)) (fun i => a (40 + i)) (3 * sn)) er_2651 ?_
              clear er_2651 r_2651
              refine lv_lstore_n (lv' := [(1, .long (fd (fd (fd (fd (fd 1663 (ctV a n tn) 9) (fun i => a (6 + i)) 6) (fun i => a (13 + i)) 6) (pfA a) (n * 3)) (fun i => a (40 + i)) (3 * sn))), (3, .int (nI n)), (0, .ref mo)]) hx hb dX11_digest_129 rfl hl (by decide) rfl ?_
              clear hl ls; intro ls hl
              refine lv_aload_n hx hb dX11_digest_130 rfl (lv_at hl 2 rfl) ?_
              refine lv_lload_n hx hb dX11_digest_131 rfl (lv_at hl 0 rfl) ?_
              refine lv_bipush (v := 55) hx hb dX11_digest_132 (by decide) ?_
              refine lv_iconst (v := 4) hx hb dX11_digest_134 (by decide) ?_
              refine lv_aload_n hx hb dX11_digest_135 rfl (lv_at hl 2 rfl) ?_
              refine g_get (k := 0) (v := .ref al) C hW 0 rfl rfl jnX11 (by decide) k_fl_X11_7 rfl dX11_digest_136 ?_
              refine lv_iconst (v := 2) hx hb dX11_digest_139 (by decide) ?_
              refine g_ald C hW 1 rfl (vp_in_nI (n := 2) (by omega) (by omega)) dX11_digest_140 ?_
              refine lv_as (y := a 2) (rfl) ?_
              refine lv_as (y := nI nn) (e2) ?_
              refine lv_imul hx hb dX11_digest_141 ?_
              refine lv_as (y := nI (4 * nn)) (by simp only [nI_lit, pk_mul]) ?_
              refine g_fl C hW [0, 1] rfl (g_runV (As := [.long (fd (fd (fd (fd (fd 1663 (ctV a n tn) 9) (fun i => a (6 + i)) 6) (fun i => a (13 + i)) 6) (pfA a) (n * 3)) (fun i => a (40 + i)) (3 * sn)), .int 55, .int (nI (4 * nn))]) (rest := []) (wc := [(mo, .inr (9, [.ref al, .ref ke, .ref ik, .ref rq, .long mab, .long mbe, .ref so, .ref ha, .ref te, .ref bt, .int (nI tn), .int tA, .int tL, .int tK, .int tV, .ref an, .ref vs])), (al, .inl (G.2.1, 159, .inl a))]) (q0 := 0) (ci := 9) C hW hl (c_X11_sums l G mo al ke ik rq so ha te bt an vs mab mbe (nI tn) tA tL tK tV a (fd (fd (fd (fd (fd 1663 (ctV a n tn) 9) (fun i => a (6 + i)) 6) (fun i => a (13 + i)) 6) (pfA a) (n * 3)) (fun i => a (40 + i)) (3 * sn)) 55 (4 * nn) (by omega) _) k_ml_X11_298 q_X11_sums (by decide) [0, 1] rfl rfl rfl rfl rfl rfl (Nat.le_of_ble_eq_true rfl) dX11_digest_142 (by decide)) (fun r_2652 er_2652 => ?_)
              clear hW H locs; intro H locs hW
              refine lv_asl (y := fd (fd (fd (fd (fd (fd 1663 (ctV a n tn) 9) (fun i => a (6 + i)) 6) (fun i => a (13 + i)) 6) (pfA a) (n * 3)) (fun i => a (40 + i)) (3 * sn)) (fun i => a (55 + i)) (4 * nn)) er_2652 ?_
              clear er_2652 r_2652
              refine lv_lstore_n (lv' := [(1, .long (fd (fd (fd (fd (fd (fd 1663 (ctV a n tn) 9) (fun i => a (6 + i)) 6) (fun i => a (13 + i)) 6) (pfA a) (n * 3)) (fun i => a (40 + i)) (3 * sn)) (fun i => a (55 + i)) (4 * nn))), (3, .int (nI n)), (0, .ref mo)]) hx hb dX11_digest_145 rfl hl (by decide) rfl ?_
              clear hl ls; intro ls hl
              refine lv_aload_n hx hb dX11_digest_146 rfl (lv_at hl 2 rfl) ?_
              refine lv_lload_n hx hb dX11_digest_147 rfl (lv_at hl 0 rfl) ?_
              refine lv_bipush (v := 79) hx hb dX11_digest_148 (by decide) ?_
              refine lv_iconst (v := 4) hx hb dX11_digest_150 (by decide) ?_
              refine lv_aload_n hx hb dX11_digest_151 rfl (lv_at hl 2 rfl) ?_
              refine g_get (k := 0) (v := .ref al) C hW 0 rfl rfl jnX11 (by decide) k_fl_X11_7 rfl dX11_digest_152 ?_
              refine lv_iconst (v := 3) hx hb dX11_digest_155 (by decide) ?_
              refine g_ald C hW 1 rfl (vp_in_nI (n := 3) (by omega) (by omega)) dX11_digest_156 ?_
              refine lv_as (y := a 3) (rfl) ?_
              refine lv_as (y := nI mn) (e3) ?_
              refine lv_imul hx hb dX11_digest_157 ?_
              refine lv_as (y := nI (4 * mn)) (by simp only [nI_lit, pk_mul]) ?_
              refine g_fl C hW [0, 1] rfl (g_runV (As := [.long (fd (fd (fd (fd (fd (fd 1663 (ctV a n tn) 9) (fun i => a (6 + i)) 6) (fun i => a (13 + i)) 6) (pfA a) (n * 3)) (fun i => a (40 + i)) (3 * sn)) (fun i => a (55 + i)) (4 * nn)), .int 79, .int (nI (4 * mn))]) (rest := []) (wc := [(mo, .inr (9, [.ref al, .ref ke, .ref ik, .ref rq, .long mab, .long mbe, .ref so, .ref ha, .ref te, .ref bt, .int (nI tn), .int tA, .int tL, .int tK, .int tV, .ref an, .ref vs])), (al, .inl (G.2.1, 159, .inl a))]) (q0 := 0) (ci := 9) C hW hl (c_X11_sums l G mo al ke ik rq so ha te bt an vs mab mbe (nI tn) tA tL tK tV a (fd (fd (fd (fd (fd (fd 1663 (ctV a n tn) 9) (fun i => a (6 + i)) 6) (fun i => a (13 + i)) 6) (pfA a) (n * 3)) (fun i => a (40 + i)) (3 * sn)) (fun i => a (55 + i)) (4 * nn)) 79 (4 * mn) (by omega) _) k_ml_X11_298 q_X11_sums (by decide) [0, 1] rfl rfl rfl rfl rfl rfl (Nat.le_of_ble_eq_true rfl) dX11_digest_158 (by decide)) (fun r_2653 er_2653 => ?_)
              clear hW H locs; intro H locs hW
              refine lv_asl (y := fd (fd (fd (fd (fd (fd (fd 1663 (ctV a n tn) 9) (fun i => a (6 + i)) 6) (fun i => a (13 + i)) 6) (pfA a) (n * 3)) (fun i => a (40 + i)) (3 * sn)) (fun i => a (55 + i)) (4 * nn)) (fun i => a (79 + i)) (4 * mn)) er_2653 ?_
              clear er_2653 r_2653
              refine lv_lstore_n (lv' := [(1, .long (fd (fd (fd (fd (fd (fd (fd 1663 (ctV a n tn) 9) (fun i => a (6 + i)) 6) (fun i => a (13 + i)) 6) (pfA a) (n * 3)) (fun i => a (40 + i)) (3 * sn)) (fun i => a (55 + i)) (4 * nn)) (fun i => a (79 + i)) (4 * mn))), (3, .int (nI n)), (0, .ref mo)]) hx hb dX11_digest_161 rfl hl (by decide) rfl ?_
              clear hl ls; intro ls hl
              refine lv_ldc2 (v := 31) hx hb hown (ht _ k_cg_X11_294) dX11_digest_162 ?_
              refine lv_ldc2 (v := 31) hx hb hown (ht _ k_cg_X11_294) dX11_digest_165 ?_
              refine lv_lload_n hx hb dX11_digest_168 rfl (lv_at hl 0 rfl) ?_
              refine lv_lmul hx hb dX11_digest_169 ?_
              refine lv_aload_n hx hb dX11_digest_170 rfl (lv_at hl 2 rfl) ?_
              refine g_get (k := 4) (v := .long mab) C hW 0 rfl rfl jnX11 (by decide) k_fl_X11_197 rfl dX11_digest_171 ?_
              refine lv_ladd hx hb dX11_digest_174 ?_
              refine lv_lmul hx hb dX11_digest_175 ?_
              refine lv_aload_n hx hb dX11_digest_176 rfl (lv_at hl 2 rfl) ?_
              refine g_get (k := 5) (v := .long mbe) C hW 0 rfl rfl jnX11 (by decide) k_fl_X11_23 rfl dX11_digest_177 ?_
              refine lv_ladd hx hb dX11_digest_180 ?_
              subst hQ
              exact g_lret (v := ((31 * ((31 * (fd (fd (fd (fd (fd (fd (fd 1663 (ctV a n tn) 9) (fun i => a (6 + i)) 6) (fun i => a (13 + i)) 6) (pfA a) (n * 3)) (fun i => a (40 + i)) (3 * sn)) (fun i => a (55 + i)) (4 * nn)) (fun i => a (79 + i)) (4 * mn))) + mab)) + mbe)) C hW hrt ⟨by rfl, rfl⟩ dX11_digest_181
            · replace c_2650 := Int32.not_le.mp c_2650
              have c_2650n : p9 < n := (nI_ltI (a := p9) (b := n) (by omega) (by omega)).mp c_2650
              refine lv_ldc2 (v := 31) hx hb hown (ht _ k_cg_X11_294) dX11_digest_61 ?_
              refine lv_ldc2 (v := 31) hx hb hown (ht _ k_cg_X11_294) dX11_digest_64 ?_
              refine lv_ldc2 (v := 31) hx hb hown (ht _ k_cg_X11_294) dX11_digest_67 ?_
              refine lv_lload_n hx hb dX11_digest_70 rfl (lv_at hl 1 rfl) ?_
              refine lv_lmul hx hb dX11_digest_71 ?_
              refine lv_aload_n hx hb dX11_digest_72 rfl (lv_at hl 2 rfl) ?_
              refine g_get (k := 0) (v := .ref al) C hW 0 rfl rfl jnX11 (by decide) k_fl_X11_7 rfl dX11_digest_73 ?_
              refine lv_bipush (v := 19) hx hb dX11_digest_76 (by decide) ?_
              refine lv_iload_n hx hb dX11_digest_78 rfl (lv_at hl 0 rfl) ?_
              refine lv_iadd hx hb dX11_digest_79 ?_
              refine g_ald C hW 1 rfl (ix_in (show (19 + (nI p9)) = nI (19 + p9) from (by first | rfl | (simp only [nI_lit, nI_add, pk_mul]; done) | (simp only [nI_lit, nI_add, pk_mul]; congr 1; omega))) (by omega) (by omega)) dX11_digest_80 ?_
              refine lv_as (y := a (19 + p9)) (by rw [show (19 + (nI p9)).toNatClampNeg = (19 + p9) from ix_cl (show (19 + (nI p9)) = nI (19 + p9) from (by first | rfl | (simp only [nI_lit, nI_add, pk_mul]; done) | (simp only [nI_lit, nI_add, pk_mul]; congr 1; omega))) (Nat.lt_of_lt_of_le (m := 159) (by omega) (by omega))]) ?_
              refine lv_i2l hx hb dX11_digest_81 rfl ?_
              refine lv_ladd hx hb dX11_digest_82 ?_
              refine lv_lmul hx hb dX11_digest_83 ?_
              refine lv_aload_n hx hb dX11_digest_84 rfl (lv_at hl 2 rfl) ?_
              refine g_get (k := 0) (v := .ref al) C hW 0 rfl rfl jnX11 (by decide) k_fl_X11_7 rfl dX11_digest_85 ?_
              refine lv_bipush (v := 26) hx hb dX11_digest_88 (by decide) ?_
              refine lv_iload_n hx hb dX11_digest_90 rfl (lv_at hl 0 rfl) ?_
              refine lv_iadd hx hb dX11_digest_91 ?_
              refine g_ald C hW 1 rfl (ix_in (show (26 + (nI p9)) = nI (26 + p9) from (by first | rfl | (simp only [nI_lit, nI_add, pk_mul]; done) | (simp only [nI_lit, nI_add, pk_mul]; congr 1; omega))) (by omega) (by omega)) dX11_digest_92 ?_
              refine lv_as (y := a (26 + p9)) (by rw [show (26 + (nI p9)).toNatClampNeg = (26 + p9) from ix_cl (show (26 + (nI p9)) = nI (26 + p9) from (by first | rfl | (simp only [nI_lit, nI_add, pk_mul]; done) | (simp only [nI_lit, nI_add, pk_mul]; congr 1; omega))) (Nat.lt_of_lt_of_le (m := 159) (by omega) (by omega))]) ?_
              refine lv_i2l hx hb dX11_digest_93 rfl ?_
              refine lv_ladd hx hb dX11_digest_94 ?_
              refine lv_lmul hx hb dX11_digest_95 ?_
              refine lv_aload_n hx hb dX11_digest_96 rfl (lv_at hl 2 rfl) ?_
              refine g_get (k := 0) (v := .ref al) C hW 0 rfl rfl jnX11 (by decide) k_fl_X11_7 rfl dX11_digest_97 ?_
              refine lv_bipush (v := 33) hx hb dX11_digest_100 (by decide) ?_
              refine lv_iload_n hx hb dX11_digest_102 rfl (lv_at hl 0 rfl) ?_
              refine lv_iadd hx hb dX11_digest_103 ?_
              refine g_ald C hW 1 rfl (ix_in (show (33 + (nI p9)) = nI (33 + p9) from (by first | rfl | (simp only [nI_lit, nI_add, pk_mul]; done) | (simp only [nI_lit, nI_add, pk_mul]; congr 1; omega))) (by omega) (by omega)) dX11_digest_104 ?_
              refine lv_as (y := a (33 + p9)) (by rw [show (33 + (nI p9)).toNatClampNeg = (33 + p9) from ix_cl (show (33 + (nI p9)) = nI (33 + p9) from (by first | rfl | (simp only [nI_lit, nI_add, pk_mul]; done) | (simp only [nI_lit, nI_add, pk_mul]; congr 1; omega))) (Nat.lt_of_lt_of_le (m := 159) (by omega) (by omega))]) ?_
              refine lv_i2l hx hb dX11_digest_105 rfl ?_
              refine lv_ladd hx hb dX11_digest_106 ?_
              refine lv_lstore_n (lv' := [(1, .long ((31 * ((31 * ((31 * (fd (fd (fd (fd 1663 (ctV a n tn) 9) (fun i => a (6 + i)) 6) (fun i => a (13 + i)) 6) (pfA a) (p9 * 3))) + ((a (19 + p9)).toInt64))) + ((a (26 + p9)).toInt64))) + ((a (33 + p9)).toInt64))), (3, .int (nI p9)), (0, .ref mo)]) hx hb dX11_digest_107 rfl hl (by decide) rfl ?_
              clear hl ls; intro ls hl
              refine lv_iinc (v := (nI p9) + 1) (lv' := [(3, .int ((nI p9) + 1)), (1, .long ((31 * ((31 * ((31 * (fd (fd (fd (fd 1663 (ctV a n tn) 9) (fun i => a (6 + i)) 6) (fun i => a (13 + i)) 6) (pfA a) (p9 * 3))) + ((a (19 + p9)).toInt64))) + ((a (26 + p9)).toInt64))) + ((a (33 + p9)).toInt64))), (0, .ref mo)]) hx hb dX11_digest_108 hl (k := 1) rfl rfl (by decide) rfl ?_
              clear hl ls; intro ls hl
              refine lv_goto (tgt := 53) hx hb dX11_digest_111 (by decide) ?_
              exact ihK_2646 (p9 + 1) ((nI p9) + 1) ((31 * ((31 * ((31 * (fd (fd (fd (fd 1663 (ctV a n tn) 9) (fun i => a (6 + i)) 6) (fun i => a (13 + i)) 6) (pfA a) (p9 * 3))) + ((a (19 + p9)).toInt64))) + ((a (26 + p9)).toInt64))) + ((a (33 + p9)).toInt64)) (by exact nI_1 _) (by exact pf_3) (by first | omega | assumption | (simp; done)) (by omega) _ _ _ hW (lv_sub hl [0, 1, 2] rfl)
        exact K_2646 _ 0 0 (fd (fd (fd 1663 (ctV a n tn) 9) (fun i => a (6 + i)) 6) (fun i => a (13 + i)) 6) (by first | exact rfl | (simp; done)) (by (rw [Nat.zero_mul, fd_0])) (by first | omega | assumption | (simp; done)) (Nat.lt_succ_self _) _ _ _ hW (lv_sub hl [0, 1, 2] rfl)
      · replace c_2642 := Int32.not_le.mp c_2642
        have c_2642n : j < 9 := (nI_ltI (a := j) (b := 9) (by omega) (by omega)).mp c_2642
        refine lv_ldc2 (v := 31) hx hb hown (ht _ k_cg_X11_294) dX11_digest_12 ?_
        refine lv_lload_n hx hb dX11_digest_15 rfl (lv_at hl 1 rfl) ?_
        refine lv_lmul hx hb dX11_digest_16 ?_
        refine lv_aload_n hx hb dX11_digest_17 rfl (lv_at hl 2 rfl) ?_
        refine lv_iload_n hx hb dX11_digest_18 rfl (lv_at hl 0 rfl) ?_
        refine g_fi C hW [0, 1] rfl (g_runV (As := [.int (nI j)]) (rest := [.long (31 * (fd 1663 (ctV a n tn) j))]) (wc := [(mo, .inr (9, [.ref al, .ref ke, .ref ik, .ref rq, .long mab, .long mbe, .ref so, .ref ha, .ref te, .ref bt, .int (nI tn), .int tA, .int tL, .int tK, .int tV, .ref an, .ref vs])), (al, .inl (G.2.1, 159, .inl a))]) (q0 := 0) (ci := 9) C hW hl (c_X11_counted l G mo al ke ik rq so ha te bt an vs mab mbe tA tL tK tV tn a n j (by first | assumption | omega) (by first | assumption | omega) (by first | assumption | omega) _) k_ml_X11_291 q_X11_counted (by decide) [0, 1] rfl rfl rfl rfl rfl rfl (Nat.le_of_ble_eq_true rfl) dX11_digest_19 (by decide)) (fun r_2654 er_2654 => ?_)
        clear hW H locs; intro H locs hW
        refine lv_as (y := ctV a n tn j) er_2654 ?_
        clear er_2654 r_2654
        refine lv_i2l hx hb dX11_digest_22 rfl ?_
        refine lv_ladd hx hb dX11_digest_23 ?_
        refine lv_lstore_n (lv' := [(1, .long ((31 * (fd 1663 (ctV a n tn) j)) + ((ctV a n tn j).toInt64))), (3, .int (nI j)), (0, .ref mo)]) hx hb dX11_digest_24 rfl hl (by decide) rfl ?_
        clear hl ls; intro ls hl
        refine lv_iinc (v := (nI j) + 1) (lv' := [(3, .int ((nI j) + 1)), (1, .long ((31 * (fd 1663 (ctV a n tn) j)) + ((ctV a n tn j).toInt64))), (0, .ref mo)]) hx hb dX11_digest_25 hl (k := 1) rfl rfl (by decide) rfl ?_
        clear hl ls; intro ls hl
        refine lv_goto (tgt := 6) hx hb dX11_digest_28 (by decide) ?_
        exact ihK_2639 (j + 1) ((nI j) + 1) ((31 * (fd 1663 (ctV a n tn) j)) + ((ctV a n tn j).toInt64)) (by exact nI_1 _) (by exact rfl) (by first | omega | assumption | (simp; done)) (by omega) _ _ _ hW (lv_sub hl [0, 1, 2] rfl)
  exact K_2639 _ 0 0 1663 (by first | exact rfl | (simp; done)) (by exact rfl) (by first | omega | assumption | (simp; done)) (Nat.lt_succ_self _) _ _ _ hW (lv_sub hl [0, 1, 2] rfl)
