set_option maxHeartbeats 4000000 in
set_option maxRecDepth 100000 in
theorem c_X10_lowestBit (l : Launch) (G : gT) (x9 : Int32)  : MI l G yX10_lowestBit cX10_lowestBit 2 .int ({ frames := 0, cells := 0, slots := 0, locals := 0 }) [.int x9] [] (fun (r : Int32) w1 => (r = lwb x9) ∧ w1 = []) := by
  refine MI.mk (by decide) (Nat.le_of_ble_eq_true rfl) ?_
  intro p_ e_ s_ m_ ar_ be_ me_ cd_ A_ ls C hrt hW hl
  have hx := C.1; have hb := C.2.1; have hown := C.2.2.2.1; have ht := C.2.2.2.2.1
  replace hl : lv_has ls 2 [(0, .int x9)] := hl
  generalize hQ : MQ be_ _ ar_ s_ 0 0 A_ = Q
  refine lv_iconst (v := 0) hx hb dX10_lowestBit_0 (by decide) ?_
  refine lv_istore_n (lv' := [(1, .int 0), (0, .int x9)]) hx hb dX10_lowestBit_1 rfl hl (by decide) rfl ?_
  clear hl ls; intro ls hl
  have K_1059 : ∀ (n_ : Nat) (j : Nat) (x_1060 : Int32) (_ : x_1060 = nI j) (_ : j ≤ 32) (_ : ∀ i, i < j → tb x9 i = false) (_ : 32 - j < n_) (H : Heap) (locs : List Loc) (ls : Array Slot), Wd G A_ s_.heap [] H locs → lv_has ls 2 [(1, .int x_1060), (0, .int x9)] → W p_ l e_ ({ frames := 0, cells := 0, slots := 0, locals := 0 }) s_ m_ ar_ be_ me_ cd_ H locs 0 0 Q (F0 m_ 2 ls []) := by
    intro n_
    induction n_ with
    | zero => intro j x_1060 ex_1060 hj hz hm_; exact absurd hm_ (Nat.not_lt_zero _)
    | succ n_ ihK_1059 =>
      intro j x_1060 ex_1060 hj hz hm_ H locs ls hW hl
      subst ex_1060
      refine lv_iload_n hx hb dX10_lowestBit_2 rfl (lv_at hl 0 rfl) ?_
      refine lv_bipush (v := 32) hx hb dX10_lowestBit_3 (by decide) ?_
      refine lv_icmp_ge (tgt := 24) hx hb dX10_lowestBit_5 (by decide) (fun c_1061 => ?_) (fun c_1061 => ?_)
      · replace c_1061 := Int32.not_lt.mpr c_1061
        have c_1061n : ¬ j < 32 := fun q => c_1061 ((nI_ltI (a := j) (b := 32) (by omega) (by omega)).mpr q)
        refine lv_iconst (v := (-1)) hx hb dX10_lowestBit_24 (by decide) ?_
        subst hQ
        exact g_iret (v := (-1)) C hW hrt ⟨by (have e : j = 32 := by omega); (subst e; exact lwb_n hz), rfl⟩ dX10_lowestBit_25
      · replace c_1061 := Int32.not_le.mp c_1061
        have c_1061n : j < 32 := (nI_ltI (a := j) (b := 32) (by omega) (by omega)).mp c_1061
        refine lv_iload_n hx hb dX10_lowestBit_8 rfl (lv_at hl 1 rfl) ?_
        refine lv_iload_n hx hb dX10_lowestBit_9 rfl (lv_at hl 0 rfl) ?_
        refine lv_ishr hx hb dX10_lowestBit_10 ?_
        refine lv_iconst (v := 1) hx hb dX10_lowestBit_11 (by decide) ?_
        refine lv_iand hx hb dX10_lowestBit_12 ?_
        refine lv_if_eq (tgt := 18) hx hb dX10_lowestBit_13 (by decide) (fun c_1062 => ?_) (fun c_1062 => ?_)
        · refine lv_iinc (v := (nI j) + 1) (lv' := [(1, .int ((nI j) + 1)), (0, .int x9)]) hx hb dX10_lowestBit_18 hl (k := 0) rfl rfl (by decide) rfl ?_
          clear hl ls; intro ls hl
          refine lv_goto (tgt := 2) hx hb dX10_lowestBit_21 (by decide) ?_
          exact ihK_1059 (j + 1) ((nI j) + 1) (by exact nI_1 _) (by first | omega | assumption | (simp; done)) (by exact lt_s hz (tbf c_1062)) (by omega) _ _ _ hW (lv_sub hl [0, 1] rfl)
        · refine lv_iload_n hx hb dX10_lowestBit_16 rfl (lv_at hl 0 rfl) ?_
          subst hQ
          exact g_iret (v := (nI j)) C hW hrt ⟨by exact lwb_j (by omega) hz (tbt c_1062), rfl⟩ dX10_lowestBit_17
  exact K_1059 _ 0 0 (by first | exact rfl | (simp; done)) (by first | omega | assumption | (simp; done)) (by exact lt_0) (Nat.lt_succ_self _) _ _ _ hW (lv_sub hl [0, 1] rfl)
set_option maxHeartbeats 4000000 in
set_option maxRecDepth 100000 in
theorem c_X10_highestBit (l : Launch) (G : gT) (x9 : Int32)  : MI l G yX10_highestBit cX10_highestBit 2 .int ({ frames := 0, cells := 0, slots := 0, locals := 0 }) [.int x9] [] (fun (r : Int32) w1 => (r = hgb x9) ∧ w1 = []) := by
  refine MI.mk (by decide) (Nat.le_of_ble_eq_true rfl) ?_
  intro p_ e_ s_ m_ ar_ be_ me_ cd_ A_ ls C hrt hW hl
  have hx := C.1; have hb := C.2.1; have hown := C.2.2.2.1; have ht := C.2.2.2.2.1
  replace hl : lv_has ls 2 [(0, .int x9)] := hl
  generalize hQ : MQ be_ _ ar_ s_ 0 0 A_ = Q
  refine lv_bipush (v := 31) hx hb dX10_highestBit_0 (by decide) ?_
  refine lv_istore_n (lv' := [(1, .int 31), (0, .int x9)]) hx hb dX10_highestBit_2 rfl hl (by decide) rfl ?_
  clear hl ls; intro ls hl
  have K_1063 : ∀ (n_ : Nat) (j : Nat) (x_1064 : Int32) (_ : x_1064 = nI (32 - j) - 1) (_ : j ≤ 32) (_ : ∀ i, i < j → tb x9 (31 - i) = false) (_ : 32 - j < n_) (H : Heap) (locs : List Loc) (ls : Array Slot), Wd G A_ s_.heap [] H locs → lv_has ls 2 [(1, .int x_1064), (0, .int x9)] → W p_ l e_ ({ frames := 0, cells := 0, slots := 0, locals := 0 }) s_ m_ ar_ be_ me_ cd_ H locs 0 0 Q (F0 m_ 3 ls []) := by
    intro n_
    induction n_ with
    | zero => intro j x_1064 ex_1064 hj hz hm_; exact absurd hm_ (Nat.not_lt_zero _)
    | succ n_ ihK_1063 =>
      intro j x_1064 ex_1064 hj hz hm_ H locs ls hW hl
      subst ex_1064
      refine lv_iload_n hx hb dX10_highestBit_3 rfl (lv_at hl 0 rfl) ?_
      refine lv_if_lt (tgt := 23) hx hb dX10_highestBit_4 (by decide) (fun c_1065 => ?_) (fun c_1065 => ?_)
      · replace c_1065 := Int32.not_le.mpr c_1065
        have hj9 : ¬ j < 32 := fun q => c_1065 ((m1_ge (show 32 - j < 1000 by omega)).mpr (by omega))
        refine lv_iconst (v := (-1)) hx hb dX10_highestBit_23 (by decide) ?_
        subst hQ
        exact g_iret (v := (-1)) C hW hrt ⟨by (have e : j = 32 := by omega); (subst e; exact hgb_n hz), rfl⟩ dX10_highestBit_24
      · replace c_1065 := Int32.not_lt.mp c_1065
        have hj9 : j < 32 := by (have q := (m1_ge (show 32 - j < 1000 by omega)).mp c_1065); omega
        have e31 : nI (32 - j) - 1 = nI (31 - j) := by rw [nI_dec1 (by omega)]; rw [show 32 - j - 1 = 31 - j by omega]
        refine lv_iload_n hx hb dX10_highestBit_7 rfl (lv_at hl 1 rfl) ?_
        refine lv_iload_n hx hb dX10_highestBit_8 rfl (lv_at hl 0 rfl) ?_
        refine lv_as (y := nI (31 - j)) (e31) ?_
        refine lv_ishr hx hb dX10_highestBit_9 ?_
        refine lv_iconst (v := 1) hx hb dX10_highestBit_10 (by decide) ?_
        refine lv_iand hx hb dX10_highestBit_11 ?_
        refine lv_if_eq (tgt := 17) hx hb dX10_highestBit_12 (by decide) (fun c_1066 => ?_) (fun c_1066 => ?_)
        · refine lv_iinc (v := (nI (32 - j) - 1) + (-1)) (lv' := [(1, .int ((nI (32 - j) - 1) + (-1))), (0, .int x9)]) hx hb dX10_highestBit_17 hl (k := 0) rfl rfl (by decide) rfl ?_
          clear hl ls; intro ls hl
          refine lv_goto (tgt := 3) hx hb dX10_highestBit_20 (by decide) ?_
          exact ihK_1063 (j + 1) ((nI (32 - j) - 1) + (-1)) (by (rw [m1_p (show 0 < 32 - j by omega)]; rw [show 32 - j - 1 = 32 - (j + 1) by omega])) (by first | omega | assumption | (simp; done)) (by exact lt_s hz (tbf c_1066)) (by omega) _ _ _ hW (lv_sub hl [0, 1] rfl)
        · refine lv_iload_n hx hb dX10_highestBit_15 rfl (lv_at hl 0 rfl) ?_
          refine lv_as (y := nI (31 - j)) (e31) ?_
          subst hQ
          exact g_iret (v := (nI (31 - j))) C hW hrt ⟨by exact hgb_j (by omega) hz (tbt c_1066), rfl⟩ dX10_highestBit_16
  exact K_1063 _ 0 31 (by decide) (by first | omega | assumption | (simp; done)) (by exact lt_0) (Nat.lt_succ_self _) _ _ _ hW (lv_sub hl [0, 1] rfl)
set_option maxHeartbeats 4000000 in
set_option maxRecDepth 100000 in
theorem c_X10_heavy_0 (l : Launch) (G : gT) (v vw vc vp vs vn vm vu : Nat) (wide : Int32) (vpc n : Nat) (pf : Nat → Int32) (ck wd : Nat → Int32) (to iv jv rd st ra og : Nat) (k1 k2 ab be bds nos fls : Int32) (om : Nat) (vsc sn : Nat) (sf : Nat → Int32) (x9 : Int32) (hn : n ≤ 7) (hP : okP n pf) (hWd : okW wd) (hs : sn ≤ 5) (hS : okS n sn sf) (hx9 : x9 = 0) : MI l G yX10_heavy cX10_heavy 3 .int ({ frames := 6, cells := 0, slots := 0, locals := 141 }) [.ref to, .int x9] [(to, .inr (8, [.ref v, .ref iv, .ref jv, .int k1, .int k2, .ref rd, .ref st, .ref ra, .ref og, .int ab, .int be, .int bds, .int nos, .int fls])), (og, .inr (0, [.ref om])), (v, .inr (7, [.int wide, .ref vw, .ref vc, .ref vp, .ref vs, .ref vn, .ref vm, .ref vu])), (vp, .inr (4, [.int 7, .int 3, .ref vpc, .int (nI n)])), (vpc, .inl (G.2.1, 21, .inl pf)), (vc, .inl (G.2.1, 7, .inl ck)), (vw, .inl (G.2.1, 6, .inl wd)), (vs, .inr (4, [.int 5, .int 3, .ref vsc, .int (nI sn)])), (vsc, .inl (G.2.1, 15, .inl sf))] (fun (r : Int32) w1 => (r = bc (wts wide ck wd pf sf sn)) ∧ w1 = [(to, .inr (8, [.ref v, .ref iv, .ref jv, .int k1, .int k2, .ref rd, .ref st, .ref ra, .ref og, .int ab, .int be, .int bds, .int nos, .int fls])), (og, .inr (0, [.ref om])), (v, .inr (7, [.int wide, .ref vw, .ref vc, .ref vp, .ref vs, .ref vn, .ref vm, .ref vu])), (vp, .inr (4, [.int 7, .int 3, .ref vpc, .int (nI n)])), (vpc, .inl (G.2.1, 21, .inl pf)), (vc, .inl (G.2.1, 7, .inl ck)), (vw, .inl (G.2.1, 6, .inl wd)), (vs, .inr (4, [.int 5, .int 3, .ref vsc, .int (nI sn)])), (vsc, .inl (G.2.1, 15, .inl sf))]) := by
  refine MI.mk (by decide) (Nat.le_of_ble_eq_true rfl) ?_
  intro p_ e_ s_ m_ ar_ be_ me_ cd_ A_ ls C hrt hW hl
  have hx := C.1; have hb := C.2.1; have hown := C.2.2.2.1; have ht := C.2.2.2.2.1
  replace hl : lv_has ls 3 [(0, .ref to), (1, .int x9)] := hl
  generalize hQ : MQ be_ _ ar_ s_ 0 0 A_ = Q
  refine lv_iload_n hx hb dX10_heavy_0 rfl (lv_at hl 1 rfl) ?_
  refine lv_iconst (v := 0) hx hb dX10_heavy_1 (by decide) ?_
  refine lv_iconst (v := 2) hx hb dX10_heavy_2 (by decide) ?_
  refine g_fi C hW [] rfl (g_runS (As := [.int x9, .int 0, .int 2]) (rest := []) (wc := []) C hW hl (c_X10_isWithin l G x9 0 2  _) k_ml_X10_73 q_X10_isWithin (by decide) [] rfl rfl rfl rfl (Nat.le_of_ble_eq_true rfl) dX10_heavy_3 (by decide)) (fun r_1067 er_1067 => ?_)
  clear hW; intro H locs hW
  refine lv_as (y := bI (iw x9 0 2)) er_1067 ?_
  clear er_1067 r_1067
  refine lv_if_ne (tgt := 16) hx hb dX10_heavy_6 (by decide) (fun c_1068 => ?_) (fun c_1068 => ?_)
  · refine lv_aload_n hx hb dX10_heavy_16 rfl (lv_at hl 0 rfl) ?_
    refine g_get (k := 8) (v := .ref og) C hW 0 rfl rfl jnX10 (by decide) k_fl_X10_53 rfl dX10_heavy_17 ?_
    refine lv_aload_n hx hb dX10_heavy_20 rfl (lv_at hl 0 rfl) ?_
    refine g_get (k := 0) (v := .ref v) C hW 0 rfl rfl jnX10 (by decide) k_fl_X10_10 rfl dX10_heavy_21 ?_
    refine g_fi C hW [1, 2, 3, 4, 5, 6, 7, 8] rfl (g_runV (As := [.ref v]) (rest := []) (wc := [(og, .inr (0, [.ref om])), (v, .inr (7, [.int wide, .ref vw, .ref vc, .ref vp, .ref vs, .ref vn, .ref vm, .ref vu])), (vp, .inr (4, [.int 7, .int 3, .ref vpc, .int (nI n)])), (vpc, .inl (G.2.1, 21, .inl pf)), (vc, .inl (G.2.1, 7, .inl ck)), (vw, .inl (G.2.1, 6, .inl wd)), (vs, .inr (4, [.int 5, .int 3, .ref vsc, .int (nI sn)])), (vsc, .inl (G.2.1, 15, .inl sf))]) (q0 := 0) (ci := 0) C hW hl (c_X1_weights l G og om v vw vc vp vs vn vm vu wide vpc n pf ck wd vsc sn sf (by first | assumption | omega) (by assumption) (by assumption) (by first | assumption | omega) (by assumption) _) k_ml_X10_244 q_X1_weights (by decide) [1, 2, 3, 4, 5, 6, 7, 8] rfl rfl rfl rfl rfl rfl (Nat.le_of_ble_eq_true rfl) dX10_heavy_24 (by decide)) (fun r_1069 er_1069 => ?_)
    clear hW H locs; intro H locs hW
    refine lv_as (y := wts wide ck wd pf sf sn) er_1069 ?_
    clear er_1069 r_1069
    refine lv_istore_n (lv' := [(2, .int (wts wide ck wd pf sf sn)), (0, .ref to), (1, .int x9)]) hx hb dX10_heavy_27 rfl hl (by decide) rfl ?_
    clear hl ls; intro ls hl
    refine lv_iload_n hx hb dX10_heavy_28 rfl (lv_at hl 2 rfl) ?_
    refine lv_if_ne (tgt := 37) hx hb dX10_heavy_29 (by decide) (fun c_1070 => ?_) (fun c_1070 => ?_)
    · exfalso; exact c_1070 hx9
    · refine lv_iload_n hx hb dX10_heavy_32 rfl (lv_at hl 0 rfl) ?_
      refine g_fi C hW [] rfl (g_runS (As := [.int (wts wide ck wd pf sf sn)]) (rest := []) (wc := []) C hW hl (c_J6_bitCount_0f7a4 l G (wts wide ck wd pf sf sn)  _) k_ml_X10_248 q_J6_bitCount_0f7a4 (by decide) [] rfl rfl rfl rfl (Nat.le_of_ble_eq_true rfl) dX10_heavy_33 (by decide)) (fun r_1071 er_1071 => ?_)
      clear hW H locs; intro H locs hW
      refine lv_as (y := bc (wts wide ck wd pf sf sn)) er_1071 ?_
      clear er_1071 r_1071
      subst hQ
      exact g_iret (v := (bc (wts wide ck wd pf sf sn))) C hW hrt ⟨by rfl, rfl⟩ dX10_heavy_36
  · exfalso; exact dd (by rw [hx9]; decide) c_1068
set_option maxHeartbeats 4000000 in
set_option maxRecDepth 100000 in
theorem c_X10_heavy_1 (l : Launch) (G : gT) (v vw vc vp vs vn vm vu : Nat) (wide : Int32) (vpc n : Nat) (pf : Nat → Int32) (ck wd : Nat → Int32) (to iv jv rd st ra og : Nat) (k1 k2 ab be bds nos fls : Int32) (om : Nat) (vsc sn : Nat) (sf : Nat → Int32) (x9 : Int32) (hn : n ≤ 7) (hP : okP n pf) (hWd : okW wd) (hs : sn ≤ 5) (hS : okS n sn sf) (hx9 : x9 = 1) : MI l G yX10_heavy cX10_heavy 3 .int ({ frames := 6, cells := 0, slots := 0, locals := 141 }) [.ref to, .int x9] [(to, .inr (8, [.ref v, .ref iv, .ref jv, .int k1, .int k2, .ref rd, .ref st, .ref ra, .ref og, .int ab, .int be, .int bds, .int nos, .int fls])), (og, .inr (0, [.ref om])), (v, .inr (7, [.int wide, .ref vw, .ref vc, .ref vp, .ref vs, .ref vn, .ref vm, .ref vu])), (vp, .inr (4, [.int 7, .int 3, .ref vpc, .int (nI n)])), (vpc, .inl (G.2.1, 21, .inl pf)), (vc, .inl (G.2.1, 7, .inl ck)), (vw, .inl (G.2.1, 6, .inl wd)), (vs, .inr (4, [.int 5, .int 3, .ref vsc, .int (nI sn)])), (vsc, .inl (G.2.1, 15, .inl sf))] (fun (r : Int32) w1 => (r = lwb (wts wide ck wd pf sf sn)) ∧ w1 = [(to, .inr (8, [.ref v, .ref iv, .ref jv, .int k1, .int k2, .ref rd, .ref st, .ref ra, .ref og, .int ab, .int be, .int bds, .int nos, .int fls])), (og, .inr (0, [.ref om])), (v, .inr (7, [.int wide, .ref vw, .ref vc, .ref vp, .ref vs, .ref vn, .ref vm, .ref vu])), (vp, .inr (4, [.int 7, .int 3, .ref vpc, .int (nI n)])), (vpc, .inl (G.2.1, 21, .inl pf)), (vc, .inl (G.2.1, 7, .inl ck)), (vw, .inl (G.2.1, 6, .inl wd)), (vs, .inr (4, [.int 5, .int 3, .ref vsc, .int (nI sn)])), (vsc, .inl (G.2.1, 15, .inl sf))]) := by
  refine MI.mk (by decide) (Nat.le_of_ble_eq_true rfl) ?_
  intro p_ e_ s_ m_ ar_ be_ me_ cd_ A_ ls C hrt hW hl
  have hx := C.1; have hb := C.2.1; have hown := C.2.2.2.1; have ht := C.2.2.2.2.1
  replace hl : lv_has ls 3 [(0, .ref to), (1, .int x9)] := hl
  generalize hQ : MQ be_ _ ar_ s_ 0 0 A_ = Q
  refine lv_iload_n hx hb dX10_heavy_0 rfl (lv_at hl 1 rfl) ?_
  refine lv_iconst (v := 0) hx hb dX10_heavy_1 (by decide) ?_
  refine lv_iconst (v := 2) hx hb dX10_heavy_2 (by decide) ?_
  refine g_fi C hW [] rfl (g_runS (As := [.int x9, .int 0, .int 2]) (rest := []) (wc := []) C hW hl (c_X10_isWithin l G x9 0 2  _) k_ml_X10_73 q_X10_isWithin (by decide) [] rfl rfl rfl rfl (Nat.le_of_ble_eq_true rfl) dX10_heavy_3 (by decide)) (fun r_1072 er_1072 => ?_)
  clear hW; intro H locs hW
  refine lv_as (y := bI (iw x9 0 2)) er_1072 ?_
  clear er_1072 r_1072
  refine lv_if_ne (tgt := 16) hx hb dX10_heavy_6 (by decide) (fun c_1073 => ?_) (fun c_1073 => ?_)
  · refine lv_aload_n hx hb dX10_heavy_16 rfl (lv_at hl 0 rfl) ?_
    refine g_get (k := 8) (v := .ref og) C hW 0 rfl rfl jnX10 (by decide) k_fl_X10_53 rfl dX10_heavy_17 ?_
    refine lv_aload_n hx hb dX10_heavy_20 rfl (lv_at hl 0 rfl) ?_
    refine g_get (k := 0) (v := .ref v) C hW 0 rfl rfl jnX10 (by decide) k_fl_X10_10 rfl dX10_heavy_21 ?_
    refine g_fi C hW [1, 2, 3, 4, 5, 6, 7, 8] rfl (g_runV (As := [.ref v]) (rest := []) (wc := [(og, .inr (0, [.ref om])), (v, .inr (7, [.int wide, .ref vw, .ref vc, .ref vp, .ref vs, .ref vn, .ref vm, .ref vu])), (vp, .inr (4, [.int 7, .int 3, .ref vpc, .int (nI n)])), (vpc, .inl (G.2.1, 21, .inl pf)), (vc, .inl (G.2.1, 7, .inl ck)), (vw, .inl (G.2.1, 6, .inl wd)), (vs, .inr (4, [.int 5, .int 3, .ref vsc, .int (nI sn)])), (vsc, .inl (G.2.1, 15, .inl sf))]) (q0 := 0) (ci := 0) C hW hl (c_X1_weights l G og om v vw vc vp vs vn vm vu wide vpc n pf ck wd vsc sn sf (by first | assumption | omega) (by assumption) (by assumption) (by first | assumption | omega) (by assumption) _) k_ml_X10_244 q_X1_weights (by decide) [1, 2, 3, 4, 5, 6, 7, 8] rfl rfl rfl rfl rfl rfl (Nat.le_of_ble_eq_true rfl) dX10_heavy_24 (by decide)) (fun r_1074 er_1074 => ?_)
    clear hW H locs; intro H locs hW
    refine lv_as (y := wts wide ck wd pf sf sn) er_1074 ?_
    clear er_1074 r_1074
    refine lv_istore_n (lv' := [(2, .int (wts wide ck wd pf sf sn)), (0, .ref to), (1, .int x9)]) hx hb dX10_heavy_27 rfl hl (by decide) rfl ?_
    clear hl ls; intro ls hl
    refine lv_iload_n hx hb dX10_heavy_28 rfl (lv_at hl 2 rfl) ?_
    refine lv_if_ne (tgt := 37) hx hb dX10_heavy_29 (by decide) (fun c_1075 => ?_) (fun c_1075 => ?_)
    · refine lv_iload_n hx hb dX10_heavy_37 rfl (lv_at hl 2 rfl) ?_
      refine lv_iconst (v := 1) hx hb dX10_heavy_38 (by decide) ?_
      refine lv_icmp_ne (tgt := 49) hx hb dX10_heavy_39 (by decide) (fun c_1076 => ?_) (fun c_1076 => ?_)
      · exfalso; exact c_1076 hx9
      · refine lv_iload_n hx hb dX10_heavy_42 rfl (lv_at hl 0 rfl) ?_
        refine g_fi C hW [] rfl (g_runS (As := [.int (wts wide ck wd pf sf sn)]) (rest := []) (wc := []) C hW hl (c_X10_lowestBit l G (wts wide ck wd pf sf sn)  _) k_ml_X10_253 q_X10_lowestBit (by decide) [] rfl rfl rfl rfl (Nat.le_of_ble_eq_true rfl) dX10_heavy_43 (by decide)) (fun r_1077 er_1077 => ?_)
        clear hW H locs; intro H locs hW
        refine lv_as (y := lwb (wts wide ck wd pf sf sn)) er_1077 ?_
        clear er_1077 r_1077
        refine lv_goto (tgt := 53) hx hb dX10_heavy_46 (by decide) ?_
        subst hQ
        exact g_iret (v := (lwb (wts wide ck wd pf sf sn))) C hW hrt ⟨by rfl, rfl⟩ dX10_heavy_53
    · exfalso; (rw [hx9] at c_1075; exact absurd c_1075 (by decide))
  · exfalso; exact dd (by rw [hx9]; decide) c_1073
set_option maxHeartbeats 4000000 in
set_option maxRecDepth 100000 in
theorem c_X10_heavy_2 (l : Launch) (G : gT) (v vw vc vp vs vn vm vu : Nat) (wide : Int32) (vpc n : Nat) (pf : Nat → Int32) (ck wd : Nat → Int32) (to iv jv rd st ra og : Nat) (k1 k2 ab be bds nos fls : Int32) (om : Nat) (vsc sn : Nat) (sf : Nat → Int32) (x9 : Int32) (hn : n ≤ 7) (hP : okP n pf) (hWd : okW wd) (hs : sn ≤ 5) (hS : okS n sn sf) (hx9 : x9 = 2) : MI l G yX10_heavy cX10_heavy 3 .int ({ frames := 6, cells := 0, slots := 0, locals := 141 }) [.ref to, .int x9] [(to, .inr (8, [.ref v, .ref iv, .ref jv, .int k1, .int k2, .ref rd, .ref st, .ref ra, .ref og, .int ab, .int be, .int bds, .int nos, .int fls])), (og, .inr (0, [.ref om])), (v, .inr (7, [.int wide, .ref vw, .ref vc, .ref vp, .ref vs, .ref vn, .ref vm, .ref vu])), (vp, .inr (4, [.int 7, .int 3, .ref vpc, .int (nI n)])), (vpc, .inl (G.2.1, 21, .inl pf)), (vc, .inl (G.2.1, 7, .inl ck)), (vw, .inl (G.2.1, 6, .inl wd)), (vs, .inr (4, [.int 5, .int 3, .ref vsc, .int (nI sn)])), (vsc, .inl (G.2.1, 15, .inl sf))] (fun (r : Int32) w1 => (r = hgb (wts wide ck wd pf sf sn)) ∧ w1 = [(to, .inr (8, [.ref v, .ref iv, .ref jv, .int k1, .int k2, .ref rd, .ref st, .ref ra, .ref og, .int ab, .int be, .int bds, .int nos, .int fls])), (og, .inr (0, [.ref om])), (v, .inr (7, [.int wide, .ref vw, .ref vc, .ref vp, .ref vs, .ref vn, .ref vm, .ref vu])), (vp, .inr (4, [.int 7, .int 3, .ref vpc, .int (nI n)])), (vpc, .inl (G.2.1, 21, .inl pf)), (vc, .inl (G.2.1, 7, .inl ck)), (vw, .inl (G.2.1, 6, .inl wd)), (vs, .inr (4, [.int 5, .int 3, .ref vsc, .int (nI sn)])), (vsc, .inl (G.2.1, 15, .inl sf))]) := by
  refine MI.mk (by decide) (Nat.le_of_ble_eq_true rfl) ?_
  intro p_ e_ s_ m_ ar_ be_ me_ cd_ A_ ls C hrt hW hl
  have hx := C.1; have hb := C.2.1; have hown := C.2.2.2.1; have ht := C.2.2.2.2.1
  replace hl : lv_has ls 3 [(0, .ref to), (1, .int x9)] := hl
  generalize hQ : MQ be_ _ ar_ s_ 0 0 A_ = Q
  refine lv_iload_n hx hb dX10_heavy_0 rfl (lv_at hl 1 rfl) ?_
  refine lv_iconst (v := 0) hx hb dX10_heavy_1 (by decide) ?_
  refine lv_iconst (v := 2) hx hb dX10_heavy_2 (by decide) ?_
  refine g_fi C hW [] rfl (g_runS (As := [.int x9, .int 0, .int 2]) (rest := []) (wc := []) C hW hl (c_X10_isWithin l G x9 0 2  _) k_ml_X10_73 q_X10_isWithin (by decide) [] rfl rfl rfl rfl (Nat.le_of_ble_eq_true rfl) dX10_heavy_3 (by decide)) (fun r_1078 er_1078 => ?_)
  clear hW; intro H locs hW
  refine lv_as (y := bI (iw x9 0 2)) er_1078 ?_
  clear er_1078 r_1078
  refine lv_if_ne (tgt := 16) hx hb dX10_heavy_6 (by decide) (fun c_1079 => ?_) (fun c_1079 => ?_)
  · refine lv_aload_n hx hb dX10_heavy_16 rfl (lv_at hl 0 rfl) ?_
    refine g_get (k := 8) (v := .ref og) C hW 0 rfl rfl jnX10 (by decide) k_fl_X10_53 rfl dX10_heavy_17 ?_
    refine lv_aload_n hx hb dX10_heavy_20 rfl (lv_at hl 0 rfl) ?_
    refine g_get (k := 0) (v := .ref v) C hW 0 rfl rfl jnX10 (by decide) k_fl_X10_10 rfl dX10_heavy_21 ?_
    refine g_fi C hW [1, 2, 3, 4, 5, 6, 7, 8] rfl (g_runV (As := [.ref v]) (rest := []) (wc := [(og, .inr (0, [.ref om])), (v, .inr (7, [.int wide, .ref vw, .ref vc, .ref vp, .ref vs, .ref vn, .ref vm, .ref vu])), (vp, .inr (4, [.int 7, .int 3, .ref vpc, .int (nI n)])), (vpc, .inl (G.2.1, 21, .inl pf)), (vc, .inl (G.2.1, 7, .inl ck)), (vw, .inl (G.2.1, 6, .inl wd)), (vs, .inr (4, [.int 5, .int 3, .ref vsc, .int (nI sn)])), (vsc, .inl (G.2.1, 15, .inl sf))]) (q0 := 0) (ci := 0) C hW hl (c_X1_weights l G og om v vw vc vp vs vn vm vu wide vpc n pf ck wd vsc sn sf (by first | assumption | omega) (by assumption) (by assumption) (by first | assumption | omega) (by assumption) _) k_ml_X10_244 q_X1_weights (by decide) [1, 2, 3, 4, 5, 6, 7, 8] rfl rfl rfl rfl rfl rfl (Nat.le_of_ble_eq_true rfl) dX10_heavy_24 (by decide)) (fun r_1080 er_1080 => ?_)
    clear hW H locs; intro H locs hW
    refine lv_as (y := wts wide ck wd pf sf sn) er_1080 ?_
    clear er_1080 r_1080
    refine lv_istore_n (lv' := [(2, .int (wts wide ck wd pf sf sn)), (0, .ref to), (1, .int x9)]) hx hb dX10_heavy_27 rfl hl (by decide) rfl ?_
    clear hl ls; intro ls hl
    refine lv_iload_n hx hb dX10_heavy_28 rfl (lv_at hl 2 rfl) ?_
    refine lv_if_ne (tgt := 37) hx hb dX10_heavy_29 (by decide) (fun c_1081 => ?_) (fun c_1081 => ?_)
    · refine lv_iload_n hx hb dX10_heavy_37 rfl (lv_at hl 2 rfl) ?_
      refine lv_iconst (v := 1) hx hb dX10_heavy_38 (by decide) ?_
      refine lv_icmp_ne (tgt := 49) hx hb dX10_heavy_39 (by decide) (fun c_1082 => ?_) (fun c_1082 => ?_)
      · refine lv_iload_n hx hb dX10_heavy_49 rfl (lv_at hl 0 rfl) ?_
        refine g_fi C hW [] rfl (g_runS (As := [.int (wts wide ck wd pf sf sn)]) (rest := []) (wc := []) C hW hl (c_X10_highestBit l G (wts wide ck wd pf sf sn)  _) k_ml_X10_256 q_X10_highestBit (by decide) [] rfl rfl rfl rfl (Nat.le_of_ble_eq_true rfl) dX10_heavy_50 (by decide)) (fun r_1083 er_1083 => ?_)
        clear hW H locs; intro H locs hW
        refine lv_as (y := hgb (wts wide ck wd pf sf sn)) er_1083 ?_
        clear er_1083 r_1083
        subst hQ
        exact g_iret (v := (hgb (wts wide ck wd pf sf sn))) C hW hrt ⟨by rfl, rfl⟩ dX10_heavy_53
      · exfalso; (rw [hx9] at c_1082; exact absurd c_1082 (by decide))
    · exfalso; (rw [hx9] at c_1081; exact absurd c_1081 (by decide))
  · exfalso; exact dd (by rw [hx9]; decide) c_1079
set_option maxHeartbeats 4000000 in
set_option maxRecDepth 100000 in
theorem c_X10_heavy_bad (l : Launch) (G : gT) (v : Nat) (to iv jv rd st ra og : Nat) (k1 k2 ab be bds nos fls : Int32) (x9 : Int32) (hbad : iw x9 0 2 = false) : MI l G yX10_heavy cX10_heavy 3 .int ({ frames := 1, cells := 0, slots := 0, locals := 22 }) [.ref to, .int x9] [(to, .inr (8, [.ref v, .ref iv, .ref jv, .int k1, .int k2, .ref rd, .ref st, .ref ra, .ref og, .int ab, .int be, .int bds, .int nos, .int fls]))] (fun (r : Int32) w1 => ∃ u_ : Unit, (r = (-2)) ∧ w1 = [(to, .inr (8, [.ref v, .ref iv, .ref jv, .int k1, .int k2, .ref rd, .ref st, .ref ra, .ref og, .int ab, .int be, .int (bds + 1), .int nos, .int fls]))]) := by
  refine MI.mk (by decide) (Nat.le_of_ble_eq_true rfl) ?_
  intro p_ e_ s_ m_ ar_ be_ me_ cd_ A_ ls C hrt hW hl
  have hx := C.1; have hb := C.2.1; have hown := C.2.2.2.1; have ht := C.2.2.2.2.1
  replace hl : lv_has ls 3 [(0, .ref to), (1, .int x9)] := hl
  generalize hQ : MQ be_ _ ar_ s_ 0 0 A_ = Q
  refine lv_iload_n hx hb dX10_heavy_0 rfl (lv_at hl 1 rfl) ?_
  refine lv_iconst (v := 0) hx hb dX10_heavy_1 (by decide) ?_
  refine lv_iconst (v := 2) hx hb dX10_heavy_2 (by decide) ?_
  refine g_fi C hW [] rfl (g_runS (As := [.int x9, .int 0, .int 2]) (rest := []) (wc := []) C hW hl (c_X10_isWithin l G x9 0 2  _) k_ml_X10_73 q_X10_isWithin (by decide) [] rfl rfl rfl rfl (Nat.le_of_ble_eq_true rfl) dX10_heavy_3 (by decide)) (fun r_1084 er_1084 => ?_)
  clear hW; intro H locs hW
  refine lv_as (y := bI (iw x9 0 2)) er_1084 ?_
  clear er_1084 r_1084
  refine lv_if_ne (tgt := 16) hx hb dX10_heavy_6 (by decide) (fun c_1085 => ?_) (fun c_1085 => ?_)
  · exfalso; simp [bI_ne.mp c_1085, if_true, if_false, reduceIte, Bool.false_eq_true] at hbad
  · refine lv_aload_n hx hb dX10_heavy_9 rfl (lv_at hl 0 rfl) ?_
    refine lv_bipush (v := (-2)) hx hb dX10_heavy_10 (by decide) ?_
    refine g_fiw (wr := []) (ww := fun (u_ : Unit) => [(to, .inr (8, [.ref v, .ref iv, .ref jv, .int k1, .int k2, .ref rd, .ref st, .ref ra, .ref og, .int ab, .int be, .int (bds + 1), .int nos, .int fls]))]) (w2 := fun (u_ : Unit) => [(to, .inr (8, [.ref v, .ref iv, .ref jv, .int k1, .int k2, .ref rd, .ref st, .ref ra, .ref og, .int ab, .int be, .int (bds + 1), .int nos, .int fls]))]) C hW [0] [] [0] rfl rfl (by decide) (by decide) (by decide) (fun _ => rfl) (g_runV (As := [.int (-2)]) (rest := []) (wc := [(to, .inr (8, [.ref v, .ref iv, .ref jv, .int k1, .int k2, .ref rd, .ref st, .ref ra, .ref og, .int ab, .int be, .int bds, .int nos, .int fls]))]) (q0 := 0) (ci := 8) C hW hl (c_X10_refuseBad l G v to iv jv rd st ra og k1 k2 ab be bds nos fls (-2)  _) k_ml_X10_77 q_X10_refuseBad (by decide) [0] rfl rfl rfl rfl rfl rfl (Nat.le_of_ble_eq_true rfl) dX10_heavy_12 (by decide)) (fun r_1086 _ er_1086 => ?_)
    clear hW H locs; intro H locs hW
    refine lv_as (y := (-2)) er_1086 ?_
    clear er_1086 r_1086
    replace hW : Wd G A_ s_.heap [(to, .inr (8, [.ref v, .ref iv, .ref jv, .int k1, .int k2, .ref rd, .ref st, .ref ra, .ref og, .int ab, .int be, .int (bds + 1), .int nos, .int fls]))] H locs := hW
    subst hQ
    exact g_iret (v := (-2)) C hW hrt ⟨(), by rfl, by rfl⟩ dX10_heavy_15
set_option maxHeartbeats 4000000 in
set_option maxRecDepth 100000 in
theorem c_X10_tell_ok (l : Launch) (G : gT) (v vw vc vp vs vn vm vu : Nat) (wide : Int32) (vpc n : Nat) (pf : Nat → Int32) (ck wd : Nat → Int32) (to iv jv rd st ra og : Nat) (k1 k2 ab be bds nos fls : Int32) (om : Nat) (vsc sn : Nat) (sf : Nat → Int32) (k : Nat) (hk : k < n) (hn : n ≤ 7) (hP : okP n pf) (hWd : okW wd) (hs : sn ≤ 5) (hS : okS n sn sf) : MI l G yX10_tell cX10_tell 2 .int ({ frames := 6, cells := 0, slots := 0, locals := 147 }) [.ref to, .int (nI k)] [(to, .inr (8, [.ref v, .ref iv, .ref jv, .int k1, .int k2, .ref rd, .ref st, .ref ra, .ref og, .int ab, .int be, .int bds, .int nos, .int fls])), (og, .inr (0, [.ref om])), (v, .inr (7, [.int wide, .ref vw, .ref vc, .ref vp, .ref vs, .ref vn, .ref vm, .ref vu])), (vp, .inr (4, [.int 7, .int 3, .ref vpc, .int (nI n)])), (vpc, .inl (G.2.1, 21, .inl pf)), (vc, .inl (G.2.1, 7, .inl ck)), (vw, .inl (G.2.1, 6, .inl wd)), (vs, .inr (4, [.int 5, .int 3, .ref vsc, .int (nI sn)])), (vsc, .inl (G.2.1, 15, .inl sf))] (fun (r : Int32) w1 => (r = (amnG nI (fun t => if gpt wide ck wd pf k t (wts wide ck wd pf sf sn) true < gpt wide ck wd pf k t (wts wide ck wd pf sf sn) false then gpt wide ck wd pf k t (wts wide ck wd pf sf sn) false else gpt wide ck wd pf k t (wts wide ck wd pf sf sn) true) (-1, bc (wts wide ck wd pf sf sn) + 1) 24).1) ∧ w1 = [(to, .inr (8, [.ref v, .ref iv, .ref jv, .int k1, .int k2, .ref rd, .ref st, .ref ra, .ref og, .int ab, .int be, .int bds, .int nos, .int fls])), (og, .inr (0, [.ref om])), (v, .inr (7, [.int wide, .ref vw, .ref vc, .ref vp, .ref vs, .ref vn, .ref vm, .ref vu])), (vp, .inr (4, [.int 7, .int 3, .ref vpc, .int (nI n)])), (vpc, .inl (G.2.1, 21, .inl pf)), (vc, .inl (G.2.1, 7, .inl ck)), (vw, .inl (G.2.1, 6, .inl wd)), (vs, .inr (4, [.int 5, .int 3, .ref vsc, .int (nI sn)])), (vsc, .inl (G.2.1, 15, .inl sf))]) := by
  refine MI.mk (by decide) (Nat.le_of_ble_eq_true rfl) ?_
  intro p_ e_ s_ m_ ar_ be_ me_ cd_ A_ ls C hrt hW hl
  have hx := C.1; have hb := C.2.1; have hown := C.2.2.2.1; have ht := C.2.2.2.2.1
  replace hl : lv_has ls 2 [(0, .ref to), (1, .int (nI k))] := hl
  generalize hQ : MQ be_ _ ar_ s_ 0 0 A_ = Q
  refine lv_aload_n hx hb dX10_tell_0 rfl (lv_at hl 0 rfl) ?_
  refine g_get (k := 0) (v := .ref v) C hW 0 rfl rfl jnX10 (by decide) k_fl_X10_10 rfl dX10_tell_1 ?_
  refine g_getN (k := 3) (v := .ref vp) (host := RX10) C hW 2 rfl rfl jnX9 (by decide) (List.mem_of_getElem? (i := 5) rfl) rfl dX10_tell_4 ?_
  refine lv_iload_n hx hb dX10_tell_7 rfl (lv_at hl 1 rfl) ?_
  refine g_fi C hW [3] rfl (g_runV (As := [.int (nI k)]) (rest := []) (wc := [(vp, .inr (4, [.int 7, .int 3, .ref vpc, .int (nI n)]))]) (q0 := 0) (ci := 4) C hW hl (c_X6_has l G vp vpc 7 3 n (nI k)  _) k_ml_X10_161 q_X6_has (by decide) [3] rfl rfl rfl rfl rfl rfl (Nat.le_of_ble_eq_true rfl) dX10_tell_8 (by decide)) (fun r_1088 er_1088 => ?_)
  clear hW; intro H locs hW
  refine lv_as (y := bI (okp n (nI k))) er_1088 ?_
  clear er_1088 r_1088
  refine lv_if_ne (tgt := 21) hx hb dX10_tell_11 (by decide) (fun c_1089 => ?_) (fun c_1089 => ?_)
  · refine lv_aload_n hx hb dX10_tell_21 rfl (lv_at hl 0 rfl) ?_
    refine g_get (k := 8) (v := .ref og) C hW 0 rfl rfl jnX10 (by decide) k_fl_X10_53 rfl dX10_tell_22 ?_
    refine lv_aload_n hx hb dX10_tell_25 rfl (lv_at hl 0 rfl) ?_
    refine g_get (k := 0) (v := .ref v) C hW 0 rfl rfl jnX10 (by decide) k_fl_X10_10 rfl dX10_tell_26 ?_
    refine lv_iload_n hx hb dX10_tell_29 rfl (lv_at hl 1 rfl) ?_
    refine lv_aload_n hx hb dX10_tell_30 rfl (lv_at hl 0 rfl) ?_
    refine g_get (k := 8) (v := .ref og) C hW 0 rfl rfl jnX10 (by decide) k_fl_X10_53 rfl dX10_tell_31 ?_
    refine lv_aload_n hx hb dX10_tell_34 rfl (lv_at hl 0 rfl) ?_
    refine g_get (k := 0) (v := .ref v) C hW 0 rfl rfl jnX10 (by decide) k_fl_X10_10 rfl dX10_tell_35 ?_
    refine g_fi C hW [1, 2, 3, 4, 5, 6, 7, 8] rfl (g_runV (As := [.ref v]) (rest := [.int (nI k), .ref v, .ref og]) (wc := [(og, .inr (0, [.ref om])), (v, .inr (7, [.int wide, .ref vw, .ref vc, .ref vp, .ref vs, .ref vn, .ref vm, .ref vu])), (vp, .inr (4, [.int 7, .int 3, .ref vpc, .int (nI n)])), (vpc, .inl (G.2.1, 21, .inl pf)), (vc, .inl (G.2.1, 7, .inl ck)), (vw, .inl (G.2.1, 6, .inl wd)), (vs, .inr (4, [.int 5, .int 3, .ref vsc, .int (nI sn)])), (vsc, .inl (G.2.1, 15, .inl sf))]) (q0 := 0) (ci := 0) C hW hl (c_X1_weights l G og om v vw vc vp vs vn vm vu wide vpc n pf ck wd vsc sn sf (by first | assumption | omega) (by assumption) (by assumption) (by first | assumption | omega) (by assumption) _) k_ml_X10_244 q_X1_weights (by decide) [1, 2, 3, 4, 5, 6, 7, 8] rfl rfl rfl rfl rfl rfl (Nat.le_of_ble_eq_true rfl) dX10_tell_38 (by decide)) (fun r_1090 er_1090 => ?_)
    clear hW H locs; intro H locs hW
    refine lv_as (y := wts wide ck wd pf sf sn) er_1090 ?_
    clear er_1090 r_1090
    refine g_fi C hW [1, 2, 3, 4, 5, 6] rfl (g_runV (As := [.ref v, .int (nI k), .int (wts wide ck wd pf sf sn)]) (rest := []) (wc := [(og, .inr (0, [.ref om])), (v, .inr (7, [.int wide, .ref vw, .ref vc, .ref vp, .ref vs, .ref vn, .ref vm, .ref vu])), (vp, .inr (4, [.int 7, .int 3, .ref vpc, .int (nI n)])), (vpc, .inl (G.2.1, 21, .inl pf)), (vc, .inl (G.2.1, 7, .inl ck)), (vw, .inl (G.2.1, 6, .inl wd))]) (q0 := 0) (ci := 0) C hW hl (c_X1_tellingHour l G og om v vw vc vp vs vn vm vu wide vpc n pf ck wd k (wts wide ck wd pf sf sn) (by first | assumption | omega) (by first | assumption | omega) (by assumption) (by assumption) _) k_ml_X10_259 q_X1_tellingHour (by decide) [1, 2, 3, 4, 5, 6] rfl rfl rfl rfl rfl rfl (Nat.le_of_ble_eq_true rfl) dX10_tell_41 (by decide)) (fun r_1091 er_1091 => ?_)
    clear hW H locs; intro H locs hW
    refine lv_as (y := (amnG nI (fun t => if gpt wide ck wd pf k t (wts wide ck wd pf sf sn) true < gpt wide ck wd pf k t (wts wide ck wd pf sf sn) false then gpt wide ck wd pf k t (wts wide ck wd pf sf sn) false else gpt wide ck wd pf k t (wts wide ck wd pf sf sn) true) (-1, bc (wts wide ck wd pf sf sn) + 1) 24).1) er_1091 ?_
    clear er_1091 r_1091
    subst hQ
    exact g_iret (v := ((amnG nI (fun t => if gpt wide ck wd pf k t (wts wide ck wd pf sf sn) true < gpt wide ck wd pf k t (wts wide ck wd pf sf sn) false then gpt wide ck wd pf k t (wts wide ck wd pf sf sn) false else gpt wide ck wd pf k t (wts wide ck wd pf sf sn) true) (-1, bc (wts wide ck wd pf sf sn) + 1) 24).1)) C hW hrt ⟨by rfl, rfl⟩ dX10_tell_44
  · exfalso; exact dd (by first | assumption | exact okp_nI (by omega) (by assumption) | exact decide_eq_true (by first | assumption | omega)) c_1089
set_option maxHeartbeats 4000000 in
set_option maxRecDepth 100000 in
theorem c_X10_tell_bad (l : Launch) (G : gT) (v vw vc vp vs vn vm vu : Nat) (wide : Int32) (to iv jv rd st ra og : Nat) (k1 k2 ab be bds nos fls : Int32) (vpc n : Nat) (p9 : Int32) (hbad : okp n p9 = false) : MI l G yX10_tell cX10_tell 2 .int ({ frames := 1, cells := 0, slots := 0, locals := 21 }) [.ref to, .int p9] [(to, .inr (8, [.ref v, .ref iv, .ref jv, .int k1, .int k2, .ref rd, .ref st, .ref ra, .ref og, .int ab, .int be, .int bds, .int nos, .int fls])), (v, .inr (7, [.int wide, .ref vw, .ref vc, .ref vp, .ref vs, .ref vn, .ref vm, .ref vu])), (vp, .inr (4, [.int 7, .int 3, .ref vpc, .int (nI n)]))] (fun (r : Int32) w1 => ∃ u_ : Unit, (r = (-2)) ∧ w1 = [(to, .inr (8, [.ref v, .ref iv, .ref jv, .int k1, .int k2, .ref rd, .ref st, .ref ra, .ref og, .int ab, .int be, .int (bds + 1), .int nos, .int fls])), (v, .inr (7, [.int wide, .ref vw, .ref vc, .ref vp, .ref vs, .ref vn, .ref vm, .ref vu])), (vp, .inr (4, [.int 7, .int 3, .ref vpc, .int (nI n)]))]) := by
  refine MI.mk (by decide) (Nat.le_of_ble_eq_true rfl) ?_
  intro p_ e_ s_ m_ ar_ be_ me_ cd_ A_ ls C hrt hW hl
  have hx := C.1; have hb := C.2.1; have hown := C.2.2.2.1; have ht := C.2.2.2.2.1
  replace hl : lv_has ls 2 [(0, .ref to), (1, .int p9)] := hl
  generalize hQ : MQ be_ _ ar_ s_ 0 0 A_ = Q
  refine lv_aload_n hx hb dX10_tell_0 rfl (lv_at hl 0 rfl) ?_
  refine g_get (k := 0) (v := .ref v) C hW 0 rfl rfl jnX10 (by decide) k_fl_X10_10 rfl dX10_tell_1 ?_
  refine g_getN (k := 3) (v := .ref vp) (host := RX10) C hW 1 rfl rfl jnX9 (by decide) (List.mem_of_getElem? (i := 5) rfl) rfl dX10_tell_4 ?_
  refine lv_iload_n hx hb dX10_tell_7 rfl (lv_at hl 1 rfl) ?_
  refine g_fi C hW [2] rfl (g_runV (As := [.int p9]) (rest := []) (wc := [(vp, .inr (4, [.int 7, .int 3, .ref vpc, .int (nI n)]))]) (q0 := 0) (ci := 4) C hW hl (c_X6_has l G vp vpc 7 3 n p9  _) k_ml_X10_161 q_X6_has (by decide) [2] rfl rfl rfl rfl rfl rfl (Nat.le_of_ble_eq_true rfl) dX10_tell_8 (by decide)) (fun r_1092 er_1092 => ?_)
  clear hW; intro H locs hW
  refine lv_as (y := bI (okp n p9)) er_1092 ?_
  clear er_1092 r_1092
  refine lv_if_ne (tgt := 21) hx hb dX10_tell_11 (by decide) (fun c_1093 => ?_) (fun c_1093 => ?_)
  · exfalso; simp [bI_ne.mp c_1093, if_true, if_false, reduceIte, Bool.false_eq_true] at hbad
  · refine lv_aload_n hx hb dX10_tell_14 rfl (lv_at hl 0 rfl) ?_
    refine lv_bipush (v := (-2)) hx hb dX10_tell_15 (by decide) ?_
    refine g_fiw (wr := [(v, .inr (7, [.int wide, .ref vw, .ref vc, .ref vp, .ref vs, .ref vn, .ref vm, .ref vu])), (vp, .inr (4, [.int 7, .int 3, .ref vpc, .int (nI n)]))]) (ww := fun (u_ : Unit) => [(to, .inr (8, [.ref v, .ref iv, .ref jv, .int k1, .int k2, .ref rd, .ref st, .ref ra, .ref og, .int ab, .int be, .int (bds + 1), .int nos, .int fls]))]) (w2 := fun (u_ : Unit) => [(to, .inr (8, [.ref v, .ref iv, .ref jv, .int k1, .int k2, .ref rd, .ref st, .ref ra, .ref og, .int ab, .int be, .int (bds + 1), .int nos, .int fls])), (v, .inr (7, [.int wide, .ref vw, .ref vc, .ref vp, .ref vs, .ref vn, .ref vm, .ref vu])), (vp, .inr (4, [.int 7, .int 3, .ref vpc, .int (nI n)]))]) C hW [0] [1, 2] [2, 0, 1] rfl rfl (by decide) (by decide) (by decide) (fun _ => rfl) (g_runV (As := [.int (-2)]) (rest := []) (wc := [(to, .inr (8, [.ref v, .ref iv, .ref jv, .int k1, .int k2, .ref rd, .ref st, .ref ra, .ref og, .int ab, .int be, .int bds, .int nos, .int fls]))]) (q0 := 0) (ci := 8) C hW hl (c_X10_refuseBad l G v to iv jv rd st ra og k1 k2 ab be bds nos fls (-2)  _) k_ml_X10_77 q_X10_refuseBad (by decide) [0] rfl rfl rfl rfl rfl rfl (Nat.le_of_ble_eq_true rfl) dX10_tell_17 (by decide)) (fun r_1094 _ er_1094 => ?_)
    clear hW H locs; intro H locs hW
    refine lv_as (y := (-2)) er_1094 ?_
    clear er_1094 r_1094
    replace hW : Wd G A_ s_.heap [(to, .inr (8, [.ref v, .ref iv, .ref jv, .int k1, .int k2, .ref rd, .ref st, .ref ra, .ref og, .int ab, .int be, .int (bds + 1), .int nos, .int fls])), (v, .inr (7, [.int wide, .ref vw, .ref vc, .ref vp, .ref vs, .ref vn, .ref vm, .ref vu])), (vp, .inr (4, [.int 7, .int 3, .ref vpc, .int (nI n)]))] H locs := hW
    subst hQ
    exact g_iret (v := (-2)) C hW hrt ⟨(), by rfl, by rfl⟩ dX10_tell_20
set_option maxHeartbeats 4000000 in
set_option maxRecDepth 100000 in
theorem c_X10_ask_ok (l : Launch) (G : gT) (v vw vc vp vs vn vm vu : Nat) (wide : Int32) (to iv jv rd st ra og : Nat) (k1 k2 ab be bds nos fls : Int32) (om : Nat) (ms : Nat → Int32) (vpc n : Nat) (pf : Nat → Int32) (vmc mn : Nat) (mf : Nat → Int32) (k : Nat) (hk : k < n) (hn : n ≤ 7) (hm : mn ≤ 6) : MI l G yX10_ask cX10_ask 2 .int ({ frames := 4, cells := 0, slots := 0, locals := 101 }) [.ref to, .int (nI k)] [(to, .inr (8, [.ref v, .ref iv, .ref jv, .int k1, .int k2, .ref rd, .ref st, .ref ra, .ref og, .int ab, .int be, .int bds, .int nos, .int fls])), (og, .inr (0, [.ref om])), (om, .inl (G.2.1, 6, .inl ms)), (v, .inr (7, [.int wide, .ref vw, .ref vc, .ref vp, .ref vs, .ref vn, .ref vm, .ref vu])), (vp, .inr (4, [.int 7, .int 3, .ref vpc, .int (nI n)])), (vpc, .inl (G.2.1, 21, .inl pf)), (vm, .inr (4, [.int 6, .int 4, .ref vmc, .int (nI mn)])), (vmc, .inl (G.2.1, 24, .inl mf))] (fun (r : Int32) w1 => ∃ u_ : Nat → Int32, (r = (amnG nI (fun t => mal (orF (fun i => allB (mB mf (nI k) (nI i)) mn) 6) (fun i => bl (nI i) (pf (k * 3 + 2)) (nI t))) (-1, bc (orF (fun i => allB (mB mf (nI k) (nI i)) mn) 6) + 1) 24).1) ∧ w1 = [(to, .inr (8, [.ref v, .ref iv, .ref jv, .int k1, .int k2, .ref rd, .ref st, .ref ra, .ref og, .int ab, .int be, .int bds, .int nos, .int fls])), (og, .inr (0, [.ref om])), (om, .inl (G.2.1, 6, .inl u_)), (v, .inr (7, [.int wide, .ref vw, .ref vc, .ref vp, .ref vs, .ref vn, .ref vm, .ref vu])), (vp, .inr (4, [.int 7, .int 3, .ref vpc, .int (nI n)])), (vpc, .inl (G.2.1, 21, .inl pf)), (vm, .inr (4, [.int 6, .int 4, .ref vmc, .int (nI mn)])), (vmc, .inl (G.2.1, 24, .inl mf))]) := by
  refine MI.mk (by decide) (Nat.le_of_ble_eq_true rfl) ?_
  intro p_ e_ s_ m_ ar_ be_ me_ cd_ A_ ls C hrt hW hl
  have hx := C.1; have hb := C.2.1; have hown := C.2.2.2.1; have ht := C.2.2.2.2.1
  replace hl : lv_has ls 2 [(0, .ref to), (1, .int (nI k))] := hl
  generalize hQ : MQ be_ _ ar_ s_ 0 0 A_ = Q
  refine lv_aload_n hx hb dX10_ask_0 rfl (lv_at hl 0 rfl) ?_
  refine g_get (k := 0) (v := .ref v) C hW 0 rfl rfl jnX10 (by decide) k_fl_X10_10 rfl dX10_ask_1 ?_
  refine g_getN (k := 3) (v := .ref vp) (host := RX10) C hW 3 rfl rfl jnX9 (by decide) (List.mem_of_getElem? (i := 5) rfl) rfl dX10_ask_4 ?_
  refine lv_iload_n hx hb dX10_ask_7 rfl (lv_at hl 1 rfl) ?_
  refine g_fi C hW [4] rfl (g_runV (As := [.int (nI k)]) (rest := []) (wc := [(vp, .inr (4, [.int 7, .int 3, .ref vpc, .int (nI n)]))]) (q0 := 0) (ci := 4) C hW hl (c_X6_has l G vp vpc 7 3 n (nI k)  _) k_ml_X10_161 q_X6_has (by decide) [4] rfl rfl rfl rfl rfl rfl (Nat.le_of_ble_eq_true rfl) dX10_ask_8 (by decide)) (fun r_1096 er_1096 => ?_)
  clear hW; intro H locs hW
  refine lv_as (y := bI (okp n (nI k))) er_1096 ?_
  clear er_1096 r_1096
  refine lv_if_ne (tgt := 21) hx hb dX10_ask_11 (by decide) (fun c_1097 => ?_) (fun c_1097 => ?_)
  · refine lv_aload_n hx hb dX10_ask_21 rfl (lv_at hl 0 rfl) ?_
    refine g_get (k := 8) (v := .ref og) C hW 0 rfl rfl jnX10 (by decide) k_fl_X10_53 rfl dX10_ask_22 ?_
    refine lv_aload_n hx hb dX10_ask_25 rfl (lv_at hl 0 rfl) ?_
    refine g_get (k := 0) (v := .ref v) C hW 0 rfl rfl jnX10 (by decide) k_fl_X10_10 rfl dX10_ask_26 ?_
    refine lv_iload_n hx hb dX10_ask_29 rfl (lv_at hl 1 rfl) ?_
    refine g_fiw (wr := [(to, .inr (8, [.ref v, .ref iv, .ref jv, .int k1, .int k2, .ref rd, .ref st, .ref ra, .ref og, .int ab, .int be, .int bds, .int nos, .int fls]))]) (ww := fun (u_ : Nat → Int32) => [(og, .inr (0, [.ref om])), (om, .inl (G.2.1, 6, .inl u_)), (v, .inr (7, [.int wide, .ref vw, .ref vc, .ref vp, .ref vs, .ref vn, .ref vm, .ref vu])), (vp, .inr (4, [.int 7, .int 3, .ref vpc, .int (nI n)])), (vpc, .inl (G.2.1, 21, .inl pf)), (vm, .inr (4, [.int 6, .int 4, .ref vmc, .int (nI mn)])), (vmc, .inl (G.2.1, 24, .inl mf))]) (w2 := fun (u_ : Nat → Int32) => [(to, .inr (8, [.ref v, .ref iv, .ref jv, .int k1, .int k2, .ref rd, .ref st, .ref ra, .ref og, .int ab, .int be, .int bds, .int nos, .int fls])), (og, .inr (0, [.ref om])), (om, .inl (G.2.1, 6, .inl u_)), (v, .inr (7, [.int wide, .ref vw, .ref vc, .ref vp, .ref vs, .ref vn, .ref vm, .ref vu])), (vp, .inr (4, [.int 7, .int 3, .ref vpc, .int (nI n)])), (vpc, .inl (G.2.1, 21, .inl pf)), (vm, .inr (4, [.int 6, .int 4, .ref vmc, .int (nI mn)])), (vmc, .inl (G.2.1, 24, .inl mf))]) C hW [1, 2, 3, 4, 5, 6, 7] [0] [0, 1, 2, 3, 4, 5, 6, 7] rfl rfl (by decide) (by decide) (by decide) (fun _ => rfl) (g_runV (As := [.ref v, .int (nI k)]) (rest := []) (wc := [(og, .inr (0, [.ref om])), (om, .inl (G.2.1, 6, .inl ms)), (v, .inr (7, [.int wide, .ref vw, .ref vc, .ref vp, .ref vs, .ref vn, .ref vm, .ref vu])), (vp, .inr (4, [.int 7, .int 3, .ref vpc, .int (nI n)])), (vpc, .inl (G.2.1, 21, .inl pf)), (vm, .inr (4, [.int 6, .int 4, .ref vmc, .int (nI mn)])), (vmc, .inl (G.2.1, 24, .inl mf))]) (q0 := 0) (ci := 0) C hW hl (c_X1_askingHour l G og om ms v vw vc vp vs vn vm vu wide vpc n pf vmc mn mf k (by first | assumption | omega) (by first | assumption | omega) (by first | assumption | omega) _) k_ml_X10_279 q_X1_askingHour (by decide) [1, 2, 3, 4, 5, 6, 7] rfl rfl rfl rfl rfl rfl (Nat.le_of_ble_eq_true rfl) dX10_ask_30 (by decide)) (fun r_1098 u_1099 er_1098 => ?_)
    clear hW H locs; intro H locs hW
    refine lv_as (y := (amnG nI (fun t => mal (orF (fun i => allB (mB mf (nI k) (nI i)) mn) 6) (fun i => bl (nI i) (pf (k * 3 + 2)) (nI t))) (-1, bc (orF (fun i => allB (mB mf (nI k) (nI i)) mn) 6) + 1) 24).1) er_1098 ?_
    clear er_1098 r_1098
    replace hW : Wd G A_ s_.heap [(to, .inr (8, [.ref v, .ref iv, .ref jv, .int k1, .int k2, .ref rd, .ref st, .ref ra, .ref og, .int ab, .int be, .int bds, .int nos, .int fls])), (og, .inr (0, [.ref om])), (om, .inl (G.2.1, 6, .inl u_1099)), (v, .inr (7, [.int wide, .ref vw, .ref vc, .ref vp, .ref vs, .ref vn, .ref vm, .ref vu])), (vp, .inr (4, [.int 7, .int 3, .ref vpc, .int (nI n)])), (vpc, .inl (G.2.1, 21, .inl pf)), (vm, .inr (4, [.int 6, .int 4, .ref vmc, .int (nI mn)])), (vmc, .inl (G.2.1, 24, .inl mf))] H locs := hW
    subst hQ
    exact g_iret (v := ((amnG nI (fun t => mal (orF (fun i => allB (mB mf (nI k) (nI i)) mn) 6) (fun i => bl (nI i) (pf (k * 3 + 2)) (nI t))) (-1, bc (orF (fun i => allB (mB mf (nI k) (nI i)) mn) 6) + 1) 24).1)) C hW hrt ⟨u_1099, by rfl, by rfl⟩ dX10_ask_33
  · exfalso; exact dd (by first | assumption | exact okp_nI (by omega) (by assumption) | exact decide_eq_true (by first | assumption | omega)) c_1097
set_option maxHeartbeats 4000000 in
set_option maxRecDepth 100000 in
theorem c_X10_ask_bad (l : Launch) (G : gT) (v vw vc vp vs vn vm vu : Nat) (wide : Int32) (to iv jv rd st ra og : Nat) (k1 k2 ab be bds nos fls : Int32) (vpc n : Nat) (p9 : Int32) (hbad : okp n p9 = false) : MI l G yX10_ask cX10_ask 2 .int ({ frames := 1, cells := 0, slots := 0, locals := 21 }) [.ref to, .int p9] [(to, .inr (8, [.ref v, .ref iv, .ref jv, .int k1, .int k2, .ref rd, .ref st, .ref ra, .ref og, .int ab, .int be, .int bds, .int nos, .int fls])), (v, .inr (7, [.int wide, .ref vw, .ref vc, .ref vp, .ref vs, .ref vn, .ref vm, .ref vu])), (vp, .inr (4, [.int 7, .int 3, .ref vpc, .int (nI n)]))] (fun (r : Int32) w1 => ∃ u_ : Unit, (r = (-2)) ∧ w1 = [(to, .inr (8, [.ref v, .ref iv, .ref jv, .int k1, .int k2, .ref rd, .ref st, .ref ra, .ref og, .int ab, .int be, .int (bds + 1), .int nos, .int fls])), (v, .inr (7, [.int wide, .ref vw, .ref vc, .ref vp, .ref vs, .ref vn, .ref vm, .ref vu])), (vp, .inr (4, [.int 7, .int 3, .ref vpc, .int (nI n)]))]) := by
  refine MI.mk (by decide) (Nat.le_of_ble_eq_true rfl) ?_
  intro p_ e_ s_ m_ ar_ be_ me_ cd_ A_ ls C hrt hW hl
  have hx := C.1; have hb := C.2.1; have hown := C.2.2.2.1; have ht := C.2.2.2.2.1
  replace hl : lv_has ls 2 [(0, .ref to), (1, .int p9)] := hl
  generalize hQ : MQ be_ _ ar_ s_ 0 0 A_ = Q
  refine lv_aload_n hx hb dX10_ask_0 rfl (lv_at hl 0 rfl) ?_
  refine g_get (k := 0) (v := .ref v) C hW 0 rfl rfl jnX10 (by decide) k_fl_X10_10 rfl dX10_ask_1 ?_
  refine g_getN (k := 3) (v := .ref vp) (host := RX10) C hW 1 rfl rfl jnX9 (by decide) (List.mem_of_getElem? (i := 5) rfl) rfl dX10_ask_4 ?_
  refine lv_iload_n hx hb dX10_ask_7 rfl (lv_at hl 1 rfl) ?_
  refine g_fi C hW [2] rfl (g_runV (As := [.int p9]) (rest := []) (wc := [(vp, .inr (4, [.int 7, .int 3, .ref vpc, .int (nI n)]))]) (q0 := 0) (ci := 4) C hW hl (c_X6_has l G vp vpc 7 3 n p9  _) k_ml_X10_161 q_X6_has (by decide) [2] rfl rfl rfl rfl rfl rfl (Nat.le_of_ble_eq_true rfl) dX10_ask_8 (by decide)) (fun r_1100 er_1100 => ?_)
  clear hW; intro H locs hW
  refine lv_as (y := bI (okp n p9)) er_1100 ?_
  clear er_1100 r_1100
  refine lv_if_ne (tgt := 21) hx hb dX10_ask_11 (by decide) (fun c_1101 => ?_) (fun c_1101 => ?_)
  · exfalso; simp [bI_ne.mp c_1101, if_true, if_false, reduceIte, Bool.false_eq_true] at hbad
  · refine lv_aload_n hx hb dX10_ask_14 rfl (lv_at hl 0 rfl) ?_
    refine lv_bipush (v := (-2)) hx hb dX10_ask_15 (by decide) ?_
    refine g_fiw (wr := [(v, .inr (7, [.int wide, .ref vw, .ref vc, .ref vp, .ref vs, .ref vn, .ref vm, .ref vu])), (vp, .inr (4, [.int 7, .int 3, .ref vpc, .int (nI n)]))]) (ww := fun (u_ : Unit) => [(to, .inr (8, [.ref v, .ref iv, .ref jv, .int k1, .int k2, .ref rd, .ref st, .ref ra, .ref og, .int ab, .int be, .int (bds + 1), .int nos, .int fls]))]) (w2 := fun (u_ : Unit) => [(to, .inr (8, [.ref v, .ref iv, .ref jv, .int k1, .int k2, .ref rd, .ref st, .ref ra, .ref og, .int ab, .int be, .int (bds + 1), .int nos, .int fls])), (v, .inr (7, [.int wide, .ref vw, .ref vc, .ref vp, .ref vs, .ref vn, .ref vm, .ref vu])), (vp, .inr (4, [.int 7, .int 3, .ref vpc, .int (nI n)]))]) C hW [0] [1, 2] [2, 0, 1] rfl rfl (by decide) (by decide) (by decide) (fun _ => rfl) (g_runV (As := [.int (-2)]) (rest := []) (wc := [(to, .inr (8, [.ref v, .ref iv, .ref jv, .int k1, .int k2, .ref rd, .ref st, .ref ra, .ref og, .int ab, .int be, .int bds, .int nos, .int fls]))]) (q0 := 0) (ci := 8) C hW hl (c_X10_refuseBad l G v to iv jv rd st ra og k1 k2 ab be bds nos fls (-2)  _) k_ml_X10_77 q_X10_refuseBad (by decide) [0] rfl rfl rfl rfl rfl rfl (Nat.le_of_ble_eq_true rfl) dX10_ask_17 (by decide)) (fun r_1102 _ er_1102 => ?_)
    clear hW H locs; intro H locs hW
    refine lv_as (y := (-2)) er_1102 ?_
    clear er_1102 r_1102
    replace hW : Wd G A_ s_.heap [(to, .inr (8, [.ref v, .ref iv, .ref jv, .int k1, .int k2, .ref rd, .ref st, .ref ra, .ref og, .int ab, .int be, .int (bds + 1), .int nos, .int fls])), (v, .inr (7, [.int wide, .ref vw, .ref vc, .ref vp, .ref vs, .ref vn, .ref vm, .ref vu])), (vp, .inr (4, [.int 7, .int 3, .ref vpc, .int (nI n)]))] H locs := hW
    subst hQ
    exact g_iret (v := (-2)) C hW hrt ⟨(), by rfl, by rfl⟩ dX10_ask_20
set_option maxHeartbeats 4000000 in
set_option maxRecDepth 100000 in
theorem c_X10_look (l : Launch) (G : gT) (v vw vc vp vs vn vm vu : Nat) (wide : Int32) (to iv jv rd st ra og : Nat) (k1 k2 ab be bds nos fls : Int32) (om : Nat) (ms : Nat → Int32) (ck : Nat → Int32) (vnc nn : Nat) (nf : Nat → Int32) (ho : nn ≤ 6) (hO : okN nn nf) (hg : Rg (ck 1) 1 9) : MI l G yX10_look cX10_look 1 .int ({ frames := 5, cells := 0, slots := 0, locals := 112 }) [.ref to] [(to, .inr (8, [.ref v, .ref iv, .ref jv, .int k1, .int k2, .ref rd, .ref st, .ref ra, .ref og, .int ab, .int be, .int bds, .int nos, .int fls])), (og, .inr (0, [.ref om])), (om, .inl (G.2.1, 6, .inl ms)), (v, .inr (7, [.int wide, .ref vw, .ref vc, .ref vp, .ref vs, .ref vn, .ref vm, .ref vu])), (vc, .inl (G.2.1, 7, .inl ck)), (vn, .inr (4, [.int 6, .int 4, .ref vnc, .int (nI nn)])), (vnc, .inl (G.2.1, 24, .inl nf))] (fun (r : Int32) w1 => ∃ u_ : Nat → Int32, (r = (lookC (fun a b => nI (10 * a + b)) (fun a b => mal (orF (fun i => allB (nB nf (nI i)) nn) 6) (fun i => fl (nI i) (ck 1) (nI a) (nI b - 4))) (-1, bc (orF (fun i => allB (nB nf (nI i)) nn) 6) + 1) 31).1) ∧ w1 = [(to, .inr (8, [.ref v, .ref iv, .ref jv, .int k1, .int k2, .ref rd, .ref st, .ref ra, .ref og, .int ab, .int be, .int bds, .int nos, .int fls])), (og, .inr (0, [.ref om])), (om, .inl (G.2.1, 6, .inl u_)), (v, .inr (7, [.int wide, .ref vw, .ref vc, .ref vp, .ref vs, .ref vn, .ref vm, .ref vu])), (vc, .inl (G.2.1, 7, .inl ck)), (vn, .inr (4, [.int 6, .int 4, .ref vnc, .int (nI nn)])), (vnc, .inl (G.2.1, 24, .inl nf))]) := by
  refine MI.mk (by decide) (Nat.le_of_ble_eq_true rfl) ?_
  intro p_ e_ s_ m_ ar_ be_ me_ cd_ A_ ls C hrt hW hl
  have hx := C.1; have hb := C.2.1; have hown := C.2.2.2.1; have ht := C.2.2.2.2.1
  replace hl : lv_has ls 1 [(0, .ref to)] := hl
  generalize hQ : MQ be_ _ ar_ s_ 0 0 A_ = Q
  refine lv_aload_n hx hb dX10_look_0 rfl (lv_at hl 0 rfl) ?_
  refine g_get (k := 8) (v := .ref og) C hW 0 rfl rfl jnX10 (by decide) k_fl_X10_53 rfl dX10_look_1 ?_
  refine lv_aload_n hx hb dX10_look_4 rfl (lv_at hl 0 rfl) ?_
  refine g_get (k := 0) (v := .ref v) C hW 0 rfl rfl jnX10 (by decide) k_fl_X10_10 rfl dX10_look_5 ?_
  refine g_fiw (wr := [(to, .inr (8, [.ref v, .ref iv, .ref jv, .int k1, .int k2, .ref rd, .ref st, .ref ra, .ref og, .int ab, .int be, .int bds, .int nos, .int fls]))]) (ww := fun (u_ : Nat → Int32) => [(og, .inr (0, [.ref om])), (om, .inl (G.2.1, 6, .inl u_)), (v, .inr (7, [.int wide, .ref vw, .ref vc, .ref vp, .ref vs, .ref vn, .ref vm, .ref vu])), (vc, .inl (G.2.1, 7, .inl ck)), (vn, .inr (4, [.int 6, .int 4, .ref vnc, .int (nI nn)])), (vnc, .inl (G.2.1, 24, .inl nf))]) (w2 := fun (u_ : Nat → Int32) => [(to, .inr (8, [.ref v, .ref iv, .ref jv, .int k1, .int k2, .ref rd, .ref st, .ref ra, .ref og, .int ab, .int be, .int bds, .int nos, .int fls])), (og, .inr (0, [.ref om])), (om, .inl (G.2.1, 6, .inl u_)), (v, .inr (7, [.int wide, .ref vw, .ref vc, .ref vp, .ref vs, .ref vn, .ref vm, .ref vu])), (vc, .inl (G.2.1, 7, .inl ck)), (vn, .inr (4, [.int 6, .int 4, .ref vnc, .int (nI nn)])), (vnc, .inl (G.2.1, 24, .inl nf))]) C hW [1, 2, 3, 4, 5, 6] [0] [0, 1, 2, 3, 4, 5, 6] rfl rfl (by decide) (by decide) (by decide) (fun _ => rfl) (g_runV (As := [.ref v]) (rest := []) (wc := [(og, .inr (0, [.ref om])), (om, .inl (G.2.1, 6, .inl ms)), (v, .inr (7, [.int wide, .ref vw, .ref vc, .ref vp, .ref vs, .ref vn, .ref vm, .ref vu])), (vc, .inl (G.2.1, 7, .inl ck)), (vn, .inr (4, [.int 6, .int 4, .ref vnc, .int (nI nn)])), (vnc, .inl (G.2.1, 24, .inl nf))]) (q0 := 0) (ci := 0) C hW hl (c_X1_nextLook l G og om ms v vw vc vp vs vn vm vu wide ck vnc nn nf (by first | assumption | omega) (by assumption) (by assumption) _) k_ml_X10_273 q_X1_nextLook (by decide) [1, 2, 3, 4, 5, 6] rfl rfl rfl rfl rfl rfl (Nat.le_of_ble_eq_true rfl) dX10_look_8 (by decide)) (fun r_1104 u_1105 er_1104 => ?_)
  clear hW; intro H locs hW
  refine lv_as (y := (lookC (fun a b => nI (10 * a + b)) (fun a b => mal (orF (fun i => allB (nB nf (nI i)) nn) 6) (fun i => fl (nI i) (ck 1) (nI a) (nI b - 4))) (-1, bc (orF (fun i => allB (nB nf (nI i)) nn) 6) + 1) 31).1) er_1104 ?_
  clear er_1104 r_1104
  replace hW : Wd G A_ s_.heap [(to, .inr (8, [.ref v, .ref iv, .ref jv, .int k1, .int k2, .ref rd, .ref st, .ref ra, .ref og, .int ab, .int be, .int bds, .int nos, .int fls])), (og, .inr (0, [.ref om])), (om, .inl (G.2.1, 6, .inl u_1105)), (v, .inr (7, [.int wide, .ref vw, .ref vc, .ref vp, .ref vs, .ref vn, .ref vm, .ref vu])), (vc, .inl (G.2.1, 7, .inl ck)), (vn, .inr (4, [.int 6, .int 4, .ref vnc, .int (nI nn)])), (vnc, .inl (G.2.1, 24, .inl nf))] H locs := hW
  subst hQ
  exact g_iret (v := ((lookC (fun a b => nI (10 * a + b)) (fun a b => mal (orF (fun i => allB (nB nf (nI i)) nn) 6) (fun i => fl (nI i) (ck 1) (nI a) (nI b - 4))) (-1, bc (orF (fun i => allB (nB nf (nI i)) nn) 6) + 1) 31).1)) C hW hrt ⟨u_1105, by rfl, by rfl⟩ dX10_look_11
set_option maxHeartbeats 4000000 in
set_option maxRecDepth 100000 in
theorem c_X10_part_0 (l : Launch) (G : gT) (v : Nat) (to iv jv rd st ra og : Nat) (k1 k2 ab be bds nos fls : Int32)  : ML l G yX10_part cX10_part 2 ({ frames := 1, cells := 0, slots := 0, locals := 22 }) [.ref to, .int 0] [(to, .inr (8, [.ref v, .ref iv, .ref jv, .int k1, .int k2, .ref rd, .ref st, .ref ra, .ref og, .int ab, .int be, .int bds, .int nos, .int fls]))] (fun (r : Int64) w1 => (r = ab.toInt64) ∧ w1 = [(to, .inr (8, [.ref v, .ref iv, .ref jv, .int k1, .int k2, .ref rd, .ref st, .ref ra, .ref og, .int ab, .int be, .int bds, .int nos, .int fls]))]) := by
  refine ML.mk (by decide) (Nat.le_of_ble_eq_true rfl) ?_
  intro p_ e_ s_ m_ ar_ be_ me_ cd_ A_ ls C hrt hW hl
  have hx := C.1; have hb := C.2.1; have hown := C.2.2.2.1; have ht := C.2.2.2.2.1
  replace hl : lv_has ls 2 [(0, .ref to), (1, .int 0)] := hl
  generalize hQ : MQ be_ _ ar_ s_ 0 0 A_ = Q
  refine lv_iload_n hx hb dX10_part_0 rfl (lv_at hl 1 rfl) ?_
  refine lv_iconst (v := 0) hx hb dX10_part_1 (by decide) ?_
  refine lv_iconst (v := 1) hx hb dX10_part_2 (by decide) ?_
  refine g_fi C hW [] rfl (g_runS (As := [.int 0, .int 0, .int 1]) (rest := []) (wc := []) C hW hl (c_X10_isWithin l G 0 0 1  _) k_ml_X10_73 q_X10_isWithin (by decide) [] rfl rfl rfl rfl (Nat.le_of_ble_eq_true rfl) dX10_part_3 (by decide)) (fun r_1106 er_1106 => ?_)
  clear hW; intro H locs hW
  refine lv_as (y := bI (iw 0 0 1)) er_1106 ?_
  clear er_1106 r_1106
  refine lv_if_ne (tgt := 17) hx hb dX10_part_6 (by decide) (fun c_1107 => ?_) (fun c_1107 => ?_)
  · refine lv_iload_n hx hb dX10_part_17 rfl (lv_at hl 1 rfl) ?_
    refine lv_if_ne (tgt := 29) hx hb dX10_part_18 (by decide) (fun c_1108 => ?_) (fun c_1108 => ?_)
    · exfalso; exact c_1108 rfl
    · refine lv_aload_n hx hb dX10_part_21 rfl (lv_at hl 0 rfl) ?_
      refine g_get (k := 9) (v := .int ab) C hW 0 rfl rfl jnX10 (by decide) k_fl_X10_57 rfl dX10_part_22 ?_
      refine lv_i2l hx hb dX10_part_25 rfl ?_
      refine lv_goto (tgt := 34) hx hb dX10_part_26 (by decide) ?_
      subst hQ
      exact g_lret (v := ab.toInt64) C hW hrt ⟨by rfl, rfl⟩ dX10_part_34
  · exfalso; exact absurd c_1107 (by decide)
set_option maxHeartbeats 4000000 in
set_option maxRecDepth 100000 in
theorem c_X10_part_1 (l : Launch) (G : gT) (v : Nat) (to iv jv rd st ra og : Nat) (k1 k2 ab be bds nos fls : Int32)  : ML l G yX10_part cX10_part 2 ({ frames := 1, cells := 0, slots := 0, locals := 22 }) [.ref to, .int 1] [(to, .inr (8, [.ref v, .ref iv, .ref jv, .int k1, .int k2, .ref rd, .ref st, .ref ra, .ref og, .int ab, .int be, .int bds, .int nos, .int fls]))] (fun (r : Int64) w1 => (r = be.toInt64) ∧ w1 = [(to, .inr (8, [.ref v, .ref iv, .ref jv, .int k1, .int k2, .ref rd, .ref st, .ref ra, .ref og, .int ab, .int be, .int bds, .int nos, .int fls]))]) := by
  refine ML.mk (by decide) (Nat.le_of_ble_eq_true rfl) ?_
  intro p_ e_ s_ m_ ar_ be_ me_ cd_ A_ ls C hrt hW hl
  have hx := C.1; have hb := C.2.1; have hown := C.2.2.2.1; have ht := C.2.2.2.2.1
  replace hl : lv_has ls 2 [(0, .ref to), (1, .int 1)] := hl
  generalize hQ : MQ be_ _ ar_ s_ 0 0 A_ = Q
  refine lv_iload_n hx hb dX10_part_0 rfl (lv_at hl 1 rfl) ?_
  refine lv_iconst (v := 0) hx hb dX10_part_1 (by decide) ?_
  refine lv_iconst (v := 1) hx hb dX10_part_2 (by decide) ?_
  refine g_fi C hW [] rfl (g_runS (As := [.int 1, .int 0, .int 1]) (rest := []) (wc := []) C hW hl (c_X10_isWithin l G 1 0 1  _) k_ml_X10_73 q_X10_isWithin (by decide) [] rfl rfl rfl rfl (Nat.le_of_ble_eq_true rfl) dX10_part_3 (by decide)) (fun r_1109 er_1109 => ?_)
  clear hW; intro H locs hW
  refine lv_as (y := bI (iw 1 0 1)) er_1109 ?_
  clear er_1109 r_1109
  refine lv_if_ne (tgt := 17) hx hb dX10_part_6 (by decide) (fun c_1110 => ?_) (fun c_1110 => ?_)
  · refine lv_iload_n hx hb dX10_part_17 rfl (lv_at hl 1 rfl) ?_
    refine lv_if_ne (tgt := 29) hx hb dX10_part_18 (by decide) (fun c_1111 => ?_) (fun c_1111 => ?_)
    · refine lv_aload_n hx hb dX10_part_29 rfl (lv_at hl 0 rfl) ?_
      refine g_get (k := 10) (v := .int be) C hW 0 rfl rfl jnX10 (by decide) k_fl_X10_61 rfl dX10_part_30 ?_
      refine lv_i2l hx hb dX10_part_33 rfl ?_
      subst hQ
      exact g_lret (v := be.toInt64) C hW hrt ⟨by rfl, rfl⟩ dX10_part_34
    · exfalso; exact absurd c_1111 (by decide)
  · exfalso; exact absurd c_1110 (by decide)
set_option maxHeartbeats 4000000 in
set_option maxRecDepth 100000 in
theorem c_X10_lasts_up (l : Launch) (G : gT) (v vw vc vp vs vn vm vu : Nat) (wide : Int32) (vpc n : Nat) (pf : Nat → Int32) (ck wd : Nat → Int32) (to iv jv rd st ra og : Nat) (k1 k2 ab be bds nos fls : Int32) (sc : Nat) (f0 : Int32) (cr : Nat → Int32) (hr fh : Nat) (hn : n ≤ 7) (eh : ck 6 = nI hr) (hh : hr < 10000) (eh2 : ck 2 = nI fh) (hf : fh < 2) (hP : okP n pf) (hWd : okW wd) (hg : Rg (ck 1) 1 9) (hup : ck 3 = 1) : MI l G yX10_lasts cX10_lasts 1 .int ({ frames := 5, cells := 0, slots := 0, locals := 117 }) [.ref to] [(to, .inr (8, [.ref v, .ref iv, .ref jv, .int k1, .int k2, .ref rd, .ref st, .ref ra, .ref og, .int ab, .int be, .int bds, .int nos, .int fls])), (st, .inr (5, [.ref sc, .int f0])), (sc, .inl (G.2.1, 60, .inl cr)), (v, .inr (7, [.int wide, .ref vw, .ref vc, .ref vp, .ref vs, .ref vn, .ref vm, .ref vu])), (vp, .inr (4, [.int 7, .int 3, .ref vpc, .int (nI n)])), (vpc, .inl (G.2.1, 21, .inl pf)), (vc, .inl (G.2.1, 7, .inl ck)), (vw, .inl (G.2.1, 6, .inl wd))] (fun (r : Int32) w1 => ∃ u_ : Nat → Int32, (r = nI (stq (cfS wide ck wd pf n hr fh) fh (orF (fun i => decide (pf (i * 3 + 1) = 1)) n))) ∧ w1 = [(to, .inr (8, [.ref v, .ref iv, .ref jv, .int k1, .int k2, .ref rd, .ref st, .ref ra, .ref og, .int ab, .int be, .int bds, .int nos, .int fls])), (st, .inr (5, [.ref sc, .int (nI fh)])), (sc, .inl (G.2.1, 60, .inl u_)), (v, .inr (7, [.int wide, .ref vw, .ref vc, .ref vp, .ref vs, .ref vn, .ref vm, .ref vu])), (vp, .inr (4, [.int 7, .int 3, .ref vpc, .int (nI n)])), (vpc, .inl (G.2.1, 21, .inl pf)), (vc, .inl (G.2.1, 7, .inl ck)), (vw, .inl (G.2.1, 6, .inl wd))]) := by
  refine MI.mk (by decide) (Nat.le_of_ble_eq_true rfl) ?_
  intro p_ e_ s_ m_ ar_ be_ me_ cd_ A_ ls C hrt hW hl
  have hx := C.1; have hb := C.2.1; have hown := C.2.2.2.1; have ht := C.2.2.2.2.1
  replace hl : lv_has ls 1 [(0, .ref to)] := hl
  generalize hQ : MQ be_ _ ar_ s_ 0 0 A_ = Q
  refine lv_aload_n hx hb dX10_lasts_0 rfl (lv_at hl 0 rfl) ?_
  refine g_get (k := 0) (v := .ref v) C hW 0 rfl rfl jnX10 (by decide) k_fl_X10_10 rfl dX10_lasts_1 ?_
  refine g_fi C hW [3, 6] rfl (g_runV (As := []) (rest := []) (wc := [(v, .inr (7, [.int wide, .ref vw, .ref vc, .ref vp, .ref vs, .ref vn, .ref vm, .ref vu])), (vc, .inl (G.2.1, 7, .inl ck))]) (q0 := 0) (ci := 7) C hW hl (c_X9_isUp l G v vw vc vp vs vn vm vu wide ck  _) k_ml_X10_176 q_X9_isUp (by decide) [3, 6] rfl rfl rfl rfl rfl rfl (Nat.le_of_ble_eq_true rfl) dX10_lasts_4 (by decide)) (fun r_1112 er_1112 => ?_)
  clear hW; intro H locs hW
  refine lv_as (y := bI (decide (ck 3 = 1))) er_1112 ?_
  clear er_1112 r_1112
  refine lv_if_ne (tgt := 12) hx hb dX10_lasts_7 (by decide) (fun c_1113 => ?_) (fun c_1113 => ?_)
  · refine lv_aload_n hx hb dX10_lasts_12 rfl (lv_at hl 0 rfl) ?_
    refine g_get (k := 6) (v := .ref st) C hW 0 rfl rfl jnX10 (by decide) k_fl_X10_39 rfl dX10_lasts_13 ?_
    refine lv_aload_n hx hb dX10_lasts_16 rfl (lv_at hl 0 rfl) ?_
    refine g_get (k := 0) (v := .ref v) C hW 0 rfl rfl jnX10 (by decide) k_fl_X10_10 rfl dX10_lasts_17 ?_
    refine g_fvw (wr := [(to, .inr (8, [.ref v, .ref iv, .ref jv, .int k1, .int k2, .ref rd, .ref st, .ref ra, .ref og, .int ab, .int be, .int bds, .int nos, .int fls]))]) (ww := fun (u_ : Nat → Int32) => [(st, .inr (5, [.ref sc, .int (nI fh)])), (sc, .inl (G.2.1, 60, .inl u_)), (v, .inr (7, [.int wide, .ref vw, .ref vc, .ref vp, .ref vs, .ref vn, .ref vm, .ref vu])), (vp, .inr (4, [.int 7, .int 3, .ref vpc, .int (nI n)])), (vpc, .inl (G.2.1, 21, .inl pf)), (vc, .inl (G.2.1, 7, .inl ck)), (vw, .inl (G.2.1, 6, .inl wd))]) (w2 := fun (u_ : Nat → Int32) => [(to, .inr (8, [.ref v, .ref iv, .ref jv, .int k1, .int k2, .ref rd, .ref st, .ref ra, .ref og, .int ab, .int be, .int bds, .int nos, .int fls])), (st, .inr (5, [.ref sc, .int (nI fh)])), (sc, .inl (G.2.1, 60, .inl u_)), (v, .inr (7, [.int wide, .ref vw, .ref vc, .ref vp, .ref vs, .ref vn, .ref vm, .ref vu])), (vp, .inr (4, [.int 7, .int 3, .ref vpc, .int (nI n)])), (vpc, .inl (G.2.1, 21, .inl pf)), (vc, .inl (G.2.1, 7, .inl ck)), (vw, .inl (G.2.1, 6, .inl wd))]) C hW [1, 2, 3, 4, 5, 6, 7] [0] [0, 1, 2, 3, 4, 5, 6, 7] rfl rfl (by decide) (by decide) (by decide) (fun _ => rfl) (g_runV (As := [.ref v]) (rest := []) (wc := [(st, .inr (5, [.ref sc, .int f0])), (sc, .inl (G.2.1, 60, .inl cr)), (v, .inr (7, [.int wide, .ref vw, .ref vc, .ref vp, .ref vs, .ref vn, .ref vm, .ref vu])), (vp, .inr (4, [.int 7, .int 3, .ref vpc, .int (nI n)])), (vpc, .inl (G.2.1, 21, .inl pf)), (vc, .inl (G.2.1, 7, .inl ck)), (vw, .inl (G.2.1, 6, .inl wd))]) (q0 := 0) (ci := 5) C hW hl (c_X7_watch l G st sc f0 cr v vw vc vp vs vn vm vu wide vpc n pf ck wd hr fh (by first | assumption | omega) (by assumption) (by first | assumption | omega) (by assumption) (by first | assumption | omega) (by assumption) (by assumption) (by assumption) _) k_ml_X10_229 q_X7_watch (by decide) [1, 2, 3, 4, 5, 6, 7] rfl rfl rfl rfl rfl rfl (Nat.le_of_ble_eq_true rfl) dX10_lasts_20 (by decide)) (fun u_1115 er_1114 => ?_)
    clear hW H locs; intro H locs hW
    replace hW : Wd G A_ s_.heap [(to, .inr (8, [.ref v, .ref iv, .ref jv, .int k1, .int k2, .ref rd, .ref st, .ref ra, .ref og, .int ab, .int be, .int bds, .int nos, .int fls])), (st, .inr (5, [.ref sc, .int (nI fh)])), (sc, .inl (G.2.1, 60, .inl u_1115)), (v, .inr (7, [.int wide, .ref vw, .ref vc, .ref vp, .ref vs, .ref vn, .ref vm, .ref vu])), (vp, .inr (4, [.int 7, .int 3, .ref vpc, .int (nI n)])), (vpc, .inl (G.2.1, 21, .inl pf)), (vc, .inl (G.2.1, 7, .inl ck)), (vw, .inl (G.2.1, 6, .inl wd))] H locs := hW
    refine lv_aload_n hx hb dX10_lasts_23 rfl (lv_at hl 0 rfl) ?_
    refine g_get (k := 6) (v := .ref st) C hW 0 rfl rfl jnX10 (by decide) k_fl_X10_39 rfl dX10_lasts_24 ?_
    refine lv_aload_n hx hb dX10_lasts_27 rfl (lv_at hl 0 rfl) ?_
    refine g_get (k := 0) (v := .ref v) C hW 0 rfl rfl jnX10 (by decide) k_fl_X10_10 rfl dX10_lasts_28 ?_
    refine lv_iconst (v := 1) hx hb dX10_lasts_31 (by decide) ?_
    refine g_fi C hW [3, 4, 5] rfl (g_runV (As := [.int 1]) (rest := [.ref st]) (wc := [(v, .inr (7, [.int wide, .ref vw, .ref vc, .ref vp, .ref vs, .ref vn, .ref vm, .ref vu])), (vp, .inr (4, [.int 7, .int 3, .ref vpc, .int (nI n)])), (vpc, .inl (G.2.1, 21, .inl pf))]) (q0 := 0) (ci := 7) C hW hl (c_X9_playersOn l G v vw vc vp vs vn vm vu wide vpc n pf 1 (by first | assumption | omega) _) k_ml_X10_232 q_X9_playersOn (by decide) [3, 4, 5] rfl rfl rfl rfl rfl rfl (Nat.le_of_ble_eq_true rfl) dX10_lasts_32 (by decide)) (fun r_1116 er_1116 => ?_)
    clear hW H locs; intro H locs hW
    refine lv_as (y := orF (fun i => decide (pf (i * 3 + 1) = 1)) n) er_1116 ?_
    clear er_1116 r_1116
    refine g_fi C hW [1, 2] rfl (g_runV (As := [.int (orF (fun i => decide (pf (i * 3 + 1) = 1)) n)]) (rest := []) (wc := [(st, .inr (5, [.ref sc, .int (nI fh)])), (sc, .inl (G.2.1, 60, .inl u_1115))]) (q0 := 0) (ci := 5) C hW hl (c_X7_strokes l G st sc fh u_1115 (orF (fun i => decide (pf (i * 3 + 1) = 1)) n) (by first | assumption | omega) _) k_ml_X10_235 q_X7_strokes (by decide) [1, 2] rfl rfl rfl rfl rfl rfl (Nat.le_of_ble_eq_true rfl) dX10_lasts_35 (by decide)) (fun r_1117 er_1117 => ?_)
    clear hW H locs; intro H locs hW
    refine lv_as (y := nI (stq u_1115 fh (orF (fun i => decide (pf (i * 3 + 1) = 1)) n))) er_1117 ?_
    clear er_1117 r_1117
    subst hQ
    exact g_iret (v := (nI (stq u_1115 fh (orF (fun i => decide (pf (i * 3 + 1) = 1)) n)))) C hW hrt ⟨u_1115, by exact congrArg nI (stq_cf er_1114), by rfl⟩ dX10_lasts_38
  · exfalso; exact dd (by first | assumption | exact okp_nI (by omega) (by assumption) | exact decide_eq_true (by first | assumption | omega)) c_1113
set_option maxHeartbeats 4000000 in
set_option maxRecDepth 100000 in
theorem c_X10_lasts_down (l : Launch) (G : gT) (v vw vc vp vs vn vm vu : Nat) (wide : Int32) (to iv jv rd st ra og : Nat) (k1 k2 ab be bds nos fls : Int32) (ck : Nat → Int32) (hup : ¬ ck 3 = 1) : MI l G yX10_lasts cX10_lasts 1 .int ({ frames := 1, cells := 0, slots := 0, locals := 20 }) [.ref to] [(to, .inr (8, [.ref v, .ref iv, .ref jv, .int k1, .int k2, .ref rd, .ref st, .ref ra, .ref og, .int ab, .int be, .int bds, .int nos, .int fls])), (v, .inr (7, [.int wide, .ref vw, .ref vc, .ref vp, .ref vs, .ref vn, .ref vm, .ref vu])), (vc, .inl (G.2.1, 7, .inl ck))] (fun (r : Int32) w1 => (r = 0) ∧ w1 = [(to, .inr (8, [.ref v, .ref iv, .ref jv, .int k1, .int k2, .ref rd, .ref st, .ref ra, .ref og, .int ab, .int be, .int bds, .int nos, .int fls])), (v, .inr (7, [.int wide, .ref vw, .ref vc, .ref vp, .ref vs, .ref vn, .ref vm, .ref vu])), (vc, .inl (G.2.1, 7, .inl ck))]) := by
  refine MI.mk (by decide) (Nat.le_of_ble_eq_true rfl) ?_
  intro p_ e_ s_ m_ ar_ be_ me_ cd_ A_ ls C hrt hW hl
  have hx := C.1; have hb := C.2.1; have hown := C.2.2.2.1; have ht := C.2.2.2.2.1
  replace hl : lv_has ls 1 [(0, .ref to)] := hl
  generalize hQ : MQ be_ _ ar_ s_ 0 0 A_ = Q
  refine lv_aload_n hx hb dX10_lasts_0 rfl (lv_at hl 0 rfl) ?_
  refine g_get (k := 0) (v := .ref v) C hW 0 rfl rfl jnX10 (by decide) k_fl_X10_10 rfl dX10_lasts_1 ?_
  refine g_fi C hW [1, 2] rfl (g_runV (As := []) (rest := []) (wc := [(v, .inr (7, [.int wide, .ref vw, .ref vc, .ref vp, .ref vs, .ref vn, .ref vm, .ref vu])), (vc, .inl (G.2.1, 7, .inl ck))]) (q0 := 0) (ci := 7) C hW hl (c_X9_isUp l G v vw vc vp vs vn vm vu wide ck  _) k_ml_X10_176 q_X9_isUp (by decide) [1, 2] rfl rfl rfl rfl rfl rfl (Nat.le_of_ble_eq_true rfl) dX10_lasts_4 (by decide)) (fun r_1118 er_1118 => ?_)
  clear hW; intro H locs hW
  refine lv_as (y := bI (decide (ck 3 = 1))) er_1118 ?_
  clear er_1118 r_1118
  refine lv_if_ne (tgt := 12) hx hb dX10_lasts_7 (by decide) (fun c_1119 => ?_) (fun c_1119 => ?_)
  · exfalso; exact dd0 (by first | assumption | exact decide_eq_false (by first | assumption | omega)) c_1119
  · refine lv_iconst (v := 0) hx hb dX10_lasts_10 (by decide) ?_
    subst hQ
    exact g_iret (v := 0) C hW hrt ⟨by rfl, rfl⟩ dX10_lasts_11
