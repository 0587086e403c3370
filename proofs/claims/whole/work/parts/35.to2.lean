set_option maxHeartbeats 4000000 in
set_option maxRecDepth 100000 in
theorem c_X10_type_ok (l : Launch) (G : gT) (v : Nat) (to iv jv rd st ra og : Nat) (k1 k2 ab be bds nos fls : Int32) (tx dv tq tn : Nat) (tk tok stt en : Int32) (tf : Nat → Int32) (c9 : Int32) (h1 : iw c9 0 127 = true) (hn : tn < 150) : MI l G yX10_type cX10_type 2 .int ({ frames := 2, cells := 0, slots := 0, locals := 41 }) [.ref to, .int c9] [(to, .inr (8, [.ref v, .ref iv, .ref jv, .int k1, .int k2, .ref rd, .ref st, .ref ra, .ref og, .int ab, .int be, .int bds, .int nos, .int fls])), (rd, .inr (3, [.ref tx, .ref dv, .int tk])), (tx, .inr (6, [.ref tq, .int (nI tn), .int tok, .int stt, .int en])), (tq, .inl (G.2.1, 150, .inl tf))] (fun (r : Int32) w1 => ∃ u_ : Unit, (r = nI (tn + 1)) ∧ w1 = [(to, .inr (8, [.ref v, .ref iv, .ref jv, .int k1, .int k2, .ref rd, .ref st, .ref ra, .ref og, .int ab, .int be, .int bds, .int nos, .int fls])), (rd, .inr (3, [.ref tx, .ref dv, .int tk])), (tx, .inr (6, [.ref tq, .int (nI (tn + 1)), .int tok, .int stt, .int en])), (tq, .inl (G.2.1, 150, .inl (upd tf tn c9)))]) := by
  refine MI.mk (by decide) (Nat.le_of_ble_eq_true rfl) ?_
  intro p_ e_ s_ m_ ar_ be_ me_ cd_ A_ ls C hrt hW hl
  have hx := C.1; have hb := C.2.1; have hown := C.2.2.2.1; have ht := C.2.2.2.2.1
  replace hl : lv_has ls 2 [(0, .ref to), (1, .int c9)] := hl
  generalize hQ : MQ be_ _ ar_ s_ 0 0 A_ = Q
  refine lv_iload_n hx hb dX10_type_0 rfl (lv_at hl 1 rfl) ?_
  refine lv_iconst (v := 0) hx hb dX10_type_1 (by decide) ?_
  refine lv_bipush (v := 127) hx hb dX10_type_2 (by decide) ?_
  refine g_fi C hW [] rfl (g_runS (As := [.int c9, .int 0, .int 127]) (rest := []) (wc := []) C hW hl (c_X10_isWithin l G c9 0 127  _) k_ml_X10_73 q_X10_isWithin (by decide) [] rfl rfl rfl rfl (Nat.le_of_ble_eq_true rfl) dX10_type_4 (by decide)) (fun r_755 er_755 => ?_)
  clear hW; intro H locs hW
  refine lv_as (y := bI (iw c9 0 127)) er_755 ?_
  clear er_755 r_755
  refine lv_if_ne (tgt := 17) hx hb dX10_type_7 (by decide) (fun c_756 => ?_) (fun c_756 => ?_)
  · refine lv_aload_n hx hb dX10_type_17 rfl (lv_at hl 0 rfl) ?_
    refine g_get (k := 5) (v := .ref rd) C hW 0 rfl rfl jnX10 (by decide) k_fl_X10_32 rfl dX10_type_18 ?_
    refine g_getN (k := 0) (v := .ref tx) (host := RX10) C hW 1 rfl rfl jnX5 (by decide) (List.mem_of_getElem? (i := 15) rfl) rfl dX10_type_21 ?_
    refine g_fi C hW [2] rfl (g_runV (As := []) (rest := []) (wc := [(tx, .inr (6, [.ref tq, .int (nI tn), .int tok, .int stt, .int en]))]) (q0 := 0) (ci := 6) C hW hl (c_X8_isFull l G tx tq tn tok stt en (by first | assumption | omega) _) k_ml_X10_130 q_X8_isFull (by decide) [2] rfl rfl rfl rfl rfl rfl (Nat.le_of_ble_eq_true rfl) dX10_type_24 (by decide)) (fun r_757 er_757 => ?_)
    clear hW H locs; intro H locs hW
    refine lv_as (y := bI (decide (150 ≤ tn))) er_757 ?_
    clear er_757 r_757
    refine lv_if_eq (tgt := 35) hx hb dX10_type_27 (by decide) (fun c_758 => ?_) (fun c_758 => ?_)
    · refine lv_aload_n hx hb dX10_type_35 rfl (lv_at hl 0 rfl) ?_
      refine g_get (k := 5) (v := .ref rd) C hW 0 rfl rfl jnX10 (by decide) k_fl_X10_32 rfl dX10_type_36 ?_
      refine g_getN (k := 0) (v := .ref tx) (host := RX10) C hW 1 rfl rfl jnX5 (by decide) (List.mem_of_getElem? (i := 15) rfl) rfl dX10_type_39 ?_
      refine lv_iload_n hx hb dX10_type_42 rfl (lv_at hl 1 rfl) ?_
      refine g_fiw (wr := [(to, .inr (8, [.ref v, .ref iv, .ref jv, .int k1, .int k2, .ref rd, .ref st, .ref ra, .ref og, .int ab, .int be, .int bds, .int nos, .int fls])), (rd, .inr (3, [.ref tx, .ref dv, .int tk]))]) (ww := fun (u_ : Unit) => [(tx, .inr (6, [.ref tq, .int (nI (tn + 1)), .int tok, .int stt, .int en])), (tq, .inl (G.2.1, 150, .inl (upd tf tn c9)))]) (w2 := fun (u_ : Unit) => [(to, .inr (8, [.ref v, .ref iv, .ref jv, .int k1, .int k2, .ref rd, .ref st, .ref ra, .ref og, .int ab, .int be, .int bds, .int nos, .int fls])), (rd, .inr (3, [.ref tx, .ref dv, .int tk])), (tx, .inr (6, [.ref tq, .int (nI (tn + 1)), .int tok, .int stt, .int en])), (tq, .inl (G.2.1, 150, .inl (upd tf tn c9)))]) C hW [2, 3] [0, 1] [0, 1, 2, 3] rfl rfl (by decide) (by decide) (by decide) (fun _ => rfl) (g_runV (As := [.int c9]) (rest := []) (wc := [(tx, .inr (6, [.ref tq, .int (nI tn), .int tok, .int stt, .int en])), (tq, .inl (G.2.1, 150, .inl tf))]) (q0 := 0) (ci := 6) C hW hl (c_X8_append l G tx tq tn tok stt en tf c9 (by first | assumption | omega) _) k_ml_X10_133 q_X8_append (by decide) [2, 3] rfl rfl rfl rfl rfl rfl (Nat.le_of_ble_eq_true rfl) dX10_type_43 (by decide)) (fun r_759 _ er_759 => ?_)
      clear hW H locs; intro H locs hW
      refine lv_as (y := nI (tn + 1)) er_759 ?_
      clear er_759 r_759
      replace hW : Wd G A_ s_.heap [(to, .inr (8, [.ref v, .ref iv, .ref jv, .int k1, .int k2, .ref rd, .ref st, .ref ra, .ref og, .int ab, .int be, .int bds, .int nos, .int fls])), (rd, .inr (3, [.ref tx, .ref dv, .int tk])), (tx, .inr (6, [.ref tq, .int (nI (tn + 1)), .int tok, .int stt, .int en])), (tq, .inl (G.2.1, 150, .inl (upd tf tn c9)))] H locs := hW
      subst hQ
      exact g_iret (v := (nI (tn + 1))) C hW hrt ⟨(), by rfl, by rfl⟩ dX10_type_46
    · exfalso; exact dd0 (by first | assumption | exact decide_eq_false (by first | assumption | omega)) c_758
  · exfalso; exact dd (by first | assumption | exact okp_nI (by omega) (by assumption) | exact decide_eq_true (by first | assumption | omega)) c_756
set_option maxHeartbeats 4000000 in
set_option maxRecDepth 100000 in
theorem c_X10_type_full (l : Launch) (G : gT) (v : Nat) (to iv jv rd st ra og : Nat) (k1 k2 ab be bds nos fls : Int32) (tx dv tq tn : Nat) (tk tok stt en : Int32) (tf : Nat → Int32) (c9 : Int32) (h1 : iw c9 0 127 = true) (hn : tn = 150) : MI l G yX10_type cX10_type 2 .int ({ frames := 1, cells := 0, slots := 0, locals := 22 }) [.ref to, .int c9] [(to, .inr (8, [.ref v, .ref iv, .ref jv, .int k1, .int k2, .ref rd, .ref st, .ref ra, .ref og, .int ab, .int be, .int bds, .int nos, .int fls])), (rd, .inr (3, [.ref tx, .ref dv, .int tk])), (tx, .inr (6, [.ref tq, .int (nI tn), .int tok, .int stt, .int en])), (tq, .inl (G.2.1, 150, .inl tf))] (fun (r : Int32) w1 => ∃ u_ : Unit, (r = (-4)) ∧ w1 = [(to, .inr (8, [.ref v, .ref iv, .ref jv, .int k1, .int k2, .ref rd, .ref st, .ref ra, .ref og, .int ab, .int be, .int bds, .int nos, .int (fls + 1)])), (rd, .inr (3, [.ref tx, .ref dv, .int tk])), (tx, .inr (6, [.ref tq, .int (nI tn), .int tok, .int stt, .int en])), (tq, .inl (G.2.1, 150, .inl tf))]) := by
  refine MI.mk (by decide) (Nat.le_of_ble_eq_true rfl) ?_
  intro p_ e_ s_ m_ ar_ be_ me_ cd_ A_ ls C hrt hW hl
  have hx := C.1; have hb := C.2.1; have hown := C.2.2.2.1; have ht := C.2.2.2.2.1
  replace hl : lv_has ls 2 [(0, .ref to), (1, .int c9)] := hl
  generalize hQ : MQ be_ _ ar_ s_ 0 0 A_ = Q
  refine lv_iload_n hx hb dX10_type_0 rfl (lv_at hl 1 rfl) ?_
  refine lv_iconst (v := 0) hx hb dX10_type_1 (by decide) ?_
  refine lv_bipush (v := 127) hx hb dX10_type_2 (by decide) ?_
  refine g_fi C hW [] rfl (g_runS (As := [.int c9, .int 0, .int 127]) (rest := []) (wc := []) C hW hl (c_X10_isWithin l G c9 0 127  _) k_ml_X10_73 q_X10_isWithin (by decide) [] rfl rfl rfl rfl (Nat.le_of_ble_eq_true rfl) dX10_type_4 (by decide)) (fun r_761 er_761 => ?_)
  clear hW; intro H locs hW
  refine lv_as (y := bI (iw c9 0 127)) er_761 ?_
  clear er_761 r_761
  refine lv_if_ne (tgt := 17) hx hb dX10_type_7 (by decide) (fun c_762 => ?_) (fun c_762 => ?_)
  · refine lv_aload_n hx hb dX10_type_17 rfl (lv_at hl 0 rfl) ?_
    refine g_get (k := 5) (v := .ref rd) C hW 0 rfl rfl jnX10 (by decide) k_fl_X10_32 rfl dX10_type_18 ?_
    refine g_getN (k := 0) (v := .ref tx) (host := RX10) C hW 1 rfl rfl jnX5 (by decide) (List.mem_of_getElem? (i := 15) rfl) rfl dX10_type_21 ?_
    refine g_fi C hW [2] rfl (g_runV (As := []) (rest := []) (wc := [(tx, .inr (6, [.ref tq, .int (nI tn), .int tok, .int stt, .int en]))]) (q0 := 0) (ci := 6) C hW hl (c_X8_isFull l G tx tq tn tok stt en (by first | assumption | omega) _) k_ml_X10_130 q_X8_isFull (by decide) [2] rfl rfl rfl rfl rfl rfl (Nat.le_of_ble_eq_true rfl) dX10_type_24 (by decide)) (fun r_763 er_763 => ?_)
    clear hW H locs; intro H locs hW
    refine lv_as (y := bI (decide (150 ≤ tn))) er_763 ?_
    clear er_763 r_763
    refine lv_if_eq (tgt := 35) hx hb dX10_type_27 (by decide) (fun c_764 => ?_) (fun c_764 => ?_)
    · exfalso; exact dd (by first | assumption | exact okp_nI (by omega) (by assumption) | exact decide_eq_true (by first | assumption | omega)) c_764
    · refine lv_aload_n hx hb dX10_type_30 rfl (lv_at hl 0 rfl) ?_
      refine g_fiw (wr := [(rd, .inr (3, [.ref tx, .ref dv, .int tk])), (tx, .inr (6, [.ref tq, .int (nI tn), .int tok, .int stt, .int en])), (tq, .inl (G.2.1, 150, .inl tf))]) (ww := fun (u_ : Unit) => [(to, .inr (8, [.ref v, .ref iv, .ref jv, .int k1, .int k2, .ref rd, .ref st, .ref ra, .ref og, .int ab, .int be, .int bds, .int nos, .int (fls + 1)]))]) (w2 := fun (u_ : Unit) => [(to, .inr (8, [.ref v, .ref iv, .ref jv, .int k1, .int k2, .ref rd, .ref st, .ref ra, .ref og, .int ab, .int be, .int bds, .int nos, .int (fls + 1)])), (rd, .inr (3, [.ref tx, .ref dv, .int tk])), (tx, .inr (6, [.ref tq, .int (nI tn), .int tok, .int stt, .int en])), (tq, .inl (G.2.1, 150, .inl tf))]) C hW [0] [1, 2, 3] [3, 0, 1, 2] rfl rfl (by decide) (by decide) (by decide) (fun _ => rfl) (g_runV (As := []) (rest := []) (wc := [(to, .inr (8, [.ref v, .ref iv, .ref jv, .int k1, .int k2, .ref rd, .ref st, .ref ra, .ref og, .int ab, .int be, .int bds, .int nos, .int fls]))]) (q0 := 0) (ci := 8) C hW hl (c_X10_refuseFull l G v to iv jv rd st ra og k1 k2 ab be bds nos fls  _) k_ml_X10_119 q_X10_refuseFull (by decide) [0] rfl rfl rfl rfl rfl rfl (Nat.le_of_ble_eq_true rfl) dX10_type_31 (by decide)) (fun r_765 _ er_765 => ?_)
      clear hW H locs; intro H locs hW
      refine lv_as (y := (-4)) er_765 ?_
      clear er_765 r_765
      replace hW : Wd G A_ s_.heap [(to, .inr (8, [.ref v, .ref iv, .ref jv, .int k1, .int k2, .ref rd, .ref st, .ref ra, .ref og, .int ab, .int be, .int bds, .int nos, .int (fls + 1)])), (rd, .inr (3, [.ref tx, .ref dv, .int tk])), (tx, .inr (6, [.ref tq, .int (nI tn), .int tok, .int stt, .int en])), (tq, .inl (G.2.1, 150, .inl tf))] H locs := hW
      subst hQ
      exact g_iret (v := (-4)) C hW hrt ⟨(), by rfl, by rfl⟩ dX10_type_34
  · exfalso; exact dd (by first | assumption | exact okp_nI (by omega) (by assumption) | exact decide_eq_true (by first | assumption | omega)) c_762
set_option maxHeartbeats 4000000 in
set_option maxRecDepth 100000 in
theorem c_X10_type_bad (l : Launch) (G : gT) (v : Nat) (to iv jv rd st ra og : Nat) (k1 k2 ab be bds nos fls : Int32) (c9 : Int32) (hbad : iw c9 0 127 = false) : MI l G yX10_type cX10_type 2 .int ({ frames := 1, cells := 0, slots := 0, locals := 22 }) [.ref to, .int c9] [(to, .inr (8, [.ref v, .ref iv, .ref jv, .int k1, .int k2, .ref rd, .ref st, .ref ra, .ref og, .int ab, .int be, .int bds, .int nos, .int fls]))] (fun (r : Int32) w1 => ∃ u_ : Unit, (r = (-2)) ∧ w1 = [(to, .inr (8, [.ref v, .ref iv, .ref jv, .int k1, .int k2, .ref rd, .ref st, .ref ra, .ref og, .int ab, .int be, .int (bds + 1), .int nos, .int fls]))]) := by
  refine MI.mk (by decide) (Nat.le_of_ble_eq_true rfl) ?_
  intro p_ e_ s_ m_ ar_ be_ me_ cd_ A_ ls C hrt hW hl
  have hx := C.1; have hb := C.2.1; have hown := C.2.2.2.1; have ht := C.2.2.2.2.1
  replace hl : lv_has ls 2 [(0, .ref to), (1, .int c9)] := hl
  generalize hQ : MQ be_ _ ar_ s_ 0 0 A_ = Q
  refine lv_iload_n hx hb dX10_type_0 rfl (lv_at hl 1 rfl) ?_
  refine lv_iconst (v := 0) hx hb dX10_type_1 (by decide) ?_
  refine lv_bipush (v := 127) hx hb dX10_type_2 (by decide) ?_
  refine g_fi C hW [] rfl (g_runS (As := [.int c9, .int 0, .int 127]) (rest := []) (wc := []) C hW hl (c_X10_isWithin l G c9 0 127  _) k_ml_X10_73 q_X10_isWithin (by decide) [] rfl rfl rfl rfl (Nat.le_of_ble_eq_true rfl) dX10_type_4 (by decide)) (fun r_767 er_767 => ?_)
  clear hW; intro H locs hW
  refine lv_as (y := bI (iw c9 0 127)) er_767 ?_
  clear er_767 r_767
  refine lv_if_ne (tgt := 17) hx hb dX10_type_7 (by decide) (fun c_768 => ?_) (fun c_768 => ?_)
  · exfalso; simp [bI_ne.mp c_768, if_true, if_false, reduceIte, Bool.false_eq_true] at hbad
  · refine lv_aload_n hx hb dX10_type_10 rfl (lv_at hl 0 rfl) ?_
    refine lv_bipush (v := (-2)) hx hb dX10_type_11 (by decide) ?_
    refine g_fiw (wr := []) (ww := fun (u_ : Unit) => [(to, .inr (8, [.ref v, .ref iv, .ref jv, .int k1, .int k2, .ref rd, .ref st, .ref ra, .ref og, .int ab, .int be, .int (bds + 1), .int nos, .int fls]))]) (w2 := fun (u_ : Unit) => [(to, .inr (8, [.ref v, .ref iv, .ref jv, .int k1, .int k2, .ref rd, .ref st, .ref ra, .ref og, .int ab, .int be, .int (bds + 1), .int nos, .int fls]))]) C hW [0] [] [0] rfl rfl (by decide) (by decide) (by decide) (fun _ => rfl) (g_runV (As := [.int (-2)]) (rest := []) (wc := [(to, .inr (8, [.ref v, .ref iv, .ref jv, .int k1, .int k2, .ref rd, .ref st, .ref ra, .ref og, .int ab, .int be, .int bds, .int nos, .int fls]))]) (q0 := 0) (ci := 8) C hW hl (c_X10_refuseBad l G v to iv jv rd st ra og k1 k2 ab be bds nos fls (-2)  _) k_ml_X10_77 q_X10_refuseBad (by decide) [0] rfl rfl rfl rfl rfl rfl (Nat.le_of_ble_eq_true rfl) dX10_type_13 (by decide)) (fun r_769 _ er_769 => ?_)
    clear hW H locs; intro H locs hW
    refine lv_as (y := (-2)) er_769 ?_
    clear er_769 r_769
    replace hW : Wd G A_ s_.heap [(to, .inr (8, [.ref v, .ref iv, .ref jv, .int k1, .int k2, .ref rd, .ref st, .ref ra, .ref og, .int ab, .int be, .int (bds + 1), .int nos, .int fls]))] H locs := hW
    subst hQ
    exact g_iret (v := (-2)) C hW hrt ⟨(), by rfl, by rfl⟩ dX10_type_16
set_option maxHeartbeats 4000000 in
set_option maxRecDepth 100000 in
theorem c_X10_clear (l : Launch) (G : gT) (v : Nat) (to iv jv rd st ra og : Nat) (k1 k2 ab be bds nos fls : Int32) (tx dv tq tn : Nat) (tk tok stt en : Int32) (tf : Nat → Int32)  : MI l G yX10_clear cX10_clear 1 .int ({ frames := 1, cells := 0, slots := 0, locals := 21 }) [.ref to] [(to, .inr (8, [.ref v, .ref iv, .ref jv, .int k1, .int k2, .ref rd, .ref st, .ref ra, .ref og, .int ab, .int be, .int bds, .int nos, .int fls])), (rd, .inr (3, [.ref tx, .ref dv, .int tk])), (tx, .inr (6, [.ref tq, .int (nI tn), .int tok, .int stt, .int en])), (tq, .inl (G.2.1, 150, .inl tf))] (fun (r : Int32) w1 => ∃ u_ : Unit, (r = nI tn) ∧ w1 = [(to, .inr (8, [.ref v, .ref iv, .ref jv, .int k1, .int k2, .ref rd, .ref st, .ref ra, .ref og, .int ab, .int be, .int bds, .int nos, .int fls])), (rd, .inr (3, [.ref tx, .ref dv, .int tk])), (tx, .inr (6, [.ref tq, .int (nI 0), .int tok, .int stt, .int en])), (tq, .inl (G.2.1, 150, .inl tf))]) := by
  refine MI.mk (by decide) (Nat.le_of_ble_eq_true rfl) ?_
  intro p_ e_ s_ m_ ar_ be_ me_ cd_ A_ ls C hrt hW hl
  have hx := C.1; have hb := C.2.1; have hown := C.2.2.2.1; have ht := C.2.2.2.2.1
  replace hl : lv_has ls 1 [(0, .ref to)] := hl
  generalize hQ : MQ be_ _ ar_ s_ 0 0 A_ = Q
  refine lv_aload_n hx hb dX10_clear_0 rfl (lv_at hl 0 rfl) ?_
  refine g_get (k := 5) (v := .ref rd) C hW 0 rfl rfl jnX10 (by decide) k_fl_X10_32 rfl dX10_clear_1 ?_
  refine g_getN (k := 0) (v := .ref tx) (host := RX10) C hW 1 rfl rfl jnX5 (by decide) (List.mem_of_getElem? (i := 15) rfl) rfl dX10_clear_4 ?_
  refine g_fiw (wr := [(to, .inr (8, [.ref v, .ref iv, .ref jv, .int k1, .int k2, .ref rd, .ref st, .ref ra, .ref og, .int ab, .int be, .int bds, .int nos, .int fls])), (rd, .inr (3, [.ref tx, .ref dv, .int tk])), (tq, .inl (G.2.1, 150, .inl tf))]) (ww := fun (u_ : Unit) => [(tx, .inr (6, [.ref tq, .int (nI 0), .int tok, .int stt, .int en]))]) (w2 := fun (u_ : Unit) => [(to, .inr (8, [.ref v, .ref iv, .ref jv, .int k1, .int k2, .ref rd, .ref st, .ref ra, .ref og, .int ab, .int be, .int bds, .int nos, .int fls])), (rd, .inr (3, [.ref tx, .ref dv, .int tk])), (tx, .inr (6, [.ref tq, .int (nI 0), .int tok, .int stt, .int en])), (tq, .inl (G.2.1, 150, .inl tf))]) C hW [2] [0, 1, 3] [0, 1, 3, 2] rfl rfl (by decide) (by decide) (by decide) (fun _ => rfl) (g_runV (As := []) (rest := []) (wc := [(tx, .inr (6, [.ref tq, .int (nI tn), .int tok, .int stt, .int en]))]) (q0 := 0) (ci := 6) C hW hl (c_X8_empty l G tx tq tn tok stt en  _) k_ml_X10_136 q_X8_empty (by decide) [2] rfl rfl rfl rfl rfl rfl (Nat.le_of_ble_eq_true rfl) dX10_clear_7 (by decide)) (fun r_771 _ er_771 => ?_)
  clear hW; intro H locs hW
  refine lv_as (y := nI tn) er_771 ?_
  clear er_771 r_771
  replace hW : Wd G A_ s_.heap [(to, .inr (8, [.ref v, .ref iv, .ref jv, .int k1, .int k2, .ref rd, .ref st, .ref ra, .ref og, .int ab, .int be, .int bds, .int nos, .int fls])), (rd, .inr (3, [.ref tx, .ref dv, .int tk])), (tx, .inr (6, [.ref tq, .int (nI 0), .int tok, .int stt, .int en])), (tq, .inl (G.2.1, 150, .inl tf))] H locs := hW
  subst hQ
  exact g_iret (v := (nI tn)) C hW hrt ⟨(), by rfl, by rfl⟩ dX10_clear_10
set_option maxHeartbeats 4000000 in
set_option maxRecDepth 100000 in
theorem c_X10_hits_ok (l : Launch) (G : gT) (v vw vc vp vs vn vm vu : Nat) (wide : Int32) (vpc n : Nat) (pf : Nat → Int32) (ck wd : Nat → Int32) (to iv jv rd st ra og : Nat) (k1 k2 ab be bds nos fls : Int32) (vuc u : Nat) (uf : Nat → Int32) (k hr : Nat) (hk : k < n) (hn : n ≤ 7) (eh : ck 6 = nI hr) (hh : hr < 100000) (hP : okP n pf) (hWd : okW wd) (hg : Rg (ck 1) 1 9) (hu : u ≤ 8) (hcs : (decide (ck 3 = 1) && (onb n pf (nI k) (ck 2) && decide (ck 6 < 9999))) = true) : MI l G yX10_hits cX10_hits 2 .int ({ frames := 5, cells := 0, slots := 0, locals := 115 }) [.ref to, .int (nI k)] [(to, .inr (8, [.ref v, .ref iv, .ref jv, .int k1, .int k2, .ref rd, .ref st, .ref ra, .ref og, .int ab, .int be, .int bds, .int nos, .int fls])), (v, .inr (7, [.int wide, .ref vw, .ref vc, .ref vp, .ref vs, .ref vn, .ref vm, .ref vu])), (vp, .inr (4, [.int 7, .int 3, .ref vpc, .int (nI n)])), (vpc, .inl (G.2.1, 21, .inl pf)), (vc, .inl (G.2.1, 7, .inl ck)), (vw, .inl (G.2.1, 6, .inl wd)), (vu, .inr (1, [.ref vuc, .int (nI u)])), (vuc, .inl (G.2.1, 56, .inl uf))] (fun (r : Int32) w1 => ∃ u_ : Unit, (r = bI (decide (wide ≤ rch ck wd pf k hr (pf (k * 3 + 1)) (ck 1)))) ∧ w1 = [(to, .inr (8, [.ref v, .ref iv, .ref jv, .int k1, .int k2, .ref rd, .ref st, .ref ra, .ref og, .int ab, .int be, .int bds, .int nos, .int fls])), (v, .inr (7, [.int wide, .ref vw, .ref vc, .ref vp, .ref vs, .ref vn, .ref vm, .ref vu])), (vp, .inr (4, [.int 7, .int 3, .ref vpc, .int (nI n)])), (vpc, .inl (G.2.1, 21, .inl pf)), (vc, .inl (G.2.1, 7, .inl (stk ck (decide (wide ≤ rch ck wd pf k hr (pf (k * 3 + 1)) (ck 1)))))), (vw, .inl (G.2.1, 6, .inl wd)), (vu, .inr (1, [.ref vuc, .int (nI (pun u))])), (vuc, .inl (G.2.1, 56, .inl (pu u uf ck)))]) := by
  refine MI.mk (by decide) (Nat.le_of_ble_eq_true rfl) ?_
  intro p_ e_ s_ m_ ar_ be_ me_ cd_ A_ ls C hrt hW hl
  have hx := C.1; have hb := C.2.1; have hown := C.2.2.2.1; have ht := C.2.2.2.2.1
  replace hl : lv_has ls 2 [(0, .ref to), (1, .int (nI k))] := hl
  generalize hQ : MQ be_ _ ar_ s_ 0 0 A_ = Q
  refine lv_aload_n hx hb dX10_hits_0 rfl (lv_at hl 0 rfl) ?_
  refine g_get (k := 0) (v := .ref v) C hW 0 rfl rfl jnX10 (by decide) k_fl_X10_10 rfl dX10_hits_1 ?_
  refine g_getN (k := 3) (v := .ref vp) (host := RX10) C hW 1 rfl rfl jnX9 (by decide) (List.mem_of_getElem? (i := 5) rfl) rfl dX10_hits_4 ?_
  refine lv_iload_n hx hb dX10_hits_7 rfl (lv_at hl 1 rfl) ?_
  refine g_fi C hW [2] rfl (g_runV (As := [.int (nI k)]) (rest := []) (wc := [(vp, .inr (4, [.int 7, .int 3, .ref vpc, .int (nI n)]))]) (q0 := 0) (ci := 4) C hW hl (c_X6_has l G vp vpc 7 3 n (nI k)  _) k_ml_X10_161 q_X6_has (by decide) [2] rfl rfl rfl rfl rfl rfl (Nat.le_of_ble_eq_true rfl) dX10_hits_8 (by decide)) (fun r_773 er_773 => ?_)
  clear hW; intro H locs hW
  refine lv_as (y := bI (okp n (nI k))) er_773 ?_
  clear er_773 r_773
  refine lv_if_ne (tgt := 21) hx hb dX10_hits_11 (by decide) (fun c_774 => ?_) (fun c_774 => ?_)
  · refine lv_aload_n hx hb dX10_hits_21 rfl (lv_at hl 0 rfl) ?_
    refine g_get (k := 0) (v := .ref v) C hW 0 rfl rfl jnX10 (by decide) k_fl_X10_10 rfl dX10_hits_22 ?_
    refine lv_iload_n hx hb dX10_hits_25 rfl (lv_at hl 1 rfl) ?_
    refine g_fi C hW [1, 2, 3, 4] rfl (g_runV (As := [.int (nI k)]) (rest := []) (wc := [(v, .inr (7, [.int wide, .ref vw, .ref vc, .ref vp, .ref vs, .ref vn, .ref vm, .ref vu])), (vp, .inr (4, [.int 7, .int 3, .ref vpc, .int (nI n)])), (vpc, .inl (G.2.1, 21, .inl pf)), (vc, .inl (G.2.1, 7, .inl ck))]) (q0 := 0) (ci := 7) C hW hl (c_X9_canStrike l G v vw vc vp vs vn vm vu wide vpc n pf ck (nI k) (by first | assumption | omega) _) k_ml_X10_164 q_X9_canStrike (by decide) [1, 2, 3, 4] rfl rfl rfl rfl rfl rfl (Nat.le_of_ble_eq_true rfl) dX10_hits_26 (by decide)) (fun r_775 er_775 => ?_)
    clear hW H locs; intro H locs hW
    refine lv_as (y := bI (decide (ck 3 = 1) && (onb n pf (nI k) (ck 2) && decide (ck 6 < 9999)))) er_775 ?_
    clear er_775 r_775
    refine lv_if_ne (tgt := 37) hx hb dX10_hits_29 (by decide) (fun c_776 => ?_) (fun c_776 => ?_)
    · refine lv_aload_n hx hb dX10_hits_37 rfl (lv_at hl 0 rfl) ?_
      refine g_get (k := 0) (v := .ref v) C hW 0 rfl rfl jnX10 (by decide) k_fl_X10_10 rfl dX10_hits_38 ?_
      refine g_fvw (wr := [(to, .inr (8, [.ref v, .ref iv, .ref jv, .int k1, .int k2, .ref rd, .ref st, .ref ra, .ref og, .int ab, .int be, .int bds, .int nos, .int fls])), (vp, .inr (4, [.int 7, .int 3, .ref vpc, .int (nI n)])), (vpc, .inl (G.2.1, 21, .inl pf)), (vw, .inl (G.2.1, 6, .inl wd))]) (ww := fun (u_ : Unit) => [(v, .inr (7, [.int wide, .ref vw, .ref vc, .ref vp, .ref vs, .ref vn, .ref vm, .ref vu])), (vc, .inl (G.2.1, 7, .inl ck)), (vu, .inr (1, [.ref vuc, .int (nI (pun u))])), (vuc, .inl (G.2.1, 56, .inl (pu u uf ck)))]) (w2 := fun (u_ : Unit) => [(to, .inr (8, [.ref v, .ref iv, .ref jv, .int k1, .int k2, .ref rd, .ref st, .ref ra, .ref og, .int ab, .int be, .int bds, .int nos, .int fls])), (v, .inr (7, [.int wide, .ref vw, .ref vc, .ref vp, .ref vs, .ref vn, .ref vm, .ref vu])), (vp, .inr (4, [.int 7, .int 3, .ref vpc, .int (nI n)])), (vpc, .inl (G.2.1, 21, .inl pf)), (vc, .inl (G.2.1, 7, .inl ck)), (vw, .inl (G.2.1, 6, .inl wd)), (vu, .inr (1, [.ref vuc, .int (nI (pun u))])), (vuc, .inl (G.2.1, 56, .inl (pu u uf ck)))]) C hW [1, 4, 6, 7] [0, 2, 3, 5] [0, 4, 1, 2, 5, 3, 6, 7] rfl rfl (by decide) (by decide) (by decide) (fun _ => rfl) (g_runV (As := []) (rest := []) (wc := [(v, .inr (7, [.int wide, .ref vw, .ref vc, .ref vp, .ref vs, .ref vn, .ref vm, .ref vu])), (vc, .inl (G.2.1, 7, .inl ck)), (vu, .inr (1, [.ref vuc, .int (nI u)])), (vuc, .inl (G.2.1, 56, .inl uf))]) (q0 := 0) (ci := 7) C hW hl (c_X9_remember l G v vw vc vp vs vn vm vu wide ck vuc u uf (by first | assumption | omega) _) k_ml_X10_170 q_X9_remember (by decide) [1, 4, 6, 7] rfl rfl rfl rfl rfl rfl (Nat.le_of_ble_eq_true rfl) dX10_hits_41 (by decide)) (fun _ er_777 => ?_)
      clear hW H locs; intro H locs hW
      replace hW : Wd G A_ s_.heap [(to, .inr (8, [.ref v, .ref iv, .ref jv, .int k1, .int k2, .ref rd, .ref st, .ref ra, .ref og, .int ab, .int be, .int bds, .int nos, .int fls])), (v, .inr (7, [.int wide, .ref vw, .ref vc, .ref vp, .ref vs, .ref vn, .ref vm, .ref vu])), (vp, .inr (4, [.int 7, .int 3, .ref vpc, .int (nI n)])), (vpc, .inl (G.2.1, 21, .inl pf)), (vc, .inl (G.2.1, 7, .inl ck)), (vw, .inl (G.2.1, 6, .inl wd)), (vu, .inr (1, [.ref vuc, .int (nI (pun u))])), (vuc, .inl (G.2.1, 56, .inl (pu u uf ck)))] H locs := hW
      refine lv_aload_n hx hb dX10_hits_44 rfl (lv_at hl 0 rfl) ?_
      refine g_get (k := 0) (v := .ref v) C hW 0 rfl rfl jnX10 (by decide) k_fl_X10_10 rfl dX10_hits_45 ?_
      refine lv_iload_n hx hb dX10_hits_48 rfl (lv_at hl 1 rfl) ?_
      refine g_fiw (wr := [(to, .inr (8, [.ref v, .ref iv, .ref jv, .int k1, .int k2, .ref rd, .ref st, .ref ra, .ref og, .int ab, .int be, .int bds, .int nos, .int fls])), (vu, .inr (1, [.ref vuc, .int (nI (pun u))])), (vuc, .inl (G.2.1, 56, .inl (pu u uf ck)))]) (ww := fun (u_ : Unit) => [(v, .inr (7, [.int wide, .ref vw, .ref vc, .ref vp, .ref vs, .ref vn, .ref vm, .ref vu])), (vp, .inr (4, [.int 7, .int 3, .ref vpc, .int (nI n)])), (vpc, .inl (G.2.1, 21, .inl pf)), (vc, .inl (G.2.1, 7, .inl (stk ck (decide (wide ≤ rch ck wd pf k hr (pf (k * 3 + 1)) (ck 1)))))), (vw, .inl (G.2.1, 6, .inl wd))]) (w2 := fun (u_ : Unit) => [(to, .inr (8, [.ref v, .ref iv, .ref jv, .int k1, .int k2, .ref rd, .ref st, .ref ra, .ref og, .int ab, .int be, .int bds, .int nos, .int fls])), (v, .inr (7, [.int wide, .ref vw, .ref vc, .ref vp, .ref vs, .ref vn, .ref vm, .ref vu])), (vp, .inr (4, [.int 7, .int 3, .ref vpc, .int (nI n)])), (vpc, .inl (G.2.1, 21, .inl pf)), (vc, .inl (G.2.1, 7, .inl (stk ck (decide (wide ≤ rch ck wd pf k hr (pf (k * 3 + 1)) (ck 1)))))), (vw, .inl (G.2.1, 6, .inl wd)), (vu, .inr (1, [.ref vuc, .int (nI (pun u))])), (vuc, .inl (G.2.1, 56, .inl (pu u uf ck)))]) C hW [1, 2, 3, 4, 5] [0, 6, 7] [0, 3, 4, 5, 6, 7, 1, 2] rfl rfl (by decide) (by decide) (by decide) (fun _ => rfl) (g_runV (As := [.int (nI k)]) (rest := []) (wc := [(v, .inr (7, [.int wide, .ref vw, .ref vc, .ref vp, .ref vs, .ref vn, .ref vm, .ref vu])), (vp, .inr (4, [.int 7, .int 3, .ref vpc, .int (nI n)])), (vpc, .inl (G.2.1, 21, .inl pf)), (vc, .inl (G.2.1, 7, .inl ck)), (vw, .inl (G.2.1, 6, .inl wd))]) (q0 := 0) (ci := 7) C hW hl (c_X9_strike l G v vw vc vp vs vn vm vu wide vpc n pf ck wd k hr (by first | assumption | omega) (by first | assumption | omega) (by assumption) (by omega) (by assumption) (by assumption) (by assumption) _) k_ml_X10_173 q_X9_strike (by decide) [1, 2, 3, 4, 5] rfl rfl rfl rfl rfl rfl (Nat.le_of_ble_eq_true rfl) dX10_hits_49 (by decide)) (fun r_779 _ er_779 => ?_)
      clear hW H locs; intro H locs hW
      refine lv_as (y := bI (decide (wide ≤ rch ck wd pf k hr (pf (k * 3 + 1)) (ck 1)))) er_779 ?_
      clear er_779 r_779
      replace hW : Wd G A_ s_.heap [(to, .inr (8, [.ref v, .ref iv, .ref jv, .int k1, .int k2, .ref rd, .ref st, .ref ra, .ref og, .int ab, .int be, .int bds, .int nos, .int fls])), (v, .inr (7, [.int wide, .ref vw, .ref vc, .ref vp, .ref vs, .ref vn, .ref vm, .ref vu])), (vp, .inr (4, [.int 7, .int 3, .ref vpc, .int (nI n)])), (vpc, .inl (G.2.1, 21, .inl pf)), (vc, .inl (G.2.1, 7, .inl (stk ck (decide (wide ≤ rch ck wd pf k hr (pf (k * 3 + 1)) (ck 1)))))), (vw, .inl (G.2.1, 6, .inl wd)), (vu, .inr (1, [.ref vuc, .int (nI (pun u))])), (vuc, .inl (G.2.1, 56, .inl (pu u uf ck)))] H locs := hW
      subst hQ
      exact g_iret (v := (bI (decide (wide ≤ rch ck wd pf k hr (pf (k * 3 + 1)) (ck 1))))) C hW hrt ⟨(), by rfl, by rfl⟩ dX10_hits_52
    · exfalso; exact dd (by first | assumption | exact okp_nI (by omega) (by assumption) | exact decide_eq_true (by first | assumption | omega)) c_776
  · exfalso; exact dd (by first | assumption | exact okp_nI (by omega) (by assumption) | exact decide_eq_true (by first | assumption | omega)) c_774
set_option maxHeartbeats 4000000 in
set_option maxRecDepth 100000 in
theorem c_X10_hits_no (l : Launch) (G : gT) (v vw vc vp vs vn vm vu : Nat) (wide : Int32) (to iv jv rd st ra og : Nat) (k1 k2 ab be bds nos fls : Int32) (vpc n : Nat) (pf : Nat → Int32) (ck : Nat → Int32) (k : Nat) (hk : k < n) (hn : n ≤ 7) (hcs : (decide (ck 3 = 1) && (onb n pf (nI k) (ck 2) && decide (ck 6 < 9999))) = false) : MI l G yX10_hits cX10_hits 2 .int ({ frames := 3, cells := 0, slots := 0, locals := 65 }) [.ref to, .int (nI k)] [(to, .inr (8, [.ref v, .ref iv, .ref jv, .int k1, .int k2, .ref rd, .ref st, .ref ra, .ref og, .int ab, .int be, .int bds, .int nos, .int fls])), (v, .inr (7, [.int wide, .ref vw, .ref vc, .ref vp, .ref vs, .ref vn, .ref vm, .ref vu])), (vp, .inr (4, [.int 7, .int 3, .ref vpc, .int (nI n)])), (vpc, .inl (G.2.1, 21, .inl pf)), (vc, .inl (G.2.1, 7, .inl ck))] (fun (r : Int32) w1 => ∃ u_ : Unit, (r = (-3)) ∧ w1 = [(to, .inr (8, [.ref v, .ref iv, .ref jv, .int k1, .int k2, .ref rd, .ref st, .ref ra, .ref og, .int ab, .int be, .int bds, .int (nos + 1), .int fls])), (v, .inr (7, [.int wide, .ref vw, .ref vc, .ref vp, .ref vs, .ref vn, .ref vm, .ref vu])), (vp, .inr (4, [.int 7, .int 3, .ref vpc, .int (nI n)])), (vpc, .inl (G.2.1, 21, .inl pf)), (vc, .inl (G.2.1, 7, .inl ck))]) := by
  refine MI.mk (by decide) (Nat.le_of_ble_eq_true rfl) ?_
  intro p_ e_ s_ m_ ar_ be_ me_ cd_ A_ ls C hrt hW hl
  have hx := C.1; have hb := C.2.1; have hown := C.2.2.2.1; have ht := C.2.2.2.2.1
  replace hl : lv_has ls 2 [(0, .ref to), (1, .int (nI k))] := hl
  generalize hQ : MQ be_ _ ar_ s_ 0 0 A_ = Q
  refine lv_aload_n hx hb dX10_hits_0 rfl (lv_at hl 0 rfl) ?_
  refine g_get (k := 0) (v := .ref v) C hW 0 rfl rfl jnX10 (by decide) k_fl_X10_10 rfl dX10_hits_1 ?_
  refine g_getN (k := 3) (v := .ref vp) (host := RX10) C hW 1 rfl rfl jnX9 (by decide) (List.mem_of_getElem? (i := 5) rfl) rfl dX10_hits_4 ?_
  refine lv_iload_n hx hb dX10_hits_7 rfl (lv_at hl 1 rfl) ?_
  refine g_fi C hW [2] rfl (g_runV (As := [.int (nI k)]) (rest := []) (wc := [(vp, .inr (4, [.int 7, .int 3, .ref vpc, .int (nI n)]))]) (q0 := 0) (ci := 4) C hW hl (c_X6_has l G vp vpc 7 3 n (nI k)  _) k_ml_X10_161 q_X6_has (by decide) [2] rfl rfl rfl rfl rfl rfl (Nat.le_of_ble_eq_true rfl) dX10_hits_8 (by decide)) (fun r_781 er_781 => ?_)
  clear hW; intro H locs hW
  refine lv_as (y := bI (okp n (nI k))) er_781 ?_
  clear er_781 r_781
  refine lv_if_ne (tgt := 21) hx hb dX10_hits_11 (by decide) (fun c_782 => ?_) (fun c_782 => ?_)
  · refine lv_aload_n hx hb dX10_hits_21 rfl (lv_at hl 0 rfl) ?_
    refine g_get (k := 0) (v := .ref v) C hW 0 rfl rfl jnX10 (by decide) k_fl_X10_10 rfl dX10_hits_22 ?_
    refine lv_iload_n hx hb dX10_hits_25 rfl (lv_at hl 1 rfl) ?_
    refine g_fi C hW [1, 2, 3, 4] rfl (g_runV (As := [.int (nI k)]) (rest := []) (wc := [(v, .inr (7, [.int wide, .ref vw, .ref vc, .ref vp, .ref vs, .ref vn, .ref vm, .ref vu])), (vp, .inr (4, [.int 7, .int 3, .ref vpc, .int (nI n)])), (vpc, .inl (G.2.1, 21, .inl pf)), (vc, .inl (G.2.1, 7, .inl ck))]) (q0 := 0) (ci := 7) C hW hl (c_X9_canStrike l G v vw vc vp vs vn vm vu wide vpc n pf ck (nI k) (by first | assumption | omega) _) k_ml_X10_164 q_X9_canStrike (by decide) [1, 2, 3, 4] rfl rfl rfl rfl rfl rfl (Nat.le_of_ble_eq_true rfl) dX10_hits_26 (by decide)) (fun r_783 er_783 => ?_)
    clear hW H locs; intro H locs hW
    refine lv_as (y := bI (decide (ck 3 = 1) && (onb n pf (nI k) (ck 2) && decide (ck 6 < 9999)))) er_783 ?_
    clear er_783 r_783
    refine lv_if_ne (tgt := 37) hx hb dX10_hits_29 (by decide) (fun c_784 => ?_) (fun c_784 => ?_)
    · exfalso; exact dd0 (by first | assumption | exact decide_eq_false (by first | assumption | omega)) c_784
    · refine lv_aload_n hx hb dX10_hits_32 rfl (lv_at hl 0 rfl) ?_
      refine g_fiw (wr := [(v, .inr (7, [.int wide, .ref vw, .ref vc, .ref vp, .ref vs, .ref vn, .ref vm, .ref vu])), (vp, .inr (4, [.int 7, .int 3, .ref vpc, .int (nI n)])), (vpc, .inl (G.2.1, 21, .inl pf)), (vc, .inl (G.2.1, 7, .inl ck))]) (ww := fun (u_ : Unit) => [(to, .inr (8, [.ref v, .ref iv, .ref jv, .int k1, .int k2, .ref rd, .ref st, .ref ra, .ref og, .int ab, .int be, .int bds, .int (nos + 1), .int fls]))]) (w2 := fun (u_ : Unit) => [(to, .inr (8, [.ref v, .ref iv, .ref jv, .int k1, .int k2, .ref rd, .ref st, .ref ra, .ref og, .int ab, .int be, .int bds, .int (nos + 1), .int fls])), (v, .inr (7, [.int wide, .ref vw, .ref vc, .ref vp, .ref vs, .ref vn, .ref vm, .ref vu])), (vp, .inr (4, [.int 7, .int 3, .ref vpc, .int (nI n)])), (vpc, .inl (G.2.1, 21, .inl pf)), (vc, .inl (G.2.1, 7, .inl ck))]) C hW [0] [1, 2, 3, 4] [4, 0, 1, 2, 3] rfl rfl (by decide) (by decide) (by decide) (fun _ => rfl) (g_runV (As := []) (rest := []) (wc := [(to, .inr (8, [.ref v, .ref iv, .ref jv, .int k1, .int k2, .ref rd, .ref st, .ref ra, .ref og, .int ab, .int be, .int bds, .int nos, .int fls]))]) (q0 := 0) (ci := 8) C hW hl (c_X10_refuseNo l G v to iv jv rd st ra og k1 k2 ab be bds nos fls  _) k_ml_X10_167 q_X10_refuseNo (by decide) [0] rfl rfl rfl rfl rfl rfl (Nat.le_of_ble_eq_true rfl) dX10_hits_33 (by decide)) (fun r_785 _ er_785 => ?_)
      clear hW H locs; intro H locs hW
      refine lv_as (y := (-3)) er_785 ?_
      clear er_785 r_785
      replace hW : Wd G A_ s_.heap [(to, .inr (8, [.ref v, .ref iv, .ref jv, .int k1, .int k2, .ref rd, .ref st, .ref ra, .ref og, .int ab, .int be, .int bds, .int (nos + 1), .int fls])), (v, .inr (7, [.int wide, .ref vw, .ref vc, .ref vp, .ref vs, .ref vn, .ref vm, .ref vu])), (vp, .inr (4, [.int 7, .int 3, .ref vpc, .int (nI n)])), (vpc, .inl (G.2.1, 21, .inl pf)), (vc, .inl (G.2.1, 7, .inl ck))] H locs := hW
      subst hQ
      exact g_iret (v := (-3)) C hW hrt ⟨(), by rfl, by rfl⟩ dX10_hits_36
  · exfalso; exact dd (by first | assumption | exact okp_nI (by omega) (by assumption) | exact decide_eq_true (by first | assumption | omega)) c_782
set_option maxHeartbeats 4000000 in
set_option maxRecDepth 100000 in
theorem c_X10_hits_bad (l : Launch) (G : gT) (v vw vc vp vs vn vm vu : Nat) (wide : Int32) (to iv jv rd st ra og : Nat) (k1 k2 ab be bds nos fls : Int32) (vpc n : Nat) (p9 : Int32) (hbad : okp n p9 = false) : MI l G yX10_hits cX10_hits 2 .int ({ frames := 1, cells := 0, slots := 0, locals := 21 }) [.ref to, .int p9] [(to, .inr (8, [.ref v, .ref iv, .ref jv, .int k1, .int k2, .ref rd, .ref st, .ref ra, .ref og, .int ab, .int be, .int bds, .int nos, .int fls])), (v, .inr (7, [.int wide, .ref vw, .ref vc, .ref vp, .ref vs, .ref vn, .ref vm, .ref vu])), (vp, .inr (4, [.int 7, .int 3, .ref vpc, .int (nI n)]))] (fun (r : Int32) w1 => ∃ u_ : Unit, (r = (-2)) ∧ w1 = [(to, .inr (8, [.ref v, .ref iv, .ref jv, .int k1, .int k2, .ref rd, .ref st, .ref ra, .ref og, .int ab, .int be, .int (bds + 1), .int nos, .int fls])), (v, .inr (7, [.int wide, .ref vw, .ref vc, .ref vp, .ref vs, .ref vn, .ref vm, .ref vu])), (vp, .inr (4, [.int 7, .int 3, .ref vpc, .int (nI n)]))]) := by
  refine MI.mk (by decide) (Nat.le_of_ble_eq_true rfl) ?_
  intro p_ e_ s_ m_ ar_ be_ me_ cd_ A_ ls C hrt hW hl
  have hx := C.1; have hb := C.2.1; have hown := C.2.2.2.1; have ht := C.2.2.2.2.1
  replace hl : lv_has ls 2 [(0, .ref to), (1, .int p9)] := hl
  generalize hQ : MQ be_ _ ar_ s_ 0 0 A_ = Q
  refine lv_aload_n hx hb dX10_hits_0 rfl (lv_at hl 0 rfl) ?_
  refine g_get (k := 0) (v := .ref v) C hW 0 rfl rfl jnX10 (by decide) k_fl_X10_10 rfl dX10_hits_1 ?_
  refine g_getN (k := 3) (v := .ref vp) (host := RX10) C hW 1 rfl rfl jnX9 (by decide) (List.mem_of_getElem? (i := 5) rfl) rfl dX10_hits_4 ?_
  refine lv_iload_n hx hb dX10_hits_7 rfl (lv_at hl 1 rfl) ?_
  refine g_fi C hW [2] rfl (g_runV (As := [.int p9]) (rest := []) (wc := [(vp, .inr (4, [.int 7, .int 3, .ref vpc, .int (nI n)]))]) (q0 := 0) (ci := 4) C hW hl (c_X6_has l G vp vpc 7 3 n p9  _) k_ml_X10_161 q_X6_has (by decide) [2] rfl rfl rfl rfl rfl rfl (Nat.le_of_ble_eq_true rfl) dX10_hits_8 (by decide)) (fun r_787 er_787 => ?_)
  clear hW; intro H locs hW
  refine lv_as (y := bI (okp n p9)) er_787 ?_
  clear er_787 r_787
  refine lv_if_ne (tgt := 21) hx hb dX10_hits_11 (by decide) (fun c_788 => ?_) (fun c_788 => ?_)
  · exfalso; simp [bI_ne.mp c_788, if_true, if_false, reduceIte, Bool.false_eq_true] at hbad
  · refine lv_aload_n hx hb dX10_hits_14 rfl (lv_at hl 0 rfl) ?_
    refine lv_bipush (v := (-2)) hx hb dX10_hits_15 (by decide) ?_
    refine g_fiw (wr := [(v, .inr (7, [.int wide, .ref vw, .ref vc, .ref vp, .ref vs, .ref vn, .ref vm, .ref vu])), (vp, .inr (4, [.int 7, .int 3, .ref vpc, .int (nI n)]))]) (ww := fun (u_ : Unit) => [(to, .inr (8, [.ref v, .ref iv, .ref jv, .int k1, .int k2, .ref rd, .ref st, .ref ra, .ref og, .int ab, .int be, .int (bds + 1), .int nos, .int fls]))]) (w2 := fun (u_ : Unit) => [(to, .inr (8, [.ref v, .ref iv, .ref jv, .int k1, .int k2, .ref rd, .ref st, .ref ra, .ref og, .int ab, .int be, .int (bds + 1), .int nos, .int fls])), (v, .inr (7, [.int wide, .ref vw, .ref vc, .ref vp, .ref vs, .ref vn, .ref vm, .ref vu])), (vp, .inr (4, [.int 7, .int 3, .ref vpc, .int (nI n)]))]) C hW [0] [1, 2] [2, 0, 1] rfl rfl (by decide) (by decide) (by decide) (fun _ => rfl) (g_runV (As := [.int (-2)]) (rest := []) (wc := [(to, .inr (8, [.ref v, .ref iv, .ref jv, .int k1, .int k2, .ref rd, .ref st, .ref ra, .ref og, .int ab, .int be, .int bds, .int nos, .int fls]))]) (q0 := 0) (ci := 8) C hW hl (c_X10_refuseBad l G v to iv jv rd st ra og k1 k2 ab be bds nos fls (-2)  _) k_ml_X10_77 q_X10_refuseBad (by decide) [0] rfl rfl rfl rfl rfl rfl (Nat.le_of_ble_eq_true rfl) dX10_hits_17 (by decide)) (fun r_789 _ er_789 => ?_)
    clear hW H locs; intro H locs hW
    refine lv_as (y := (-2)) er_789 ?_
    clear er_789 r_789
    replace hW : Wd G A_ s_.heap [(to, .inr (8, [.ref v, .ref iv, .ref jv, .int k1, .int k2, .ref rd, .ref st, .ref ra, .ref og, .int ab, .int be, .int (bds + 1), .int nos, .int fls])), (v, .inr (7, [.int wide, .ref vw, .ref vc, .ref vp, .ref vs, .ref vn, .ref vm, .ref vu])), (vp, .inr (4, [.int 7, .int 3, .ref vpc, .int (nI n)]))] H locs := hW
    subst hQ
    exact g_iret (v := (-2)) C hW hrt ⟨(), by rfl, by rfl⟩ dX10_hits_20
set_option maxHeartbeats 4000000 in
set_option maxRecDepth 100000 in
theorem c_X10_picks_ok (l : Launch) (G : gT) (v vw vc vp vs vn vm vu : Nat) (wide : Int32) (to iv jv rd st ra og : Nat) (k1 k2 ab be bds nos fls : Int32) (ck : Nat → Int32) (vuc u : Nat) (uf : Nat → Int32) (h9 : Int32) (h1 : iw h9 0 1 = true) (hup : ¬ ck 3 = 1) (hu : u ≤ 8) : MI l G yX10_picks cX10_picks 2 .int ({ frames := 3, cells := 0, slots := 0, locals := 81 }) [.ref to, .int h9] [(to, .inr (8, [.ref v, .ref iv, .ref jv, .int k1, .int k2, .ref rd, .ref st, .ref ra, .ref og, .int ab, .int be, .int bds, .int nos, .int fls])), (v, .inr (7, [.int wide, .ref vw, .ref vc, .ref vp, .ref vs, .ref vn, .ref vm, .ref vu])), (vc, .inl (G.2.1, 7, .inl ck)), (vu, .inr (1, [.ref vuc, .int (nI u)])), (vuc, .inl (G.2.1, 56, .inl uf))] (fun (r : Int32) w1 => ∃ u_ : Unit, (r = ck 5) ∧ w1 = [(to, .inr (8, [.ref v, .ref iv, .ref jv, .int k1, .int k2, .ref rd, .ref st, .ref ra, .ref og, .int ab, .int be, .int bds, .int nos, .int fls])), (v, .inr (7, [.int wide, .ref vw, .ref vc, .ref vp, .ref vs, .ref vn, .ref vm, .ref vu])), (vc, .inl (G.2.1, 7, .inl (upd (upd ck 2 h9) 3 1))), (vu, .inr (1, [.ref vuc, .int (nI (pun u))])), (vuc, .inl (G.2.1, 56, .inl (pu u uf ck)))]) := by
  refine MI.mk (by decide) (Nat.le_of_ble_eq_true rfl) ?_
  intro p_ e_ s_ m_ ar_ be_ me_ cd_ A_ ls C hrt hW hl
  have hx := C.1; have hb := C.2.1; have hown := C.2.2.2.1; have ht := C.2.2.2.2.1
  replace hl : lv_has ls 2 [(0, .ref to), (1, .int h9)] := hl
  generalize hQ : MQ be_ _ ar_ s_ 0 0 A_ = Q
  refine lv_iload_n hx hb dX10_picks_0 rfl (lv_at hl 1 rfl) ?_
  refine g_fi C hW [] rfl (g_runS (As := [.int h9]) (rest := []) (wc := []) C hW hl (c_X10_isHill l G h9  _) k_ml_X10_112 q_X10_isHill (by decide) [] rfl rfl rfl rfl (Nat.le_of_ble_eq_true rfl) dX10_picks_1 (by decide)) (fun r_791 er_791 => ?_)
  clear hW; intro H locs hW
  refine lv_as (y := bI (iw h9 0 1)) er_791 ?_
  clear er_791 r_791
  refine lv_if_ne (tgt := 14) hx hb dX10_picks_4 (by decide) (fun c_792 => ?_) (fun c_792 => ?_)
  · refine lv_aload_n hx hb dX10_picks_14 rfl (lv_at hl 0 rfl) ?_
    refine g_get (k := 0) (v := .ref v) C hW 0 rfl rfl jnX10 (by decide) k_fl_X10_10 rfl dX10_picks_15 ?_
    refine g_fi C hW [1, 2] rfl (g_runV (As := []) (rest := []) (wc := [(v, .inr (7, [.int wide, .ref vw, .ref vc, .ref vp, .ref vs, .ref vn, .ref vm, .ref vu])), (vc, .inl (G.2.1, 7, .inl ck))]) (q0 := 0) (ci := 7) C hW hl (c_X9_isUp l G v vw vc vp vs vn vm vu wide ck  _) k_ml_X10_176 q_X9_isUp (by decide) [1, 2] rfl rfl rfl rfl rfl rfl (Nat.le_of_ble_eq_true rfl) dX10_picks_18 (by decide)) (fun r_793 er_793 => ?_)
    clear hW H locs; intro H locs hW
    refine lv_as (y := bI (decide (ck 3 = 1))) er_793 ?_
    clear er_793 r_793
    refine lv_if_eq (tgt := 29) hx hb dX10_picks_21 (by decide) (fun c_794 => ?_) (fun c_794 => ?_)
    · refine lv_aload_n hx hb dX10_picks_29 rfl (lv_at hl 0 rfl) ?_
      refine g_get (k := 0) (v := .ref v) C hW 0 rfl rfl jnX10 (by decide) k_fl_X10_10 rfl dX10_picks_30 ?_
      refine g_fvw (wr := [(to, .inr (8, [.ref v, .ref iv, .ref jv, .int k1, .int k2, .ref rd, .ref st, .ref ra, .ref og, .int ab, .int be, .int bds, .int nos, .int fls]))]) (ww := fun (u_ : Unit) => [(v, .inr (7, [.int wide, .ref vw, .ref vc, .ref vp, .ref vs, .ref vn, .ref vm, .ref vu])), (vc, .inl (G.2.1, 7, .inl ck)), (vu, .inr (1, [.ref vuc, .int (nI (pun u))])), (vuc, .inl (G.2.1, 56, .inl (pu u uf ck)))]) (w2 := fun (u_ : Unit) => [(to, .inr (8, [.ref v, .ref iv, .ref jv, .int k1, .int k2, .ref rd, .ref st, .ref ra, .ref og, .int ab, .int be, .int bds, .int nos, .int fls])), (v, .inr (7, [.int wide, .ref vw, .ref vc, .ref vp, .ref vs, .ref vn, .ref vm, .ref vu])), (vc, .inl (G.2.1, 7, .inl ck)), (vu, .inr (1, [.ref vuc, .int (nI (pun u))])), (vuc, .inl (G.2.1, 56, .inl (pu u uf ck)))]) C hW [1, 2, 3, 4] [0] [0, 1, 2, 3, 4] rfl rfl (by decide) (by decide) (by decide) (fun _ => rfl) (g_runV (As := []) (rest := []) (wc := [(v, .inr (7, [.int wide, .ref vw, .ref vc, .ref vp, .ref vs, .ref vn, .ref vm, .ref vu])), (vc, .inl (G.2.1, 7, .inl ck)), (vu, .inr (1, [.ref vuc, .int (nI u)])), (vuc, .inl (G.2.1, 56, .inl uf))]) (q0 := 0) (ci := 7) C hW hl (c_X9_remember l G v vw vc vp vs vn vm vu wide ck vuc u uf (by first | assumption | omega) _) k_ml_X10_170 q_X9_remember (by decide) [1, 2, 3, 4] rfl rfl rfl rfl rfl rfl (Nat.le_of_ble_eq_true rfl) dX10_picks_33 (by decide)) (fun _ er_795 => ?_)
      clear hW H locs; intro H locs hW
      replace hW : Wd G A_ s_.heap [(to, .inr (8, [.ref v, .ref iv, .ref jv, .int k1, .int k2, .ref rd, .ref st, .ref ra, .ref og, .int ab, .int be, .int bds, .int nos, .int fls])), (v, .inr (7, [.int wide, .ref vw, .ref vc, .ref vp, .ref vs, .ref vn, .ref vm, .ref vu])), (vc, .inl (G.2.1, 7, .inl ck)), (vu, .inr (1, [.ref vuc, .int (nI (pun u))])), (vuc, .inl (G.2.1, 56, .inl (pu u uf ck)))] H locs := hW
      refine lv_aload_n hx hb dX10_picks_36 rfl (lv_at hl 0 rfl) ?_
      refine g_get (k := 0) (v := .ref v) C hW 0 rfl rfl jnX10 (by decide) k_fl_X10_10 rfl dX10_picks_37 ?_
      refine lv_iload_n hx hb dX10_picks_40 rfl (lv_at hl 1 rfl) ?_
      refine g_fvw (wr := [(to, .inr (8, [.ref v, .ref iv, .ref jv, .int k1, .int k2, .ref rd, .ref st, .ref ra, .ref og, .int ab, .int be, .int bds, .int nos, .int fls])), (vu, .inr (1, [.ref vuc, .int (nI (pun u))])), (vuc, .inl (G.2.1, 56, .inl (pu u uf ck)))]) (ww := fun (u_ : Unit) => [(v, .inr (7, [.int wide, .ref vw, .ref vc, .ref vp, .ref vs, .ref vn, .ref vm, .ref vu])), (vc, .inl (G.2.1, 7, .inl (upd (upd ck 2 h9) 3 1)))]) (w2 := fun (u_ : Unit) => [(to, .inr (8, [.ref v, .ref iv, .ref jv, .int k1, .int k2, .ref rd, .ref st, .ref ra, .ref og, .int ab, .int be, .int bds, .int nos, .int fls])), (v, .inr (7, [.int wide, .ref vw, .ref vc, .ref vp, .ref vs, .ref vn, .ref vm, .ref vu])), (vc, .inl (G.2.1, 7, .inl (upd (upd ck 2 h9) 3 1))), (vu, .inr (1, [.ref vuc, .int (nI (pun u))])), (vuc, .inl (G.2.1, 56, .inl (pu u uf ck)))]) C hW [1, 2] [0, 3, 4] [0, 3, 4, 1, 2] rfl rfl (by decide) (by decide) (by decide) (fun _ => rfl) (g_runV (As := [.int h9]) (rest := []) (wc := [(v, .inr (7, [.int wide, .ref vw, .ref vc, .ref vp, .ref vs, .ref vn, .ref vm, .ref vu])), (vc, .inl (G.2.1, 7, .inl ck))]) (q0 := 0) (ci := 7) C hW hl (c_X9_pickUp l G v vw vc vp vs vn vm vu wide ck h9  _) k_ml_X10_179 q_X9_pickUp (by decide) [1, 2] rfl rfl rfl rfl rfl rfl (Nat.le_of_ble_eq_true rfl) dX10_picks_41 (by decide)) (fun _ er_797 => ?_)
      clear hW H locs; intro H locs hW
      replace hW : Wd G A_ s_.heap [(to, .inr (8, [.ref v, .ref iv, .ref jv, .int k1, .int k2, .ref rd, .ref st, .ref ra, .ref og, .int ab, .int be, .int bds, .int nos, .int fls])), (v, .inr (7, [.int wide, .ref vw, .ref vc, .ref vp, .ref vs, .ref vn, .ref vm, .ref vu])), (vc, .inl (G.2.1, 7, .inl (upd (upd ck 2 h9) 3 1))), (vu, .inr (1, [.ref vuc, .int (nI (pun u))])), (vuc, .inl (G.2.1, 56, .inl (pu u uf ck)))] H locs := hW
      refine lv_aload_n hx hb dX10_picks_44 rfl (lv_at hl 0 rfl) ?_
      refine g_get (k := 0) (v := .ref v) C hW 0 rfl rfl jnX10 (by decide) k_fl_X10_10 rfl dX10_picks_45 ?_
      refine g_getN (k := 2) (v := .ref vc) (host := RX10) C hW 1 rfl rfl jnX9 (by decide) (List.mem_of_getElem? (i := 4) rfl) rfl dX10_picks_48 ?_
      refine lv_iconst (v := 5) hx hb dX10_picks_51 (by decide) ?_
      refine g_ald C hW 2 rfl (vp_in_nI (n := 5) (by omega) (by omega)) dX10_picks_52 ?_
      refine lv_as (y := (upd (upd ck 2 h9) 3 1) 5) (rfl) ?_
      subst hQ
      exact g_iret (v := ((upd (upd ck 2 h9) 3 1) 5)) C hW hrt ⟨(), by (rw [pk_un (by decide), pk_un (by decide)]), by rfl⟩ dX10_picks_53
    · exfalso; exact dd0 (by first | assumption | exact decide_eq_false (by first | assumption | omega)) c_794
  · exfalso; exact dd (by first | assumption | exact okp_nI (by omega) (by assumption) | exact decide_eq_true (by first | assumption | omega)) c_792
set_option maxHeartbeats 4000000 in
set_option maxRecDepth 100000 in
theorem c_X10_picks_no (l : Launch) (G : gT) (v vw vc vp vs vn vm vu : Nat) (wide : Int32) (to iv jv rd st ra og : Nat) (k1 k2 ab be bds nos fls : Int32) (ck : Nat → Int32) (h9 : Int32) (h1 : iw h9 0 1 = true) (hup : ck 3 = 1) : MI l G yX10_picks cX10_picks 2 .int ({ frames := 2, cells := 0, slots := 0, locals := 42 }) [.ref to, .int h9] [(to, .inr (8, [.ref v, .ref iv, .ref jv, .int k1, .int k2, .ref rd, .ref st, .ref ra, .ref og, .int ab, .int be, .int bds, .int nos, .int fls])), (v, .inr (7, [.int wide, .ref vw, .ref vc, .ref vp, .ref vs, .ref vn, .ref vm, .ref vu])), (vc, .inl (G.2.1, 7, .inl ck))] (fun (r : Int32) w1 => ∃ u_ : Unit, (r = (-3)) ∧ w1 = [(to, .inr (8, [.ref v, .ref iv, .ref jv, .int k1, .int k2, .ref rd, .ref st, .ref ra, .ref og, .int ab, .int be, .int bds, .int (nos + 1), .int fls])), (v, .inr (7, [.int wide, .ref vw, .ref vc, .ref vp, .ref vs, .ref vn, .ref vm, .ref vu])), (vc, .inl (G.2.1, 7, .inl ck))]) := by
  refine MI.mk (by decide) (Nat.le_of_ble_eq_true rfl) ?_
  intro p_ e_ s_ m_ ar_ be_ me_ cd_ A_ ls C hrt hW hl
  have hx := C.1; have hb := C.2.1; have hown := C.2.2.2.1; have ht := C.2.2.2.2.1
  replace hl : lv_has ls 2 [(0, .ref to), (1, .int h9)] := hl
  generalize hQ : MQ be_ _ ar_ s_ 0 0 A_ = Q
  refine lv_iload_n hx hb dX10_picks_0 rfl (lv_at hl 1 rfl) ?_
  refine g_fi C hW [] rfl (g_runS (As := [.int h9]) (rest := []) (wc := []) C hW hl (c_X10_isHill l G h9  _) k_ml_X10_112 q_X10_isHill (by decide) [] rfl rfl rfl rfl (Nat.le_of_ble_eq_true rfl) dX10_picks_1 (by decide)) (fun r_799 er_799 => ?_)
  clear hW; intro H locs hW
  refine lv_as (y := bI (iw h9 0 1)) er_799 ?_
  clear er_799 r_799
  refine lv_if_ne (tgt := 14) hx hb dX10_picks_4 (by decide) (fun c_800 => ?_) (fun c_800 => ?_)
  · refine lv_aload_n hx hb dX10_picks_14 rfl (lv_at hl 0 rfl) ?_
    refine g_get (k := 0) (v := .ref v) C hW 0 rfl rfl jnX10 (by decide) k_fl_X10_10 rfl dX10_picks_15 ?_
    refine g_fi C hW [1, 2] rfl (g_runV (As := []) (rest := []) (wc := [(v, .inr (7, [.int wide, .ref vw, .ref vc, .ref vp, .ref vs, .ref vn, .ref vm, .ref vu])), (vc, .inl (G.2.1, 7, .inl ck))]) (q0 := 0) (ci := 7) C hW hl (c_X9_isUp l G v vw vc vp vs vn vm vu wide ck  _) k_ml_X10_176 q_X9_isUp (by decide) [1, 2] rfl rfl rfl rfl rfl rfl (Nat.le_of_ble_eq_true rfl) dX10_picks_18 (by decide)) (fun r_801 er_801 => ?_)
    clear hW H locs; intro H locs hW
    refine lv_as (y := bI (decide (ck 3 = 1))) er_801 ?_
    clear er_801 r_801
    refine lv_if_eq (tgt := 29) hx hb dX10_picks_21 (by decide) (fun c_802 => ?_) (fun c_802 => ?_)
    · exfalso; exact dd (by first | assumption | exact okp_nI (by omega) (by assumption) | exact decide_eq_true (by first | assumption | omega)) c_802
    · refine lv_aload_n hx hb dX10_picks_24 rfl (lv_at hl 0 rfl) ?_
      refine g_fiw (wr := [(v, .inr (7, [.int wide, .ref vw, .ref vc, .ref vp, .ref vs, .ref vn, .ref vm, .ref vu])), (vc, .inl (G.2.1, 7, .inl ck))]) (ww := fun (u_ : Unit) => [(to, .inr (8, [.ref v, .ref iv, .ref jv, .int k1, .int k2, .ref rd, .ref st, .ref ra, .ref og, .int ab, .int be, .int bds, .int (nos + 1), .int fls]))]) (w2 := fun (u_ : Unit) => [(to, .inr (8, [.ref v, .ref iv, .ref jv, .int k1, .int k2, .ref rd, .ref st, .ref ra, .ref og, .int ab, .int be, .int bds, .int (nos + 1), .int fls])), (v, .inr (7, [.int wide, .ref vw, .ref vc, .ref vp, .ref vs, .ref vn, .ref vm, .ref vu])), (vc, .inl (G.2.1, 7, .inl ck))]) C hW [0] [1, 2] [2, 0, 1] rfl rfl (by decide) (by decide) (by decide) (fun _ => rfl) (g_runV (As := []) (rest := []) (wc := [(to, .inr (8, [.ref v, .ref iv, .ref jv, .int k1, .int k2, .ref rd, .ref st, .ref ra, .ref og, .int ab, .int be, .int bds, .int nos, .int fls]))]) (q0 := 0) (ci := 8) C hW hl (c_X10_refuseNo l G v to iv jv rd st ra og k1 k2 ab be bds nos fls  _) k_ml_X10_167 q_X10_refuseNo (by decide) [0] rfl rfl rfl rfl rfl rfl (Nat.le_of_ble_eq_true rfl) dX10_picks_25 (by decide)) (fun r_803 _ er_803 => ?_)
      clear hW H locs; intro H locs hW
      refine lv_as (y := (-3)) er_803 ?_
      clear er_803 r_803
      replace hW : Wd G A_ s_.heap [(to, .inr (8, [.ref v, .ref iv, .ref jv, .int k1, .int k2, .ref rd, .ref st, .ref ra, .ref og, .int ab, .int be, .int bds, .int (nos + 1), .int fls])), (v, .inr (7, [.int wide, .ref vw, .ref vc, .ref vp, .ref vs, .ref vn, .ref vm, .ref vu])), (vc, .inl (G.2.1, 7, .inl ck))] H locs := hW
      subst hQ
      exact g_iret (v := (-3)) C hW hrt ⟨(), by rfl, by rfl⟩ dX10_picks_28
  · exfalso; exact dd (by first | assumption | exact okp_nI (by omega) (by assumption) | exact decide_eq_true (by first | assumption | omega)) c_800
set_option maxHeartbeats 4000000 in
set_option maxRecDepth 100000 in
theorem c_X10_picks_bad (l : Launch) (G : gT) (v : Nat) (to iv jv rd st ra og : Nat) (k1 k2 ab be bds nos fls : Int32) (h9 : Int32) (hbad : iw h9 0 1 = false) : MI l G yX10_picks cX10_picks 2 .int ({ frames := 2, cells := 0, slots := 0, locals := 42 }) [.ref to, .int h9] [(to, .inr (8, [.ref v, .ref iv, .ref jv, .int k1, .int k2, .ref rd, .ref st, .ref ra, .ref og, .int ab, .int be, .int bds, .int nos, .int fls]))] (fun (r : Int32) w1 => ∃ u_ : Unit, (r = (-2)) ∧ w1 = [(to, .inr (8, [.ref v, .ref iv, .ref jv, .int k1, .int k2, .ref rd, .ref st, .ref ra, .ref og, .int ab, .int be, .int (bds + 1), .int nos, .int fls]))]) := by
  refine MI.mk (by decide) (Nat.le_of_ble_eq_true rfl) ?_
  intro p_ e_ s_ m_ ar_ be_ me_ cd_ A_ ls C hrt hW hl
  have hx := C.1; have hb := C.2.1; have hown := C.2.2.2.1; have ht := C.2.2.2.2.1
  replace hl : lv_has ls 2 [(0, .ref to), (1, .int h9)] := hl
  generalize hQ : MQ be_ _ ar_ s_ 0 0 A_ = Q
  refine lv_iload_n hx hb dX10_picks_0 rfl (lv_at hl 1 rfl) ?_
  refine g_fi C hW [] rfl (g_runS (As := [.int h9]) (rest := []) (wc := []) C hW hl (c_X10_isHill l G h9  _) k_ml_X10_112 q_X10_isHill (by decide) [] rfl rfl rfl rfl (Nat.le_of_ble_eq_true rfl) dX10_picks_1 (by decide)) (fun r_805 er_805 => ?_)
  clear hW; intro H locs hW
  refine lv_as (y := bI (iw h9 0 1)) er_805 ?_
  clear er_805 r_805
  refine lv_if_ne (tgt := 14) hx hb dX10_picks_4 (by decide) (fun c_806 => ?_) (fun c_806 => ?_)
  · exfalso; simp [bI_ne.mp c_806, if_true, if_false, reduceIte, Bool.false_eq_true] at hbad
  · refine lv_aload_n hx hb dX10_picks_7 rfl (lv_at hl 0 rfl) ?_
    refine lv_bipush (v := (-2)) hx hb dX10_picks_8 (by decide) ?_
    refine g_fiw (wr := []) (ww := fun (u_ : Unit) => [(to, .inr (8, [.ref v, .ref iv, .ref jv, .int k1, .int k2, .ref rd, .ref st, .ref ra, .ref og, .int ab, .int be, .int (bds + 1), .int nos, .int fls]))]) (w2 := fun (u_ : Unit) => [(to, .inr (8, [.ref v, .ref iv, .ref jv, .int k1, .int k2, .ref rd, .ref st, .ref ra, .ref og, .int ab, .int be, .int (bds + 1), .int nos, .int fls]))]) C hW [0] [] [0] rfl rfl (by decide) (by decide) (by decide) (fun _ => rfl) (g_runV (As := [.int (-2)]) (rest := []) (wc := [(to, .inr (8, [.ref v, .ref iv, .ref jv, .int k1, .int k2, .ref rd, .ref st, .ref ra, .ref og, .int ab, .int be, .int bds, .int nos, .int fls]))]) (q0 := 0) (ci := 8) C hW hl (c_X10_refuseBad l G v to iv jv rd st ra og k1 k2 ab be bds nos fls (-2)  _) k_ml_X10_77 q_X10_refuseBad (by decide) [0] rfl rfl rfl rfl rfl rfl (Nat.le_of_ble_eq_true rfl) dX10_picks_10 (by decide)) (fun r_807 _ er_807 => ?_)
    clear hW H locs; intro H locs hW
    refine lv_as (y := (-2)) er_807 ?_
    clear er_807 r_807
    replace hW : Wd G A_ s_.heap [(to, .inr (8, [.ref v, .ref iv, .ref jv, .int k1, .int k2, .ref rd, .ref st, .ref ra, .ref og, .int ab, .int be, .int (bds + 1), .int nos, .int fls]))] H locs := hW
    subst hQ
    exact g_iret (v := (-2)) C hW hrt ⟨(), by rfl, by rfl⟩ dX10_picks_13
set_option maxHeartbeats 4000000 in
set_option maxRecDepth 100000 in
theorem c_X10_cock_ok (l : Launch) (G : gT) (v vw vc vp vs vn vm vu : Nat) (wide : Int32) (to iv jv rd st ra og : Nat) (k1 k2 ab be bds nos fls : Int32) (ck : Nat → Int32) (vuc u : Nat) (uf : Nat → Int32) (k9 g9 : Int32) (h1 : iw k9 0 5 = true) (h2 : iw g9 1 9 = true) (hu : u ≤ 8) : MI l G yX10_cock cX10_cock 4 .int ({ frames := 3, cells := 0, slots := 0, locals := 81 }) [.ref to, .int k9, .int g9] [(to, .inr (8, [.ref v, .ref iv, .ref jv, .int k1, .int k2, .ref rd, .ref st, .ref ra, .ref og, .int ab, .int be, .int bds, .int nos, .int fls])), (v, .inr (7, [.int wide, .ref vw, .ref vc, .ref vp, .ref vs, .ref vn, .ref vm, .ref vu])), (vc, .inl (G.2.1, 7, .inl ck)), (vu, .inr (1, [.ref vuc, .int (nI u)])), (vuc, .inl (G.2.1, 56, .inl uf))] (fun (r : Int32) w1 => ∃ u_ : Unit, (r = ck 1) ∧ w1 = [(to, .inr (8, [.ref v, .ref iv, .ref jv, .int k1, .int k2, .ref rd, .ref st, .ref ra, .ref og, .int ab, .int be, .int bds, .int nos, .int fls])), (v, .inr (7, [.int wide, .ref vw, .ref vc, .ref vp, .ref vs, .ref vn, .ref vm, .ref vu])), (vc, .inl (G.2.1, 7, .inl (upd (upd ck 0 k9) 1 g9))), (vu, .inr (1, [.ref vuc, .int (nI (pun u))])), (vuc, .inl (G.2.1, 56, .inl (pu u uf ck)))]) := by
  refine MI.mk (by decide) (Nat.le_of_ble_eq_true rfl) ?_
  intro p_ e_ s_ m_ ar_ be_ me_ cd_ A_ ls C hrt hW hl
  have hx := C.1; have hb := C.2.1; have hown := C.2.2.2.1; have ht := C.2.2.2.2.1
  replace hl : lv_has ls 4 [(0, .ref to), (1, .int k9), (2, .int g9)] := hl
  generalize hQ : MQ be_ _ ar_ s_ 0 0 A_ = Q
  refine lv_iload_n hx hb dX10_cock_0 rfl (lv_at hl 1 rfl) ?_
  refine g_fi C hW [] rfl (g_runS (As := [.int k9]) (rest := []) (wc := []) C hW hl (c_X10_isKind l G k9  _) k_ml_X10_108 q_X10_isKind (by decide) [] rfl rfl rfl rfl (Nat.le_of_ble_eq_true rfl) dX10_cock_1 (by decide)) (fun r_809 er_809 => ?_)
  clear hW; intro H locs hW
  refine lv_as (y := bI (iw k9 0 5)) er_809 ?_
  clear er_809 r_809
  refine lv_if_eq (tgt := 17) hx hb dX10_cock_4 (by decide) (fun c_810 => ?_) (fun c_810 => ?_)
  · exfalso; exact dd (by first | assumption | exact okp_nI (by omega) (by assumption) | exact decide_eq_true (by first | assumption | omega)) c_810
  · refine lv_iload_n hx hb dX10_cock_7 rfl (lv_at hl 2 rfl) ?_
    refine lv_iconst (v := 1) hx hb dX10_cock_8 (by decide) ?_
    refine lv_bipush (v := 9) hx hb dX10_cock_9 (by decide) ?_
    refine g_fi C hW [] rfl (g_runS (As := [.int g9, .int 1, .int 9]) (rest := []) (wc := []) C hW hl (c_X10_isWithin l G g9 1 9  _) k_ml_X10_73 q_X10_isWithin (by decide) [] rfl rfl rfl rfl (Nat.le_of_ble_eq_true rfl) dX10_cock_11 (by decide)) (fun r_811 er_811 => ?_)
    clear hW H locs; intro H locs hW
    refine lv_as (y := bI (iw g9 1 9)) er_811 ?_
    clear er_811 r_811
    refine lv_if_ne (tgt := 24) hx hb dX10_cock_14 (by decide) (fun c_812 => ?_) (fun c_812 => ?_)
    · refine lv_aload_n hx hb dX10_cock_24 rfl (lv_at hl 0 rfl) ?_
      refine g_get (k := 0) (v := .ref v) C hW 0 rfl rfl jnX10 (by decide) k_fl_X10_10 rfl dX10_cock_25 ?_
      refine g_getN (k := 2) (v := .ref vc) (host := RX10) C hW 1 rfl rfl jnX9 (by decide) (List.mem_of_getElem? (i := 4) rfl) rfl dX10_cock_28 ?_
      refine lv_iconst (v := 1) hx hb dX10_cock_31 (by decide) ?_
      refine g_ald C hW 2 rfl (vp_in_nI (n := 1) (by omega) (by omega)) dX10_cock_32 ?_
      refine lv_as (y := ck 1) (rfl) ?_
      refine lv_istore_n (lv' := [(3, .int (ck 1)), (0, .ref to), (1, .int k9), (2, .int g9)]) hx hb dX10_cock_33 rfl hl (by decide) rfl ?_
      clear hl ls; intro ls hl
      refine lv_aload_n hx hb dX10_cock_34 rfl (lv_at hl 1 rfl) ?_
      refine g_get (k := 0) (v := .ref v) C hW 0 rfl rfl jnX10 (by decide) k_fl_X10_10 rfl dX10_cock_35 ?_
      refine g_fvw (wr := [(to, .inr (8, [.ref v, .ref iv, .ref jv, .int k1, .int k2, .ref rd, .ref st, .ref ra, .ref og, .int ab, .int be, .int bds, .int nos, .int fls]))]) (ww := fun (u_ : Unit) => [(v, .inr (7, [.int wide, .ref vw, .ref vc, .ref vp, .ref vs, .ref vn, .ref vm, .ref vu])), (vc, .inl (G.2.1, 7, .inl ck)), (vu, .inr (1, [.ref vuc, .int (nI (pun u))])), (vuc, .inl (G.2.1, 56, .inl (pu u uf ck)))]) (w2 := fun (u_ : Unit) => [(to, .inr (8, [.ref v, .ref iv, .ref jv, .int k1, .int k2, .ref rd, .ref st, .ref ra, .ref og, .int ab, .int be, .int bds, .int nos, .int fls])), (v, .inr (7, [.int wide, .ref vw, .ref vc, .ref vp, .ref vs, .ref vn, .ref vm, .ref vu])), (vc, .inl (G.2.1, 7, .inl ck)), (vu, .inr (1, [.ref vuc, .int (nI (pun u))])), (vuc, .inl (G.2.1, 56, .inl (pu u uf ck)))]) C hW [1, 2, 3, 4] [0] [0, 1, 2, 3, 4] rfl rfl (by decide) (by decide) (by decide) (fun _ => rfl) (g_runV (As := []) (rest := []) (wc := [(v, .inr (7, [.int wide, .ref vw, .ref vc, .ref vp, .ref vs, .ref vn, .ref vm, .ref vu])), (vc, .inl (G.2.1, 7, .inl ck)), (vu, .inr (1, [.ref vuc, .int (nI u)])), (vuc, .inl (G.2.1, 56, .inl uf))]) (q0 := 0) (ci := 7) C hW hl (c_X9_remember l G v vw vc vp vs vn vm vu wide ck vuc u uf (by first | assumption | omega) _) k_ml_X10_170 q_X9_remember (by decide) [1, 2, 3, 4] rfl rfl rfl rfl rfl rfl (Nat.le_of_ble_eq_true rfl) dX10_cock_38 (by decide)) (fun _ er_813 => ?_)
      clear hW H locs; intro H locs hW
      replace hW : Wd G A_ s_.heap [(to, .inr (8, [.ref v, .ref iv, .ref jv, .int k1, .int k2, .ref rd, .ref st, .ref ra, .ref og, .int ab, .int be, .int bds, .int nos, .int fls])), (v, .inr (7, [.int wide, .ref vw, .ref vc, .ref vp, .ref vs, .ref vn, .ref vm, .ref vu])), (vc, .inl (G.2.1, 7, .inl ck)), (vu, .inr (1, [.ref vuc, .int (nI (pun u))])), (vuc, .inl (G.2.1, 56, .inl (pu u uf ck)))] H locs := hW
      refine lv_aload_n hx hb dX10_cock_41 rfl (lv_at hl 1 rfl) ?_
      refine g_get (k := 0) (v := .ref v) C hW 0 rfl rfl jnX10 (by decide) k_fl_X10_10 rfl dX10_cock_42 ?_
      refine lv_iload_n hx hb dX10_cock_45 rfl (lv_at hl 2 rfl) ?_
      refine lv_iload_n hx hb dX10_cock_46 rfl (lv_at hl 3 rfl) ?_
      refine g_fvw (wr := [(to, .inr (8, [.ref v, .ref iv, .ref jv, .int k1, .int k2, .ref rd, .ref st, .ref ra, .ref og, .int ab, .int be, .int bds, .int nos, .int fls])), (vu, .inr (1, [.ref vuc, .int (nI (pun u))])), (vuc, .inl (G.2.1, 56, .inl (pu u uf ck)))]) (ww := fun (u_ : Unit) => [(v, .inr (7, [.int wide, .ref vw, .ref vc, .ref vp, .ref vs, .ref vn, .ref vm, .ref vu])), (vc, .inl (G.2.1, 7, .inl (upd (upd ck 0 k9) 1 g9)))]) (w2 := fun (u_ : Unit) => [(to, .inr (8, [.ref v, .ref iv, .ref jv, .int k1, .int k2, .ref rd, .ref st, .ref ra, .ref og, .int ab, .int be, .int bds, .int nos, .int fls])), (v, .inr (7, [.int wide, .ref vw, .ref vc, .ref vp, .ref vs, .ref vn, .ref vm, .ref vu])), (vc, .inl (G.2.1, 7, .inl (upd (upd ck 0 k9) 1 g9))), (vu, .inr (1, [.ref vuc, .int (nI (pun u))])), (vuc, .inl (G.2.1, 56, .inl (pu u uf ck)))]) C hW [1, 2] [0, 3, 4] [0, 3, 4, 1, 2] rfl rfl (by decide) (by decide) (by decide) (fun _ => rfl) (g_runV (As := [.int k9, .int g9]) (rest := []) (wc := [(v, .inr (7, [.int wide, .ref vw, .ref vc, .ref vp, .ref vs, .ref vn, .ref vm, .ref vu])), (vc, .inl (G.2.1, 7, .inl ck))]) (q0 := 0) (ci := 7) C hW hl (c_X9_feather l G v vw vc vp vs vn vm vu wide ck k9 g9  _) k_ml_X10_185 q_X9_feather (by decide) [1, 2] rfl rfl rfl rfl rfl rfl (Nat.le_of_ble_eq_true rfl) dX10_cock_47 (by decide)) (fun _ er_815 => ?_)
      clear hW H locs; intro H locs hW
      replace hW : Wd G A_ s_.heap [(to, .inr (8, [.ref v, .ref iv, .ref jv, .int k1, .int k2, .ref rd, .ref st, .ref ra, .ref og, .int ab, .int be, .int bds, .int nos, .int fls])), (v, .inr (7, [.int wide, .ref vw, .ref vc, .ref vp, .ref vs, .ref vn, .ref vm, .ref vu])), (vc, .inl (G.2.1, 7, .inl (upd (upd ck 0 k9) 1 g9))), (vu, .inr (1, [.ref vuc, .int (nI (pun u))])), (vuc, .inl (G.2.1, 56, .inl (pu u uf ck)))] H locs := hW
      refine lv_iload_n hx hb dX10_cock_50 rfl (lv_at hl 0 rfl) ?_
      subst hQ
      exact g_iret (v := (ck 1)) C hW hrt ⟨(), by rfl, by rfl⟩ dX10_cock_51
    · exfalso; exact dd (by first | assumption | exact okp_nI (by omega) (by assumption) | exact decide_eq_true (by first | assumption | omega)) c_812
set_option maxHeartbeats 4000000 in
set_option maxRecDepth 100000 in
theorem c_X10_cock_bad (l : Launch) (G : gT) (v : Nat) (to iv jv rd st ra og : Nat) (k1 k2 ab be bds nos fls : Int32) (k9 g9 : Int32) (hbad : (iw k9 0 5 && iw g9 1 9) = false) : MI l G yX10_cock cX10_cock 4 .int ({ frames := 2, cells := 0, slots := 0, locals := 42 }) [.ref to, .int k9, .int g9] [(to, .inr (8, [.ref v, .ref iv, .ref jv, .int k1, .int k2, .ref rd, .ref st, .ref ra, .ref og, .int ab, .int be, .int bds, .int nos, .int fls]))] (fun (r : Int32) w1 => ∃ u_ : Unit, (r = (-2)) ∧ w1 = [(to, .inr (8, [.ref v, .ref iv, .ref jv, .int k1, .int k2, .ref rd, .ref st, .ref ra, .ref og, .int ab, .int be, .int (bds + 1), .int nos, .int fls]))]) := by
  refine MI.mk (by decide) (Nat.le_of_ble_eq_true rfl) ?_
  intro p_ e_ s_ m_ ar_ be_ me_ cd_ A_ ls C hrt hW hl
  have hx := C.1; have hb := C.2.1; have hown := C.2.2.2.1; have ht := C.2.2.2.2.1
  replace hl : lv_has ls 4 [(0, .ref to), (1, .int k9), (2, .int g9)] := hl
  generalize hQ : MQ be_ _ ar_ s_ 0 0 A_ = Q
  refine lv_iload_n hx hb dX10_cock_0 rfl (lv_at hl 1 rfl) ?_
  refine g_fi C hW [] rfl (g_runS (As := [.int k9]) (rest := []) (wc := []) C hW hl (c_X10_isKind l G k9  _) k_ml_X10_108 q_X10_isKind (by decide) [] rfl rfl rfl rfl (Nat.le_of_ble_eq_true rfl) dX10_cock_1 (by decide)) (fun r_817 er_817 => ?_)
  clear hW; intro H locs hW
  refine lv_as (y := bI (iw k9 0 5)) er_817 ?_
  clear er_817 r_817
  have J_821 : ∀ (H : Heap) (locs : List Loc) (ls : Array Slot), Wd G A_ s_.heap [(to, .inr (8, [.ref v, .ref iv, .ref jv, .int k1, .int k2, .ref rd, .ref st, .ref ra, .ref og, .int ab, .int be, .int bds, .int nos, .int fls]))] H locs → lv_has ls 4 [(0, .ref to), (1, .int k9), (2, .int g9)] → W p_ l e_ ({ frames := 2, cells := 0, slots := 0, locals := 42 }) s_ m_ ar_ be_ me_ cd_ H locs 0 0 Q (F0 m_ 17 ls []) := by
    intro  H locs ls hW hl
    refine lv_aload_n hx hb dX10_cock_17 rfl (lv_at hl 0 rfl) ?_
    refine lv_bipush (v := (-2)) hx hb dX10_cock_18 (by decide) ?_
    refine g_fiw (wr := []) (ww := fun (u_ : Unit) => [(to, .inr (8, [.ref v, .ref iv, .ref jv, .int k1, .int k2, .ref rd, .ref st, .ref ra, .ref og, .int ab, .int be, .int (bds + 1), .int nos, .int fls]))]) (w2 := fun (u_ : Unit) => [(to, .inr (8, [.ref v, .ref iv, .ref jv, .int k1, .int k2, .ref rd, .ref st, .ref ra, .ref og, .int ab, .int be, .int (bds + 1), .int nos, .int fls]))]) C hW [0] [] [0] rfl rfl (by decide) (by decide) (by decide) (fun _ => rfl) (g_runV (As := [.int (-2)]) (rest := []) (wc := [(to, .inr (8, [.ref v, .ref iv, .ref jv, .int k1, .int k2, .ref rd, .ref st, .ref ra, .ref og, .int ab, .int be, .int bds, .int nos, .int fls]))]) (q0 := 0) (ci := 8) C hW hl (c_X10_refuseBad l G v to iv jv rd st ra og k1 k2 ab be bds nos fls (-2)  _) k_ml_X10_77 q_X10_refuseBad (by decide) [0] rfl rfl rfl rfl rfl rfl (Nat.le_of_ble_eq_true rfl) dX10_cock_20 (by decide)) (fun r_822 _ er_822 => ?_)
    clear hW H locs; intro H locs hW
    refine lv_as (y := (-2)) er_822 ?_
    clear er_822 r_822
    replace hW : Wd G A_ s_.heap [(to, .inr (8, [.ref v, .ref iv, .ref jv, .int k1, .int k2, .ref rd, .ref st, .ref ra, .ref og, .int ab, .int be, .int (bds + 1), .int nos, .int fls]))] H locs := hW
    subst hQ
    exact g_iret (v := (-2)) C hW hrt ⟨(), by rfl, by rfl⟩ dX10_cock_23
  refine lv_if_eq (tgt := 17) hx hb dX10_cock_4 (by decide) (fun c_818 => ?_) (fun c_818 => ?_)
  · exact J_821  _ _ _ hW (lv_sub hl [0, 1, 2] rfl)
  · refine lv_iload_n hx hb dX10_cock_7 rfl (lv_at hl 2 rfl) ?_
    refine lv_iconst (v := 1) hx hb dX10_cock_8 (by decide) ?_
    refine lv_bipush (v := 9) hx hb dX10_cock_9 (by decide) ?_
    refine g_fi C hW [] rfl (g_runS (As := [.int g9, .int 1, .int 9]) (rest := []) (wc := []) C hW hl (c_X10_isWithin l G g9 1 9  _) k_ml_X10_73 q_X10_isWithin (by decide) [] rfl rfl rfl rfl (Nat.le_of_ble_eq_true rfl) dX10_cock_11 (by decide)) (fun r_824 er_824 => ?_)
    clear hW H locs; intro H locs hW
    refine lv_as (y := bI (iw g9 1 9)) er_824 ?_
    clear er_824 r_824
    refine lv_if_ne (tgt := 24) hx hb dX10_cock_14 (by decide) (fun c_825 => ?_) (fun c_825 => ?_)
    · exfalso; simp [bI_ne.mp c_818, bI_ne.mp c_825, if_true, if_false, reduceIte, Bool.false_eq_true] at hbad
    · exact J_821  _ _ _ hW (lv_sub hl [0, 1, 2] rfl)
set_option maxHeartbeats 4000000 in
set_option maxRecDepth 100000 in
theorem c_X10_hours_ok (l : Launch) (G : gT) (v vw vc vp vs vn vm vu : Nat) (wide : Int32) (to iv jv rd st ra og : Nat) (k1 k2 ab be bds nos fls : Int32) (ck : Nat → Int32) (vuc u : Nat) (uf : Nat → Int32) (n9 : Int32) (h1 : iw n9 1 99 = true) (hu : u ≤ 8) : MI l G yX10_hours cX10_hours 2 .int ({ frames := 3, cells := 0, slots := 0, locals := 81 }) [.ref to, .int n9] [(to, .inr (8, [.ref v, .ref iv, .ref jv, .int k1, .int k2, .ref rd, .ref st, .ref ra, .ref og, .int ab, .int be, .int bds, .int nos, .int fls])), (v, .inr (7, [.int wide, .ref vw, .ref vc, .ref vp, .ref vs, .ref vn, .ref vm, .ref vu])), (vc, .inl (G.2.1, 7, .inl ck)), (vu, .inr (1, [.ref vuc, .int (nI u)])), (vuc, .inl (G.2.1, 56, .inl uf))] (fun (r : Int32) w1 => ∃ u_ : Unit, (r = lps ck n9 6) ∧ w1 = [(to, .inr (8, [.ref v, .ref iv, .ref jv, .int k1, .int k2, .ref rd, .ref st, .ref ra, .ref og, .int ab, .int be, .int bds, .int nos, .int fls])), (v, .inr (7, [.int wide, .ref vw, .ref vc, .ref vp, .ref vs, .ref vn, .ref vm, .ref vu])), (vc, .inl (G.2.1, 7, .inl (lps ck n9))), (vu, .inr (1, [.ref vuc, .int (nI (pun u))])), (vuc, .inl (G.2.1, 56, .inl (pu u uf ck)))]) := by
  refine MI.mk (by decide) (Nat.le_of_ble_eq_true rfl) ?_
  intro p_ e_ s_ m_ ar_ be_ me_ cd_ A_ ls C hrt hW hl
  have hx := C.1; have hb := C.2.1; have hown := C.2.2.2.1; have ht := C.2.2.2.2.1
  replace hl : lv_has ls 2 [(0, .ref to), (1, .int n9)] := hl
  generalize hQ : MQ be_ _ ar_ s_ 0 0 A_ = Q
  refine lv_iload_n hx hb dX10_hours_0 rfl (lv_at hl 1 rfl) ?_
  refine lv_iconst (v := 1) hx hb dX10_hours_1 (by decide) ?_
  refine lv_bipush (v := 99) hx hb dX10_hours_2 (by decide) ?_
  refine g_fi C hW [] rfl (g_runS (As := [.int n9, .int 1, .int 99]) (rest := []) (wc := []) C hW hl (c_X10_isWithin l G n9 1 99  _) k_ml_X10_73 q_X10_isWithin (by decide) [] rfl rfl rfl rfl (Nat.le_of_ble_eq_true rfl) dX10_hours_4 (by decide)) (fun r_826 er_826 => ?_)
  clear hW; intro H locs hW
  refine lv_as (y := bI (iw n9 1 99)) er_826 ?_
  clear er_826 r_826
  refine lv_if_ne (tgt := 17) hx hb dX10_hours_7 (by decide) (fun c_827 => ?_) (fun c_827 => ?_)
  · refine lv_aload_n hx hb dX10_hours_17 rfl (lv_at hl 0 rfl) ?_
    refine g_get (k := 0) (v := .ref v) C hW 0 rfl rfl jnX10 (by decide) k_fl_X10_10 rfl dX10_hours_18 ?_
    refine g_fvw (wr := [(to, .inr (8, [.ref v, .ref iv, .ref jv, .int k1, .int k2, .ref rd, .ref st, .ref ra, .ref og, .int ab, .int be, .int bds, .int nos, .int fls]))]) (ww := fun (u_ : Unit) => [(v, .inr (7, [.int wide, .ref vw, .ref vc, .ref vp, .ref vs, .ref vn, .ref vm, .ref vu])), (vc, .inl (G.2.1, 7, .inl ck)), (vu, .inr (1, [.ref vuc, .int (nI (pun u))])), (vuc, .inl (G.2.1, 56, .inl (pu u uf ck)))]) (w2 := fun (u_ : Unit) => [(to, .inr (8, [.ref v, .ref iv, .ref jv, .int k1, .int k2, .ref rd, .ref st, .ref ra, .ref og, .int ab, .int be, .int bds, .int nos, .int fls])), (v, .inr (7, [.int wide, .ref vw, .ref vc, .ref vp, .ref vs, .ref vn, .ref vm, .ref vu])), (vc, .inl (G.2.1, 7, .inl ck)), (vu, .inr (1, [.ref vuc, .int (nI (pun u))])), (vuc, .inl (G.2.1, 56, .inl (pu u uf ck)))]) C hW [1, 2, 3, 4] [0] [0, 1, 2, 3, 4] rfl rfl (by decide) (by decide) (by decide) (fun _ => rfl) (g_runV (As := []) (rest := []) (wc := [(v, .inr (7, [.int wide, .ref vw, .ref vc, .ref vp, .ref vs, .ref vn, .ref vm, .ref vu])), (vc, .inl (G.2.1, 7, .inl ck)), (vu, .inr (1, [.ref vuc, .int (nI u)])), (vuc, .inl (G.2.1, 56, .inl uf))]) (q0 := 0) (ci := 7) C hW hl (c_X9_remember l G v vw vc vp vs vn vm vu wide ck vuc u uf (by first | assumption | omega) _) k_ml_X10_170 q_X9_remember (by decide) [1, 2, 3, 4] rfl rfl rfl rfl rfl rfl (Nat.le_of_ble_eq_true rfl) dX10_hours_21 (by decide)) (fun _ er_828 => ?_)
    clear hW H locs; intro H locs hW
    replace hW : Wd G A_ s_.heap [(to, .inr (8, [.ref v, .ref iv, .ref jv, .int k1, .int k2, .ref rd, .ref st, .ref ra, .ref og, .int ab, .int be, .int bds, .int nos, .int fls])), (v, .inr (7, [.int wide, .ref vw, .ref vc, .ref vp, .ref vs, .ref vn, .ref vm, .ref vu])), (vc, .inl (G.2.1, 7, .inl ck)), (vu, .inr (1, [.ref vuc, .int (nI (pun u))])), (vuc, .inl (G.2.1, 56, .inl (pu u uf ck)))] H locs := hW
    refine lv_aload_n hx hb dX10_hours_24 rfl (lv_at hl 0 rfl) ?_
    refine g_get (k := 0) (v := .ref v) C hW 0 rfl rfl jnX10 (by decide) k_fl_X10_10 rfl dX10_hours_25 ?_
    refine lv_iload_n hx hb dX10_hours_28 rfl (lv_at hl 1 rfl) ?_
    refine g_fvw (wr := [(to, .inr (8, [.ref v, .ref iv, .ref jv, .int k1, .int k2, .ref rd, .ref st, .ref ra, .ref og, .int ab, .int be, .int bds, .int nos, .int fls])), (vu, .inr (1, [.ref vuc, .int (nI (pun u))])), (vuc, .inl (G.2.1, 56, .inl (pu u uf ck)))]) (ww := fun (u_ : Unit) => [(v, .inr (7, [.int wide, .ref vw, .ref vc, .ref vp, .ref vs, .ref vn, .ref vm, .ref vu])), (vc, .inl (G.2.1, 7, .inl (lps ck n9)))]) (w2 := fun (u_ : Unit) => [(to, .inr (8, [.ref v, .ref iv, .ref jv, .int k1, .int k2, .ref rd, .ref st, .ref ra, .ref og, .int ab, .int be, .int bds, .int nos, .int fls])), (v, .inr (7, [.int wide, .ref vw, .ref vc, .ref vp, .ref vs, .ref vn, .ref vm, .ref vu])), (vc, .inl (G.2.1, 7, .inl (lps ck n9))), (vu, .inr (1, [.ref vuc, .int (nI (pun u))])), (vuc, .inl (G.2.1, 56, .inl (pu u uf ck)))]) C hW [1, 2] [0, 3, 4] [0, 3, 4, 1, 2] rfl rfl (by decide) (by decide) (by decide) (fun _ => rfl) (g_runV (As := [.int n9]) (rest := []) (wc := [(v, .inr (7, [.int wide, .ref vw, .ref vc, .ref vp, .ref vs, .ref vn, .ref vm, .ref vu])), (vc, .inl (G.2.1, 7, .inl ck))]) (q0 := 0) (ci := 7) C hW hl (c_X9_letPass l G v vw vc vp vs vn vm vu wide ck n9  _) k_ml_X10_189 q_X9_letPass (by decide) [1, 2] rfl rfl rfl rfl rfl rfl (Nat.le_of_ble_eq_true rfl) dX10_hours_29 (by decide)) (fun _ er_830 => ?_)
    clear hW H locs; intro H locs hW
    replace hW : Wd G A_ s_.heap [(to, .inr (8, [.ref v, .ref iv, .ref jv, .int k1, .int k2, .ref rd, .ref st, .ref ra, .ref og, .int ab, .int be, .int bds, .int nos, .int fls])), (v, .inr (7, [.int wide, .ref vw, .ref vc, .ref vp, .ref vs, .ref vn, .ref vm, .ref vu])), (vc, .inl (G.2.1, 7, .inl (lps ck n9))), (vu, .inr (1, [.ref vuc, .int (nI (pun u))])), (vuc, .inl (G.2.1, 56, .inl (pu u uf ck)))] H locs := hW
    refine lv_aload_n hx hb dX10_hours_32 rfl (lv_at hl 0 rfl) ?_
    refine g_get (k := 0) (v := .ref v) C hW 0 rfl rfl jnX10 (by decide) k_fl_X10_10 rfl dX10_hours_33 ?_
    refine g_fi C hW [1, 2] rfl (g_runV (As := []) (rest := []) (wc := [(v, .inr (7, [.int wide, .ref vw, .ref vc, .ref vp, .ref vs, .ref vn, .ref vm, .ref vu])), (vc, .inl (G.2.1, 7, .inl (lps ck n9)))]) (q0 := 0) (ci := 7) C hW hl (c_X9_hour l G v vw vc vp vs vn vm vu wide (lps ck n9)  _) k_ml_X10_192 q_X9_hour (by decide) [1, 2] rfl rfl rfl rfl rfl rfl (Nat.le_of_ble_eq_true rfl) dX10_hours_36 (by decide)) (fun r_832 er_832 => ?_)
    clear hW H locs; intro H locs hW
    refine lv_as (y := (lps ck n9) 6) er_832 ?_
    clear er_832 r_832
    subst hQ
    exact g_iret (v := ((lps ck n9) 6)) C hW hrt ⟨(), by rfl, by rfl⟩ dX10_hours_39
  · exfalso; exact dd (by first | assumption | exact okp_nI (by omega) (by assumption) | exact decide_eq_true (by first | assumption | omega)) c_827
set_option maxHeartbeats 4000000 in
set_option maxRecDepth 100000 in
theorem c_X10_hours_bad (l : Launch) (G : gT) (v : Nat) (to iv jv rd st ra og : Nat) (k1 k2 ab be bds nos fls : Int32) (n9 : Int32) (hbad : iw n9 1 99 = false) : MI l G yX10_hours cX10_hours 2 .int ({ frames := 1, cells := 0, slots := 0, locals := 22 }) [.ref to, .int n9] [(to, .inr (8, [.ref v, .ref iv, .ref jv, .int k1, .int k2, .ref rd, .ref st, .ref ra, .ref og, .int ab, .int be, .int bds, .int nos, .int fls]))] (fun (r : Int32) w1 => ∃ u_ : Unit, (r = (-2)) ∧ w1 = [(to, .inr (8, [.ref v, .ref iv, .ref jv, .int k1, .int k2, .ref rd, .ref st, .ref ra, .ref og, .int ab, .int be, .int (bds + 1), .int nos, .int fls]))]) := by
  refine MI.mk (by decide) (Nat.le_of_ble_eq_true rfl) ?_
  intro p_ e_ s_ m_ ar_ be_ me_ cd_ A_ ls C hrt hW hl
  have hx := C.1; have hb := C.2.1; have hown := C.2.2.2.1; have ht := C.2.2.2.2.1
  replace hl : lv_has ls 2 [(0, .ref to), (1, .int n9)] := hl
  generalize hQ : MQ be_ _ ar_ s_ 0 0 A_ = Q
  refine lv_iload_n hx hb dX10_hours_0 rfl (lv_at hl 1 rfl) ?_
  refine lv_iconst (v := 1) hx hb dX10_hours_1 (by decide) ?_
  refine lv_bipush (v := 99) hx hb dX10_hours_2 (by decide) ?_
  refine g_fi C hW [] rfl (g_runS (As := [.int n9, .int 1, .int 99]) (rest := []) (wc := []) C hW hl (c_X10_isWithin l G n9 1 99  _) k_ml_X10_73 q_X10_isWithin (by decide) [] rfl rfl rfl rfl (Nat.le_of_ble_eq_true rfl) dX10_hours_4 (by decide)) (fun r_833 er_833 => ?_)
  clear hW; intro H locs hW
  refine lv_as (y := bI (iw n9 1 99)) er_833 ?_
  clear er_833 r_833
  refine lv_if_ne (tgt := 17) hx hb dX10_hours_7 (by decide) (fun c_834 => ?_) (fun c_834 => ?_)
  · exfalso; simp [bI_ne.mp c_834, if_true, if_false, reduceIte, Bool.false_eq_true] at hbad
  · refine lv_aload_n hx hb dX10_hours_10 rfl (lv_at hl 0 rfl) ?_
    refine lv_bipush (v := (-2)) hx hb dX10_hours_11 (by decide) ?_
    refine g_fiw (wr := []) (ww := fun (u_ : Unit) => [(to, .inr (8, [.ref v, .ref iv, .ref jv, .int k1, .int k2, .ref rd, .ref st, .ref ra, .ref og, .int ab, .int be, .int (bds + 1), .int nos, .int fls]))]) (w2 := fun (u_ : Unit) => [(to, .inr (8, [.ref v, .ref iv, .ref jv, .int k1, .int k2, .ref rd, .ref st, .ref ra, .ref og, .int ab, .int be, .int (bds + 1), .int nos, .int fls]))]) C hW [0] [] [0] rfl rfl (by decide) (by decide) (by decide) (fun _ => rfl) (g_runV (As := [.int (-2)]) (rest := []) (wc := [(to, .inr (8, [.ref v, .ref iv, .ref jv, .int k1, .int k2, .ref rd, .ref st, .ref ra, .ref og, .int ab, .int be, .int bds, .int nos, .int fls]))]) (q0 := 0) (ci := 8) C hW hl (c_X10_refuseBad l G v to iv jv rd st ra og k1 k2 ab be bds nos fls (-2)  _) k_ml_X10_77 q_X10_refuseBad (by decide) [0] rfl rfl rfl rfl rfl rfl (Nat.le_of_ble_eq_true rfl) dX10_hours_13 (by decide)) (fun r_835 _ er_835 => ?_)
    clear hW H locs; intro H locs hW
    refine lv_as (y := (-2)) er_835 ?_
    clear er_835 r_835
    replace hW : Wd G A_ s_.heap [(to, .inr (8, [.ref v, .ref iv, .ref jv, .int k1, .int k2, .ref rd, .ref st, .ref ra, .ref og, .int ab, .int be, .int (bds + 1), .int nos, .int fls]))] H locs := hW
    subst hQ
    exact g_iret (v := (-2)) C hW hrt ⟨(), by rfl, by rfl⟩ dX10_hours_16
set_option maxHeartbeats 4000000 in
set_option maxRecDepth 100000 in
theorem c_X10_undo_ok (l : Launch) (G : gT) (v vw vc vp vs vn vm vu : Nat) (wide : Int32) (to iv jv rd st ra og : Nat) (k1 k2 ab be bds nos fls : Int32) (ck : Nat → Int32) (vuc u : Nat) (uf : Nat → Int32) (hu0 : 0 < u) (hu : u ≤ 8) : MI l G yX10_undo cX10_undo 1 .int ({ frames := 2, cells := 0, slots := 0, locals := 61 }) [.ref to] [(to, .inr (8, [.ref v, .ref iv, .ref jv, .int k1, .int k2, .ref rd, .ref st, .ref ra, .ref og, .int ab, .int be, .int bds, .int nos, .int fls])), (v, .inr (7, [.int wide, .ref vw, .ref vc, .ref vp, .ref vs, .ref vn, .ref vm, .ref vu])), (vc, .inl (G.2.1, 7, .inl ck)), (vu, .inr (1, [.ref vuc, .int (nI u)])), (vuc, .inl (G.2.1, 56, .inl uf))] (fun (r : Int32) w1 => ∃ u_ : Unit, (r = va_cpy uf ck ((u - 1) * 7) 0 7 6) ∧ w1 = [(to, .inr (8, [.ref v, .ref iv, .ref jv, .int k1, .int k2, .ref rd, .ref st, .ref ra, .ref og, .int ab, .int be, .int bds, .int nos, .int fls])), (v, .inr (7, [.int wide, .ref vw, .ref vc, .ref vp, .ref vs, .ref vn, .ref vm, .ref vu])), (vc, .inl (G.2.1, 7, .inl (va_cpy uf ck ((u - 1) * 7) 0 7))), (vu, .inr (1, [.ref vuc, .int (nI (u - 1))])), (vuc, .inl (G.2.1, 56, .inl uf))]) := by
  refine MI.mk (by decide) (Nat.le_of_ble_eq_true rfl) ?_
  intro p_ e_ s_ m_ ar_ be_ me_ cd_ A_ ls C hrt hW hl
  have hx := C.1; have hb := C.2.1; have hown := C.2.2.2.1; have ht := C.2.2.2.2.1
  replace hl : lv_has ls 1 [(0, .ref to)] := hl
  generalize hQ : MQ be_ _ ar_ s_ 0 0 A_ = Q
  refine lv_aload_n hx hb dX10_undo_0 rfl (lv_at hl 0 rfl) ?_
  refine g_get (k := 0) (v := .ref v) C hW 0 rfl rfl jnX10 (by decide) k_fl_X10_10 rfl dX10_undo_1 ?_
  refine g_getN (k := 7) (v := .ref vu) (host := RX10) C hW 1 rfl rfl jnX9 (by decide) (List.mem_of_getElem? (i := 14) rfl) rfl dX10_undo_4 ?_
  refine g_fi C hW [3] rfl (g_runV (As := []) (rest := []) (wc := [(vu, .inr (1, [.ref vuc, .int (nI u)]))]) (q0 := 0) (ci := 1) C hW hl (c_X3_size l G vu vuc u  _) k_ml_X10_195 q_X3_size (by decide) [3] rfl rfl rfl rfl rfl rfl (Nat.le_of_ble_eq_true rfl) dX10_undo_7 (by decide)) (fun r_837 er_837 => ?_)
  clear hW; intro H locs hW
  refine lv_as (y := nI u) er_837 ?_
  clear er_837 r_837
  refine lv_if_ne (tgt := 18) hx hb dX10_undo_10 (by decide) (fun c_838 => ?_) (fun c_838 => ?_)
  · have c_838n : ¬ u = 0 := fun q => c_838 ((nI_eq (a := u) (b := 0) (by omega) (by omega)).mpr q)
    refine lv_aload_n hx hb dX10_undo_18 rfl (lv_at hl 0 rfl) ?_
    refine g_get (k := 0) (v := .ref v) C hW 0 rfl rfl jnX10 (by decide) k_fl_X10_10 rfl dX10_undo_19 ?_
    refine g_getN (k := 7) (v := .ref vu) (host := RX10) C hW 1 rfl rfl jnX9 (by decide) (List.mem_of_getElem? (i := 14) rfl) rfl dX10_undo_22 ?_
    refine lv_aload_n hx hb dX10_undo_25 rfl (lv_at hl 0 rfl) ?_
    refine g_get (k := 0) (v := .ref v) C hW 0 rfl rfl jnX10 (by decide) k_fl_X10_10 rfl dX10_undo_26 ?_
    refine g_getN (k := 2) (v := .ref vc) (host := RX10) C hW 1 rfl rfl jnX9 (by decide) (List.mem_of_getElem? (i := 4) rfl) rfl dX10_undo_29 ?_
    refine g_fvw (wr := [(to, .inr (8, [.ref v, .ref iv, .ref jv, .int k1, .int k2, .ref rd, .ref st, .ref ra, .ref og, .int ab, .int be, .int bds, .int nos, .int fls])), (v, .inr (7, [.int wide, .ref vw, .ref vc, .ref vp, .ref vs, .ref vn, .ref vm, .ref vu]))]) (ww := fun (u_ : Unit) => [(vu, .inr (1, [.ref vuc, .int (nI (u - 1))])), (vuc, .inl (G.2.1, 56, .inl uf)), (vc, .inl (G.2.1, 7, .inl (va_cpy uf ck ((u - 1) * 7) 0 7)))]) (w2 := fun (u_ : Unit) => [(to, .inr (8, [.ref v, .ref iv, .ref jv, .int k1, .int k2, .ref rd, .ref st, .ref ra, .ref og, .int ab, .int be, .int bds, .int nos, .int fls])), (v, .inr (7, [.int wide, .ref vw, .ref vc, .ref vp, .ref vs, .ref vn, .ref vm, .ref vu])), (vc, .inl (G.2.1, 7, .inl (va_cpy uf ck ((u - 1) * 7) 0 7))), (vu, .inr (1, [.ref vuc, .int (nI (u - 1))])), (vuc, .inl (G.2.1, 56, .inl uf))]) C hW [3, 4, 2] [0, 1] [0, 1, 4, 2, 3] rfl rfl (by decide) (by decide) (by decide) (fun _ => rfl) (g_runV (As := [.ref vc]) (rest := []) (wc := [(vu, .inr (1, [.ref vuc, .int (nI u)])), (vuc, .inl (G.2.1, 56, .inl uf)), (vc, .inl (G.2.1, 7, .inl ck))]) (q0 := 0) (ci := 1) C hW hl (c_X3_pop l G vu vuc u uf vc ck (by omega) _) k_ml_X10_196 q_X3_pop (by decide) [3, 4, 2] rfl rfl rfl rfl rfl rfl (Nat.le_of_ble_eq_true rfl) dX10_undo_32 (by decide)) (fun _ er_839 => ?_)
    clear hW H locs; intro H locs hW
    replace hW : Wd G A_ s_.heap [(to, .inr (8, [.ref v, .ref iv, .ref jv, .int k1, .int k2, .ref rd, .ref st, .ref ra, .ref og, .int ab, .int be, .int bds, .int nos, .int fls])), (v, .inr (7, [.int wide, .ref vw, .ref vc, .ref vp, .ref vs, .ref vn, .ref vm, .ref vu])), (vc, .inl (G.2.1, 7, .inl (va_cpy uf ck ((u - 1) * 7) 0 7))), (vu, .inr (1, [.ref vuc, .int (nI (u - 1))])), (vuc, .inl (G.2.1, 56, .inl uf))] H locs := hW
    refine lv_aload_n hx hb dX10_undo_35 rfl (lv_at hl 0 rfl) ?_
    refine g_get (k := 0) (v := .ref v) C hW 0 rfl rfl jnX10 (by decide) k_fl_X10_10 rfl dX10_undo_36 ?_
    refine g_fi C hW [1, 2] rfl (g_runV (As := []) (rest := []) (wc := [(v, .inr (7, [.int wide, .ref vw, .ref vc, .ref vp, .ref vs, .ref vn, .ref vm, .ref vu])), (vc, .inl (G.2.1, 7, .inl (va_cpy uf ck ((u - 1) * 7) 0 7)))]) (q0 := 0) (ci := 7) C hW hl (c_X9_hour l G v vw vc vp vs vn vm vu wide (va_cpy uf ck ((u - 1) * 7) 0 7)  _) k_ml_X10_192 q_X9_hour (by decide) [1, 2] rfl rfl rfl rfl rfl rfl (Nat.le_of_ble_eq_true rfl) dX10_undo_39 (by decide)) (fun r_841 er_841 => ?_)
    clear hW H locs; intro H locs hW
    refine lv_as (y := (va_cpy uf ck ((u - 1) * 7) 0 7) 6) er_841 ?_
    clear er_841 r_841
    subst hQ
    exact g_iret (v := ((va_cpy uf ck ((u - 1) * 7) 0 7) 6)) C hW hrt ⟨(), by rfl, by rfl⟩ dX10_undo_42
  · have c_838n : u = 0 := (nI_eq (a := u) (b := 0) (by omega) (by omega)).mp c_838
    exfalso; omega
set_option maxHeartbeats 4000000 in
set_option maxRecDepth 100000 in
theorem c_X10_undo_no (l : Launch) (G : gT) (v vw vc vp vs vn vm vu : Nat) (wide : Int32) (to iv jv rd st ra og : Nat) (k1 k2 ab be bds nos fls : Int32) (vuc u : Nat) (hu : u = 0) : MI l G yX10_undo cX10_undo 1 .int ({ frames := 1, cells := 0, slots := 0, locals := 20 }) [.ref to] [(to, .inr (8, [.ref v, .ref iv, .ref jv, .int k1, .int k2, .ref rd, .ref st, .ref ra, .ref og, .int ab, .int be, .int bds, .int nos, .int fls])), (v, .inr (7, [.int wide, .ref vw, .ref vc, .ref vp, .ref vs, .ref vn, .ref vm, .ref vu])), (vu, .inr (1, [.ref vuc, .int (nI u)]))] (fun (r : Int32) w1 => ∃ u_ : Unit, (r = (-3)) ∧ w1 = [(to, .inr (8, [.ref v, .ref iv, .ref jv, .int k1, .int k2, .ref rd, .ref st, .ref ra, .ref og, .int ab, .int be, .int bds, .int (nos + 1), .int fls])), (v, .inr (7, [.int wide, .ref vw, .ref vc, .ref vp, .ref vs, .ref vn, .ref vm, .ref vu])), (vu, .inr (1, [.ref vuc, .int (nI u)]))]) := by
  refine MI.mk (by decide) (Nat.le_of_ble_eq_true rfl) ?_
  intro p_ e_ s_ m_ ar_ be_ me_ cd_ A_ ls C hrt hW hl
  have hx := C.1; have hb := C.2.1; have hown := C.2.2.2.1; have ht := C.2.2.2.2.1
  replace hl : lv_has ls 1 [(0, .ref to)] := hl
  generalize hQ : MQ be_ _ ar_ s_ 0 0 A_ = Q
  refine lv_aload_n hx hb dX10_undo_0 rfl (lv_at hl 0 rfl) ?_
  refine g_get (k := 0) (v := .ref v) C hW 0 rfl rfl jnX10 (by decide) k_fl_X10_10 rfl dX10_undo_1 ?_
  refine g_getN (k := 7) (v := .ref vu) (host := RX10) C hW 1 rfl rfl jnX9 (by decide) (List.mem_of_getElem? (i := 14) rfl) rfl dX10_undo_4 ?_
  refine g_fi C hW [2] rfl (g_runV (As := []) (rest := []) (wc := [(vu, .inr (1, [.ref vuc, .int (nI u)]))]) (q0 := 0) (ci := 1) C hW hl (c_X3_size l G vu vuc u  _) k_ml_X10_195 q_X3_size (by decide) [2] rfl rfl rfl rfl rfl rfl (Nat.le_of_ble_eq_true rfl) dX10_undo_7 (by decide)) (fun r_842 er_842 => ?_)
  clear hW; intro H locs hW
  refine lv_as (y := nI u) er_842 ?_
  clear er_842 r_842
  refine lv_if_ne (tgt := 18) hx hb dX10_undo_10 (by decide) (fun c_843 => ?_) (fun c_843 => ?_)
  · have c_843n : ¬ u = 0 := fun q => c_843 ((nI_eq (a := u) (b := 0) (by omega) (by omega)).mpr q)
    exfalso; omega
  · have c_843n : u = 0 := (nI_eq (a := u) (b := 0) (by omega) (by omega)).mp c_843
    refine lv_aload_n hx hb dX10_undo_13 rfl (lv_at hl 0 rfl) ?_
    refine g_fiw (wr := [(v, .inr (7, [.int wide, .ref vw, .ref vc, .ref vp, .ref vs, .ref vn, .ref vm, .ref vu])), (vu, .inr (1, [.ref vuc, .int (nI u)]))]) (ww := fun (u_ : Unit) => [(to, .inr (8, [.ref v, .ref iv, .ref jv, .int k1, .int k2, .ref rd, .ref st, .ref ra, .ref og, .int ab, .int be, .int bds, .int (nos + 1), .int fls]))]) (w2 := fun (u_ : Unit) => [(to, .inr (8, [.ref v, .ref iv, .ref jv, .int k1, .int k2, .ref rd, .ref st, .ref ra, .ref og, .int ab, .int be, .int bds, .int (nos + 1), .int fls])), (v, .inr (7, [.int wide, .ref vw, .ref vc, .ref vp, .ref vs, .ref vn, .ref vm, .ref vu])), (vu, .inr (1, [.ref vuc, .int (nI u)]))]) C hW [0] [1, 2] [2, 0, 1] rfl rfl (by decide) (by decide) (by decide) (fun _ => rfl) (g_runV (As := []) (rest := []) (wc := [(to, .inr (8, [.ref v, .ref iv, .ref jv, .int k1, .int k2, .ref rd, .ref st, .ref ra, .ref og, .int ab, .int be, .int bds, .int nos, .int fls]))]) (q0 := 0) (ci := 8) C hW hl (c_X10_refuseNo l G v to iv jv rd st ra og k1 k2 ab be bds nos fls  _) k_ml_X10_167 q_X10_refuseNo (by decide) [0] rfl rfl rfl rfl rfl rfl (Nat.le_of_ble_eq_true rfl) dX10_undo_14 (by decide)) (fun r_844 _ er_844 => ?_)
    clear hW H locs; intro H locs hW
    refine lv_as (y := (-3)) er_844 ?_
    clear er_844 r_844
    replace hW : Wd G A_ s_.heap [(to, .inr (8, [.ref v, .ref iv, .ref jv, .int k1, .int k2, .ref rd, .ref st, .ref ra, .ref og, .int ab, .int be, .int bds, .int (nos + 1), .int fls])), (v, .inr (7, [.int wide, .ref vw, .ref vc, .ref vp, .ref vs, .ref vn, .ref vm, .ref vu])), (vu, .inr (1, [.ref vuc, .int (nI u)]))] H locs := hW
    subst hQ
    exact g_iret (v := (-3)) C hW hrt ⟨(), by rfl, by rfl⟩ dX10_undo_17
set_option maxHeartbeats 4000000 in
set_option maxRecDepth 100000 in
theorem c_X10_now_6 (l : Launch) (G : gT) (v vw vc vp vs vn vm vu : Nat) (wide : Int32) (to iv jv rd st ra og : Nat) (k1 k2 ab be bds nos fls : Int32) (ck wd : Nat → Int32) (hr : Nat) (eh : ck 6 = nI hr) (hh : hr < 100000) : MI l G yX10_now cX10_now 2 .int ({ frames := 2, cells := 0, slots := 0, locals := 44 }) [.ref to, .int 6] [(to, .inr (8, [.ref v, .ref iv, .ref jv, .int k1, .int k2, .ref rd, .ref st, .ref ra, .ref og, .int ab, .int be, .int bds, .int nos, .int fls])), (v, .inr (7, [.int wide, .ref vw, .ref vc, .ref vp, .ref vs, .ref vn, .ref vm, .ref vu])), (vc, .inl (G.2.1, 7, .inl ck)), (vw, .inl (G.2.1, 6, .inl wd))] (fun (r : Int32) w1 => (r = hp (ck 2) (wd (hr % 6))) ∧ w1 = [(to, .inr (8, [.ref v, .ref iv, .ref jv, .int k1, .int k2, .ref rd, .ref st, .ref ra, .ref og, .int ab, .int be, .int bds, .int nos, .int fls])), (v, .inr (7, [.int wide, .ref vw, .ref vc, .ref vp, .ref vs, .ref vn, .ref vm, .ref vu])), (vc, .inl (G.2.1, 7, .inl ck)), (vw, .inl (G.2.1, 6, .inl wd))]) := by
  refine MI.mk (by decide) (Nat.le_of_ble_eq_true rfl) ?_
  intro p_ e_ s_ m_ ar_ be_ me_ cd_ A_ ls C hrt hW hl
  have hx := C.1; have hb := C.2.1; have hown := C.2.2.2.1; have ht := C.2.2.2.2.1
  replace hl : lv_has ls 2 [(0, .ref to), (1, .int 6)] := hl
  generalize hQ : MQ be_ _ ar_ s_ 0 0 A_ = Q
  refine lv_iload_n hx hb dX10_now_0 rfl (lv_at hl 1 rfl) ?_
  refine lv_bipush (v := 6) hx hb dX10_now_1 (by decide) ?_
  refine lv_icmp_ne (tgt := 28) hx hb dX10_now_3 (by decide) (fun c_846 => ?_) (fun c_846 => ?_)
  · exfalso; exact c_846 rfl
  · refine lv_aload_n hx hb dX10_now_6 rfl (lv_at hl 0 rfl) ?_
    refine g_get (k := 0) (v := .ref v) C hW 0 rfl rfl jnX10 (by decide) k_fl_X10_10 rfl dX10_now_7 ?_
    refine lv_aload_n hx hb dX10_now_10 rfl (lv_at hl 0 rfl) ?_
    refine g_get (k := 0) (v := .ref v) C hW 0 rfl rfl jnX10 (by decide) k_fl_X10_10 rfl dX10_now_11 ?_
    refine g_fi C hW [1, 2] rfl (g_runV (As := []) (rest := [.ref v]) (wc := [(v, .inr (7, [.int wide, .ref vw, .ref vc, .ref vp, .ref vs, .ref vn, .ref vm, .ref vu])), (vc, .inl (G.2.1, 7, .inl ck))]) (q0 := 0) (ci := 7) C hW hl (c_X9_hill l G v vw vc vp vs vn vm vu wide ck  _) k_ml_X10_200 q_X9_hill (by decide) [1, 2] rfl rfl rfl rfl rfl rfl (Nat.le_of_ble_eq_true rfl) dX10_now_14 (by decide)) (fun r_847 er_847 => ?_)
    clear hW; intro H locs hW
    refine lv_as (y := ck 2) er_847 ?_
    clear er_847 r_847
    refine lv_aload_n hx hb dX10_now_17 rfl (lv_at hl 0 rfl) ?_
    refine g_get (k := 0) (v := .ref v) C hW 0 rfl rfl jnX10 (by decide) k_fl_X10_10 rfl dX10_now_18 ?_
    refine g_fi C hW [1, 2] rfl (g_runV (As := []) (rest := [.int (ck 2), .ref v]) (wc := [(v, .inr (7, [.int wide, .ref vw, .ref vc, .ref vp, .ref vs, .ref vn, .ref vm, .ref vu])), (vc, .inl (G.2.1, 7, .inl ck))]) (q0 := 0) (ci := 7) C hW hl (c_X9_hour l G v vw vc vp vs vn vm vu wide ck  _) k_ml_X10_192 q_X9_hour (by decide) [1, 2] rfl rfl rfl rfl rfl rfl (Nat.le_of_ble_eq_true rfl) dX10_now_21 (by decide)) (fun r_848 er_848 => ?_)
    clear hW H locs; intro H locs hW
    refine lv_as (y := ck 6) er_848 ?_
    clear er_848 r_848
    refine lv_as (y := nI hr) (eh) ?_
    refine g_fi C hW [1, 3] rfl (g_runV (As := [.int (ck 2), .int (nI hr)]) (rest := []) (wc := [(v, .inr (7, [.int wide, .ref vw, .ref vc, .ref vp, .ref vs, .ref vn, .ref vm, .ref vu])), (vw, .inl (G.2.1, 6, .inl wd))]) (q0 := 0) (ci := 7) C hW hl (c_X9_helpFrom l G v vw vc vp vs vn vm vu wide wd (ck 2) hr (by omega) _) k_ml_X10_203 q_X9_helpFrom (by decide) [1, 3] rfl rfl rfl rfl rfl rfl (Nat.le_of_ble_eq_true rfl) dX10_now_24 (by decide)) (fun r_849 er_849 => ?_)
    clear hW H locs; intro H locs hW
    refine lv_as (y := hp (ck 2) (wd (hr % 6))) er_849 ?_
    clear er_849 r_849
    subst hQ
    exact g_iret (v := (hp (ck 2) (wd (hr % 6)))) C hW hrt ⟨by rfl, rfl⟩ dX10_now_27
set_option maxHeartbeats 4000000 in
set_option maxRecDepth 100000 in
theorem c_X10_now_ok (l : Launch) (G : gT) (v vw vc vp vs vn vm vu : Nat) (wide : Int32) (to iv jv rd st ra og : Nat) (k1 k2 ab be bds nos fls : Int32) (ck : Nat → Int32) (x9 : Int32) (h1 : iw x9 0 5 = true) (h6 : ¬ x9 = 6) : MI l G yX10_now cX10_now 2 .int ({ frames := 1, cells := 0, slots := 0, locals := 22 }) [.ref to, .int x9] [(to, .inr (8, [.ref v, .ref iv, .ref jv, .int k1, .int k2, .ref rd, .ref st, .ref ra, .ref og, .int ab, .int be, .int bds, .int nos, .int fls])), (v, .inr (7, [.int wide, .ref vw, .ref vc, .ref vp, .ref vs, .ref vn, .ref vm, .ref vu])), (vc, .inl (G.2.1, 7, .inl ck))] (fun (r : Int32) w1 => (r = ck x9.toNatClampNeg) ∧ w1 = [(to, .inr (8, [.ref v, .ref iv, .ref jv, .int k1, .int k2, .ref rd, .ref st, .ref ra, .ref og, .int ab, .int be, .int bds, .int nos, .int fls])), (v, .inr (7, [.int wide, .ref vw, .ref vc, .ref vp, .ref vs, .ref vn, .ref vm, .ref vu])), (vc, .inl (G.2.1, 7, .inl ck))]) := by
  refine MI.mk (by decide) (Nat.le_of_ble_eq_true rfl) ?_
  intro p_ e_ s_ m_ ar_ be_ me_ cd_ A_ ls C hrt hW hl
  have hx := C.1; have hb := C.2.1; have hown := C.2.2.2.1; have ht := C.2.2.2.2.1
  replace hl : lv_has ls 2 [(0, .ref to), (1, .int x9)] := hl
  generalize hQ : MQ be_ _ ar_ s_ 0 0 A_ = Q
  refine lv_iload_n hx hb dX10_now_0 rfl (lv_at hl 1 rfl) ?_
  refine lv_bipush (v := 6) hx hb dX10_now_1 (by decide) ?_
  refine lv_icmp_ne (tgt := 28) hx hb dX10_now_3 (by decide) (fun c_850 => ?_) (fun c_850 => ?_)
  · refine lv_iload_n hx hb dX10_now_28 rfl (lv_at hl 1 rfl) ?_
    refine lv_iconst (v := 0) hx hb dX10_now_29 (by decide) ?_
    refine lv_iconst (v := 5) hx hb dX10_now_30 (by decide) ?_
    refine g_fi C hW [] rfl (g_runS (As := [.int x9, .int 0, .int 5]) (rest := []) (wc := []) C hW hl (c_X10_isWithin l G x9 0 5  _) k_ml_X10_73 q_X10_isWithin (by decide) [] rfl rfl rfl rfl (Nat.le_of_ble_eq_true rfl) dX10_now_31 (by decide)) (fun r_851 er_851 => ?_)
    clear hW; intro H locs hW
    refine lv_as (y := bI (iw x9 0 5)) er_851 ?_
    clear er_851 r_851
    refine lv_if_ne (tgt := 44) hx hb dX10_now_34 (by decide) (fun c_852 => ?_) (fun c_852 => ?_)
    · refine lv_aload_n hx hb dX10_now_44 rfl (lv_at hl 0 rfl) ?_
      refine g_get (k := 0) (v := .ref v) C hW 0 rfl rfl jnX10 (by decide) k_fl_X10_10 rfl dX10_now_45 ?_
      refine g_getN (k := 2) (v := .ref vc) (host := RX10) C hW 1 rfl rfl jnX9 (by decide) (List.mem_of_getElem? (i := 4) rfl) rfl dX10_now_48 ?_
      refine lv_iload_n hx hb dX10_now_51 rfl (lv_at hl 1 rfl) ?_
      refine g_ald C hW 2 rfl (by exact iw_in h1 (by decide)) dX10_now_52 ?_
      subst hQ
      exact g_iret (v := (ck x9.toNatClampNeg)) C hW hrt ⟨by rfl, rfl⟩ dX10_now_53
    · exfalso; exact dd (by first | assumption | exact okp_nI (by omega) (by assumption) | exact decide_eq_true (by first | assumption | omega)) c_852
  · exfalso; exact h6 c_850
set_option maxHeartbeats 4000000 in
set_option maxRecDepth 100000 in
theorem c_X10_now_bad (l : Launch) (G : gT) (v : Nat) (to iv jv rd st ra og : Nat) (k1 k2 ab be bds nos fls : Int32) (x9 : Int32) (h1 : iw x9 0 5 = false) (h6 : ¬ x9 = 6) : MI l G yX10_now cX10_now 2 .int ({ frames := 1, cells := 0, slots := 0, locals := 22 }) [.ref to, .int x9] [(to, .inr (8, [.ref v, .ref iv, .ref jv, .int k1, .int k2, .ref rd, .ref st, .ref ra, .ref og, .int ab, .int be, .int bds, .int nos, .int fls]))] (fun (r : Int32) w1 => ∃ u_ : Unit, (r = (-10)) ∧ w1 = [(to, .inr (8, [.ref v, .ref iv, .ref jv, .int k1, .int k2, .ref rd, .ref st, .ref ra, .ref og, .int ab, .int be, .int (bds + 1), .int nos, .int fls]))]) := by
  refine MI.mk (by decide) (Nat.le_of_ble_eq_true rfl) ?_
  intro p_ e_ s_ m_ ar_ be_ me_ cd_ A_ ls C hrt hW hl
  have hx := C.1; have hb := C.2.1; have hown := C.2.2.2.1; have ht := C.2.2.2.2.1
  replace hl : lv_has ls 2 [(0, .ref to), (1, .int x9)] := hl
  generalize hQ : MQ be_ _ ar_ s_ 0 0 A_ = Q
  refine lv_iload_n hx hb dX10_now_0 rfl (lv_at hl 1 rfl) ?_
  refine lv_bipush (v := 6) hx hb dX10_now_1 (by decide) ?_
  refine lv_icmp_ne (tgt := 28) hx hb dX10_now_3 (by decide) (fun c_853 => ?_) (fun c_853 => ?_)
  · refine lv_iload_n hx hb dX10_now_28 rfl (lv_at hl 1 rfl) ?_
    refine lv_iconst (v := 0) hx hb dX10_now_29 (by decide) ?_
    refine lv_iconst (v := 5) hx hb dX10_now_30 (by decide) ?_
    refine g_fi C hW [] rfl (g_runS (As := [.int x9, .int 0, .int 5]) (rest := []) (wc := []) C hW hl (c_X10_isWithin l G x9 0 5  _) k_ml_X10_73 q_X10_isWithin (by decide) [] rfl rfl rfl rfl (Nat.le_of_ble_eq_true rfl) dX10_now_31 (by decide)) (fun r_854 er_854 => ?_)
    clear hW; intro H locs hW
    refine lv_as (y := bI (iw x9 0 5)) er_854 ?_
    clear er_854 r_854
    refine lv_if_ne (tgt := 44) hx hb dX10_now_34 (by decide) (fun c_855 => ?_) (fun c_855 => ?_)
    · exfalso; exact dd0 (by first | assumption | exact decide_eq_false (by first | assumption | omega)) c_855
    · refine lv_aload_n hx hb dX10_now_37 rfl (lv_at hl 0 rfl) ?_
      refine lv_bipush (v := (-10)) hx hb dX10_now_38 (by decide) ?_
      refine g_fiw (wr := []) (ww := fun (u_ : Unit) => [(to, .inr (8, [.ref v, .ref iv, .ref jv, .int k1, .int k2, .ref rd, .ref st, .ref ra, .ref og, .int ab, .int be, .int (bds + 1), .int nos, .int fls]))]) (w2 := fun (u_ : Unit) => [(to, .inr (8, [.ref v, .ref iv, .ref jv, .int k1, .int k2, .ref rd, .ref st, .ref ra, .ref og, .int ab, .int be, .int (bds + 1), .int nos, .int fls]))]) C hW [0] [] [0] rfl rfl (by decide) (by decide) (by decide) (fun _ => rfl) (g_runV (As := [.int (-10)]) (rest := []) (wc := [(to, .inr (8, [.ref v, .ref iv, .ref jv, .int k1, .int k2, .ref rd, .ref st, .ref ra, .ref og, .int ab, .int be, .int bds, .int nos, .int fls]))]) (q0 := 0) (ci := 8) C hW hl (c_X10_refuseBad l G v to iv jv rd st ra og k1 k2 ab be bds nos fls (-10)  _) k_ml_X10_77 q_X10_refuseBad (by decide) [0] rfl rfl rfl rfl rfl rfl (Nat.le_of_ble_eq_true rfl) dX10_now_40 (by decide)) (fun r_856 _ er_856 => ?_)
      clear hW H locs; intro H locs hW
      refine lv_as (y := (-10)) er_856 ?_
      clear er_856 r_856
      replace hW : Wd G A_ s_.heap [(to, .inr (8, [.ref v, .ref iv, .ref jv, .int k1, .int k2, .ref rd, .ref st, .ref ra, .ref og, .int ab, .int be, .int (bds + 1), .int nos, .int fls]))] H locs := hW
      subst hQ
      exact g_iret (v := (-10)) C hW hrt ⟨(), by rfl, by rfl⟩ dX10_now_43
  · exfalso; exact h6 c_853
set_option maxHeartbeats 4000000 in
set_option maxRecDepth 100000 in
theorem c_X10_of_3 (l : Launch) (G : gT) (v vw vc vp vs vn vm vu : Nat) (wide : Int32) (to iv jv rd st ra og : Nat) (k1 k2 ab be bds nos fls : Int32) (vpc n : Nat) (pf : Nat → Int32) (ck : Nat → Int32) (k hr : Nat) (hk : k < n) (hn : n ≤ 7) (eh : ck 6 = nI hr) (hh : hr < 100000) : MI l G yX10_of cX10_of 3 .int ({ frames := 2, cells := 0, slots := 0, locals := 47 }) [.ref to, .int (nI k), .int 3] [(to, .inr (8, [.ref v, .ref iv, .ref jv, .int k1, .int k2, .ref rd, .ref st, .ref ra, .ref og, .int ab, .int be, .int bds, .int nos, .int fls])), (v, .inr (7, [.int wide, .ref vw, .ref vc, .ref vp, .ref vs, .ref vn, .ref vm, .ref vu])), (vp, .inr (4, [.int 7, .int 3, .ref vpc, .int (nI n)])), (vpc, .inl (G.2.1, 21, .inl pf)), (vc, .inl (G.2.1, 7, .inl ck))] (fun (r : Int32) w1 => (r = bl (pf (k * 3 + 0)) (pf (k * 3 + 2)) (nI (hr % 24))) ∧ w1 = [(to, .inr (8, [.ref v, .ref iv, .ref jv, .int k1, .int k2, .ref rd, .ref st, .ref ra, .ref og, .int ab, .int be, .int bds, .int nos, .int fls])), (v, .inr (7, [.int wide, .ref vw, .ref vc, .ref vp, .ref vs, .ref vn, .ref vm, .ref vu])), (vp, .inr (4, [.int 7, .int 3, .ref vpc, .int (nI n)])), (vpc, .inl (G.2.1, 21, .inl pf)), (vc, .inl (G.2.1, 7, .inl ck))]) := by
  refine MI.mk (by decide) (Nat.le_of_ble_eq_true rfl) ?_
  intro p_ e_ s_ m_ ar_ be_ me_ cd_ A_ ls C hrt hW hl
  have hx := C.1; have hb := C.2.1; have hown := C.2.2.2.1; have ht := C.2.2.2.2.1
  replace hl : lv_has ls 3 [(0, .ref to), (1, .int (nI k)), (2, .int 3)] := hl
  generalize hQ : MQ be_ _ ar_ s_ 0 0 A_ = Q
  refine lv_aload_n hx hb dX10_of_0 rfl (lv_at hl 0 rfl) ?_
  refine g_get (k := 0) (v := .ref v) C hW 0 rfl rfl jnX10 (by decide) k_fl_X10_10 rfl dX10_of_1 ?_
  refine g_getN (k := 3) (v := .ref vp) (host := RX10) C hW 1 rfl rfl jnX9 (by decide) (List.mem_of_getElem? (i := 5) rfl) rfl dX10_of_4 ?_
  refine lv_iload_n hx hb dX10_of_7 rfl (lv_at hl 1 rfl) ?_
  refine g_fi C hW [2] rfl (g_runV (As := [.int (nI k)]) (rest := []) (wc := [(vp, .inr (4, [.int 7, .int 3, .ref vpc, .int (nI n)]))]) (q0 := 0) (ci := 4) C hW hl (c_X6_has l G vp vpc 7 3 n (nI k)  _) k_ml_X10_161 q_X6_has (by decide) [2] rfl rfl rfl rfl rfl rfl (Nat.le_of_ble_eq_true rfl) dX10_of_8 (by decide)) (fun r_858 er_858 => ?_)
  clear hW; intro H locs hW
  refine lv_as (y := bI (okp n (nI k))) er_858 ?_
  clear er_858 r_858
  refine lv_if_eq (tgt := 23) hx hb dX10_of_11 (by decide) (fun c_859 => ?_) (fun c_859 => ?_)
  · exfalso; exact dd (by first | assumption | exact okp_nI (by omega) (by assumption) | exact decide_eq_true (by first | assumption | omega)) c_859
  · refine lv_iload_n hx hb dX10_of_14 rfl (lv_at hl 2 rfl) ?_
    refine lv_iconst (v := 0) hx hb dX10_of_15 (by decide) ?_
    refine lv_iconst (v := 3) hx hb dX10_of_16 (by decide) ?_
    refine g_fi C hW [] rfl (g_runS (As := [.int 3, .int 0, .int 3]) (rest := []) (wc := []) C hW hl (c_X10_isWithin l G 3 0 3  _) k_ml_X10_73 q_X10_isWithin (by decide) [] rfl rfl rfl rfl (Nat.le_of_ble_eq_true rfl) dX10_of_17 (by decide)) (fun r_860 er_860 => ?_)
    clear hW H locs; intro H locs hW
    refine lv_as (y := bI (iw 3 0 3)) er_860 ?_
    clear er_860 r_860
    refine lv_if_ne (tgt := 30) hx hb dX10_of_20 (by decide) (fun c_861 => ?_) (fun c_861 => ?_)
    · refine lv_iload_n hx hb dX10_of_30 rfl (lv_at hl 2 rfl) ?_
      refine lv_iconst (v := 3) hx hb dX10_of_31 (by decide) ?_
      refine lv_icmp_ne (tgt := 53) hx hb dX10_of_32 (by decide) (fun c_862 => ?_) (fun c_862 => ?_)
      · exfalso; exact c_862 rfl
      · refine lv_aload_n hx hb dX10_of_35 rfl (lv_at hl 0 rfl) ?_
        refine g_get (k := 0) (v := .ref v) C hW 0 rfl rfl jnX10 (by decide) k_fl_X10_10 rfl dX10_of_36 ?_
        refine lv_iload_n hx hb dX10_of_39 rfl (lv_at hl 1 rfl) ?_
        refine lv_aload_n hx hb dX10_of_40 rfl (lv_at hl 0 rfl) ?_
        refine g_get (k := 0) (v := .ref v) C hW 0 rfl rfl jnX10 (by decide) k_fl_X10_10 rfl dX10_of_41 ?_
        refine g_fi C hW [1, 4] rfl (g_runV (As := []) (rest := [.int (nI k), .ref v]) (wc := [(v, .inr (7, [.int wide, .ref vw, .ref vc, .ref vp, .ref vs, .ref vn, .ref vm, .ref vu])), (vc, .inl (G.2.1, 7, .inl ck))]) (q0 := 0) (ci := 7) C hW hl (c_X9_hour l G v vw vc vp vs vn vm vu wide ck  _) k_ml_X10_192 q_X9_hour (by decide) [1, 4] rfl rfl rfl rfl rfl rfl (Nat.le_of_ble_eq_true rfl) dX10_of_44 (by decide)) (fun r_863 er_863 => ?_)
        clear hW H locs; intro H locs hW
        refine lv_as (y := ck 6) er_863 ?_
        clear er_863 r_863
        refine lv_as (y := nI hr) (eh) ?_
        refine g_fi C hW [1, 2, 3] rfl (g_runV (As := [.int (nI k), .int (nI hr)]) (rest := []) (wc := [(v, .inr (7, [.int wide, .ref vw, .ref vc, .ref vp, .ref vs, .ref vn, .ref vm, .ref vu])), (vp, .inr (4, [.int 7, .int 3, .ref vpc, .int (nI n)])), (vpc, .inl (G.2.1, 21, .inl pf))]) (q0 := 0) (ci := 7) C hW hl (c_X9_force l G v vw vc vp vs vn vm vu wide vpc n pf k hr (by first | assumption | omega) (by first | assumption | omega) (by omega) _) k_ml_X10_207 q_X9_force (by decide) [1, 2, 3] rfl rfl rfl rfl rfl rfl (Nat.le_of_ble_eq_true rfl) dX10_of_47 (by decide)) (fun r_864 er_864 => ?_)
        clear hW H locs; intro H locs hW
        refine lv_as (y := bl (pf (k * 3 + 0)) (pf (k * 3 + 2)) (nI (hr % 24))) er_864 ?_
        clear er_864 r_864
        refine lv_goto (tgt := 65) hx hb dX10_of_50 (by decide) ?_
        subst hQ
        exact g_iret (v := (bl (pf (k * 3 + 0)) (pf (k * 3 + 2)) (nI (hr % 24)))) C hW hrt ⟨by rfl, rfl⟩ dX10_of_65
    · exfalso; exact absurd c_861 (by decide)
set_option maxHeartbeats 4000000 in
set_option maxRecDepth 100000 in
theorem c_X10_of_ok (l : Launch) (G : gT) (v vw vc vp vs vn vm vu : Nat) (wide : Int32) (to iv jv rd st ra og : Nat) (k1 k2 ab be bds nos fls : Int32) (vpc n : Nat) (pf : Nat → Int32) (k j : Nat) (hk : k < n) (hn : n ≤ 7) (hj : j < 3) : MI l G yX10_of cX10_of 3 .int ({ frames := 1, cells := 0, slots := 0, locals := 22 }) [.ref to, .int (nI k), .int (nI j)] [(to, .inr (8, [.ref v, .ref iv, .ref jv, .int k1, .int k2, .ref rd, .ref st, .ref ra, .ref og, .int ab, .int be, .int bds, .int nos, .int fls])), (v, .inr (7, [.int wide, .ref vw, .ref vc, .ref vp, .ref vs, .ref vn, .ref vm, .ref vu])), (vp, .inr (4, [.int 7, .int 3, .ref vpc, .int (nI n)])), (vpc, .inl (G.2.1, 21, .inl pf))] (fun (r : Int32) w1 => (r = pf (k * 3 + j)) ∧ w1 = [(to, .inr (8, [.ref v, .ref iv, .ref jv, .int k1, .int k2, .ref rd, .ref st, .ref ra, .ref og, .int ab, .int be, .int bds, .int nos, .int fls])), (v, .inr (7, [.int wide, .ref vw, .ref vc, .ref vp, .ref vs, .ref vn, .ref vm, .ref vu])), (vp, .inr (4, [.int 7, .int 3, .ref vpc, .int (nI n)])), (vpc, .inl (G.2.1, 21, .inl pf))]) := by
  refine MI.mk (by decide) (Nat.le_of_ble_eq_true rfl) ?_
  intro p_ e_ s_ m_ ar_ be_ me_ cd_ A_ ls C hrt hW hl
  have hx := C.1; have hb := C.2.1; have hown := C.2.2.2.1; have ht := C.2.2.2.2.1
  replace hl : lv_has ls 3 [(0, .ref to), (1, .int (nI k)), (2, .int (nI j))] := hl
  generalize hQ : MQ be_ _ ar_ s_ 0 0 A_ = Q
  refine lv_aload_n hx hb dX10_of_0 rfl (lv_at hl 0 rfl) ?_
  refine g_get (k := 0) (v := .ref v) C hW 0 rfl rfl jnX10 (by decide) k_fl_X10_10 rfl dX10_of_1 ?_
  refine g_getN (k := 3) (v := .ref vp) (host := RX10) C hW 1 rfl rfl jnX9 (by decide) (List.mem_of_getElem? (i := 5) rfl) rfl dX10_of_4 ?_
  refine lv_iload_n hx hb dX10_of_7 rfl (lv_at hl 1 rfl) ?_
  refine g_fi C hW [2] rfl (g_runV (As := [.int (nI k)]) (rest := []) (wc := [(vp, .inr (4, [.int 7, .int 3, .ref vpc, .int (nI n)]))]) (q0 := 0) (ci := 4) C hW hl (c_X6_has l G vp vpc 7 3 n (nI k)  _) k_ml_X10_161 q_X6_has (by decide) [2] rfl rfl rfl rfl rfl rfl (Nat.le_of_ble_eq_true rfl) dX10_of_8 (by decide)) (fun r_865 er_865 => ?_)
  clear hW; intro H locs hW
  refine lv_as (y := bI (okp n (nI k))) er_865 ?_
  clear er_865 r_865
  refine lv_if_eq (tgt := 23) hx hb dX10_of_11 (by decide) (fun c_866 => ?_) (fun c_866 => ?_)
  · exfalso; exact dd (by first | assumption | exact okp_nI (by omega) (by assumption) | exact decide_eq_true (by first | assumption | omega)) c_866
  · refine lv_iload_n hx hb dX10_of_14 rfl (lv_at hl 2 rfl) ?_
    refine lv_iconst (v := 0) hx hb dX10_of_15 (by decide) ?_
    refine lv_iconst (v := 3) hx hb dX10_of_16 (by decide) ?_
    refine g_fi C hW [] rfl (g_runS (As := [.int (nI j), .int 0, .int 3]) (rest := []) (wc := []) C hW hl (c_X10_isWithin l G (nI j) 0 3  _) k_ml_X10_73 q_X10_isWithin (by decide) [] rfl rfl rfl rfl (Nat.le_of_ble_eq_true rfl) dX10_of_17 (by decide)) (fun r_867 er_867 => ?_)
    clear hW H locs; intro H locs hW
    refine lv_as (y := bI (iw (nI j) 0 3)) er_867 ?_
    clear er_867 r_867
    refine lv_if_ne (tgt := 30) hx hb dX10_of_20 (by decide) (fun c_868 => ?_) (fun c_868 => ?_)
    · refine lv_iload_n hx hb dX10_of_30 rfl (lv_at hl 2 rfl) ?_
      refine lv_iconst (v := 3) hx hb dX10_of_31 (by decide) ?_
      refine lv_icmp_ne (tgt := 53) hx hb dX10_of_32 (by decide) (fun c_869 => ?_) (fun c_869 => ?_)
      · have c_869n : ¬ j = 3 := fun q => c_869 ((nI_eq (a := j) (b := 3) (by omega) (by omega)).mpr q)
        refine lv_aload_n hx hb dX10_of_53 rfl (lv_at hl 0 rfl) ?_
        refine g_get (k := 0) (v := .ref v) C hW 0 rfl rfl jnX10 (by decide) k_fl_X10_10 rfl dX10_of_54 ?_
        refine g_getN (k := 3) (v := .ref vp) (host := RX10) C hW 1 rfl rfl jnX9 (by decide) (List.mem_of_getElem? (i := 5) rfl) rfl dX10_of_57 ?_
        refine lv_iload_n hx hb dX10_of_60 rfl (lv_at hl 1 rfl) ?_
        refine lv_iload_n hx hb dX10_of_61 rfl (lv_at hl 2 rfl) ?_
        refine g_fi C hW [2, 3] rfl (g_runV (As := [.int (nI k), .int (nI j)]) (rest := []) (wc := [(vp, .inr (4, [.int 7, .int 3, .ref vpc, .int (nI n)])), (vpc, .inl (G.2.1, 21, .inl pf))]) (q0 := 0) (ci := 4) C hW hl (c_X6_cell l G vp vpc 7 3 n pf k j (by first | assumption | omega) (by first | assumption | omega) (by first | assumption | omega) (by first | assumption | omega) _) k_ml_X10_210 q_X6_cell (by decide) [2, 3] rfl rfl rfl rfl rfl rfl (Nat.le_of_ble_eq_true rfl) dX10_of_62 (by decide)) (fun r_870 er_870 => ?_)
        clear hW H locs; intro H locs hW
        refine lv_as (y := pf (k * 3 + j)) er_870 ?_
        clear er_870 r_870
        subst hQ
        exact g_iret (v := (pf (k * 3 + j))) C hW hrt ⟨by rfl, rfl⟩ dX10_of_65
      · have c_869n : j = 3 := (nI_eq (a := j) (b := 3) (by omega) (by omega)).mp c_869
        exfalso; omega
    · exfalso; exact dd (iw_nI (m := 3) (by omega) (by omega)) c_868
set_option maxHeartbeats 4000000 in
set_option maxRecDepth 100000 in
theorem c_X10_of_bad (l : Launch) (G : gT) (v vw vc vp vs vn vm vu : Nat) (wide : Int32) (to iv jv rd st ra og : Nat) (k1 k2 ab be bds nos fls : Int32) (vpc n : Nat) (p9 x9 : Int32) (hbad : (okp n p9 && iw x9 0 3) = false) : MI l G yX10_of cX10_of 3 .int ({ frames := 1, cells := 0, slots := 0, locals := 22 }) [.ref to, .int p9, .int x9] [(to, .inr (8, [.ref v, .ref iv, .ref jv, .int k1, .int k2, .ref rd, .ref st, .ref ra, .ref og, .int ab, .int be, .int bds, .int nos, .int fls])), (v, .inr (7, [.int wide, .ref vw, .ref vc, .ref vp, .ref vs, .ref vn, .ref vm, .ref vu])), (vp, .inr (4, [.int 7, .int 3, .ref vpc, .int (nI n)]))] (fun (r : Int32) w1 => ∃ u_ : Unit, (r = (-2)) ∧ w1 = [(to, .inr (8, [.ref v, .ref iv, .ref jv, .int k1, .int k2, .ref rd, .ref st, .ref ra, .ref og, .int ab, .int be, .int (bds + 1), .int nos, .int fls])), (v, .inr (7, [.int wide, .ref vw, .ref vc, .ref vp, .ref vs, .ref vn, .ref vm, .ref vu])), (vp, .inr (4, [.int 7, .int 3, .ref vpc, .int (nI n)]))]) := by
  refine MI.mk (by decide) (Nat.le_of_ble_eq_true rfl) ?_
  intro p_ e_ s_ m_ ar_ be_ me_ cd_ A_ ls C hrt hW hl
  have hx := C.1; have hb := C.2.1; have hown := C.2.2.2.1; have ht := C.2.2.2.2.1
  replace hl : lv_has ls 3 [(0, .ref to), (1, .int p9), (2, .int x9)] := hl
  generalize hQ : MQ be_ _ ar_ s_ 0 0 A_ = Q
  refine lv_aload_n hx hb dX10_of_0 rfl (lv_at hl 0 rfl) ?_
  refine g_get (k := 0) (v := .ref v) C hW 0 rfl rfl jnX10 (by decide) k_fl_X10_10 rfl dX10_of_1 ?_
  refine g_getN (k := 3) (v := .ref vp) (host := RX10) C hW 1 rfl rfl jnX9 (by decide) (List.mem_of_getElem? (i := 5) rfl) rfl dX10_of_4 ?_
  refine lv_iload_n hx hb dX10_of_7 rfl (lv_at hl 1 rfl) ?_
  refine g_fi C hW [2] rfl (g_runV (As := [.int p9]) (rest := []) (wc := [(vp, .inr (4, [.int 7, .int 3, .ref vpc, .int (nI n)]))]) (q0 := 0) (ci := 4) C hW hl (c_X6_has l G vp vpc 7 3 n p9  _) k_ml_X10_161 q_X6_has (by decide) [2] rfl rfl rfl rfl rfl rfl (Nat.le_of_ble_eq_true rfl) dX10_of_8 (by decide)) (fun r_871 er_871 => ?_)
  clear hW; intro H locs hW
  refine lv_as (y := bI (okp n p9)) er_871 ?_
  clear er_871 r_871
  have J_875 : ∀ (H : Heap) (locs : List Loc) (ls : Array Slot), Wd G A_ s_.heap [(to, .inr (8, [.ref v, .ref iv, .ref jv, .int k1, .int k2, .ref rd, .ref st, .ref ra, .ref og, .int ab, .int be, .int bds, .int nos, .int fls])), (v, .inr (7, [.int wide, .ref vw, .ref vc, .ref vp, .ref vs, .ref vn, .ref vm, .ref vu])), (vp, .inr (4, [.int 7, .int 3, .ref vpc, .int (nI n)]))] H locs → lv_has ls 3 [(0, .ref to), (1, .int p9), (2, .int x9)] → W p_ l e_ ({ frames := 1, cells := 0, slots := 0, locals := 22 }) s_ m_ ar_ be_ me_ cd_ H locs 0 0 Q (F0 m_ 23 ls []) := by
    intro  H locs ls hW hl
    refine lv_aload_n hx hb dX10_of_23 rfl (lv_at hl 0 rfl) ?_
    refine lv_bipush (v := (-2)) hx hb dX10_of_24 (by decide) ?_
    refine g_fiw (wr := [(v, .inr (7, [.int wide, .ref vw, .ref vc, .ref vp, .ref vs, .ref vn, .ref vm, .ref vu])), (vp, .inr (4, [.int 7, .int 3, .ref vpc, .int (nI n)]))]) (ww := fun (u_ : Unit) => [(to, .inr (8, [.ref v, .ref iv, .ref jv, .int k1, .int k2, .ref rd, .ref st, .ref ra, .ref og, .int ab, .int be, .int (bds + 1), .int nos, .int fls]))]) (w2 := fun (u_ : Unit) => [(to, .inr (8, [.ref v, .ref iv, .ref jv, .int k1, .int k2, .ref rd, .ref st, .ref ra, .ref og, .int ab, .int be, .int (bds + 1), .int nos, .int fls])), (v, .inr (7, [.int wide, .ref vw, .ref vc, .ref vp, .ref vs, .ref vn, .ref vm, .ref vu])), (vp, .inr (4, [.int 7, .int 3, .ref vpc, .int (nI n)]))]) C hW [0] [1, 2] [2, 0, 1] rfl rfl (by decide) (by decide) (by decide) (fun _ => rfl) (g_runV (As := [.int (-2)]) (rest := []) (wc := [(to, .inr (8, [.ref v, .ref iv, .ref jv, .int k1, .int k2, .ref rd, .ref st, .ref ra, .ref og, .int ab, .int be, .int bds, .int nos, .int fls]))]) (q0 := 0) (ci := 8) C hW hl (c_X10_refuseBad l G v to iv jv rd st ra og k1 k2 ab be bds nos fls (-2)  _) k_ml_X10_77 q_X10_refuseBad (by decide) [0] rfl rfl rfl rfl rfl rfl (Nat.le_of_ble_eq_true rfl) dX10_of_26 (by decide)) (fun r_876 _ er_876 => ?_)
    clear hW H locs; intro H locs hW
    refine lv_as (y := (-2)) er_876 ?_
    clear er_876 r_876
    replace hW : Wd G A_ s_.heap [(to, .inr (8, [.ref v, .ref iv, .ref jv, .int k1, .int k2, .ref rd, .ref st, .ref ra, .ref og, .int ab, .int be, .int (bds + 1), .int nos, .int fls])), (v, .inr (7, [.int wide, .ref vw, .ref vc, .ref vp, .ref vs, .ref vn, .ref vm, .ref vu])), (vp, .inr (4, [.int 7, .int 3, .ref vpc, .int (nI n)]))] H locs := hW
    subst hQ
    exact g_iret (v := (-2)) C hW hrt ⟨(), by rfl, by rfl⟩ dX10_of_29
  refine lv_if_eq (tgt := 23) hx hb dX10_of_11 (by decide) (fun c_872 => ?_) (fun c_872 => ?_)
  · exact J_875  _ _ _ hW (lv_sub hl [0, 1, 2] rfl)
  · refine lv_iload_n hx hb dX10_of_14 rfl (lv_at hl 2 rfl) ?_
    refine lv_iconst (v := 0) hx hb dX10_of_15 (by decide) ?_
    refine lv_iconst (v := 3) hx hb dX10_of_16 (by decide) ?_
    refine g_fi C hW [] rfl (g_runS (As := [.int x9, .int 0, .int 3]) (rest := []) (wc := []) C hW hl (c_X10_isWithin l G x9 0 3  _) k_ml_X10_73 q_X10_isWithin (by decide) [] rfl rfl rfl rfl (Nat.le_of_ble_eq_true rfl) dX10_of_17 (by decide)) (fun r_878 er_878 => ?_)
    clear hW H locs; intro H locs hW
    refine lv_as (y := bI (iw x9 0 3)) er_878 ?_
    clear er_878 r_878
    refine lv_if_ne (tgt := 30) hx hb dX10_of_20 (by decide) (fun c_879 => ?_) (fun c_879 => ?_)
    · exfalso; simp [bI_ne.mp c_872, bI_ne.mp c_879, if_true, if_false, reduceIte, Bool.false_eq_true] at hbad
    · exact J_875  _ _ _ hW (lv_sub hl [0, 1, 2] rfl)
set_option maxHeartbeats 4000000 in
set_option maxRecDepth 100000 in
theorem c_X10_reach_ok (l : Launch) (G : gT) (v vw vc vp vs vn vm vu : Nat) (wide : Int32) (vpc n : Nat) (pf : Nat → Int32) (ck wd : Nat → Int32) (to iv jv rd st ra og : Nat) (k1 k2 ab be bds nos fls : Int32) (k m9 hr : Nat) (hk : k < n) (hn : n ≤ 7) (eh : ck 6 = nI hr) (hh : hr < 10000) (hm : m9 < 48) (hP : okP n pf) (hWd : okW wd) (hg : Rg (ck 1) 1 9) : MI l G yX10_reach cX10_reach 3 .int ({ frames := 4, cells := 0, slots := 0, locals := 93 }) [.ref to, .int (nI k), .int (nI m9)] [(to, .inr (8, [.ref v, .ref iv, .ref jv, .int k1, .int k2, .ref rd, .ref st, .ref ra, .ref og, .int ab, .int be, .int bds, .int nos, .int fls])), (v, .inr (7, [.int wide, .ref vw, .ref vc, .ref vp, .ref vs, .ref vn, .ref vm, .ref vu])), (vp, .inr (4, [.int 7, .int 3, .ref vpc, .int (nI n)])), (vpc, .inl (G.2.1, 21, .inl pf)), (vc, .inl (G.2.1, 7, .inl ck)), (vw, .inl (G.2.1, 6, .inl wd))] (fun (r : Int32) w1 => (r = rch ck wd pf k (hr + m9) (pf (k * 3 + 1)) (ck 1)) ∧ w1 = [(to, .inr (8, [.ref v, .ref iv, .ref jv, .int k1, .int k2, .ref rd, .ref st, .ref ra, .ref og, .int ab, .int be, .int bds, .int nos, .int fls])), (v, .inr (7, [.int wide, .ref vw, .ref vc, .ref vp, .ref vs, .ref vn, .ref vm, .ref vu])), (vp, .inr (4, [.int 7, .int 3, .ref vpc, .int (nI n)])), (vpc, .inl (G.2.1, 21, .inl pf)), (vc, .inl (G.2.1, 7, .inl ck)), (vw, .inl (G.2.1, 6, .inl wd))]) := by
  refine MI.mk (by decide) (Nat.le_of_ble_eq_true rfl) ?_
  intro p_ e_ s_ m_ ar_ be_ me_ cd_ A_ ls C hrt hW hl
  have hx := C.1; have hb := C.2.1; have hown := C.2.2.2.1; have ht := C.2.2.2.2.1
  replace hl : lv_has ls 3 [(0, .ref to), (1, .int (nI k)), (2, .int (nI m9))] := hl
  generalize hQ : MQ be_ _ ar_ s_ 0 0 A_ = Q
  refine lv_aload_n hx hb dX10_reach_0 rfl (lv_at hl 0 rfl) ?_
  refine g_get (k := 0) (v := .ref v) C hW 0 rfl rfl jnX10 (by decide) k_fl_X10_10 rfl dX10_reach_1 ?_
  refine g_getN (k := 3) (v := .ref vp) (host := RX10) C hW 1 rfl rfl jnX9 (by decide) (List.mem_of_getElem? (i := 5) rfl) rfl dX10_reach_4 ?_
  refine lv_iload_n hx hb dX10_reach_7 rfl (lv_at hl 1 rfl) ?_
  refine g_fi C hW [2] rfl (g_runV (As := [.int (nI k)]) (rest := []) (wc := [(vp, .inr (4, [.int 7, .int 3, .ref vpc, .int (nI n)]))]) (q0 := 0) (ci := 4) C hW hl (c_X6_has l G vp vpc 7 3 n (nI k)  _) k_ml_X10_161 q_X6_has (by decide) [2] rfl rfl rfl rfl rfl rfl (Nat.le_of_ble_eq_true rfl) dX10_reach_8 (by decide)) (fun r_880 er_880 => ?_)
  clear hW; intro H locs hW
  refine lv_as (y := bI (okp n (nI k))) er_880 ?_
  clear er_880 r_880
  refine lv_if_eq (tgt := 24) hx hb dX10_reach_11 (by decide) (fun c_881 => ?_) (fun c_881 => ?_)
  · exfalso; exact dd (by first | assumption | exact okp_nI (by omega) (by assumption) | exact decide_eq_true (by first | assumption | omega)) c_881
  · refine lv_iload_n hx hb dX10_reach_14 rfl (lv_at hl 2 rfl) ?_
    refine lv_iconst (v := 0) hx hb dX10_reach_15 (by decide) ?_
    refine lv_bipush (v := 47) hx hb dX10_reach_16 (by decide) ?_
    refine g_fi C hW [] rfl (g_runS (As := [.int (nI m9), .int 0, .int 47]) (rest := []) (wc := []) C hW hl (c_X10_isWithin l G (nI m9) 0 47  _) k_ml_X10_73 q_X10_isWithin (by decide) [] rfl rfl rfl rfl (Nat.le_of_ble_eq_true rfl) dX10_reach_18 (by decide)) (fun r_882 er_882 => ?_)
    clear hW H locs; intro H locs hW
    refine lv_as (y := bI (iw (nI m9) 0 47)) er_882 ?_
    clear er_882 r_882
    refine lv_if_ne (tgt := 31) hx hb dX10_reach_21 (by decide) (fun c_883 => ?_) (fun c_883 => ?_)
    · refine lv_aload_n hx hb dX10_reach_31 rfl (lv_at hl 0 rfl) ?_
      refine g_get (k := 0) (v := .ref v) C hW 0 rfl rfl jnX10 (by decide) k_fl_X10_10 rfl dX10_reach_32 ?_
      refine lv_iload_n hx hb dX10_reach_35 rfl (lv_at hl 1 rfl) ?_
      refine lv_aload_n hx hb dX10_reach_36 rfl (lv_at hl 0 rfl) ?_
      refine g_get (k := 0) (v := .ref v) C hW 0 rfl rfl jnX10 (by decide) k_fl_X10_10 rfl dX10_reach_37 ?_
      refine g_fi C hW [1, 4] rfl (g_runV (As := []) (rest := [.int (nI k), .ref v]) (wc := [(v, .inr (7, [.int wide, .ref vw, .ref vc, .ref vp, .ref vs, .ref vn, .ref vm, .ref vu])), (vc, .inl (G.2.1, 7, .inl ck))]) (q0 := 0) (ci := 7) C hW hl (c_X9_hour l G v vw vc vp vs vn vm vu wide ck  _) k_ml_X10_192 q_X9_hour (by decide) [1, 4] rfl rfl rfl rfl rfl rfl (Nat.le_of_ble_eq_true rfl) dX10_reach_40 (by decide)) (fun r_884 er_884 => ?_)
      clear hW H locs; intro H locs hW
      refine lv_as (y := ck 6) er_884 ?_
      clear er_884 r_884
      refine lv_as (y := nI hr) (eh) ?_
      refine lv_iload_n hx hb dX10_reach_43 rfl (lv_at hl 2 rfl) ?_
      refine lv_iadd hx hb dX10_reach_44 ?_
      refine lv_as (y := nI (hr + m9)) (nI_add _ _) ?_
      refine g_fi C hW [1, 2, 3, 4, 5] rfl (g_runV (As := [.int (nI k), .int (nI (hr + m9))]) (rest := []) (wc := [(v, .inr (7, [.int wide, .ref vw, .ref vc, .ref vp, .ref vs, .ref vn, .ref vm, .ref vu])), (vp, .inr (4, [.int 7, .int 3, .ref vpc, .int (nI n)])), (vpc, .inl (G.2.1, 21, .inl pf)), (vc, .inl (G.2.1, 7, .inl ck)), (vw, .inl (G.2.1, 6, .inl wd))]) (q0 := 0) (ci := 7) C hW hl (c_X9_reachOf l G v vw vc vp vs vn vm vu wide vpc n pf ck wd k (hr + m9) (by first | assumption | omega) (by first | assumption | omega) (by omega) (by assumption) (by assumption) (by assumption) _) k_ml_X10_213 q_X9_reachOf (by decide) [1, 2, 3, 4, 5] rfl rfl rfl rfl rfl rfl (Nat.le_of_ble_eq_true rfl) dX10_reach_45 (by decide)) (fun r_885 er_885 => ?_)
      clear hW H locs; intro H locs hW
      refine lv_as (y := rch ck wd pf k (hr + m9) (pf (k * 3 + 1)) (ck 1)) er_885 ?_
      clear er_885 r_885
      subst hQ
      exact g_iret (v := (rch ck wd pf k (hr + m9) (pf (k * 3 + 1)) (ck 1))) C hW hrt ⟨by rfl, rfl⟩ dX10_reach_48
    · exfalso; exact dd (iw_nI (m := 47) (by omega) (by omega)) c_883
set_option maxHeartbeats 4000000 in
set_option maxRecDepth 100000 in
theorem c_X10_reach_bad (l : Launch) (G : gT) (v vw vc vp vs vn vm vu : Nat) (wide : Int32) (to iv jv rd st ra og : Nat) (k1 k2 ab be bds nos fls : Int32) (vpc n : Nat) (p9 x9 : Int32) (hbad : (okp n p9 && iw x9 0 47) = false) : MI l G yX10_reach cX10_reach 3 .int ({ frames := 1, cells := 0, slots := 0, locals := 22 }) [.ref to, .int p9, .int x9] [(to, .inr (8, [.ref v, .ref iv, .ref jv, .int k1, .int k2, .ref rd, .ref st, .ref ra, .ref og, .int ab, .int be, .int bds, .int nos, .int fls])), (v, .inr (7, [.int wide, .ref vw, .ref vc, .ref vp, .ref vs, .ref vn, .ref vm, .ref vu])), (vp, .inr (4, [.int 7, .int 3, .ref vpc, .int (nI n)]))] (fun (r : Int32) w1 => ∃ u_ : Unit, (r = (-2)) ∧ w1 = [(to, .inr (8, [.ref v, .ref iv, .ref jv, .int k1, .int k2, .ref rd, .ref st, .ref ra, .ref og, .int ab, .int be, .int (bds + 1), .int nos, .int fls])), (v, .inr (7, [.int wide, .ref vw, .ref vc, .ref vp, .ref vs, .ref vn, .ref vm, .ref vu])), (vp, .inr (4, [.int 7, .int 3, .ref vpc, .int (nI n)]))]) := by
  refine MI.mk (by decide) (Nat.le_of_ble_eq_true rfl) ?_
  intro p_ e_ s_ m_ ar_ be_ me_ cd_ A_ ls C hrt hW hl
  have hx := C.1; have hb := C.2.1; have hown := C.2.2.2.1; have ht := C.2.2.2.2.1
  replace hl : lv_has ls 3 [(0, .ref to), (1, .int p9), (2, .int x9)] := hl
  generalize hQ : MQ be_ _ ar_ s_ 0 0 A_ = Q
  refine lv_aload_n hx hb dX10_reach_0 rfl (lv_at hl 0 rfl) ?_
  refine g_get (k := 0) (v := .ref v) C hW 0 rfl rfl jnX10 (by decide) k_fl_X10_10 rfl dX10_reach_1 ?_
  refine g_getN (k := 3) (v := .ref vp) (host := RX10) C hW 1 rfl rfl jnX9 (by decide) (List.mem_of_getElem? (i := 5) rfl) rfl dX10_reach_4 ?_
  refine lv_iload_n hx hb dX10_reach_7 rfl (lv_at hl 1 rfl) ?_
  refine g_fi C hW [2] rfl (g_runV (As := [.int p9]) (rest := []) (wc := [(vp, .inr (4, [.int 7, .int 3, .ref vpc, .int (nI n)]))]) (q0 := 0) (ci := 4) C hW hl (c_X6_has l G vp vpc 7 3 n p9  _) k_ml_X10_161 q_X6_has (by decide) [2] rfl rfl rfl rfl rfl rfl (Nat.le_of_ble_eq_true rfl) dX10_reach_8 (by decide)) (fun r_886 er_886 => ?_)
  clear hW; intro H locs hW
  refine lv_as (y := bI (okp n p9)) er_886 ?_
  clear er_886 r_886
  have J_890 : ∀ (H : Heap) (locs : List Loc) (ls : Array Slot), Wd G A_ s_.heap [(to, .inr (8, [.ref v, .ref iv, .ref jv, .int k1, .int k2, .ref rd, .ref st, .ref ra, .ref og, .int ab, .int be, .int bds, .int nos, .int fls])), (v, .inr (7, [.int wide, .ref vw, .ref vc, .ref vp, .ref vs, .ref vn, .ref vm, .ref vu])), (vp, .inr (4, [.int 7, .int 3, .ref vpc, .int (nI n)]))] H locs → lv_has ls 3 [(0, .ref to), (1, .int p9), (2, .int x9)] → W p_ l e_ ({ frames := 1, cells := 0, slots := 0, locals := 22 }) s_ m_ ar_ be_ me_ cd_ H locs 0 0 Q (F0 m_ 24 ls []) := by
    intro  H locs ls hW hl
    refine lv_aload_n hx hb dX10_reach_24 rfl (lv_at hl 0 rfl) ?_
    refine lv_bipush (v := (-2)) hx hb dX10_reach_25 (by decide) ?_
    refine g_fiw (wr := [(v, .inr (7, [.int wide, .ref vw, .ref vc, .ref vp, .ref vs, .ref vn, .ref vm, .ref vu])), (vp, .inr (4, [.int 7, .int 3, .ref vpc, .int (nI n)]))]) (ww := fun (u_ : Unit) => [(to, .inr (8, [.ref v, .ref iv, .ref jv, .int k1, .int k2, .ref rd, .ref st, .ref ra, .ref og, .int ab, .int be, .int (bds + 1), .int nos, .int fls]))]) (w2 := fun (u_ : Unit) => [(to, .inr (8, [.ref v, .ref iv, .ref jv, .int k1, .int k2, .ref rd, .ref st, .ref ra, .ref og, .int ab, .int be, .int (bds + 1), .int nos, .int fls])), (v, .inr (7, [.int wide, .ref vw, .ref vc, .ref vp, .ref vs, .ref vn, .ref vm, .ref vu])), (vp, .inr (4, [.int 7, .int 3, .ref vpc, .int (nI n)]))]) C hW [0] [1, 2] [2, 0, 1] rfl rfl (by decide) (by decide) (by decide) (fun _ => rfl) (g_runV (As := [.int (-2)]) (rest := []) (wc := [(to, .inr (8, [.ref v, .ref iv, .ref jv, .int k1, .int k2, .ref rd, .ref st, .ref ra, .ref og, .int ab, .int be, .int bds, .int nos, .int fls]))]) (q0 := 0) (ci := 8) C hW hl (c_X10_refuseBad l G v to iv jv rd st ra og k1 k2 ab be bds nos fls (-2)  _) k_ml_X10_77 q_X10_refuseBad (by decide) [0] rfl rfl rfl rfl rfl rfl (Nat.le_of_ble_eq_true rfl) dX10_reach_27 (by decide)) (fun r_891 _ er_891 => ?_)
    clear hW H locs; intro H locs hW
    refine lv_as (y := (-2)) er_891 ?_
    clear er_891 r_891
    replace hW : Wd G A_ s_.heap [(to, .inr (8, [.ref v, .ref iv, .ref jv, .int k1, .int k2, .ref rd, .ref st, .ref ra, .ref og, .int ab, .int be, .int (bds + 1), .int nos, .int fls])), (v, .inr (7, [.int wide, .ref vw, .ref vc, .ref vp, .ref vs, .ref vn, .ref vm, .ref vu])), (vp, .inr (4, [.int 7, .int 3, .ref vpc, .int (nI n)]))] H locs := hW
    subst hQ
    exact g_iret (v := (-2)) C hW hrt ⟨(), by rfl, by rfl⟩ dX10_reach_30
  refine lv_if_eq (tgt := 24) hx hb dX10_reach_11 (by decide) (fun c_887 => ?_) (fun c_887 => ?_)
  · exact J_890  _ _ _ hW (lv_sub hl [0, 1, 2] rfl)
  · refine lv_iload_n hx hb dX10_reach_14 rfl (lv_at hl 2 rfl) ?_
    refine lv_iconst (v := 0) hx hb dX10_reach_15 (by decide) ?_
    refine lv_bipush (v := 47) hx hb dX10_reach_16 (by decide) ?_
    refine g_fi C hW [] rfl (g_runS (As := [.int x9, .int 0, .int 47]) (rest := []) (wc := []) C hW hl (c_X10_isWithin l G x9 0 47  _) k_ml_X10_73 q_X10_isWithin (by decide) [] rfl rfl rfl rfl (Nat.le_of_ble_eq_true rfl) dX10_reach_18 (by decide)) (fun r_893 er_893 => ?_)
    clear hW H locs; intro H locs hW
    refine lv_as (y := bI (iw x9 0 47)) er_893 ?_
    clear er_893 r_893
    refine lv_if_ne (tgt := 31) hx hb dX10_reach_21 (by decide) (fun c_894 => ?_) (fun c_894 => ?_)
    · exfalso; simp [bI_ne.mp c_887, bI_ne.mp c_894, if_true, if_false, reduceIte, Bool.false_eq_true] at hbad
    · exact J_890  _ _ _ hW (lv_sub hl [0, 1, 2] rfl)
set_option maxHeartbeats 4000000 in
set_option maxRecDepth 100000 in
theorem c_X10_may_up (l : Launch) (G : gT) (v vw vc vp vs vn vm vu : Nat) (wide : Int32) (vpc n : Nat) (pf : Nat → Int32) (ck wd : Nat → Int32) (to iv jv rd st ra og : Nat) (k1 k2 ab be bds nos fls : Int32) (hr : Nat) (hup : ck 3 = 1) (hn : n ≤ 7) (eh : ck 6 = nI hr) (hh : hr < 100000) (hP : okP n pf) (hWd : okW wd) (hg : Rg (ck 1) 1 9) : MI l G yX10_may cX10_may 1 .int ({ frames := 5, cells := 0, slots := 0, locals := 117 }) [.ref to] [(to, .inr (8, [.ref v, .ref iv, .ref jv, .int k1, .int k2, .ref rd, .ref st, .ref ra, .ref og, .int ab, .int be, .int bds, .int nos, .int fls])), (v, .inr (7, [.int wide, .ref vw, .ref vc, .ref vp, .ref vs, .ref vn, .ref vm, .ref vu])), (vp, .inr (4, [.int 7, .int 3, .ref vpc, .int (nI n)])), (vpc, .inl (G.2.1, 21, .inl pf)), (vc, .inl (G.2.1, 7, .inl ck)), (vw, .inl (G.2.1, 6, .inl wd))] (fun (r : Int32) w1 => (r = orF (fun i => decide (pf (i * 3 + 1) = ck 2) && decide (wide ≤ rch ck wd pf i hr (pf (i * 3 + 1)) (ck 1))) n) ∧ w1 = [(to, .inr (8, [.ref v, .ref iv, .ref jv, .int k1, .int k2, .ref rd, .ref st, .ref ra, .ref og, .int ab, .int be, .int bds, .int nos, .int fls])), (v, .inr (7, [.int wide, .ref vw, .ref vc, .ref vp, .ref vs, .ref vn, .ref vm, .ref vu])), (vp, .inr (4, [.int 7, .int 3, .ref vpc, .int (nI n)])), (vpc, .inl (G.2.1, 21, .inl pf)), (vc, .inl (G.2.1, 7, .inl ck)), (vw, .inl (G.2.1, 6, .inl wd))]) := by
  refine MI.mk (by decide) (Nat.le_of_ble_eq_true rfl) ?_
  intro p_ e_ s_ m_ ar_ be_ me_ cd_ A_ ls C hrt hW hl
  have hx := C.1; have hb := C.2.1; have hown := C.2.2.2.1; have ht := C.2.2.2.2.1
  replace hl : lv_has ls 1 [(0, .ref to)] := hl
  generalize hQ : MQ be_ _ ar_ s_ 0 0 A_ = Q
  refine lv_aload_n hx hb dX10_may_0 rfl (lv_at hl 0 rfl) ?_
  refine g_get (k := 0) (v := .ref v) C hW 0 rfl rfl jnX10 (by decide) k_fl_X10_10 rfl dX10_may_1 ?_
  refine g_fi C hW [1, 4] rfl (g_runV (As := []) (rest := []) (wc := [(v, .inr (7, [.int wide, .ref vw, .ref vc, .ref vp, .ref vs, .ref vn, .ref vm, .ref vu])), (vc, .inl (G.2.1, 7, .inl ck))]) (q0 := 0) (ci := 7) C hW hl (c_X9_isUp l G v vw vc vp vs vn vm vu wide ck  _) k_ml_X10_176 q_X9_isUp (by decide) [1, 4] rfl rfl rfl rfl rfl rfl (Nat.le_of_ble_eq_true rfl) dX10_may_4 (by decide)) (fun r_895 er_895 => ?_)
  clear hW; intro H locs hW
  refine lv_as (y := bI (decide (ck 3 = 1))) er_895 ?_
  clear er_895 r_895
  refine lv_if_eq (tgt := 34) hx hb dX10_may_7 (by decide) (fun c_896 => ?_) (fun c_896 => ?_)
  · exfalso; exact dd (by first | assumption | exact okp_nI (by omega) (by assumption) | exact decide_eq_true (by first | assumption | omega)) c_896
  · refine lv_aload_n hx hb dX10_may_10 rfl (lv_at hl 0 rfl) ?_
    refine g_get (k := 0) (v := .ref v) C hW 0 rfl rfl jnX10 (by decide) k_fl_X10_10 rfl dX10_may_11 ?_
    refine lv_aload_n hx hb dX10_may_14 rfl (lv_at hl 0 rfl) ?_
    refine g_get (k := 0) (v := .ref v) C hW 0 rfl rfl jnX10 (by decide) k_fl_X10_10 rfl dX10_may_15 ?_
    refine g_fi C hW [1, 4] rfl (g_runV (As := []) (rest := [.ref v]) (wc := [(v, .inr (7, [.int wide, .ref vw, .ref vc, .ref vp, .ref vs, .ref vn, .ref vm, .ref vu])), (vc, .inl (G.2.1, 7, .inl ck))]) (q0 := 0) (ci := 7) C hW hl (c_X9_hill l G v vw vc vp vs vn vm vu wide ck  _) k_ml_X10_200 q_X9_hill (by decide) [1, 4] rfl rfl rfl rfl rfl rfl (Nat.le_of_ble_eq_true rfl) dX10_may_18 (by decide)) (fun r_897 er_897 => ?_)
    clear hW H locs; intro H locs hW
    refine lv_as (y := ck 2) er_897 ?_
    clear er_897 r_897
    refine lv_aload_n hx hb dX10_may_21 rfl (lv_at hl 0 rfl) ?_
    refine g_get (k := 0) (v := .ref v) C hW 0 rfl rfl jnX10 (by decide) k_fl_X10_10 rfl dX10_may_22 ?_
    refine g_fi C hW [1, 4] rfl (g_runV (As := []) (rest := [.int (ck 2), .ref v]) (wc := [(v, .inr (7, [.int wide, .ref vw, .ref vc, .ref vp, .ref vs, .ref vn, .ref vm, .ref vu])), (vc, .inl (G.2.1, 7, .inl ck))]) (q0 := 0) (ci := 7) C hW hl (c_X9_hour l G v vw vc vp vs vn vm vu wide ck  _) k_ml_X10_192 q_X9_hour (by decide) [1, 4] rfl rfl rfl rfl rfl rfl (Nat.le_of_ble_eq_true rfl) dX10_may_25 (by decide)) (fun r_898 er_898 => ?_)
    clear hW H locs; intro H locs hW
    refine lv_as (y := ck 6) er_898 ?_
    clear er_898 r_898
    refine lv_as (y := nI hr) (eh) ?_
    refine g_fi C hW [1, 2, 3, 4, 5] rfl (g_runV (As := [.int (ck 2), .int (nI hr)]) (rest := []) (wc := [(v, .inr (7, [.int wide, .ref vw, .ref vc, .ref vp, .ref vs, .ref vn, .ref vm, .ref vu])), (vp, .inr (4, [.int 7, .int 3, .ref vpc, .int (nI n)])), (vpc, .inl (G.2.1, 21, .inl pf)), (vc, .inl (G.2.1, 7, .inl ck)), (vw, .inl (G.2.1, 6, .inl wd))]) (q0 := 0) (ci := 7) C hW hl (c_X9_carriersOn l G v vw vc vp vs vn vm vu wide vpc n pf ck wd (ck 2) hr (by first | assumption | omega) (by omega) (by assumption) (by assumption) (by assumption) _) k_ml_X10_216 q_X9_carriersOn (by decide) [1, 2, 3, 4, 5] rfl rfl rfl rfl rfl rfl (Nat.le_of_ble_eq_true rfl) dX10_may_28 (by decide)) (fun r_899 er_899 => ?_)
    clear hW H locs; intro H locs hW
    refine lv_as (y := orF (fun i => decide (pf (i * 3 + 1) = (ck 2)) && decide (wide ≤ rch ck wd pf i hr (pf (i * 3 + 1)) (ck 1))) n) er_899 ?_
    clear er_899 r_899
    refine lv_goto (tgt := 35) hx hb dX10_may_31 (by decide) ?_
    subst hQ
    exact g_iret (v := (orF (fun i => decide (pf (i * 3 + 1) = (ck 2)) && decide (wide ≤ rch ck wd pf i hr (pf (i * 3 + 1)) (ck 1))) n)) C hW hrt ⟨by rfl, rfl⟩ dX10_may_35
set_option maxHeartbeats 4000000 in
set_option maxRecDepth 100000 in
theorem c_X10_may_down (l : Launch) (G : gT) (v vw vc vp vs vn vm vu : Nat) (wide : Int32) (to iv jv rd st ra og : Nat) (k1 k2 ab be bds nos fls : Int32) (ck : Nat → Int32) (hup : ¬ ck 3 = 1) : MI l G yX10_may cX10_may 1 .int ({ frames := 1, cells := 0, slots := 0, locals := 20 }) [.ref to] [(to, .inr (8, [.ref v, .ref iv, .ref jv, .int k1, .int k2, .ref rd, .ref st, .ref ra, .ref og, .int ab, .int be, .int bds, .int nos, .int fls])), (v, .inr (7, [.int wide, .ref vw, .ref vc, .ref vp, .ref vs, .ref vn, .ref vm, .ref vu])), (vc, .inl (G.2.1, 7, .inl ck))] (fun (r : Int32) w1 => (r = 0) ∧ w1 = [(to, .inr (8, [.ref v, .ref iv, .ref jv, .int k1, .int k2, .ref rd, .ref st, .ref ra, .ref og, .int ab, .int be, .int bds, .int nos, .int fls])), (v, .inr (7, [.int wide, .ref vw, .ref vc, .ref vp, .ref vs, .ref vn, .ref vm, .ref vu])), (vc, .inl (G.2.1, 7, .inl ck))]) := by
  refine MI.mk (by decide) (Nat.le_of_ble_eq_true rfl) ?_
  intro p_ e_ s_ m_ ar_ be_ me_ cd_ A_ ls C hrt hW hl
  have hx := C.1; have hb := C.2.1; have hown := C.2.2.2.1; have ht := C.2.2.2.2.1
  replace hl : lv_has ls 1 [(0, .ref to)] := hl
  generalize hQ : MQ be_ _ ar_ s_ 0 0 A_ = Q
  refine lv_aload_n hx hb dX10_may_0 rfl (lv_at hl 0 rfl) ?_
  refine g_get (k := 0) (v := .ref v) C hW 0 rfl rfl jnX10 (by decide) k_fl_X10_10 rfl dX10_may_1 ?_
  refine g_fi C hW [1, 2] rfl (g_runV (As := []) (rest := []) (wc := [(v, .inr (7, [.int wide, .ref vw, .ref vc, .ref vp, .ref vs, .ref vn, .ref vm, .ref vu])), (vc, .inl (G.2.1, 7, .inl ck))]) (q0 := 0) (ci := 7) C hW hl (c_X9_isUp l G v vw vc vp vs vn vm vu wide ck  _) k_ml_X10_176 q_X9_isUp (by decide) [1, 2] rfl rfl rfl rfl rfl rfl (Nat.le_of_ble_eq_true rfl) dX10_may_4 (by decide)) (fun r_900 er_900 => ?_)
  clear hW; intro H locs hW
  refine lv_as (y := bI (decide (ck 3 = 1))) er_900 ?_
  clear er_900 r_900
  refine lv_if_eq (tgt := 34) hx hb dX10_may_7 (by decide) (fun c_901 => ?_) (fun c_901 => ?_)
  · refine lv_iconst (v := 0) hx hb dX10_may_34 (by decide) ?_
    subst hQ
    exact g_iret (v := 0) C hW hrt ⟨by rfl, rfl⟩ dX10_may_35
  · exfalso; exact dd0 (by first | assumption | exact decide_eq_false (by first | assumption | omega)) c_901
