set_option maxHeartbeats 4000000 in
set_option maxRecDepth 100000 in
theorem c_X8_size (l : Launch) (G : gT) (tx tq n : Nat) (tok stt en : Int32)  : MI l G yX8_size cX8_size 1 .int ({ frames := 0, cells := 0, slots := 0, locals := 0 }) [.ref tx] [(tx, .inr (6, [.ref tq, .int (nI n), .int tok, .int stt, .int en]))] (fun (r : Int32) w1 => (r = nI n) ∧ w1 = [(tx, .inr (6, [.ref tq, .int (nI n), .int tok, .int stt, .int en]))]) := by
  refine MI.mk (by decide) (Nat.le_of_ble_eq_true rfl) ?_
  intro p_ e_ s_ m_ ar_ be_ me_ cd_ A_ ls C hrt hW hl
  have hx := C.1; have hb := C.2.1; have hown := C.2.2.2.1; have ht := C.2.2.2.2.1
  replace hl : lv_has ls 1 [(0, .ref tx)] := hl
  generalize hQ : MQ be_ _ ar_ s_ 0 0 A_ = Q
  refine lv_aload_n hx hb dX8_size_0 rfl (lv_at hl 0 rfl) ?_
  refine g_get (k := 1) (v := .int (nI n)) C hW 0 rfl rfl jnX8 (by decide) k_fl_X8_15 rfl dX8_size_1 ?_
  subst hQ
  exact g_iret (v := (nI n)) C hW hrt ⟨by first | rfl | (simp only [if_true, if_false, reduceIte]; done) | (simp []; done) | (simp_all []; done) | (simp only []; (repeat' split) <;> first | rfl | (simp_all; done)), rfl⟩ dX8_size_4
set_option maxHeartbeats 4000000 in
set_option maxRecDepth 100000 in
theorem c_X8_isFull (l : Launch) (G : gT) (tx tq n : Nat) (tok stt en : Int32) (hn : n ≤ 150) : MI l G yX8_isFull cX8_isFull 1 .boolean ({ frames := 0, cells := 0, slots := 0, locals := 0 }) [.ref tx] [(tx, .inr (6, [.ref tq, .int (nI n), .int tok, .int stt, .int en]))] (fun (r : Int32) w1 => (r = bI (decide (150 ≤ n))) ∧ w1 = [(tx, .inr (6, [.ref tq, .int (nI n), .int tok, .int stt, .int en]))]) := by
  refine MI.mk (by decide) (Nat.le_of_ble_eq_true rfl) ?_
  intro p_ e_ s_ m_ ar_ be_ me_ cd_ A_ ls C hrt hW hl
  have hx := C.1; have hb := C.2.1; have hown := C.2.2.2.1; have ht := C.2.2.2.2.1
  replace hl : lv_has ls 1 [(0, .ref tx)] := hl
  generalize hQ : MQ be_ _ ar_ s_ 0 0 A_ = Q
  refine lv_aload_n hx hb dX8_isFull_0 rfl (lv_at hl 0 rfl) ?_
  refine g_get (k := 1) (v := .int (nI n)) C hW 0 rfl rfl jnX8 (by decide) k_fl_X8_15 rfl dX8_isFull_1 ?_
  refine lv_sipush (v := 150) hx hb dX8_isFull_4 (by decide) ?_
  have J_491 : ∀ (y_490 : Int32) (_ : y_490 = (if 150 ≤ (nI n) then 1 else 0)), ∀ (H : Heap) (locs : List Loc) (ls : Array Slot), Wd G A_ s_.heap [(tx, .inr (6, [.ref tq, .int (nI n), .int tok, .int stt, .int en]))] H locs → lv_has ls 1 [(0, .ref tx)] → W p_ l e_ ({ frames := 0, cells := 0, slots := 0, locals := 0 }) s_ m_ ar_ be_ me_ cd_ H locs 0 0 Q (F0 m_ 15 ls [.int y_490]) := by
    intro y_490 ey_490 H locs ls hW hl
    subst hQ
    exact g_zret (v := y_490) C hW hrt (by first | rfl | exact bI_nar _ | (simp only [ey_490]; (repeat' split) <;> rfl)) ⟨by (simp (disch := omega) only [ey_490, nI_lit, nI_leI]; exact bI_if), rfl⟩ dX8_isFull_15
  refine lv_icmp_lt (tgt := 14) hx hb dX8_isFull_7 (by decide) (fun c_489 => ?_) (fun c_489 => ?_)
  · replace c_489 := Int32.not_le.mpr c_489
    have c_489n : ¬ 150 ≤ n := fun q => c_489 ((nI_leI (a := 150) (b := n) (by omega) (by omega)).mpr q)
    refine lv_iconst (v := 0) hx hb dX8_isFull_14 (by decide) ?_
    exact J_491 0 (by first | (simp only [c_489, if_true, if_false, reduceIte]; done) | (simp [c_489]; done) | rfl) _ _ _ hW (lv_sub hl [0] rfl)
  · replace c_489 := Int32.not_lt.mp c_489
    have c_489n : 150 ≤ n := (nI_leI (a := 150) (b := n) (by omega) (by omega)).mp c_489
    refine lv_iconst (v := 1) hx hb dX8_isFull_10 (by decide) ?_
    refine lv_goto (tgt := 15) hx hb dX8_isFull_11 (by decide) ?_
    exact J_491 1 (by first | (simp only [c_489, if_true, if_false, reduceIte]; done) | (simp [c_489]; done) | rfl) _ _ _ hW (lv_sub hl [0] rfl)
set_option maxHeartbeats 4000000 in
set_option maxRecDepth 100000 in
theorem c_X8_append (l : Launch) (G : gT) (tx tq n : Nat) (tok stt en : Int32) (f : Nat → Int32) (c9 : Int32) (hn : n < 150) : MI l G yX8_append cX8_append 2 .int ({ frames := 1, cells := 0, slots := 0, locals := 20 }) [.ref tx, .int c9] [(tx, .inr (6, [.ref tq, .int (nI n), .int tok, .int stt, .int en])), (tq, .inl (G.2.1, 150, .inl f))] (fun (r : Int32) w1 => ∃ u_ : Unit, (r = nI (n + 1)) ∧ w1 = [(tx, .inr (6, [.ref tq, .int (nI (n + 1)), .int tok, .int stt, .int en])), (tq, .inl (G.2.1, 150, .inl (upd f n c9)))]) := by
  refine MI.mk (by decide) (Nat.le_of_ble_eq_true rfl) ?_
  intro p_ e_ s_ m_ ar_ be_ me_ cd_ A_ ls C hrt hW hl
  have hx := C.1; have hb := C.2.1; have hown := C.2.2.2.1; have ht := C.2.2.2.2.1
  replace hl : lv_has ls 2 [(0, .ref tx), (1, .int c9)] := hl
  generalize hQ : MQ be_ _ ar_ s_ 0 0 A_ = Q
  refine lv_aload_n hx hb dX8_append_0 rfl (lv_at hl 0 rfl) ?_
  refine g_fi C hW [0] rfl (g_runV (As := []) (rest := []) (wc := [(tx, .inr (6, [.ref tq, .int (nI n), .int tok, .int stt, .int en]))]) (q0 := 0) (ci := 6) C hW hl (c_X8_isFull l G tx tq n tok stt en (by first | assumption | omega) _) k_ml_X8_28 q_X8_isFull (by decide) [0] rfl rfl rfl rfl rfl rfl (Nat.le_of_ble_eq_true rfl) dX8_append_1 (by decide)) (fun r_492 er_492 => ?_)
  clear hW; intro H locs hW
  subst er_492
  refine lv_if_ne (tgt := 27) hx hb dX8_append_4 (by decide) (fun c_493 => ?_) (fun c_493 => ?_)
  · exfalso; exact c_493 (by rw [bI_0]; exact decide_eq_false (by omega))
  · refine lv_aload_n hx hb dX8_append_7 rfl (lv_at hl 0 rfl) ?_
    refine g_get (k := 0) (v := .ref tq) C hW 0 rfl rfl jnX8 (by decide) k_fl_X8_11 rfl dX8_append_8 ?_
    refine lv_aload_n hx hb dX8_append_11 rfl (lv_at hl 0 rfl) ?_
    refine g_get (k := 1) (v := .int (nI n)) C hW 0 rfl rfl jnX8 (by decide) k_fl_X8_15 rfl dX8_append_12 ?_
    refine lv_iload_n hx hb dX8_append_15 rfl (lv_at hl 1 rfl) ?_
    refine g_ast (w' := [(tx, .inr (6, [.ref tq, .int (nI n), .int tok, .int stt, .int en])), (tq, .inl (G.2.1, 150, .inl (upd f n c9)))]) C hW 1 rfl (ix_in (show (nI n) = nI n from (by first | rfl | (simp only [nI_lit, nI_add, pk_mul]; done) | (simp only [nI_lit, nI_add, pk_mul]; congr 1; omega))) (by omega) (by omega)) (by rw [show (nI n).toNatClampNeg = n from nI_clamp (by omega)]; rfl) dX8_append_16 ?_
    clear hW H locs; intro H locs hW
    refine lv_aload_n hx hb dX8_append_17 rfl (lv_at hl 0 rfl) ?_
    refine lv_dup hx hb dX8_append_18 rfl ?_
    refine g_get (k := 1) (v := .int (nI n)) C hW 0 rfl rfl jnX8 (by decide) k_fl_X8_15 rfl dX8_append_19 ?_
    refine lv_iconst (v := 1) hx hb dX8_append_22 (by decide) ?_
    refine lv_iadd hx hb dX8_append_23 ?_
    refine lv_as (y := nI (n + 1)) (nI_1 n) ?_
    refine g_put (k := 1) (ty := .int) (w' := [(tx, .inr (6, [.ref tq, .int (nI (n + 1)), .int tok, .int stt, .int en])), (tq, .inl (G.2.1, 150, .inl (upd f n c9)))]) C hW 0 rfl rfl jnX8 tyX8_ok nmX8 (by decide) k_fl_X8_15 rfl rfl rfl rfl (Nat.le_of_ble_eq_true rfl) rfl dX8_append_24 ?_
    clear hW H locs; intro H locs hW
    refine lv_aload_n hx hb dX8_append_27 rfl (lv_at hl 0 rfl) ?_
    refine g_get (k := 1) (v := .int (nI (n + 1))) C hW 0 rfl rfl jnX8 (by decide) k_fl_X8_15 rfl dX8_append_28 ?_
    subst hQ
    exact g_iret (v := (nI (n + 1))) C hW hrt ⟨(), by first | rfl | (simp only [c_493, if_true, if_false, reduceIte]; done) | (simp [c_493]; done) | (simp_all []; done) | (simp only [c_493]; (repeat' split) <;> first | rfl | (simp_all; done)), by rfl⟩ dX8_append_31
set_option maxHeartbeats 4000000 in
set_option maxRecDepth 100000 in
theorem c_X8_empty (l : Launch) (G : gT) (tx tq n : Nat) (tok stt en : Int32)  : MI l G yX8_empty cX8_empty 2 .int ({ frames := 0, cells := 0, slots := 0, locals := 0 }) [.ref tx] [(tx, .inr (6, [.ref tq, .int (nI n), .int tok, .int stt, .int en]))] (fun (r : Int32) w1 => ∃ u_ : Unit, (r = nI n) ∧ w1 = [(tx, .inr (6, [.ref tq, .int (nI 0), .int tok, .int stt, .int en]))]) := by
  refine MI.mk (by decide) (Nat.le_of_ble_eq_true rfl) ?_
  intro p_ e_ s_ m_ ar_ be_ me_ cd_ A_ ls C hrt hW hl
  have hx := C.1; have hb := C.2.1; have hown := C.2.2.2.1; have ht := C.2.2.2.2.1
  replace hl : lv_has ls 2 [(0, .ref tx)] := hl
  generalize hQ : MQ be_ _ ar_ s_ 0 0 A_ = Q
  refine lv_aload_n hx hb dX8_empty_0 rfl (lv_at hl 0 rfl) ?_
  refine g_get (k := 1) (v := .int (nI n)) C hW 0 rfl rfl jnX8 (by decide) k_fl_X8_15 rfl dX8_empty_1 ?_
  refine lv_istore_n (lv' := [(1, .int (nI n)), (0, .ref tx)]) hx hb dX8_empty_4 rfl hl (by decide) rfl ?_
  clear hl ls; intro ls hl
  refine lv_aload_n hx hb dX8_empty_5 rfl (lv_at hl 1 rfl) ?_
  refine lv_iconst (v := 0) hx hb dX8_empty_6 (by decide) ?_
  refine g_put (k := 1) (ty := .int) (w' := [(tx, .inr (6, [.ref tq, .int 0, .int tok, .int stt, .int en]))]) C hW 0 rfl rfl jnX8 tyX8_ok nmX8 (by decide) k_fl_X8_15 rfl rfl rfl rfl (Nat.le_of_ble_eq_true rfl) rfl dX8_empty_7 ?_
  clear hW; intro H locs hW
  refine lv_iload_n hx hb dX8_empty_10 rfl (lv_at hl 0 rfl) ?_
  subst hQ
  exact g_iret (v := (nI n)) C hW hrt ⟨(), by first | rfl | (simp only [if_true, if_false, reduceIte]; done) | (simp []; done) | (simp_all []; done) | (simp only []; (repeat' split) <;> first | rfl | (simp_all; done)), by rfl⟩ dX8_empty_11
set_option maxHeartbeats 4000000 in
set_option maxRecDepth 100000 in
theorem c_X8_token (l : Launch) (G : gT) (tx tq n : Nat) (tok stt en : Int32)  : MI l G yX8_token cX8_token 1 .int ({ frames := 0, cells := 0, slots := 0, locals := 0 }) [.ref tx] [(tx, .inr (6, [.ref tq, .int (nI n), .int tok, .int stt, .int en]))] (fun (r : Int32) w1 => (r = tok) ∧ w1 = [(tx, .inr (6, [.ref tq, .int (nI n), .int tok, .int stt, .int en]))]) := by
  refine MI.mk (by decide) (Nat.le_of_ble_eq_true rfl) ?_
  intro p_ e_ s_ m_ ar_ be_ me_ cd_ A_ ls C hrt hW hl
  have hx := C.1; have hb := C.2.1; have hown := C.2.2.2.1; have ht := C.2.2.2.2.1
  replace hl : lv_has ls 1 [(0, .ref tx)] := hl
  generalize hQ : MQ be_ _ ar_ s_ 0 0 A_ = Q
  refine lv_aload_n hx hb dX8_token_0 rfl (lv_at hl 0 rfl) ?_
  refine g_get (k := 2) (v := .int tok) C hW 0 rfl rfl jnX8 (by decide) k_fl_X8_19 rfl dX8_token_1 ?_
  subst hQ
  exact g_iret (v := tok) C hW hrt ⟨by first | rfl | (simp only [if_true, if_false, reduceIte]; done) | (simp []; done) | (simp_all []; done) | (simp only []; (repeat' split) <;> first | rfl | (simp_all; done)), rfl⟩ dX8_token_4
set_option maxHeartbeats 4000000 in
set_option maxRecDepth 100000 in
theorem c_X8_tokenStart (l : Launch) (G : gT) (tx tq n : Nat) (tok stt en : Int32)  : MI l G yX8_tokenStart cX8_tokenStart 1 .int ({ frames := 0, cells := 0, slots := 0, locals := 0 }) [.ref tx] [(tx, .inr (6, [.ref tq, .int (nI n), .int tok, .int stt, .int en]))] (fun (r : Int32) w1 => (r = stt) ∧ w1 = [(tx, .inr (6, [.ref tq, .int (nI n), .int tok, .int stt, .int en]))]) := by
  refine MI.mk (by decide) (Nat.le_of_ble_eq_true rfl) ?_
  intro p_ e_ s_ m_ ar_ be_ me_ cd_ A_ ls C hrt hW hl
  have hx := C.1; have hb := C.2.1; have hown := C.2.2.2.1; have ht := C.2.2.2.2.1
  replace hl : lv_has ls 1 [(0, .ref tx)] := hl
  generalize hQ : MQ be_ _ ar_ s_ 0 0 A_ = Q
  refine lv_aload_n hx hb dX8_tokenStart_0 rfl (lv_at hl 0 rfl) ?_
  refine g_get (k := 3) (v := .int stt) C hW 0 rfl rfl jnX8 (by decide) k_fl_X8_22 rfl dX8_tokenStart_1 ?_
  subst hQ
  exact g_iret (v := stt) C hW hrt ⟨by first | rfl | (simp only [if_true, if_false, reduceIte]; done) | (simp []; done) | (simp_all []; done) | (simp only []; (repeat' split) <;> first | rfl | (simp_all; done)), rfl⟩ dX8_tokenStart_4
set_option maxHeartbeats 4000000 in
set_option maxRecDepth 100000 in
theorem c_X8_isLetter (l : Launch) (G : gT) (c9 : Int32)  : MI l G yX8_isLetter cX8_isLetter 1 .boolean ({ frames := 0, cells := 0, slots := 0, locals := 0 }) [.int c9] [] (fun (r : Int32) w1 => (r = bI (isLe c9)) ∧ w1 = []) := by
  refine MI.mk (by decide) (Nat.le_of_ble_eq_true rfl) ?_
  intro p_ e_ s_ m_ ar_ be_ me_ cd_ A_ ls C hrt hW hl
  have hx := C.1; have hb := C.2.1; have hown := C.2.2.2.1; have ht := C.2.2.2.2.1
  replace hl : lv_has ls 1 [(0, .int c9)] := hl
  generalize hQ : MQ be_ _ ar_ s_ 0 0 A_ = Q
  refine lv_iload_n hx hb dX8_isLetter_0 rfl (lv_at hl 0 rfl) ?_
  refine lv_bipush (v := 97) hx hb dX8_isLetter_1 (by decide) ?_
  have J_496 : ∀ (y_495 : Int32) (_ : y_495 = (if 97 ≤ c9 then if c9 ≤ 122 then 1 else 0 else 0)), ∀ (H : Heap) (locs : List Loc) (ls : Array Slot), Wd G A_ s_.heap [] H locs → lv_has ls 1 [(0, .int c9)] → W p_ l e_ ({ frames := 0, cells := 0, slots := 0, locals := 0 }) s_ m_ ar_ be_ me_ cd_ H locs 0 0 Q (F0 m_ 17 ls [.int y_495]) := by
    intro y_495 ey_495 H locs ls hW hl
    subst hQ
    exact g_zret (v := y_495) C hW hrt (by first | rfl | exact bI_nar _ | (simp only [ey_495]; (repeat' split) <;> rfl)) ⟨by (simp only [ey_495]; exact bI_and), rfl⟩ dX8_isLetter_17
  refine lv_icmp_lt (tgt := 16) hx hb dX8_isLetter_3 (by decide) (fun c_494 => ?_) (fun c_494 => ?_)
  · replace c_494 := Int32.not_le.mpr c_494
    refine lv_iconst (v := 0) hx hb dX8_isLetter_16 (by decide) ?_
    exact J_496 0 (by first | (simp only [c_494, if_true, if_false, reduceIte]; done) | (simp [c_494]; done) | rfl) _ _ _ hW (lv_sub hl [0] rfl)
  · replace c_494 := Int32.not_lt.mp c_494
    refine lv_iload_n hx hb dX8_isLetter_6 rfl (lv_at hl 0 rfl) ?_
    refine lv_bipush (v := 122) hx hb dX8_isLetter_7 (by decide) ?_
    refine lv_icmp_gt (tgt := 16) hx hb dX8_isLetter_9 (by decide) (fun c_497 => ?_) (fun c_497 => ?_)
    · replace c_497 := Int32.not_le.mpr c_497
      refine lv_iconst (v := 0) hx hb dX8_isLetter_16 (by decide) ?_
      exact J_496 0 (by first | (simp only [c_494, c_497, if_true, if_false, reduceIte]; done) | (simp [c_494, c_497]; done) | rfl) _ _ _ hW (lv_sub hl [0] rfl)
    · replace c_497 := Int32.not_lt.mp c_497
      refine lv_iconst (v := 1) hx hb dX8_isLetter_12 (by decide) ?_
      refine lv_goto (tgt := 17) hx hb dX8_isLetter_13 (by decide) ?_
      exact J_496 1 (by first | (simp only [c_494, c_497, if_true, if_false, reduceIte]; done) | (simp [c_494, c_497]; done) | rfl) _ _ _ hW (lv_sub hl [0] rfl)
set_option maxHeartbeats 4000000 in
set_option maxRecDepth 100000 in
theorem c_X8_isFigure (l : Launch) (G : gT) (c9 : Int32)  : MI l G yX8_isFigure cX8_isFigure 1 .boolean ({ frames := 0, cells := 0, slots := 0, locals := 0 }) [.int c9] [] (fun (r : Int32) w1 => (r = bI (isFi c9)) ∧ w1 = []) := by
  refine MI.mk (by decide) (Nat.le_of_ble_eq_true rfl) ?_
  intro p_ e_ s_ m_ ar_ be_ me_ cd_ A_ ls C hrt hW hl
  have hx := C.1; have hb := C.2.1; have hown := C.2.2.2.1; have ht := C.2.2.2.2.1
  replace hl : lv_has ls 1 [(0, .int c9)] := hl
  generalize hQ : MQ be_ _ ar_ s_ 0 0 A_ = Q
  refine lv_iload_n hx hb dX8_isFigure_0 rfl (lv_at hl 0 rfl) ?_
  refine lv_bipush (v := 48) hx hb dX8_isFigure_1 (by decide) ?_
  have J_500 : ∀ (y_499 : Int32) (_ : y_499 = (if 48 ≤ c9 then if c9 ≤ 57 then 1 else 0 else 0)), ∀ (H : Heap) (locs : List Loc) (ls : Array Slot), Wd G A_ s_.heap [] H locs → lv_has ls 1 [(0, .int c9)] → W p_ l e_ ({ frames := 0, cells := 0, slots := 0, locals := 0 }) s_ m_ ar_ be_ me_ cd_ H locs 0 0 Q (F0 m_ 17 ls [.int y_499]) := by
    intro y_499 ey_499 H locs ls hW hl
    subst hQ
    exact g_zret (v := y_499) C hW hrt (by first | rfl | exact bI_nar _ | (simp only [ey_499]; (repeat' split) <;> rfl)) ⟨by (simp only [ey_499]; exact bI_and), rfl⟩ dX8_isFigure_17
  refine lv_icmp_lt (tgt := 16) hx hb dX8_isFigure_3 (by decide) (fun c_498 => ?_) (fun c_498 => ?_)
  · replace c_498 := Int32.not_le.mpr c_498
    refine lv_iconst (v := 0) hx hb dX8_isFigure_16 (by decide) ?_
    exact J_500 0 (by first | (simp only [c_498, if_true, if_false, reduceIte]; done) | (simp [c_498]; done) | rfl) _ _ _ hW (lv_sub hl [0] rfl)
  · replace c_498 := Int32.not_lt.mp c_498
    refine lv_iload_n hx hb dX8_isFigure_6 rfl (lv_at hl 0 rfl) ?_
    refine lv_bipush (v := 57) hx hb dX8_isFigure_7 (by decide) ?_
    refine lv_icmp_gt (tgt := 16) hx hb dX8_isFigure_9 (by decide) (fun c_501 => ?_) (fun c_501 => ?_)
    · replace c_501 := Int32.not_le.mpr c_501
      refine lv_iconst (v := 0) hx hb dX8_isFigure_16 (by decide) ?_
      exact J_500 0 (by first | (simp only [c_498, c_501, if_true, if_false, reduceIte]; done) | (simp [c_498, c_501]; done) | rfl) _ _ _ hW (lv_sub hl [0] rfl)
    · replace c_501 := Int32.not_lt.mp c_501
      refine lv_iconst (v := 1) hx hb dX8_isFigure_12 (by decide) ?_
      refine lv_goto (tgt := 17) hx hb dX8_isFigure_13 (by decide) ?_
      exact J_500 1 (by first | (simp only [c_498, c_501, if_true, if_false, reduceIte]; done) | (simp [c_498, c_501]; done) | rfl) _ _ _ hW (lv_sub hl [0] rfl)
set_option maxHeartbeats 4000000 in
set_option maxRecDepth 100000 in
theorem c_X8_advance (l : Launch) (G : gT) (tx tq n : Nat) (tok stt : Int32) (en : Nat) (f : Nat → Int32) (hen : en ≤ n) (hn : n ≤ 150) : MV l G yX8_advance cX8_advance 1 ({ frames := 1, cells := 0, slots := 0, locals := 20 }) [.ref tx] [(tx, .inr (6, [.ref tq, .int (nI n), .int tok, .int stt, .int (nI en)])), (tq, .inl (G.2.1, 150, .inl f))] (fun w1 => ∃ u_ : Unit, (True) ∧ w1 = [(tx, .inr (6, [.ref tq, .int (nI n), .int (tkT f n (scan isSp f n en)), .int (nI (scan isSp f n en)), .int (nI (tkE f n (scan isSp f n en)))])), (tq, .inl (G.2.1, 150, .inl f))]) := by
  refine MV.mk (by decide) (Nat.le_of_ble_eq_true rfl) ?_
  intro p_ e_ s_ m_ ar_ be_ me_ cd_ A_ ls C hrt hW hl
  have hx := C.1; have hb := C.2.1; have hown := C.2.2.2.1; have ht := C.2.2.2.2.1
  replace hl : lv_has ls 1 [(0, .ref tx)] := hl
  generalize hQ : MQ be_ _ ar_ s_ 0 0 A_ = Q
  refine lv_aload_n hx hb dX8_advance_0 rfl (lv_at hl 0 rfl) ?_
  refine lv_aload_n hx hb dX8_advance_1 rfl (lv_at hl 0 rfl) ?_
  refine g_get (k := 4) (v := .int (nI en)) C hW 0 rfl rfl jnX8 (by decide) k_fl_X8_25 rfl dX8_advance_2 ?_
  refine g_put (k := 3) (ty := .int) (w' := [(tx, .inr (6, [.ref tq, .int (nI n), .int tok, .int (nI en), .int (nI en)])), (tq, .inl (G.2.1, 150, .inl f))]) C hW 0 rfl rfl jnX8 tyX8_ok nmX8 (by decide) k_fl_X8_22 rfl rfl rfl rfl (Nat.le_of_ble_eq_true rfl) rfl dX8_advance_5 ?_
  clear hW; intro H locs hW
  have K_502 : ∀ (s : Nat) (f_503 : Int32) (_ : f_503 = nI s) (_ : s ≤ n) (_ : scan isSp f n en = s) (H : Heap) (locs : List Loc) (ls : Array Slot), Wd G A_ s_.heap [(tx, .inr (6, [.ref tq, .int (nI n), .int tok, .int f_503, .int (nI en)])), (tq, .inl (G.2.1, 150, .inl f))] H locs → lv_has ls 1 [(0, .ref tx)] → W p_ l e_ ({ frames := 1, cells := 0, slots := 0, locals := 20 }) s_ m_ ar_ be_ me_ cd_ H locs 0 0 Q (F0 m_ 46 ls []) := by
    intro s f_503 ef_503 hs he H locs ls hW hl
    subst ef_503
    refine lv_aload_n hx hb dX8_advance_46 rfl (lv_at hl 0 rfl) ?_
    refine lv_aload_n hx hb dX8_advance_47 rfl (lv_at hl 0 rfl) ?_
    refine g_get (k := 3) (v := .int (nI s)) C hW 0 rfl rfl jnX8 (by decide) k_fl_X8_22 rfl dX8_advance_48 ?_
    refine g_put (k := 4) (ty := .int) (w' := [(tx, .inr (6, [.ref tq, .int (nI n), .int tok, .int (nI s), .int (nI s)])), (tq, .inl (G.2.1, 150, .inl f))]) C hW 0 rfl rfl jnX8 tyX8_ok nmX8 (by decide) k_fl_X8_25 rfl rfl rfl rfl (Nat.le_of_ble_eq_true rfl) rfl dX8_advance_51 ?_
    clear hW H locs; intro H locs hW
    refine lv_aload_n hx hb dX8_advance_54 rfl (lv_at hl 0 rfl) ?_
    refine g_get (k := 3) (v := .int (nI s)) C hW 0 rfl rfl jnX8 (by decide) k_fl_X8_22 rfl dX8_advance_55 ?_
    refine lv_aload_n hx hb dX8_advance_58 rfl (lv_at hl 0 rfl) ?_
    refine g_get (k := 1) (v := .int (nI n)) C hW 0 rfl rfl jnX8 (by decide) k_fl_X8_15 rfl dX8_advance_59 ?_
    refine lv_icmp_lt (tgt := 73) hx hb dX8_advance_62 (by decide) (fun c_504 => ?_) (fun c_504 => ?_)
    · replace c_504 := Int32.not_le.mpr c_504
      have c_504n : ¬ n ≤ s := fun q => c_504 ((nI_leI (a := n) (b := s) (by omega) (by omega)).mpr q)
      have hsn : s < n := by omega
      refine lv_aload_n hx hb dX8_advance_73 rfl (lv_at hl 0 rfl) ?_
      refine g_get (k := 0) (v := .ref tq) C hW 0 rfl rfl jnX8 (by decide) k_fl_X8_11 rfl dX8_advance_74 ?_
      refine lv_aload_n hx hb dX8_advance_77 rfl (lv_at hl 0 rfl) ?_
      refine g_get (k := 3) (v := .int (nI s)) C hW 0 rfl rfl jnX8 (by decide) k_fl_X8_22 rfl dX8_advance_78 ?_
      refine g_ald C hW 1 rfl (ix_in (show (nI s) = nI s from (by first | rfl | (simp only [nI_lit, nI_add, pk_mul]; done) | (simp only [nI_lit, nI_add, pk_mul]; congr 1; omega))) (by omega) (by omega)) dX8_advance_81 ?_
      refine lv_as (y := f s) (by rw [show (nI s).toNatClampNeg = s from nI_clamp (by omega)]) ?_
      refine g_fi C hW [] rfl (g_runS (As := [.int (f s)]) (rest := []) (wc := []) C hW hl (c_X8_isLetter l G (f s)  _) k_ml_X8_35 q_X8_isLetter (by decide) [] rfl rfl rfl rfl (Nat.le_of_ble_eq_true rfl) dX8_advance_82 (by decide)) (fun r_505 er_505 => ?_)
      clear hW H locs; intro H locs hW
      subst er_505
      refine lv_if_eq (tgt := 132) hx hb dX8_advance_85 (by decide) (fun c_506 => ?_) (fun c_506 => ?_)
      · have hl0 := bI_0.mp c_506
        refine lv_aload_n hx hb dX8_advance_132 rfl (lv_at hl 0 rfl) ?_
        refine g_get (k := 0) (v := .ref tq) C hW 0 rfl rfl jnX8 (by decide) k_fl_X8_11 rfl dX8_advance_133 ?_
        refine lv_aload_n hx hb dX8_advance_136 rfl (lv_at hl 0 rfl) ?_
        refine g_get (k := 3) (v := .int (nI s)) C hW 0 rfl rfl jnX8 (by decide) k_fl_X8_22 rfl dX8_advance_137 ?_
        refine g_ald C hW 1 rfl (ix_in (show (nI s) = nI s from (by first | rfl | (simp only [nI_lit, nI_add, pk_mul]; done) | (simp only [nI_lit, nI_add, pk_mul]; congr 1; omega))) (by omega) (by omega)) dX8_advance_140 ?_
        refine lv_as (y := f s) (by rw [show (nI s).toNatClampNeg = s from nI_clamp (by omega)]) ?_
        refine g_fi C hW [] rfl (g_runS (As := [.int (f s)]) (rest := []) (wc := []) C hW hl (c_X8_isFigure l G (f s)  _) k_ml_X8_39 q_X8_isFigure (by decide) [] rfl rfl rfl rfl (Nat.le_of_ble_eq_true rfl) dX8_advance_141 (by decide)) (fun r_507 er_507 => ?_)
        clear hW H locs; intro H locs hW
        subst er_507
        refine lv_if_eq (tgt := 211) hx hb dX8_advance_144 (by decide) (fun c_508 => ?_) (fun c_508 => ?_)
        · have hf0 := bI_0.mp c_508
          refine lv_aload_n hx hb dX8_advance_211 rfl (lv_at hl 0 rfl) ?_
          refine lv_aload_n hx hb dX8_advance_212 rfl (lv_at hl 0 rfl) ?_
          refine g_get (k := 0) (v := .ref tq) C hW 0 rfl rfl jnX8 (by decide) k_fl_X8_11 rfl dX8_advance_213 ?_
          refine lv_aload_n hx hb dX8_advance_216 rfl (lv_at hl 0 rfl) ?_
          refine g_get (k := 3) (v := .int (nI s)) C hW 0 rfl rfl jnX8 (by decide) k_fl_X8_22 rfl dX8_advance_217 ?_
          refine g_ald C hW 1 rfl (ix_in (show (nI s) = nI s from (by first | rfl | (simp only [nI_lit, nI_add, pk_mul]; done) | (simp only [nI_lit, nI_add, pk_mul]; congr 1; omega))) (by omega) (by omega)) dX8_advance_220 ?_
          refine lv_as (y := f s) (by rw [show (nI s).toNatClampNeg = s from nI_clamp (by omega)]) ?_
          refine lv_bipush (v := 59) hx hb dX8_advance_221 (by decide) ?_
          have J_511 : ∀ (y_510 : Int32) (_ : y_510 = (if (f s) = 59 then 3 else 4)), ∀ (H : Heap) (locs : List Loc) (ls : Array Slot), Wd G A_ s_.heap [(tx, .inr (6, [.ref tq, .int (nI n), .int tok, .int (nI s), .int (nI s)])), (tq, .inl (G.2.1, 150, .inl f))] H locs → lv_has ls 1 [(0, .ref tx)] → W p_ l e_ ({ frames := 1, cells := 0, slots := 0, locals := 20 }) s_ m_ ar_ be_ me_ cd_ H locs 0 0 Q (F0 m_ 231 ls [.int y_510, .ref tx]) := by
            intro y_510 ey_510 H locs ls hW hl
            refine g_put (k := 2) (ty := .int) (w' := [(tx, .inr (6, [.ref tq, .int (nI n), .int y_510, .int (nI s), .int (nI s)])), (tq, .inl (G.2.1, 150, .inl f))]) C hW 0 rfl rfl jnX8 tyX8_ok nmX8 (by decide) k_fl_X8_19 rfl rfl rfl rfl (Nat.le_of_ble_eq_true rfl) rfl dX8_advance_231 ?_
            clear hW H locs; intro H locs hW
            refine lv_aload_n hx hb dX8_advance_234 rfl (lv_at hl 0 rfl) ?_
            refine lv_dup hx hb dX8_advance_235 rfl ?_
            refine g_get (k := 4) (v := .int (nI s)) C hW 0 rfl rfl jnX8 (by decide) k_fl_X8_25 rfl dX8_advance_236 ?_
            refine lv_iconst (v := 1) hx hb dX8_advance_239 (by decide) ?_
            refine lv_iadd hx hb dX8_advance_240 ?_
            refine g_put (k := 4) (ty := .int) (w' := [(tx, .inr (6, [.ref tq, .int (nI n), .int y_510, .int (nI s), .int ((nI s) + 1)])), (tq, .inl (G.2.1, 150, .inl f))]) C hW 0 rfl rfl jnX8 tyX8_ok nmX8 (by decide) k_fl_X8_25 rfl rfl rfl rfl (Nat.le_of_ble_eq_true rfl) rfl dX8_advance_241 ?_
            clear hW H locs; intro H locs hW
            have qt := tk_ot hsn hl0 hf0
            subst hQ
            exact g_vret C hW hrt ⟨(), trivial, by (rw [he, qt.1, qt.2] <;> first | rfl | (rw [qe]; done) | (rw [qe]; rfl) | (simp only [ey_510, qe, num_if (show e2 - s < 1000 by omega)]; done) | (simp only [ey_510, nI_1]; done) | (simp only [ey_510, nI_1]; rfl))⟩ dX8_advance_244
          refine lv_icmp_ne (tgt := 230) hx hb dX8_advance_223 (by decide) (fun c_509 => ?_) (fun c_509 => ?_)
          · refine lv_iconst (v := 4) hx hb dX8_advance_230 (by decide) ?_
            exact J_511 4 (by first | (simp only [c_509, if_true, if_false, reduceIte]; done) | (simp [c_509]; done) | rfl) _ _ _ hW (lv_sub hl [0] rfl)
          · refine lv_iconst (v := 3) hx hb dX8_advance_226 (by decide) ?_
            refine lv_goto (tgt := 231) hx hb dX8_advance_227 (by decide) ?_
            exact J_511 3 (by first | (simp only [c_509, if_true, if_false, reduceIte]; done) | (simp [c_509]; done) | rfl) _ _ _ hW (lv_sub hl [0] rfl)
        · have K_512 : ∀ (n_ : Nat) (e2 : Nat) (f_513 : Int32) (_ : f_513 = nI e2) (_ : s ≤ e2 ∧ e2 ≤ n) (_ : scan isFi f n e2 = scan isFi f n s) (_ : isFi (f s) = true) (_ : n - e2 < n_) (H : Heap) (locs : List Loc) (ls : Array Slot), Wd G A_ s_.heap [(tx, .inr (6, [.ref tq, .int (nI n), .int tok, .int (nI s), .int f_513])), (tq, .inl (G.2.1, 150, .inl f))] H locs → lv_has ls 1 [(0, .ref tx)] → W p_ l e_ ({ frames := 1, cells := 0, slots := 0, locals := 20 }) s_ m_ ar_ be_ me_ cd_ H locs 0 0 Q (F0 m_ 147 ls []) := by
            intro n_
            induction n_ with
            | zero => intro e2 f_513 ef_513 hb2 he2 hf1 hm_; exact absurd hm_ (Nat.not_lt_zero _)
            | succ n_ ihK_512 =>
              intro e2 f_513 ef_513 hb2 he2 hf1 hm_ H locs ls hW hl
              subst ef_513
              refine lv_aload_n hx hb dX8_advance_147 rfl (lv_at hl 0 rfl) ?_
              refine g_get (k := 4) (v := .int (nI e2)) C hW 0 rfl rfl jnX8 (by decide) k_fl_X8_25 rfl dX8_advance_148 ?_
              refine lv_aload_n hx hb dX8_advance_151 rfl (lv_at hl 0 rfl) ?_
              refine g_get (k := 1) (v := .int (nI n)) C hW 0 rfl rfl jnX8 (by decide) k_fl_X8_15 rfl dX8_advance_152 ?_
              refine lv_icmp_ge (tgt := 186) hx hb dX8_advance_155 (by decide) (fun c_514 => ?_) (fun c_514 => ?_)
              · replace c_514 := Int32.not_lt.mpr c_514
                have c_514n : ¬ e2 < n := fun q => c_514 ((nI_ltI (a := e2) (b := n) (by omega) (by omega)).mpr q)
                have qe : scan isFi f n s = e2 := he2.symm.trans (scan_stop (fun q => by first | omega | (rw [bI_0.mp c_514] at q; exact absurd q.2 (by decide))))
                refine lv_aload_n hx hb dX8_advance_186 rfl (lv_at hl 0 rfl) ?_
                refine lv_aload_n hx hb dX8_advance_187 rfl (lv_at hl 0 rfl) ?_
                refine g_get (k := 4) (v := .int (nI e2)) C hW 0 rfl rfl jnX8 (by decide) k_fl_X8_25 rfl dX8_advance_188 ?_
                refine lv_aload_n hx hb dX8_advance_191 rfl (lv_at hl 0 rfl) ?_
                refine g_get (k := 3) (v := .int (nI s)) C hW 0 rfl rfl jnX8 (by decide) k_fl_X8_22 rfl dX8_advance_192 ?_
                refine lv_isub hx hb dX8_advance_195 ?_
                refine lv_as (y := nI (e2 - s)) (len_eq hb2.1) ?_
                refine lv_iconst (v := 2) hx hb dX8_advance_196 (by decide) ?_
                have J_517 : ∀ (y_516 : Int32) (_ : y_516 = (if (nI (e2 - s)) ≤ 2 then 2 else 4)), ∀ (H : Heap) (locs : List Loc) (ls : Array Slot), Wd G A_ s_.heap [(tx, .inr (6, [.ref tq, .int (nI n), .int tok, .int (nI s), .int (nI e2)])), (tq, .inl (G.2.1, 150, .inl f))] H locs → lv_has ls 1 [(0, .ref tx)] → W p_ l e_ ({ frames := 1, cells := 0, slots := 0, locals := 20 }) s_ m_ ar_ be_ me_ cd_ H locs 0 0 Q (F0 m_ 205 ls [.int y_516, .ref tx]) := by
                  intro y_516 ey_516 H locs ls hW hl
                  refine g_put (k := 2) (ty := .int) (w' := [(tx, .inr (6, [.ref tq, .int (nI n), .int y_516, .int (nI s), .int (nI e2)])), (tq, .inl (G.2.1, 150, .inl f))]) C hW 0 rfl rfl jnX8 tyX8_ok nmX8 (by decide) k_fl_X8_19 rfl rfl rfl rfl (Nat.le_of_ble_eq_true rfl) rfl dX8_advance_205 ?_
                  clear hW H locs; intro H locs hW
                  refine lv_goto (tgt := 244) hx hb dX8_advance_208 (by decide) ?_
                  have qt := tk_fi hsn hl0 hf1
                  subst hQ
                  exact g_vret C hW hrt ⟨(), trivial, by (rw [he, qt.1, qt.2] <;> first | rfl | (rw [qe]; done) | (rw [qe]; rfl) | (simp only [ey_516, qe, num_if (show e2 - s < 1000 by omega)]; done) | (simp only [ey_516, nI_1]; done) | (simp only [ey_516, nI_1]; rfl))⟩ dX8_advance_244
                refine lv_icmp_gt (tgt := 204) hx hb dX8_advance_197 (by decide) (fun c_515 => ?_) (fun c_515 => ?_)
                · replace c_515 := Int32.not_le.mpr c_515
                  have c_515n : ¬ (e2 - s) ≤ 2 := fun q => c_515 ((nI_leI (a := (e2 - s)) (b := 2) (by omega) (by omega)).mpr q)
                  refine lv_iconst (v := 4) hx hb dX8_advance_204 (by decide) ?_
                  exact J_517 4 (by first | (simp only [c_515, if_true, if_false, reduceIte]; done) | (simp [c_515]; done) | rfl) _ _ _ hW (lv_sub hl [0] rfl)
                · replace c_515 := Int32.not_lt.mp c_515
                  have c_515n : (e2 - s) ≤ 2 := (nI_leI (a := (e2 - s)) (b := 2) (by omega) (by omega)).mp c_515
                  refine lv_iconst (v := 2) hx hb dX8_advance_200 (by decide) ?_
                  refine lv_goto (tgt := 205) hx hb dX8_advance_201 (by decide) ?_
                  exact J_517 2 (by first | (simp only [c_515, if_true, if_false, reduceIte]; done) | (simp [c_515]; done) | rfl) _ _ _ hW (lv_sub hl [0] rfl)
              · replace c_514 := Int32.not_le.mp c_514
                have c_514n : e2 < n := (nI_ltI (a := e2) (b := n) (by omega) (by omega)).mp c_514
                refine lv_aload_n hx hb dX8_advance_158 rfl (lv_at hl 0 rfl) ?_
                refine g_get (k := 0) (v := .ref tq) C hW 0 rfl rfl jnX8 (by decide) k_fl_X8_11 rfl dX8_advance_159 ?_
                refine lv_aload_n hx hb dX8_advance_162 rfl (lv_at hl 0 rfl) ?_
                refine g_get (k := 4) (v := .int (nI e2)) C hW 0 rfl rfl jnX8 (by decide) k_fl_X8_25 rfl dX8_advance_163 ?_
                refine g_ald C hW 1 rfl (ix_in (show (nI e2) = nI e2 from (by first | rfl | (simp only [nI_lit, nI_add, pk_mul]; done) | (simp only [nI_lit, nI_add, pk_mul]; congr 1; omega))) (by omega) (by omega)) dX8_advance_166 ?_
                refine lv_as (y := f e2) (by rw [show (nI e2).toNatClampNeg = e2 from nI_clamp (by omega)]) ?_
                refine g_fi C hW [] rfl (g_runS (As := [.int (f e2)]) (rest := []) (wc := []) C hW hl (c_X8_isFigure l G (f e2)  _) k_ml_X8_39 q_X8_isFigure (by decide) [] rfl rfl rfl rfl (Nat.le_of_ble_eq_true rfl) dX8_advance_167 (by decide)) (fun r_518 er_518 => ?_)
                clear hW H locs; intro H locs hW
                subst er_518
                refine lv_if_eq (tgt := 186) hx hb dX8_advance_170 (by decide) (fun c_519 => ?_) (fun c_519 => ?_)
                · have qe : scan isFi f n s = e2 := he2.symm.trans (scan_stop (fun q => by first | omega | (rw [bI_0.mp c_519] at q; exact absurd q.2 (by decide))))
                  refine lv_aload_n hx hb dX8_advance_186 rfl (lv_at hl 0 rfl) ?_
                  refine lv_aload_n hx hb dX8_advance_187 rfl (lv_at hl 0 rfl) ?_
                  refine g_get (k := 4) (v := .int (nI e2)) C hW 0 rfl rfl jnX8 (by decide) k_fl_X8_25 rfl dX8_advance_188 ?_
                  refine lv_aload_n hx hb dX8_advance_191 rfl (lv_at hl 0 rfl) ?_
                  refine g_get (k := 3) (v := .int (nI s)) C hW 0 rfl rfl jnX8 (by decide) k_fl_X8_22 rfl dX8_advance_192 ?_
                  refine lv_isub hx hb dX8_advance_195 ?_
                  refine lv_as (y := nI (e2 - s)) (len_eq hb2.1) ?_
                  refine lv_iconst (v := 2) hx hb dX8_advance_196 (by decide) ?_
                  have J_522 : ∀ (y_521 : Int32) (_ : y_521 = (if (nI (e2 - s)) ≤ 2 then 2 else 4)), ∀ (H : Heap) (locs : List Loc) (ls : Array Slot), Wd G A_ s_.heap [(tx, .inr (6, [.ref tq, .int (nI n), .int tok, .int (nI s), .int (nI e2)])), (tq, .inl (G.2.1, 150, .inl f))] H locs → lv_has ls 1 [(0, .ref tx)] → W p_ l e_ ({ frames := 1, cells := 0, slots := 0, locals := 20 }) s_ m_ ar_ be_ me_ cd_ H locs 0 0 Q (F0 m_ 205 ls [.int y_521, .ref tx]) := by
                    intro y_521 ey_521 H locs ls hW hl
                    refine g_put (k := 2) (ty := .int) (w' := [(tx, .inr (6, [.ref tq, .int (nI n), .int y_521, .int (nI s), .int (nI e2)])), (tq, .inl (G.2.1, 150, .inl f))]) C hW 0 rfl rfl jnX8 tyX8_ok nmX8 (by decide) k_fl_X8_19 rfl rfl rfl rfl (Nat.le_of_ble_eq_true rfl) rfl dX8_advance_205 ?_
                    clear hW H locs; intro H locs hW
                    refine lv_goto (tgt := 244) hx hb dX8_advance_208 (by decide) ?_
                    have qt := tk_fi hsn hl0 hf1
                    subst hQ
                    exact g_vret C hW hrt ⟨(), trivial, by (rw [he, qt.1, qt.2] <;> first | rfl | (rw [qe]; done) | (rw [qe]; rfl) | (simp only [ey_521, qe, num_if (show e2 - s < 1000 by omega)]; done) | (simp only [ey_521, nI_1]; done) | (simp only [ey_521, nI_1]; rfl))⟩ dX8_advance_244
                  refine lv_icmp_gt (tgt := 204) hx hb dX8_advance_197 (by decide) (fun c_520 => ?_) (fun c_520 => ?_)
                  · replace c_520 := Int32.not_le.mpr c_520
                    have c_520n : ¬ (e2 - s) ≤ 2 := fun q => c_520 ((nI_leI (a := (e2 - s)) (b := 2) (by omega) (by omega)).mpr q)
                    refine lv_iconst (v := 4) hx hb dX8_advance_204 (by decide) ?_
                    exact J_522 4 (by first | (simp only [c_520, if_true, if_false, reduceIte]; done) | (simp [c_520]; done) | rfl) _ _ _ hW (lv_sub hl [0] rfl)
                  · replace c_520 := Int32.not_lt.mp c_520
                    have c_520n : (e2 - s) ≤ 2 := (nI_leI (a := (e2 - s)) (b := 2) (by omega) (by omega)).mp c_520
                    refine lv_iconst (v := 2) hx hb dX8_advance_200 (by decide) ?_
                    refine lv_goto (tgt := 205) hx hb dX8_advance_201 (by decide) ?_
                    exact J_522 2 (by first | (simp only [c_520, if_true, if_false, reduceIte]; done) | (simp [c_520]; done) | rfl) _ _ _ hW (lv_sub hl [0] rfl)
                · refine lv_aload_n hx hb dX8_advance_173 rfl (lv_at hl 0 rfl) ?_
                  refine lv_dup hx hb dX8_advance_174 rfl ?_
                  refine g_get (k := 4) (v := .int (nI e2)) C hW 0 rfl rfl jnX8 (by decide) k_fl_X8_25 rfl dX8_advance_175 ?_
                  refine lv_iconst (v := 1) hx hb dX8_advance_178 (by decide) ?_
                  refine lv_iadd hx hb dX8_advance_179 ?_
                  refine g_put (k := 4) (ty := .int) (w' := [(tx, .inr (6, [.ref tq, .int (nI n), .int tok, .int (nI s), .int ((nI e2) + 1)])), (tq, .inl (G.2.1, 150, .inl f))]) C hW 0 rfl rfl jnX8 tyX8_ok nmX8 (by decide) k_fl_X8_25 rfl rfl rfl rfl (Nat.le_of_ble_eq_true rfl) rfl dX8_advance_180 ?_
                  clear hW H locs; intro H locs hW
                  refine lv_goto (tgt := 147) hx hb dX8_advance_183 (by decide) ?_
                  exact ihK_512 (e2 + 1) ((nI e2) + 1) (by exact nI_1 _) (by first | omega | assumption | (simp; done)) (by (rw [← he2, scan_step (show e2 < n by omega) (bI_ne.mp c_519)])) (by first | omega | assumption | (simp; done)) (by omega) _ _ _ hW (lv_sub hl [0] rfl)
          exact K_512 _ s (nI s) (by first | exact rfl | (simp; done)) (by first | omega | assumption | (simp; done)) (by rfl) (by exact bI_ne.mp c_508) (Nat.lt_succ_self _) _ _ _ hW (lv_sub hl [0] rfl)
      · have hl1 := bI_ne.mp c_506
        refine lv_aload_n hx hb dX8_advance_88 rfl (lv_at hl 0 rfl) ?_
        refine lv_iconst (v := 1) hx hb dX8_advance_89 (by decide) ?_
        refine g_put (k := 2) (ty := .int) (w' := [(tx, .inr (6, [.ref tq, .int (nI n), .int 1, .int (nI s), .int (nI s)])), (tq, .inl (G.2.1, 150, .inl f))]) C hW 0 rfl rfl jnX8 tyX8_ok nmX8 (by decide) k_fl_X8_19 rfl rfl rfl rfl (Nat.le_of_ble_eq_true rfl) rfl dX8_advance_90 ?_
        clear hW H locs; intro H locs hW
        have K_523 : ∀ (n_ : Nat) (e2 : Nat) (f_524 : Int32) (_ : f_524 = nI e2) (_ : s ≤ e2 ∧ e2 ≤ n) (_ : scan isLe f n e2 = scan isLe f n s) (_ : n - e2 < n_) (H : Heap) (locs : List Loc) (ls : Array Slot), Wd G A_ s_.heap [(tx, .inr (6, [.ref tq, .int (nI n), .int 1, .int (nI s), .int f_524])), (tq, .inl (G.2.1, 150, .inl f))] H locs → lv_has ls 1 [(0, .ref tx)] → W p_ l e_ ({ frames := 1, cells := 0, slots := 0, locals := 20 }) s_ m_ ar_ be_ me_ cd_ H locs 0 0 Q (F0 m_ 93 ls []) := by
          intro n_
          induction n_ with
          | zero => intro e2 f_524 ef_524 hb2 he2 hm_; exact absurd hm_ (Nat.not_lt_zero _)
          | succ n_ ihK_523 =>
            intro e2 f_524 ef_524 hb2 he2 hm_ H locs ls hW hl
            subst ef_524
            refine lv_aload_n hx hb dX8_advance_93 rfl (lv_at hl 0 rfl) ?_
            refine g_get (k := 4) (v := .int (nI e2)) C hW 0 rfl rfl jnX8 (by decide) k_fl_X8_25 rfl dX8_advance_94 ?_
            refine lv_aload_n hx hb dX8_advance_97 rfl (lv_at hl 0 rfl) ?_
            refine g_get (k := 1) (v := .int (nI n)) C hW 0 rfl rfl jnX8 (by decide) k_fl_X8_15 rfl dX8_advance_98 ?_
            refine lv_icmp_ge (tgt := 244) hx hb dX8_advance_101 (by decide) (fun c_525 => ?_) (fun c_525 => ?_)
            · replace c_525 := Int32.not_lt.mpr c_525
              have c_525n : ¬ e2 < n := fun q => c_525 ((nI_ltI (a := e2) (b := n) (by omega) (by omega)).mpr q)
              have qe : scan isLe f n s = e2 := he2.symm.trans (scan_stop (fun q => by first | omega | (rw [bI_0.mp c_525] at q; exact absurd q.2 (by decide))))
              have qt := tk_le hsn hl1
              subst hQ
              exact g_vret C hW hrt ⟨(), trivial, by (rw [he, qt.1, qt.2] <;> first | rfl | (rw [qe]; done) | (rw [qe]; rfl) | (simp only [qe, num_if (show e2 - s < 1000 by omega)]; done) | (simp only [nI_1]; done) | (simp only [nI_1]; rfl))⟩ dX8_advance_244
            · replace c_525 := Int32.not_le.mp c_525
              have c_525n : e2 < n := (nI_ltI (a := e2) (b := n) (by omega) (by omega)).mp c_525
              refine lv_aload_n hx hb dX8_advance_104 rfl (lv_at hl 0 rfl) ?_
              refine g_get (k := 0) (v := .ref tq) C hW 0 rfl rfl jnX8 (by decide) k_fl_X8_11 rfl dX8_advance_105 ?_
              refine lv_aload_n hx hb dX8_advance_108 rfl (lv_at hl 0 rfl) ?_
              refine g_get (k := 4) (v := .int (nI e2)) C hW 0 rfl rfl jnX8 (by decide) k_fl_X8_25 rfl dX8_advance_109 ?_
              refine g_ald C hW 1 rfl (ix_in (show (nI e2) = nI e2 from (by first | rfl | (simp only [nI_lit, nI_add, pk_mul]; done) | (simp only [nI_lit, nI_add, pk_mul]; congr 1; omega))) (by omega) (by omega)) dX8_advance_112 ?_
              refine lv_as (y := f e2) (by rw [show (nI e2).toNatClampNeg = e2 from nI_clamp (by omega)]) ?_
              refine g_fi C hW [] rfl (g_runS (As := [.int (f e2)]) (rest := []) (wc := []) C hW hl (c_X8_isLetter l G (f e2)  _) k_ml_X8_35 q_X8_isLetter (by decide) [] rfl rfl rfl rfl (Nat.le_of_ble_eq_true rfl) dX8_advance_113 (by decide)) (fun r_526 er_526 => ?_)
              clear hW H locs; intro H locs hW
              subst er_526
              refine lv_if_eq (tgt := 244) hx hb dX8_advance_116 (by decide) (fun c_527 => ?_) (fun c_527 => ?_)
              · have qe : scan isLe f n s = e2 := he2.symm.trans (scan_stop (fun q => by first | omega | (rw [bI_0.mp c_527] at q; exact absurd q.2 (by decide))))
                have qt := tk_le hsn hl1
                subst hQ
                exact g_vret C hW hrt ⟨(), trivial, by (rw [he, qt.1, qt.2] <;> first | rfl | (rw [qe]; done) | (rw [qe]; rfl) | (simp only [qe, num_if (show e2 - s < 1000 by omega)]; done) | (simp only [nI_1]; done) | (simp only [nI_1]; rfl))⟩ dX8_advance_244
              · refine lv_aload_n hx hb dX8_advance_119 rfl (lv_at hl 0 rfl) ?_
                refine lv_dup hx hb dX8_advance_120 rfl ?_
                refine g_get (k := 4) (v := .int (nI e2)) C hW 0 rfl rfl jnX8 (by decide) k_fl_X8_25 rfl dX8_advance_121 ?_
                refine lv_iconst (v := 1) hx hb dX8_advance_124 (by decide) ?_
                refine lv_iadd hx hb dX8_advance_125 ?_
                refine g_put (k := 4) (ty := .int) (w' := [(tx, .inr (6, [.ref tq, .int (nI n), .int 1, .int (nI s), .int ((nI e2) + 1)])), (tq, .inl (G.2.1, 150, .inl f))]) C hW 0 rfl rfl jnX8 tyX8_ok nmX8 (by decide) k_fl_X8_25 rfl rfl rfl rfl (Nat.le_of_ble_eq_true rfl) rfl dX8_advance_126 ?_
                clear hW H locs; intro H locs hW
                refine lv_goto (tgt := 93) hx hb dX8_advance_129 (by decide) ?_
                exact ihK_523 (e2 + 1) ((nI e2) + 1) (by exact nI_1 _) (by first | omega | assumption | (simp; done)) (by (rw [← he2, scan_step (show e2 < n by omega) (bI_ne.mp c_527)])) (by omega) _ _ _ hW (lv_sub hl [0] rfl)
        exact K_523 _ s (nI s) (by first | exact rfl | (simp; done)) (by first | omega | assumption | (simp; done)) (by rfl) (Nat.lt_succ_self _) _ _ _ hW (lv_sub hl [0] rfl)
    · replace c_504 := Int32.not_lt.mp c_504
      have c_504n : n ≤ s := (nI_leI (a := n) (b := s) (by omega) (by omega)).mp c_504
      have mE : n ≤ s := by omega
      refine lv_aload_n hx hb dX8_advance_65 rfl (lv_at hl 0 rfl) ?_
      refine lv_iconst (v := 0) hx hb dX8_advance_66 (by decide) ?_
      refine g_put (k := 2) (ty := .int) (w' := [(tx, .inr (6, [.ref tq, .int (nI n), .int 0, .int (nI s), .int (nI s)])), (tq, .inl (G.2.1, 150, .inl f))]) C hW 0 rfl rfl jnX8 tyX8_ok nmX8 (by decide) k_fl_X8_19 rfl rfl rfl rfl (Nat.le_of_ble_eq_true rfl) rfl dX8_advance_67 ?_
      clear hW H locs; intro H locs hW
      refine lv_goto (tgt := 244) hx hb dX8_advance_70 (by decide) ?_
      have qt := tk_end (f := f) mE
      subst hQ
      exact g_vret C hW hrt ⟨(), trivial, by (rw [he, qt.1, qt.2] <;> first | rfl | (rw [qe]; done) | (rw [qe]; rfl) | (simp only [qe, num_if (show e2 - s < 1000 by omega)]; done) | (simp only [nI_1]; done) | (simp only [nI_1]; rfl))⟩ dX8_advance_244
  have K_528 : ∀ (n_ : Nat) (s : Nat) (f_529 : Int32) (_ : f_529 = nI s) (_ : s ≤ n) (_ : scan isSp f n s = scan isSp f n en) (_ : n - s < n_) (H : Heap) (locs : List Loc) (ls : Array Slot), Wd G A_ s_.heap [(tx, .inr (6, [.ref tq, .int (nI n), .int tok, .int f_529, .int (nI en)])), (tq, .inl (G.2.1, 150, .inl f))] H locs → lv_has ls 1 [(0, .ref tx)] → W p_ l e_ ({ frames := 1, cells := 0, slots := 0, locals := 20 }) s_ m_ ar_ be_ me_ cd_ H locs 0 0 Q (F0 m_ 8 ls []) := by
    intro n_
    induction n_ with
    | zero => intro s f_529 ef_529 hs he1 hm_; exact absurd hm_ (Nat.not_lt_zero _)
    | succ n_ ihK_528 =>
      intro s f_529 ef_529 hs he1 hm_ H locs ls hW hl
      subst ef_529
      refine lv_aload_n hx hb dX8_advance_8 rfl (lv_at hl 0 rfl) ?_
      refine g_get (k := 3) (v := .int (nI s)) C hW 0 rfl rfl jnX8 (by decide) k_fl_X8_22 rfl dX8_advance_9 ?_
      refine lv_aload_n hx hb dX8_advance_12 rfl (lv_at hl 0 rfl) ?_
      refine g_get (k := 1) (v := .int (nI n)) C hW 0 rfl rfl jnX8 (by decide) k_fl_X8_15 rfl dX8_advance_13 ?_
      refine lv_icmp_ge (tgt := 46) hx hb dX8_advance_16 (by decide) (fun c_530 => ?_) (fun c_530 => ?_)
      · replace c_530 := Int32.not_lt.mpr c_530
        have c_530n : ¬ s < n := fun q => c_530 ((nI_ltI (a := s) (b := n) (by omega) (by omega)).mpr q)
        exact K_502 s (nI s) (by first | exact rfl | (simp; done)) (by first | omega | assumption | (simp; done)) (by (rw [← he1]; exact scan_stop (fun q => by first | omega | (rw [sp_f c_530] at q; exact absurd q.2 (by decide))))) _ _ _ hW (lv_sub hl [0] rfl)
      · replace c_530 := Int32.not_le.mp c_530
        have c_530n : s < n := (nI_ltI (a := s) (b := n) (by omega) (by omega)).mp c_530
        refine lv_aload_n hx hb dX8_advance_19 rfl (lv_at hl 0 rfl) ?_
        refine g_get (k := 0) (v := .ref tq) C hW 0 rfl rfl jnX8 (by decide) k_fl_X8_11 rfl dX8_advance_20 ?_
        refine lv_aload_n hx hb dX8_advance_23 rfl (lv_at hl 0 rfl) ?_
        refine g_get (k := 3) (v := .int (nI s)) C hW 0 rfl rfl jnX8 (by decide) k_fl_X8_22 rfl dX8_advance_24 ?_
        refine g_ald C hW 1 rfl (ix_in (show (nI s) = nI s from (by first | rfl | (simp only [nI_lit, nI_add, pk_mul]; done) | (simp only [nI_lit, nI_add, pk_mul]; congr 1; omega))) (by omega) (by omega)) dX8_advance_27 ?_
        refine lv_as (y := f s) (by rw [show (nI s).toNatClampNeg = s from nI_clamp (by omega)]) ?_
        refine lv_bipush (v := 32) hx hb dX8_advance_28 (by decide) ?_
        refine lv_icmp_ne (tgt := 46) hx hb dX8_advance_30 (by decide) (fun c_531 => ?_) (fun c_531 => ?_)
        · exact K_502 s (nI s) (by first | exact rfl | (simp; done)) (by first | omega | assumption | (simp; done)) (by (rw [← he1]; exact scan_stop (fun q => by first | omega | (rw [sp_f c_531] at q; exact absurd q.2 (by decide))))) _ _ _ hW (lv_sub hl [0] rfl)
        · refine lv_aload_n hx hb dX8_advance_33 rfl (lv_at hl 0 rfl) ?_
          refine lv_dup hx hb dX8_advance_34 rfl ?_
          refine g_get (k := 3) (v := .int (nI s)) C hW 0 rfl rfl jnX8 (by decide) k_fl_X8_22 rfl dX8_advance_35 ?_
          refine lv_iconst (v := 1) hx hb dX8_advance_38 (by decide) ?_
          refine lv_iadd hx hb dX8_advance_39 ?_
          refine g_put (k := 3) (ty := .int) (w' := [(tx, .inr (6, [.ref tq, .int (nI n), .int tok, .int ((nI s) + 1), .int (nI en)])), (tq, .inl (G.2.1, 150, .inl f))]) C hW 0 rfl rfl jnX8 tyX8_ok nmX8 (by decide) k_fl_X8_22 rfl rfl rfl rfl (Nat.le_of_ble_eq_true rfl) rfl dX8_advance_40 ?_
          clear hW H locs; intro H locs hW
          refine lv_goto (tgt := 8) hx hb dX8_advance_43 (by decide) ?_
          exact ihK_528 (s + 1) ((nI s) + 1) (by exact nI_1 _) (by first | omega | assumption | (simp; done)) (by (rw [← he1, scan_step (show s < n by omega) (sp_t c_531)])) (by omega) _ _ _ hW (lv_sub hl [0] rfl)
  exact K_528 _ en (nI en) (by first | exact rfl | (simp; done)) (by first | omega | assumption | (simp; done)) (by rfl) (Nat.lt_succ_self _) _ _ _ hW (lv_sub hl [0] rfl)
set_option maxHeartbeats 4000000 in
set_option maxRecDepth 100000 in
theorem c_X8_rewind (l : Launch) (G : gT) (tx tq n : Nat) (tok stt en0 : Int32) (f : Nat → Int32) (hn : n ≤ 150) : MV l G yX8_rewind cX8_rewind 1 ({ frames := 2, cells := 0, slots := 0, locals := 40 }) [.ref tx] [(tx, .inr (6, [.ref tq, .int (nI n), .int tok, .int stt, .int en0])), (tq, .inl (G.2.1, 150, .inl f))] (fun w1 => ∃ u_ : Unit, (True) ∧ w1 = [(tx, .inr (6, [.ref tq, .int (nI n), .int (tkT f n (scan isSp f n 0)), .int (nI (scan isSp f n 0)), .int (nI (tkE f n (scan isSp f n 0)))])), (tq, .inl (G.2.1, 150, .inl f))]) := by
  refine MV.mk (by decide) (Nat.le_of_ble_eq_true rfl) ?_
  intro p_ e_ s_ m_ ar_ be_ me_ cd_ A_ ls C hrt hW hl
  have hx := C.1; have hb := C.2.1; have hown := C.2.2.2.1; have ht := C.2.2.2.2.1
  replace hl : lv_has ls 1 [(0, .ref tx)] := hl
  generalize hQ : MQ be_ _ ar_ s_ 0 0 A_ = Q
  refine lv_aload_n hx hb dX8_rewind_0 rfl (lv_at hl 0 rfl) ?_
  refine lv_iconst (v := 0) hx hb dX8_rewind_1 (by decide) ?_
  refine g_put (k := 4) (ty := .int) (w' := [(tx, .inr (6, [.ref tq, .int (nI n), .int tok, .int stt, .int 0])), (tq, .inl (G.2.1, 150, .inl f))]) C hW 0 rfl rfl jnX8 tyX8_ok nmX8 (by decide) k_fl_X8_25 rfl rfl rfl rfl (Nat.le_of_ble_eq_true rfl) rfl dX8_rewind_2 ?_
  clear hW; intro H locs hW
  refine lv_aload_n hx hb dX8_rewind_5 rfl (lv_at hl 0 rfl) ?_
  refine g_fvw (wr := []) (ww := fun (u_ : Unit) => [(tx, .inr (6, [.ref tq, .int (nI n), .int (tkT f n (scan isSp f n 0)), .int (nI (scan isSp f n 0)), .int (nI (tkE f n (scan isSp f n 0)))])), (tq, .inl (G.2.1, 150, .inl f))]) (w2 := fun (u_ : Unit) => [(tx, .inr (6, [.ref tq, .int (nI n), .int (tkT f n (scan isSp f n 0)), .int (nI (scan isSp f n 0)), .int (nI (tkE f n (scan isSp f n 0)))])), (tq, .inl (G.2.1, 150, .inl f))]) C hW [0, 1] [] [0, 1] rfl rfl (by decide) (by decide) (by decide) (fun _ => rfl) (g_runV (As := []) (rest := []) (wc := [(tx, .inr (6, [.ref tq, .int (nI n), .int tok, .int stt, .int 0])), (tq, .inl (G.2.1, 150, .inl f))]) (q0 := 0) (ci := 6) C hW hl (c_X8_advance l G tx tq n tok stt 0 f (by first | assumption | omega) (by first | assumption | omega) _) k_ml_X8_32 q_X8_advance (by decide) [0, 1] rfl rfl rfl rfl rfl rfl (Nat.le_of_ble_eq_true rfl) dX8_rewind_6 (by decide)) (fun _ er_532 => ?_)
  clear hW H locs; intro H locs hW
  replace hW : Wd G A_ s_.heap [(tx, .inr (6, [.ref tq, .int (nI n), .int (tkT f n (scan isSp f n 0)), .int (nI (scan isSp f n 0)), .int (nI (tkE f n (scan isSp f n 0)))])), (tq, .inl (G.2.1, 150, .inl f))] H locs := hW
  subst hQ
  exact g_vret C hW hrt ⟨(), trivial, by rfl⟩ dX8_rewind_9
set_option maxHeartbeats 4000000 in
set_option maxRecDepth 100000 in
theorem c_X8_number (l : Launch) (G : gT) (tx tq n : Nat) (tok : Int32) (s e9 : Nat) (f : Nat → Int32) (hb_ : s ≤ e9 ∧ e9 ≤ 150) : MI l G yX8_number cX8_number 3 .int ({ frames := 0, cells := 0, slots := 0, locals := 0 }) [.ref tx] [(tx, .inr (6, [.ref tq, .int (nI n), .int tok, .int (nI s), .int (nI e9)])), (tq, .inl (G.2.1, 150, .inl f))] (fun (r : Int32) w1 => (r = if tok = 2 then numF f s (e9 - s) else -1) ∧ w1 = [(tx, .inr (6, [.ref tq, .int (nI n), .int tok, .int (nI s), .int (nI e9)])), (tq, .inl (G.2.1, 150, .inl f))]) := by
  refine MI.mk (by decide) (Nat.le_of_ble_eq_true rfl) ?_
  intro p_ e_ s_ m_ ar_ be_ me_ cd_ A_ ls C hrt hW hl
  have hx := C.1; have hb := C.2.1; have hown := C.2.2.2.1; have ht := C.2.2.2.2.1
  replace hl : lv_has ls 3 [(0, .ref tx)] := hl
  generalize hQ : MQ be_ _ ar_ s_ 0 0 A_ = Q
  refine lv_aload_n hx hb dX8_number_0 rfl (lv_at hl 0 rfl) ?_
  refine g_get (k := 2) (v := .int tok) C hW 0 rfl rfl jnX8 (by decide) k_fl_X8_19 rfl dX8_number_1 ?_
  refine lv_iconst (v := 2) hx hb dX8_number_4 (by decide) ?_
  refine lv_icmp_eq (tgt := 10) hx hb dX8_number_5 (by decide) (fun c_534 => ?_) (fun c_534 => ?_)
  · have ht2 := c_534
    refine lv_iconst (v := 0) hx hb dX8_number_10 (by decide) ?_
    refine lv_istore_n (lv' := [(1, .int 0), (0, .ref tx)]) hx hb dX8_number_11 rfl hl (by decide) rfl ?_
    clear hl ls; intro ls hl
    refine lv_aload_n hx hb dX8_number_12 rfl (lv_at hl 1 rfl) ?_
    refine g_get (k := 3) (v := .int (nI s)) C hW 0 rfl rfl jnX8 (by decide) k_fl_X8_22 rfl dX8_number_13 ?_
    refine lv_istore_n (lv' := [(2, .int (nI s)), (1, .int 0), (0, .ref tx)]) hx hb dX8_number_16 rfl hl (by decide) rfl ?_
    clear hl ls; intro ls hl
    have K_535 : ∀ (n_ : Nat) (k : Nat) (x_536 : Int32) (x_537 : Int32) (_ : x_536 = nI (s + k)) (_ : x_537 = numF f s k) (_ : s + k ≤ e9) (_ : e9 - (s + k) < n_) (H : Heap) (locs : List Loc) (ls : Array Slot), Wd G A_ s_.heap [(tx, .inr (6, [.ref tq, .int (nI n), .int tok, .int (nI s), .int (nI e9)])), (tq, .inl (G.2.1, 150, .inl f))] H locs → lv_has ls 3 [(2, .int x_536), (1, .int x_537), (0, .ref tx)] → W p_ l e_ ({ frames := 0, cells := 0, slots := 0, locals := 0 }) s_ m_ ar_ be_ me_ cd_ H locs 0 0 Q (F0 m_ 17 ls []) := by
      intro n_
      induction n_ with
      | zero => intro k x_536 x_537 ex_536 ex_537 hk hm_; exact absurd hm_ (Nat.not_lt_zero _)
      | succ n_ ihK_535 =>
        intro k x_536 x_537 ex_536 ex_537 hk hm_ H locs ls hW hl
        subst ex_536
        subst ex_537
        refine lv_iload_n hx hb dX8_number_17 rfl (lv_at hl 0 rfl) ?_
        refine lv_aload_n hx hb dX8_number_18 rfl (lv_at hl 2 rfl) ?_
        refine g_get (k := 4) (v := .int (nI e9)) C hW 0 rfl rfl jnX8 (by decide) k_fl_X8_25 rfl dX8_number_19 ?_
        refine lv_icmp_ge (tgt := 53) hx hb dX8_number_22 (by decide) (fun c_538 => ?_) (fun c_538 => ?_)
        · replace c_538 := Int32.not_lt.mpr c_538
          have c_538n : ¬ (s + k) < e9 := fun q => c_538 ((nI_ltI (a := (s + k)) (b := e9) (by omega) (by omega)).mpr q)
          refine lv_iload_n hx hb dX8_number_53 rfl (lv_at hl 1 rfl) ?_
          subst hQ
          exact g_iret (v := (numF f s k)) C hW hrt ⟨by (rw [if_pos ht2, show e9 - s = k by omega]), rfl⟩ dX8_number_54
        · replace c_538 := Int32.not_le.mp c_538
          have c_538n : (s + k) < e9 := (nI_ltI (a := (s + k)) (b := e9) (by omega) (by omega)).mp c_538
          refine lv_iload_n hx hb dX8_number_25 rfl (lv_at hl 0 rfl) ?_
          refine lv_sipush (v := 150) hx hb dX8_number_26 (by decide) ?_
          refine lv_icmp_ge (tgt := 53) hx hb dX8_number_29 (by decide) (fun c_539 => ?_) (fun c_539 => ?_)
          · replace c_539 := Int32.not_lt.mpr c_539
            have c_539n : ¬ (s + k) < 150 := fun q => c_539 ((nI_ltI (a := (s + k)) (b := 150) (by omega) (by omega)).mpr q)
            exfalso; omega
          · replace c_539 := Int32.not_le.mp c_539
            have c_539n : (s + k) < 150 := (nI_ltI (a := (s + k)) (b := 150) (by omega) (by omega)).mp c_539
            refine lv_bipush (v := 10) hx hb dX8_number_32 (by decide) ?_
            refine lv_iload_n hx hb dX8_number_34 rfl (lv_at hl 1 rfl) ?_
            refine lv_imul hx hb dX8_number_35 ?_
            refine lv_aload_n hx hb dX8_number_36 rfl (lv_at hl 2 rfl) ?_
            refine g_get (k := 0) (v := .ref tq) C hW 0 rfl rfl jnX8 (by decide) k_fl_X8_11 rfl dX8_number_37 ?_
            refine lv_iload_n hx hb dX8_number_40 rfl (lv_at hl 0 rfl) ?_
            refine g_ald C hW 1 rfl (ix_in (show (nI (s + k)) = nI (s + k) from (by first | rfl | (simp only [nI_lit, nI_add, pk_mul]; done) | (simp only [nI_lit, nI_add, pk_mul]; congr 1; omega))) (by omega) (by omega)) dX8_number_41 ?_
            refine lv_as (y := f (s + k)) (by rw [show (nI (s + k)).toNatClampNeg = (s + k) from nI_clamp (by omega)]) ?_
            refine lv_iadd hx hb dX8_number_42 ?_
            refine lv_bipush (v := 48) hx hb dX8_number_43 (by decide) ?_
            refine lv_isub hx hb dX8_number_45 ?_
            refine lv_istore_n (lv' := [(1, .int (((10 * (numF f s k)) + (f (s + k))) - 48)), (2, .int (nI (s + k))), (0, .ref tx)]) hx hb dX8_number_46 rfl hl (by decide) rfl ?_
            clear hl ls; intro ls hl
            refine lv_iinc (v := (nI (s + k)) + 1) (lv' := [(2, .int ((nI (s + k)) + 1)), (1, .int (((10 * (numF f s k)) + (f (s + k))) - 48)), (0, .ref tx)]) hx hb dX8_number_47 hl (k := 1) rfl rfl (by decide) rfl ?_
            clear hl ls; intro ls hl
            refine lv_goto (tgt := 17) hx hb dX8_number_50 (by decide) ?_
            exact ihK_535 (k + 1) ((nI (s + k)) + 1) (((10 * (numF f s k)) + (f (s + k))) - 48) (by exact nI_1 _) (by first | exact rfl | (simp; done)) (by first | omega | assumption | (simp; done)) (by omega) _ _ _ hW (lv_sub hl [0, 1, 2] rfl)
    exact K_535 _ 0 (nI s) 0 (by first | exact rfl | (simp; done)) (by first | exact rfl | (simp; done)) (by first | omega | assumption | (simp; done)) (Nat.lt_succ_self _) _ _ _ hW (lv_sub hl [0, 1, 2] rfl)
  · refine lv_iconst (v := (-1)) hx hb dX8_number_8 (by decide) ?_
    subst hQ
    exact g_iret (v := (-1)) C hW hrt ⟨by rw [if_neg c_534], rfl⟩ dX8_number_9
