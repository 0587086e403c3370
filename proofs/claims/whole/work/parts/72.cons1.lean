theorem mx_0 {n : Nat} (h : n < 1000) : (if (0 : Int32) < nI n then nI n else 0) = nI n := by
  rcases Nat.eq_zero_or_pos n with rfl | q
  · rfl
  · exact if_pos (show nI 0 < nI n from nI_lt q (by omega))
theorem q_X6_init : (Cond.code yX6_init cX6_init 3 none ∈ lw_g ∧ Cond.instanceMethod yX6_init ∈ lw_g ∧ Cond.initialized RX6 ∈ lw_g) ∧ yX6_init.cls = RX6 ∧ yX6_init.name = "<init>" ∧ yX6_init.cls ≠ "java/lang/invoke/MethodHandle" ∧ yX6_init.cls ≠ "java/lang/invoke/VarHandle" ∧ (parseMethodDescriptor yX6_init.desc).map (fun d => d.parameters.length) = some 2 := ⟨⟨k_co_X6_init, k_in_X6_init, k_ii_X6⟩, rfl, rfl, by decide +kernel, by decide +kernel, by decide +kernel⟩
set_option maxHeartbeats 8000000 in
set_option maxRecDepth 100000 in
theorem c_X6_init (l : Launch) (G : gT) (h0 : Nat) (M V : Nat) (hB : M * V < 1000 ∧ M < 1000 ∧ V < 1000) : MN l G yX6_init cX6_init 3 ({ frames := 1, cells := 1, slots := (0 + (M * V)), locals := 14 }) [.ref h0, .int (nI M), .int (nI V)] [(h0, .inr (4, [.int 0, .int 0, .null, .int 0]))] (fun w1 => ∃ u_ : Nat, w1 = [(h0, .inr (4, [.int (nI M), .int (nI V), .ref u_, .int 0])), (u_, .inl (G.2.1, (M * V), .inl (fun _ => 0)))]) 1 (0 + (M * V)) := by
  refine MN.mk (by decide) rfl (Nat.le_of_ble_eq_true rfl) ?_
  intro p_ e_ s_ m_ ar_ be_ me_ cd_ A_ ls C hrt hin0 hW hl
  have hx := C.1; have hb := C.2.1; have hown := C.2.2.2.1; have ht := C.2.2.2.2.1
  replace hl : lv_has ls 3 [(0, .ref h0), (1, .int (nI M)), (2, .int (nI V))] := hl
  refine lv_aload_n hx hb dX6_init_0 rfl (lv_at hl 0 rfl) ?_
  refine g_obj C hl k_ml_X6_1 ⟨Nat.le_of_ble_eq_true rfl, Nat.le_of_ble_eq_true rfl⟩ dX6_init_1 ?_
  refine lv_aload_n hx hb dX6_init_4 rfl (lv_at hl 0 rfl) ?_
  refine lv_iconst (v := 0) hx hb dX6_init_5 (by decide) ?_
  refine g_put (k := 3) (ty := .int) (w' := [(h0, .inr (4, [.int 0, .int 0, .null, .int 0]))]) C hW 0 rfl rfl jnX6 tyX6_ok nmX6 (by decide) k_fl_X6_7 rfl rfl rfl rfl (Nat.le_of_ble_eq_true rfl) rfl dX6_init_6 ?_
  clear hW; intro H locs hW
  refine lv_aload_n hx hb dX6_init_9 rfl (lv_at hl 0 rfl) ?_
  refine lv_iconst (v := 0) hx hb dX6_init_10 (by decide) ?_
  refine lv_iload_n hx hb dX6_init_11 rfl (lv_at hl 1 rfl) ?_
  refine g_max C hl k_ml_X6_13 ⟨Nat.le_of_ble_eq_true rfl, Nat.le_of_ble_eq_true rfl⟩ ⟨Nat.zero_le _, Nat.zero_le _⟩ dX6_init_12 ?_
  refine lv_as (y := nI M) (mx_0 (by omega)) ?_
  refine g_putF (k := 0) (ty := .int) (w' := [(h0, .inr (4, [.int (nI M), .int 0, .null, .int 0]))]) C hin0 hW 0 rfl rfl jnX6 tyX6_ok nmX6 (by decide) k_fl_X6_19 rfl rfl rfl rfl rfl (Nat.le_of_ble_eq_true rfl) rfl dX6_init_15 ?_
  clear hW H locs; intro H locs hW
  refine lv_aload_n hx hb dX6_init_18 rfl (lv_at hl 0 rfl) ?_
  refine lv_iconst (v := 0) hx hb dX6_init_19 (by decide) ?_
  refine lv_iload_n hx hb dX6_init_20 rfl (lv_at hl 2 rfl) ?_
  refine g_max C hl k_ml_X6_13 ⟨Nat.le_of_ble_eq_true rfl, Nat.le_of_ble_eq_true rfl⟩ ⟨Nat.zero_le _, Nat.zero_le _⟩ dX6_init_21 ?_
  refine lv_as (y := nI V) (mx_0 (by omega)) ?_
  refine g_putF (k := 1) (ty := .int) (w' := [(h0, .inr (4, [.int (nI M), .int (nI V), .null, .int 0]))]) C hin0 hW 0 rfl rfl jnX6 tyX6_ok nmX6 (by decide) k_fl_X6_22 rfl rfl rfl rfl rfl (Nat.le_of_ble_eq_true rfl) rfl dX6_init_24 ?_
  clear hW H locs; intro H locs hW
  refine lv_aload_n hx hb dX6_init_27 rfl (lv_at hl 0 rfl) ?_
  refine lv_aload_n hx hb dX6_init_28 rfl (lv_at hl 0 rfl) ?_
  refine g_get (k := 0) (v := .int (nI M)) C hW 0 rfl rfl jnX6 (by decide) k_fl_X6_19 rfl dX6_init_29 ?_
  refine lv_aload_n hx hb dX6_init_32 rfl (lv_at hl 0 rfl) ?_
  refine g_get (k := 1) (v := .int (nI V)) C hW 0 rfl rfl jnX6 (by decide) k_fl_X6_22 rfl dX6_init_33 ?_
  refine lv_imul hx hb dX6_init_36 ?_
  refine lv_as (y := nI (M * V)) (pk_mul _ _) ?_
  refine g_newI (N := (M * V)) C hW (nI_pos (by omega)) (nI_clamp (by omega)) (by omega) ⟨by first | decide | exact Nat.le_refl _, by first | decide | exact Nat.le_refl _⟩ dX6_init_37 (fun q_1 => ?_)
  clear hW H; intro H hW
  replace hW : Wd G A_ s_.heap [(h0, .inr (4, [.int (nI M), .int (nI V), .null, .int 0])), (q_1, .inl (G.2.1, (M * V), .inl (fun _ => 0)))] H locs := hW
  refine W.widen (k := 1) (n := (0 + (M * V))) (by omega) (by omega) ?_
  refine g_putF (k := 2) (ty := .array .int) (w' := [(h0, .inr (4, [.int (nI M), .int (nI V), .ref q_1, .int 0])), (q_1, .inl (G.2.1, (M * V), .inl (fun _ => 0)))]) C hin0 hW 0 rfl rfl jnX6 tyX6_ok nmX6 (by decide) k_fl_X6_25 rfl rfl rfl rfl rfl (Nat.le_of_ble_eq_true rfl) rfl dX6_init_39 ?_
  clear hW H locs; intro H locs hW
  exact g_vretN C hW hrt ⟨q_1, rfl⟩ dX6_init_42
theorem q_X3_init : (Cond.code yX3_init cX3_init 1 none ∈ lw_g ∧ Cond.instanceMethod yX3_init ∈ lw_g ∧ Cond.initialized RX3 ∈ lw_g) ∧ yX3_init.cls = RX3 ∧ yX3_init.name = "<init>" ∧ yX3_init.cls ≠ "java/lang/invoke/MethodHandle" ∧ yX3_init.cls ≠ "java/lang/invoke/VarHandle" ∧ (parseMethodDescriptor yX3_init.desc).map (fun d => d.parameters.length) = some 0 := ⟨⟨k_co_X3_init, k_in_X3_init, k_ii_X3⟩, rfl, rfl, by decide +kernel, by decide +kernel, by decide +kernel⟩
set_option maxHeartbeats 8000000 in
set_option maxRecDepth 100000 in
theorem c_X3_init (l : Launch) (G : gT) (h0 : Nat)   : MN l G yX3_init cX3_init 1 ({ frames := 1, cells := 1, slots := 56, locals := 12 }) [.ref h0] [(h0, .inr (1, [.null, .int 0]))] (fun w1 => ∃ u_ : Nat, w1 = [(h0, .inr (1, [.ref u_, .int 0])), (u_, .inl (G.2.1, 56, .inl (fun _ => 0)))]) 1 56 := by
  refine MN.mk (by decide) rfl (Nat.le_of_ble_eq_true rfl) ?_
  intro p_ e_ s_ m_ ar_ be_ me_ cd_ A_ ls C hrt hin0 hW hl
  have hx := C.1; have hb := C.2.1; have hown := C.2.2.2.1; have ht := C.2.2.2.2.1
  replace hl : lv_has ls 1 [(0, .ref h0)] := hl
  refine lv_aload_n hx hb dX3_init_0 rfl (lv_at hl 0 rfl) ?_
  refine g_obj C hl k_ml_X3_3 ⟨Nat.le_of_ble_eq_true rfl, Nat.le_of_ble_eq_true rfl⟩ dX3_init_1 ?_
  refine lv_aload_n hx hb dX3_init_4 rfl (lv_at hl 0 rfl) ?_
  refine lv_bipush (v := 56) hx hb dX3_init_5 (by decide) ?_
  refine g_newI (N := 56) C hW (by decide) (by decide) (by decide) ⟨by first | decide | exact Nat.le_refl _, by first | decide | exact Nat.le_refl _⟩ dX3_init_7 (fun q_1 => ?_)
  clear hW; intro H hW
  replace hW : Wd G A_ s_.heap [(h0, .inr (1, [.null, .int 0])), (q_1, .inl (G.2.1, 56, .inl (fun _ => 0)))] H [] := hW
  refine W.widen (k := 1) (n := 56) (by omega) (by omega) ?_
  refine g_putF (k := 0) (ty := .array .int) (w' := [(h0, .inr (1, [.ref q_1, .int 0])), (q_1, .inl (G.2.1, 56, .inl (fun _ => 0)))]) C hin0 hW 0 rfl rfl jnX3 tyX3_ok nmX3 (by decide) k_fl_X3_11 rfl rfl rfl rfl rfl (Nat.le_of_ble_eq_true rfl) rfl dX3_init_9 ?_
  clear hW; intro H locs hW
  refine lv_aload_n hx hb dX3_init_12 rfl (lv_at hl 0 rfl) ?_
  refine lv_iconst (v := 0) hx hb dX3_init_13 (by decide) ?_
  refine g_put (k := 1) (ty := .int) (w' := [(h0, .inr (1, [.ref q_1, .int 0])), (q_1, .inl (G.2.1, 56, .inl (fun _ => 0)))]) C hW 0 rfl rfl jnX3 tyX3_ok nmX3 (by decide) k_fl_X3_15 rfl rfl rfl rfl (Nat.le_of_ble_eq_true rfl) rfl dX3_init_14 ?_
  clear hW H locs; intro H locs hW
  exact g_vretN C hW hrt ⟨q_1, rfl⟩ dX3_init_17
theorem q_X1_init : (Cond.code yX1_init cX1_init 1 none ∈ lw_g ∧ Cond.instanceMethod yX1_init ∈ lw_g ∧ Cond.initialized RX1 ∈ lw_g) ∧ yX1_init.cls = RX1 ∧ yX1_init.name = "<init>" ∧ yX1_init.cls ≠ "java/lang/invoke/MethodHandle" ∧ yX1_init.cls ≠ "java/lang/invoke/VarHandle" ∧ (parseMethodDescriptor yX1_init.desc).map (fun d => d.parameters.length) = some 0 := ⟨⟨k_co_X1_init, k_in_X1_init, k_ii_X1⟩, rfl, rfl, by decide +kernel, by decide +kernel, by decide +kernel⟩
set_option maxHeartbeats 8000000 in
set_option maxRecDepth 100000 in
theorem c_X1_init (l : Launch) (G : gT) (h0 : Nat)   : MN l G yX1_init cX1_init 1 ({ frames := 1, cells := 1, slots := 6, locals := 12 }) [.ref h0] [(h0, .inr (0, [.null]))] (fun w1 => ∃ u_ : Nat, w1 = [(h0, .inr (0, [.ref u_])), (u_, .inl (G.2.1, 6, .inl (fun _ => 0)))]) 1 6 := by
  refine MN.mk (by decide) rfl (Nat.le_of_ble_eq_true rfl) ?_
  intro p_ e_ s_ m_ ar_ be_ me_ cd_ A_ ls C hrt hin0 hW hl
  have hx := C.1; have hb := C.2.1; have hown := C.2.2.2.1; have ht := C.2.2.2.2.1
  replace hl : lv_has ls 1 [(0, .ref h0)] := hl
  refine lv_aload_n hx hb dX1_init_0 rfl (lv_at hl 0 rfl) ?_
  refine g_obj C hl k_ml_X1_3 ⟨Nat.le_of_ble_eq_true rfl, Nat.le_of_ble_eq_true rfl⟩ dX1_init_1 ?_
  refine lv_aload_n hx hb dX1_init_4 rfl (lv_at hl 0 rfl) ?_
  refine lv_bipush (v := 6) hx hb dX1_init_5 (by decide) ?_
  refine g_newI (N := 6) C hW (by decide) (by decide) (by decide) ⟨by first | decide | exact Nat.le_refl _, by first | decide | exact Nat.le_refl _⟩ dX1_init_7 (fun q_1 => ?_)
  clear hW; intro H hW
  replace hW : Wd G A_ s_.heap [(h0, .inr (0, [.null])), (q_1, .inl (G.2.1, 6, .inl (fun _ => 0)))] H [] := hW
  refine W.widen (k := 1) (n := 6) (by omega) (by omega) ?_
  refine g_putF (k := 0) (ty := .array .int) (w' := [(h0, .inr (0, [.ref q_1])), (q_1, .inl (G.2.1, 6, .inl (fun _ => 0)))]) C hin0 hW 0 rfl rfl jnX1 tyX1_ok nmX1 (by decide) k_fl_X1_11 rfl rfl rfl rfl rfl (Nat.le_of_ble_eq_true rfl) rfl dX1_init_9 ?_
  clear hW; intro H locs hW
  exact g_vretN C hW hrt ⟨q_1, rfl⟩ dX1_init_12
theorem q_X7_init : (Cond.code yX7_init cX7_init 1 none ∈ lw_g ∧ Cond.instanceMethod yX7_init ∈ lw_g ∧ Cond.initialized RX7 ∈ lw_g) ∧ yX7_init.cls = RX7 ∧ yX7_init.name = "<init>" ∧ yX7_init.cls ≠ "java/lang/invoke/MethodHandle" ∧ yX7_init.cls ≠ "java/lang/invoke/VarHandle" ∧ (parseMethodDescriptor yX7_init.desc).map (fun d => d.parameters.length) = some 0 := ⟨⟨k_co_X7_init, k_in_X7_init, k_ii_X7⟩, rfl, rfl, by decide +kernel, by decide +kernel, by decide +kernel⟩
set_option maxHeartbeats 8000000 in
set_option maxRecDepth 100000 in
theorem c_X7_init (l : Launch) (G : gT) (h0 : Nat)   : MN l G yX7_init cX7_init 1 ({ frames := 1, cells := 1, slots := 60, locals := 12 }) [.ref h0] [(h0, .inr (5, [.null, .int 0]))] (fun w1 => ∃ u_ : Nat, w1 = [(h0, .inr (5, [.ref u_, .int 0])), (u_, .inl (G.2.1, 60, .inl (fun _ => 0)))]) 1 60 := by
  refine MN.mk (by decide) rfl (Nat.le_of_ble_eq_true rfl) ?_
  intro p_ e_ s_ m_ ar_ be_ me_ cd_ A_ ls C hrt hin0 hW hl
  have hx := C.1; have hb := C.2.1; have hown := C.2.2.2.1; have ht := C.2.2.2.2.1
  replace hl : lv_has ls 1 [(0, .ref h0)] := hl
  refine lv_aload_n hx hb dX7_init_0 rfl (lv_at hl 0 rfl) ?_
  refine g_obj C hl k_ml_X7_1 ⟨Nat.le_of_ble_eq_true rfl, Nat.le_of_ble_eq_true rfl⟩ dX7_init_1 ?_
  refine lv_aload_n hx hb dX7_init_4 rfl (lv_at hl 0 rfl) ?_
  refine lv_bipush (v := 60) hx hb dX7_init_5 (by decide) ?_
  refine g_newI (N := 60) C hW (by decide) (by decide) (by decide) ⟨by first | decide | exact Nat.le_refl _, by first | decide | exact Nat.le_refl _⟩ dX7_init_7 (fun q_1 => ?_)
  clear hW; intro H hW
  replace hW : Wd G A_ s_.heap [(h0, .inr (5, [.null, .int 0])), (q_1, .inl (G.2.1, 60, .inl (fun _ => 0)))] H [] := hW
  refine W.widen (k := 1) (n := 60) (by omega) (by omega) ?_
  refine g_putF (k := 0) (ty := .array .int) (w' := [(h0, .inr (5, [.ref q_1, .int 0])), (q_1, .inl (G.2.1, 60, .inl (fun _ => 0)))]) C hin0 hW 0 rfl rfl jnX7 tyX7_ok nmX7 (by decide) k_fl_X7_9 rfl rfl rfl rfl rfl (Nat.le_of_ble_eq_true rfl) rfl dX7_init_9 ?_
  clear hW; intro H locs hW
  refine lv_aload_n hx hb dX7_init_12 rfl (lv_at hl 0 rfl) ?_
  refine lv_iconst (v := 0) hx hb dX7_init_13 (by decide) ?_
  refine g_put (k := 1) (ty := .int) (w' := [(h0, .inr (5, [.ref q_1, .int 0])), (q_1, .inl (G.2.1, 60, .inl (fun _ => 0)))]) C hW 0 rfl rfl jnX7 tyX7_ok nmX7 (by decide) k_fl_X7_13 rfl rfl rfl rfl (Nat.le_of_ble_eq_true rfl) rfl dX7_init_14 ?_
  clear hW H locs; intro H locs hW
  exact g_vretN C hW hrt ⟨q_1, rfl⟩ dX7_init_17
theorem q_X8_init : (Cond.code yX8_init cX8_init 1 none ∈ lw_g ∧ Cond.instanceMethod yX8_init ∈ lw_g ∧ Cond.initialized RX8 ∈ lw_g) ∧ yX8_init.cls = RX8 ∧ yX8_init.name = "<init>" ∧ yX8_init.cls ≠ "java/lang/invoke/MethodHandle" ∧ yX8_init.cls ≠ "java/lang/invoke/VarHandle" ∧ (parseMethodDescriptor yX8_init.desc).map (fun d => d.parameters.length) = some 0 := ⟨⟨k_co_X8_init, k_in_X8_init, k_ii_X8⟩, rfl, rfl, by decide +kernel, by decide +kernel, by decide +kernel⟩
set_option maxHeartbeats 8000000 in
set_option maxRecDepth 100000 in
theorem c_X8_init (l : Launch) (G : gT) (h0 : Nat)   : MN l G yX8_init cX8_init 1 ({ frames := 1, cells := 1, slots := 150, locals := 12 }) [.ref h0] [(h0, .inr (6, [.null, .int 0, .int 0, .int 0, .int 0]))] (fun w1 => ∃ u_ : Nat, w1 = [(h0, .inr (6, [.ref u_, .int 0, .int 0, .int 0, .int 0])), (u_, .inl (G.2.1, 150, .inl (fun _ => 0)))]) 1 150 := by
  refine MN.mk (by decide) rfl (Nat.le_of_ble_eq_true rfl) ?_
  intro p_ e_ s_ m_ ar_ be_ me_ cd_ A_ ls C hrt hin0 hW hl
  have hx := C.1; have hb := C.2.1; have hown := C.2.2.2.1; have ht := C.2.2.2.2.1
  replace hl : lv_has ls 1 [(0, .ref h0)] := hl
  refine lv_aload_n hx hb dX8_init_0 rfl (lv_at hl 0 rfl) ?_
  refine g_obj C hl k_ml_X8_3 ⟨Nat.le_of_ble_eq_true rfl, Nat.le_of_ble_eq_true rfl⟩ dX8_init_1 ?_
  refine lv_aload_n hx hb dX8_init_4 rfl (lv_at hl 0 rfl) ?_
  refine lv_sipush (v := 150) hx hb dX8_init_5 (by decide) ?_
  refine g_newI (N := 150) C hW (by decide) (by decide) (by decide) ⟨by first | decide | exact Nat.le_refl _, by first | decide | exact Nat.le_refl _⟩ dX8_init_8 (fun q_1 => ?_)
  clear hW; intro H hW
  replace hW : Wd G A_ s_.heap [(h0, .inr (6, [.null, .int 0, .int 0, .int 0, .int 0])), (q_1, .inl (G.2.1, 150, .inl (fun _ => 0)))] H [] := hW
  refine W.widen (k := 1) (n := 150) (by omega) (by omega) ?_
  refine g_putF (k := 0) (ty := .array .int) (w' := [(h0, .inr (6, [.ref q_1, .int 0, .int 0, .int 0, .int 0])), (q_1, .inl (G.2.1, 150, .inl (fun _ => 0)))]) C hin0 hW 0 rfl rfl jnX8 tyX8_ok nmX8 (by decide) k_fl_X8_11 rfl rfl rfl rfl rfl (Nat.le_of_ble_eq_true rfl) rfl dX8_init_10 ?_
  clear hW; intro H locs hW
  refine lv_aload_n hx hb dX8_init_13 rfl (lv_at hl 0 rfl) ?_
  refine lv_iconst (v := 0) hx hb dX8_init_14 (by decide) ?_
  refine g_put (k := 1) (ty := .int) (w' := [(h0, .inr (6, [.ref q_1, .int 0, .int 0, .int 0, .int 0])), (q_1, .inl (G.2.1, 150, .inl (fun _ => 0)))]) C hW 0 rfl rfl jnX8 tyX8_ok nmX8 (by decide) k_fl_X8_15 rfl rfl rfl rfl (Nat.le_of_ble_eq_true rfl) rfl dX8_init_15 ?_
  clear hW H locs; intro H locs hW
  refine lv_aload_n hx hb dX8_init_18 rfl (lv_at hl 0 rfl) ?_
  refine lv_iconst (v := 0) hx hb dX8_init_19 (by decide) ?_
  refine g_put (k := 2) (ty := .int) (w' := [(h0, .inr (6, [.ref q_1, .int 0, .int 0, .int 0, .int 0])), (q_1, .inl (G.2.1, 150, .inl (fun _ => 0)))]) C hW 0 rfl rfl jnX8 tyX8_ok nmX8 (by decide) k_fl_X8_19 rfl rfl rfl rfl (Nat.le_of_ble_eq_true rfl) rfl dX8_init_20 ?_
  clear hW H locs; intro H locs hW
  refine lv_aload_n hx hb dX8_init_23 rfl (lv_at hl 0 rfl) ?_
  refine lv_iconst (v := 0) hx hb dX8_init_24 (by decide) ?_
  refine g_put (k := 3) (ty := .int) (w' := [(h0, .inr (6, [.ref q_1, .int 0, .int 0, .int 0, .int 0])), (q_1, .inl (G.2.1, 150, .inl (fun _ => 0)))]) C hW 0 rfl rfl jnX8 tyX8_ok nmX8 (by decide) k_fl_X8_22 rfl rfl rfl rfl (Nat.le_of_ble_eq_true rfl) rfl dX8_init_25 ?_
  clear hW H locs; intro H locs hW
  refine lv_aload_n hx hb dX8_init_28 rfl (lv_at hl 0 rfl) ?_
  refine lv_iconst (v := 0) hx hb dX8_init_29 (by decide) ?_
  refine g_put (k := 4) (ty := .int) (w' := [(h0, .inr (6, [.ref q_1, .int 0, .int 0, .int 0, .int 0])), (q_1, .inl (G.2.1, 150, .inl (fun _ => 0)))]) C hW 0 rfl rfl jnX8 tyX8_ok nmX8 (by decide) k_fl_X8_25 rfl rfl rfl rfl (Nat.le_of_ble_eq_true rfl) rfl dX8_init_30 ?_
  clear hW H locs; intro H locs hW
  exact g_vretN C hW hrt ⟨q_1, rfl⟩ dX8_init_33
theorem q_X4_init : (Cond.code yX4_init cX4_init 1 none ∈ lw_g ∧ Cond.instanceMethod yX4_init ∈ lw_g ∧ Cond.initialized RX4 ∈ lw_g) ∧ yX4_init.cls = RX4 ∧ yX4_init.name = "<init>" ∧ yX4_init.cls ≠ "java/lang/invoke/MethodHandle" ∧ yX4_init.cls ≠ "java/lang/invoke/VarHandle" ∧ (parseMethodDescriptor yX4_init.desc).map (fun d => d.parameters.length) = some 0 := ⟨⟨k_co_X4_init, k_in_X4_init, k_ii_X4⟩, rfl, rfl, by decide +kernel, by decide +kernel, by decide +kernel⟩
set_option maxHeartbeats 8000000 in
set_option maxRecDepth 100000 in
theorem c_X4_init (l : Launch) (G : gT) (h0 : Nat)   : MN l G yX4_init cX4_init 1 ({ frames := 1, cells := 3, slots := 552, locals := 12 }) [.ref h0] [(h0, .inr (2, [.null, .null, .null, .int 0, .int 0]))] (fun w1 => ∃ u_ : Nat × Nat × Nat, w1 = [(h0, .inr (2, [.ref u_.1, .ref u_.2.1, .ref u_.2.2, .int 0, .int 0])), (u_.1, .inl (G.2.1, 40, .inl (fun _ => 0))), (u_.2.1, .inl (G.2.1, 256, .inl (fun _ => 0))), (u_.2.2, .inl (G.2.1, 256, .inl (fun _ => 0)))]) 3 552 := by
  refine MN.mk (by decide) rfl (Nat.le_of_ble_eq_true rfl) ?_
  intro p_ e_ s_ m_ ar_ be_ me_ cd_ A_ ls C hrt hin0 hW hl
  have hx := C.1; have hb := C.2.1; have hown := C.2.2.2.1; have ht := C.2.2.2.2.1
  replace hl : lv_has ls 1 [(0, .ref h0)] := hl
  refine lv_aload_n hx hb dX4_init_0 rfl (lv_at hl 0 rfl) ?_
  refine g_obj C hl k_ml_X4_5 ⟨Nat.le_of_ble_eq_true rfl, Nat.le_of_ble_eq_true rfl⟩ dX4_init_1 ?_
  refine lv_aload_n hx hb dX4_init_4 rfl (lv_at hl 0 rfl) ?_
  refine lv_bipush (v := 40) hx hb dX4_init_5 (by decide) ?_
  refine g_newI (N := 40) C hW (by decide) (by decide) (by decide) ⟨by first | decide | exact Nat.le_refl _, by first | decide | exact Nat.le_refl _⟩ dX4_init_7 (fun q_1 => ?_)
  clear hW; intro H hW
  replace hW : Wd G A_ s_.heap [(h0, .inr (2, [.null, .null, .null, .int 0, .int 0])), (q_1, .inl (G.2.1, 40, .inl (fun _ => 0)))] H [] := hW
  refine W.widen (k := 1) (n := 40) (by omega) (by omega) ?_
  refine g_putF (k := 0) (ty := .array .int) (w' := [(h0, .inr (2, [.ref q_1, .null, .null, .int 0, .int 0])), (q_1, .inl (G.2.1, 40, .inl (fun _ => 0)))]) C hin0 hW 0 rfl rfl jnX4 tyX4_ok nmX4 (by decide) k_fl_X4_11 rfl rfl rfl rfl rfl (Nat.le_of_ble_eq_true rfl) rfl dX4_init_9 ?_
  clear hW; intro H locs hW
  refine lv_aload_n hx hb dX4_init_12 rfl (lv_at hl 0 rfl) ?_
  refine lv_sipush (v := 256) hx hb dX4_init_13 (by decide) ?_
  refine g_newI (N := 256) C hW (by decide) (by decide) (by decide) ⟨by first | decide | exact Nat.le_refl _, by first | decide | exact Nat.le_refl _⟩ dX4_init_16 (fun q_2 => ?_)
  clear hW H; intro H hW
  replace hW : Wd G A_ s_.heap [(h0, .inr (2, [.ref q_1, .null, .null, .int 0, .int 0])), (q_1, .inl (G.2.1, 40, .inl (fun _ => 0))), (q_2, .inl (G.2.1, 256, .inl (fun _ => 0)))] H locs := hW
  refine W.widen (k := 2) (n := 296) (by omega) (by omega) ?_
  refine g_putF (k := 1) (ty := .array .int) (w' := [(h0, .inr (2, [.ref q_1, .ref q_2, .null, .int 0, .int 0])), (q_1, .inl (G.2.1, 40, .inl (fun _ => 0))), (q_2, .inl (G.2.1, 256, .inl (fun _ => 0)))]) C hin0 hW 0 rfl rfl jnX4 tyX4_ok nmX4 (by decide) k_fl_X4_15 rfl rfl rfl rfl rfl (Nat.le_of_ble_eq_true rfl) rfl dX4_init_18 ?_
  clear hW H locs; intro H locs hW
  refine lv_aload_n hx hb dX4_init_21 rfl (lv_at hl 0 rfl) ?_
  refine lv_sipush (v := 256) hx hb dX4_init_22 (by decide) ?_
  refine g_newI (N := 256) C hW (by decide) (by decide) (by decide) ⟨by first | decide | exact Nat.le_refl _, by first | decide | exact Nat.le_refl _⟩ dX4_init_25 (fun q_3 => ?_)
  clear hW H; intro H hW
  replace hW : Wd G A_ s_.heap [(h0, .inr (2, [.ref q_1, .ref q_2, .null, .int 0, .int 0])), (q_1, .inl (G.2.1, 40, .inl (fun _ => 0))), (q_2, .inl (G.2.1, 256, .inl (fun _ => 0))), (q_3, .inl (G.2.1, 256, .inl (fun _ => 0)))] H locs := hW
  refine W.widen (k := 3) (n := 552) (by omega) (by omega) ?_
  refine g_putF (k := 2) (ty := .array .int) (w' := [(h0, .inr (2, [.ref q_1, .ref q_2, .ref q_3, .int 0, .int 0])), (q_1, .inl (G.2.1, 40, .inl (fun _ => 0))), (q_2, .inl (G.2.1, 256, .inl (fun _ => 0))), (q_3, .inl (G.2.1, 256, .inl (fun _ => 0)))]) C hin0 hW 0 rfl rfl jnX4 tyX4_ok nmX4 (by decide) k_fl_X4_18 rfl rfl rfl rfl rfl (Nat.le_of_ble_eq_true rfl) rfl dX4_init_27 ?_
  clear hW H locs; intro H locs hW
  refine lv_aload_n hx hb dX4_init_30 rfl (lv_at hl 0 rfl) ?_
  refine lv_iconst (v := 0) hx hb dX4_init_31 (by decide) ?_
  refine g_put (k := 3) (ty := .int) (w' := [(h0, .inr (2, [.ref q_1, .ref q_2, .ref q_3, .int 0, .int 0])), (q_1, .inl (G.2.1, 40, .inl (fun _ => 0))), (q_2, .inl (G.2.1, 256, .inl (fun _ => 0))), (q_3, .inl (G.2.1, 256, .inl (fun _ => 0)))]) C hW 0 rfl rfl jnX4 tyX4_ok nmX4 (by decide) k_fl_X4_21 rfl rfl rfl rfl (Nat.le_of_ble_eq_true rfl) rfl dX4_init_32 ?_
  clear hW H locs; intro H locs hW
  refine lv_aload_n hx hb dX4_init_35 rfl (lv_at hl 0 rfl) ?_
  refine lv_iconst (v := 0) hx hb dX4_init_36 (by decide) ?_
  refine g_put (k := 4) (ty := .int) (w' := [(h0, .inr (2, [.ref q_1, .ref q_2, .ref q_3, .int 0, .int 0])), (q_1, .inl (G.2.1, 40, .inl (fun _ => 0))), (q_2, .inl (G.2.1, 256, .inl (fun _ => 0))), (q_3, .inl (G.2.1, 256, .inl (fun _ => 0)))]) C hW 0 rfl rfl jnX4 tyX4_ok nmX4 (by decide) k_fl_X4_25 rfl rfl rfl rfl (Nat.le_of_ble_eq_true rfl) rfl dX4_init_37 ?_
  clear hW H locs; intro H locs hW
  exact g_vretN C hW hrt ⟨(q_1, q_2, q_3), by dsimp only⟩ dX4_init_40
theorem q_X9_init : (Cond.code yX9_init cX9_init 1 none ∈ lw_g ∧ Cond.instanceMethod yX9_init ∈ lw_g ∧ Cond.initialized RX9 ∈ lw_g) ∧ yX9_init.cls = RX9 ∧ yX9_init.name = "<init>" ∧ yX9_init.cls ≠ "java/lang/invoke/MethodHandle" ∧ yX9_init.cls ≠ "java/lang/invoke/VarHandle" ∧ (parseMethodDescriptor yX9_init.desc).map (fun d => d.parameters.length) = some 0 := ⟨⟨k_co_X9_init, k_in_X9_init, k_ii_X9⟩, rfl, rfl, by decide +kernel, by decide +kernel, by decide +kernel⟩
set_option maxHeartbeats 8000000 in
set_option maxRecDepth 100000 in
theorem c_X9_init (l : Launch) (G : gT) (h0 : Nat)   : MN l G yX9_init cX9_init 1 ({ frames := 2, cells := 12, slots := 171, locals := 36 }) [.ref h0] [(h0, .inr (7, [.int 0, .null, .null, .null, .null, .null, .null, .null]))] (fun w1 => ∃ u_ : Nat × Nat × Nat × Nat × Nat × Nat × Nat × Nat × Nat × Nat × Nat × Nat, w1 = [(h0, .inr (7, [.int 10, .ref u_.1, .ref u_.2.1, .ref u_.2.2.1, .ref u_.2.2.2.2.1, .ref u_.2.2.2.2.2.2.1, .ref u_.2.2.2.2.2.2.2.2.1, .ref u_.2.2.2.2.2.2.2.2.2.2.1])), (u_.1, .inl (G.2.1, 6, .inl (fun _ => 0))), (u_.2.1, .inl (G.2.1, 7, .inl (upd (upd (fun _ => 0) 1 1) 3 1))), (u_.2.2.1, .inr (4, [.int (nI 7), .int (nI 3), .ref u_.2.2.2.1, .int 0])), (u_.2.2.2.1, .inl (G.2.1, 21, .inl (fun _ => 0))), (u_.2.2.2.2.1, .inr (4, [.int (nI 5), .int (nI 3), .ref u_.2.2.2.2.2.1, .int 0])), (u_.2.2.2.2.2.1, .inl (G.2.1, 15, .inl (fun _ => 0))), (u_.2.2.2.2.2.2.1, .inr (4, [.int (nI 6), .int (nI 4), .ref u_.2.2.2.2.2.2.2.1, .int 0])), (u_.2.2.2.2.2.2.2.1, .inl (G.2.1, 24, .inl (fun _ => 0))), (u_.2.2.2.2.2.2.2.2.1, .inr (4, [.int (nI 6), .int (nI 4), .ref u_.2.2.2.2.2.2.2.2.2.1, .int 0])), (u_.2.2.2.2.2.2.2.2.2.1, .inl (G.2.1, 24, .inl (fun _ => 0))), (u_.2.2.2.2.2.2.2.2.2.2.1, .inr (1, [.ref u_.2.2.2.2.2.2.2.2.2.2.2, .int 0])), (u_.2.2.2.2.2.2.2.2.2.2.2, .inl (G.2.1, 56, .inl (fun _ => 0)))]) 12 171 := by
  refine MN.mk (by decide) rfl (Nat.le_of_ble_eq_true rfl) ?_
  intro p_ e_ s_ m_ ar_ be_ me_ cd_ A_ ls C hrt hin0 hW hl
  have hx := C.1; have hb := C.2.1; have hown := C.2.2.2.1; have ht := C.2.2.2.2.1
  replace hl : lv_has ls 1 [(0, .ref h0)] := hl
  refine lv_aload_n hx hb dX9_init_0 rfl (lv_at hl 0 rfl) ?_
  refine g_obj C hl k_ml_X9_3 ⟨Nat.le_of_ble_eq_true rfl, Nat.le_of_ble_eq_true rfl⟩ dX9_init_1 ?_
  refine lv_aload_n hx hb dX9_init_4 rfl (lv_at hl 0 rfl) ?_
  refine lv_bipush (v := 10) hx hb dX9_init_5 (by decide) ?_
  refine g_put (k := 0) (ty := .int) (w' := [(h0, .inr (7, [.int 10, .null, .null, .null, .null, .null, .null, .null]))]) C hW 0 rfl rfl jnX9 tyX9_ok nmX9 (by decide) k_fl_X9_9 rfl rfl rfl rfl (Nat.le_of_ble_eq_true rfl) rfl dX9_init_7 ?_
  clear hW; intro H locs hW
  refine lv_aload_n hx hb dX9_init_10 rfl (lv_at hl 0 rfl) ?_
  refine lv_bipush (v := 6) hx hb dX9_init_11 (by decide) ?_
  refine g_newI (N := 6) C hW (by decide) (by decide) (by decide) ⟨by first | decide | exact Nat.le_refl _, by first | decide | exact Nat.le_refl _⟩ dX9_init_13 (fun q_1 => ?_)
  clear hW H; intro H hW
  replace hW : Wd G A_ s_.heap [(h0, .inr (7, [.int 10, .null, .null, .null, .null, .null, .null, .null])), (q_1, .inl (G.2.1, 6, .inl (fun _ => 0)))] H locs := hW
  refine W.widen (k := 1) (n := 6) (by omega) (by omega) ?_
  refine g_putF (k := 1) (ty := .array .int) (w' := [(h0, .inr (7, [.int 10, .ref q_1, .null, .null, .null, .null, .null, .null])), (q_1, .inl (G.2.1, 6, .inl (fun _ => 0)))]) C hin0 hW 0 rfl rfl jnX9 tyX9_ok nmX9 (by decide) k_fl_X9_15 rfl rfl rfl rfl rfl (Nat.le_of_ble_eq_true rfl) rfl dX9_init_15 ?_
  clear hW H locs; intro H locs hW
  refine lv_aload_n hx hb dX9_init_18 rfl (lv_at hl 0 rfl) ?_
  refine lv_bipush (v := 7) hx hb dX9_init_19 (by decide) ?_
  refine g_newI (N := 7) C hW (by decide) (by decide) (by decide) ⟨by first | decide | exact Nat.le_refl _, by first | decide | exact Nat.le_refl _⟩ dX9_init_21 (fun q_2 => ?_)
  clear hW H; intro H hW
  replace hW : Wd G A_ s_.heap [(h0, .inr (7, [.int 10, .ref q_1, .null, .null, .null, .null, .null, .null])), (q_1, .inl (G.2.1, 6, .inl (fun _ => 0))), (q_2, .inl (G.2.1, 7, .inl (fun _ => 0)))] H locs := hW
  refine W.widen (k := 2) (n := 13) (by omega) (by omega) ?_
  refine g_putF (k := 2) (ty := .array .int) (w' := [(h0, .inr (7, [.int 10, .ref q_1, .ref q_2, .null, .null, .null, .null, .null])), (q_1, .inl (G.2.1, 6, .inl (fun _ => 0))), (q_2, .inl (G.2.1, 7, .inl (fun _ => 0)))]) C hin0 hW 0 rfl rfl jnX9 tyX9_ok nmX9 (by decide) k_fl_X9_19 rfl rfl rfl rfl rfl (Nat.le_of_ble_eq_true rfl) rfl dX9_init_23 ?_
  clear hW H locs; intro H locs hW
  refine lv_aload_n hx hb dX9_init_26 rfl (lv_at hl 0 rfl) ?_
  refine g_newc (ci := 4) (fs := [.int 0, .int 0, .null, .int 0]) C hW jnX6 tyX6_ok k_cl_X9_22 k_it_X6 k_ii_X6 rfl (fun j hj => by rcases (show j = 0 ∨ j = 1 ∨ j = 2 ∨ j = 3 by omega) with rfl | rfl | rfl | rfl <;> rfl) ⟨by decide, by decide⟩ dX9_init_27 (fun q_3 => ?_)
  clear hW H; intro H hW
  replace hW : Wd G A_ s_.heap [(h0, .inr (7, [.int 10, .ref q_1, .ref q_2, .null, .null, .null, .null, .null])), (q_1, .inl (G.2.1, 6, .inl (fun _ => 0))), (q_2, .inl (G.2.1, 7, .inl (fun _ => 0))), (q_3, .inr (4, [.int 0, .int 0, .null, .int 0]))] H locs := hW
  refine W.widen (k := 3) (n := 17) (by omega) (by omega) ?_
  refine lv_dup hx hb dX9_init_30 rfl ?_
  refine lv_bipush (v := 7) hx hb dX9_init_31 (by decide) ?_
  refine lv_iconst (v := 3) hx hb dX9_init_33 (by decide) ?_
  refine g_fvN (wr := [(h0, .inr (7, [.int 10, .ref q_1, .ref q_2, .null, .null, .null, .null, .null])), (q_1, .inl (G.2.1, 6, .inl (fun _ => 0))), (q_2, .inl (G.2.1, 7, .inl (fun _ => 0)))]) (ww := fun (u_ : Nat) => [(q_3, .inr (4, [.int (nI 7), .int (nI 3), .ref u_, .int 0])), (u_, .inl (G.2.1, 21, .inl (fun _ => 0)))]) (w2 := fun (u_ : Nat) => [(h0, .inr (7, [.int 10, .ref q_1, .ref q_2, .null, .null, .null, .null, .null])), (q_1, .inl (G.2.1, 6, .inl (fun _ => 0))), (q_2, .inl (G.2.1, 7, .inl (fun _ => 0))), (q_3, .inr (4, [.int (nI 7), .int (nI 3), .ref u_, .int 0])), (u_, .inl (G.2.1, 21, .inl (fun _ => 0)))]) C hW [3] [0, 1, 2] [0, 1, 2, 3, 4] rfl rfl (by decide) (by decide) (by decide) (fun _ => rfl) (g_runI (As := [.int 7, .int 3]) (rest := [.ref q_3, .ref h0]) (wc := [(q_3, .inr (4, [.int 0, .int 0, .null, .int 0]))]) C hW hl (c_X6_init l G q_3 7 3 (by decide) _) k_ml_X9_24 q_X6_init (by decide) [3] rfl rfl rfl rfl (Nat.le_of_ble_eq_true rfl) dX9_init_34 (by decide)) (fun u_ => ?_)
  obtain ⟨q_1_4, hq9⟩ : ∃ z : Nat, z = u_ := ⟨_, rfl⟩; subst hq9
  clear hW H locs; intro H locs hW
  replace hW : Wd G A_ s_.heap [(h0, .inr (7, [.int 10, .ref q_1, .ref q_2, .null, .null, .null, .null, .null])), (q_1, .inl (G.2.1, 6, .inl (fun _ => 0))), (q_2, .inl (G.2.1, 7, .inl (fun _ => 0))), (q_3, .inr (4, [.int (nI 7), .int (nI 3), .ref q_1_4, .int 0])), (q_1_4, .inl (G.2.1, 21, .inl (fun _ => 0)))] H locs := hW
  refine W.widen (k := 4) (n := 38) (by omega) (by omega) ?_
  refine g_putF (k := 3) (ty := .object "TruthOver$Rows") (w' := [(h0, .inr (7, [.int 10, .ref q_1, .ref q_2, .ref q_3, .null, .null, .null, .null])), (q_1, .inl (G.2.1, 6, .inl (fun _ => 0))), (q_2, .inl (G.2.1, 7, .inl (fun _ => 0))), (q_3, .inr (4, [.int (nI 7), .int (nI 3), .ref q_1_4, .int 0])), (q_1_4, .inl (G.2.1, 21, .inl (fun _ => 0)))]) C hin0 hW 0 rfl rfl jnX9 tyX9_ok nmX9 (by decide) k_fl_X9_27 rfl rfl rfl rfl rfl (Nat.le_of_ble_eq_true rfl) rfl dX9_init_37 ?_
  clear hW H locs; intro H locs hW
  refine lv_aload_n hx hb dX9_init_40 rfl (lv_at hl 0 rfl) ?_
  refine g_newc (ci := 4) (fs := [.int 0, .int 0, .null, .int 0]) C hW jnX6 tyX6_ok k_cl_X9_22 k_it_X6 k_ii_X6 rfl (fun j hj => by rcases (show j = 0 ∨ j = 1 ∨ j = 2 ∨ j = 3 by omega) with rfl | rfl | rfl | rfl <;> rfl) ⟨by decide, by decide⟩ dX9_init_41 (fun q_5 => ?_)
  clear hW H; intro H hW
  replace hW : Wd G A_ s_.heap [(h0, .inr (7, [.int 10, .ref q_1, .ref q_2, .ref q_3, .null, .null, .null, .null])), (q_1, .inl (G.2.1, 6, .inl (fun _ => 0))), (q_2, .inl (G.2.1, 7, .inl (fun _ => 0))), (q_3, .inr (4, [.int (nI 7), .int (nI 3), .ref q_1_4, .int 0])), (q_1_4, .inl (G.2.1, 21, .inl (fun _ => 0))), (q_5, .inr (4, [.int 0, .int 0, .null, .int 0]))] H locs := hW
  refine W.widen (k := 5) (n := 42) (by omega) (by omega) ?_
  refine lv_dup hx hb dX9_init_44 rfl ?_
  refine lv_iconst (v := 5) hx hb dX9_init_45 (by decide) ?_
  refine lv_iconst (v := 3) hx hb dX9_init_46 (by decide) ?_
  refine g_fvN (wr := [(h0, .inr (7, [.int 10, .ref q_1, .ref q_2, .ref q_3, .null, .null, .null, .null])), (q_1, .inl (G.2.1, 6, .inl (fun _ => 0))), (q_2, .inl (G.2.1, 7, .inl (fun _ => 0))), (q_3, .inr (4, [.int (nI 7), .int (nI 3), .ref q_1_4, .int 0])), (q_1_4, .inl (G.2.1, 21, .inl (fun _ => 0)))]) (ww := fun (u_ : Nat) => [(q_5, .inr (4, [.int (nI 5), .int (nI 3), .ref u_, .int 0])), (u_, .inl (G.2.1, 15, .inl (fun _ => 0)))]) (w2 := fun (u_ : Nat) => [(h0, .inr (7, [.int 10, .ref q_1, .ref q_2, .ref q_3, .null, .null, .null, .null])), (q_1, .inl (G.2.1, 6, .inl (fun _ => 0))), (q_2, .inl (G.2.1, 7, .inl (fun _ => 0))), (q_3, .inr (4, [.int (nI 7), .int (nI 3), .ref q_1_4, .int 0])), (q_1_4, .inl (G.2.1, 21, .inl (fun _ => 0))), (q_5, .inr (4, [.int (nI 5), .int (nI 3), .ref u_, .int 0])), (u_, .inl (G.2.1, 15, .inl (fun _ => 0)))]) C hW [5] [0, 1, 2, 3, 4] [0, 1, 2, 3, 4, 5, 6] rfl rfl (by decide) (by decide) (by decide) (fun _ => rfl) (g_runI (As := [.int 5, .int 3]) (rest := [.ref q_5, .ref h0]) (wc := [(q_5, .inr (4, [.int 0, .int 0, .null, .int 0]))]) C hW hl (c_X6_init l G q_5 5 3 (by decide) _) k_ml_X9_24 q_X6_init (by decide) [5] rfl rfl rfl rfl (Nat.le_of_ble_eq_true rfl) dX9_init_47 (by decide)) (fun u_ => ?_)
  obtain ⟨q_1_6, hq9⟩ : ∃ z : Nat, z = u_ := ⟨_, rfl⟩; subst hq9
  clear hW H locs; intro H locs hW
  replace hW : Wd G A_ s_.heap [(h0, .inr (7, [.int 10, .ref q_1, .ref q_2, .ref q_3, .null, .null, .null, .null])), (q_1, .inl (G.2.1, 6, .inl (fun _ => 0))), (q_2, .inl (G.2.1, 7, .inl (fun _ => 0))), (q_3, .inr (4, [.int (nI 7), .int (nI 3), .ref q_1_4, .int 0])), (q_1_4, .inl (G.2.1, 21, .inl (fun _ => 0))), (q_5, .inr (4, [.int (nI 5), .int (nI 3), .ref q_1_6, .int 0])), (q_1_6, .inl (G.2.1, 15, .inl (fun _ => 0)))] H locs := hW
  refine W.widen (k := 6) (n := 57) (by omega) (by omega) ?_
  refine g_putF (k := 4) (ty := .object "TruthOver$Rows") (w' := [(h0, .inr (7, [.int 10, .ref q_1, .ref q_2, .ref q_3, .ref q_5, .null, .null, .null])), (q_1, .inl (G.2.1, 6, .inl (fun _ => 0))), (q_2, .inl (G.2.1, 7, .inl (fun _ => 0))), (q_3, .inr (4, [.int (nI 7), .int (nI 3), .ref q_1_4, .int 0])), (q_1_4, .inl (G.2.1, 21, .inl (fun _ => 0))), (q_5, .inr (4, [.int (nI 5), .int (nI 3), .ref q_1_6, .int 0])), (q_1_6, .inl (G.2.1, 15, .inl (fun _ => 0)))]) C hin0 hW 0 rfl rfl jnX9 tyX9_ok nmX9 (by decide) k_fl_X9_31 rfl rfl rfl rfl rfl (Nat.le_of_ble_eq_true rfl) rfl dX9_init_50 ?_
  clear hW H locs; intro H locs hW
  refine lv_aload_n hx hb dX9_init_53 rfl (lv_at hl 0 rfl) ?_
  refine g_newc (ci := 4) (fs := [.int 0, .int 0, .null, .int 0]) C hW jnX6 tyX6_ok k_cl_X9_22 k_it_X6 k_ii_X6 rfl (fun j hj => by rcases (show j = 0 ∨ j = 1 ∨ j = 2 ∨ j = 3 by omega) with rfl | rfl | rfl | rfl <;> rfl) ⟨by decide, by decide⟩ dX9_init_54 (fun q_7 => ?_)
  clear hW H; intro H hW
  replace hW : Wd G A_ s_.heap [(h0, .inr (7, [.int 10, .ref q_1, .ref q_2, .ref q_3, .ref q_5, .null, .null, .null])), (q_1, .inl (G.2.1, 6, .inl (fun _ => 0))), (q_2, .inl (G.2.1, 7, .inl (fun _ => 0))), (q_3, .inr (4, [.int (nI 7), .int (nI 3), .ref q_1_4, .int 0])), (q_1_4, .inl (G.2.1, 21, .inl (fun _ => 0))), (q_5, .inr (4, [.int (nI 5), .int (nI 3), .ref q_1_6, .int 0])), (q_1_6, .inl (G.2.1, 15, .inl (fun _ => 0))), (q_7, .inr (4, [.int 0, .int 0, .null, .int 0]))] H locs := hW
  refine W.widen (k := 7) (n := 61) (by omega) (by omega) ?_
  refine lv_dup hx hb dX9_init_57 rfl ?_
  refine lv_bipush (v := 6) hx hb dX9_init_58 (by decide) ?_
  refine lv_iconst (v := 4) hx hb dX9_init_60 (by decide) ?_
  refine g_fvN (wr := [(h0, .inr (7, [.int 10, .ref q_1, .ref q_2, .ref q_3, .ref q_5, .null, .null, .null])), (q_1, .inl (G.2.1, 6, .inl (fun _ => 0))), (q_2, .inl (G.2.1, 7, .inl (fun _ => 0))), (q_3, .inr (4, [.int (nI 7), .int (nI 3), .ref q_1_4, .int 0])), (q_1_4, .inl (G.2.1, 21, .inl (fun _ => 0))), (q_5, .inr (4, [.int (nI 5), .int (nI 3), .ref q_1_6, .int 0])), (q_1_6, .inl (G.2.1, 15, .inl (fun _ => 0)))]) (ww := fun (u_ : Nat) => [(q_7, .inr (4, [.int (nI 6), .int (nI 4), .ref u_, .int 0])), (u_, .inl (G.2.1, 24, .inl (fun _ => 0)))]) (w2 := fun (u_ : Nat) => [(h0, .inr (7, [.int 10, .ref q_1, .ref q_2, .ref q_3, .ref q_5, .null, .null, .null])), (q_1, .inl (G.2.1, 6, .inl (fun _ => 0))), (q_2, .inl (G.2.1, 7, .inl (fun _ => 0))), (q_3, .inr (4, [.int (nI 7), .int (nI 3), .ref q_1_4, .int 0])), (q_1_4, .inl (G.2.1, 21, .inl (fun _ => 0))), (q_5, .inr (4, [.int (nI 5), .int (nI 3), .ref q_1_6, .int 0])), (q_1_6, .inl (G.2.1, 15, .inl (fun _ => 0))), (q_7, .inr (4, [.int (nI 6), .int (nI 4), .ref u_, .int 0])), (u_, .inl (G.2.1, 24, .inl (fun _ => 0)))]) C hW [7] [0, 1, 2, 3, 4, 5, 6] [0, 1, 2, 3, 4, 5, 6, 7, 8] rfl rfl (by decide) (by decide) (by decide) (fun _ => rfl) (g_runI (As := [.int 6, .int 4]) (rest := [.ref q_7, .ref h0]) (wc := [(q_7, .inr (4, [.int 0, .int 0, .null, .int 0]))]) C hW hl (c_X6_init l G q_7 6 4 (by decide) _) k_ml_X9_24 q_X6_init (by decide) [7] rfl rfl rfl rfl (Nat.le_of_ble_eq_true rfl) dX9_init_61 (by decide)) (fun u_ => ?_)
  obtain ⟨q_1_8, hq9⟩ : ∃ z : Nat, z = u_ := ⟨_, rfl⟩; subst hq9
  clear hW H locs; intro H locs hW
  replace hW : Wd G A_ s_.heap [(h0, .inr (7, [.int 10, .ref q_1, .ref q_2, .ref q_3, .ref q_5, .null, .null, .null])), (q_1, .inl (G.2.1, 6, .inl (fun _ => 0))), (q_2, .inl (G.2.1, 7, .inl (fun _ => 0))), (q_3, .inr (4, [.int (nI 7), .int (nI 3), .ref q_1_4, .int 0])), (q_1_4, .inl (G.2.1, 21, .inl (fun _ => 0))), (q_5, .inr (4, [.int (nI 5), .int (nI 3), .ref q_1_6, .int 0])), (q_1_6, .inl (G.2.1, 15, .inl (fun _ => 0))), (q_7, .inr (4, [.int (nI 6), .int (nI 4), .ref q_1_8, .int 0])), (q_1_8, .inl (G.2.1, 24, .inl (fun _ => 0)))] H locs := hW
  refine W.widen (k := 8) (n := 85) (by omega) (by omega) ?_
  refine g_putF (k := 5) (ty := .object "TruthOver$Rows") (w' := [(h0, .inr (7, [.int 10, .ref q_1, .ref q_2, .ref q_3, .ref q_5, .ref q_7, .null, .null])), (q_1, .inl (G.2.1, 6, .inl (fun _ => 0))), (q_2, .inl (G.2.1, 7, .inl (fun _ => 0))), (q_3, .inr (4, [.int (nI 7), .int (nI 3), .ref q_1_4, .int 0])), (q_1_4, .inl (G.2.1, 21, .inl (fun _ => 0))), (q_5, .inr (4, [.int (nI 5), .int (nI 3), .ref q_1_6, .int 0])), (q_1_6, .inl (G.2.1, 15, .inl (fun _ => 0))), (q_7, .inr (4, [.int (nI 6), .int (nI 4), .ref q_1_8, .int 0])), (q_1_8, .inl (G.2.1, 24, .inl (fun _ => 0)))]) C hin0 hW 0 rfl rfl jnX9 tyX9_ok nmX9 (by decide) k_fl_X9_34 rfl rfl rfl rfl rfl (Nat.le_of_ble_eq_true rfl) rfl dX9_init_64 ?_
  clear hW H locs; intro H locs hW
  refine lv_aload_n hx hb dX9_init_67 rfl (lv_at hl 0 rfl) ?_
  refine g_newc (ci := 4) (fs := [.int 0, .int 0, .null, .int 0]) C hW jnX6 tyX6_ok k_cl_X9_22 k_it_X6 k_ii_X6 rfl (fun j hj => by rcases (show j = 0 ∨ j = 1 ∨ j = 2 ∨ j = 3 by omega) with rfl | rfl | rfl | rfl <;> rfl) ⟨by decide, by decide⟩ dX9_init_68 (fun q_9 => ?_)
  clear hW H; intro H hW
  replace hW : Wd G A_ s_.heap [(h0, .inr (7, [.int 10, .ref q_1, .ref q_2, .ref q_3, .ref q_5, .ref q_7, .null, .null])), (q_1, .inl (G.2.1, 6, .inl (fun _ => 0))), (q_2, .inl (G.2.1, 7, .inl (fun _ => 0))), (q_3, .inr (4, [.int (nI 7), .int (nI 3), .ref q_1_4, .int 0])), (q_1_4, .inl (G.2.1, 21, .inl (fun _ => 0))), (q_5, .inr (4, [.int (nI 5), .int (nI 3), .ref q_1_6, .int 0])), (q_1_6, .inl (G.2.1, 15, .inl (fun _ => 0))), (q_7, .inr (4, [.int (nI 6), .int (nI 4), .ref q_1_8, .int 0])), (q_1_8, .inl (G.2.1, 24, .inl (fun _ => 0))), (q_9, .inr (4, [.int 0, .int 0, .null, .int 0]))] H locs := hW
  refine W.widen (k := 9) (n := 89) (by omega) (by omega) ?_
  refine lv_dup hx hb dX9_init_71 rfl ?_
  refine lv_bipush (v := 6) hx hb dX9_init_72 (by decide) ?_
  refine lv_iconst (v := 4) hx hb dX9_init_74 (by decide) ?_
  refine g_fvN (wr := [(h0, .inr (7, [.int 10, .ref q_1, .ref q_2, .ref q_3, .ref q_5, .ref q_7, .null, .null])), (q_1, .inl (G.2.1, 6, .inl (fun _ => 0))), (q_2, .inl (G.2.1, 7, .inl (fun _ => 0))), (q_3, .inr (4, [.int (nI 7), .int (nI 3), .ref q_1_4, .int 0])), (q_1_4, .inl (G.2.1, 21, .inl (fun _ => 0))), (q_5, .inr (4, [.int (nI 5), .int (nI 3), .ref q_1_6, .int 0])), (q_1_6, .inl (G.2.1, 15, .inl (fun _ => 0))), (q_7, .inr (4, [.int (nI 6), .int (nI 4), .ref q_1_8, .int 0])), (q_1_8, .inl (G.2.1, 24, .inl (fun _ => 0)))]) (ww := fun (u_ : Nat) => [(q_9, .inr (4, [.int (nI 6), .int (nI 4), .ref u_, .int 0])), (u_, .inl (G.2.1, 24, .inl (fun _ => 0)))]) (w2 := fun (u_ : Nat) => [(h0, .inr (7, [.int 10, .ref q_1, .ref q_2, .ref q_3, .ref q_5, .ref q_7, .null, .null])), (q_1, .inl (G.2.1, 6, .inl (fun _ => 0))), (q_2, .inl (G.2.1, 7, .inl (fun _ => 0))), (q_3, .inr (4, [.int (nI 7), .int (nI 3), .ref q_1_4, .int 0])), (q_1_4, .inl (G.2.1, 21, .inl (fun _ => 0))), (q_5, .inr (4, [.int (nI 5), .int (nI 3), .ref q_1_6, .int 0])), (q_1_6, .inl (G.2.1, 15, .inl (fun _ => 0))), (q_7, .inr (4, [.int (nI 6), .int (nI 4), .ref q_1_8, .int 0])), (q_1_8, .inl (G.2.1, 24, .inl (fun _ => 0))), (q_9, .inr (4, [.int (nI 6), .int (nI 4), .ref u_, .int 0])), (u_, .inl (G.2.1, 24, .inl (fun _ => 0)))]) C hW [9] [0, 1, 2, 3, 4, 5, 6, 7, 8] [0, 1, 2, 3, 4, 5, 6, 7, 8, 9, 10] rfl rfl (by decide) (by decide) (by decide) (fun _ => rfl) (g_runI (As := [.int 6, .int 4]) (rest := [.ref q_9, .ref h0]) (wc := [(q_9, .inr (4, [.int 0, .int 0, .null, .int 0]))]) C hW hl (c_X6_init l G q_9 6 4 (by decide) _) k_ml_X9_24 q_X6_init (by decide) [9] rfl rfl rfl rfl (Nat.le_of_ble_eq_true rfl) dX9_init_75 (by decide)) (fun u_ => ?_)
  obtain ⟨q_1_10, hq9⟩ : ∃ z : Nat, z = u_ := ⟨_, rfl⟩; subst hq9
  clear hW H locs; intro H locs hW
  replace hW : Wd G A_ s_.heap [(h0, .inr (7, [.int 10, .ref q_1, .ref q_2, .ref q_3, .ref q_5, .ref q_7, .null, .null])), (q_1, .inl (G.2.1, 6, .inl (fun _ => 0))), (q_2, .inl (G.2.1, 7, .inl (fun _ => 0))), (q_3, .inr (4, [.int (nI 7), .int (nI 3), .ref q_1_4, .int 0])), (q_1_4, .inl (G.2.1, 21, .inl (fun _ => 0))), (q_5, .inr (4, [.int (nI 5), .int (nI 3), .ref q_1_6, .int 0])), (q_1_6, .inl (G.2.1, 15, .inl (fun _ => 0))), (q_7, .inr (4, [.int (nI 6), .int (nI 4), .ref q_1_8, .int 0])), (q_1_8, .inl (G.2.1, 24, .inl (fun _ => 0))), (q_9, .inr (4, [.int (nI 6), .int (nI 4), .ref q_1_10, .int 0])), (q_1_10, .inl (G.2.1, 24, .inl (fun _ => 0)))] H locs := hW
  refine W.widen (k := 10) (n := 113) (by omega) (by omega) ?_
  refine g_putF (k := 6) (ty := .object "TruthOver$Rows") (w' := [(h0, .inr (7, [.int 10, .ref q_1, .ref q_2, .ref q_3, .ref q_5, .ref q_7, .ref q_9, .null])), (q_1, .inl (G.2.1, 6, .inl (fun _ => 0))), (q_2, .inl (G.2.1, 7, .inl (fun _ => 0))), (q_3, .inr (4, [.int (nI 7), .int (nI 3), .ref q_1_4, .int 0])), (q_1_4, .inl (G.2.1, 21, .inl (fun _ => 0))), (q_5, .inr (4, [.int (nI 5), .int (nI 3), .ref q_1_6, .int 0])), (q_1_6, .inl (G.2.1, 15, .inl (fun _ => 0))), (q_7, .inr (4, [.int (nI 6), .int (nI 4), .ref q_1_8, .int 0])), (q_1_8, .inl (G.2.1, 24, .inl (fun _ => 0))), (q_9, .inr (4, [.int (nI 6), .int (nI 4), .ref q_1_10, .int 0])), (q_1_10, .inl (G.2.1, 24, .inl (fun _ => 0)))]) C hin0 hW 0 rfl rfl jnX9 tyX9_ok nmX9 (by decide) k_fl_X9_37 rfl rfl rfl rfl rfl (Nat.le_of_ble_eq_true rfl) rfl dX9_init_78 ?_
  clear hW H locs; intro H locs hW
  refine lv_aload_n hx hb dX9_init_81 rfl (lv_at hl 0 rfl) ?_
  refine g_newc (ci := 1) (fs := [.null, .int 0]) C hW jnX3 tyX3_ok k_cl_X9_40 k_it_X3 k_ii_X3 rfl (fun j hj => by rcases (show j = 0 ∨ j = 1 by omega) with rfl | rfl <;> rfl) ⟨by decide, by decide⟩ dX9_init_82 (fun q_11 => ?_)
  clear hW H; intro H hW
  replace hW : Wd G A_ s_.heap [(h0, .inr (7, [.int 10, .ref q_1, .ref q_2, .ref q_3, .ref q_5, .ref q_7, .ref q_9, .null])), (q_1, .inl (G.2.1, 6, .inl (fun _ => 0))), (q_2, .inl (G.2.1, 7, .inl (fun _ => 0))), (q_3, .inr (4, [.int (nI 7), .int (nI 3), .ref q_1_4, .int 0])), (q_1_4, .inl (G.2.1, 21, .inl (fun _ => 0))), (q_5, .inr (4, [.int (nI 5), .int (nI 3), .ref q_1_6, .int 0])), (q_1_6, .inl (G.2.1, 15, .inl (fun _ => 0))), (q_7, .inr (4, [.int (nI 6), .int (nI 4), .ref q_1_8, .int 0])), (q_1_8, .inl (G.2.1, 24, .inl (fun _ => 0))), (q_9, .inr (4, [.int (nI 6), .int (nI 4), .ref q_1_10, .int 0])), (q_1_10, .inl (G.2.1, 24, .inl (fun _ => 0))), (q_11, .inr (1, [.null, .int 0]))] H locs := hW
  refine W.widen (k := 11) (n := 115) (by omega) (by omega) ?_
  refine lv_dup hx hb dX9_init_85 rfl ?_
  refine g_fvN (wr := [(h0, .inr (7, [.int 10, .ref q_1, .ref q_2, .ref q_3, .ref q_5, .ref q_7, .ref q_9, .null])), (q_1, .inl (G.2.1, 6, .inl (fun _ => 0))), (q_2, .inl (G.2.1, 7, .inl (fun _ => 0))), (q_3, .inr (4, [.int (nI 7), .int (nI 3), .ref q_1_4, .int 0])), (q_1_4, .inl (G.2.1, 21, .inl (fun _ => 0))), (q_5, .inr (4, [.int (nI 5), .int (nI 3), .ref q_1_6, .int 0])), (q_1_6, .inl (G.2.1, 15, .inl (fun _ => 0))), (q_7, .inr (4, [.int (nI 6), .int (nI 4), .ref q_1_8, .int 0])), (q_1_8, .inl (G.2.1, 24, .inl (fun _ => 0))), (q_9, .inr (4, [.int (nI 6), .int (nI 4), .ref q_1_10, .int 0])), (q_1_10, .inl (G.2.1, 24, .inl (fun _ => 0)))]) (ww := fun (u_ : Nat) => [(q_11, .inr (1, [.ref u_, .int 0])), (u_, .inl (G.2.1, 56, .inl (fun _ => 0)))]) (w2 := fun (u_ : Nat) => [(h0, .inr (7, [.int 10, .ref q_1, .ref q_2, .ref q_3, .ref q_5, .ref q_7, .ref q_9, .null])), (q_1, .inl (G.2.1, 6, .inl (fun _ => 0))), (q_2, .inl (G.2.1, 7, .inl (fun _ => 0))), (q_3, .inr (4, [.int (nI 7), .int (nI 3), .ref q_1_4, .int 0])), (q_1_4, .inl (G.2.1, 21, .inl (fun _ => 0))), (q_5, .inr (4, [.int (nI 5), .int (nI 3), .ref q_1_6, .int 0])), (q_1_6, .inl (G.2.1, 15, .inl (fun _ => 0))), (q_7, .inr (4, [.int (nI 6), .int (nI 4), .ref q_1_8, .int 0])), (q_1_8, .inl (G.2.1, 24, .inl (fun _ => 0))), (q_9, .inr (4, [.int (nI 6), .int (nI 4), .ref q_1_10, .int 0])), (q_1_10, .inl (G.2.1, 24, .inl (fun _ => 0))), (q_11, .inr (1, [.ref u_, .int 0])), (u_, .inl (G.2.1, 56, .inl (fun _ => 0)))]) C hW [11] [0, 1, 2, 3, 4, 5, 6, 7, 8, 9, 10] [0, 1, 2, 3, 4, 5, 6, 7, 8, 9, 10, 11, 12] rfl rfl (by decide) (by decide) (by decide) (fun _ => rfl) (g_runIN (host := RX10) (As := []) (rest := [.ref q_11, .ref h0]) (wc := [(q_11, .inr (1, [.null, .int 0]))]) C hW hl (c_X3_init l G q_11  _) (List.mem_of_getElem? (i := 0) rfl) q_X3_init (by decide) [11] rfl rfl rfl rfl (Nat.le_of_ble_eq_true rfl) dX9_init_86 (by decide)) (fun u_ => ?_)
  obtain ⟨q_1_12, hq9⟩ : ∃ z : Nat, z = u_ := ⟨_, rfl⟩; subst hq9
  clear hW H locs; intro H locs hW
  replace hW : Wd G A_ s_.heap [(h0, .inr (7, [.int 10, .ref q_1, .ref q_2, .ref q_3, .ref q_5, .ref q_7, .ref q_9, .null])), (q_1, .inl (G.2.1, 6, .inl (fun _ => 0))), (q_2, .inl (G.2.1, 7, .inl (fun _ => 0))), (q_3, .inr (4, [.int (nI 7), .int (nI 3), .ref q_1_4, .int 0])), (q_1_4, .inl (G.2.1, 21, .inl (fun _ => 0))), (q_5, .inr (4, [.int (nI 5), .int (nI 3), .ref q_1_6, .int 0])), (q_1_6, .inl (G.2.1, 15, .inl (fun _ => 0))), (q_7, .inr (4, [.int (nI 6), .int (nI 4), .ref q_1_8, .int 0])), (q_1_8, .inl (G.2.1, 24, .inl (fun _ => 0))), (q_9, .inr (4, [.int (nI 6), .int (nI 4), .ref q_1_10, .int 0])), (q_1_10, .inl (G.2.1, 24, .inl (fun _ => 0))), (q_11, .inr (1, [.ref q_1_12, .int 0])), (q_1_12, .inl (G.2.1, 56, .inl (fun _ => 0)))] H locs := hW
  refine W.widen (k := 12) (n := 171) (by omega) (by omega) ?_
  refine g_putF (k := 7) (ty := .object "TruthOver$Past") (w' := [(h0, .inr (7, [.int 10, .ref q_1, .ref q_2, .ref q_3, .ref q_5, .ref q_7, .ref q_9, .ref q_11])), (q_1, .inl (G.2.1, 6, .inl (fun _ => 0))), (q_2, .inl (G.2.1, 7, .inl (fun _ => 0))), (q_3, .inr (4, [.int (nI 7), .int (nI 3), .ref q_1_4, .int 0])), (q_1_4, .inl (G.2.1, 21, .inl (fun _ => 0))), (q_5, .inr (4, [.int (nI 5), .int (nI 3), .ref q_1_6, .int 0])), (q_1_6, .inl (G.2.1, 15, .inl (fun _ => 0))), (q_7, .inr (4, [.int (nI 6), .int (nI 4), .ref q_1_8, .int 0])), (q_1_8, .inl (G.2.1, 24, .inl (fun _ => 0))), (q_9, .inr (4, [.int (nI 6), .int (nI 4), .ref q_1_10, .int 0])), (q_1_10, .inl (G.2.1, 24, .inl (fun _ => 0))), (q_11, .inr (1, [.ref q_1_12, .int 0])), (q_1_12, .inl (G.2.1, 56, .inl (fun _ => 0)))]) C hin0 hW 0 rfl rfl jnX9 tyX9_ok nmX9 (by decide) k_fl_X9_43 rfl rfl rfl rfl rfl (Nat.le_of_ble_eq_true rfl) rfl dX9_init_89 ?_
  clear hW H locs; intro H locs hW
  refine lv_aload_n hx hb dX9_init_92 rfl (lv_at hl 0 rfl) ?_
  refine g_get (k := 2) (v := .ref q_2) C hW 0 rfl rfl jnX9 (by decide) k_fl_X9_19 rfl dX9_init_93 ?_
  refine lv_iconst (v := 1) hx hb dX9_init_96 (by decide) ?_
  refine lv_iconst (v := 1) hx hb dX9_init_97 (by decide) ?_
  refine g_ast (w' := [(h0, .inr (7, [.int 10, .ref q_1, .ref q_2, .ref q_3, .ref q_5, .ref q_7, .ref q_9, .ref q_11])), (q_1, .inl (G.2.1, 6, .inl (fun _ => 0))), (q_2, .inl (G.2.1, 7, .inl (upd (fun _ => 0) 1 1))), (q_3, .inr (4, [.int (nI 7), .int (nI 3), .ref q_1_4, .int 0])), (q_1_4, .inl (G.2.1, 21, .inl (fun _ => 0))), (q_5, .inr (4, [.int (nI 5), .int (nI 3), .ref q_1_6, .int 0])), (q_1_6, .inl (G.2.1, 15, .inl (fun _ => 0))), (q_7, .inr (4, [.int (nI 6), .int (nI 4), .ref q_1_8, .int 0])), (q_1_8, .inl (G.2.1, 24, .inl (fun _ => 0))), (q_9, .inr (4, [.int (nI 6), .int (nI 4), .ref q_1_10, .int 0])), (q_1_10, .inl (G.2.1, 24, .inl (fun _ => 0))), (q_11, .inr (1, [.ref q_1_12, .int 0])), (q_1_12, .inl (G.2.1, 56, .inl (fun _ => 0)))]) C hW 2 rfl (vp_in_nI (n := 1) (by omega) (by omega)) (by rw [show (1 : Int32).toNatClampNeg = 1 from rfl]; rfl) dX9_init_98 ?_
  clear hW H locs; intro H locs hW
  refine lv_aload_n hx hb dX9_init_99 rfl (lv_at hl 0 rfl) ?_
  refine g_get (k := 2) (v := .ref q_2) C hW 0 rfl rfl jnX9 (by decide) k_fl_X9_19 rfl dX9_init_100 ?_
  refine lv_iconst (v := 3) hx hb dX9_init_103 (by decide) ?_
  refine lv_iconst (v := 1) hx hb dX9_init_104 (by decide) ?_
  refine g_ast (w' := [(h0, .inr (7, [.int 10, .ref q_1, .ref q_2, .ref q_3, .ref q_5, .ref q_7, .ref q_9, .ref q_11])), (q_1, .inl (G.2.1, 6, .inl (fun _ => 0))), (q_2, .inl (G.2.1, 7, .inl (upd (upd (fun _ => 0) 1 1) 3 1))), (q_3, .inr (4, [.int (nI 7), .int (nI 3), .ref q_1_4, .int 0])), (q_1_4, .inl (G.2.1, 21, .inl (fun _ => 0))), (q_5, .inr (4, [.int (nI 5), .int (nI 3), .ref q_1_6, .int 0])), (q_1_6, .inl (G.2.1, 15, .inl (fun _ => 0))), (q_7, .inr (4, [.int (nI 6), .int (nI 4), .ref q_1_8, .int 0])), (q_1_8, .inl (G.2.1, 24, .inl (fun _ => 0))), (q_9, .inr (4, [.int (nI 6), .int (nI 4), .ref q_1_10, .int 0])), (q_1_10, .inl (G.2.1, 24, .inl (fun _ => 0))), (q_11, .inr (1, [.ref q_1_12, .int 0])), (q_1_12, .inl (G.2.1, 56, .inl (fun _ => 0)))]) C hW 2 rfl (vp_in_nI (n := 3) (by omega) (by omega)) (by rw [show (3 : Int32).toNatClampNeg = 3 from rfl]; rfl) dX9_init_105 ?_
  clear hW H locs; intro H locs hW
  exact g_vretN C hW hrt ⟨(q_1, q_2, q_3, q_1_4, q_5, q_1_6, q_7, q_1_8, q_9, q_1_10, q_11, q_1_12), by dsimp only⟩ dX9_init_106
