set_option maxHeartbeats 4000000 in
set_option maxRecDepth 100000 in
theorem c_X2_flight (l : Launch) (G : gT) (kind g x w : Int32) (hg : Rg g 1 9) (hx_ : Rg x 0 30) (hw : Rg w (-4) 4) : MI l G yX2_flight cX2_flight 6 .int ({ frames := 1, cells := 0, slots := 0, locals := 13 }) [.int kind, .int g, .int x, .int w] [] (fun (r : Int32) w1 => (r = fl kind g x w) ∧ w1 = []) := by
  refine MI.mk (by decide) (Nat.le_of_ble_eq_true rfl) ?_
  intro p_ e_ s_ m_ ar_ be_ me_ cd_ A_ ls C hr hW hl
  have hx := C.1; have hb := C.2.1; have hown := C.2.2.2.1; have ht := C.2.2.2.2.1
  replace hl : lv_has ls 6 [(0, .int kind), (1, .int g), (2, .int x), (3, .int w)] := hl
  generalize hQ : MQ be_ _ ar_ s_ 0 0 A_ = Q
  refine lv_iconst (v := 0) hx hb dX2_flight_0 (by decide) ?_
  refine lv_iload_n hx hb dX2_flight_1 rfl (lv_at hl 2 rfl) ?_
  refine lv_iload_n hx hb dX2_flight_2 rfl (lv_at hl 3 rfl) ?_
  refine lv_iadd hx hb dX2_flight_3 ?_
  refine lv_iload_n hx hb dX2_flight_4 rfl (lv_at hl 1 rfl) ?_
  refine lv_isub hx hb dX2_flight_5 ?_
  refine g_max C hl k_ml_X2_7 ⟨Nat.le_of_ble_eq_true rfl, Nat.le_of_ble_eq_true rfl⟩ (by decide) dX2_flight_6 ?_
  refine lv_as (y := if g < x + w then x + w - g else 0) (fl_feather hg hx_ hw) ?_
  refine lv_topi (fun f ef => ?_)
  refine lv_istore (lv' := [(4, .int f), (0, .int kind), (1, .int g), (2, .int x), (3, .int w)]) hx hb dX2_flight_9 hl (by decide) rfl ?_
  clear hl ls; intro ls hl
  refine lv_iload hx hb dX2_flight_11 (lv_at hl 0 rfl) ?_
  refine lv_iconst (v := 2) hx hb dX2_flight_13 (by decide) ?_
  refine lv_iadd hx hb dX2_flight_14 ?_
  refine lv_istore (lv' := [(5, .int (f + 2)), (4, .int f), (0, .int kind), (1, .int g), (2, .int x), (3, .int w)]) hx hb dX2_flight_15 hl (by decide) rfl ?_
  clear hl ls; intro ls hl
  refine lv_iload_n hx hb dX2_flight_17 rfl (lv_at hl 2 rfl) ?_
  by_cases c_1 : kind = 1
  · refine lv_as c_1 (lv_tableIn (tgt := 52) hx hb dX2_flight_18 (by decide) (by decide) rfl (by decide) ?_)
    refine lv_iload hx hb dX2_flight_52 (lv_at hl 0 rfl) ?_
    subst hQ
    exact g_iret (v := (f + 2)) C hW hr ⟨by first | rfl | (simp only [fl, ef, c_1, if_true, if_false, reduceIte]; done) | (simp [fl, ef, c_1]; done) | (simp_all [fl]; done) | (simp only [fl, ef, c_1]; (repeat' split) <;> first | rfl | (simp_all; done)), rfl⟩ dX2_flight_54
  by_cases c_2 : kind = 2
  · refine lv_as c_2 (lv_tableIn (tgt := 55) hx hb dX2_flight_18 (by decide) (by decide) rfl (by decide) ?_)
    refine lv_iload hx hb dX2_flight_55 (lv_at hl 1 rfl) ?_
    refine lv_iconst (v := 1) hx hb dX2_flight_57 (by decide) ?_
    refine lv_iadd hx hb dX2_flight_58 ?_
    refine lv_iconst (v := 2) hx hb dX2_flight_59 (by decide) ?_
    refine lv_idiv hx hb dX2_flight_60 (by decide) ?_
    subst hQ
    exact g_iret (v := ((f + 1) / 2)) C hW hr ⟨by first | rfl | (simp only [fl, ef, c_1, c_2, if_true, if_false, reduceIte]; done) | (simp [fl, ef, c_1, c_2]; done) | (simp_all [fl]; done) | (simp only [fl, ef, c_1, c_2]; (repeat' split) <;> first | rfl | (simp_all; done)), rfl⟩ dX2_flight_61
  by_cases c_3 : kind = 3
  · refine lv_as c_3 (lv_tableIn (tgt := 62) hx hb dX2_flight_18 (by decide) (by decide) rfl (by decide) ?_)
    refine lv_iload_n hx hb dX2_flight_62 rfl (lv_at hl 3 rfl) ?_
    refine lv_iconst (v := 2) hx hb dX2_flight_63 (by decide) ?_
    have J_6 : ∀ (y_5 : Int32) (_ : y_5 = (if g ≤ 2 then (f + 2) + 3 else f + 2)), ∀ (H : Heap) (locs : List Loc) (ls : Array Slot), Wd G A_ s_.heap [] H locs → lv_has ls 6 [(5, .int (f + 2)), (4, .int f), (0, .int kind), (1, .int g), (2, .int x), (3, .int w)] → W p_ l e_ ({ frames := 1, cells := 0, slots := 0, locals := 13 }) s_ m_ ar_ be_ me_ cd_ H locs 0 0 Q (F0 m_ 76 ls [.int y_5]) := by
      intro y_5 ey_5 H locs ls hW hl
      subst hQ
      exact g_iret (v := y_5) C hW hr ⟨by first | rfl | (simp only [fl, ef, c_1, c_2, c_3, ey_5, if_true, if_false, reduceIte]; done) | (simp [fl, ef, c_1, c_2, c_3, ey_5]; done) | (simp_all [fl]; done) | (simp only [fl, ef, c_1, c_2, c_3, ey_5]; (repeat' split) <;> first | rfl | (simp_all; done)), rfl⟩ dX2_flight_76
    refine lv_icmp_gt (tgt := 74) hx hb dX2_flight_64 (by decide) (fun c_4 => ?_) (fun c_4 => ?_)
    · replace c_4 := Int32.not_le.mpr c_4
      refine lv_iload hx hb dX2_flight_74 (lv_at hl 0 rfl) ?_
      exact J_6 (f + 2) (by first | rfl | (simp only [c_4, if_true, if_false, reduceIte]; done) | (simp [c_4]; done)) _ _ _ hW (lv_sub hl [0, 1, 2, 3, 4, 5] rfl)
    · replace c_4 := Int32.not_lt.mp c_4
      refine lv_iload hx hb dX2_flight_67 (lv_at hl 0 rfl) ?_
      refine lv_iconst (v := 3) hx hb dX2_flight_69 (by decide) ?_
      refine lv_iadd hx hb dX2_flight_70 ?_
      refine lv_goto (tgt := 76) hx hb dX2_flight_71 (by decide) ?_
      exact J_6 ((f + 2) + 3) (by first | rfl | (simp only [c_4, if_true, if_false, reduceIte]; done) | (simp [c_4]; done)) _ _ _ hW (lv_sub hl [0, 1, 2, 3, 4, 5] rfl)
  by_cases c_7 : kind = 4
  · refine lv_as c_7 (lv_tableIn (tgt := 77) hx hb dX2_flight_18 (by decide) (by decide) rfl (by decide) ?_)
    refine lv_iload hx hb dX2_flight_77 (lv_at hl 1 rfl) ?_
    refine lv_iload_n hx hb dX2_flight_79 rfl (lv_at hl 4 rfl) ?_
    refine lv_iconst (v := 2) hx hb dX2_flight_80 (by decide) ?_
    refine lv_idiv hx hb dX2_flight_81 (by decide) ?_
    refine g_max C hl k_ml_X2_7 ⟨Nat.le_of_ble_eq_true rfl, Nat.le_of_ble_eq_true rfl⟩ (by decide) dX2_flight_82 ?_
    subst hQ
    exact g_iret (v := (if f < (x / 2) then (x / 2) else f)) C hW hr ⟨by first | rfl | (simp only [fl, ef, c_1, c_2, c_3, c_7, if_true, if_false, reduceIte]; done) | (simp [fl, ef, c_1, c_2, c_3, c_7]; done) | (simp_all [fl]; done) | (simp only [fl, ef, c_1, c_2, c_3, c_7]; (repeat' split) <;> first | rfl | (simp_all; done)), rfl⟩ dX2_flight_85
  by_cases c_8 : kind = 5
  · refine lv_as c_8 (lv_tableIn (tgt := 86) hx hb dX2_flight_18 (by decide) (by decide) rfl (by decide) ?_)
    refine lv_iconst (v := 0) hx hb dX2_flight_86 (by decide) ?_
    refine lv_iconst (v := 2) hx hb dX2_flight_87 (by decide) ?_
    refine lv_iload hx hb dX2_flight_88 (lv_at hl 0 rfl) ?_
    refine lv_imul hx hb dX2_flight_90 ?_
    refine lv_iload_n hx hb dX2_flight_91 rfl (lv_at hl 3 rfl) ?_
    refine lv_isub hx hb dX2_flight_92 ?_
    refine g_max C hl k_ml_X2_7 ⟨Nat.le_of_ble_eq_true rfl, Nat.le_of_ble_eq_true rfl⟩ (by decide) dX2_flight_93 ?_
    refine lv_as (y := if g < 2 * (f + 2) then 2 * (f + 2) - g else 0) (fl_cork hg (by rw [ef]; exact fl_fe_rg hg hx_ hw)) ?_
    subst hQ
    exact g_iret (v := (if g < 2 * (f + 2) then 2 * (f + 2) - g else 0)) C hW hr ⟨by first | rfl | (simp only [fl, ef, c_1, c_2, c_3, c_7, c_8, if_true, if_false, reduceIte]; done) | (simp [fl, ef, c_1, c_2, c_3, c_7, c_8]; done) | (simp_all [fl]; done) | (simp only [fl, ef, c_1, c_2, c_3, c_7, c_8]; (repeat' split) <;> first | rfl | (simp_all; done)), rfl⟩ dX2_flight_96
  refine lv_tableOut (tgt := 97) hx hb dX2_flight_18 (by have q0 := sw_ne (z := 1) c_1 (by decide); have q1 := sw_ne (z := 2) c_2 (by decide); have q2 := sw_ne (z := 3) c_3 (by decide); have q3 := sw_ne (z := 4) c_7 (by decide); have q4 := sw_ne (z := 5) c_8 (by decide); omega) (by decide) ?_
  refine lv_iload hx hb dX2_flight_97 (lv_at hl 1 rfl) ?_
  subst hQ
  exact g_iret (v := f) C hW hr ⟨by first | rfl | (simp only [fl, ef, c_1, c_2, c_3, c_7, c_8, if_true, if_false, reduceIte]; done) | (simp [fl, ef, c_1, c_2, c_3, c_7, c_8]; done) | (simp_all [fl]; done) | (simp only [fl, ef, c_1, c_2, c_3, c_7, c_8]; (repeat' split) <;> first | rfl | (simp_all; done)), rfl⟩ dX2_flight_99
set_option maxHeartbeats 4000000 in
set_option maxRecDepth 100000 in
theorem c_X2_blow (l : Launch) (G : gT) (kind b t : Int32)  : MI l G yX2_blow cX2_blow 6 .int ({ frames := 0, cells := 0, slots := 0, locals := 0 }) [.int kind, .int b, .int t] [] (fun (r : Int32) w1 => (r = bl kind b t) ∧ w1 = []) := by
  refine MI.mk (by decide) (Nat.le_of_ble_eq_true rfl) ?_
  intro p_ e_ s_ m_ ar_ be_ me_ cd_ A_ ls C hr hW hl
  have hx := C.1; have hb := C.2.1; have hown := C.2.2.2.1; have ht := C.2.2.2.2.1
  replace hl : lv_has ls 6 [(0, .int kind), (1, .int b), (2, .int t)] := hl
  generalize hQ : MQ be_ _ ar_ s_ 0 0 A_ = Q
  refine lv_iload_n hx hb dX2_blow_0 rfl (lv_at hl 1 rfl) ?_
  refine lv_bipush (v := 6) hx hb dX2_blow_1 (by decide) ?_
  refine lv_iadd hx hb dX2_blow_3 ?_
  refine lv_istore_n (lv' := [(3, .int (b + 6)), (0, .int kind), (1, .int b), (2, .int t)]) hx hb dX2_blow_4 rfl hl (by decide) rfl ?_
  clear hl ls; intro ls hl
  refine lv_iload_n hx hb dX2_blow_5 rfl (lv_at hl 0 rfl) ?_
  refine lv_iconst (v := 1) hx hb dX2_blow_6 (by decide) ?_
  refine lv_iadd hx hb dX2_blow_7 ?_
  refine lv_iconst (v := 2) hx hb dX2_blow_8 (by decide) ?_
  refine lv_idiv hx hb dX2_blow_9 (by decide) ?_
  refine lv_istore (lv' := [(4, .int (((b + 6) + 1) / 2)), (3, .int (b + 6)), (0, .int kind), (1, .int b), (2, .int t)]) hx hb dX2_blow_10 hl (by decide) rfl ?_
  clear hl ls; intro ls hl
  refine lv_iload_n hx hb dX2_blow_12 rfl (lv_at hl 1 rfl) ?_
  refine lv_iconst (v := 5) hx hb dX2_blow_13 (by decide) ?_
  refine lv_iadd hx hb dX2_blow_14 ?_
  refine lv_istore (lv' := [(5, .int ((b + 6) + 5)), (4, .int (((b + 6) + 1) / 2)), (3, .int (b + 6)), (0, .int kind), (1, .int b), (2, .int t)]) hx hb dX2_blow_15 hl (by decide) rfl ?_
  clear hl ls; intro ls hl
  refine lv_iload_n hx hb dX2_blow_17 rfl (lv_at hl 3 rfl) ?_
  by_cases c_9 : kind = 1
  · refine lv_as c_9 (lv_tableIn (tgt := 52) hx hb dX2_blow_18 (by decide) (by decide) rfl (by decide) ?_)
    refine lv_iload hx hb dX2_blow_52 (lv_at hl 1 rfl) ?_
    subst hQ
    exact g_iret (v := (((b + 6) + 1) / 2)) C hW hr ⟨by first | rfl | (simp only [bl, c_9, if_true, if_false, reduceIte]; done) | (simp [bl, c_9]; done) | (simp_all [bl]; done) | (simp only [bl, c_9]; (repeat' split) <;> first | rfl | (simp_all; done)), rfl⟩ dX2_blow_54
  by_cases c_10 : kind = 2
  · refine lv_as c_10 (lv_tableIn (tgt := 55) hx hb dX2_blow_18 (by decide) (by decide) rfl (by decide) ?_)
    refine lv_iload hx hb dX2_blow_55 (lv_at hl 0 rfl) ?_
    subst hQ
    exact g_iret (v := ((b + 6) + 5)) C hW hr ⟨by first | rfl | (simp only [bl, c_9, c_10, if_true, if_false, reduceIte]; done) | (simp [bl, c_9, c_10]; done) | (simp_all [bl]; done) | (simp only [bl, c_9, c_10]; (repeat' split) <;> first | rfl | (simp_all; done)), rfl⟩ dX2_blow_57
  by_cases c_11 : kind = 3
  · refine lv_as c_11 (lv_tableIn (tgt := 58) hx hb dX2_blow_18 (by decide) (by decide) rfl (by decide) ?_)
    refine lv_iload_n hx hb dX2_blow_58 rfl (lv_at hl 5 rfl) ?_
    refine lv_bipush (v := 6) hx hb dX2_blow_59 (by decide) ?_
    have J_14 : ∀ (y_13 : Int32) (_ : y_13 = (if t < 6 then 0 else ((b + 6) + 1) / 2)), ∀ (H : Heap) (locs : List Loc) (ls : Array Slot), Wd G A_ s_.heap [] H locs → lv_has ls 6 [(5, .int ((b + 6) + 5)), (4, .int (((b + 6) + 1) / 2)), (3, .int (b + 6)), (0, .int kind), (1, .int b), (2, .int t)] → W p_ l e_ ({ frames := 0, cells := 0, slots := 0, locals := 0 }) s_ m_ ar_ be_ me_ cd_ H locs 0 0 Q (F0 m_ 70 ls [.int y_13]) := by
      intro y_13 ey_13 H locs ls hW hl
      subst hQ
      exact g_iret (v := y_13) C hW hr ⟨by first | rfl | (simp only [bl, c_9, c_10, c_11, ey_13, if_true, if_false, reduceIte]; done) | (simp [bl, c_9, c_10, c_11, ey_13]; done) | (simp_all [bl]; done) | (simp only [bl, c_9, c_10, c_11, ey_13]; (repeat' split) <;> first | rfl | (simp_all; done)), rfl⟩ dX2_blow_70
    refine lv_icmp_ge (tgt := 68) hx hb dX2_blow_61 (by decide) (fun c_12 => ?_) (fun c_12 => ?_)
    · replace c_12 := Int32.not_lt.mpr c_12
      refine lv_iload hx hb dX2_blow_68 (lv_at hl 1 rfl) ?_
      exact J_14 (((b + 6) + 1) / 2) (by first | rfl | (simp only [c_12, if_true, if_false, reduceIte]; done) | (simp [c_12]; done)) _ _ _ hW (lv_sub hl [0, 1, 2, 3, 4, 5] rfl)
    · replace c_12 := Int32.not_le.mp c_12
      refine lv_iconst (v := 0) hx hb dX2_blow_64 (by decide) ?_
      refine lv_goto (tgt := 70) hx hb dX2_blow_65 (by decide) ?_
      exact J_14 0 (by first | rfl | (simp only [c_12, if_true, if_false, reduceIte]; done) | (simp [c_12]; done)) _ _ _ hW (lv_sub hl [0, 1, 2, 3, 4, 5] rfl)
  by_cases c_15 : kind = 4
  · refine lv_as c_15 (lv_tableIn (tgt := 71) hx hb dX2_blow_18 (by decide) (by decide) rfl (by decide) ?_)
    refine lv_iload_n hx hb dX2_blow_71 rfl (lv_at hl 5 rfl) ?_
    refine lv_bipush (v := 7) hx hb dX2_blow_72 (by decide) ?_
    refine lv_irem hx hb dX2_blow_74 (by decide) ?_
    have J_18 : ∀ (y_17 : Int32) (_ : y_17 = (if (t - t / 7 * 7) = 0 then 1 else b + 6)), ∀ (H : Heap) (locs : List Loc) (ls : Array Slot), Wd G A_ s_.heap [] H locs → lv_has ls 6 [(5, .int ((b + 6) + 5)), (4, .int (((b + 6) + 1) / 2)), (3, .int (b + 6)), (0, .int kind), (1, .int b), (2, .int t)] → W p_ l e_ ({ frames := 0, cells := 0, slots := 0, locals := 0 }) s_ m_ ar_ be_ me_ cd_ H locs 0 0 Q (F0 m_ 83 ls [.int y_17]) := by
      intro y_17 ey_17 H locs ls hW hl
      subst hQ
      exact g_iret (v := y_17) C hW hr ⟨by first | rfl | (simp only [bl, c_9, c_10, c_11, c_15, ey_17, if_true, if_false, reduceIte]; done) | (simp [bl, c_9, c_10, c_11, c_15, ey_17]; done) | (simp_all [bl]; done) | (simp only [bl, c_9, c_10, c_11, c_15, ey_17]; (repeat' split) <;> first | rfl | (simp_all; done)), rfl⟩ dX2_blow_83
    refine lv_if_ne (tgt := 82) hx hb dX2_blow_75 (by decide) (fun c_16 => ?_) (fun c_16 => ?_)
    · refine lv_iload_n hx hb dX2_blow_82 rfl (lv_at hl 2 rfl) ?_
      exact J_18 (b + 6) (by first | rfl | (simp only [c_16, if_true, if_false, reduceIte]; done) | (simp [c_16]; done)) _ _ _ hW (lv_sub hl [0, 1, 2, 3, 4, 5] rfl)
    · refine lv_iconst (v := 1) hx hb dX2_blow_78 (by decide) ?_
      refine lv_goto (tgt := 83) hx hb dX2_blow_79 (by decide) ?_
      exact J_18 1 (by first | rfl | (simp only [c_16, if_true, if_false, reduceIte]; done) | (simp [c_16]; done)) _ _ _ hW (lv_sub hl [0, 1, 2, 3, 4, 5] rfl)
  by_cases c_19 : kind = 5
  · refine lv_as c_19 (lv_tableIn (tgt := 84) hx hb dX2_blow_18 (by decide) (by decide) rfl (by decide) ?_)
    refine lv_iload_n hx hb dX2_blow_84 rfl (lv_at hl 5 rfl) ?_
    refine lv_bipush (v := 18) hx hb dX2_blow_85 (by decide) ?_
    have J_22 : ∀ (y_21 : Int32) (_ : y_21 = (if 18 ≤ t then b + 6 + 9 else (b + 6) + 5)), ∀ (H : Heap) (locs : List Loc) (ls : Array Slot), Wd G A_ s_.heap [] H locs → lv_has ls 6 [(5, .int ((b + 6) + 5)), (4, .int (((b + 6) + 1) / 2)), (3, .int (b + 6)), (0, .int kind), (1, .int b), (2, .int t)] → W p_ l e_ ({ frames := 0, cells := 0, slots := 0, locals := 0 }) s_ m_ ar_ be_ me_ cd_ H locs 0 0 Q (F0 m_ 99 ls [.int y_21]) := by
      intro y_21 ey_21 H locs ls hW hl
      subst hQ
      exact g_iret (v := y_21) C hW hr ⟨by first | rfl | (simp only [bl, c_9, c_10, c_11, c_15, c_19, ey_21, if_true, if_false, reduceIte]; done) | (simp [bl, c_9, c_10, c_11, c_15, c_19, ey_21]; done) | (simp_all [bl]; done) | (simp only [bl, c_9, c_10, c_11, c_15, c_19, ey_21]; (repeat' split) <;> first | rfl | (simp_all; done)), rfl⟩ dX2_blow_99
    refine lv_icmp_lt (tgt := 97) hx hb dX2_blow_87 (by decide) (fun c_20 => ?_) (fun c_20 => ?_)
    · replace c_20 := Int32.not_le.mpr c_20
      refine lv_iload hx hb dX2_blow_97 (lv_at hl 0 rfl) ?_
      exact J_22 ((b + 6) + 5) (by first | rfl | (simp only [c_20, if_true, if_false, reduceIte]; done) | (simp [c_20]; done)) _ _ _ hW (lv_sub hl [0, 1, 2, 3, 4, 5] rfl)
    · replace c_20 := Int32.not_lt.mp c_20
      refine lv_iload hx hb dX2_blow_90 (lv_at hl 0 rfl) ?_
      refine lv_iconst (v := 4) hx hb dX2_blow_92 (by decide) ?_
      refine lv_iadd hx hb dX2_blow_93 ?_
      refine lv_as (y := b + 6 + 9) (by rw [Int32.add_assoc (b + 6)]; rfl) ?_
      refine lv_goto (tgt := 99) hx hb dX2_blow_94 (by decide) ?_
      exact J_22 (b + 6 + 9) (by first | rfl | (simp only [c_20, if_true, if_false, reduceIte]; done) | (simp [c_20]; done)) _ _ _ hW (lv_sub hl [0, 1, 2, 3, 4, 5] rfl)
  refine lv_tableOut (tgt := 100) hx hb dX2_blow_18 (by have q0 := sw_ne (z := 1) c_9 (by decide); have q1 := sw_ne (z := 2) c_10 (by decide); have q2 := sw_ne (z := 3) c_11 (by decide); have q3 := sw_ne (z := 4) c_15 (by decide); have q4 := sw_ne (z := 5) c_19 (by decide); omega) (by decide) ?_
  refine lv_iload_n hx hb dX2_blow_100 rfl (lv_at hl 2 rfl) ?_
  subst hQ
  exact g_iret (v := (b + 6)) C hW hr ⟨by first | rfl | (simp only [bl, c_9, c_10, c_11, c_15, c_19, if_true, if_false, reduceIte]; done) | (simp [bl, c_9, c_10, c_11, c_15, c_19]; done) | (simp_all [bl]; done) | (simp only [bl, c_9, c_10, c_11, c_15, c_19]; (repeat' split) <;> first | rfl | (simp_all; done)), rfl⟩ dX2_blow_101
set_option maxHeartbeats 4000000 in
set_option maxRecDepth 100000 in
theorem c_X0_gain (l : Launch) (G : gT) (a b oa ob : Int32) (ha : a = 0 ∨ a = 1) (hb_ : b = 0 ∨ b = 1) : MI l G yX0_gain cX0_gain 4 .int ({ frames := 0, cells := 0, slots := 0, locals := 0 }) [.int a, .int b, .int oa, .int ob] [] (fun (r : Int32) w1 => (r = gn a b oa ob) ∧ w1 = []) := by
  refine MI.mk (by decide) (Nat.le_of_ble_eq_true rfl) ?_
  intro p_ e_ s_ m_ ar_ be_ me_ cd_ A_ ls C hr hW hl
  have hx := C.1; have hb := C.2.1; have hown := C.2.2.2.1; have ht := C.2.2.2.2.1
  replace hl : lv_has ls 4 [(0, .int a), (1, .int b), (2, .int oa), (3, .int ob)] := hl
  generalize hQ : MQ be_ _ ar_ s_ 0 0 A_ = Q
  refine lv_iload_n hx hb dX0_gain_0 rfl (lv_at hl 0 rfl) ?_
  refine lv_iload_n hx hb dX0_gain_1 rfl (lv_at hl 1 rfl) ?_
  refine lv_icmp_ne (tgt := 9) hx hb dX0_gain_2 (by decide) (fun c_23 => ?_) (fun c_23 => ?_)
  · refine lv_iload_n hx hb dX0_gain_9 rfl (lv_at hl 0 rfl) ?_
    refine lv_iconst (v := 1) hx hb dX0_gain_10 (by decide) ?_
    refine lv_icmp_ne (tgt := 27) hx hb dX0_gain_11 (by decide) (fun c_24 => ?_) (fun c_24 => ?_)
    · refine lv_iload_n hx hb dX0_gain_27 rfl (lv_at hl 3 rfl) ?_
      have J_27 : ∀ (y_26 : Int32) (_ : y_26 = (if ob = 0 then (-2) else 3)), ∀ (H : Heap) (locs : List Loc) (ls : Array Slot), Wd G A_ s_.heap [] H locs → lv_has ls 4 [(0, .int a), (1, .int b), (2, .int oa), (3, .int ob)] → W p_ l e_ ({ frames := 0, cells := 0, slots := 0, locals := 0 }) s_ m_ ar_ be_ me_ cd_ H locs 0 0 Q (F0 m_ 37 ls [.int y_26]) := by
        intro y_26 ey_26 H locs ls hW hl
        subst hQ
        exact g_iret (v := y_26) C hW hr ⟨by (rcases ha with rfl | rfl <;> rcases hb_ with rfl | rfl <;> simp_all [gn]), rfl⟩ dX0_gain_37
      refine lv_if_eq (tgt := 35) hx hb dX0_gain_28 (by decide) (fun c_25 => ?_) (fun c_25 => ?_)
      · refine lv_bipush (v := (-2)) hx hb dX0_gain_35 (by decide) ?_
        exact J_27 (-2) (by first | rfl | (simp only [c_25, if_true, if_false, reduceIte]; done) | (simp [c_25]; done)) _ _ _ hW (lv_sub hl [0, 1, 2, 3] rfl)
      · refine lv_iconst (v := 3) hx hb dX0_gain_31 (by decide) ?_
        refine lv_goto (tgt := 37) hx hb dX0_gain_32 (by decide) ?_
        exact J_27 3 (by first | rfl | (simp only [c_25, if_true, if_false, reduceIte]; done) | (simp [c_25]; done)) _ _ _ hW (lv_sub hl [0, 1, 2, 3] rfl)
    · refine lv_iload_n hx hb dX0_gain_14 rfl (lv_at hl 2 rfl) ?_
      have J_30 : ∀ (y_29 : Int32) (_ : y_29 = (if oa = 0 then (-2) else 2)), ∀ (H : Heap) (locs : List Loc) (ls : Array Slot), Wd G A_ s_.heap [] H locs → lv_has ls 4 [(0, .int a), (1, .int b), (2, .int oa), (3, .int ob)] → W p_ l e_ ({ frames := 0, cells := 0, slots := 0, locals := 0 }) s_ m_ ar_ be_ me_ cd_ H locs 0 0 Q (F0 m_ 24 ls [.int y_29]) := by
        intro y_29 ey_29 H locs ls hW hl
        refine lv_iconst (v := 1) hx hb dX0_gain_24 (by decide) ?_
        refine lv_isub hx hb dX0_gain_25 ?_
        subst hQ
        exact g_iret (v := (y_29 - 1)) C hW hr ⟨by (rcases ha with rfl | rfl <;> rcases hb_ with rfl | rfl <;> simp_all [gn]), rfl⟩ dX0_gain_26
      refine lv_if_eq (tgt := 22) hx hb dX0_gain_15 (by decide) (fun c_28 => ?_) (fun c_28 => ?_)
      · refine lv_bipush (v := (-2)) hx hb dX0_gain_22 (by decide) ?_
        exact J_30 (-2) (by first | rfl | (simp only [c_28, if_true, if_false, reduceIte]; done) | (simp [c_28]; done)) _ _ _ hW (lv_sub hl [0, 1, 2, 3] rfl)
      · refine lv_iconst (v := 2) hx hb dX0_gain_18 (by decide) ?_
        refine lv_goto (tgt := 24) hx hb dX0_gain_19 (by decide) ?_
        exact J_30 2 (by first | rfl | (simp only [c_28, if_true, if_false, reduceIte]; done) | (simp [c_28]; done)) _ _ _ hW (lv_sub hl [0, 1, 2, 3] rfl)
  · refine lv_iconst (v := (-1)) hx hb dX0_gain_5 (by decide) ?_
    refine lv_iload_n hx hb dX0_gain_6 rfl (lv_at hl 0 rfl) ?_
    refine lv_isub hx hb dX0_gain_7 ?_
    subst hQ
    exact g_iret (v := ((-1) - a)) C hW hr ⟨by (rcases ha with rfl | rfl <;> rcases hb_ with rfl | rfl <;> simp_all [gn]), rfl⟩ dX0_gain_8
set_option maxHeartbeats 4000000 in
set_option maxRecDepth 100000 in
theorem c_X0_rests (l : Launch) (G : gT) (a b oa ob : Int32) (ha : a = 0 ∨ a = 1) (hb_ : b = 0 ∨ b = 1) : MI l G yX0_rests cX0_rests 4 .boolean ({ frames := 1, cells := 0, slots := 0, locals := 23 }) [.int a, .int b, .int oa, .int ob] [] (fun (r : Int32) w1 => (r = bI (rs a b oa ob)) ∧ w1 = []) := by
  refine MI.mk (by decide) (Nat.le_of_ble_eq_true rfl) ?_
  intro p_ e_ s_ m_ ar_ be_ me_ cd_ A_ ls C hr hW hl
  have hx := C.1; have hb := C.2.1; have hown := C.2.2.2.1; have ht := C.2.2.2.2.1
  replace hl : lv_has ls 4 [(0, .int a), (1, .int b), (2, .int oa), (3, .int ob)] := hl
  generalize hQ : MQ be_ _ ar_ s_ 0 0 A_ = Q
  refine lv_iload_n hx hb dX0_rests_0 rfl (lv_at hl 0 rfl) ?_
  refine lv_iload_n hx hb dX0_rests_1 rfl (lv_at hl 1 rfl) ?_
  refine lv_iload_n hx hb dX0_rests_2 rfl (lv_at hl 2 rfl) ?_
  refine lv_iload_n hx hb dX0_rests_3 rfl (lv_at hl 3 rfl) ?_
  refine g_fi C hW [] rfl (g_runS (As := [.int a, .int b, .int oa, .int ob]) (rest := []) (wc := []) C hW hl (c_X0_gain l G a b oa ob (by first | assumption | exact z1 ha | exact z1 hb_) (by first | assumption | exact z1 ha | exact z1 hb_) _) k_ml_X0_7 q_X0_gain (by decide) [] rfl rfl rfl rfl (Nat.le_of_ble_eq_true rfl) dX0_rests_4 (by decide)) (fun r_31 er_31 => ?_)
  clear hW; intro H locs hW
  subst er_31
  refine lv_iconst (v := 1) hx hb dX0_rests_7 (by decide) ?_
  refine lv_iload_n hx hb dX0_rests_8 rfl (lv_at hl 0 rfl) ?_
  refine lv_isub hx hb dX0_rests_9 ?_
  refine lv_iload_n hx hb dX0_rests_10 rfl (lv_at hl 1 rfl) ?_
  refine lv_iload_n hx hb dX0_rests_11 rfl (lv_at hl 2 rfl) ?_
  refine lv_iload_n hx hb dX0_rests_12 rfl (lv_at hl 3 rfl) ?_
  refine g_fi C hW [] rfl (g_runS (As := [.int (1 - a), .int b, .int oa, .int ob]) (rest := [.int (gn a b oa ob)]) (wc := []) C hW hl (c_X0_gain l G (1 - a) b oa ob (by first | assumption | exact z1 ha | exact z1 hb_) (by first | assumption | exact z1 ha | exact z1 hb_) _) k_ml_X0_7 q_X0_gain (by decide) [] rfl rfl rfl rfl (Nat.le_of_ble_eq_true rfl) dX0_rests_13 (by decide)) (fun r_32 er_32 => ?_)
  clear hW H locs; intro H locs hW
  subst er_32
  have J_39 : ∀ (y_38 : Int32) (_ : y_38 = (if (gn (1 - a) b oa ob) ≤ (gn a b oa ob) then if (gn (1 - b) a ob oa) ≤ (gn b a ob oa) then 1 else 0 else 0)), ∀ (H : Heap) (locs : List Loc) (ls : Array Slot), Wd G A_ s_.heap [] H locs → lv_has ls 4 [(0, .int a), (1, .int b), (2, .int oa), (3, .int ob)] → W p_ l e_ ({ frames := 1, cells := 0, slots := 0, locals := 23 }) s_ m_ ar_ be_ me_ cd_ H locs 0 0 Q (F0 m_ 43 ls [.int y_38]) := by
    intro y_38 ey_38 H locs ls hW hl
    subst hQ
    exact g_zret (v := y_38) C hW hr (by first | rfl | exact bI_nar _ | (simp only [ey_38]; (repeat' split) <;> rfl)) ⟨by (simp only [ey_38]; exact bI_and), rfl⟩ dX0_rests_43
  refine lv_icmp_lt (tgt := 42) hx hb dX0_rests_16 (by decide) (fun c_33 => ?_) (fun c_33 => ?_)
  · replace c_33 := Int32.not_le.mpr c_33
    refine lv_iconst (v := 0) hx hb dX0_rests_42 (by decide) ?_
    exact J_39 0 (by first | rfl | (simp only [c_33, if_true, if_false, reduceIte]; done) | (simp [c_33]; done)) _ _ _ hW (lv_sub hl [0, 1, 2, 3] rfl)
  · replace c_33 := Int32.not_lt.mp c_33
    refine lv_iload_n hx hb dX0_rests_19 rfl (lv_at hl 1 rfl) ?_
    refine lv_iload_n hx hb dX0_rests_20 rfl (lv_at hl 0 rfl) ?_
    refine lv_iload_n hx hb dX0_rests_21 rfl (lv_at hl 3 rfl) ?_
    refine lv_iload_n hx hb dX0_rests_22 rfl (lv_at hl 2 rfl) ?_
    refine g_fi C hW [] rfl (g_runS (As := [.int b, .int a, .int ob, .int oa]) (rest := []) (wc := []) C hW hl (c_X0_gain l G b a ob oa (by first | assumption | exact z1 ha | exact z1 hb_) (by first | assumption | exact z1 ha | exact z1 hb_) _) k_ml_X0_7 q_X0_gain (by decide) [] rfl rfl rfl rfl (Nat.le_of_ble_eq_true rfl) dX0_rests_23 (by decide)) (fun r_40 er_40 => ?_)
    clear hW H locs; intro H locs hW
    subst er_40
    refine lv_iconst (v := 1) hx hb dX0_rests_26 (by decide) ?_
    refine lv_iload_n hx hb dX0_rests_27 rfl (lv_at hl 1 rfl) ?_
    refine lv_isub hx hb dX0_rests_28 ?_
    refine lv_iload_n hx hb dX0_rests_29 rfl (lv_at hl 0 rfl) ?_
    refine lv_iload_n hx hb dX0_rests_30 rfl (lv_at hl 3 rfl) ?_
    refine lv_iload_n hx hb dX0_rests_31 rfl (lv_at hl 2 rfl) ?_
    refine g_fi C hW [] rfl (g_runS (As := [.int (1 - b), .int a, .int ob, .int oa]) (rest := [.int (gn b a ob oa)]) (wc := []) C hW hl (c_X0_gain l G (1 - b) a ob oa (by first | assumption | exact z1 ha | exact z1 hb_) (by first | assumption | exact z1 ha | exact z1 hb_) _) k_ml_X0_7 q_X0_gain (by decide) [] rfl rfl rfl rfl (Nat.le_of_ble_eq_true rfl) dX0_rests_32 (by decide)) (fun r_41 er_41 => ?_)
    clear hW H locs; intro H locs hW
    subst er_41
    refine lv_icmp_lt (tgt := 42) hx hb dX0_rests_35 (by decide) (fun c_42 => ?_) (fun c_42 => ?_)
    · replace c_42 := Int32.not_le.mpr c_42
      refine lv_iconst (v := 0) hx hb dX0_rests_42 (by decide) ?_
      exact J_39 0 (by first | rfl | (simp only [c_33, c_42, if_true, if_false, reduceIte]; done) | (simp [c_33, c_42]; done)) _ _ _ hW (lv_sub hl [0, 1, 2, 3] rfl)
    · replace c_42 := Int32.not_lt.mp c_42
      refine lv_iconst (v := 1) hx hb dX0_rests_38 (by decide) ?_
      refine lv_goto (tgt := 43) hx hb dX0_rests_39 (by decide) ?_
      exact J_39 1 (by first | rfl | (simp only [c_33, c_42, if_true, if_false, reduceIte]; done) | (simp [c_33, c_42]; done)) _ _ _ hW (lv_sub hl [0, 1, 2, 3] rfl)
