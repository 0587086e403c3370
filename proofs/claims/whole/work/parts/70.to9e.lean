set_option maxHeartbeats 4000000 in
set_option maxRecDepth 100000 in
theorem c_X10_rally_bad (l : Launch) (G : gT) (v vw vc vp vs vn vm vu : Nat) (wide : Int32) (to iv jv rd st ra og : Nat) (k1 k2 ab be bds nos fls : Int32) (vpc n : Nat) (p9 k9 : Int32) (hbad : (iw p9 0 (((1 : Int32) <<< (nI n &&& 31)) - 1) && (decide (-2 ≤ k9) && !(decide (k9 = -1)))) = false) : MI l G yX10_rally cX10_rally 4 .int ({ frames := 2, cells := 0, slots := 0, locals := 40 }) [.ref to, .int p9, .int k9] [(to, .inr (8, [.ref v, .ref iv, .ref jv, .int k1, .int k2, .ref rd, .ref st, .ref ra, .ref og, .int ab, .int be, .int bds, .int nos, .int fls])), (v, .inr (7, [.int wide, .ref vw, .ref vc, .ref vp, .ref vs, .ref vn, .ref vm, .ref vu])), (vp, .inr (4, [.int 7, .int 3, .ref vpc, .int (nI n)]))] (fun (r : Int32) w1 => ∃ u_ : Unit, (r = (-10)) ∧ w1 = [(to, .inr (8, [.ref v, .ref iv, .ref jv, .int k1, .int k2, .ref rd, .ref st, .ref ra, .ref og, .int ab, .int be, .int (bds + 1), .int nos, .int fls])), (v, .inr (7, [.int wide, .ref vw, .ref vc, .ref vp, .ref vs, .ref vn, .ref vm, .ref vu])), (vp, .inr (4, [.int 7, .int 3, .ref vpc, .int (nI n)]))]) := by
  refine MI.mk (by decide) (Nat.le_of_ble_eq_true rfl) ?_
  intro p_ e_ s_ m_ ar_ be_ me_ cd_ A_ ls C hrt hW hl
  have hx := C.1; have hb := C.2.1; have hown := C.2.2.2.1; have ht := C.2.2.2.2.1
  replace hl : lv_has ls 4 [(0, .ref to), (1, .int p9), (2, .int k9)] := hl
  generalize hQ : MQ be_ _ ar_ s_ 0 0 A_ = Q
  refine lv_iload_n hx hb dX10_rally_0 rfl (lv_at hl 1 rfl) ?_
  refine lv_iconst (v := 0) hx hb dX10_rally_1 (by decide) ?_
  refine lv_aload_n hx hb dX10_rally_2 rfl (lv_at hl 0 rfl) ?_
  refine g_get (k := 0) (v := .ref v) C hW 0 rfl rfl jnX10 (by decide) k_fl_X10_10 rfl dX10_rally_3 ?_
  refine g_fi C hW [1, 2] rfl (g_runV (As := []) (rest := [.int 0, .int p9]) (wc := [(v, .inr (7, [.int wide, .ref vw, .ref vc, .ref vp, .ref vs, .ref vn, .ref vm, .ref vu])), (vp, .inr (4, [.int 7, .int 3, .ref vpc, .int (nI n)]))]) (q0 := 0) (ci := 7) C hW hl (c_X9_everybody l G v vw vc vp vs vn vm vu wide vpc n  _) k_ml_X10_219 q_X9_everybody (by decide) [1, 2] rfl rfl rfl rfl rfl rfl (Nat.le_of_ble_eq_true rfl) dX10_rally_6 (by decide)) (fun r_2836 er_2836 => ?_)
  clear hW; intro H locs hW
  refine lv_as (y := ((1 : Int32) <<< (nI n &&& 31)) - 1) er_2836 ?_
  clear er_2836 r_2836
  refine g_fi C hW [] rfl (g_runS (As := [.int p9, .int 0, .int (((1 : Int32) <<< (nI n &&& 31)) - 1)]) (rest := []) (wc := []) C hW hl (c_X10_isWithin l G p9 0 (((1 : Int32) <<< (nI n &&& 31)) - 1)  _) k_ml_X10_73 q_X10_isWithin (by decide) [] rfl rfl rfl rfl (Nat.le_of_ble_eq_true rfl) dX10_rally_9 (by decide)) (fun r_2837 er_2837 => ?_)
  clear hW H locs; intro H locs hW
  refine lv_as (y := bI (iw p9 0 (((1 : Int32) <<< (nI n &&& 31)) - 1))) er_2837 ?_
  clear er_2837 r_2837
  have J_2839 : ∀ (H : Heap) (locs : List Loc) (ls : Array Slot), Wd G A_ s_.heap [(to, .inr (8, [.ref v, .ref iv, .ref jv, .int k1, .int k2, .ref rd, .ref st, .ref ra, .ref og, .int ab, .int be, .int bds, .int nos, .int fls])), (v, .inr (7, [.int wide, .ref vw, .ref vc, .ref vp, .ref vs, .ref vn, .ref vm, .ref vu])), (vp, .inr (4, [.int 7, .int 3, .ref vpc, .int (nI n)]))] H locs → lv_has ls 4 [(0, .ref to), (1, .int p9), (2, .int k9)] → W p_ l e_ ({ frames := 2, cells := 0, slots := 0, locals := 40 }) s_ m_ ar_ be_ me_ cd_ H locs 0 0 Q (F0 m_ 26 ls []) := by
    intro  H locs ls hW hl
    refine lv_aload_n hx hb dX10_rally_26 rfl (lv_at hl 0 rfl) ?_
    refine lv_bipush (v := (-10)) hx hb dX10_rally_27 (by decide) ?_
    refine g_fiw (wr := [(v, .inr (7, [.int wide, .ref vw, .ref vc, .ref vp, .ref vs, .ref vn, .ref vm, .ref vu])), (vp, .inr (4, [.int 7, .int 3, .ref vpc, .int (nI n)]))]) (ww := fun (u_ : Unit) => [(to, .inr (8, [.ref v, .ref iv, .ref jv, .int k1, .int k2, .ref rd, .ref st, .ref ra, .ref og, .int ab, .int be, .int (bds + 1), .int nos, .int fls]))]) (w2 := fun (u_ : Unit) => [(to, .inr (8, [.ref v, .ref iv, .ref jv, .int k1, .int k2, .ref rd, .ref st, .ref ra, .ref og, .int ab, .int be, .int (bds + 1), .int nos, .int fls])), (v, .inr (7, [.int wide, .ref vw, .ref vc, .ref vp, .ref vs, .ref vn, .ref vm, .ref vu])), (vp, .inr (4, [.int 7, .int 3, .ref vpc, .int (nI n)]))]) C hW [0] [1, 2] [2, 0, 1] rfl rfl (by decide) (by decide) (by decide) (fun _ => rfl) (g_runV (As := [.int (-10)]) (rest := []) (wc := [(to, .inr (8, [.ref v, .ref iv, .ref jv, .int k1, .int k2, .ref rd, .ref st, .ref ra, .ref og, .int ab, .int be, .int bds, .int nos, .int fls]))]) (q0 := 0) (ci := 8) C hW hl (c_X10_refuseBad l G v to iv jv rd st ra og k1 k2 ab be bds nos fls (-10)  _) k_ml_X10_77 q_X10_refuseBad (by decide) [0] rfl rfl rfl rfl rfl rfl (Nat.le_of_ble_eq_true rfl) dX10_rally_29 (by decide)) (fun r_2840 _ er_2840 => ?_)
    clear hW H locs; intro H locs hW
    refine lv_as (y := (-10)) er_2840 ?_
    clear er_2840 r_2840
    replace hW : Wd G A_ s_.heap [(to, .inr (8, [.ref v, .ref iv, .ref jv, .int k1, .int k2, .ref rd, .ref st, .ref ra, .ref og, .int ab, .int be, .int (bds + 1), .int nos, .int fls])), (v, .inr (7, [.int wide, .ref vw, .ref vc, .ref vp, .ref vs, .ref vn, .ref vm, .ref vu])), (vp, .inr (4, [.int 7, .int 3, .ref vpc, .int (nI n)]))] H locs := hW
    subst hQ
    exact g_iret (v := (-10)) C hW hrt ⟨(), by rfl, by rfl⟩ dX10_rally_32
  refine lv_if_eq (tgt := 26) hx hb dX10_rally_12 (by decide) (fun c_2838 => ?_) (fun c_2838 => ?_)
  · exact J_2839  _ _ _ hW (lv_sub hl [0, 1, 2] rfl)
  · refine lv_iload_n hx hb dX10_rally_15 rfl (lv_at hl 2 rfl) ?_
    refine lv_iconst (v := (-1)) hx hb dX10_rally_16 (by decide) ?_
    refine lv_icmp_eq (tgt := 26) hx hb dX10_rally_17 (by decide) (fun c_2842 => ?_) (fun c_2842 => ?_)
    · exact J_2839  _ _ _ hW (lv_sub hl [0, 1, 2] rfl)
    · refine lv_iload_n hx hb dX10_rally_20 rfl (lv_at hl 2 rfl) ?_
      refine lv_bipush (v := (-2)) hx hb dX10_rally_21 (by decide) ?_
      refine lv_icmp_ge (tgt := 33) hx hb dX10_rally_23 (by decide) (fun c_2843 => ?_) (fun c_2843 => ?_)
      · replace c_2843 := Int32.not_lt.mpr c_2843
        exfalso; simp [bI_ne.mp c_2838, c_2842, c_2843, if_true, if_false, reduceIte, Bool.false_eq_true] at hbad
      · replace c_2843 := Int32.not_le.mp c_2843
        exact J_2839  _ _ _ hW (lv_sub hl [0, 1, 2] rfl)
