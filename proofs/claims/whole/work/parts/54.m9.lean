set_option maxHeartbeats 4000000 in
set_option maxRecDepth 100000 in
theorem c_X11_fraction (l : Launch) (G : gT) (mo al ke ik rq so ha te bt an vs : Nat) (mab mbe : Int64) (bL tA tL tK tV : Int32) (t : Nat) (ht9 : t < 11) : MV l G yX11_fraction cX11_fraction 11 ({ frames := 0, cells := 0, slots := 0, locals := 0 }) [.ref mo, .long ((nI t).toInt64), .long 10] [(mo, .inr (9, [.ref al, .ref ke, .ref ik, .ref rq, .long mab, .long mbe, .ref so, .ref ha, .ref te, .ref bt, .int bL, .int tA, .int tL, .int tK, .int tV, .ref an, .ref vs]))] (fun w1 => ∃ u_ : Unit, (True) ∧ w1 = [(mo, .inr (9, [.ref al, .ref ke, .ref ik, .ref rq, .long ((ktF (nI t) 9).1.toInt64), .long ((ktF (nI t) 9).2.toInt64), .ref so, .ref ha, .ref te, .ref bt, .int bL, .int tA, .int tL, .int tK, .int tV, .ref an, .ref vs]))]) := by
  refine MV.mk (by decide) (Nat.le_of_ble_eq_true rfl) ?_
  intro p_ e_ s_ m_ ar_ be_ me_ cd_ A_ ls C hrt hW hl
  have hx := C.1; have hb := C.2.1; have hown := C.2.2.2.1; have ht := C.2.2.2.2.1
  replace hl : lv_has ls 11 [(0, .ref mo), (1, .long ((nI t).toInt64)), (3, .long 10)] := hl
  generalize hQ : MQ be_ _ ar_ s_ 0 0 A_ = Q
  refine lv_lload_n hx hb dX11_fraction_0 rfl (lv_at hl 1 rfl) ?_
  refine lv_lstore (lv' := [(5, .long ((nI t).toInt64)), (0, .ref mo), (1, .long ((nI t).toInt64)), (3, .long 10)]) hx hb dX11_fraction_1 hl (by decide) rfl ?_
  clear hl ls; intro ls hl
  refine lv_lload_n hx hb dX11_fraction_3 rfl (lv_at hl 3 rfl) ?_
  refine lv_lstore (lv' := [(7, .long 10), (5, .long ((nI t).toInt64)), (0, .ref mo), (1, .long ((nI t).toInt64)), (3, .long 10)]) hx hb dX11_fraction_4 hl (by decide) rfl ?_
  clear hl ls; intro ls hl
  have K_2207 : ∀ (n_ : Nat) (k : Nat) (x_2208 : Int64) (x_2209 : Int64) (_ : x_2208 = (frS t k).2) (_ : x_2209 = (frS t k).1) (_ : k < 7) (_ : 7 - k < n_) (H : Heap) (locs : List Loc) (ls : Array Slot), Wd G A_ s_.heap [(mo, .inr (9, [.ref al, .ref ke, .ref ik, .ref rq, .long mab, .long mbe, .ref so, .ref ha, .ref te, .ref bt, .int bL, .int tA, .int tL, .int tK, .int tV, .ref an, .ref vs]))] H locs → lv_has ls 11 [(7, .long x_2208), (5, .long x_2209), (0, .ref mo), (1, .long ((nI t).toInt64)), (3, .long 10)] → W p_ l e_ ({ frames := 0, cells := 0, slots := 0, locals := 0 }) s_ m_ ar_ be_ me_ cd_ H locs 0 0 Q (F0 m_ 6 ls []) := by
    intro n_
    induction n_ with
    | zero => intro k x_2208 x_2209 ex_2208 ex_2209 hk hm_; exact absurd hm_ (Nat.not_lt_zero _)
    | succ n_ ihK_2207 =>
      intro k x_2208 x_2209 ex_2208 ex_2209 hk hm_ H locs ls hW hl
      subst ex_2208
      subst ex_2209
      refine lv_lload hx hb dX11_fraction_6 (lv_at hl 0 rfl) ?_
      refine lv_lconst (v := 0) hx hb dX11_fraction_8 (by decide) ?_
      refine W.lcmp hx hb dX11_fraction_9 ?_
      refine lv_if_eq (tgt := 31) hx hb dX11_fraction_10 (by decide) (fun c_2210 => ?_) (fun c_2210 => ?_)
      · have hez := (fr_k t ht9 k hk).2 (cmp_eq.mp c_2210)
        refine lv_aload_n hx hb dX11_fraction_31 rfl (lv_at hl 2 rfl) ?_
        refine lv_lload_n hx hb dX11_fraction_32 rfl (lv_at hl 3 rfl) ?_
        refine lv_lload hx hb dX11_fraction_33 (lv_at hl 1 rfl) ?_
        refine lv_ldiv hx hb dX11_fraction_35 (by exact hez.1) ?_
        refine lv_asl (y := (ktF (nI t) 9).1.toInt64) (hez.2.1) ?_
        refine g_put (k := 4) (ty := .long) (w' := [(mo, .inr (9, [.ref al, .ref ke, .ref ik, .ref rq, .long ((ktF (nI t) 9).1.toInt64), .long mbe, .ref so, .ref ha, .ref te, .ref bt, .int bL, .int tA, .int tL, .int tK, .int tV, .ref an, .ref vs]))]) C hW 0 rfl rfl jnX11 tyX11_ok nmX11 (by decide) k_fl_X11_197 rfl rfl rfl rfl (Nat.le_of_ble_eq_true rfl) rfl dX11_fraction_36 ?_
        clear hW H locs; intro H locs hW
        refine lv_aload_n hx hb dX11_fraction_39 rfl (lv_at hl 2 rfl) ?_
        refine lv_lload_n hx hb dX11_fraction_40 rfl (lv_at hl 4 rfl) ?_
        refine lv_lload hx hb dX11_fraction_41 (lv_at hl 1 rfl) ?_
        refine lv_ldiv hx hb dX11_fraction_43 (by exact hez.1) ?_
        refine lv_asl (y := (ktF (nI t) 9).2.toInt64) (hez.2.2) ?_
        refine g_put (k := 5) (ty := .long) (w' := [(mo, .inr (9, [.ref al, .ref ke, .ref ik, .ref rq, .long ((ktF (nI t) 9).1.toInt64), .long ((ktF (nI t) 9).2.toInt64), .ref so, .ref ha, .ref te, .ref bt, .int bL, .int tA, .int tL, .int tK, .int tV, .ref an, .ref vs]))]) C hW 0 rfl rfl jnX11 tyX11_ok nmX11 (by decide) k_fl_X11_23 rfl rfl rfl rfl (Nat.le_of_ble_eq_true rfl) rfl dX11_fraction_44 ?_
        clear hW H locs; intro H locs hW
        subst hQ
        exact g_vret C hW hrt ⟨(), trivial, by rfl⟩ dX11_fraction_47
      · have hne : ¬ (frS t k).2 = 0 := fun q => c_2210 (cmp_eq.mpr q)
        have hk6 := (fr_k t ht9 k hk).1 hne
        refine lv_lload hx hb dX11_fraction_13 (lv_at hl 1 rfl) ?_
        refine lv_lload hx hb dX11_fraction_15 (lv_at hl 0 rfl) ?_
        refine lv_lrem hx hb dX11_fraction_17 (by exact hne) ?_
        refine lv_lstore (lv' := [(9, .long (((frS t k).1) - ((frS t k).1) / ((frS t k).2) * ((frS t k).2))), (7, .long ((frS t k).2)), (5, .long ((frS t k).1)), (0, .ref mo), (1, .long ((nI t).toInt64)), (3, .long 10)]) hx hb dX11_fraction_18 hl (by decide) rfl ?_
        clear hl ls; intro ls hl
        refine lv_lload hx hb dX11_fraction_20 (lv_at hl 1 rfl) ?_
        refine lv_lstore (lv' := [(5, .long ((frS t k).2)), (9, .long (((frS t k).1) - ((frS t k).1) / ((frS t k).2) * ((frS t k).2))), (7, .long ((frS t k).2)), (0, .ref mo), (1, .long ((nI t).toInt64)), (3, .long 10)]) hx hb dX11_fraction_22 hl (by decide) rfl ?_
        clear hl ls; intro ls hl
        refine lv_lload hx hb dX11_fraction_24 (lv_at hl 1 rfl) ?_
        refine lv_lstore (lv' := [(7, .long (((frS t k).1) - ((frS t k).1) / ((frS t k).2) * ((frS t k).2))), (5, .long ((frS t k).2)), (9, .long (((frS t k).1) - ((frS t k).1) / ((frS t k).2) * ((frS t k).2))), (0, .ref mo), (1, .long ((nI t).toInt64)), (3, .long 10)]) hx hb dX11_fraction_26 hl (by decide) rfl ?_
        clear hl ls; intro ls hl
        refine lv_goto (tgt := 6) hx hb dX11_fraction_28 (by decide) ?_
        exact ihK_2207 (k + 1) (((frS t k).1) - ((frS t k).1) / ((frS t k).2) * ((frS t k).2)) ((frS t k).2) (by (rw [frS, if_neg hne])) (by (rw [frS, if_neg hne])) (by (have := hk6; omega)) (by omega) _ _ _ hW (lv_sub hl [0, 1, 3, 4, 5] rfl)
  exact K_2207 _ 0 10 ((nI t).toInt64) (by exact rfl) (by exact rfl) (by first | omega | assumption | (simp; done)) (Nat.lt_succ_self _) _ _ _ hW (lv_sub hl [0, 1, 2, 3, 4] rfl)
set_option maxHeartbeats 4000000 in
set_option maxRecDepth 100000 in
theorem c_X11_gusts_ok (l : Launch) (G : gT) (mo al ke ik rq so ha te bt an vs : Nat) (mab mbe : Int64) (bL tA tL tK tV : Int32) (a : Nat → Int32) (hf : Nat → Int32) (n k c hr : Nat) (hk : k < n) (hn : n ≤ 7) (e0 : a 0 = nI n) (e12 : a 12 = nI hr) (hh : hr < 10000) (hc : c < 11) : MI l G yX11_gusts cX11_gusts 6 .int ({ frames := 3, cells := 0, slots := 0, locals := 72 }) [.ref mo, .int (nI k), .int (nI c)] [(mo, .inr (9, [.ref al, .ref ke, .ref ik, .ref rq, .long mab, .long mbe, .ref so, .ref ha, .ref te, .ref bt, .int bL, .int tA, .int tL, .int tK, .int tV, .ref an, .ref vs])), (al, .inl (G.2.1, 159, .inl a)), (ha, .inl (G.2.1, 40, .inl hf))] (fun (r : Int32) w1 => ∃ u_ : Unit, (r = 1) ∧ w1 = [(mo, .inr (9, [.ref al, .ref ke, .ref ik, .ref rq, .long ((ktF (nI ((if (crA a k hr (a (26 + k))) = true then 10 - c else 0) + (if (crA (upd (fa_fill a hf 40) (13 + hr % 6) (guW (a (13 + hr % 6)))) k hr (a (26 + k))) = true then c else 0))) 9).1.toInt64), .long ((ktF (nI ((if (crA a k hr (a (26 + k))) = true then 10 - c else 0) + (if (crA (upd (fa_fill a hf 40) (13 + hr % 6) (guW (a (13 + hr % 6)))) k hr (a (26 + k))) = true then c else 0))) 9).2.toInt64), .ref so, .ref ha, .ref te, .ref bt, .int bL, .int tA, .int tL, .int tK, .int tV, .ref an, .ref vs])), (al, .inl (G.2.1, 159, .inl a)), (ha, .inl (G.2.1, 40, .inl (upd (fa_fill a hf 40) (13 + hr % 6) (guW (a (13 + hr % 6))))))]) := by
  refine MI.mk (by decide) (Nat.le_of_ble_eq_true rfl) ?_
  intro p_ e_ s_ m_ ar_ be_ me_ cd_ A_ ls C hrt hW hl
  have hx := C.1; have hb := C.2.1; have hown := C.2.2.2.1; have ht := C.2.2.2.2.1
  replace hl : lv_has ls 6 [(0, .ref mo), (1, .int (nI k)), (2, .int (nI c))] := hl
  generalize hQ : MQ be_ _ ar_ s_ 0 0 A_ = Q
  refine lv_aload_n hx hb dX11_gusts_0 rfl (lv_at hl 0 rfl) ?_
  refine lv_iload_n hx hb dX11_gusts_1 rfl (lv_at hl 1 rfl) ?_
  refine g_fi C hW [0, 1] rfl (g_runV (As := [.int (nI k)]) (rest := []) (wc := [(mo, .inr (9, [.ref al, .ref ke, .ref ik, .ref rq, .long mab, .long mbe, .ref so, .ref ha, .ref te, .ref bt, .int bL, .int tA, .int tL, .int tK, .int tV, .ref an, .ref vs])), (al, .inl (G.2.1, 159, .inl a))]) (q0 := 0) (ci := 9) C hW hl (c_X11_isPlayer l G mo al ke ik rq so ha te bt an vs mab mbe bL tA tL tK tV a n (nI k) (by first | assumption | omega) (by first | assumption | omega) _) k_ml_X11_118 q_X11_isPlayer (by decide) [0, 1] rfl rfl rfl rfl rfl rfl (Nat.le_of_ble_eq_true rfl) dX11_gusts_2 (by decide)) (fun r_2211 er_2211 => ?_)
  clear hW; intro H locs hW
  refine lv_as (y := bI (okp n (nI k))) er_2211 ?_
  clear er_2211 r_2211
  refine lv_if_eq (tgt := 20) hx hb dX11_gusts_5 (by decide) (fun c_2212 => ?_) (fun c_2212 => ?_)
  · exfalso; exact dd (okp_nI (by omega) (by assumption)) c_2212
  · refine lv_iload_n hx hb dX11_gusts_8 rfl (lv_at hl 2 rfl) ?_
    refine lv_i2l hx hb dX11_gusts_9 rfl ?_
    refine lv_lconst (v := 0) hx hb dX11_gusts_10 (by decide) ?_
    refine lv_ldc2 (v := 10) hx hb hown (ht _ k_cg_X11_200) dX11_gusts_11 ?_
    refine g_fi C hW [] rfl (g_runS (As := [.long ((nI c).toInt64), .long 0, .long 10]) (rest := []) (wc := []) C hW hl (c_X11_in l G (nI c) 0 10 0 10 (by first | rfl | decide) (by first | rfl | decide) _) k_ml_X11_53 q_X11_in (by decide) [] rfl rfl rfl rfl (Nat.le_of_ble_eq_true rfl) dX11_gusts_14 (by decide)) (fun r_2213 er_2213 => ?_)
    clear hW H locs; intro H locs hW
    refine lv_as (y := bI (iw (nI c) 0 10)) er_2213 ?_
    clear er_2213 r_2213
    refine lv_if_ne (tgt := 27) hx hb dX11_gusts_17 (by decide) (fun c_2214 => ?_) (fun c_2214 => ?_)
    · have hm6 : hr % 6 < 6 := Nat.mod_lt _ (by decide)
      refine lv_bipush (v := 13) hx hb dX11_gusts_27 (by decide) ?_
      refine lv_aload_n hx hb dX11_gusts_29 rfl (lv_at hl 0 rfl) ?_
      refine g_get (k := 0) (v := .ref al) C hW 0 rfl rfl jnX11 (by decide) k_fl_X11_7 rfl dX11_gusts_30 ?_
      refine lv_bipush (v := 12) hx hb dX11_gusts_33 (by decide) ?_
      refine g_ald C hW 1 rfl (vp_in_nI (n := 12) (by omega) (by omega)) dX11_gusts_35 ?_
      refine lv_as (y := a 12) (rfl) ?_
      refine lv_as (y := nI hr) (e12) ?_
      refine lv_bipush (v := 6) hx hb dX11_gusts_36 (by decide) ?_
      refine lv_irem hx hb dX11_gusts_38 (by decide) ?_
      refine lv_as (y := nI (hr % 6)) (pk_rem (by omega) (by decide) (by decide)) ?_
      refine lv_iadd hx hb dX11_gusts_39 ?_
      refine lv_as (y := nI (13 + hr % 6)) (by simp only [nI_lit, nI_add]) ?_
      refine lv_istore_n (lv' := [(3, .int (nI (13 + hr % 6))), (0, .ref mo), (1, .int (nI k)), (2, .int (nI c))]) hx hb dX11_gusts_40 rfl hl (by decide) rfl ?_
      clear hl ls; intro ls hl
      refine lv_aload_n hx hb dX11_gusts_41 rfl (lv_at hl 1 rfl) ?_
      refine g_fvw (wr := []) (ww := fun (u_ : Unit) => [(mo, .inr (9, [.ref al, .ref ke, .ref ik, .ref rq, .long mab, .long mbe, .ref so, .ref ha, .ref te, .ref bt, .int bL, .int tA, .int tL, .int tK, .int tV, .ref an, .ref vs])), (al, .inl (G.2.1, 159, .inl a)), (ha, .inl (G.2.1, 40, .inl (fa_fill a hf 40)))]) (w2 := fun (u_ : Unit) => [(mo, .inr (9, [.ref al, .ref ke, .ref ik, .ref rq, .long mab, .long mbe, .ref so, .ref ha, .ref te, .ref bt, .int bL, .int tA, .int tL, .int tK, .int tV, .ref an, .ref vs])), (al, .inl (G.2.1, 159, .inl a)), (ha, .inl (G.2.1, 40, .inl (fa_fill a hf 40)))]) C hW [0, 1, 2] [] [0, 1, 2] rfl rfl (by decide) (by decide) (by decide) (fun _ => rfl) (g_runV (As := []) (rest := []) (wc := [(mo, .inr (9, [.ref al, .ref ke, .ref ik, .ref rq, .long mab, .long mbe, .ref so, .ref ha, .ref te, .ref bt, .int bL, .int tA, .int tL, .int tK, .int tV, .ref an, .ref vs])), (al, .inl (G.2.1, 159, .inl a)), (ha, .inl (G.2.1, 40, .inl hf))]) (q0 := 0) (ci := 9) C hW hl (c_X11_layHand l G mo al ke ik rq so ha te bt an vs mab mbe bL tA tL tK tV a hf  _) k_ml_X11_157 q_X11_layHand (by decide) [0, 1, 2] rfl rfl rfl rfl rfl rfl (Nat.le_of_ble_eq_true rfl) dX11_gusts_42 (by decide)) (fun _ er_2215 => ?_)
      clear hW H locs; intro H locs hW
      replace hW : Wd G A_ s_.heap [(mo, .inr (9, [.ref al, .ref ke, .ref ik, .ref rq, .long mab, .long mbe, .ref so, .ref ha, .ref te, .ref bt, .int bL, .int tA, .int tL, .int tK, .int tV, .ref an, .ref vs])), (al, .inl (G.2.1, 159, .inl a)), (ha, .inl (G.2.1, 40, .inl (fa_fill a hf 40)))] H locs := hW
      refine lv_aload_n hx hb dX11_gusts_45 rfl (lv_at hl 1 rfl) ?_
      refine g_get (k := 7) (v := .ref ha) C hW 0 rfl rfl jnX11 (by decide) k_fl_X11_30 rfl dX11_gusts_46 ?_
      refine lv_iload_n hx hb dX11_gusts_49 rfl (lv_at hl 0 rfl) ?_
      refine lv_aload_n hx hb dX11_gusts_50 rfl (lv_at hl 1 rfl) ?_
      refine g_get (k := 0) (v := .ref al) C hW 0 rfl rfl jnX11 (by decide) k_fl_X11_7 rfl dX11_gusts_51 ?_
      refine lv_iload_n hx hb dX11_gusts_54 rfl (lv_at hl 0 rfl) ?_
      refine g_ald C hW 1 rfl (ix_in (show (nI (13 + hr % 6)) = nI (13 + hr % 6) from (by first | rfl | (simp only [nI_lit, nI_add, pk_mul]; done) | (simp only [nI_lit, nI_add, pk_mul]; congr 1; omega))) (by omega) (by omega)) dX11_gusts_55 ?_
      refine lv_as (y := a (13 + hr % 6)) (by rw [show (nI (13 + hr % 6)).toNatClampNeg = (13 + hr % 6) from ix_cl (show (nI (13 + hr % 6)) = nI (13 + hr % 6) from (by first | rfl | (simp only [nI_lit, nI_add, pk_mul]; done) | (simp only [nI_lit, nI_add, pk_mul]; congr 1; omega))) (Nat.lt_of_lt_of_le (m := 159) (by omega) (by omega))]) ?_
      have J_2219 : ∀ (y_2218 : Int32) (_ : y_2218 = (if (a (13 + hr % 6)) < 0 then (-4) else (a (13 + hr % 6)) - 4)), ∀ (H : Heap) (locs : List Loc) (ls : Array Slot), Wd G A_ s_.heap [(mo, .inr (9, [.ref al, .ref ke, .ref ik, .ref rq, .long mab, .long mbe, .ref so, .ref ha, .ref te, .ref bt, .int bL, .int tA, .int tL, .int tK, .int tV, .ref an, .ref vs])), (al, .inl (G.2.1, 159, .inl a)), (ha, .inl (G.2.1, 40, .inl (fa_fill a hf 40)))] H locs → lv_has ls 6 [(3, .int (nI (13 + hr % 6))), (0, .ref mo), (1, .int (nI k)), (2, .int (nI c))] → W p_ l e_ ({ frames := 3, cells := 0, slots := 0, locals := 72 }) s_ m_ ar_ be_ me_ cd_ H locs 0 0 Q (F0 m_ 72 ls [.int y_2218, .int (nI (13 + hr % 6)), .ref ha]) := by
        intro y_2218 ey_2218 H locs ls hW hl
        refine lv_as (y := (guW (a (13 + hr % 6)))) (by simp only [ey_2218]; rfl) ?_
        refine g_ast (w' := [(mo, .inr (9, [.ref al, .ref ke, .ref ik, .ref rq, .long mab, .long mbe, .ref so, .ref ha, .ref te, .ref bt, .int bL, .int tA, .int tL, .int tK, .int tV, .ref an, .ref vs])), (al, .inl (G.2.1, 159, .inl a)), (ha, .inl (G.2.1, 40, .inl (upd (fa_fill a hf 40) (13 + hr % 6) (guW (a (13 + hr % 6))))))]) C hW 2 rfl (ix_in (show (nI (13 + hr % 6)) = nI (13 + hr % 6) from (by first | rfl | (simp only [nI_lit, nI_add, pk_mul]; done) | (simp only [nI_lit, nI_add, pk_mul]; congr 1; omega))) (by omega) (by omega)) (by rw [show (nI (13 + hr % 6)).toNatClampNeg = (13 + hr % 6) from ix_cl (show (nI (13 + hr % 6)) = nI (13 + hr % 6) from (by first | rfl | (simp only [nI_lit, nI_add, pk_mul]; done) | (simp only [nI_lit, nI_add, pk_mul]; congr 1; omega))) (Nat.lt_of_lt_of_le (m := 40) (by omega) (by omega))]; rfl) dX11_gusts_72 ?_
        clear hW H locs; intro H locs hW
        refine lv_aload_n hx hb dX11_gusts_73 rfl (lv_at hl 1 rfl) ?_
        refine g_get (k := 0) (v := .ref al) C hW 0 rfl rfl jnX11 (by decide) k_fl_X11_7 rfl dX11_gusts_74 ?_
        refine lv_iload_n hx hb dX11_gusts_77 rfl (lv_at hl 2 rfl) ?_
        refine lv_aload_n hx hb dX11_gusts_78 rfl (lv_at hl 1 rfl) ?_
        refine g_get (k := 0) (v := .ref al) C hW 0 rfl rfl jnX11 (by decide) k_fl_X11_7 rfl dX11_gusts_79 ?_
        refine lv_bipush (v := 26) hx hb dX11_gusts_82 (by decide) ?_
        refine lv_iload_n hx hb dX11_gusts_84 rfl (lv_at hl 2 rfl) ?_
        refine lv_iadd hx hb dX11_gusts_85 ?_
        refine g_ald C hW 1 rfl (ix_in (show (26 + (nI k)) = nI (26 + k) from (by first | rfl | (simp only [nI_lit, nI_add, pk_mul]; done) | (simp only [nI_lit, nI_add, pk_mul]; congr 1; omega))) (by omega) (by omega)) dX11_gusts_86 ?_
        refine lv_as (y := a (26 + k)) (by rw [show (26 + (nI k)).toNatClampNeg = (26 + k) from ix_cl (show (26 + (nI k)) = nI (26 + k) from (by first | rfl | (simp only [nI_lit, nI_add, pk_mul]; done) | (simp only [nI_lit, nI_add, pk_mul]; congr 1; omega))) (Nat.lt_of_lt_of_le (m := 159) (by omega) (by omega))]) ?_
        refine lv_aload_n hx hb dX11_gusts_87 rfl (lv_at hl 1 rfl) ?_
        refine g_get (k := 0) (v := .ref al) C hW 0 rfl rfl jnX11 (by decide) k_fl_X11_7 rfl dX11_gusts_88 ?_
        refine lv_bipush (v := 12) hx hb dX11_gusts_91 (by decide) ?_
        refine g_ald C hW 1 rfl (vp_in_nI (n := 12) (by omega) (by omega)) dX11_gusts_93 ?_
        refine lv_as (y := a 12) (rfl) ?_
        refine lv_as (y := nI hr) (e12) ?_
        refine g_fi C hW [1] rfl (g_runS (As := [.ref al, .int (nI k), .int (a (26 + k)), .int (nI hr)]) (rest := []) (wc := [(al, .inl (G.2.1, 159, .inl a))]) C hW hl (c_X11_carries l G al 159 a k hr (a (26 + k)) (by first | assumption | omega) (by first | assumption | omega) (by first | assumption | omega) _) k_ml_X11_111 q_X11_carries (by decide) [1] rfl rfl rfl rfl (Nat.le_of_ble_eq_true rfl) dX11_gusts_94 (by decide)) (fun r_2220 er_2220 => ?_)
        clear hW H locs; intro H locs hW
        refine lv_as (y := bI (crA a k hr (a (26 + k)))) er_2220 ?_
        clear er_2220 r_2220
        have J_2223 : ∀ (y_2222 : Int64) (_ : y_2222 = (if (bI (crA a k hr (a (26 + k)))) = 0 then 0 else (10 - (nI c)).toInt64)), ∀ (H : Heap) (locs : List Loc) (ls : Array Slot), Wd G A_ s_.heap [(mo, .inr (9, [.ref al, .ref ke, .ref ik, .ref rq, .long mab, .long mbe, .ref so, .ref ha, .ref te, .ref bt, .int bL, .int tA, .int tL, .int tK, .int tV, .ref an, .ref vs])), (al, .inl (G.2.1, 159, .inl a)), (ha, .inl (G.2.1, 40, .inl (upd (fa_fill a hf 40) (13 + hr % 6) (guW (a (13 + hr % 6))))))] H locs → lv_has ls 6 [(3, .int (nI (13 + hr % 6))), (0, .ref mo), (1, .int (nI k)), (2, .int (nI c))] → W p_ l e_ ({ frames := 3, cells := 0, slots := 0, locals := 72 }) s_ m_ ar_ be_ me_ cd_ H locs 0 0 Q (F0 m_ 109 ls [.long y_2222]) := by
          intro y_2222 ey_2222 H locs ls hW hl
          refine lv_asl (y := (nI (if (crA a k hr (a (26 + k))) = true then 10 - c else 0)).toInt64) (by simp only [ey_2218, ey_2222]; exact gs_1 c hc _) ?_
          refine lv_lstore (lv' := [(4, .long ((nI (if (crA a k hr (a (26 + k))) = true then 10 - c else 0)).toInt64)), (3, .int (nI (13 + hr % 6))), (0, .ref mo), (1, .int (nI k)), (2, .int (nI c))]) hx hb dX11_gusts_109 hl (by decide) rfl ?_
          clear hl ls; intro ls hl
          refine lv_lload hx hb dX11_gusts_111 (lv_at hl 0 rfl) ?_
          refine lv_aload_n hx hb dX11_gusts_113 rfl (lv_at hl 2 rfl) ?_
          refine g_get (k := 7) (v := .ref ha) C hW 0 rfl rfl jnX11 (by decide) k_fl_X11_30 rfl dX11_gusts_114 ?_
          refine lv_iload_n hx hb dX11_gusts_117 rfl (lv_at hl 3 rfl) ?_
          refine lv_aload_n hx hb dX11_gusts_118 rfl (lv_at hl 2 rfl) ?_
          refine g_get (k := 0) (v := .ref al) C hW 0 rfl rfl jnX11 (by decide) k_fl_X11_7 rfl dX11_gusts_119 ?_
          refine lv_bipush (v := 26) hx hb dX11_gusts_122 (by decide) ?_
          refine lv_iload_n hx hb dX11_gusts_124 rfl (lv_at hl 3 rfl) ?_
          refine lv_iadd hx hb dX11_gusts_125 ?_
          refine g_ald C hW 1 rfl (ix_in (show (26 + (nI k)) = nI (26 + k) from (by first | rfl | (simp only [nI_lit, nI_add, pk_mul]; done) | (simp only [nI_lit, nI_add, pk_mul]; congr 1; omega))) (by omega) (by omega)) dX11_gusts_126 ?_
          refine lv_as (y := a (26 + k)) (by rw [show (26 + (nI k)).toNatClampNeg = (26 + k) from ix_cl (show (26 + (nI k)) = nI (26 + k) from (by first | rfl | (simp only [nI_lit, nI_add, pk_mul]; done) | (simp only [nI_lit, nI_add, pk_mul]; congr 1; omega))) (Nat.lt_of_lt_of_le (m := 159) (by omega) (by omega))]) ?_
          refine lv_aload_n hx hb dX11_gusts_127 rfl (lv_at hl 2 rfl) ?_
          refine g_get (k := 0) (v := .ref al) C hW 0 rfl rfl jnX11 (by decide) k_fl_X11_7 rfl dX11_gusts_128 ?_
          refine lv_bipush (v := 12) hx hb dX11_gusts_131 (by decide) ?_
          refine g_ald C hW 1 rfl (vp_in_nI (n := 12) (by omega) (by omega)) dX11_gusts_133 ?_
          refine lv_as (y := a 12) (rfl) ?_
          refine lv_as (y := nI hr) (e12) ?_
          refine g_fi C hW [2] rfl (g_runS (As := [.ref ha, .int (nI k), .int (a (26 + k)), .int (nI hr)]) (rest := [.long ((nI (if (crA a k hr (a (26 + k))) = true then 10 - c else 0)).toInt64)]) (wc := [(ha, .inl (G.2.1, 40, .inl (upd (fa_fill a hf 40) (13 + hr % 6) (guW (a (13 + hr % 6))))))]) C hW hl (c_X11_carries l G ha 40 (upd (fa_fill a hf 40) (13 + hr % 6) (guW (a (13 + hr % 6)))) k hr (a (26 + k)) (by first | assumption | omega) (by first | assumption | omega) (by first | assumption | omega) _) k_ml_X11_111 q_X11_carries (by decide) [2] rfl rfl rfl rfl (Nat.le_of_ble_eq_true rfl) dX11_gusts_134 (by decide)) (fun r_2224 er_2224 => ?_)
          clear hW H locs; intro H locs hW
          refine lv_as (y := bI (crA (upd (fa_fill a hf 40) (13 + hr % 6) (guW (a (13 + hr % 6)))) k hr (a (26 + k)))) er_2224 ?_
          clear er_2224 r_2224
          have J_2227 : ∀ (y_2226 : Int64) (_ : y_2226 = (if (bI (crA (upd (fa_fill a hf 40) (13 + hr % 6) (guW (a (13 + hr % 6)))) k hr (a (26 + k)))) = 0 then 0 else (nI c).toInt64)), ∀ (H : Heap) (locs : List Loc) (ls : Array Slot), Wd G A_ s_.heap [(mo, .inr (9, [.ref al, .ref ke, .ref ik, .ref rq, .long mab, .long mbe, .ref so, .ref ha, .ref te, .ref bt, .int bL, .int tA, .int tL, .int tK, .int tV, .ref an, .ref vs])), (al, .inl (G.2.1, 159, .inl a)), (ha, .inl (G.2.1, 40, .inl (upd (fa_fill a hf 40) (13 + hr % 6) (guW (a (13 + hr % 6))))))] H locs → lv_has ls 6 [(4, .long ((nI (if (crA a k hr (a (26 + k))) = true then 10 - c else 0)).toInt64)), (3, .int (nI (13 + hr % 6))), (0, .ref mo), (1, .int (nI k)), (2, .int (nI c))] → W p_ l e_ ({ frames := 3, cells := 0, slots := 0, locals := 72 }) s_ m_ ar_ be_ me_ cd_ H locs 0 0 Q (F0 m_ 146 ls [.long y_2226, .long ((nI (if (crA a k hr (a (26 + k))) = true then 10 - c else 0)).toInt64)]) := by
            intro y_2226 ey_2226 H locs ls hW hl
            refine lv_asl (y := (nI (if (crA (upd (fa_fill a hf 40) (13 + hr % 6) (guW (a (13 + hr % 6)))) k hr (a (26 + k))) = true then c else 0)).toInt64) (by simp only [ey_2218, ey_2222, ey_2226]; exact gs_2 c hc _) ?_
            refine lv_ladd hx hb dX11_gusts_146 ?_
            refine lv_asl (y := (nI ((if (crA a k hr (a (26 + k))) = true then 10 - c else 0) + (if (crA (upd (fa_fill a hf 40) (13 + hr % 6) (guW (a (13 + hr % 6)))) k hr (a (26 + k))) = true then c else 0))).toInt64) (gs_3 c hc _ _) ?_
            refine lv_lstore (lv' := [(4, .long ((nI ((if (crA a k hr (a (26 + k))) = true then 10 - c else 0) + (if (crA (upd (fa_fill a hf 40) (13 + hr % 6) (guW (a (13 + hr % 6)))) k hr (a (26 + k))) = true then c else 0))).toInt64)), (3, .int (nI (13 + hr % 6))), (0, .ref mo), (1, .int (nI k)), (2, .int (nI c))]) hx hb dX11_gusts_147 hl (by decide) rfl ?_
            clear hl ls; intro ls hl
            refine lv_aload_n hx hb dX11_gusts_149 rfl (lv_at hl 2 rfl) ?_
            refine lv_lload hx hb dX11_gusts_150 (lv_at hl 0 rfl) ?_
            refine lv_ldc2 (v := 10) hx hb hown (ht _ k_cg_X11_200) dX11_gusts_152 ?_
            refine g_fvw (wr := [(al, .inl (G.2.1, 159, .inl a)), (ha, .inl (G.2.1, 40, .inl (upd (fa_fill a hf 40) (13 + hr % 6) (guW (a (13 + hr % 6))))))]) (ww := fun (u_ : Unit) => [(mo, .inr (9, [.ref al, .ref ke, .ref ik, .ref rq, .long ((ktF (nI ((if (crA a k hr (a (26 + k))) = true then 10 - c else 0) + (if (crA (upd (fa_fill a hf 40) (13 + hr % 6) (guW (a (13 + hr % 6)))) k hr (a (26 + k))) = true then c else 0))) 9).1.toInt64), .long ((ktF (nI ((if (crA a k hr (a (26 + k))) = true then 10 - c else 0) + (if (crA (upd (fa_fill a hf 40) (13 + hr % 6) (guW (a (13 + hr % 6)))) k hr (a (26 + k))) = true then c else 0))) 9).2.toInt64), .ref so, .ref ha, .ref te, .ref bt, .int bL, .int tA, .int tL, .int tK, .int tV, .ref an, .ref vs]))]) (w2 := fun (u_ : Unit) => [(mo, .inr (9, [.ref al, .ref ke, .ref ik, .ref rq, .long ((ktF (nI ((if (crA a k hr (a (26 + k))) = true then 10 - c else 0) + (if (crA (upd (fa_fill a hf 40) (13 + hr % 6) (guW (a (13 + hr % 6)))) k hr (a (26 + k))) = true then c else 0))) 9).1.toInt64), .long ((ktF (nI ((if (crA a k hr (a (26 + k))) = true then 10 - c else 0) + (if (crA (upd (fa_fill a hf 40) (13 + hr % 6) (guW (a (13 + hr % 6)))) k hr (a (26 + k))) = true then c else 0))) 9).2.toInt64), .ref so, .ref ha, .ref te, .ref bt, .int bL, .int tA, .int tL, .int tK, .int tV, .ref an, .ref vs])), (al, .inl (G.2.1, 159, .inl a)), (ha, .inl (G.2.1, 40, .inl (upd (fa_fill a hf 40) (13 + hr % 6) (guW (a (13 + hr % 6))))))]) C hW [0] [1, 2] [2, 0, 1] rfl rfl (by decide) (by decide) (by decide) (fun _ => rfl) (g_runV (As := [.long ((nI ((if (crA a k hr (a (26 + k))) = true then 10 - c else 0) + (if (crA (upd (fa_fill a hf 40) (13 + hr % 6) (guW (a (13 + hr % 6)))) k hr (a (26 + k))) = true then c else 0))).toInt64), .long 10]) (rest := []) (wc := [(mo, .inr (9, [.ref al, .ref ke, .ref ik, .ref rq, .long mab, .long mbe, .ref so, .ref ha, .ref te, .ref bt, .int bL, .int tA, .int tL, .int tK, .int tV, .ref an, .ref vs]))]) (q0 := 0) (ci := 9) C hW hl (c_X11_fraction l G mo al ke ik rq so ha te bt an vs mab mbe bL tA tL tK tV ((if (crA a k hr (a (26 + k))) = true then 10 - c else 0) + (if (crA (upd (fa_fill a hf 40) (13 + hr % 6) (guW (a (13 + hr % 6)))) k hr (a (26 + k))) = true then c else 0)) (by exact gs_4 hc) _) k_ml_X11_202 q_X11_fraction (by decide) [0] rfl rfl rfl rfl rfl rfl (Nat.le_of_ble_eq_true rfl) dX11_gusts_155 (by decide)) (fun _ er_2228 => ?_)
            clear hW H locs; intro H locs hW
            replace hW : Wd G A_ s_.heap [(mo, .inr (9, [.ref al, .ref ke, .ref ik, .ref rq, .long ((ktF (nI ((if (crA a k hr (a (26 + k))) = true then 10 - c else 0) + (if (crA (upd (fa_fill a hf 40) (13 + hr % 6) (guW (a (13 + hr % 6)))) k hr (a (26 + k))) = true then c else 0))) 9).1.toInt64), .long ((ktF (nI ((if (crA a k hr (a (26 + k))) = true then 10 - c else 0) + (if (crA (upd (fa_fill a hf 40) (13 + hr % 6) (guW (a (13 + hr % 6)))) k hr (a (26 + k))) = true then c else 0))) 9).2.toInt64), .ref so, .ref ha, .ref te, .ref bt, .int bL, .int tA, .int tL, .int tK, .int tV, .ref an, .ref vs])), (al, .inl (G.2.1, 159, .inl a)), (ha, .inl (G.2.1, 40, .inl (upd (fa_fill a hf 40) (13 + hr % 6) (guW (a (13 + hr % 6))))))] H locs := hW
            refine lv_iconst (v := 1) hx hb dX11_gusts_158 (by decide) ?_
            subst hQ
            exact g_iret (v := 1) C hW hrt ⟨(), by rfl, by rfl⟩ dX11_gusts_159
          refine lv_if_eq (tgt := 145) hx hb dX11_gusts_137 (by decide) (fun c_2225 => ?_) (fun c_2225 => ?_)
          · refine lv_lconst (v := 0) hx hb dX11_gusts_145 (by decide) ?_
            exact J_2227 0 (by first | (simp only [c_2225, if_true, if_false, reduceIte]; done) | (simp [c_2225]; done) | rfl | (rw [if_pos c_2225]; done)) _ _ _ hW (lv_sub hl [0, 1, 2, 3, 4] rfl)
          · refine lv_iload_n hx hb dX11_gusts_140 rfl (lv_at hl 4 rfl) ?_
            refine lv_i2l hx hb dX11_gusts_141 rfl ?_
            refine lv_goto (tgt := 146) hx hb dX11_gusts_142 (by decide) ?_
            exact J_2227 ((nI c).toInt64) (by first | (simp only [c_2225, if_true, if_false, reduceIte]; done) | (simp [c_2225]; done) | rfl | (rw [if_neg c_2225]; done)) _ _ _ hW (lv_sub hl [0, 1, 2, 3, 4] rfl)
        refine lv_if_eq (tgt := 108) hx hb dX11_gusts_97 (by decide) (fun c_2221 => ?_) (fun c_2221 => ?_)
        · refine lv_lconst (v := 0) hx hb dX11_gusts_108 (by decide) ?_
          exact J_2223 0 (by first | (simp only [c_2221, if_true, if_false, reduceIte]; done) | (simp [c_2221]; done) | rfl | (rw [if_pos c_2221]; done)) _ _ _ hW (lv_sub hl [0, 1, 2, 3] rfl)
        · refine lv_bipush (v := 10) hx hb dX11_gusts_100 (by decide) ?_
          refine lv_iload_n hx hb dX11_gusts_102 rfl (lv_at hl 3 rfl) ?_
          refine lv_isub hx hb dX11_gusts_103 ?_
          refine lv_i2l hx hb dX11_gusts_104 rfl ?_
          refine lv_goto (tgt := 109) hx hb dX11_gusts_105 (by decide) ?_
          exact J_2223 ((10 - (nI c)).toInt64) (by first | (simp only [c_2221, if_true, if_false, reduceIte]; done) | (simp [c_2221]; done) | rfl | (rw [if_neg c_2221]; done)) _ _ _ hW (lv_sub hl [0, 1, 2, 3] rfl)
      refine lv_if_ge (tgt := 64) hx hb dX11_gusts_56 (by decide) (fun c_2217 => ?_) (fun c_2217 => ?_)
      · replace c_2217 := Int32.not_lt.mpr c_2217
        refine lv_aload_n hx hb dX11_gusts_64 rfl (lv_at hl 1 rfl) ?_
        refine g_get (k := 0) (v := .ref al) C hW 0 rfl rfl jnX11 (by decide) k_fl_X11_7 rfl dX11_gusts_65 ?_
        refine lv_iload_n hx hb dX11_gusts_68 rfl (lv_at hl 0 rfl) ?_
        refine g_ald C hW 1 rfl (ix_in (show (nI (13 + hr % 6)) = nI (13 + hr % 6) from (by first | rfl | (simp only [nI_lit, nI_add, pk_mul]; done) | (simp only [nI_lit, nI_add, pk_mul]; congr 1; omega))) (by omega) (by omega)) dX11_gusts_69 ?_
        refine lv_as (y := a (13 + hr % 6)) (by rw [show (nI (13 + hr % 6)).toNatClampNeg = (13 + hr % 6) from ix_cl (show (nI (13 + hr % 6)) = nI (13 + hr % 6) from (by first | rfl | (simp only [nI_lit, nI_add, pk_mul]; done) | (simp only [nI_lit, nI_add, pk_mul]; congr 1; omega))) (Nat.lt_of_lt_of_le (m := 159) (by omega) (by omega))]) ?_
        refine lv_iconst (v := 4) hx hb dX11_gusts_70 (by decide) ?_
        refine lv_isub hx hb dX11_gusts_71 ?_
        exact J_2219 ((a (13 + hr % 6)) - 4) (by first | (simp only [c_2217, if_true, if_false, reduceIte]; done) | (simp [c_2217]; done) | rfl | (rw [if_neg c_2217]; done)) _ _ _ hW (lv_sub hl [0, 1, 2, 3] rfl)
      · replace c_2217 := Int32.not_le.mp c_2217
        refine lv_bipush (v := (-4)) hx hb dX11_gusts_59 (by decide) ?_
        refine lv_goto (tgt := 72) hx hb dX11_gusts_61 (by decide) ?_
        exact J_2219 (-4) (by first | (simp only [c_2217, if_true, if_false, reduceIte]; done) | (simp [c_2217]; done) | rfl | (rw [if_pos c_2217]; done)) _ _ _ hW (lv_sub hl [0, 1, 2, 3] rfl)
    · exfalso; exact dd (iw_nI (m := 10) (by omega) (by omega)) c_2214
set_option maxHeartbeats 4000000 in
set_option maxRecDepth 100000 in
theorem c_X11_gusts_bad (l : Launch) (G : gT) (mo al ke ik rq so ha te bt an vs : Nat) (mab mbe : Int64) (bL tA tL tK tV : Int32) (rv : Nat → Int32) (a : Nat → Int32) (n : Nat) (p9 c9 : Int32) (e0 : a 0 = nI n) (hn : n ≤ 7) (hbad : (okp n p9 && iw c9 0 10) = false) : MI l G yX11_gusts cX11_gusts 6 .int ({ frames := 2, cells := 0, slots := 0, locals := 46 }) [.ref mo, .int p9, .int c9] [(mo, .inr (9, [.ref al, .ref ke, .ref ik, .ref rq, .long mab, .long mbe, .ref so, .ref ha, .ref te, .ref bt, .int bL, .int tA, .int tL, .int tK, .int tV, .ref an, .ref vs])), (al, .inl (G.2.1, 159, .inl a)), (rq, .inl (G.2.1, 3, .inl rv))] (fun (r : Int32) w1 => ∃ u_ : Unit, (r = (-2)) ∧ w1 = [(mo, .inr (9, [.ref al, .ref ke, .ref ik, .ref rq, .long mab, .long mbe, .ref so, .ref ha, .ref te, .ref bt, .int bL, .int tA, .int tL, .int tK, .int tV, .ref an, .ref vs])), (al, .inl (G.2.1, 159, .inl a)), (rq, .inl (G.2.1, 3, .inl (upd rv 0 (rv 0 + 1))))]) := by
  refine MI.mk (by decide) (Nat.le_of_ble_eq_true rfl) ?_
  intro p_ e_ s_ m_ ar_ be_ me_ cd_ A_ ls C hrt hW hl
  have hx := C.1; have hb := C.2.1; have hown := C.2.2.2.1; have ht := C.2.2.2.2.1
  replace hl : lv_has ls 6 [(0, .ref mo), (1, .int p9), (2, .int c9)] := hl
  generalize hQ : MQ be_ _ ar_ s_ 0 0 A_ = Q
  refine lv_aload_n hx hb dX11_gusts_0 rfl (lv_at hl 0 rfl) ?_
  refine lv_iload_n hx hb dX11_gusts_1 rfl (lv_at hl 1 rfl) ?_
  refine g_fi C hW [0, 1] rfl (g_runV (As := [.int p9]) (rest := []) (wc := [(mo, .inr (9, [.ref al, .ref ke, .ref ik, .ref rq, .long mab, .long mbe, .ref so, .ref ha, .ref te, .ref bt, .int bL, .int tA, .int tL, .int tK, .int tV, .ref an, .ref vs])), (al, .inl (G.2.1, 159, .inl a))]) (q0 := 0) (ci := 9) C hW hl (c_X11_isPlayer l G mo al ke ik rq so ha te bt an vs mab mbe bL tA tL tK tV a n p9 (by first | assumption | omega) (by first | assumption | omega) _) k_ml_X11_118 q_X11_isPlayer (by decide) [0, 1] rfl rfl rfl rfl rfl rfl (Nat.le_of_ble_eq_true rfl) dX11_gusts_2 (by decide)) (fun r_2230 er_2230 => ?_)
  clear hW; intro H locs hW
  refine lv_as (y := bI (okp n p9)) er_2230 ?_
  clear er_2230 r_2230
  have J_2234 : ∀ (H : Heap) (locs : List Loc) (ls : Array Slot), Wd G A_ s_.heap [(mo, .inr (9, [.ref al, .ref ke, .ref ik, .ref rq, .long mab, .long mbe, .ref so, .ref ha, .ref te, .ref bt, .int bL, .int tA, .int tL, .int tK, .int tV, .ref an, .ref vs])), (al, .inl (G.2.1, 159, .inl a)), (rq, .inl (G.2.1, 3, .inl rv))] H locs → lv_has ls 6 [(0, .ref mo), (1, .int p9), (2, .int c9)] → W p_ l e_ ({ frames := 2, cells := 0, slots := 0, locals := 46 }) s_ m_ ar_ be_ me_ cd_ H locs 0 0 Q (F0 m_ 20 ls []) := by
    intro  H locs ls hW hl
    refine lv_aload_n hx hb dX11_gusts_20 rfl (lv_at hl 0 rfl) ?_
    refine lv_bipush (v := (-2)) hx hb dX11_gusts_21 (by decide) ?_
    refine g_fiw (wr := [(al, .inl (G.2.1, 159, .inl a))]) (ww := fun (u_ : Unit) => [(mo, .inr (9, [.ref al, .ref ke, .ref ik, .ref rq, .long mab, .long mbe, .ref so, .ref ha, .ref te, .ref bt, .int bL, .int tA, .int tL, .int tK, .int tV, .ref an, .ref vs])), (rq, .inl (G.2.1, 3, .inl (upd rv 0 (rv 0 + 1))))]) (w2 := fun (u_ : Unit) => [(mo, .inr (9, [.ref al, .ref ke, .ref ik, .ref rq, .long mab, .long mbe, .ref so, .ref ha, .ref te, .ref bt, .int bL, .int tA, .int tL, .int tK, .int tV, .ref an, .ref vs])), (al, .inl (G.2.1, 159, .inl a)), (rq, .inl (G.2.1, 3, .inl (upd rv 0 (rv 0 + 1))))]) C hW [0, 2] [1] [1, 0, 2] rfl rfl (by decide) (by decide) (by decide) (fun _ => rfl) (g_runV (As := [.int (-2)]) (rest := []) (wc := [(mo, .inr (9, [.ref al, .ref ke, .ref ik, .ref rq, .long mab, .long mbe, .ref so, .ref ha, .ref te, .ref bt, .int bL, .int tA, .int tL, .int tK, .int tV, .ref an, .ref vs])), (rq, .inl (G.2.1, 3, .inl rv))]) (q0 := 0) (ci := 9) C hW hl (c_X11_bad l G mo al ke ik rq so ha te bt an vs mab mbe bL tA tL tK tV rv (-2)  _) k_ml_X11_67 q_X11_bad (by decide) [0, 2] rfl rfl rfl rfl rfl rfl (Nat.le_of_ble_eq_true rfl) dX11_gusts_23 (by decide)) (fun r_2235 _ er_2235 => ?_)
    clear hW H locs; intro H locs hW
    refine lv_as (y := (-2)) er_2235 ?_
    clear er_2235 r_2235
    replace hW : Wd G A_ s_.heap [(mo, .inr (9, [.ref al, .ref ke, .ref ik, .ref rq, .long mab, .long mbe, .ref so, .ref ha, .ref te, .ref bt, .int bL, .int tA, .int tL, .int tK, .int tV, .ref an, .ref vs])), (al, .inl (G.2.1, 159, .inl a)), (rq, .inl (G.2.1, 3, .inl (upd rv 0 (rv 0 + 1))))] H locs := hW
    subst hQ
    exact g_iret (v := (-2)) C hW hrt ⟨(), by rfl, by rfl⟩ dX11_gusts_26
  refine lv_if_eq (tgt := 20) hx hb dX11_gusts_5 (by decide) (fun c_2231 => ?_) (fun c_2231 => ?_)
  · exact J_2234  _ _ _ hW (lv_sub hl [0, 1, 2] rfl)
  · refine lv_iload_n hx hb dX11_gusts_8 rfl (lv_at hl 2 rfl) ?_
    refine lv_i2l hx hb dX11_gusts_9 rfl ?_
    refine lv_lconst (v := 0) hx hb dX11_gusts_10 (by decide) ?_
    refine lv_ldc2 (v := 10) hx hb hown (ht _ k_cg_X11_200) dX11_gusts_11 ?_
    refine g_fi C hW [] rfl (g_runS (As := [.long c9.toInt64, .long 0, .long 10]) (rest := []) (wc := []) C hW hl (c_X11_in l G c9 0 10 0 10 (by first | rfl | decide) (by first | rfl | decide) _) k_ml_X11_53 q_X11_in (by decide) [] rfl rfl rfl rfl (Nat.le_of_ble_eq_true rfl) dX11_gusts_14 (by decide)) (fun r_2237 er_2237 => ?_)
    clear hW H locs; intro H locs hW
    refine lv_as (y := bI (iw c9 0 10)) er_2237 ?_
    clear er_2237 r_2237
    refine lv_if_ne (tgt := 27) hx hb dX11_gusts_17 (by decide) (fun c_2238 => ?_) (fun c_2238 => ?_)
    · exfalso; simp [bI_ne.mp c_2231, bI_ne.mp c_2238, if_true, if_false, reduceIte, Bool.false_eq_true] at hbad
    · exact J_2234  _ _ _ hW (lv_sub hl [0, 1, 2] rfl)
set_option maxHeartbeats 4000000 in
set_option maxRecDepth 100000 in
theorem c_X11_centuries_ok (l : Launch) (G : gT) (mo al ke ik rq so ha te bt an vs : Nat) (mab mbe : Int64) (bL tA tL tK tV : Int32) (a : Nat → Int32) (hf : Nat → Int32) (n hr m9 : Nat) (sd : Int32) (e0 : a 0 = nI n) (hn : n ≤ 7) (e12 : a 12 = nI hr) (hh : hr < 10000) (h1 : iw sd 0 999999 = true) (hm9 : m9 ≤ 60) : MI l G yX11_centuries cX11_centuries 8 .int ({ frames := 4, cells := 0, slots := 0, locals := 94 }) [.ref mo, .int sd, .int (nI m9)] [(mo, .inr (9, [.ref al, .ref ke, .ref ik, .ref rq, .long mab, .long mbe, .ref so, .ref ha, .ref te, .ref bt, .int bL, .int tA, .int tL, .int tK, .int tV, .ref an, .ref vs])), (al, .inl (G.2.1, 159, .inl a)), (ha, .inl (G.2.1, 40, .inl hf))] (fun (r : Int32) w1 => ∃ u_ : Unit, (r = (ctS (fa_fill a hf 40) n hr sd m9).2) ∧ w1 = [(mo, .inr (9, [.ref al, .ref ke, .ref ik, .ref rq, .long mab, .long mbe, .ref so, .ref ha, .ref te, .ref bt, .int bL, .int tA, .int tL, .int tK, .int tV, .ref an, .ref vs])), (al, .inl (G.2.1, 159, .inl a)), (ha, .inl (G.2.1, 40, .inl ((ctS (fa_fill a hf 40) n hr sd m9).1)))]) := by
  refine MI.mk (by decide) (Nat.le_of_ble_eq_true rfl) ?_
  intro p_ e_ s_ m_ ar_ be_ me_ cd_ A_ ls C hrt hW hl
  have hx := C.1; have hb := C.2.1; have hown := C.2.2.2.1; have ht := C.2.2.2.2.1
  replace hl : lv_has ls 8 [(0, .ref mo), (1, .int sd), (2, .int (nI m9))] := hl
  generalize hQ : MQ be_ _ ar_ s_ 0 0 A_ = Q
  refine lv_iload_n hx hb dX11_centuries_0 rfl (lv_at hl 1 rfl) ?_
  refine lv_i2l hx hb dX11_centuries_1 rfl ?_
  refine lv_lconst (v := 0) hx hb dX11_centuries_2 (by decide) ?_
  refine lv_ldc2 (v := 999999) hx hb hown (ht _ k_cg_X11_206) dX11_centuries_3 ?_
  refine g_fi C hW [] rfl (g_runS (As := [.long sd.toInt64, .long 0, .long 999999]) (rest := []) (wc := []) C hW hl (c_X11_in l G sd 0 999999 0 999999 (by first | rfl | decide) (by first | rfl | decide) _) k_ml_X11_53 q_X11_in (by decide) [] rfl rfl rfl rfl (Nat.le_of_ble_eq_true rfl) dX11_centuries_6 (by decide)) (fun r_2239 er_2239 => ?_)
  clear hW; intro H locs hW
  refine lv_as (y := bI (iw sd 0 999999)) er_2239 ?_
  clear er_2239 r_2239
  refine lv_if_eq (tgt := 24) hx hb dX11_centuries_9 (by decide) (fun c_2240 => ?_) (fun c_2240 => ?_)
  · exfalso; exact dd (by first | assumption | exact okp_nI (by omega) (by assumption) | exact decide_eq_true (by first | assumption | omega)) c_2240
  · refine lv_iload_n hx hb dX11_centuries_12 rfl (lv_at hl 2 rfl) ?_
    refine lv_i2l hx hb dX11_centuries_13 rfl ?_
    refine lv_lconst (v := 0) hx hb dX11_centuries_14 (by decide) ?_
    refine lv_ldc2 (v := 60) hx hb hown (ht _ k_cg_X11_208) dX11_centuries_15 ?_
    refine g_fi C hW [] rfl (g_runS (As := [.long ((nI m9).toInt64), .long 0, .long 60]) (rest := []) (wc := []) C hW hl (c_X11_in l G (nI m9) 0 60 0 60 (by first | rfl | decide) (by first | rfl | decide) _) k_ml_X11_53 q_X11_in (by decide) [] rfl rfl rfl rfl (Nat.le_of_ble_eq_true rfl) dX11_centuries_18 (by decide)) (fun r_2241 er_2241 => ?_)
    clear hW H locs; intro H locs hW
    refine lv_as (y := bI (iw (nI m9) 0 60)) er_2241 ?_
    clear er_2241 r_2241
    refine lv_if_ne (tgt := 31) hx hb dX11_centuries_21 (by decide) (fun c_2242 => ?_) (fun c_2242 => ?_)
    · refine lv_iload_n hx hb dX11_centuries_31 rfl (lv_at hl 1 rfl) ?_
      refine lv_i2l hx hb dX11_centuries_32 rfl ?_
      refine lv_lstore_n (lv' := [(3, .long sd.toInt64), (0, .ref mo), (1, .int sd), (2, .int (nI m9))]) hx hb dX11_centuries_33 rfl hl (by decide) rfl ?_
      clear hl ls; intro ls hl
      refine lv_iconst (v := 0) hx hb dX11_centuries_34 (by decide) ?_
      refine lv_istore (lv' := [(5, .int 0), (3, .long sd.toInt64), (0, .ref mo), (1, .int sd), (2, .int (nI m9))]) hx hb dX11_centuries_35 hl (by decide) rfl ?_
      clear hl ls; intro ls hl
      refine lv_aload_n hx hb dX11_centuries_37 rfl (lv_at hl 2 rfl) ?_
      refine g_fvw (wr := []) (ww := fun (u_ : Unit) => [(mo, .inr (9, [.ref al, .ref ke, .ref ik, .ref rq, .long mab, .long mbe, .ref so, .ref ha, .ref te, .ref bt, .int bL, .int tA, .int tL, .int tK, .int tV, .ref an, .ref vs])), (al, .inl (G.2.1, 159, .inl a)), (ha, .inl (G.2.1, 40, .inl (fa_fill a hf 40)))]) (w2 := fun (u_ : Unit) => [(mo, .inr (9, [.ref al, .ref ke, .ref ik, .ref rq, .long mab, .long mbe, .ref so, .ref ha, .ref te, .ref bt, .int bL, .int tA, .int tL, .int tK, .int tV, .ref an, .ref vs])), (al, .inl (G.2.1, 159, .inl a)), (ha, .inl (G.2.1, 40, .inl (fa_fill a hf 40)))]) C hW [0, 1, 2] [] [0, 1, 2] rfl rfl (by decide) (by decide) (by decide) (fun _ => rfl) (g_runV (As := []) (rest := []) (wc := [(mo, .inr (9, [.ref al, .ref ke, .ref ik, .ref rq, .long mab, .long mbe, .ref so, .ref ha, .ref te, .ref bt, .int bL, .int tA, .int tL, .int tK, .int tV, .ref an, .ref vs])), (al, .inl (G.2.1, 159, .inl a)), (ha, .inl (G.2.1, 40, .inl hf))]) (q0 := 0) (ci := 9) C hW hl (c_X11_layHand l G mo al ke ik rq so ha te bt an vs mab mbe bL tA tL tK tV a hf  _) k_ml_X11_157 q_X11_layHand (by decide) [0, 1, 2] rfl rfl rfl rfl rfl rfl (Nat.le_of_ble_eq_true rfl) dX11_centuries_38 (by decide)) (fun _ er_2243 => ?_)
      clear hW H locs; intro H locs hW
      replace hW : Wd G A_ s_.heap [(mo, .inr (9, [.ref al, .ref ke, .ref ik, .ref rq, .long mab, .long mbe, .ref so, .ref ha, .ref te, .ref bt, .int bL, .int tA, .int tL, .int tK, .int tV, .ref an, .ref vs])), (al, .inl (G.2.1, 159, .inl a)), (ha, .inl (G.2.1, 40, .inl (fa_fill a hf 40)))] H locs := hW
      refine lv_iconst (v := 0) hx hb dX11_centuries_41 (by decide) ?_
      refine lv_istore (lv' := [(6, .int 0), (5, .int 0), (3, .long sd.toInt64), (0, .ref mo), (1, .int sd), (2, .int (nI m9))]) hx hb dX11_centuries_42 hl (by decide) rfl ?_
      clear hl ls; intro ls hl
      have K_2245 : ∀ (n_ : Nat) (j : Nat) (x_2246 : Int32) (x_2247 : Int32) (x_2248 : Int64) (g_2249 : Nat → Int32) (_ : x_2246 = nI j) (_ : x_2247 = (ctS (fa_fill a hf 40) n hr sd j).2) (_ : x_2248 = ceX sd j) (_ : g_2249 = (ctS (fa_fill a hf 40) n hr sd j).1) (_ : j ≤ m9) (_ : (ctS (fa_fill a hf 40) n hr sd j).1 12 = nI (hr + j)) (_ : m9 - j < n_) (H : Heap) (locs : List Loc) (ls : Array Slot), Wd G A_ s_.heap [(mo, .inr (9, [.ref al, .ref ke, .ref ik, .ref rq, .long mab, .long mbe, .ref so, .ref ha, .ref te, .ref bt, .int bL, .int tA, .int tL, .int tK, .int tV, .ref an, .ref vs])), (al, .inl (G.2.1, 159, .inl a)), (ha, .inl (G.2.1, 40, .inl g_2249))] H locs → lv_has ls 8 [(6, .int x_2246), (5, .int x_2247), (3, .long x_2248), (0, .ref mo), (1, .int sd), (2, .int (nI m9))] → W p_ l e_ ({ frames := 4, cells := 0, slots := 0, locals := 94 }) s_ m_ ar_ be_ me_ cd_ H locs 0 0 Q (F0 m_ 44 ls []) := by
        intro n_
        induction n_ with
        | zero => intro j x_2246 x_2247 x_2248 g_2249 ex_2246 ex_2247 ex_2248 eg_2249 hj h12 hm_; exact absurd hm_ (Nat.not_lt_zero _)
        | succ n_ ihK_2245 =>
          intro j x_2246 x_2247 x_2248 g_2249 ex_2246 ex_2247 ex_2248 eg_2249 hj h12 hm_ H locs ls hW hl
          subst ex_2246
          subst ex_2247
          subst ex_2248
          subst eg_2249
          refine lv_iload hx hb dX11_centuries_44 (lv_at hl 0 rfl) ?_
          refine lv_iload_n hx hb dX11_centuries_46 rfl (lv_at hl 5 rfl) ?_
          refine lv_icmp_ge (tgt := 166) hx hb dX11_centuries_47 (by decide) (fun c_2250 => ?_) (fun c_2250 => ?_)
          · replace c_2250 := Int32.not_lt.mpr c_2250
            have c_2250n : ¬ j < m9 := fun q => c_2250 ((nI_ltI (a := j) (b := m9) (by omega) (by omega)).mpr q)
            refine lv_iload hx hb dX11_centuries_166 (lv_at hl 1 rfl) ?_
            subst hQ
            exact g_iret (v := ((ctS (fa_fill a hf 40) n hr sd j).2)) C hW hrt ⟨(), by (rw [show j = m9 by omega]), by (rw [show j = m9 by omega])⟩ dX11_centuries_168
          · replace c_2250 := Int32.not_le.mp c_2250
            have c_2250n : j < m9 := (nI_ltI (a := j) (b := m9) (by omega) (by omega)).mp c_2250
            refine lv_lload_n hx hb dX11_centuries_50 rfl (lv_at hl 2 rfl) ?_
            refine lv_ldc2 (v := 1103515245) hx hb hown (ht _ k_cg_X11_210) dX11_centuries_51 ?_
            refine lv_lmul hx hb dX11_centuries_54 ?_
            refine lv_ldc2 (v := 12345) hx hb hown (ht _ k_cg_X11_212) dX11_centuries_55 ?_
            refine lv_ladd hx hb dX11_centuries_58 ?_
            refine lv_ldc2 (v := 2147483648) hx hb hown (ht _ k_cg_X11_214) dX11_centuries_59 ?_
            refine lv_lrem hx hb dX11_centuries_62 (by decide) ?_
            refine lv_asl (y := ceX sd (j + 1)) (rfl) ?_
            refine lv_lstore_n (lv' := [(3, .long (ceX sd (j + 1))), (6, .int (nI j)), (5, .int ((ctS (fa_fill a hf 40) n hr sd j).2)), (0, .ref mo), (1, .int sd), (2, .int (nI m9))]) hx hb dX11_centuries_63 rfl hl (by decide) rfl ?_
            clear hl ls; intro ls hl
            refine lv_lload_n hx hb dX11_centuries_64 rfl (lv_at hl 0 rfl) ?_
            refine lv_ldc2 (v := 65536) hx hb hown (ht _ k_cg_X11_216) dX11_centuries_65 ?_
            refine lv_ldiv hx hb dX11_centuries_68 (by decide) ?_
            refine lv_ldc2 (v := 7) hx hb hown (ht _ k_cg_X11_218) dX11_centuries_69 ?_
            refine lv_lrem hx hb dX11_centuries_72 (by decide) ?_
            refine lv_l2i hx hb dX11_centuries_73 rfl ?_
            refine lv_as (y := cpP (ceX sd (j + 1))) (rfl) ?_
            refine lv_istore (lv' := [(7, .int (cpP (ceX sd (j + 1)))), (3, .long (ceX sd (j + 1))), (6, .int (nI j)), (5, .int ((ctS (fa_fill a hf 40) n hr sd j).2)), (0, .ref mo), (1, .int sd), (2, .int (nI m9))]) hx hb dX11_centuries_74 hl (by decide) rfl ?_
            clear hl ls; intro ls hl
            refine lv_aload_n hx hb dX11_centuries_76 rfl (lv_at hl 4 rfl) ?_
            refine g_get (k := 7) (v := .ref ha) C hW 0 rfl rfl jnX11 (by decide) k_fl_X11_30 rfl dX11_centuries_77 ?_
            refine lv_bipush (v := 9) hx hb dX11_centuries_80 (by decide) ?_
            refine g_ald C hW 2 rfl (vp_in_nI (n := 9) (by omega) (by omega)) dX11_centuries_82 ?_
            refine lv_as (y := ((ctS (fa_fill a hf 40) n hr sd j).1) 9) (rfl) ?_
            have J_2254 : ∀ (g_2253 : Nat → Int32) (_ : g_2253 = (if (((ctS (fa_fill a hf 40) n hr sd j).1) 9) = 0 then upd (upd ((ctS (fa_fill a hf 40) n hr sd j).1) 9 1) 8 (cpH (ceX sd (j + 1))) else (ctS (fa_fill a hf 40) n hr sd j).1)), ∀ (H : Heap) (locs : List Loc) (ls : Array Slot), Wd G A_ s_.heap [(mo, .inr (9, [.ref al, .ref ke, .ref ik, .ref rq, .long mab, .long mbe, .ref so, .ref ha, .ref te, .ref bt, .int bL, .int tA, .int tL, .int tK, .int tV, .ref an, .ref vs])), (al, .inl (G.2.1, 159, .inl a)), (ha, .inl (G.2.1, 40, .inl g_2253))] H locs → lv_has ls 8 [(7, .int (cpP (ceX sd (j + 1)))), (3, .long (ceX sd (j + 1))), (6, .int (nI j)), (5, .int ((ctS (fa_fill a hf 40) n hr sd j).2)), (0, .ref mo), (1, .int sd), (2, .int (nI m9))] → W p_ l e_ ({ frames := 4, cells := 0, slots := 0, locals := 94 }) s_ m_ ar_ be_ me_ cd_ H locs 0 0 Q (F0 m_ 111 ls []) := by
              intro g_2253 eg_2253 H locs ls hW hl
              replace hW : Wd G A_ s_.heap [(mo, .inr (9, [.ref al, .ref ke, .ref ik, .ref rq, .long mab, .long mbe, .ref so, .ref ha, .ref te, .ref bt, .int bL, .int tA, .int tL, .int tK, .int tV, .ref an, .ref vs])), (al, .inl (G.2.1, 159, .inl a)), (ha, .inl (G.2.1, 40, .inl (ctH (ctS (fa_fill a hf 40) n hr sd j).1 (ceX sd (j + 1)))))] H locs := by rw [← (show g_2253 = (ctH (ctS (fa_fill a hf 40) n hr sd j).1 (ceX sd (j + 1))) from by simp only [eg_2253]; rfl)]; exact hW
              refine lv_aload_n hx hb dX11_centuries_111 rfl (lv_at hl 4 rfl) ?_
              refine lv_iload hx hb dX11_centuries_112 (lv_at hl 0 rfl) ?_
              refine g_fi C hW [0, 1] rfl (g_runV (As := [.int (cpP (ceX sd (j + 1)))]) (rest := []) (wc := [(mo, .inr (9, [.ref al, .ref ke, .ref ik, .ref rq, .long mab, .long mbe, .ref so, .ref ha, .ref te, .ref bt, .int bL, .int tA, .int tL, .int tK, .int tV, .ref an, .ref vs])), (al, .inl (G.2.1, 159, .inl a))]) (q0 := 0) (ci := 9) C hW hl (c_X11_isPlayer l G mo al ke ik rq so ha te bt an vs mab mbe bL tA tL tK tV a n (cpP (ceX sd (j + 1))) (by first | assumption | omega) (by first | assumption | omega) _) k_ml_X11_118 q_X11_isPlayer (by decide) [0, 1] rfl rfl rfl rfl rfl rfl (Nat.le_of_ble_eq_true rfl) dX11_centuries_114 (by decide)) (fun r_2255 er_2255 => ?_)
              clear hW H locs; intro H locs hW
              refine lv_as (y := bI (okp n (cpP (ceX sd (j + 1))))) er_2255 ?_
              clear er_2255 r_2255
              refine lv_if_eq (tgt := 149) hx hb dX11_centuries_117 (by decide) (fun c_2256 => ?_) (fun c_2256 => ?_)
              · have hct : ctN n (hr + j) (ceX sd (j + 1)) (ctS (fa_fill a hf 40) n hr sd j) = (upd (ctH (ctS (fa_fill a hf 40) n hr sd j).1 (ceX sd (j + 1))) 12 ((ctH (ctS (fa_fill a hf 40) n hr sd j).1 (ceX sd (j + 1))) 12 + 1), (ctS (fa_fill a hf 40) n hr sd j).2) := by first | exact ctN_f (k := 0) (Or.inl (bI_0.mp c_2256)) | exact ctN_f (Or.inr ⟨show k < 1000 by omega, ek, bI_0.mp c_2256⟩)
                refine lv_aload_n hx hb dX11_centuries_149 rfl (lv_at hl 4 rfl) ?_
                refine g_get (k := 7) (v := .ref ha) C hW 0 rfl rfl jnX11 (by decide) k_fl_X11_30 rfl dX11_centuries_150 ?_
                refine lv_bipush (v := 12) hx hb dX11_centuries_153 (by decide) ?_
                refine lv_dup2_11 hx hb dX11_centuries_155 rfl rfl ?_
                refine g_ald C hW 2 rfl (vp_in_nI (n := 12) (by omega) (by omega)) dX11_centuries_156 ?_
                refine lv_as (y := (ctH (ctS (fa_fill a hf 40) n hr sd j).1 (ceX sd (j + 1))) 12) (rfl) ?_
                refine lv_iconst (v := 1) hx hb dX11_centuries_157 (by decide) ?_
                refine lv_iadd hx hb dX11_centuries_158 ?_
                refine g_ast (w' := [(mo, .inr (9, [.ref al, .ref ke, .ref ik, .ref rq, .long mab, .long mbe, .ref so, .ref ha, .ref te, .ref bt, .int bL, .int tA, .int tL, .int tK, .int tV, .ref an, .ref vs])), (al, .inl (G.2.1, 159, .inl a)), (ha, .inl (G.2.1, 40, .inl (upd (ctH (ctS (fa_fill a hf 40) n hr sd j).1 (ceX sd (j + 1))) 12 (((ctH (ctS (fa_fill a hf 40) n hr sd j).1 (ceX sd (j + 1))) 12) + 1))))]) C hW 2 rfl (vp_in_nI (n := 12) (by omega) (by omega)) (by rw [show (12 : Int32).toNatClampNeg = 12 from rfl]; rfl) dX11_centuries_159 ?_
                clear hW H locs; intro H locs hW
                refine lv_iinc (v := (nI j) + 1) (lv' := [(6, .int ((nI j) + 1)), (7, .int (cpP (ceX sd (j + 1)))), (3, .long (ceX sd (j + 1))), (5, .int ((ctS (fa_fill a hf 40) n hr sd j).2)), (0, .ref mo), (1, .int sd), (2, .int (nI m9))]) hx hb dX11_centuries_160 hl (k := 2) rfl rfl (by decide) rfl ?_
                clear hl ls; intro ls hl
                refine lv_goto (tgt := 44) hx hb dX11_centuries_163 (by decide) ?_
                exact ihK_2245 (j + 1) ((nI j) + 1) ((ctS (fa_fill a hf 40) n hr sd j).2) (ceX sd (j + 1)) (upd (ctH (ctS (fa_fill a hf 40) n hr sd j).1 (ceX sd (j + 1))) 12 (((ctH (ctS (fa_fill a hf 40) n hr sd j).1 (ceX sd (j + 1))) 12) + 1)) (by exact nI_1 _) (by (rw [ctS, hct])) (by exact rfl) (by (rw [ctS, hct])) (by first | omega | assumption | (simp; done)) (by exact ct_12 h12) (by omega) _ _ _ hW (lv_sub hl [0, 3, 2, 4, 5, 6] rfl)
              · obtain ⟨k, hk, ek⟩ := okp_ex (bI_ne.mp c_2256)
                have hok := bI_ne.mp c_2256
                refine lv_aload_n hx hb dX11_centuries_120 rfl (lv_at hl 4 rfl) ?_
                refine g_get (k := 7) (v := .ref ha) C hW 0 rfl rfl jnX11 (by decide) k_fl_X11_30 rfl dX11_centuries_121 ?_
                refine lv_iload hx hb dX11_centuries_124 (lv_at hl 0 rfl) ?_
                refine lv_as (y := nI k) (ek) ?_
                refine g_fi C hW [2] rfl (g_runS (As := [.ref ha, .int (nI k)]) (rest := []) (wc := [(ha, .inl (G.2.1, 40, .inl (ctH (ctS (fa_fill a hf 40) n hr sd j).1 (ceX sd (j + 1)))))]) C hW hl (c_X11_isAt l G ha 40 (ctH (ctS (fa_fill a hf 40) n hr sd j).1 (ceX sd (j + 1))) k (by first | assumption | omega) (by first | assumption | omega) _) k_ml_X11_107 q_X11_isAt (by decide) [2] rfl rfl rfl rfl (Nat.le_of_ble_eq_true rfl) dX11_centuries_126 (by decide)) (fun r_2257 er_2257 => ?_)
                clear hW H locs; intro H locs hW
                refine lv_as (y := bI (atA (ctH (ctS (fa_fill a hf 40) n hr sd j).1 (ceX sd (j + 1))) k)) er_2257 ?_
                clear er_2257 r_2257
                refine lv_if_eq (tgt := 149) hx hb dX11_centuries_129 (by decide) (fun c_2258 => ?_) (fun c_2258 => ?_)
                · have hct : ctN n (hr + j) (ceX sd (j + 1)) (ctS (fa_fill a hf 40) n hr sd j) = (upd (ctH (ctS (fa_fill a hf 40) n hr sd j).1 (ceX sd (j + 1))) 12 ((ctH (ctS (fa_fill a hf 40) n hr sd j).1 (ceX sd (j + 1))) 12 + 1), (ctS (fa_fill a hf 40) n hr sd j).2) := by first | exact ctN_f (k := 0) (Or.inl (bI_0.mp c_2258)) | exact ctN_f (Or.inr ⟨show k < 1000 by omega, ek, bI_0.mp c_2258⟩)
                  refine lv_aload_n hx hb dX11_centuries_149 rfl (lv_at hl 4 rfl) ?_
                  refine g_get (k := 7) (v := .ref ha) C hW 0 rfl rfl jnX11 (by decide) k_fl_X11_30 rfl dX11_centuries_150 ?_
                  refine lv_bipush (v := 12) hx hb dX11_centuries_153 (by decide) ?_
                  refine lv_dup2_11 hx hb dX11_centuries_155 rfl rfl ?_
                  refine g_ald C hW 2 rfl (vp_in_nI (n := 12) (by omega) (by omega)) dX11_centuries_156 ?_
                  refine lv_as (y := (ctH (ctS (fa_fill a hf 40) n hr sd j).1 (ceX sd (j + 1))) 12) (rfl) ?_
                  refine lv_iconst (v := 1) hx hb dX11_centuries_157 (by decide) ?_
                  refine lv_iadd hx hb dX11_centuries_158 ?_
                  refine g_ast (w' := [(mo, .inr (9, [.ref al, .ref ke, .ref ik, .ref rq, .long mab, .long mbe, .ref so, .ref ha, .ref te, .ref bt, .int bL, .int tA, .int tL, .int tK, .int tV, .ref an, .ref vs])), (al, .inl (G.2.1, 159, .inl a)), (ha, .inl (G.2.1, 40, .inl (upd (ctH (ctS (fa_fill a hf 40) n hr sd j).1 (ceX sd (j + 1))) 12 (((ctH (ctS (fa_fill a hf 40) n hr sd j).1 (ceX sd (j + 1))) 12) + 1))))]) C hW 2 rfl (vp_in_nI (n := 12) (by omega) (by omega)) (by rw [show (12 : Int32).toNatClampNeg = 12 from rfl]; rfl) dX11_centuries_159 ?_
                  clear hW H locs; intro H locs hW
                  refine lv_iinc (v := (nI j) + 1) (lv' := [(6, .int ((nI j) + 1)), (7, .int (cpP (ceX sd (j + 1)))), (3, .long (ceX sd (j + 1))), (5, .int ((ctS (fa_fill a hf 40) n hr sd j).2)), (0, .ref mo), (1, .int sd), (2, .int (nI m9))]) hx hb dX11_centuries_160 hl (k := 2) rfl rfl (by decide) rfl ?_
                  clear hl ls; intro ls hl
                  refine lv_goto (tgt := 44) hx hb dX11_centuries_163 (by decide) ?_
                  exact ihK_2245 (j + 1) ((nI j) + 1) ((ctS (fa_fill a hf 40) n hr sd j).2) (ceX sd (j + 1)) (upd (ctH (ctS (fa_fill a hf 40) n hr sd j).1 (ceX sd (j + 1))) 12 (((ctH (ctS (fa_fill a hf 40) n hr sd j).1 (ceX sd (j + 1))) 12) + 1)) (by exact nI_1 _) (by (rw [ctS, hct])) (by exact rfl) (by (rw [ctS, hct])) (by first | omega | assumption | (simp; done)) (by exact ct_12 h12) (by omega) _ _ _ hW (lv_sub hl [0, 3, 2, 4, 5, 6] rfl)
                · have hct := ctN_t (t := hr + j) (P := (ctS (fa_fill a hf 40) n hr sd j)) hok (show k < 1000 by omega) ek (bI_ne.mp c_2258)
                  refine lv_iload hx hb dX11_centuries_132 (lv_at hl 3 rfl) ?_
                  refine lv_aload_n hx hb dX11_centuries_134 rfl (lv_at hl 4 rfl) ?_
                  refine g_get (k := 7) (v := .ref ha) C hW 0 rfl rfl jnX11 (by decide) k_fl_X11_30 rfl dX11_centuries_135 ?_
                  refine lv_iload hx hb dX11_centuries_138 (lv_at hl 0 rfl) ?_
                  refine lv_as (y := nI k) (ek) ?_
                  refine g_fiw (wr := [(mo, .inr (9, [.ref al, .ref ke, .ref ik, .ref rq, .long mab, .long mbe, .ref so, .ref ha, .ref te, .ref bt, .int bL, .int tA, .int tL, .int tK, .int tV, .ref an, .ref vs])), (al, .inl (G.2.1, 159, .inl a))]) (ww := fun (u_ : Unit) => [(ha, .inl (G.2.1, 40, .inl (ghA (ctH (ctS (fa_fill a hf 40) n hr sd j).1 (ceX sd (j + 1))) (crA (ctH (ctS (fa_fill a hf 40) n hr sd j).1 (ceX sd (j + 1))) k (hr + j) ((ctH (ctS (fa_fill a hf 40) n hr sd j).1 (ceX sd (j + 1))) 8)))))]) (w2 := fun (u_ : Unit) => [(mo, .inr (9, [.ref al, .ref ke, .ref ik, .ref rq, .long mab, .long mbe, .ref so, .ref ha, .ref te, .ref bt, .int bL, .int tA, .int tL, .int tK, .int tV, .ref an, .ref vs])), (al, .inl (G.2.1, 159, .inl a)), (ha, .inl (G.2.1, 40, .inl (ghA (ctH (ctS (fa_fill a hf 40) n hr sd j).1 (ceX sd (j + 1))) (crA (ctH (ctS (fa_fill a hf 40) n hr sd j).1 (ceX sd (j + 1))) k (hr + j) ((ctH (ctS (fa_fill a hf 40) n hr sd j).1 (ceX sd (j + 1))) 8)))))]) C hW [2] [0, 1] [0, 1, 2] rfl rfl (by decide) (by decide) (by decide) (fun _ => rfl) (g_runS (As := [.ref ha, .int (nI k)]) (rest := [.int ((ctS (fa_fill a hf 40) n hr sd j).2)]) (wc := [(ha, .inl (G.2.1, 40, .inl (ctH (ctS (fa_fill a hf 40) n hr sd j).1 (ceX sd (j + 1)))))]) C hW hl (c_X11_goHit l G ha 40 (ctH (ctS (fa_fill a hf 40) n hr sd j).1 (ceX sd (j + 1))) k (hr + j) (by first | assumption | omega) (by first | assumption | omega) (by exact ctH_12 h12) (by first | assumption | omega) _) k_ml_X11_130 q_X11_goHit (by decide) [2] rfl rfl rfl rfl (Nat.le_of_ble_eq_true rfl) dX11_centuries_140 (by decide)) (fun r_2259 _ er_2259 => ?_)
                  clear hW H locs; intro H locs hW
                  refine lv_as (y := bI (crA (ctH (ctS (fa_fill a hf 40) n hr sd j).1 (ceX sd (j + 1))) k (hr + j) ((ctH (ctS (fa_fill a hf 40) n hr sd j).1 (ceX sd (j + 1))) 8))) er_2259 ?_
                  clear er_2259 r_2259
                  replace hW : Wd G A_ s_.heap [(mo, .inr (9, [.ref al, .ref ke, .ref ik, .ref rq, .long mab, .long mbe, .ref so, .ref ha, .ref te, .ref bt, .int bL, .int tA, .int tL, .int tK, .int tV, .ref an, .ref vs])), (al, .inl (G.2.1, 159, .inl a)), (ha, .inl (G.2.1, 40, .inl (ghA (ctH (ctS (fa_fill a hf 40) n hr sd j).1 (ceX sd (j + 1))) (crA (ctH (ctS (fa_fill a hf 40) n hr sd j).1 (ceX sd (j + 1))) k (hr + j) ((ctH (ctS (fa_fill a hf 40) n hr sd j).1 (ceX sd (j + 1))) 8)))))] H locs := hW
                  refine lv_iadd hx hb dX11_centuries_143 ?_
                  refine lv_istore (lv' := [(5, .int (((ctS (fa_fill a hf 40) n hr sd j).2) + (bI (crA (ctH (ctS (fa_fill a hf 40) n hr sd j).1 (ceX sd (j + 1))) k (hr + j) ((ctH (ctS (fa_fill a hf 40) n hr sd j).1 (ceX sd (j + 1))) 8))))), (7, .int (cpP (ceX sd (j + 1)))), (3, .long (ceX sd (j + 1))), (6, .int (nI j)), (0, .ref mo), (1, .int sd), (2, .int (nI m9))]) hx hb dX11_centuries_144 hl (by decide) rfl ?_
                  clear hl ls; intro ls hl
                  refine lv_goto (tgt := 160) hx hb dX11_centuries_146 (by decide) ?_
                  refine lv_iinc (v := (nI j) + 1) (lv' := [(6, .int ((nI j) + 1)), (5, .int (((ctS (fa_fill a hf 40) n hr sd j).2) + (bI (crA (ctH (ctS (fa_fill a hf 40) n hr sd j).1 (ceX sd (j + 1))) k (hr + j) ((ctH (ctS (fa_fill a hf 40) n hr sd j).1 (ceX sd (j + 1))) 8))))), (7, .int (cpP (ceX sd (j + 1)))), (3, .long (ceX sd (j + 1))), (0, .ref mo), (1, .int sd), (2, .int (nI m9))]) hx hb dX11_centuries_160 hl (k := 3) rfl rfl (by decide) rfl ?_
                  clear hl ls; intro ls hl
                  refine lv_goto (tgt := 44) hx hb dX11_centuries_163 (by decide) ?_
                  exact ihK_2245 (j + 1) ((nI j) + 1) (((ctS (fa_fill a hf 40) n hr sd j).2) + (bI (crA (ctH (ctS (fa_fill a hf 40) n hr sd j).1 (ceX sd (j + 1))) k (hr + j) ((ctH (ctS (fa_fill a hf 40) n hr sd j).1 (ceX sd (j + 1))) 8)))) (ceX sd (j + 1)) (ghA (ctH (ctS (fa_fill a hf 40) n hr sd j).1 (ceX sd (j + 1))) (crA (ctH (ctS (fa_fill a hf 40) n hr sd j).1 (ceX sd (j + 1))) k (hr + j) ((ctH (ctS (fa_fill a hf 40) n hr sd j).1 (ceX sd (j + 1))) 8))) (by exact nI_1 _) (by (rw [ctS, hct])) (by exact rfl) (by (rw [ctS, hct])) (by first | omega | assumption | (simp; done)) (by exact ct_12 h12) (by omega) _ _ _ hW (lv_sub hl [0, 1, 3, 4, 5, 6] rfl)
            refine lv_if_ne (tgt := 111) hx hb dX11_centuries_83 (by decide) (fun c_2252 => ?_) (fun c_2252 => ?_)
            · exact J_2254 ((ctS (fa_fill a hf 40) n hr sd j).1) (by first | (simp only [c_2252, if_true, if_false, reduceIte]; done) | (simp [c_2252]; done) | rfl | (rw [if_neg c_2252]; done)) _ _ _ hW (lv_sub hl [0, 1, 2, 3, 4, 5, 6] rfl)
            · refine lv_aload_n hx hb dX11_centuries_86 rfl (lv_at hl 4 rfl) ?_
              refine g_get (k := 7) (v := .ref ha) C hW 0 rfl rfl jnX11 (by decide) k_fl_X11_30 rfl dX11_centuries_87 ?_
              refine lv_bipush (v := 9) hx hb dX11_centuries_90 (by decide) ?_
              refine lv_iconst (v := 1) hx hb dX11_centuries_92 (by decide) ?_
              refine g_ast (w' := [(mo, .inr (9, [.ref al, .ref ke, .ref ik, .ref rq, .long mab, .long mbe, .ref so, .ref ha, .ref te, .ref bt, .int bL, .int tA, .int tL, .int tK, .int tV, .ref an, .ref vs])), (al, .inl (G.2.1, 159, .inl a)), (ha, .inl (G.2.1, 40, .inl (upd ((ctS (fa_fill a hf 40) n hr sd j).1) 9 1)))]) C hW 2 rfl (vp_in_nI (n := 9) (by omega) (by omega)) (by rw [show (9 : Int32).toNatClampNeg = 9 from rfl]; rfl) dX11_centuries_93 ?_
              clear hW H locs; intro H locs hW
              refine lv_aload_n hx hb dX11_centuries_94 rfl (lv_at hl 4 rfl) ?_
              refine g_get (k := 7) (v := .ref ha) C hW 0 rfl rfl jnX11 (by decide) k_fl_X11_30 rfl dX11_centuries_95 ?_
              refine lv_bipush (v := 8) hx hb dX11_centuries_98 (by decide) ?_
              refine lv_lload_n hx hb dX11_centuries_100 rfl (lv_at hl 1 rfl) ?_
              refine lv_ldc2 (v := 1048576) hx hb hown (ht _ k_cg_X11_220) dX11_centuries_101 ?_
              refine lv_ldiv hx hb dX11_centuries_104 (by decide) ?_
              refine lv_ldc2 (v := 2) hx hb hown (ht _ k_cg_X11_167) dX11_centuries_105 ?_
              refine lv_lrem hx hb dX11_centuries_108 (by decide) ?_
              refine lv_l2i hx hb dX11_centuries_109 rfl ?_
              refine lv_as (y := cpH (ceX sd (j + 1))) (rfl) ?_
              refine g_ast (w' := [(mo, .inr (9, [.ref al, .ref ke, .ref ik, .ref rq, .long mab, .long mbe, .ref so, .ref ha, .ref te, .ref bt, .int bL, .int tA, .int tL, .int tK, .int tV, .ref an, .ref vs])), (al, .inl (G.2.1, 159, .inl a)), (ha, .inl (G.2.1, 40, .inl (upd (upd ((ctS (fa_fill a hf 40) n hr sd j).1) 9 1) 8 (cpH (ceX sd (j + 1))))))]) C hW 2 rfl (vp_in_nI (n := 8) (by omega) (by omega)) (by rw [show (8 : Int32).toNatClampNeg = 8 from rfl]; rfl) dX11_centuries_110 ?_
              clear hW H locs; intro H locs hW
              exact J_2254 (upd (upd ((ctS (fa_fill a hf 40) n hr sd j).1) 9 1) 8 (cpH (ceX sd (j + 1)))) (by first | (simp only [c_2252, if_true, if_false, reduceIte]; done) | (simp [c_2252]; done) | rfl | (rw [if_pos c_2252]; done)) _ _ _ hW (lv_sub hl [0, 1, 2, 3, 4, 5, 6] rfl)
      exact K_2245 _ 0 0 0 sd.toInt64 (fa_fill a hf 40) (by first | exact rfl | (simp; done)) (by exact rfl) (by exact rfl) (by exact rfl) (by first | omega | assumption | (simp; done)) (by (show fa_fill a hf 40 12 = _; rw [fa_fill_in (by decide)]; exact e12)) (Nat.lt_succ_self _) _ _ _ hW (lv_sub hl [0, 1, 2, 3, 4, 5] rfl)
    · exfalso; exact dd (iw_nI (m := 60) (by omega) (by omega)) c_2242
set_option maxHeartbeats 4000000 in
set_option maxRecDepth 100000 in
theorem c_X11_centuries_bad (l : Launch) (G : gT) (mo al ke ik rq so ha te bt an vs : Nat) (mab mbe : Int64) (bL tA tL tK tV : Int32) (rv : Nat → Int32) (s9 n9 : Int32) (hbad : (iw s9 0 999999 && iw n9 0 60) = false) : MI l G yX11_centuries cX11_centuries 8 .int ({ frames := 1, cells := 0, slots := 0, locals := 25 }) [.ref mo, .int s9, .int n9] [(mo, .inr (9, [.ref al, .ref ke, .ref ik, .ref rq, .long mab, .long mbe, .ref so, .ref ha, .ref te, .ref bt, .int bL, .int tA, .int tL, .int tK, .int tV, .ref an, .ref vs])), (rq, .inl (G.2.1, 3, .inl rv))] (fun (r : Int32) w1 => ∃ u_ : Unit, (r = (-2)) ∧ w1 = [(mo, .inr (9, [.ref al, .ref ke, .ref ik, .ref rq, .long mab, .long mbe, .ref so, .ref ha, .ref te, .ref bt, .int bL, .int tA, .int tL, .int tK, .int tV, .ref an, .ref vs])), (rq, .inl (G.2.1, 3, .inl (upd rv 0 (rv 0 + 1))))]) := by
  refine MI.mk (by decide) (Nat.le_of_ble_eq_true rfl) ?_
  intro p_ e_ s_ m_ ar_ be_ me_ cd_ A_ ls C hrt hW hl
  have hx := C.1; have hb := C.2.1; have hown := C.2.2.2.1; have ht := C.2.2.2.2.1
  replace hl : lv_has ls 8 [(0, .ref mo), (1, .int s9), (2, .int n9)] := hl
  generalize hQ : MQ be_ _ ar_ s_ 0 0 A_ = Q
  refine lv_iload_n hx hb dX11_centuries_0 rfl (lv_at hl 1 rfl) ?_
  refine lv_i2l hx hb dX11_centuries_1 rfl ?_
  refine lv_lconst (v := 0) hx hb dX11_centuries_2 (by decide) ?_
  refine lv_ldc2 (v := 999999) hx hb hown (ht _ k_cg_X11_206) dX11_centuries_3 ?_
  refine g_fi C hW [] rfl (g_runS (As := [.long s9.toInt64, .long 0, .long 999999]) (rest := []) (wc := []) C hW hl (c_X11_in l G s9 0 999999 0 999999 (by first | rfl | decide) (by first | rfl | decide) _) k_ml_X11_53 q_X11_in (by decide) [] rfl rfl rfl rfl (Nat.le_of_ble_eq_true rfl) dX11_centuries_6 (by decide)) (fun r_2261 er_2261 => ?_)
  clear hW; intro H locs hW
  refine lv_as (y := bI (iw s9 0 999999)) er_2261 ?_
  clear er_2261 r_2261
  have J_2265 : ∀ (H : Heap) (locs : List Loc) (ls : Array Slot), Wd G A_ s_.heap [(mo, .inr (9, [.ref al, .ref ke, .ref ik, .ref rq, .long mab, .long mbe, .ref so, .ref ha, .ref te, .ref bt, .int bL, .int tA, .int tL, .int tK, .int tV, .ref an, .ref vs])), (rq, .inl (G.2.1, 3, .inl rv))] H locs → lv_has ls 8 [(0, .ref mo), (1, .int s9), (2, .int n9)] → W p_ l e_ ({ frames := 1, cells := 0, slots := 0, locals := 25 }) s_ m_ ar_ be_ me_ cd_ H locs 0 0 Q (F0 m_ 24 ls []) := by
    intro  H locs ls hW hl
    refine lv_aload_n hx hb dX11_centuries_24 rfl (lv_at hl 0 rfl) ?_
    refine lv_bipush (v := (-2)) hx hb dX11_centuries_25 (by decide) ?_
    refine g_fiw (wr := []) (ww := fun (u_ : Unit) => [(mo, .inr (9, [.ref al, .ref ke, .ref ik, .ref rq, .long mab, .long mbe, .ref so, .ref ha, .ref te, .ref bt, .int bL, .int tA, .int tL, .int tK, .int tV, .ref an, .ref vs])), (rq, .inl (G.2.1, 3, .inl (upd rv 0 (rv 0 + 1))))]) (w2 := fun (u_ : Unit) => [(mo, .inr (9, [.ref al, .ref ke, .ref ik, .ref rq, .long mab, .long mbe, .ref so, .ref ha, .ref te, .ref bt, .int bL, .int tA, .int tL, .int tK, .int tV, .ref an, .ref vs])), (rq, .inl (G.2.1, 3, .inl (upd rv 0 (rv 0 + 1))))]) C hW [0, 1] [] [0, 1] rfl rfl (by decide) (by decide) (by decide) (fun _ => rfl) (g_runV (As := [.int (-2)]) (rest := []) (wc := [(mo, .inr (9, [.ref al, .ref ke, .ref ik, .ref rq, .long mab, .long mbe, .ref so, .ref ha, .ref te, .ref bt, .int bL, .int tA, .int tL, .int tK, .int tV, .ref an, .ref vs])), (rq, .inl (G.2.1, 3, .inl rv))]) (q0 := 0) (ci := 9) C hW hl (c_X11_bad l G mo al ke ik rq so ha te bt an vs mab mbe bL tA tL tK tV rv (-2)  _) k_ml_X11_67 q_X11_bad (by decide) [0, 1] rfl rfl rfl rfl rfl rfl (Nat.le_of_ble_eq_true rfl) dX11_centuries_27 (by decide)) (fun r_2266 _ er_2266 => ?_)
    clear hW H locs; intro H locs hW
    refine lv_as (y := (-2)) er_2266 ?_
    clear er_2266 r_2266
    replace hW : Wd G A_ s_.heap [(mo, .inr (9, [.ref al, .ref ke, .ref ik, .ref rq, .long mab, .long mbe, .ref so, .ref ha, .ref te, .ref bt, .int bL, .int tA, .int tL, .int tK, .int tV, .ref an, .ref vs])), (rq, .inl (G.2.1, 3, .inl (upd rv 0 (rv 0 + 1))))] H locs := hW
    subst hQ
    exact g_iret (v := (-2)) C hW hrt ⟨(), by rfl, by rfl⟩ dX11_centuries_30
  refine lv_if_eq (tgt := 24) hx hb dX11_centuries_9 (by decide) (fun c_2262 => ?_) (fun c_2262 => ?_)
  · exact J_2265  _ _ _ hW (lv_sub hl [0, 1, 2] rfl)
  · refine lv_iload_n hx hb dX11_centuries_12 rfl (lv_at hl 2 rfl) ?_
    refine lv_i2l hx hb dX11_centuries_13 rfl ?_
    refine lv_lconst (v := 0) hx hb dX11_centuries_14 (by decide) ?_
    refine lv_ldc2 (v := 60) hx hb hown (ht _ k_cg_X11_208) dX11_centuries_15 ?_
    refine g_fi C hW [] rfl (g_runS (As := [.long n9.toInt64, .long 0, .long 60]) (rest := []) (wc := []) C hW hl (c_X11_in l G n9 0 60 0 60 (by first | rfl | decide) (by first | rfl | decide) _) k_ml_X11_53 q_X11_in (by decide) [] rfl rfl rfl rfl (Nat.le_of_ble_eq_true rfl) dX11_centuries_18 (by decide)) (fun r_2268 er_2268 => ?_)
    clear hW H locs; intro H locs hW
    refine lv_as (y := bI (iw n9 0 60)) er_2268 ?_
    clear er_2268 r_2268
    refine lv_if_ne (tgt := 31) hx hb dX11_centuries_21 (by decide) (fun c_2269 => ?_) (fun c_2269 => ?_)
    · exfalso; simp [bI_ne.mp c_2262, bI_ne.mp c_2269, if_true, if_false, reduceIte, Bool.false_eq_true] at hbad
    · exact J_2265  _ _ _ hW (lv_sub hl [0, 1, 2] rfl)
