set_option maxHeartbeats 4000000 in
set_option maxRecDepth 100000 in
theorem c_X1_fitsSeen (l : Launch) (G : gT) (v vw vc vp vs vn vm vu : Nat) (wide : Int32) (vpc n : Nat) (pf : Nat → Int32) (ck wd : Nat → Int32) (vsc sn : Nat) (sf : Nat → Int32) (g : Int32) (hn : n ≤ 7) (hP : okP n pf) (hWd : okW wd) (hs : sn ≤ 5) (hS : okS n sn sf) (hg : Rg g 1 9) : MI l G yX1_fitsSeen cX1_fitsSeen 5 .boolean ({ frames := 4, cells := 0, slots := 0, locals := 94 }) [.ref v, .int g] [(v, .inr (7, [.int wide, .ref vw, .ref vc, .ref vp, .ref vs, .ref vn, .ref vm, .ref vu])), (vp, .inr (4, [.int 7, .int 3, .ref vpc, .int (nI n)])), (vpc, .inl (G.2.1, 21, .inl pf)), (vc, .inl (G.2.1, 7, .inl ck)), (vw, .inl (G.2.1, 6, .inl wd)), (vs, .inr (4, [.int 5, .int 3, .ref vsc, .int (nI sn)])), (vsc, .inl (G.2.1, 15, .inl sf))] (fun (r : Int32) w1 => (r = bI (allB (sB wide ck wd pf sf g) sn)) ∧ w1 = [(v, .inr (7, [.int wide, .ref vw, .ref vc, .ref vp, .ref vs, .ref vn, .ref vm, .ref vu])), (vp, .inr (4, [.int 7, .int 3, .ref vpc, .int (nI n)])), (vpc, .inl (G.2.1, 21, .inl pf)), (vc, .inl (G.2.1, 7, .inl ck)), (vw, .inl (G.2.1, 6, .inl wd)), (vs, .inr (4, [.int 5, .int 3, .ref vsc, .int (nI sn)])), (vsc, .inl (G.2.1, 15, .inl sf))]) := by
  refine MI.mk (by decide) (Nat.le_of_ble_eq_true rfl) ?_
  intro p_ e_ s_ m_ ar_ be_ me_ cd_ A_ ls C hrt hW hl
  have hx := C.1; have hb := C.2.1; have hown := C.2.2.2.1; have ht := C.2.2.2.2.1
  replace hl : lv_has ls 5 [(0, .ref v), (1, .int g)] := hl
  generalize hQ : MQ be_ _ ar_ s_ 0 0 A_ = Q
  refine lv_aload_n hx hb dX1_fitsSeen_0 rfl (lv_at hl 0 rfl) ?_
  refine g_getN (k := 4) (v := .ref vs) (host := RX10) C hW 0 rfl rfl jnX9 (by decide) (List.mem_of_getElem? (i := 8) rfl) rfl dX1_fitsSeen_1 ?_
  refine lv_astore_n (lv' := [(2, .ref vs), (0, .ref v), (1, .int g)]) hx hb dX1_fitsSeen_4 rfl hl (by decide) rfl ?_
  clear hl ls; intro ls hl
  refine lv_iconst (v := 0) hx hb dX1_fitsSeen_5 (by decide) ?_
  refine lv_istore_n (lv' := [(3, .int 0), (2, .ref vs), (0, .ref v), (1, .int g)]) hx hb dX1_fitsSeen_6 rfl hl (by decide) rfl ?_
  clear hl ls; intro ls hl
  have K_219 : ∀ (n_ : Nat) (j : Nat) (x_220 : Int32) (_ : x_220 = nI j) (_ : j ≤ sn) (_ : allB (sB wide ck wd pf sf g) j = true) (_ : sn - j < n_) (H : Heap) (locs : List Loc) (ls : Array Slot), Wd G A_ s_.heap [(v, .inr (7, [.int wide, .ref vw, .ref vc, .ref vp, .ref vs, .ref vn, .ref vm, .ref vu])), (vp, .inr (4, [.int 7, .int 3, .ref vpc, .int (nI n)])), (vpc, .inl (G.2.1, 21, .inl pf)), (vc, .inl (G.2.1, 7, .inl ck)), (vw, .inl (G.2.1, 6, .inl wd)), (vs, .inr (4, [.int 5, .int 3, .ref vsc, .int (nI sn)])), (vsc, .inl (G.2.1, 15, .inl sf))] H locs → lv_has ls 5 [(3, .int x_220), (2, .ref vs), (0, .ref v), (1, .int g)] → W p_ l e_ ({ frames := 4, cells := 0, slots := 0, locals := 94 }) s_ m_ ar_ be_ me_ cd_ H locs 0 0 Q (F0 m_ 7 ls []) := by
    intro n_
    induction n_ with
    | zero => intro j x_220 ex_220 hj ha hm_; exact absurd hm_ (Nat.not_lt_zero _)
    | succ n_ ihK_219 =>
      intro j x_220 ex_220 hj ha hm_ H locs ls hW hl
      subst ex_220
      refine lv_iload_n hx hb dX1_fitsSeen_7 rfl (lv_at hl 0 rfl) ?_
      refine lv_aload_n hx hb dX1_fitsSeen_8 rfl (lv_at hl 1 rfl) ?_
      refine g_fi C hW [5] rfl (g_runV (As := []) (rest := [.int (nI j)]) (wc := [(vs, .inr (4, [.int 5, .int 3, .ref vsc, .int (nI sn)]))]) (q0 := 0) (ci := 4) C hW hl (c_X6_size l G vs vsc 5 3 sn  _) k_ml_X1_79 q_X6_size (by decide) [5] rfl rfl rfl rfl rfl rfl (Nat.le_of_ble_eq_true rfl) dX1_fitsSeen_9 (by decide)) (fun r_221 er_221 => ?_)
      clear hW H locs; intro H locs hW
      subst er_221
      refine lv_icmp_ge (tgt := 62) hx hb dX1_fitsSeen_12 (by decide) (fun c_222 => ?_) (fun c_222 => ?_)
      · replace c_222 := Int32.not_lt.mpr c_222
        have c_222n : ¬ j < sn := fun q => c_222 ((nI_ltI (a := j) (b := sn) (by omega) (by omega)).mpr q)
        refine lv_iconst (v := 1) hx hb dX1_fitsSeen_62 (by decide) ?_
        subst hQ
        exact g_zret (v := 1) C hW hrt (by first | rfl | exact bI_nar _ | (simp only [c_222, c_222n]; (repeat' split) <;> rfl)) ⟨by (rw [show sn = j by omega, ha]; rfl), rfl⟩ dX1_fitsSeen_63
      · replace c_222 := Int32.not_le.mp c_222
        have c_222n : j < sn := (nI_ltI (a := j) (b := sn) (by omega) (by omega)).mp c_222
        obtain ⟨kk, tt, hkk, htt, ek, et⟩ := hS j (by omega)
        refine lv_aload_n hx hb dX1_fitsSeen_15 rfl (lv_at hl 2 rfl) ?_
        refine lv_aload_n hx hb dX1_fitsSeen_16 rfl (lv_at hl 1 rfl) ?_
        refine lv_iload_n hx hb dX1_fitsSeen_17 rfl (lv_at hl 0 rfl) ?_
        refine lv_iconst (v := 0) hx hb dX1_fitsSeen_18 (by decide) ?_
        refine g_fi C hW [5, 6] rfl (g_runV (As := [.int (nI j), .int 0]) (rest := [.ref v]) (wc := [(vs, .inr (4, [.int 5, .int 3, .ref vsc, .int (nI sn)])), (vsc, .inl (G.2.1, 15, .inl sf))]) (q0 := 0) (ci := 4) C hW hl (c_X6_cell l G vs vsc 5 3 sn sf j 0 (by first | assumption | omega) (by first | assumption | omega) (by first | assumption | omega) (by first | assumption | omega) _) k_ml_X1_66 q_X6_cell (by decide) [5, 6] rfl rfl rfl rfl rfl rfl (Nat.le_of_ble_eq_true rfl) dX1_fitsSeen_19 (by decide)) (fun r_223 er_223 => ?_)
        clear hW H locs; intro H locs hW
        subst er_223
        refine lv_as (y := nI kk) (ek) ?_
        refine lv_aload_n hx hb dX1_fitsSeen_22 rfl (lv_at hl 1 rfl) ?_
        refine lv_iload_n hx hb dX1_fitsSeen_23 rfl (lv_at hl 0 rfl) ?_
        refine lv_iconst (v := 1) hx hb dX1_fitsSeen_24 (by decide) ?_
        refine g_fi C hW [5, 6] rfl (g_runV (As := [.int (nI j), .int 1]) (rest := [.int (nI kk), .ref v]) (wc := [(vs, .inr (4, [.int 5, .int 3, .ref vsc, .int (nI sn)])), (vsc, .inl (G.2.1, 15, .inl sf))]) (q0 := 0) (ci := 4) C hW hl (c_X6_cell l G vs vsc 5 3 sn sf j 1 (by first | assumption | omega) (by first | assumption | omega) (by first | assumption | omega) (by first | assumption | omega) _) k_ml_X1_66 q_X6_cell (by decide) [5, 6] rfl rfl rfl rfl rfl rfl (Nat.le_of_ble_eq_true rfl) dX1_fitsSeen_25 (by decide)) (fun r_224 er_224 => ?_)
        clear hW H locs; intro H locs hW
        subst er_224
        refine lv_as (y := nI tt) (et) ?_
        refine lv_iload_n hx hb dX1_fitsSeen_28 rfl (lv_at hl 3 rfl) ?_
        refine g_fi C hW [0, 1, 2, 3, 4] rfl (g_runV (As := [.int (nI kk), .int (nI tt), .int g]) (rest := []) (wc := [(v, .inr (7, [.int wide, .ref vw, .ref vc, .ref vp, .ref vs, .ref vn, .ref vm, .ref vu])), (vp, .inr (4, [.int 7, .int 3, .ref vpc, .int (nI n)])), (vpc, .inl (G.2.1, 21, .inl pf)), (vc, .inl (G.2.1, 7, .inl ck)), (vw, .inl (G.2.1, 6, .inl wd))]) (q0 := 0) (ci := 7) C hW hl (c_X9_carriesWeight l G v vw vc vp vs vn vm vu wide vpc n pf ck wd kk tt g (by first | assumption | omega) (by first | assumption | omega) (by omega) (by assumption) (by assumption) (by assumption) _) k_ml_X1_83 q_X9_carriesWeight (by decide) [0, 1, 2, 3, 4] rfl rfl rfl rfl rfl rfl (Nat.le_of_ble_eq_true rfl) dX1_fitsSeen_29 (by decide)) (fun r_225 er_225 => ?_)
        clear hW H locs; intro H locs hW
        subst er_225
        refine lv_istore (lv' := [(4, .int (bI (decide (wide ≤ rch ck wd pf kk tt (pf (kk * 3 + 1)) g)))), (3, .int (nI j)), (2, .ref vs), (0, .ref v), (1, .int g)]) hx hb dX1_fitsSeen_32 hl (by decide) rfl ?_
        clear hl ls; intro ls hl
        refine lv_iload hx hb dX1_fitsSeen_34 (lv_at hl 0 rfl) ?_
        refine lv_aload_n hx hb dX1_fitsSeen_36 rfl (lv_at hl 2 rfl) ?_
        refine lv_iload_n hx hb dX1_fitsSeen_37 rfl (lv_at hl 1 rfl) ?_
        refine lv_iconst (v := 2) hx hb dX1_fitsSeen_38 (by decide) ?_
        refine g_fi C hW [5, 6] rfl (g_runV (As := [.int (nI j), .int 2]) (rest := [.int (bI (decide (wide ≤ rch ck wd pf kk tt (pf (kk * 3 + 1)) g)))]) (wc := [(vs, .inr (4, [.int 5, .int 3, .ref vsc, .int (nI sn)])), (vsc, .inl (G.2.1, 15, .inl sf))]) (q0 := 0) (ci := 4) C hW hl (c_X6_cell l G vs vsc 5 3 sn sf j 2 (by first | assumption | omega) (by first | assumption | omega) (by first | assumption | omega) (by first | assumption | omega) _) k_ml_X1_66 q_X6_cell (by decide) [5, 6] rfl rfl rfl rfl rfl rfl (Nat.le_of_ble_eq_true rfl) dX1_fitsSeen_39 (by decide)) (fun r_226 er_226 => ?_)
        clear hW H locs; intro H locs hW
        subst er_226
        refine lv_iconst (v := 1) hx hb dX1_fitsSeen_42 (by decide) ?_
        have J_229 : ∀ (y_228 : Int32) (_ : y_228 = (if (sf (j * 3 + 2)) = 1 then 1 else 0)), ∀ (H : Heap) (locs : List Loc) (ls : Array Slot), Wd G A_ s_.heap [(v, .inr (7, [.int wide, .ref vw, .ref vc, .ref vp, .ref vs, .ref vn, .ref vm, .ref vu])), (vp, .inr (4, [.int 7, .int 3, .ref vpc, .int (nI n)])), (vpc, .inl (G.2.1, 21, .inl pf)), (vc, .inl (G.2.1, 7, .inl ck)), (vw, .inl (G.2.1, 6, .inl wd)), (vs, .inr (4, [.int 5, .int 3, .ref vsc, .int (nI sn)])), (vsc, .inl (G.2.1, 15, .inl sf))] H locs → lv_has ls 5 [(4, .int (bI (decide (wide ≤ rch ck wd pf kk tt (pf (kk * 3 + 1)) g)))), (3, .int (nI j)), (2, .ref vs), (0, .ref v), (1, .int g)] → W p_ l e_ ({ frames := 4, cells := 0, slots := 0, locals := 94 }) s_ m_ ar_ be_ me_ cd_ H locs 0 0 Q (F0 m_ 51 ls [.int y_228, .int (bI (decide (wide ≤ rch ck wd pf kk tt (pf (kk * 3 + 1)) g)))]) := by
          intro y_228 ey_228 H locs ls hW hl
          refine lv_icmp_eq (tgt := 56) hx hb dX1_fitsSeen_51 (by decide) (fun c_230 => ?_) (fun c_230 => ?_)
          · refine lv_iinc (v := (nI j) + 1) (lv' := [(3, .int ((nI j) + 1)), (4, .int (bI (decide (wide ≤ rch ck wd pf kk tt (pf (kk * 3 + 1)) g)))), (2, .ref vs), (0, .ref v), (1, .int g)]) hx hb dX1_fitsSeen_56 hl (k := 1) rfl rfl (by decide) rfl ?_
            clear hl ls; intro ls hl
            refine lv_goto (tgt := 7) hx hb dX1_fitsSeen_59 (by decide) ?_
            exact ihK_219 (j + 1) ((nI j) + 1) (by first | rfl | assumption | omega | exact nI_1 _ | (simp; done)) (by first | rfl | assumption | omega | exact nI_1 _ | (simp; done)) (by (rw [allB, ha, Bool.true_and, sB, ek, et, nI_clamp (by omega), nI_clamp (by omega)]; exact seen_t c_230 ey_228)) (by omega) _ _ _ hW (lv_sub hl [0, 2, 3, 4] rfl)
          · refine lv_iconst (v := 0) hx hb dX1_fitsSeen_54 (by decide) ?_
            subst hQ
            exact g_zret (v := 0) C hW hrt (by first | rfl | exact bI_nar _ | (simp only [c_222, c_222n, ek, et, ey_228, c_230]; (repeat' split) <;> rfl)) ⟨by (rw [allB_false (show j < sn by omega) (by rw [sB, ek, et, nI_clamp (by omega), nI_clamp (by omega)]; exact seen_f c_230 ey_228)]; rfl), rfl⟩ dX1_fitsSeen_55
        refine lv_icmp_ne (tgt := 50) hx hb dX1_fitsSeen_43 (by decide) (fun c_227 => ?_) (fun c_227 => ?_)
        · refine lv_iconst (v := 0) hx hb dX1_fitsSeen_50 (by decide) ?_
          exact J_229 0 (by first | rfl | (simp only [c_227, if_true, if_false, reduceIte]; done) | (simp [c_227]; done)) _ _ _ hW (lv_sub hl [0, 1, 2, 3, 4] rfl)
        · refine lv_iconst (v := 1) hx hb dX1_fitsSeen_46 (by decide) ?_
          refine lv_goto (tgt := 51) hx hb dX1_fitsSeen_47 (by decide) ?_
          exact J_229 1 (by first | rfl | (simp only [c_227, if_true, if_false, reduceIte]; done) | (simp [c_227]; done)) _ _ _ hW (lv_sub hl [0, 1, 2, 3, 4] rfl)
  exact K_219 _ 0 0 (by first | rfl | assumption | omega | exact nI_1 _ | (simp; done)) (by first | rfl | assumption | omega | exact nI_1 _ | (simp; done)) (by rfl) (Nat.lt_succ_self _) _ _ _ hW (lv_sub hl [0, 1, 2, 3] rfl)
set_option maxHeartbeats 4000000 in
set_option maxRecDepth 100000 in
theorem c_X1_weights (l : Launch) (G : gT) (o_ om : Nat) (v vw vc vp vs vn vm vu : Nat) (wide : Int32) (vpc n : Nat) (pf : Nat → Int32) (ck wd : Nat → Int32) (vsc sn : Nat) (sf : Nat → Int32) (hn : n ≤ 7) (hP : okP n pf) (hWd : okW wd) (hs : sn ≤ 5) (hS : okS n sn sf) : MI l G yX1_weights cX1_weights 4 .int ({ frames := 5, cells := 0, slots := 0, locals := 118 }) [.ref o_, .ref v] [(o_, .inr (0, [.ref om])), (v, .inr (7, [.int wide, .ref vw, .ref vc, .ref vp, .ref vs, .ref vn, .ref vm, .ref vu])), (vp, .inr (4, [.int 7, .int 3, .ref vpc, .int (nI n)])), (vpc, .inl (G.2.1, 21, .inl pf)), (vc, .inl (G.2.1, 7, .inl ck)), (vw, .inl (G.2.1, 6, .inl wd)), (vs, .inr (4, [.int 5, .int 3, .ref vsc, .int (nI sn)])), (vsc, .inl (G.2.1, 15, .inl sf))] (fun (r : Int32) w1 => (r = wts wide ck wd pf sf sn) ∧ w1 = [(o_, .inr (0, [.ref om])), (v, .inr (7, [.int wide, .ref vw, .ref vc, .ref vp, .ref vs, .ref vn, .ref vm, .ref vu])), (vp, .inr (4, [.int 7, .int 3, .ref vpc, .int (nI n)])), (vpc, .inl (G.2.1, 21, .inl pf)), (vc, .inl (G.2.1, 7, .inl ck)), (vw, .inl (G.2.1, 6, .inl wd)), (vs, .inr (4, [.int 5, .int 3, .ref vsc, .int (nI sn)])), (vsc, .inl (G.2.1, 15, .inl sf))]) := by
  refine MI.mk (by decide) (Nat.le_of_ble_eq_true rfl) ?_
  intro p_ e_ s_ m_ ar_ be_ me_ cd_ A_ ls C hrt hW hl
  have hx := C.1; have hb := C.2.1; have hown := C.2.2.2.1; have ht := C.2.2.2.2.1
  replace hl : lv_has ls 4 [(0, .ref o_), (1, .ref v)] := hl
  generalize hQ : MQ be_ _ ar_ s_ 0 0 A_ = Q
  refine lv_iconst (v := 0) hx hb dX1_weights_0 (by decide) ?_
  refine lv_istore_n (lv' := [(2, .int 0), (0, .ref o_), (1, .ref v)]) hx hb dX1_weights_1 rfl hl (by decide) rfl ?_
  clear hl ls; intro ls hl
  refine lv_iconst (v := 1) hx hb dX1_weights_2 (by decide) ?_
  refine lv_istore_n (lv' := [(3, .int 1), (2, .int 0), (0, .ref o_), (1, .ref v)]) hx hb dX1_weights_3 rfl hl (by decide) rfl ?_
  clear hl ls; intro ls hl
  have K_231 : ∀ (n_ : Nat) (j : Nat) (x_232 : Int32) (x_233 : Int32) (_ : x_232 = nI j) (_ : x_233 = orF (fun i => decide (1 ≤ i) && allB (sB wide ck wd pf sf (nI i)) sn) j) (_ : 1 ≤ j ∧ j ≤ 10) (_ : 10 - j < n_) (H : Heap) (locs : List Loc) (ls : Array Slot), Wd G A_ s_.heap [(o_, .inr (0, [.ref om])), (v, .inr (7, [.int wide, .ref vw, .ref vc, .ref vp, .ref vs, .ref vn, .ref vm, .ref vu])), (vp, .inr (4, [.int 7, .int 3, .ref vpc, .int (nI n)])), (vpc, .inl (G.2.1, 21, .inl pf)), (vc, .inl (G.2.1, 7, .inl ck)), (vw, .inl (G.2.1, 6, .inl wd)), (vs, .inr (4, [.int 5, .int 3, .ref vsc, .int (nI sn)])), (vsc, .inl (G.2.1, 15, .inl sf))] H locs → lv_has ls 4 [(3, .int x_232), (2, .int x_233), (0, .ref o_), (1, .ref v)] → W p_ l e_ ({ frames := 5, cells := 0, slots := 0, locals := 118 }) s_ m_ ar_ be_ me_ cd_ H locs 0 0 Q (F0 m_ 4 ls []) := by
    intro n_
    induction n_ with
    | zero => intro j x_232 x_233 ex_232 ex_233 hj hm_; exact absurd hm_ (Nat.not_lt_zero _)
    | succ n_ ihK_231 =>
      intro j x_232 x_233 ex_232 ex_233 hj hm_ H locs ls hW hl
      subst ex_232
      subst ex_233
      refine lv_iload_n hx hb dX1_weights_4 rfl (lv_at hl 0 rfl) ?_
      refine lv_bipush (v := 9) hx hb dX1_weights_5 (by decide) ?_
      refine lv_icmp_gt (tgt := 30) hx hb dX1_weights_7 (by decide) (fun c_234 => ?_) (fun c_234 => ?_)
      · replace c_234 := Int32.not_le.mpr c_234
        have c_234n : ¬ j ≤ 9 := fun q => c_234 ((nI_leI (a := j) (b := 9) (by omega) (by omega)).mpr q)
        refine lv_iload_n hx hb dX1_weights_30 rfl (lv_at hl 1 rfl) ?_
        subst hQ
        exact g_iret (v := (orF (fun i => decide (1 ≤ i) && allB (sB wide ck wd pf sf (nI i)) sn) j)) C hW hrt ⟨by (rw [show j = 10 by omega]; rfl), rfl⟩ dX1_weights_31
      · replace c_234 := Int32.not_lt.mp c_234
        have c_234n : j ≤ 9 := (nI_leI (a := j) (b := 9) (by omega) (by omega)).mp c_234
        refine lv_aload_n hx hb dX1_weights_10 rfl (lv_at hl 3 rfl) ?_
        refine lv_iload_n hx hb dX1_weights_11 rfl (lv_at hl 0 rfl) ?_
        refine g_fi C hW [1, 2, 3, 4, 5, 6, 7] rfl (g_runS (As := [.ref v, .int (nI j)]) (rest := []) (wc := [(v, .inr (7, [.int wide, .ref vw, .ref vc, .ref vp, .ref vs, .ref vn, .ref vm, .ref vu])), (vp, .inr (4, [.int 7, .int 3, .ref vpc, .int (nI n)])), (vpc, .inl (G.2.1, 21, .inl pf)), (vc, .inl (G.2.1, 7, .inl ck)), (vw, .inl (G.2.1, 6, .inl wd)), (vs, .inr (4, [.int 5, .int 3, .ref vsc, .int (nI sn)])), (vsc, .inl (G.2.1, 15, .inl sf))]) C hW hl (c_X1_fitsSeen l G v vw vc vp vs vn vm vu wide vpc n pf ck wd vsc sn sf (nI j) (by first | assumption | omega) (by assumption) (by assumption) (by first | assumption | omega) (by assumption) (by exact Rg_nI (by omega) (by omega) (by omega)) _) k_ml_X1_19 q_X1_fitsSeen (by decide) [1, 2, 3, 4, 5, 6, 7] rfl rfl rfl rfl (Nat.le_of_ble_eq_true rfl) dX1_weights_12 (by decide)) (fun r_236 er_236 => ?_)
        clear hW H locs; intro H locs hW
        subst er_236
        have J_239 : ∀ (x_238 : Int32) (_ : x_238 = (if (bI (allB (sB wide ck wd pf sf (nI j)) sn)) = 0 then orF (fun i => decide (1 ≤ i) && allB (sB wide ck wd pf sf (nI i)) sn) j else (orF (fun i => decide (1 ≤ i) && allB (sB wide ck wd pf sf (nI i)) sn) j) ||| (1 <<< ((nI j) &&& 31)))), ∀ (H : Heap) (locs : List Loc) (ls : Array Slot), Wd G A_ s_.heap [(o_, .inr (0, [.ref om])), (v, .inr (7, [.int wide, .ref vw, .ref vc, .ref vp, .ref vs, .ref vn, .ref vm, .ref vu])), (vp, .inr (4, [.int 7, .int 3, .ref vpc, .int (nI n)])), (vpc, .inl (G.2.1, 21, .inl pf)), (vc, .inl (G.2.1, 7, .inl ck)), (vw, .inl (G.2.1, 6, .inl wd)), (vs, .inr (4, [.int 5, .int 3, .ref vsc, .int (nI sn)])), (vsc, .inl (G.2.1, 15, .inl sf))] H locs → lv_has ls 4 [(3, .int (nI j)), (2, .int x_238), (0, .ref o_), (1, .ref v)] → W p_ l e_ ({ frames := 5, cells := 0, slots := 0, locals := 118 }) s_ m_ ar_ be_ me_ cd_ H locs 0 0 Q (F0 m_ 24 ls []) := by
          intro x_238 ex_238 H locs ls hW hl
          refine lv_iinc (v := (nI j) + 1) (lv' := [(3, .int ((nI j) + 1)), (2, .int x_238), (0, .ref o_), (1, .ref v)]) hx hb dX1_weights_24 hl (k := 0) rfl rfl (by decide) rfl ?_
          clear hl ls; intro ls hl
          refine lv_goto (tgt := 4) hx hb dX1_weights_27 (by decide) ?_
          exact ihK_231 (j + 1) ((nI j) + 1) x_238 (by first | rfl | assumption | omega | exact nI_1 _ | (simp; done)) (by (simp only [ex_238, bstep, orF]; simp [show 1 ≤ j by omega])) (by first | rfl | assumption | omega | exact nI_1 _ | (simp; done)) (by omega) _ _ _ hW (lv_sub hl [0, 1, 2, 3] rfl)
        refine lv_if_eq (tgt := 24) hx hb dX1_weights_15 (by decide) (fun c_237 => ?_) (fun c_237 => ?_)
        · exact J_239 (orF (fun i => decide (1 ≤ i) && allB (sB wide ck wd pf sf (nI i)) sn) j) (by first | rfl | (simp only [c_237, if_true, if_false, reduceIte]; done) | (simp [c_237]; done)) _ _ _ hW (lv_sub hl [0, 1, 2, 3] rfl)
        · refine lv_iload_n hx hb dX1_weights_18 rfl (lv_at hl 1 rfl) ?_
          refine lv_iconst (v := 1) hx hb dX1_weights_19 (by decide) ?_
          refine lv_iload_n hx hb dX1_weights_20 rfl (lv_at hl 0 rfl) ?_
          refine lv_ishl hx hb dX1_weights_21 ?_
          refine lv_ior hx hb dX1_weights_22 ?_
          refine lv_istore_n (lv' := [(2, .int ((orF (fun i => decide (1 ≤ i) && allB (sB wide ck wd pf sf (nI i)) sn) j) ||| (1 <<< ((nI j) &&& 31)))), (3, .int (nI j)), (0, .ref o_), (1, .ref v)]) hx hb dX1_weights_23 rfl hl (by decide) rfl ?_
          clear hl ls; intro ls hl
          exact J_239 ((orF (fun i => decide (1 ≤ i) && allB (sB wide ck wd pf sf (nI i)) sn) j) ||| (1 <<< ((nI j) &&& 31))) (by first | rfl | (simp only [c_237, if_true, if_false, reduceIte]; done) | (simp [c_237]; done)) _ _ _ hW (lv_sub hl [1, 0, 2, 3] rfl)
  exact K_231 _ 1 1 0 (by first | rfl | assumption | omega | exact nI_1 _ | (simp; done)) (by first | rfl | assumption | omega | exact nI_1 _ | (simp; done)) (by first | rfl | assumption | omega | exact nI_1 _ | (simp; done)) (Nat.lt_succ_self _) _ _ _ hW (lv_sub hl [0, 1, 2, 3] rfl)
set_option maxHeartbeats 4000000 in
set_option maxRecDepth 100000 in
theorem c_X1_fitsNotes (l : Launch) (G : gT) (vn vnc nn : Nat) (nf : Nat → Int32) (kind : Int32) (ho : nn ≤ 6) (hO : okN nn nf) : MI l G yX1_fitsNotes cX1_fitsNotes 4 .boolean ({ frames := 2, cells := 0, slots := 0, locals := 38 }) [.ref vn, .int kind] [(vn, .inr (4, [.int 6, .int 4, .ref vnc, .int (nI nn)])), (vnc, .inl (G.2.1, 24, .inl nf))] (fun (r : Int32) w1 => (r = bI (allB (nB nf kind) nn)) ∧ w1 = [(vn, .inr (4, [.int 6, .int 4, .ref vnc, .int (nI nn)])), (vnc, .inl (G.2.1, 24, .inl nf))]) := by
  refine MI.mk (by decide) (Nat.le_of_ble_eq_true rfl) ?_
  intro p_ e_ s_ m_ ar_ be_ me_ cd_ A_ ls C hrt hW hl
  have hx := C.1; have hb := C.2.1; have hown := C.2.2.2.1; have ht := C.2.2.2.2.1
  replace hl : lv_has ls 4 [(0, .ref vn), (1, .int kind)] := hl
  generalize hQ : MQ be_ _ ar_ s_ 0 0 A_ = Q
  refine lv_iconst (v := 0) hx hb dX1_fitsNotes_0 (by decide) ?_
  refine lv_istore_n (lv' := [(2, .int 0), (0, .ref vn), (1, .int kind)]) hx hb dX1_fitsNotes_1 rfl hl (by decide) rfl ?_
  clear hl ls; intro ls hl
  have K_240 : ∀ (n_ : Nat) (j : Nat) (x_241 : Int32) (_ : x_241 = nI j) (_ : j ≤ nn) (_ : allB (nB nf kind) j = true) (_ : nn - j < n_) (H : Heap) (locs : List Loc) (ls : Array Slot), Wd G A_ s_.heap [(vn, .inr (4, [.int 6, .int 4, .ref vnc, .int (nI nn)])), (vnc, .inl (G.2.1, 24, .inl nf))] H locs → lv_has ls 4 [(2, .int x_241), (0, .ref vn), (1, .int kind)] → W p_ l e_ ({ frames := 2, cells := 0, slots := 0, locals := 38 }) s_ m_ ar_ be_ me_ cd_ H locs 0 0 Q (F0 m_ 2 ls []) := by
    intro n_
    induction n_ with
    | zero => intro j x_241 ex_241 hj ha hm_; exact absurd hm_ (Nat.not_lt_zero _)
    | succ n_ ihK_240 =>
      intro j x_241 ex_241 hj ha hm_ H locs ls hW hl
      subst ex_241
      refine lv_iload_n hx hb dX1_fitsNotes_2 rfl (lv_at hl 0 rfl) ?_
      refine lv_aload_n hx hb dX1_fitsNotes_3 rfl (lv_at hl 1 rfl) ?_
      refine g_fi C hW [0] rfl (g_runV (As := []) (rest := [.int (nI j)]) (wc := [(vn, .inr (4, [.int 6, .int 4, .ref vnc, .int (nI nn)]))]) (q0 := 0) (ci := 4) C hW hl (c_X6_size l G vn vnc 6 4 nn  _) k_ml_X1_79 q_X6_size (by decide) [0] rfl rfl rfl rfl rfl rfl (Nat.le_of_ble_eq_true rfl) dX1_fitsNotes_4 (by decide)) (fun r_242 er_242 => ?_)
      clear hW H locs; intro H locs hW
      subst er_242
      refine lv_icmp_ge (tgt := 51) hx hb dX1_fitsNotes_7 (by decide) (fun c_243 => ?_) (fun c_243 => ?_)
      · replace c_243 := Int32.not_lt.mpr c_243
        have c_243n : ¬ j < nn := fun q => c_243 ((nI_ltI (a := j) (b := nn) (by omega) (by omega)).mpr q)
        refine lv_iconst (v := 1) hx hb dX1_fitsNotes_51 (by decide) ?_
        subst hQ
        exact g_zret (v := 1) C hW hrt (by first | rfl | exact bI_nar _ | (simp only [c_243, c_243n]; (repeat' split) <;> rfl)) ⟨by (rw [show nn = j by omega, ha]; rfl), rfl⟩ dX1_fitsNotes_52
      · replace c_243 := Int32.not_le.mp c_243
        have c_243n : j < nn := (nI_ltI (a := j) (b := nn) (by omega) (by omega)).mp c_243
        refine lv_iload_n hx hb dX1_fitsNotes_10 rfl (lv_at hl 2 rfl) ?_
        refine lv_aload_n hx hb dX1_fitsNotes_11 rfl (lv_at hl 1 rfl) ?_
        refine lv_iload_n hx hb dX1_fitsNotes_12 rfl (lv_at hl 0 rfl) ?_
        refine lv_iconst (v := 0) hx hb dX1_fitsNotes_13 (by decide) ?_
        refine g_fi C hW [0, 1] rfl (g_runV (As := [.int (nI j), .int 0]) (rest := [.int kind]) (wc := [(vn, .inr (4, [.int 6, .int 4, .ref vnc, .int (nI nn)])), (vnc, .inl (G.2.1, 24, .inl nf))]) (q0 := 0) (ci := 4) C hW hl (c_X6_cell l G vn vnc 6 4 nn nf j 0 (by first | assumption | omega) (by first | assumption | omega) (by first | assumption | omega) (by first | assumption | omega) _) k_ml_X1_66 q_X6_cell (by decide) [0, 1] rfl rfl rfl rfl rfl rfl (Nat.le_of_ble_eq_true rfl) dX1_fitsNotes_14 (by decide)) (fun r_244 er_244 => ?_)
        clear hW H locs; intro H locs hW
        subst er_244
        refine lv_aload_n hx hb dX1_fitsNotes_17 rfl (lv_at hl 1 rfl) ?_
        refine lv_iload_n hx hb dX1_fitsNotes_18 rfl (lv_at hl 0 rfl) ?_
        refine lv_iconst (v := 1) hx hb dX1_fitsNotes_19 (by decide) ?_
        refine g_fi C hW [0, 1] rfl (g_runV (As := [.int (nI j), .int 1]) (rest := [.int (nf (j * 4 + 0)), .int kind]) (wc := [(vn, .inr (4, [.int 6, .int 4, .ref vnc, .int (nI nn)])), (vnc, .inl (G.2.1, 24, .inl nf))]) (q0 := 0) (ci := 4) C hW hl (c_X6_cell l G vn vnc 6 4 nn nf j 1 (by first | assumption | omega) (by first | assumption | omega) (by first | assumption | omega) (by first | assumption | omega) _) k_ml_X1_66 q_X6_cell (by decide) [0, 1] rfl rfl rfl rfl rfl rfl (Nat.le_of_ble_eq_true rfl) dX1_fitsNotes_20 (by decide)) (fun r_245 er_245 => ?_)
        clear hW H locs; intro H locs hW
        subst er_245
        refine lv_aload_n hx hb dX1_fitsNotes_23 rfl (lv_at hl 1 rfl) ?_
        refine lv_iload_n hx hb dX1_fitsNotes_24 rfl (lv_at hl 0 rfl) ?_
        refine lv_iconst (v := 2) hx hb dX1_fitsNotes_25 (by decide) ?_
        refine g_fi C hW [0, 1] rfl (g_runV (As := [.int (nI j), .int 2]) (rest := [.int (nf (j * 4 + 1)), .int (nf (j * 4 + 0)), .int kind]) (wc := [(vn, .inr (4, [.int 6, .int 4, .ref vnc, .int (nI nn)])), (vnc, .inl (G.2.1, 24, .inl nf))]) (q0 := 0) (ci := 4) C hW hl (c_X6_cell l G vn vnc 6 4 nn nf j 2 (by first | assumption | omega) (by first | assumption | omega) (by first | assumption | omega) (by first | assumption | omega) _) k_ml_X1_66 q_X6_cell (by decide) [0, 1] rfl rfl rfl rfl rfl rfl (Nat.le_of_ble_eq_true rfl) dX1_fitsNotes_26 (by decide)) (fun r_246 er_246 => ?_)
        clear hW H locs; intro H locs hW
        subst er_246
        refine g_fi C hW [] rfl (g_runS (As := [.int kind, .int (nf (j * 4 + 0)), .int (nf (j * 4 + 1)), .int (nf (j * 4 + 2))]) (rest := []) (wc := []) C hW hl (c_X2_flight l G kind (nf (j * 4 + 0)) (nf (j * 4 + 1)) (nf (j * 4 + 2)) (by exact (hO j (by omega)).1) (by exact (hO j (by omega)).2.1) (by exact (hO j (by omega)).2.2) _) k_ml_X1_92 q_X2_flight (by decide) [] rfl rfl rfl rfl (Nat.le_of_ble_eq_true rfl) dX1_fitsNotes_29 (by decide)) (fun r_247 er_247 => ?_)
        clear hW H locs; intro H locs hW
        subst er_247
        refine lv_istore_n (lv' := [(3, .int (fl kind (nf (j * 4 + 0)) (nf (j * 4 + 1)) (nf (j * 4 + 2)))), (2, .int (nI j)), (0, .ref vn), (1, .int kind)]) hx hb dX1_fitsNotes_32 rfl hl (by decide) rfl ?_
        clear hl ls; intro ls hl
        refine lv_iload_n hx hb dX1_fitsNotes_33 rfl (lv_at hl 0 rfl) ?_
        refine lv_aload_n hx hb dX1_fitsNotes_34 rfl (lv_at hl 2 rfl) ?_
        refine lv_iload_n hx hb dX1_fitsNotes_35 rfl (lv_at hl 1 rfl) ?_
        refine lv_iconst (v := 3) hx hb dX1_fitsNotes_36 (by decide) ?_
        refine g_fi C hW [0, 1] rfl (g_runV (As := [.int (nI j), .int 3]) (rest := [.int (fl kind (nf (j * 4 + 0)) (nf (j * 4 + 1)) (nf (j * 4 + 2)))]) (wc := [(vn, .inr (4, [.int 6, .int 4, .ref vnc, .int (nI nn)])), (vnc, .inl (G.2.1, 24, .inl nf))]) (q0 := 0) (ci := 4) C hW hl (c_X6_cell l G vn vnc 6 4 nn nf j 3 (by first | assumption | omega) (by first | assumption | omega) (by first | assumption | omega) (by first | assumption | omega) _) k_ml_X1_66 q_X6_cell (by decide) [0, 1] rfl rfl rfl rfl rfl rfl (Nat.le_of_ble_eq_true rfl) dX1_fitsNotes_37 (by decide)) (fun r_248 er_248 => ?_)
        clear hW H locs; intro H locs hW
        subst er_248
        refine lv_icmp_eq (tgt := 45) hx hb dX1_fitsNotes_40 (by decide) (fun c_249 => ?_) (fun c_249 => ?_)
        · refine lv_iinc (v := (nI j) + 1) (lv' := [(2, .int ((nI j) + 1)), (3, .int (fl kind (nf (j * 4 + 0)) (nf (j * 4 + 1)) (nf (j * 4 + 2)))), (0, .ref vn), (1, .int kind)]) hx hb dX1_fitsNotes_45 hl (k := 1) rfl rfl (by decide) rfl ?_
          clear hl ls; intro ls hl
          refine lv_goto (tgt := 2) hx hb dX1_fitsNotes_48 (by decide) ?_
          exact ihK_240 (j + 1) ((nI j) + 1) (by first | rfl | assumption | omega | exact nI_1 _ | (simp; done)) (by first | rfl | assumption | omega | exact nI_1 _ | (simp; done)) (by (rw [allB, ha, Bool.true_and, nB]; exact decide_eq_true c_249)) (by omega) _ _ _ hW (lv_sub hl [0, 2, 3] rfl)
        · refine lv_iconst (v := 0) hx hb dX1_fitsNotes_43 (by decide) ?_
          subst hQ
          exact g_zret (v := 0) C hW hrt (by first | rfl | exact bI_nar _ | (simp only [c_243, c_243n, c_249]; (repeat' split) <;> rfl)) ⟨by (rw [allB_false (show j < nn by omega) (show nB nf kind j = false from decide_eq_false c_249)]; rfl), rfl⟩ dX1_fitsNotes_44
  exact K_240 _ 0 0 (by first | rfl | assumption | omega | exact nI_1 _ | (simp; done)) (by first | rfl | assumption | omega | exact nI_1 _ | (simp; done)) (by rfl) (Nat.lt_succ_self _) _ _ _ hW (lv_sub hl [0, 1, 2] rfl)
set_option maxHeartbeats 4000000 in
set_option maxRecDepth 100000 in
theorem c_X1_cockKinds (l : Launch) (G : gT) (o_ om : Nat) (v vw vc vp vs vn vm vu : Nat) (wide : Int32) (vnc nn : Nat) (nf : Nat → Int32) (ho : nn ≤ 6) (hO : okN nn nf) : MI l G yX1_cockKinds cX1_cockKinds 4 .int ({ frames := 3, cells := 0, slots := 0, locals := 61 }) [.ref o_, .ref v] [(o_, .inr (0, [.ref om])), (v, .inr (7, [.int wide, .ref vw, .ref vc, .ref vp, .ref vs, .ref vn, .ref vm, .ref vu])), (vn, .inr (4, [.int 6, .int 4, .ref vnc, .int (nI nn)])), (vnc, .inl (G.2.1, 24, .inl nf))] (fun (r : Int32) w1 => (r = orF (fun i => allB (nB nf (nI i)) nn) 6) ∧ w1 = [(o_, .inr (0, [.ref om])), (v, .inr (7, [.int wide, .ref vw, .ref vc, .ref vp, .ref vs, .ref vn, .ref vm, .ref vu])), (vn, .inr (4, [.int 6, .int 4, .ref vnc, .int (nI nn)])), (vnc, .inl (G.2.1, 24, .inl nf))]) := by
  refine MI.mk (by decide) (Nat.le_of_ble_eq_true rfl) ?_
  intro p_ e_ s_ m_ ar_ be_ me_ cd_ A_ ls C hrt hW hl
  have hx := C.1; have hb := C.2.1; have hown := C.2.2.2.1; have ht := C.2.2.2.2.1
  replace hl : lv_has ls 4 [(0, .ref o_), (1, .ref v)] := hl
  generalize hQ : MQ be_ _ ar_ s_ 0 0 A_ = Q
  refine lv_iconst (v := 0) hx hb dX1_cockKinds_0 (by decide) ?_
  refine lv_istore_n (lv' := [(2, .int 0), (0, .ref o_), (1, .ref v)]) hx hb dX1_cockKinds_1 rfl hl (by decide) rfl ?_
  clear hl ls; intro ls hl
  refine lv_iconst (v := 0) hx hb dX1_cockKinds_2 (by decide) ?_
  refine lv_istore_n (lv' := [(3, .int 0), (2, .int 0), (0, .ref o_), (1, .ref v)]) hx hb dX1_cockKinds_3 rfl hl (by decide) rfl ?_
  clear hl ls; intro ls hl
  have K_250 : ∀ (n_ : Nat) (j : Nat) (x_251 : Int32) (x_252 : Int32) (_ : x_251 = nI j) (_ : x_252 = orF (fun i => allB (nB nf (nI i)) nn) j) (_ : 0 ≤ j ∧ j ≤ 6) (_ : 6 - j < n_) (H : Heap) (locs : List Loc) (ls : Array Slot), Wd G A_ s_.heap [(o_, .inr (0, [.ref om])), (v, .inr (7, [.int wide, .ref vw, .ref vc, .ref vp, .ref vs, .ref vn, .ref vm, .ref vu])), (vn, .inr (4, [.int 6, .int 4, .ref vnc, .int (nI nn)])), (vnc, .inl (G.2.1, 24, .inl nf))] H locs → lv_has ls 4 [(3, .int x_251), (2, .int x_252), (0, .ref o_), (1, .ref v)] → W p_ l e_ ({ frames := 3, cells := 0, slots := 0, locals := 61 }) s_ m_ ar_ be_ me_ cd_ H locs 0 0 Q (F0 m_ 4 ls []) := by
    intro n_
    induction n_ with
    | zero => intro j x_251 x_252 ex_251 ex_252 hj hm_; exact absurd hm_ (Nat.not_lt_zero _)
    | succ n_ ihK_250 =>
      intro j x_251 x_252 ex_251 ex_252 hj hm_ H locs ls hW hl
      subst ex_251
      subst ex_252
      refine lv_iload_n hx hb dX1_cockKinds_4 rfl (lv_at hl 0 rfl) ?_
      refine lv_bipush (v := 6) hx hb dX1_cockKinds_5 (by decide) ?_
      refine lv_icmp_ge (tgt := 33) hx hb dX1_cockKinds_7 (by decide) (fun c_253 => ?_) (fun c_253 => ?_)
      · replace c_253 := Int32.not_lt.mpr c_253
        have c_253n : ¬ j < 6 := fun q => c_253 ((nI_ltI (a := j) (b := 6) (by omega) (by omega)).mpr q)
        refine lv_iload_n hx hb dX1_cockKinds_33 rfl (lv_at hl 1 rfl) ?_
        subst hQ
        exact g_iret (v := (orF (fun i => allB (nB nf (nI i)) nn) j)) C hW hrt ⟨by rw [show j = 6 by omega], rfl⟩ dX1_cockKinds_34
      · replace c_253 := Int32.not_le.mp c_253
        have c_253n : j < 6 := (nI_ltI (a := j) (b := 6) (by omega) (by omega)).mp c_253
        refine lv_aload_n hx hb dX1_cockKinds_10 rfl (lv_at hl 3 rfl) ?_
        refine g_getN (k := 5) (v := .ref vn) (host := RX10) C hW 1 rfl rfl jnX9 (by decide) (List.mem_of_getElem? (i := 10) rfl) rfl dX1_cockKinds_11 ?_
        refine lv_iload_n hx hb dX1_cockKinds_14 rfl (lv_at hl 0 rfl) ?_
        refine g_fi C hW [2, 3] rfl (g_runS (As := [.ref vn, .int (nI j)]) (rest := []) (wc := [(vn, .inr (4, [.int 6, .int 4, .ref vnc, .int (nI nn)])), (vnc, .inl (G.2.1, 24, .inl nf))]) C hW hl (c_X1_fitsNotes l G vn vnc nn nf (nI j) (by first | assumption | omega) (by assumption) _) k_ml_X1_37 q_X1_fitsNotes (by decide) [2, 3] rfl rfl rfl rfl (Nat.le_of_ble_eq_true rfl) dX1_cockKinds_15 (by decide)) (fun r_255 er_255 => ?_)
        clear hW H locs; intro H locs hW
        subst er_255
        have J_258 : ∀ (x_257 : Int32) (_ : x_257 = (if (bI (allB (nB nf (nI j)) nn)) = 0 then orF (fun i => allB (nB nf (nI i)) nn) j else (orF (fun i => allB (nB nf (nI i)) nn) j) ||| (1 <<< ((nI j) &&& 31)))), ∀ (H : Heap) (locs : List Loc) (ls : Array Slot), Wd G A_ s_.heap [(o_, .inr (0, [.ref om])), (v, .inr (7, [.int wide, .ref vw, .ref vc, .ref vp, .ref vs, .ref vn, .ref vm, .ref vu])), (vn, .inr (4, [.int 6, .int 4, .ref vnc, .int (nI nn)])), (vnc, .inl (G.2.1, 24, .inl nf))] H locs → lv_has ls 4 [(3, .int (nI j)), (2, .int x_257), (0, .ref o_), (1, .ref v)] → W p_ l e_ ({ frames := 3, cells := 0, slots := 0, locals := 61 }) s_ m_ ar_ be_ me_ cd_ H locs 0 0 Q (F0 m_ 27 ls []) := by
          intro x_257 ex_257 H locs ls hW hl
          refine lv_iinc (v := (nI j) + 1) (lv' := [(3, .int ((nI j) + 1)), (2, .int x_257), (0, .ref o_), (1, .ref v)]) hx hb dX1_cockKinds_27 hl (k := 0) rfl rfl (by decide) rfl ?_
          clear hl ls; intro ls hl
          refine lv_goto (tgt := 4) hx hb dX1_cockKinds_30 (by decide) ?_
          exact ihK_250 (j + 1) ((nI j) + 1) x_257 (by first | rfl | assumption | omega | exact nI_1 _ | (simp; done)) (by (simp only [ex_257, bstep]; rfl)) (by first | rfl | assumption | omega | exact nI_1 _ | (simp; done)) (by omega) _ _ _ hW (lv_sub hl [0, 1, 2, 3] rfl)
        refine lv_if_eq (tgt := 27) hx hb dX1_cockKinds_18 (by decide) (fun c_256 => ?_) (fun c_256 => ?_)
        · exact J_258 (orF (fun i => allB (nB nf (nI i)) nn) j) (by first | rfl | (simp only [c_256, if_true, if_false, reduceIte]; done) | (simp [c_256]; done)) _ _ _ hW (lv_sub hl [0, 1, 2, 3] rfl)
        · refine lv_iload_n hx hb dX1_cockKinds_21 rfl (lv_at hl 1 rfl) ?_
          refine lv_iconst (v := 1) hx hb dX1_cockKinds_22 (by decide) ?_
          refine lv_iload_n hx hb dX1_cockKinds_23 rfl (lv_at hl 0 rfl) ?_
          refine lv_ishl hx hb dX1_cockKinds_24 ?_
          refine lv_ior hx hb dX1_cockKinds_25 ?_
          refine lv_istore_n (lv' := [(2, .int ((orF (fun i => allB (nB nf (nI i)) nn) j) ||| (1 <<< ((nI j) &&& 31)))), (3, .int (nI j)), (0, .ref o_), (1, .ref v)]) hx hb dX1_cockKinds_26 rfl hl (by decide) rfl ?_
          clear hl ls; intro ls hl
          exact J_258 ((orF (fun i => allB (nB nf (nI i)) nn) j) ||| (1 <<< ((nI j) &&& 31))) (by first | rfl | (simp only [c_256, if_true, if_false, reduceIte]; done) | (simp [c_256]; done)) _ _ _ hW (lv_sub hl [1, 0, 2, 3] rfl)
  exact K_250 _ 0 0 0 (by first | rfl | assumption | omega | exact nI_1 _ | (simp; done)) (by first | rfl | assumption | omega | exact nI_1 _ | (simp; done)) (by first | rfl | assumption | omega | exact nI_1 _ | (simp; done)) (Nat.lt_succ_self _) _ _ _ hW (lv_sub hl [0, 1, 2, 3] rfl)
set_option maxHeartbeats 4000000 in
set_option maxRecDepth 100000 in
theorem c_X1_fitsMarks (l : Launch) (G : gT) (vm vmc mn : Nat) (mf : Nat → Int32) (p kind : Int32) (hm : mn ≤ 6) : MI l G yX1_fitsMarks cX1_fitsMarks 5 .boolean ({ frames := 1, cells := 0, slots := 0, locals := 25 }) [.ref vm, .int p, .int kind] [(vm, .inr (4, [.int 6, .int 4, .ref vmc, .int (nI mn)])), (vmc, .inl (G.2.1, 24, .inl mf))] (fun (r : Int32) w1 => (r = bI (allB (mB mf p kind) mn)) ∧ w1 = [(vm, .inr (4, [.int 6, .int 4, .ref vmc, .int (nI mn)])), (vmc, .inl (G.2.1, 24, .inl mf))]) := by
  refine MI.mk (by decide) (Nat.le_of_ble_eq_true rfl) ?_
  intro p_ e_ s_ m_ ar_ be_ me_ cd_ A_ ls C hrt hW hl
  have hx := C.1; have hb := C.2.1; have hown := C.2.2.2.1; have ht := C.2.2.2.2.1
  replace hl : lv_has ls 5 [(0, .ref vm), (1, .int p), (2, .int kind)] := hl
  generalize hQ : MQ be_ _ ar_ s_ 0 0 A_ = Q
  refine lv_iconst (v := 0) hx hb dX1_fitsMarks_0 (by decide) ?_
  refine lv_istore_n (lv' := [(3, .int 0), (0, .ref vm), (1, .int p), (2, .int kind)]) hx hb dX1_fitsMarks_1 rfl hl (by decide) rfl ?_
  clear hl ls; intro ls hl
  have K_259 : ∀ (n_ : Nat) (j : Nat) (x_260 : Int32) (_ : x_260 = nI j) (_ : j ≤ mn) (_ : allB (mB mf p kind) j = true) (_ : mn - j < n_) (H : Heap) (locs : List Loc) (ls : Array Slot), Wd G A_ s_.heap [(vm, .inr (4, [.int 6, .int 4, .ref vmc, .int (nI mn)])), (vmc, .inl (G.2.1, 24, .inl mf))] H locs → lv_has ls 5 [(3, .int x_260), (0, .ref vm), (1, .int p), (2, .int kind)] → W p_ l e_ ({ frames := 1, cells := 0, slots := 0, locals := 25 }) s_ m_ ar_ be_ me_ cd_ H locs 0 0 Q (F0 m_ 2 ls []) := by
    intro n_
    induction n_ with
    | zero => intro j x_260 ex_260 hj ha hm_; exact absurd hm_ (Nat.not_lt_zero _)
    | succ n_ ihK_259 =>
      intro j x_260 ex_260 hj ha hm_ H locs ls hW hl
      subst ex_260
      refine lv_iload_n hx hb dX1_fitsMarks_2 rfl (lv_at hl 0 rfl) ?_
      refine lv_aload_n hx hb dX1_fitsMarks_3 rfl (lv_at hl 1 rfl) ?_
      refine g_fi C hW [0] rfl (g_runV (As := []) (rest := [.int (nI j)]) (wc := [(vm, .inr (4, [.int 6, .int 4, .ref vmc, .int (nI mn)]))]) (q0 := 0) (ci := 4) C hW hl (c_X6_size l G vm vmc 6 4 mn  _) k_ml_X1_79 q_X6_size (by decide) [0] rfl rfl rfl rfl rfl rfl (Nat.le_of_ble_eq_true rfl) dX1_fitsMarks_4 (by decide)) (fun r_261 er_261 => ?_)
      clear hW H locs; intro H locs hW
      subst er_261
      refine lv_icmp_ge (tgt := 57) hx hb dX1_fitsMarks_7 (by decide) (fun c_262 => ?_) (fun c_262 => ?_)
      · replace c_262 := Int32.not_lt.mpr c_262
        have c_262n : ¬ j < mn := fun q => c_262 ((nI_ltI (a := j) (b := mn) (by omega) (by omega)).mpr q)
        refine lv_iconst (v := 1) hx hb dX1_fitsMarks_57 (by decide) ?_
        subst hQ
        exact g_zret (v := 1) C hW hrt (by first | rfl | exact bI_nar _ | (simp only [c_262, c_262n]; (repeat' split) <;> rfl)) ⟨by (rw [show mn = j by omega, ha]; rfl), rfl⟩ dX1_fitsMarks_58
      · replace c_262 := Int32.not_le.mp c_262
        have c_262n : j < mn := (nI_ltI (a := j) (b := mn) (by omega) (by omega)).mp c_262
        refine lv_iload_n hx hb dX1_fitsMarks_10 rfl (lv_at hl 3 rfl) ?_
        refine lv_aload_n hx hb dX1_fitsMarks_11 rfl (lv_at hl 1 rfl) ?_
        refine lv_iload_n hx hb dX1_fitsMarks_12 rfl (lv_at hl 0 rfl) ?_
        refine lv_iconst (v := 1) hx hb dX1_fitsMarks_13 (by decide) ?_
        refine g_fi C hW [0, 1] rfl (g_runV (As := [.int (nI j), .int 1]) (rest := [.int kind]) (wc := [(vm, .inr (4, [.int 6, .int 4, .ref vmc, .int (nI mn)])), (vmc, .inl (G.2.1, 24, .inl mf))]) (q0 := 0) (ci := 4) C hW hl (c_X6_cell l G vm vmc 6 4 mn mf j 1 (by first | assumption | omega) (by first | assumption | omega) (by first | assumption | omega) (by first | assumption | omega) _) k_ml_X1_66 q_X6_cell (by decide) [0, 1] rfl rfl rfl rfl rfl rfl (Nat.le_of_ble_eq_true rfl) dX1_fitsMarks_14 (by decide)) (fun r_263 er_263 => ?_)
        clear hW H locs; intro H locs hW
        subst er_263
        refine lv_aload_n hx hb dX1_fitsMarks_17 rfl (lv_at hl 1 rfl) ?_
        refine lv_iload_n hx hb dX1_fitsMarks_18 rfl (lv_at hl 0 rfl) ?_
        refine lv_iconst (v := 2) hx hb dX1_fitsMarks_19 (by decide) ?_
        refine g_fi C hW [0, 1] rfl (g_runV (As := [.int (nI j), .int 2]) (rest := [.int (mf (j * 4 + 1)), .int kind]) (wc := [(vm, .inr (4, [.int 6, .int 4, .ref vmc, .int (nI mn)])), (vmc, .inl (G.2.1, 24, .inl mf))]) (q0 := 0) (ci := 4) C hW hl (c_X6_cell l G vm vmc 6 4 mn mf j 2 (by first | assumption | omega) (by first | assumption | omega) (by first | assumption | omega) (by first | assumption | omega) _) k_ml_X1_66 q_X6_cell (by decide) [0, 1] rfl rfl rfl rfl rfl rfl (Nat.le_of_ble_eq_true rfl) dX1_fitsMarks_20 (by decide)) (fun r_264 er_264 => ?_)
        clear hW H locs; intro H locs hW
        subst er_264
        refine g_fi C hW [] rfl (g_runS (As := [.int kind, .int (mf (j * 4 + 1)), .int (mf (j * 4 + 2))]) (rest := []) (wc := []) C hW hl (c_X2_blow l G kind (mf (j * 4 + 1)) (mf (j * 4 + 2))  _) k_ml_X1_95 q_X2_blow (by decide) [] rfl rfl rfl rfl (Nat.le_of_ble_eq_true rfl) dX1_fitsMarks_23 (by decide)) (fun r_265 er_265 => ?_)
        clear hW H locs; intro H locs hW
        subst er_265
        refine lv_istore (lv' := [(4, .int (bl kind (mf (j * 4 + 1)) (mf (j * 4 + 2)))), (3, .int (nI j)), (0, .ref vm), (1, .int p), (2, .int kind)]) hx hb dX1_fitsMarks_26 hl (by decide) rfl ?_
        clear hl ls; intro ls hl
        refine lv_aload_n hx hb dX1_fitsMarks_28 rfl (lv_at hl 2 rfl) ?_
        refine lv_iload_n hx hb dX1_fitsMarks_29 rfl (lv_at hl 1 rfl) ?_
        refine lv_iconst (v := 0) hx hb dX1_fitsMarks_30 (by decide) ?_
        refine g_fi C hW [0, 1] rfl (g_runV (As := [.int (nI j), .int 0]) (rest := []) (wc := [(vm, .inr (4, [.int 6, .int 4, .ref vmc, .int (nI mn)])), (vmc, .inl (G.2.1, 24, .inl mf))]) (q0 := 0) (ci := 4) C hW hl (c_X6_cell l G vm vmc 6 4 mn mf j 0 (by first | assumption | omega) (by first | assumption | omega) (by first | assumption | omega) (by first | assumption | omega) _) k_ml_X1_66 q_X6_cell (by decide) [0, 1] rfl rfl rfl rfl rfl rfl (Nat.le_of_ble_eq_true rfl) dX1_fitsMarks_31 (by decide)) (fun r_266 er_266 => ?_)
        clear hW H locs; intro H locs hW
        subst er_266
        refine lv_iload_n hx hb dX1_fitsMarks_34 rfl (lv_at hl 3 rfl) ?_
        refine lv_icmp_ne (tgt := 51) hx hb dX1_fitsMarks_35 (by decide) (fun c_267 => ?_) (fun c_267 => ?_)
        · refine lv_iinc (v := (nI j) + 1) (lv' := [(3, .int ((nI j) + 1)), (4, .int (bl kind (mf (j * 4 + 1)) (mf (j * 4 + 2)))), (0, .ref vm), (1, .int p), (2, .int kind)]) hx hb dX1_fitsMarks_51 hl (k := 1) rfl rfl (by decide) rfl ?_
          clear hl ls; intro ls hl
          refine lv_goto (tgt := 2) hx hb dX1_fitsMarks_54 (by decide) ?_
          exact ihK_259 (j + 1) ((nI j) + 1) (by first | rfl | assumption | omega | exact nI_1 _ | (simp; done)) (by first | rfl | assumption | omega | exact nI_1 _ | (simp; done)) (by (rw [allB, ha, Bool.true_and]; first | exact mB_t (Or.inl c_267) | exact mB_t (Or.inr c_267))) (by omega) _ _ _ hW (lv_sub hl [0, 2, 3, 4] rfl)
        · refine lv_iload hx hb dX1_fitsMarks_38 (lv_at hl 0 rfl) ?_
          refine lv_aload_n hx hb dX1_fitsMarks_40 rfl (lv_at hl 2 rfl) ?_
          refine lv_iload_n hx hb dX1_fitsMarks_41 rfl (lv_at hl 1 rfl) ?_
          refine lv_iconst (v := 3) hx hb dX1_fitsMarks_42 (by decide) ?_
          refine g_fi C hW [0, 1] rfl (g_runV (As := [.int (nI j), .int 3]) (rest := [.int (bl kind (mf (j * 4 + 1)) (mf (j * 4 + 2)))]) (wc := [(vm, .inr (4, [.int 6, .int 4, .ref vmc, .int (nI mn)])), (vmc, .inl (G.2.1, 24, .inl mf))]) (q0 := 0) (ci := 4) C hW hl (c_X6_cell l G vm vmc 6 4 mn mf j 3 (by first | assumption | omega) (by first | assumption | omega) (by first | assumption | omega) (by first | assumption | omega) _) k_ml_X1_66 q_X6_cell (by decide) [0, 1] rfl rfl rfl rfl rfl rfl (Nat.le_of_ble_eq_true rfl) dX1_fitsMarks_43 (by decide)) (fun r_268 er_268 => ?_)
          clear hW H locs; intro H locs hW
          subst er_268
          refine lv_icmp_eq (tgt := 51) hx hb dX1_fitsMarks_46 (by decide) (fun c_269 => ?_) (fun c_269 => ?_)
          · refine lv_iinc (v := (nI j) + 1) (lv' := [(3, .int ((nI j) + 1)), (4, .int (bl kind (mf (j * 4 + 1)) (mf (j * 4 + 2)))), (0, .ref vm), (1, .int p), (2, .int kind)]) hx hb dX1_fitsMarks_51 hl (k := 1) rfl rfl (by decide) rfl ?_
            clear hl ls; intro ls hl
            refine lv_goto (tgt := 2) hx hb dX1_fitsMarks_54 (by decide) ?_
            exact ihK_259 (j + 1) ((nI j) + 1) (by first | rfl | assumption | omega | exact nI_1 _ | (simp; done)) (by first | rfl | assumption | omega | exact nI_1 _ | (simp; done)) (by (rw [allB, ha, Bool.true_and]; first | exact mB_t (Or.inl c_269) | exact mB_t (Or.inr c_269))) (by omega) _ _ _ hW (lv_sub hl [0, 2, 3, 4] rfl)
          · refine lv_iconst (v := 0) hx hb dX1_fitsMarks_49 (by decide) ?_
            subst hQ
            exact g_zret (v := 0) C hW hrt (by first | rfl | exact bI_nar _ | (simp only [c_262, c_262n, c_267, c_269]; (repeat' split) <;> rfl)) ⟨by (rw [allB_false (show j < mn by omega) (mB_f c_267 c_269)]; rfl), rfl⟩ dX1_fitsMarks_50
  exact K_259 _ 0 0 (by first | rfl | assumption | omega | exact nI_1 _ | (simp; done)) (by first | rfl | assumption | omega | exact nI_1 _ | (simp; done)) (by rfl) (Nat.lt_succ_self _) _ _ _ hW (lv_sub hl [0, 1, 2, 3] rfl)
set_option maxHeartbeats 4000000 in
set_option maxRecDepth 100000 in
theorem c_X1_playerKinds (l : Launch) (G : gT) (o_ om : Nat) (v vw vc vp vs vn vm vu : Nat) (wide : Int32) (vmc mn : Nat) (mf : Nat → Int32) (p : Int32) (hm : mn ≤ 6) : MI l G yX1_playerKinds cX1_playerKinds 5 .int ({ frames := 2, cells := 0, slots := 0, locals := 49 }) [.ref o_, .ref v, .int p] [(o_, .inr (0, [.ref om])), (v, .inr (7, [.int wide, .ref vw, .ref vc, .ref vp, .ref vs, .ref vn, .ref vm, .ref vu])), (vm, .inr (4, [.int 6, .int 4, .ref vmc, .int (nI mn)])), (vmc, .inl (G.2.1, 24, .inl mf))] (fun (r : Int32) w1 => (r = orF (fun i => allB (mB mf p (nI i)) mn) 6) ∧ w1 = [(o_, .inr (0, [.ref om])), (v, .inr (7, [.int wide, .ref vw, .ref vc, .ref vp, .ref vs, .ref vn, .ref vm, .ref vu])), (vm, .inr (4, [.int 6, .int 4, .ref vmc, .int (nI mn)])), (vmc, .inl (G.2.1, 24, .inl mf))]) := by
  refine MI.mk (by decide) (Nat.le_of_ble_eq_true rfl) ?_
  intro p_ e_ s_ m_ ar_ be_ me_ cd_ A_ ls C hrt hW hl
  have hx := C.1; have hb := C.2.1; have hown := C.2.2.2.1; have ht := C.2.2.2.2.1
  replace hl : lv_has ls 5 [(0, .ref o_), (1, .ref v), (2, .int p)] := hl
  generalize hQ : MQ be_ _ ar_ s_ 0 0 A_ = Q
  refine lv_iconst (v := 0) hx hb dX1_playerKinds_0 (by decide) ?_
  refine lv_istore_n (lv' := [(3, .int 0), (0, .ref o_), (1, .ref v), (2, .int p)]) hx hb dX1_playerKinds_1 rfl hl (by decide) rfl ?_
  clear hl ls; intro ls hl
  refine lv_iconst (v := 0) hx hb dX1_playerKinds_2 (by decide) ?_
  refine lv_istore (lv' := [(4, .int 0), (3, .int 0), (0, .ref o_), (1, .ref v), (2, .int p)]) hx hb dX1_playerKinds_3 hl (by decide) rfl ?_
  clear hl ls; intro ls hl
  have K_270 : ∀ (n_ : Nat) (j : Nat) (x_271 : Int32) (x_272 : Int32) (_ : x_271 = nI j) (_ : x_272 = orF (fun i => allB (mB mf p (nI i)) mn) j) (_ : 0 ≤ j ∧ j ≤ 6) (_ : 6 - j < n_) (H : Heap) (locs : List Loc) (ls : Array Slot), Wd G A_ s_.heap [(o_, .inr (0, [.ref om])), (v, .inr (7, [.int wide, .ref vw, .ref vc, .ref vp, .ref vs, .ref vn, .ref vm, .ref vu])), (vm, .inr (4, [.int 6, .int 4, .ref vmc, .int (nI mn)])), (vmc, .inl (G.2.1, 24, .inl mf))] H locs → lv_has ls 5 [(4, .int x_271), (3, .int x_272), (0, .ref o_), (1, .ref v), (2, .int p)] → W p_ l e_ ({ frames := 2, cells := 0, slots := 0, locals := 49 }) s_ m_ ar_ be_ me_ cd_ H locs 0 0 Q (F0 m_ 5 ls []) := by
    intro n_
    induction n_ with
    | zero => intro j x_271 x_272 ex_271 ex_272 hj hm_; exact absurd hm_ (Nat.not_lt_zero _)
    | succ n_ ihK_270 =>
      intro j x_271 x_272 ex_271 ex_272 hj hm_ H locs ls hW hl
      subst ex_271
      subst ex_272
      refine lv_iload hx hb dX1_playerKinds_5 (lv_at hl 0 rfl) ?_
      refine lv_bipush (v := 6) hx hb dX1_playerKinds_7 (by decide) ?_
      refine lv_icmp_ge (tgt := 38) hx hb dX1_playerKinds_9 (by decide) (fun c_273 => ?_) (fun c_273 => ?_)
      · replace c_273 := Int32.not_lt.mpr c_273
        have c_273n : ¬ j < 6 := fun q => c_273 ((nI_ltI (a := j) (b := 6) (by omega) (by omega)).mpr q)
        refine lv_iload_n hx hb dX1_playerKinds_38 rfl (lv_at hl 1 rfl) ?_
        subst hQ
        exact g_iret (v := (orF (fun i => allB (mB mf p (nI i)) mn) j)) C hW hrt ⟨by rw [show j = 6 by omega], rfl⟩ dX1_playerKinds_39
      · replace c_273 := Int32.not_le.mp c_273
        have c_273n : j < 6 := (nI_ltI (a := j) (b := 6) (by omega) (by omega)).mp c_273
        refine lv_aload_n hx hb dX1_playerKinds_12 rfl (lv_at hl 3 rfl) ?_
        refine g_getN (k := 6) (v := .ref vm) (host := RX10) C hW 1 rfl rfl jnX9 (by decide) (List.mem_of_getElem? (i := 12) rfl) rfl dX1_playerKinds_13 ?_
        refine lv_iload_n hx hb dX1_playerKinds_16 rfl (lv_at hl 4 rfl) ?_
        refine lv_iload hx hb dX1_playerKinds_17 (lv_at hl 0 rfl) ?_
        refine g_fi C hW [2, 3] rfl (g_runS (As := [.ref vm, .int p, .int (nI j)]) (rest := []) (wc := [(vm, .inr (4, [.int 6, .int 4, .ref vmc, .int (nI mn)])), (vmc, .inl (G.2.1, 24, .inl mf))]) C hW hl (c_X1_fitsMarks l G vm vmc mn mf p (nI j) (by first | assumption | omega) _) k_ml_X1_55 q_X1_fitsMarks (by decide) [2, 3] rfl rfl rfl rfl (Nat.le_of_ble_eq_true rfl) dX1_playerKinds_19 (by decide)) (fun r_275 er_275 => ?_)
        clear hW H locs; intro H locs hW
        subst er_275
        have J_278 : ∀ (x_277 : Int32) (_ : x_277 = (if (bI (allB (mB mf p (nI j)) mn)) = 0 then orF (fun i => allB (mB mf p (nI i)) mn) j else (orF (fun i => allB (mB mf p (nI i)) mn) j) ||| (1 <<< ((nI j) &&& 31)))), ∀ (H : Heap) (locs : List Loc) (ls : Array Slot), Wd G A_ s_.heap [(o_, .inr (0, [.ref om])), (v, .inr (7, [.int wide, .ref vw, .ref vc, .ref vp, .ref vs, .ref vn, .ref vm, .ref vu])), (vm, .inr (4, [.int 6, .int 4, .ref vmc, .int (nI mn)])), (vmc, .inl (G.2.1, 24, .inl mf))] H locs → lv_has ls 5 [(4, .int (nI j)), (3, .int x_277), (0, .ref o_), (1, .ref v), (2, .int p)] → W p_ l e_ ({ frames := 2, cells := 0, slots := 0, locals := 49 }) s_ m_ ar_ be_ me_ cd_ H locs 0 0 Q (F0 m_ 32 ls []) := by
          intro x_277 ex_277 H locs ls hW hl
          refine lv_iinc (v := (nI j) + 1) (lv' := [(4, .int ((nI j) + 1)), (3, .int x_277), (0, .ref o_), (1, .ref v), (2, .int p)]) hx hb dX1_playerKinds_32 hl (k := 0) rfl rfl (by decide) rfl ?_
          clear hl ls; intro ls hl
          refine lv_goto (tgt := 5) hx hb dX1_playerKinds_35 (by decide) ?_
          exact ihK_270 (j + 1) ((nI j) + 1) x_277 (by first | rfl | assumption | omega | exact nI_1 _ | (simp; done)) (by (simp only [ex_277, bstep]; rfl)) (by first | rfl | assumption | omega | exact nI_1 _ | (simp; done)) (by omega) _ _ _ hW (lv_sub hl [0, 1, 2, 3, 4] rfl)
        refine lv_if_eq (tgt := 32) hx hb dX1_playerKinds_22 (by decide) (fun c_276 => ?_) (fun c_276 => ?_)
        · exact J_278 (orF (fun i => allB (mB mf p (nI i)) mn) j) (by first | rfl | (simp only [c_276, if_true, if_false, reduceIte]; done) | (simp [c_276]; done)) _ _ _ hW (lv_sub hl [0, 1, 2, 3, 4] rfl)
        · refine lv_iload_n hx hb dX1_playerKinds_25 rfl (lv_at hl 1 rfl) ?_
          refine lv_iconst (v := 1) hx hb dX1_playerKinds_26 (by decide) ?_
          refine lv_iload hx hb dX1_playerKinds_27 (lv_at hl 0 rfl) ?_
          refine lv_ishl hx hb dX1_playerKinds_29 ?_
          refine lv_ior hx hb dX1_playerKinds_30 ?_
          refine lv_istore_n (lv' := [(3, .int ((orF (fun i => allB (mB mf p (nI i)) mn) j) ||| (1 <<< ((nI j) &&& 31)))), (4, .int (nI j)), (0, .ref o_), (1, .ref v), (2, .int p)]) hx hb dX1_playerKinds_31 rfl hl (by decide) rfl ?_
          clear hl ls; intro ls hl
          exact J_278 ((orF (fun i => allB (mB mf p (nI i)) mn) j) ||| (1 <<< ((nI j) &&& 31))) (by first | rfl | (simp only [c_276, if_true, if_false, reduceIte]; done) | (simp [c_276]; done)) _ _ _ hW (lv_sub hl [1, 0, 2, 3, 4] rfl)
  exact K_270 _ 0 0 0 (by first | rfl | assumption | omega | exact nI_1 _ | (simp; done)) (by first | rfl | assumption | omega | exact nI_1 _ | (simp; done)) (by first | rfl | assumption | omega | exact nI_1 _ | (simp; done)) (Nat.lt_succ_self _) _ _ _ hW (lv_sub hl [0, 1, 2, 3, 4] rfl)
set_option maxHeartbeats 4000000 in
set_option maxRecDepth 100000 in
theorem c_X1_asMany (l : Launch) (G : gT) (o_ om : Nat) (ms : Nat → Int32) (kinds x : Int32)  : MI l G yX1_asMany cX1_asMany 5 .int ({ frames := 0, cells := 0, slots := 0, locals := 0 }) [.ref o_, .int kinds, .int x] [(o_, .inr (0, [.ref om])), (om, .inl (G.2.1, 6, .inl ms))] (fun (r : Int32) w1 => (r = cntF (fun i => tb kinds i && decide (ms i = x)) 6) ∧ w1 = [(o_, .inr (0, [.ref om])), (om, .inl (G.2.1, 6, .inl ms))]) := by
  refine MI.mk (by decide) (Nat.le_of_ble_eq_true rfl) ?_
  intro p_ e_ s_ m_ ar_ be_ me_ cd_ A_ ls C hrt hW hl
  have hx := C.1; have hb := C.2.1; have hown := C.2.2.2.1; have ht := C.2.2.2.2.1
  replace hl : lv_has ls 5 [(0, .ref o_), (1, .int kinds), (2, .int x)] := hl
  generalize hQ : MQ be_ _ ar_ s_ 0 0 A_ = Q
  refine lv_iconst (v := 0) hx hb dX1_asMany_0 (by decide) ?_
  refine lv_istore_n (lv' := [(3, .int 0), (0, .ref o_), (1, .int kinds), (2, .int x)]) hx hb dX1_asMany_1 rfl hl (by decide) rfl ?_
  clear hl ls; intro ls hl
  refine lv_iconst (v := 0) hx hb dX1_asMany_2 (by decide) ?_
  refine lv_istore (lv' := [(4, .int 0), (3, .int 0), (0, .ref o_), (1, .int kinds), (2, .int x)]) hx hb dX1_asMany_3 hl (by decide) rfl ?_
  clear hl ls; intro ls hl
  have K_279 : ∀ (n_ : Nat) (j : Nat) (x_280 : Int32) (x_281 : Int32) (_ : x_280 = nI j) (_ : x_281 = cntF (fun i => tb kinds i && decide (ms i = x)) j) (_ : j ≤ 6) (_ : 6 - j < n_) (H : Heap) (locs : List Loc) (ls : Array Slot), Wd G A_ s_.heap [(o_, .inr (0, [.ref om])), (om, .inl (G.2.1, 6, .inl ms))] H locs → lv_has ls 5 [(4, .int x_280), (3, .int x_281), (0, .ref o_), (1, .int kinds), (2, .int x)] → W p_ l e_ ({ frames := 0, cells := 0, slots := 0, locals := 0 }) s_ m_ ar_ be_ me_ cd_ H locs 0 0 Q (F0 m_ 5 ls []) := by
    intro n_
    induction n_ with
    | zero => intro j x_280 x_281 ex_280 ex_281 hj hm_; exact absurd hm_ (Nat.not_lt_zero _)
    | succ n_ ihK_279 =>
      intro j x_280 x_281 ex_280 ex_281 hj hm_ H locs ls hW hl
      subst ex_280
      subst ex_281
      refine lv_iload hx hb dX1_asMany_5 (lv_at hl 0 rfl) ?_
      refine lv_bipush (v := 6) hx hb dX1_asMany_7 (by decide) ?_
      refine lv_icmp_ge (tgt := 41) hx hb dX1_asMany_9 (by decide) (fun c_282 => ?_) (fun c_282 => ?_)
      · replace c_282 := Int32.not_lt.mpr c_282
        have c_282n : ¬ j < 6 := fun q => c_282 ((nI_ltI (a := j) (b := 6) (by omega) (by omega)).mpr q)
        refine lv_iload_n hx hb dX1_asMany_41 rfl (lv_at hl 1 rfl) ?_
        subst hQ
        exact g_iret (v := (cntF (fun i => tb kinds i && decide (ms i = x)) j)) C hW hrt ⟨by rw [show j = 6 by omega], rfl⟩ dX1_asMany_42
      · replace c_282 := Int32.not_le.mp c_282
        have c_282n : j < 6 := (nI_ltI (a := j) (b := 6) (by omega) (by omega)).mp c_282
        refine lv_iload_n hx hb dX1_asMany_12 rfl (lv_at hl 3 rfl) ?_
        refine lv_iload hx hb dX1_asMany_13 (lv_at hl 0 rfl) ?_
        refine lv_ishr hx hb dX1_asMany_15 ?_
        refine lv_iconst (v := 1) hx hb dX1_asMany_16 (by decide) ?_
        refine lv_iand hx hb dX1_asMany_17 ?_
        have J_285 : ∀ (x_284 : Int32) (_ : x_284 = (if ((kinds >>> ((nI j) &&& 31)) &&& 1) = 0 then cntF (fun i => tb kinds i && decide (ms i = x)) j else (if (ms j) = x then (cntF (fun i => tb kinds i && decide (ms i = x)) j) + 1 else cntF (fun i => tb kinds i && decide (ms i = x)) j))), ∀ (H : Heap) (locs : List Loc) (ls : Array Slot), Wd G A_ s_.heap [(o_, .inr (0, [.ref om])), (om, .inl (G.2.1, 6, .inl ms))] H locs → lv_has ls 5 [(4, .int (nI j)), (3, .int x_284), (0, .ref o_), (1, .int kinds), (2, .int x)] → W p_ l e_ ({ frames := 0, cells := 0, slots := 0, locals := 0 }) s_ m_ ar_ be_ me_ cd_ H locs 0 0 Q (F0 m_ 35 ls []) := by
          intro x_284 ex_284 H locs ls hW hl
          refine lv_iinc (v := (nI j) + 1) (lv' := [(4, .int ((nI j) + 1)), (3, .int x_284), (0, .ref o_), (1, .int kinds), (2, .int x)]) hx hb dX1_asMany_35 hl (k := 0) rfl rfl (by decide) rfl ?_
          clear hl ls; intro ls hl
          refine lv_goto (tgt := 5) hx hb dX1_asMany_38 (by decide) ?_
          exact ihK_279 (j + 1) ((nI j) + 1) x_284 (by first | rfl | assumption | omega | exact nI_1 _ | (simp; done)) (by (simp only [ex_284, cntF, tb]; (repeat' split) <;> simp_all)) (by first | rfl | assumption | omega | exact nI_1 _ | (simp; done)) (by omega) _ _ _ hW (lv_sub hl [0, 1, 2, 3, 4] rfl)
        refine lv_if_eq (tgt := 35) hx hb dX1_asMany_18 (by decide) (fun c_283 => ?_) (fun c_283 => ?_)
        · exact J_285 (cntF (fun i => tb kinds i && decide (ms i = x)) j) (by first | rfl | (simp only [c_283, if_true, if_false, reduceIte]; done) | (simp [c_283]; done)) _ _ _ hW (lv_sub hl [0, 1, 2, 3, 4] rfl)
        · refine lv_aload_n hx hb dX1_asMany_21 rfl (lv_at hl 2 rfl) ?_
          refine g_get (k := 0) (v := .ref om) C hW 0 rfl rfl jnX1 (by decide) k_fl_X1_11 rfl dX1_asMany_22 ?_
          refine lv_iload hx hb dX1_asMany_25 (lv_at hl 0 rfl) ?_
          refine g_ald C hW 1 rfl (ix_in (show (nI j) = nI j from (by first | rfl | (simp only [nI_lit, nI_add, pk_mul]; done) | (simp only [nI_lit, nI_add, pk_mul]; congr 1; omega))) (by omega) (by omega)) dX1_asMany_27 ?_
          refine lv_as (y := ms j) (by rw [show (nI j).toNatClampNeg = j from nI_clamp (by omega)]) ?_
          refine lv_iload_n hx hb dX1_asMany_28 rfl (lv_at hl 4 rfl) ?_
          refine lv_icmp_ne (tgt := 35) hx hb dX1_asMany_29 (by decide) (fun c_286 => ?_) (fun c_286 => ?_)
          · exact J_285 (cntF (fun i => tb kinds i && decide (ms i = x)) j) (by first | rfl | (simp only [c_283, c_286, if_true, if_false, reduceIte]; done) | (simp [c_283, c_286]; done)) _ _ _ hW (lv_sub hl [0, 1, 2, 3, 4] rfl)
          · refine lv_iinc (v := (cntF (fun i => tb kinds i && decide (ms i = x)) j) + 1) (lv' := [(3, .int ((cntF (fun i => tb kinds i && decide (ms i = x)) j) + 1)), (4, .int (nI j)), (0, .ref o_), (1, .int kinds), (2, .int x)]) hx hb dX1_asMany_32 hl (k := 1) rfl rfl (by decide) rfl ?_
            clear hl ls; intro ls hl
            exact J_285 ((cntF (fun i => tb kinds i && decide (ms i = x)) j) + 1) (by first | rfl | (simp only [c_283, c_286, if_true, if_false, reduceIte]; done) | (simp [c_283, c_286]; done)) _ _ _ hW (lv_sub hl [1, 0, 2, 3, 4] rfl)
  exact K_279 _ 0 0 0 (by first | rfl | assumption | omega | exact nI_1 _ | (simp; done)) (by first | rfl | assumption | omega | exact nI_1 _ | (simp; done)) (by first | rfl | assumption | omega | exact nI_1 _ | (simp; done)) (Nat.lt_succ_self _) _ _ _ hW (lv_sub hl [0, 1, 2, 3, 4] rfl)
set_option maxHeartbeats 4000000 in
set_option maxRecDepth 100000 in
theorem c_X1_mostAlike (l : Launch) (G : gT) (o_ om : Nat) (ms : Nat → Int32) (kinds : Int32)  : MI l G yX1_mostAlike cX1_mostAlike 4 .int ({ frames := 1, cells := 0, slots := 0, locals := 24 }) [.ref o_, .int kinds] [(o_, .inr (0, [.ref om])), (om, .inl (G.2.1, 6, .inl ms))] (fun (r : Int32) w1 => (r = mal kinds ms) ∧ w1 = [(o_, .inr (0, [.ref om])), (om, .inl (G.2.1, 6, .inl ms))]) := by
  refine MI.mk (by decide) (Nat.le_of_ble_eq_true rfl) ?_
  intro p_ e_ s_ m_ ar_ be_ me_ cd_ A_ ls C hrt hW hl
  have hx := C.1; have hb := C.2.1; have hown := C.2.2.2.1; have ht := C.2.2.2.2.1
  replace hl : lv_has ls 4 [(0, .ref o_), (1, .int kinds)] := hl
  generalize hQ : MQ be_ _ ar_ s_ 0 0 A_ = Q
  refine lv_iconst (v := 0) hx hb dX1_mostAlike_0 (by decide) ?_
  refine lv_istore_n (lv' := [(2, .int 0), (0, .ref o_), (1, .int kinds)]) hx hb dX1_mostAlike_1 rfl hl (by decide) rfl ?_
  clear hl ls; intro ls hl
  refine lv_iconst (v := 0) hx hb dX1_mostAlike_2 (by decide) ?_
  refine lv_istore_n (lv' := [(3, .int 0), (2, .int 0), (0, .ref o_), (1, .int kinds)]) hx hb dX1_mostAlike_3 rfl hl (by decide) rfl ?_
  clear hl ls; intro ls hl
  have K_287 : ∀ (n_ : Nat) (j : Nat) (x_288 : Int32) (x_289 : Int32) (_ : x_288 = nI j) (_ : x_289 = maxF (tb kinds) (fun i => cntF (fun j => tb kinds j && decide (ms j = ms i)) 6) j) (_ : j ≤ 6) (_ : 6 - j < n_) (H : Heap) (locs : List Loc) (ls : Array Slot), Wd G A_ s_.heap [(o_, .inr (0, [.ref om])), (om, .inl (G.2.1, 6, .inl ms))] H locs → lv_has ls 4 [(3, .int x_288), (2, .int x_289), (0, .ref o_), (1, .int kinds)] → W p_ l e_ ({ frames := 1, cells := 0, slots := 0, locals := 24 }) s_ m_ ar_ be_ me_ cd_ H locs 0 0 Q (F0 m_ 4 ls []) := by
    intro n_
    induction n_ with
    | zero => intro j x_288 x_289 ex_288 ex_289 hj hm_; exact absurd hm_ (Nat.not_lt_zero _)
    | succ n_ ihK_287 =>
      intro j x_288 x_289 ex_288 ex_289 hj hm_ H locs ls hW hl
      subst ex_288
      subst ex_289
      refine lv_iload_n hx hb dX1_mostAlike_4 rfl (lv_at hl 0 rfl) ?_
      refine lv_bipush (v := 6) hx hb dX1_mostAlike_5 (by decide) ?_
      refine lv_icmp_ge (tgt := 40) hx hb dX1_mostAlike_7 (by decide) (fun c_290 => ?_) (fun c_290 => ?_)
      · replace c_290 := Int32.not_lt.mpr c_290
        have c_290n : ¬ j < 6 := fun q => c_290 ((nI_ltI (a := j) (b := 6) (by omega) (by omega)).mpr q)
        refine lv_iload_n hx hb dX1_mostAlike_40 rfl (lv_at hl 1 rfl) ?_
        subst hQ
        exact g_iret (v := (maxF (tb kinds) (fun i => cntF (fun j => tb kinds j && decide (ms j = ms i)) 6) j)) C hW hrt ⟨by (rw [show j = 6 by omega]; rfl), rfl⟩ dX1_mostAlike_41
      · replace c_290 := Int32.not_le.mp c_290
        have c_290n : j < 6 := (nI_ltI (a := j) (b := 6) (by omega) (by omega)).mp c_290
        refine lv_iload_n hx hb dX1_mostAlike_10 rfl (lv_at hl 3 rfl) ?_
        refine lv_iload_n hx hb dX1_mostAlike_11 rfl (lv_at hl 0 rfl) ?_
        refine lv_ishr hx hb dX1_mostAlike_12 ?_
        refine lv_iconst (v := 1) hx hb dX1_mostAlike_13 (by decide) ?_
        refine lv_iand hx hb dX1_mostAlike_14 ?_
        have J_295 : ∀ (x_294 : Int32) (_ : x_294 = (if ((kinds >>> ((nI j) &&& 31)) &&& 1) = 0 then maxF (tb kinds) (fun i => cntF (fun j => tb kinds j && decide (ms j = ms i)) 6) j else (if (maxF (tb kinds) (fun i => cntF (fun j => tb kinds j && decide (ms j = ms i)) 6) j) < (cntF (fun i => tb kinds i && decide (ms i = (ms j))) 6) then (cntF (fun i => tb kinds i && decide (ms i = (ms j))) 6) else (maxF (tb kinds) (fun i => cntF (fun j => tb kinds j && decide (ms j = ms i)) 6) j)))), ∀ (H : Heap) (locs : List Loc) (ls : Array Slot), Wd G A_ s_.heap [(o_, .inr (0, [.ref om])), (om, .inl (G.2.1, 6, .inl ms))] H locs → lv_has ls 4 [(3, .int (nI j)), (2, .int x_294), (0, .ref o_), (1, .int kinds)] → W p_ l e_ ({ frames := 1, cells := 0, slots := 0, locals := 24 }) s_ m_ ar_ be_ me_ cd_ H locs 0 0 Q (F0 m_ 34 ls []) := by
          intro x_294 ex_294 H locs ls hW hl
          refine lv_iinc (v := (nI j) + 1) (lv' := [(3, .int ((nI j) + 1)), (2, .int x_294), (0, .ref o_), (1, .int kinds)]) hx hb dX1_mostAlike_34 hl (k := 0) rfl rfl (by decide) rfl ?_
          clear hl ls; intro ls hl
          refine lv_goto (tgt := 4) hx hb dX1_mostAlike_37 (by decide) ?_
          exact ihK_287 (j + 1) ((nI j) + 1) x_294 (by first | rfl | assumption | omega | exact nI_1 _ | (simp; done)) (by (simp only [ex_294, maxF, tb]; (repeat' split) <;> simp_all)) (by first | rfl | assumption | omega | exact nI_1 _ | (simp; done)) (by omega) _ _ _ hW (lv_sub hl [0, 1, 2, 3] rfl)
        refine lv_if_eq (tgt := 34) hx hb dX1_mostAlike_15 (by decide) (fun c_291 => ?_) (fun c_291 => ?_)
        · exact J_295 (maxF (tb kinds) (fun i => cntF (fun j => tb kinds j && decide (ms j = ms i)) 6) j) (by first | rfl | (simp only [c_291, if_true, if_false, reduceIte]; done) | (simp [c_291]; done)) _ _ _ hW (lv_sub hl [0, 1, 2, 3] rfl)
        · refine lv_iload_n hx hb dX1_mostAlike_18 rfl (lv_at hl 1 rfl) ?_
          refine lv_aload_n hx hb dX1_mostAlike_19 rfl (lv_at hl 2 rfl) ?_
          refine lv_iload_n hx hb dX1_mostAlike_20 rfl (lv_at hl 3 rfl) ?_
          refine lv_aload_n hx hb dX1_mostAlike_21 rfl (lv_at hl 2 rfl) ?_
          refine g_get (k := 0) (v := .ref om) C hW 0 rfl rfl jnX1 (by decide) k_fl_X1_11 rfl dX1_mostAlike_22 ?_
          refine lv_iload_n hx hb dX1_mostAlike_25 rfl (lv_at hl 0 rfl) ?_
          refine g_ald C hW 1 rfl (ix_in (show (nI j) = nI j from (by first | rfl | (simp only [nI_lit, nI_add, pk_mul]; done) | (simp only [nI_lit, nI_add, pk_mul]; congr 1; omega))) (by omega) (by omega)) dX1_mostAlike_26 ?_
          refine lv_as (y := ms j) (by rw [show (nI j).toNatClampNeg = j from nI_clamp (by omega)]) ?_
          refine g_fi C hW [0, 1] rfl (g_runV (As := [.int kinds, .int (ms j)]) (rest := [.int (maxF (tb kinds) (fun i => cntF (fun j => tb kinds j && decide (ms j = ms i)) 6) j)]) (wc := [(o_, .inr (0, [.ref om])), (om, .inl (G.2.1, 6, .inl ms))]) (q0 := 0) (ci := 0) C hW hl (c_X1_asMany l G o_ om ms kinds (ms j)  _) k_ml_X1_101 q_X1_asMany (by decide) [0, 1] rfl rfl rfl rfl rfl rfl (Nat.le_of_ble_eq_true rfl) dX1_mostAlike_27 (by decide)) (fun r_296 er_296 => ?_)
          clear hW H locs; intro H locs hW
          subst er_296
          refine g_max C hl k_ml_X1_87 ⟨Nat.le_of_ble_eq_true rfl, Nat.le_of_ble_eq_true rfl⟩ (by decide) dX1_mostAlike_30 ?_
          refine lv_istore_n (lv' := [(2, .int (if (maxF (tb kinds) (fun i => cntF (fun j => tb kinds j && decide (ms j = ms i)) 6) j) < (cntF (fun i => tb kinds i && decide (ms i = (ms j))) 6) then (cntF (fun i => tb kinds i && decide (ms i = (ms j))) 6) else (maxF (tb kinds) (fun i => cntF (fun j => tb kinds j && decide (ms j = ms i)) 6) j))), (3, .int (nI j)), (0, .ref o_), (1, .int kinds)]) hx hb dX1_mostAlike_33 rfl hl (by decide) rfl ?_
          clear hl ls; intro ls hl
          exact J_295 (if (maxF (tb kinds) (fun i => cntF (fun j => tb kinds j && decide (ms j = ms i)) 6) j) < (cntF (fun i => tb kinds i && decide (ms i = (ms j))) 6) then (cntF (fun i => tb kinds i && decide (ms i = (ms j))) 6) else (maxF (tb kinds) (fun i => cntF (fun j => tb kinds j && decide (ms j = ms i)) 6) j)) (by first | rfl | (simp only [c_291, if_true, if_false, reduceIte]; done) | (simp [c_291]; done)) _ _ _ hW (lv_sub hl [1, 0, 2, 3] rfl)
  exact K_287 _ 0 0 0 (by first | rfl | assumption | omega | exact nI_1 _ | (simp; done)) (by first | rfl | assumption | omega | exact nI_1 _ | (simp; done)) (by first | rfl | assumption | omega | exact nI_1 _ | (simp; done)) (Nat.lt_succ_self _) _ _ _ hW (lv_sub hl [0, 1, 2, 3] rfl)
set_option maxHeartbeats 4000000 in
set_option maxRecDepth 100000 in
theorem c_X1_mostAsFar (l : Launch) (G : gT) (o_ om : Nat) (ms : Nat → Int32) (kinds g x w : Int32) (hg : Rg g 1 9) (hx_ : Rg x 0 30) (hw : Rg w (-4) 4) : MI l G yX1_mostAsFar cX1_mostAsFar 6 .int ({ frames := 2, cells := 0, slots := 0, locals := 47 }) [.ref o_, .int kinds, .int g, .int x, .int w] [(o_, .inr (0, [.ref om])), (om, .inl (G.2.1, 6, .inl ms))] (fun (r : Int32) w1 => ∃ u_ : Unit, (r = mal kinds (fun i => fl (nI i) g x w)) ∧ w1 = [(o_, .inr (0, [.ref om])), (om, .inl (G.2.1, 6, .inl (fun i => if i < 6 then fl (nI i) g x w else ms i)))]) := by
  refine MI.mk (by decide) (Nat.le_of_ble_eq_true rfl) ?_
  intro p_ e_ s_ m_ ar_ be_ me_ cd_ A_ ls C hrt hW hl
  have hx := C.1; have hb := C.2.1; have hown := C.2.2.2.1; have ht := C.2.2.2.2.1
  replace hl : lv_has ls 6 [(0, .ref o_), (1, .int kinds), (2, .int g), (3, .int x), (4, .int w)] := hl
  generalize hQ : MQ be_ _ ar_ s_ 0 0 A_ = Q
  refine lv_iconst (v := 0) hx hb dX1_mostAsFar_0 (by decide) ?_
  refine lv_istore (lv' := [(5, .int 0), (0, .ref o_), (1, .int kinds), (2, .int g), (3, .int x), (4, .int w)]) hx hb dX1_mostAsFar_1 hl (by decide) rfl ?_
  clear hl ls; intro ls hl
  have K_297 : ∀ (n_ : Nat) (j : Nat) (x_298 : Int32) (g_299 : Nat → Int32) (_ : x_298 = nI j) (_ : g_299 = (fun i => if i < j then fl (nI i) g x w else ms i)) (_ : j ≤ 6) (_ : 6 - j < n_) (H : Heap) (locs : List Loc) (ls : Array Slot), Wd G A_ s_.heap [(o_, .inr (0, [.ref om])), (om, .inl (G.2.1, 6, .inl g_299))] H locs → lv_has ls 6 [(5, .int x_298), (0, .ref o_), (1, .int kinds), (2, .int g), (3, .int x), (4, .int w)] → W p_ l e_ ({ frames := 2, cells := 0, slots := 0, locals := 47 }) s_ m_ ar_ be_ me_ cd_ H locs 0 0 Q (F0 m_ 3 ls []) := by
    intro n_
    induction n_ with
    | zero => intro j x_298 g_299 ex_298 eg_299 hj hm_; exact absurd hm_ (Nat.not_lt_zero _)
    | succ n_ ihK_297 =>
      intro j x_298 g_299 ex_298 eg_299 hj hm_ H locs ls hW hl
      subst ex_298
      subst eg_299
      refine lv_iload hx hb dX1_mostAsFar_3 (lv_at hl 0 rfl) ?_
      refine lv_bipush (v := 6) hx hb dX1_mostAsFar_5 (by decide) ?_
      refine lv_icmp_ge (tgt := 32) hx hb dX1_mostAsFar_7 (by decide) (fun c_300 => ?_) (fun c_300 => ?_)
      · replace c_300 := Int32.not_lt.mpr c_300
        have c_300n : ¬ j < 6 := fun q => c_300 ((nI_ltI (a := j) (b := 6) (by omega) (by omega)).mpr q)
        obtain rfl : j = 6 := by omega
        refine lv_aload_n hx hb dX1_mostAsFar_32 rfl (lv_at hl 1 rfl) ?_
        refine lv_iload_n hx hb dX1_mostAsFar_33 rfl (lv_at hl 2 rfl) ?_
        refine g_fi C hW [0, 1] rfl (g_runV (As := [.int kinds]) (rest := []) (wc := [(o_, .inr (0, [.ref om])), (om, .inl (G.2.1, 6, .inl (fun i => if i < 6 then fl (nI i) g x w else ms i)))]) (q0 := 0) (ci := 0) C hW hl (c_X1_mostAlike l G o_ om (fun i => if i < 6 then fl (nI i) g x w else ms i) kinds  _) k_ml_X1_98 q_X1_mostAlike (by decide) [0, 1] rfl rfl rfl rfl rfl rfl (Nat.le_of_ble_eq_true rfl) dX1_mostAsFar_34 (by decide)) (fun r_302 er_302 => ?_)
        clear hW H locs; intro H locs hW
        subst er_302
        subst hQ
        exact g_iret (v := (mal kinds (fun i => if i < 6 then fl (nI i) g x w else ms i))) C hW hrt ⟨(), by exact mal_cong (fun i hi => if_pos hi), by rfl⟩ dX1_mostAsFar_37
      · replace c_300 := Int32.not_le.mp c_300
        have c_300n : j < 6 := (nI_ltI (a := j) (b := 6) (by omega) (by omega)).mp c_300
        refine lv_aload_n hx hb dX1_mostAsFar_10 rfl (lv_at hl 1 rfl) ?_
        refine g_get (k := 0) (v := .ref om) C hW 0 rfl rfl jnX1 (by decide) k_fl_X1_11 rfl dX1_mostAsFar_11 ?_
        refine lv_iload hx hb dX1_mostAsFar_14 (lv_at hl 0 rfl) ?_
        refine lv_iload hx hb dX1_mostAsFar_16 (lv_at hl 0 rfl) ?_
        refine lv_iload_n hx hb dX1_mostAsFar_18 rfl (lv_at hl 3 rfl) ?_
        refine lv_iload_n hx hb dX1_mostAsFar_19 rfl (lv_at hl 4 rfl) ?_
        refine lv_iload hx hb dX1_mostAsFar_20 (lv_at hl 5 rfl) ?_
        refine g_fi C hW [] rfl (g_runS (As := [.int (nI j), .int g, .int x, .int w]) (rest := [.int (nI j), .ref om]) (wc := []) C hW hl (c_X2_flight l G (nI j) g x w (by assumption) (by assumption) (by assumption) _) k_ml_X1_92 q_X2_flight (by decide) [] rfl rfl rfl rfl (Nat.le_of_ble_eq_true rfl) dX1_mostAsFar_22 (by decide)) (fun r_303 er_303 => ?_)
        clear hW H locs; intro H locs hW
        subst er_303
        refine g_ast (w' := [(o_, .inr (0, [.ref om])), (om, .inl (G.2.1, 6, .inl (upd (fun i => if i < j then fl (nI i) g x w else ms i) j (fl (nI j) g x w))))]) C hW 1 rfl (ix_in (show (nI j) = nI j from (by first | rfl | (simp only [nI_lit, nI_add, pk_mul]; done) | (simp only [nI_lit, nI_add, pk_mul]; congr 1; omega))) (by omega) (by omega)) (by rw [show (nI j).toNatClampNeg = j from nI_clamp (by omega)]; rfl) dX1_mostAsFar_25 ?_
        clear hW H locs; intro H locs hW
        refine lv_iinc (v := (nI j) + 1) (lv' := [(5, .int ((nI j) + 1)), (0, .ref o_), (1, .int kinds), (2, .int g), (3, .int x), (4, .int w)]) hx hb dX1_mostAsFar_26 hl (k := 0) rfl rfl (by decide) rfl ?_
        clear hl ls; intro ls hl
        refine lv_goto (tgt := 3) hx hb dX1_mostAsFar_29 (by decide) ?_
        exact ihK_297 (j + 1) ((nI j) + 1) (upd (fun i => if i < j then fl (nI i) g x w else ms i) j (fl (nI j) g x w)) (by first | rfl | assumption | omega | exact nI_1 _ | (simp; done)) (by exact ms_upd ms (fun i => fl (nI i) g x w) j) (by first | rfl | assumption | omega | exact nI_1 _ | (simp; done)) (by omega) _ _ _ hW (lv_sub hl [0, 1, 2, 3, 4, 5] rfl)
  exact K_297 _ 0 0 ms (by first | rfl | assumption | omega | exact nI_1 _ | (simp; done)) (by (funext i; rw [if_neg (Nat.not_lt_zero _)])) (by first | rfl | assumption | omega | exact nI_1 _ | (simp; done)) (Nat.lt_succ_self _) _ _ _ hW (lv_sub hl [0, 1, 2, 3, 4, 5] rfl)
set_option maxHeartbeats 4000000 in
set_option maxRecDepth 100000 in
theorem c_X1_mostAsHard (l : Launch) (G : gT) (o_ om : Nat) (ms : Nat → Int32) (kinds b t : Int32)  : MI l G yX1_mostAsHard cX1_mostAsHard 5 .int ({ frames := 2, cells := 0, slots := 0, locals := 47 }) [.ref o_, .int kinds, .int b, .int t] [(o_, .inr (0, [.ref om])), (om, .inl (G.2.1, 6, .inl ms))] (fun (r : Int32) w1 => ∃ u_ : Unit, (r = mal kinds (fun i => bl (nI i) b t)) ∧ w1 = [(o_, .inr (0, [.ref om])), (om, .inl (G.2.1, 6, .inl (fun i => if i < 6 then bl (nI i) b t else ms i)))]) := by
  refine MI.mk (by decide) (Nat.le_of_ble_eq_true rfl) ?_
  intro p_ e_ s_ m_ ar_ be_ me_ cd_ A_ ls C hrt hW hl
  have hx := C.1; have hb := C.2.1; have hown := C.2.2.2.1; have ht := C.2.2.2.2.1
  replace hl : lv_has ls 5 [(0, .ref o_), (1, .int kinds), (2, .int b), (3, .int t)] := hl
  generalize hQ : MQ be_ _ ar_ s_ 0 0 A_ = Q
  refine lv_iconst (v := 0) hx hb dX1_mostAsHard_0 (by decide) ?_
  refine lv_istore (lv' := [(4, .int 0), (0, .ref o_), (1, .int kinds), (2, .int b), (3, .int t)]) hx hb dX1_mostAsHard_1 hl (by decide) rfl ?_
  clear hl ls; intro ls hl
  have K_304 : ∀ (n_ : Nat) (j : Nat) (x_305 : Int32) (g_306 : Nat → Int32) (_ : x_305 = nI j) (_ : g_306 = (fun i => if i < j then bl (nI i) b t else ms i)) (_ : j ≤ 6) (_ : 6 - j < n_) (H : Heap) (locs : List Loc) (ls : Array Slot), Wd G A_ s_.heap [(o_, .inr (0, [.ref om])), (om, .inl (G.2.1, 6, .inl g_306))] H locs → lv_has ls 5 [(4, .int x_305), (0, .ref o_), (1, .int kinds), (2, .int b), (3, .int t)] → W p_ l e_ ({ frames := 2, cells := 0, slots := 0, locals := 47 }) s_ m_ ar_ be_ me_ cd_ H locs 0 0 Q (F0 m_ 3 ls []) := by
    intro n_
    induction n_ with
    | zero => intro j x_305 g_306 ex_305 eg_306 hj hm_; exact absurd hm_ (Nat.not_lt_zero _)
    | succ n_ ihK_304 =>
      intro j x_305 g_306 ex_305 eg_306 hj hm_ H locs ls hW hl
      subst ex_305
      subst eg_306
      refine lv_iload hx hb dX1_mostAsHard_3 (lv_at hl 0 rfl) ?_
      refine lv_bipush (v := 6) hx hb dX1_mostAsHard_5 (by decide) ?_
      refine lv_icmp_ge (tgt := 30) hx hb dX1_mostAsHard_7 (by decide) (fun c_307 => ?_) (fun c_307 => ?_)
      · replace c_307 := Int32.not_lt.mpr c_307
        have c_307n : ¬ j < 6 := fun q => c_307 ((nI_ltI (a := j) (b := 6) (by omega) (by omega)).mpr q)
        obtain rfl : j = 6 := by omega
        refine lv_aload_n hx hb dX1_mostAsHard_30 rfl (lv_at hl 1 rfl) ?_
        refine lv_iload_n hx hb dX1_mostAsHard_31 rfl (lv_at hl 2 rfl) ?_
        refine g_fi C hW [0, 1] rfl (g_runV (As := [.int kinds]) (rest := []) (wc := [(o_, .inr (0, [.ref om])), (om, .inl (G.2.1, 6, .inl (fun i => if i < 6 then bl (nI i) b t else ms i)))]) (q0 := 0) (ci := 0) C hW hl (c_X1_mostAlike l G o_ om (fun i => if i < 6 then bl (nI i) b t else ms i) kinds  _) k_ml_X1_98 q_X1_mostAlike (by decide) [0, 1] rfl rfl rfl rfl rfl rfl (Nat.le_of_ble_eq_true rfl) dX1_mostAsHard_32 (by decide)) (fun r_309 er_309 => ?_)
        clear hW H locs; intro H locs hW
        subst er_309
        subst hQ
        exact g_iret (v := (mal kinds (fun i => if i < 6 then bl (nI i) b t else ms i))) C hW hrt ⟨(), by exact mal_cong (fun i hi => if_pos hi), by rfl⟩ dX1_mostAsHard_35
      · replace c_307 := Int32.not_le.mp c_307
        have c_307n : j < 6 := (nI_ltI (a := j) (b := 6) (by omega) (by omega)).mp c_307
        refine lv_aload_n hx hb dX1_mostAsHard_10 rfl (lv_at hl 1 rfl) ?_
        refine g_get (k := 0) (v := .ref om) C hW 0 rfl rfl jnX1 (by decide) k_fl_X1_11 rfl dX1_mostAsHard_11 ?_
        refine lv_iload hx hb dX1_mostAsHard_14 (lv_at hl 0 rfl) ?_
        refine lv_iload hx hb dX1_mostAsHard_16 (lv_at hl 0 rfl) ?_
        refine lv_iload_n hx hb dX1_mostAsHard_18 rfl (lv_at hl 3 rfl) ?_
        refine lv_iload_n hx hb dX1_mostAsHard_19 rfl (lv_at hl 4 rfl) ?_
        refine g_fi C hW [] rfl (g_runS (As := [.int (nI j), .int b, .int t]) (rest := [.int (nI j), .ref om]) (wc := []) C hW hl (c_X2_blow l G (nI j) b t  _) k_ml_X1_95 q_X2_blow (by decide) [] rfl rfl rfl rfl (Nat.le_of_ble_eq_true rfl) dX1_mostAsHard_20 (by decide)) (fun r_310 er_310 => ?_)
        clear hW H locs; intro H locs hW
        subst er_310
        refine g_ast (w' := [(o_, .inr (0, [.ref om])), (om, .inl (G.2.1, 6, .inl (upd (fun i => if i < j then bl (nI i) b t else ms i) j (bl (nI j) b t))))]) C hW 1 rfl (ix_in (show (nI j) = nI j from (by first | rfl | (simp only [nI_lit, nI_add, pk_mul]; done) | (simp only [nI_lit, nI_add, pk_mul]; congr 1; omega))) (by omega) (by omega)) (by rw [show (nI j).toNatClampNeg = j from nI_clamp (by omega)]; rfl) dX1_mostAsHard_23 ?_
        clear hW H locs; intro H locs hW
        refine lv_iinc (v := (nI j) + 1) (lv' := [(4, .int ((nI j) + 1)), (0, .ref o_), (1, .int kinds), (2, .int b), (3, .int t)]) hx hb dX1_mostAsHard_24 hl (k := 0) rfl rfl (by decide) rfl ?_
        clear hl ls; intro ls hl
        refine lv_goto (tgt := 3) hx hb dX1_mostAsHard_27 (by decide) ?_
        exact ihK_304 (j + 1) ((nI j) + 1) (upd (fun i => if i < j then bl (nI i) b t else ms i) j (bl (nI j) b t)) (by first | rfl | assumption | omega | exact nI_1 _ | (simp; done)) (by exact ms_upd ms (fun i => bl (nI i) b t) j) (by first | rfl | assumption | omega | exact nI_1 _ | (simp; done)) (by omega) _ _ _ hW (lv_sub hl [0, 1, 2, 3, 4] rfl)
  exact K_304 _ 0 0 ms (by first | rfl | assumption | omega | exact nI_1 _ | (simp; done)) (by (funext i; rw [if_neg (Nat.not_lt_zero _)])) (by first | rfl | assumption | omega | exact nI_1 _ | (simp; done)) (Nat.lt_succ_self _) _ _ _ hW (lv_sub hl [0, 1, 2, 3, 4] rfl)
set_option maxHeartbeats 4000000 in
set_option maxRecDepth 100000 in
theorem c_X1_greaterPart (l : Launch) (G : gT) (v vw vc vp vs vn vm vu : Nat) (wide : Int32) (vpc n : Nat) (pf : Nat → Int32) (ck wd : Nat → Int32) (k hr : Nat) (ws : Int32) (hk : k < n) (hn : n ≤ 7) (hh : hr < 100000) (hP : okP n pf) (hWd : okW wd) : MI l G yX1_greaterPart cX1_greaterPart 7 .int ({ frames := 4, cells := 0, slots := 0, locals := 94 }) [.ref v, .int (nI k), .int (nI hr), .int ws] [(v, .inr (7, [.int wide, .ref vw, .ref vc, .ref vp, .ref vs, .ref vn, .ref vm, .ref vu])), (vp, .inr (4, [.int 7, .int 3, .ref vpc, .int (nI n)])), (vpc, .inl (G.2.1, 21, .inl pf)), (vc, .inl (G.2.1, 7, .inl ck)), (vw, .inl (G.2.1, 6, .inl wd))] (fun (r : Int32) w1 => (r = if gpt wide ck wd pf k hr ws true < gpt wide ck wd pf k hr ws false then gpt wide ck wd pf k hr ws false else gpt wide ck wd pf k hr ws true) ∧ w1 = [(v, .inr (7, [.int wide, .ref vw, .ref vc, .ref vp, .ref vs, .ref vn, .ref vm, .ref vu])), (vp, .inr (4, [.int 7, .int 3, .ref vpc, .int (nI n)])), (vpc, .inl (G.2.1, 21, .inl pf)), (vc, .inl (G.2.1, 7, .inl ck)), (vw, .inl (G.2.1, 6, .inl wd))]) := by
  refine MI.mk (by decide) (Nat.le_of_ble_eq_true rfl) ?_
  intro p_ e_ s_ m_ ar_ be_ me_ cd_ A_ ls C hrt hW hl
  have hx := C.1; have hb := C.2.1; have hown := C.2.2.2.1; have ht := C.2.2.2.2.1
  replace hl : lv_has ls 7 [(0, .ref v), (1, .int (nI k)), (2, .int (nI hr)), (3, .int ws)] := hl
  generalize hQ : MQ be_ _ ar_ s_ 0 0 A_ = Q
  refine lv_iconst (v := 0) hx hb dX1_greaterPart_0 (by decide) ?_
  refine lv_istore (lv' := [(4, .int 0), (0, .ref v), (1, .int (nI k)), (2, .int (nI hr)), (3, .int ws)]) hx hb dX1_greaterPart_1 hl (by decide) rfl ?_
  clear hl ls; intro ls hl
  refine lv_iconst (v := 0) hx hb dX1_greaterPart_3 (by decide) ?_
  refine lv_istore (lv' := [(5, .int 0), (4, .int 0), (0, .ref v), (1, .int (nI k)), (2, .int (nI hr)), (3, .int ws)]) hx hb dX1_greaterPart_4 hl (by decide) rfl ?_
  clear hl ls; intro ls hl
  refine lv_iconst (v := 1) hx hb dX1_greaterPart_6 (by decide) ?_
  refine lv_istore (lv' := [(6, .int 1), (5, .int 0), (4, .int 0), (0, .ref v), (1, .int (nI k)), (2, .int (nI hr)), (3, .int ws)]) hx hb dX1_greaterPart_7 hl (by decide) rfl ?_
  clear hl ls; intro ls hl
  have K_311 : ∀ (n_ : Nat) (j : Nat) (x_312 : Int32) (x_313 : Int32) (x_314 : Int32) (_ : x_312 = nI j) (_ : x_313 = cntF (fun i => decide (1 ≤ i) && (tb ws i && (decide (wide ≤ rch ck wd pf k hr (pf (k * 3 + 1)) (nI i)) == false))) j) (_ : x_314 = cntF (fun i => decide (1 ≤ i) && (tb ws i && (decide (wide ≤ rch ck wd pf k hr (pf (k * 3 + 1)) (nI i)) == true))) j) (_ : 1 ≤ j ∧ j ≤ 10) (_ : 10 - j < n_) (H : Heap) (locs : List Loc) (ls : Array Slot), Wd G A_ s_.heap [(v, .inr (7, [.int wide, .ref vw, .ref vc, .ref vp, .ref vs, .ref vn, .ref vm, .ref vu])), (vp, .inr (4, [.int 7, .int 3, .ref vpc, .int (nI n)])), (vpc, .inl (G.2.1, 21, .inl pf)), (vc, .inl (G.2.1, 7, .inl ck)), (vw, .inl (G.2.1, 6, .inl wd))] H locs → lv_has ls 7 [(6, .int x_312), (5, .int x_313), (4, .int x_314), (0, .ref v), (1, .int (nI k)), (2, .int (nI hr)), (3, .int ws)] → W p_ l e_ ({ frames := 4, cells := 0, slots := 0, locals := 94 }) s_ m_ ar_ be_ me_ cd_ H locs 0 0 Q (F0 m_ 9 ls []) := by
    intro n_
    induction n_ with
    | zero => intro j x_312 x_313 x_314 ex_312 ex_313 ex_314 hj hm_; exact absurd hm_ (Nat.not_lt_zero _)
    | succ n_ ihK_311 =>
      intro j x_312 x_313 x_314 ex_312 ex_313 ex_314 hj hm_ H locs ls hW hl
      subst ex_312
      subst ex_313
      subst ex_314
      refine lv_iload hx hb dX1_greaterPart_9 (lv_at hl 0 rfl) ?_
      refine lv_bipush (v := 9) hx hb dX1_greaterPart_11 (by decide) ?_
      refine lv_icmp_gt (tgt := 51) hx hb dX1_greaterPart_13 (by decide) (fun c_315 => ?_) (fun c_315 => ?_)
      · replace c_315 := Int32.not_le.mpr c_315
        have c_315n : ¬ j ≤ 9 := fun q => c_315 ((nI_leI (a := j) (b := 9) (by omega) (by omega)).mpr q)
        obtain rfl : j = 10 := by omega
        refine lv_iload hx hb dX1_greaterPart_51 (lv_at hl 2 rfl) ?_
        refine lv_iload hx hb dX1_greaterPart_53 (lv_at hl 1 rfl) ?_
        refine g_max C hl k_ml_X1_87 ⟨Nat.le_of_ble_eq_true rfl, Nat.le_of_ble_eq_true rfl⟩ (by decide) dX1_greaterPart_55 ?_
        subst hQ
        exact g_iret (v := (if (cntF (fun i => decide (1 ≤ i) && (tb ws i && (decide (wide ≤ rch ck wd pf k hr (pf (k * 3 + 1)) (nI i)) == true))) 10) < (cntF (fun i => decide (1 ≤ i) && (tb ws i && (decide (wide ≤ rch ck wd pf k hr (pf (k * 3 + 1)) (nI i)) == false))) 10) then (cntF (fun i => decide (1 ≤ i) && (tb ws i && (decide (wide ≤ rch ck wd pf k hr (pf (k * 3 + 1)) (nI i)) == false))) 10) else (cntF (fun i => decide (1 ≤ i) && (tb ws i && (decide (wide ≤ rch ck wd pf k hr (pf (k * 3 + 1)) (nI i)) == true))) 10))) C hW hrt ⟨by rfl, rfl⟩ dX1_greaterPart_58
      · replace c_315 := Int32.not_lt.mp c_315
        have c_315n : j ≤ 9 := (nI_leI (a := j) (b := 9) (by omega) (by omega)).mp c_315
        refine lv_iload_n hx hb dX1_greaterPart_16 rfl (lv_at hl 6 rfl) ?_
        refine lv_iload hx hb dX1_greaterPart_17 (lv_at hl 0 rfl) ?_
        refine lv_ishr hx hb dX1_greaterPart_19 ?_
        refine lv_iconst (v := 1) hx hb dX1_greaterPart_20 (by decide) ?_
        refine lv_iand hx hb dX1_greaterPart_21 ?_
        have J_321 : ∀ (x_319 : Int32) (_ : x_319 = (if ((ws >>> ((nI j) &&& 31)) &&& 1) = 0 then cntF (fun i => decide (1 ≤ i) && (tb ws i && (decide (wide ≤ rch ck wd pf k hr (pf (k * 3 + 1)) (nI i)) == false))) j else (if (bI (decide (wide ≤ rch ck wd pf k hr (pf (k * 3 + 1)) (nI j)))) = 0 then (cntF (fun i => decide (1 ≤ i) && (tb ws i && (decide (wide ≤ rch ck wd pf k hr (pf (k * 3 + 1)) (nI i)) == false))) j) + 1 else cntF (fun i => decide (1 ≤ i) && (tb ws i && (decide (wide ≤ rch ck wd pf k hr (pf (k * 3 + 1)) (nI i)) == false))) j))) (x_320 : Int32) (_ : x_320 = (if ((ws >>> ((nI j) &&& 31)) &&& 1) = 0 then cntF (fun i => decide (1 ≤ i) && (tb ws i && (decide (wide ≤ rch ck wd pf k hr (pf (k * 3 + 1)) (nI i)) == true))) j else (if (bI (decide (wide ≤ rch ck wd pf k hr (pf (k * 3 + 1)) (nI j)))) = 0 then cntF (fun i => decide (1 ≤ i) && (tb ws i && (decide (wide ≤ rch ck wd pf k hr (pf (k * 3 + 1)) (nI i)) == true))) j else (cntF (fun i => decide (1 ≤ i) && (tb ws i && (decide (wide ≤ rch ck wd pf k hr (pf (k * 3 + 1)) (nI i)) == true))) j) + 1))), ∀ (H : Heap) (locs : List Loc) (ls : Array Slot), Wd G A_ s_.heap [(v, .inr (7, [.int wide, .ref vw, .ref vc, .ref vp, .ref vs, .ref vn, .ref vm, .ref vu])), (vp, .inr (4, [.int 7, .int 3, .ref vpc, .int (nI n)])), (vpc, .inl (G.2.1, 21, .inl pf)), (vc, .inl (G.2.1, 7, .inl ck)), (vw, .inl (G.2.1, 6, .inl wd))] H locs → lv_has ls 7 [(6, .int (nI j)), (5, .int x_319), (4, .int x_320), (0, .ref v), (1, .int (nI k)), (2, .int (nI hr)), (3, .int ws)] → W p_ l e_ ({ frames := 4, cells := 0, slots := 0, locals := 94 }) s_ m_ ar_ be_ me_ cd_ H locs 0 0 Q (F0 m_ 45 ls []) := by
          intro x_319 ex_319 x_320 ex_320 H locs ls hW hl
          refine lv_iinc (v := (nI j) + 1) (lv' := [(6, .int ((nI j) + 1)), (5, .int x_319), (4, .int x_320), (0, .ref v), (1, .int (nI k)), (2, .int (nI hr)), (3, .int ws)]) hx hb dX1_greaterPart_45 hl (k := 0) rfl rfl (by decide) rfl ?_
          clear hl ls; intro ls hl
          refine lv_goto (tgt := 9) hx hb dX1_greaterPart_48 (by decide) ?_
          exact ihK_311 (j + 1) ((nI j) + 1) x_319 x_320 (by first | rfl | assumption | omega | exact nI_1 _ | (simp; done)) (by (simp only [ex_319, ex_320, cntF]; exact cnt_f (by omega))) (by (simp only [ex_319, ex_320, cntF]; exact cnt_t (by omega))) (by first | rfl | assumption | omega | exact nI_1 _ | (simp; done)) (by omega) _ _ _ hW (lv_sub hl [0, 1, 2, 3, 4, 5, 6] rfl)
        refine lv_if_eq (tgt := 45) hx hb dX1_greaterPart_22 (by decide) (fun c_316 => ?_) (fun c_316 => ?_)
        · exact J_321 (cntF (fun i => decide (1 ≤ i) && (tb ws i && (decide (wide ≤ rch ck wd pf k hr (pf (k * 3 + 1)) (nI i)) == false))) j) (by first | rfl | (simp only [c_316, if_true, if_false, reduceIte]; done) | (simp [c_316]; done)) (cntF (fun i => decide (1 ≤ i) && (tb ws i && (decide (wide ≤ rch ck wd pf k hr (pf (k * 3 + 1)) (nI i)) == true))) j) (by first | rfl | (simp only [c_316, if_true, if_false, reduceIte]; done) | (simp [c_316]; done)) _ _ _ hW (lv_sub hl [0, 1, 2, 3, 4, 5, 6] rfl)
        · refine lv_aload_n hx hb dX1_greaterPart_25 rfl (lv_at hl 3 rfl) ?_
          refine lv_iload_n hx hb dX1_greaterPart_26 rfl (lv_at hl 4 rfl) ?_
          refine lv_iload_n hx hb dX1_greaterPart_27 rfl (lv_at hl 5 rfl) ?_
          refine lv_iload hx hb dX1_greaterPart_28 (lv_at hl 0 rfl) ?_
          refine g_fi C hW [0, 1, 2, 3, 4] rfl (g_runV (As := [.int (nI k), .int (nI hr), .int (nI j)]) (rest := []) (wc := [(v, .inr (7, [.int wide, .ref vw, .ref vc, .ref vp, .ref vs, .ref vn, .ref vm, .ref vu])), (vp, .inr (4, [.int 7, .int 3, .ref vpc, .int (nI n)])), (vpc, .inl (G.2.1, 21, .inl pf)), (vc, .inl (G.2.1, 7, .inl ck)), (vw, .inl (G.2.1, 6, .inl wd))]) (q0 := 0) (ci := 7) C hW hl (c_X9_carriesWeight l G v vw vc vp vs vn vm vu wide vpc n pf ck wd k hr (nI j) (by first | assumption | omega) (by first | assumption | omega) (by omega) (by assumption) (by assumption) (by exact Rg_nI (by omega) (by omega) (by omega)) _) k_ml_X1_83 q_X9_carriesWeight (by decide) [0, 1, 2, 3, 4] rfl rfl rfl rfl rfl rfl (Nat.le_of_ble_eq_true rfl) dX1_greaterPart_30 (by decide)) (fun r_322 er_322 => ?_)
          clear hW H locs; intro H locs hW
          subst er_322
          refine lv_if_eq (tgt := 42) hx hb dX1_greaterPart_33 (by decide) (fun c_323 => ?_) (fun c_323 => ?_)
          · refine lv_iinc (v := (cntF (fun i => decide (1 ≤ i) && (tb ws i && (decide (wide ≤ rch ck wd pf k hr (pf (k * 3 + 1)) (nI i)) == false))) j) + 1) (lv' := [(5, .int ((cntF (fun i => decide (1 ≤ i) && (tb ws i && (decide (wide ≤ rch ck wd pf k hr (pf (k * 3 + 1)) (nI i)) == false))) j) + 1)), (6, .int (nI j)), (4, .int (cntF (fun i => decide (1 ≤ i) && (tb ws i && (decide (wide ≤ rch ck wd pf k hr (pf (k * 3 + 1)) (nI i)) == true))) j)), (0, .ref v), (1, .int (nI k)), (2, .int (nI hr)), (3, .int ws)]) hx hb dX1_greaterPart_42 hl (k := 1) rfl rfl (by decide) rfl ?_
            clear hl ls; intro ls hl
            exact J_321 ((cntF (fun i => decide (1 ≤ i) && (tb ws i && (decide (wide ≤ rch ck wd pf k hr (pf (k * 3 + 1)) (nI i)) == false))) j) + 1) (by first | rfl | (simp only [c_316, c_323, if_true, if_false, reduceIte]; done) | (simp [c_316, c_323]; done)) (cntF (fun i => decide (1 ≤ i) && (tb ws i && (decide (wide ≤ rch ck wd pf k hr (pf (k * 3 + 1)) (nI i)) == true))) j) (by first | rfl | (simp only [c_316, c_323, if_true, if_false, reduceIte]; done) | (simp [c_316, c_323]; done)) _ _ _ hW (lv_sub hl [1, 0, 2, 3, 4, 5, 6] rfl)
          · refine lv_iinc (v := (cntF (fun i => decide (1 ≤ i) && (tb ws i && (decide (wide ≤ rch ck wd pf k hr (pf (k * 3 + 1)) (nI i)) == true))) j) + 1) (lv' := [(4, .int ((cntF (fun i => decide (1 ≤ i) && (tb ws i && (decide (wide ≤ rch ck wd pf k hr (pf (k * 3 + 1)) (nI i)) == true))) j) + 1)), (6, .int (nI j)), (5, .int (cntF (fun i => decide (1 ≤ i) && (tb ws i && (decide (wide ≤ rch ck wd pf k hr (pf (k * 3 + 1)) (nI i)) == false))) j)), (0, .ref v), (1, .int (nI k)), (2, .int (nI hr)), (3, .int ws)]) hx hb dX1_greaterPart_36 hl (k := 2) rfl rfl (by decide) rfl ?_
            clear hl ls; intro ls hl
            refine lv_goto (tgt := 45) hx hb dX1_greaterPart_39 (by decide) ?_
            exact J_321 (cntF (fun i => decide (1 ≤ i) && (tb ws i && (decide (wide ≤ rch ck wd pf k hr (pf (k * 3 + 1)) (nI i)) == false))) j) (by first | rfl | (simp only [c_316, c_323, if_true, if_false, reduceIte]; done) | (simp [c_316, c_323]; done)) ((cntF (fun i => decide (1 ≤ i) && (tb ws i && (decide (wide ≤ rch ck wd pf k hr (pf (k * 3 + 1)) (nI i)) == true))) j) + 1) (by first | rfl | (simp only [c_316, c_323, if_true, if_false, reduceIte]; done) | (simp [c_316, c_323]; done)) _ _ _ hW (lv_sub hl [1, 2, 0, 3, 4, 5, 6] rfl)
  exact K_311 _ 1 1 0 0 (by first | rfl | assumption | omega | exact nI_1 _ | (simp; done)) (by first | rfl | assumption | omega | exact nI_1 _ | (simp; done)) (by first | rfl | assumption | omega | exact nI_1 _ | (simp; done)) (by first | rfl | assumption | omega | exact nI_1 _ | (simp; done)) (Nat.lt_succ_self _) _ _ _ hW (lv_sub hl [0, 1, 2, 3, 4, 5, 6] rfl)
set_option maxHeartbeats 4000000 in
set_option maxRecDepth 100000 in
theorem c_X1_tellingHour (l : Launch) (G : gT) (o_ om : Nat) (v vw vc vp vs vn vm vu : Nat) (wide : Int32) (vpc n : Nat) (pf : Nat → Int32) (ck wd : Nat → Int32) (k : Nat) (ws : Int32) (hk : k < n) (hn : n ≤ 7) (hP : okP n pf) (hWd : okW wd) : MI l G yX1_tellingHour cX1_tellingHour 8 .int ({ frames := 5, cells := 0, slots := 0, locals := 120 }) [.ref o_, .ref v, .int (nI k), .int ws] [(o_, .inr (0, [.ref om])), (v, .inr (7, [.int wide, .ref vw, .ref vc, .ref vp, .ref vs, .ref vn, .ref vm, .ref vu])), (vp, .inr (4, [.int 7, .int 3, .ref vpc, .int (nI n)])), (vpc, .inl (G.2.1, 21, .inl pf)), (vc, .inl (G.2.1, 7, .inl ck)), (vw, .inl (G.2.1, 6, .inl wd))] (fun (r : Int32) w1 => (r = (amnG nI (fun t => if gpt wide ck wd pf k t ws true < gpt wide ck wd pf k t ws false then gpt wide ck wd pf k t ws false else gpt wide ck wd pf k t ws true) (-1, bc ws + 1) 24).1) ∧ w1 = [(o_, .inr (0, [.ref om])), (v, .inr (7, [.int wide, .ref vw, .ref vc, .ref vp, .ref vs, .ref vn, .ref vm, .ref vu])), (vp, .inr (4, [.int 7, .int 3, .ref vpc, .int (nI n)])), (vpc, .inl (G.2.1, 21, .inl pf)), (vc, .inl (G.2.1, 7, .inl ck)), (vw, .inl (G.2.1, 6, .inl wd))]) := by
  refine MI.mk (by decide) (Nat.le_of_ble_eq_true rfl) ?_
  intro p_ e_ s_ m_ ar_ be_ me_ cd_ A_ ls C hrt hW hl
  have hx := C.1; have hb := C.2.1; have hown := C.2.2.2.1; have ht := C.2.2.2.2.1
  replace hl : lv_has ls 8 [(0, .ref o_), (1, .ref v), (2, .int (nI k)), (3, .int ws)] := hl
  generalize hQ : MQ be_ _ ar_ s_ 0 0 A_ = Q
  refine lv_iconst (v := (-1)) hx hb dX1_tellingHour_0 (by decide) ?_
  refine lv_istore (lv' := [(4, .int (-1)), (0, .ref o_), (1, .ref v), (2, .int (nI k)), (3, .int ws)]) hx hb dX1_tellingHour_1 hl (by decide) rfl ?_
  clear hl ls; intro ls hl
  refine lv_iload_n hx hb dX1_tellingHour_3 rfl (lv_at hl 4 rfl) ?_
  refine g_fi C hW [] rfl (g_runS (As := [.int ws]) (rest := []) (wc := []) C hW hl (c_J6_bitCount_0f7a4 l G ws  _) k_ml_X1_23 q_J6_bitCount_0f7a4 (by decide) [] rfl rfl rfl rfl (Nat.le_of_ble_eq_true rfl) dX1_tellingHour_4 (by decide)) (fun r_324 er_324 => ?_)
  clear hW; intro H locs hW
  subst er_324
  refine lv_iconst (v := 1) hx hb dX1_tellingHour_7 (by decide) ?_
  refine lv_iadd hx hb dX1_tellingHour_8 ?_
  refine lv_istore (lv' := [(5, .int ((bc ws) + 1)), (4, .int (-1)), (0, .ref o_), (1, .ref v), (2, .int (nI k)), (3, .int ws)]) hx hb dX1_tellingHour_9 hl (by decide) rfl ?_
  clear hl ls; intro ls hl
  refine lv_iconst (v := 0) hx hb dX1_tellingHour_11 (by decide) ?_
  refine lv_istore (lv' := [(6, .int 0), (5, .int ((bc ws) + 1)), (4, .int (-1)), (0, .ref o_), (1, .ref v), (2, .int (nI k)), (3, .int ws)]) hx hb dX1_tellingHour_12 hl (by decide) rfl ?_
  clear hl ls; intro ls hl
  have K_325 : ∀ (n_ : Nat) (j : Nat) (x_326 : Int32) (x_327 : Int32) (x_328 : Int32) (_ : x_326 = nI j) (_ : x_327 = (amnG nI (fun t => if gpt wide ck wd pf k t ws true < gpt wide ck wd pf k t ws false then gpt wide ck wd pf k t ws false else gpt wide ck wd pf k t ws true) (-1, bc ws + 1) j).2) (_ : x_328 = (amnG nI (fun t => if gpt wide ck wd pf k t ws true < gpt wide ck wd pf k t ws false then gpt wide ck wd pf k t ws false else gpt wide ck wd pf k t ws true) (-1, bc ws + 1) j).1) (_ : j ≤ 24) (_ : 24 - j < n_) (H : Heap) (locs : List Loc) (ls : Array Slot), Wd G A_ s_.heap [(o_, .inr (0, [.ref om])), (v, .inr (7, [.int wide, .ref vw, .ref vc, .ref vp, .ref vs, .ref vn, .ref vm, .ref vu])), (vp, .inr (4, [.int 7, .int 3, .ref vpc, .int (nI n)])), (vpc, .inl (G.2.1, 21, .inl pf)), (vc, .inl (G.2.1, 7, .inl ck)), (vw, .inl (G.2.1, 6, .inl wd))] H locs → lv_has ls 8 [(6, .int x_326), (5, .int x_327), (4, .int x_328), (0, .ref o_), (1, .ref v), (2, .int (nI k)), (3, .int ws)] → W p_ l e_ ({ frames := 5, cells := 0, slots := 0, locals := 120 }) s_ m_ ar_ be_ me_ cd_ H locs 0 0 Q (F0 m_ 14 ls []) := by
    intro n_
    induction n_ with
    | zero => intro j x_326 x_327 x_328 ex_326 ex_327 ex_328 hj hm_; exact absurd hm_ (Nat.not_lt_zero _)
    | succ n_ ihK_325 =>
      intro j x_326 x_327 x_328 ex_326 ex_327 ex_328 hj hm_ H locs ls hW hl
      subst ex_326
      subst ex_327
      subst ex_328
      refine lv_iload hx hb dX1_tellingHour_14 (lv_at hl 0 rfl) ?_
      refine lv_bipush (v := 24) hx hb dX1_tellingHour_16 (by decide) ?_
      refine lv_icmp_ge (tgt := 58) hx hb dX1_tellingHour_18 (by decide) (fun c_329 => ?_) (fun c_329 => ?_)
      · replace c_329 := Int32.not_lt.mpr c_329
        have c_329n : ¬ j < 24 := fun q => c_329 ((nI_ltI (a := j) (b := 24) (by omega) (by omega)).mpr q)
        refine lv_iload hx hb dX1_tellingHour_58 (lv_at hl 2 rfl) ?_
        subst hQ
        exact g_iret (v := ((amnG nI (fun t => if gpt wide ck wd pf k t ws true < gpt wide ck wd pf k t ws false then gpt wide ck wd pf k t ws false else gpt wide ck wd pf k t ws true) (-1, bc ws + 1) j).1)) C hW hrt ⟨by (first | (rw [show j = 24 by omega]; done) | (rw [show (24 : Nat) = j + (24 - j) by omega, amnG_stop c_329])), rfl⟩ dX1_tellingHour_60
      · replace c_329 := Int32.not_le.mp c_329
        have c_329n : j < 24 := (nI_ltI (a := j) (b := 24) (by omega) (by omega)).mp c_329
        refine lv_iload hx hb dX1_tellingHour_21 (lv_at hl 1 rfl) ?_
        refine lv_iconst (v := 1) hx hb dX1_tellingHour_23 (by decide) ?_
        refine lv_icmp_le (tgt := 58) hx hb dX1_tellingHour_24 (by decide) (fun c_330 => ?_) (fun c_330 => ?_)
        · replace c_330 := Int32.not_lt.mpr c_330
          refine lv_iload hx hb dX1_tellingHour_58 (lv_at hl 2 rfl) ?_
          subst hQ
          exact g_iret (v := ((amnG nI (fun t => if gpt wide ck wd pf k t ws true < gpt wide ck wd pf k t ws false then gpt wide ck wd pf k t ws false else gpt wide ck wd pf k t ws true) (-1, bc ws + 1) j).1)) C hW hrt ⟨by (first | (rw [show j = 24 by omega]; done) | (rw [show (24 : Nat) = j + (24 - j) by omega, amnG_stop c_330])), rfl⟩ dX1_tellingHour_60
        · replace c_330 := Int32.not_le.mp c_330
          refine lv_aload_n hx hb dX1_tellingHour_27 rfl (lv_at hl 4 rfl) ?_
          refine lv_iload_n hx hb dX1_tellingHour_28 rfl (lv_at hl 5 rfl) ?_
          refine lv_iload hx hb dX1_tellingHour_29 (lv_at hl 0 rfl) ?_
          refine lv_iload_n hx hb dX1_tellingHour_31 rfl (lv_at hl 6 rfl) ?_
          refine g_fi C hW [1, 2, 3, 4, 5] rfl (g_runS (As := [.ref v, .int (nI k), .int (nI j), .int ws]) (rest := []) (wc := [(v, .inr (7, [.int wide, .ref vw, .ref vc, .ref vp, .ref vs, .ref vn, .ref vm, .ref vu])), (vp, .inr (4, [.int 7, .int 3, .ref vpc, .int (nI n)])), (vpc, .inl (G.2.1, 21, .inl pf)), (vc, .inl (G.2.1, 7, .inl ck)), (vw, .inl (G.2.1, 6, .inl wd))]) C hW hl (c_X1_greaterPart l G v vw vc vp vs vn vm vu wide vpc n pf ck wd k j ws (by first | assumption | omega) (by first | assumption | omega) (by omega) (by assumption) (by assumption) _) k_ml_X1_29 q_X1_greaterPart (by decide) [1, 2, 3, 4, 5] rfl rfl rfl rfl (Nat.le_of_ble_eq_true rfl) dX1_tellingHour_32 (by decide)) (fun r_331 er_331 => ?_)
          clear hW H locs; intro H locs hW
          subst er_331
          refine lv_istore (lv' := [(7, .int (if gpt wide ck wd pf k j ws true < gpt wide ck wd pf k j ws false then gpt wide ck wd pf k j ws false else gpt wide ck wd pf k j ws true)), (6, .int (nI j)), (5, .int ((amnG nI (fun t => if gpt wide ck wd pf k t ws true < gpt wide ck wd pf k t ws false then gpt wide ck wd pf k t ws false else gpt wide ck wd pf k t ws true) (-1, bc ws + 1) j).2)), (4, .int ((amnG nI (fun t => if gpt wide ck wd pf k t ws true < gpt wide ck wd pf k t ws false then gpt wide ck wd pf k t ws false else gpt wide ck wd pf k t ws true) (-1, bc ws + 1) j).1)), (0, .ref o_), (1, .ref v), (2, .int (nI k)), (3, .int ws)]) hx hb dX1_tellingHour_35 hl (by decide) rfl ?_
          clear hl ls; intro ls hl
          refine lv_iload hx hb dX1_tellingHour_37 (lv_at hl 0 rfl) ?_
          refine lv_iload hx hb dX1_tellingHour_39 (lv_at hl 2 rfl) ?_
          have J_335 : ∀ (x_333 : Int32) (_ : x_333 = (if (if gpt wide ck wd pf k j ws true < gpt wide ck wd pf k j ws false then gpt wide ck wd pf k j ws false else gpt wide ck wd pf k j ws true) < ((amnG nI (fun t => if gpt wide ck wd pf k t ws true < gpt wide ck wd pf k t ws false then gpt wide ck wd pf k t ws false else gpt wide ck wd pf k t ws true) (-1, bc ws + 1) j).2) then nI j else (amnG nI (fun t => if gpt wide ck wd pf k t ws true < gpt wide ck wd pf k t ws false then gpt wide ck wd pf k t ws false else gpt wide ck wd pf k t ws true) (-1, bc ws + 1) j).1)) (x_334 : Int32) (_ : x_334 = (if (if gpt wide ck wd pf k j ws true < gpt wide ck wd pf k j ws false then gpt wide ck wd pf k j ws false else gpt wide ck wd pf k j ws true) < ((amnG nI (fun t => if gpt wide ck wd pf k t ws true < gpt wide ck wd pf k t ws false then gpt wide ck wd pf k t ws false else gpt wide ck wd pf k t ws true) (-1, bc ws + 1) j).2) then if gpt wide ck wd pf k j ws true < gpt wide ck wd pf k j ws false then gpt wide ck wd pf k j ws false else gpt wide ck wd pf k j ws true else (amnG nI (fun t => if gpt wide ck wd pf k t ws true < gpt wide ck wd pf k t ws false then gpt wide ck wd pf k t ws false else gpt wide ck wd pf k t ws true) (-1, bc ws + 1) j).2)), ∀ (H : Heap) (locs : List Loc) (ls : Array Slot), Wd G A_ s_.heap [(o_, .inr (0, [.ref om])), (v, .inr (7, [.int wide, .ref vw, .ref vc, .ref vp, .ref vs, .ref vn, .ref vm, .ref vu])), (vp, .inr (4, [.int 7, .int 3, .ref vpc, .int (nI n)])), (vpc, .inl (G.2.1, 21, .inl pf)), (vc, .inl (G.2.1, 7, .inl ck)), (vw, .inl (G.2.1, 6, .inl wd))] H locs → lv_has ls 8 [(4, .int x_333), (5, .int x_334), (7, .int (if gpt wide ck wd pf k j ws true < gpt wide ck wd pf k j ws false then gpt wide ck wd pf k j ws false else gpt wide ck wd pf k j ws true)), (6, .int (nI j)), (0, .ref o_), (1, .ref v), (2, .int (nI k)), (3, .int ws)] → W p_ l e_ ({ frames := 5, cells := 0, slots := 0, locals := 120 }) s_ m_ ar_ be_ me_ cd_ H locs 0 0 Q (F0 m_ 52 ls []) := by
            intro x_333 ex_333 x_334 ex_334 H locs ls hW hl
            refine lv_iinc (v := (nI j) + 1) (lv' := [(6, .int ((nI j) + 1)), (4, .int x_333), (5, .int x_334), (7, .int (if gpt wide ck wd pf k j ws true < gpt wide ck wd pf k j ws false then gpt wide ck wd pf k j ws false else gpt wide ck wd pf k j ws true)), (0, .ref o_), (1, .ref v), (2, .int (nI k)), (3, .int ws)]) hx hb dX1_tellingHour_52 hl (k := 3) rfl rfl (by decide) rfl ?_
            clear hl ls; intro ls hl
            refine lv_goto (tgt := 14) hx hb dX1_tellingHour_55 (by decide) ?_
            exact ihK_325 (j + 1) ((nI j) + 1) x_334 x_333 (by first | rfl | assumption | omega | exact nI_1 _ | (simp; done)) (by (simp only [ex_333, ex_334, amnG]; exact am_2 c_330)) (by (simp only [ex_333, ex_334, amnG]; exact am_1 c_330)) (by first | rfl | assumption | omega | exact nI_1 _ | (simp; done)) (by omega) _ _ _ hW (lv_sub hl [0, 2, 1, 4, 5, 6, 7] rfl)
          refine lv_icmp_ge (tgt := 52) hx hb dX1_tellingHour_41 (by decide) (fun c_332 => ?_) (fun c_332 => ?_)
          · replace c_332 := Int32.not_lt.mpr c_332
            exact J_335 ((amnG nI (fun t => if gpt wide ck wd pf k t ws true < gpt wide ck wd pf k t ws false then gpt wide ck wd pf k t ws false else gpt wide ck wd pf k t ws true) (-1, bc ws + 1) j).1) (by first | rfl | (simp only [c_332, if_true, if_false, reduceIte]; done) | (simp [c_332]; done)) ((amnG nI (fun t => if gpt wide ck wd pf k t ws true < gpt wide ck wd pf k t ws false then gpt wide ck wd pf k t ws false else gpt wide ck wd pf k t ws true) (-1, bc ws + 1) j).2) (by first | rfl | (simp only [c_332, if_true, if_false, reduceIte]; done) | (simp [c_332]; done)) _ _ _ hW (lv_sub hl [3, 2, 0, 1, 4, 5, 6, 7] rfl)
          · replace c_332 := Int32.not_le.mp c_332
            refine lv_iload hx hb dX1_tellingHour_44 (lv_at hl 0 rfl) ?_
            refine lv_istore (lv' := [(5, .int (if gpt wide ck wd pf k j ws true < gpt wide ck wd pf k j ws false then gpt wide ck wd pf k j ws false else gpt wide ck wd pf k j ws true)), (7, .int (if gpt wide ck wd pf k j ws true < gpt wide ck wd pf k j ws false then gpt wide ck wd pf k j ws false else gpt wide ck wd pf k j ws true)), (6, .int (nI j)), (4, .int ((amnG nI (fun t => if gpt wide ck wd pf k t ws true < gpt wide ck wd pf k t ws false then gpt wide ck wd pf k t ws false else gpt wide ck wd pf k t ws true) (-1, bc ws + 1) j).1)), (0, .ref o_), (1, .ref v), (2, .int (nI k)), (3, .int ws)]) hx hb dX1_tellingHour_46 hl (by decide) rfl ?_
            clear hl ls; intro ls hl
            refine lv_iload hx hb dX1_tellingHour_48 (lv_at hl 2 rfl) ?_
            refine lv_istore (lv' := [(4, .int (nI j)), (5, .int (if gpt wide ck wd pf k j ws true < gpt wide ck wd pf k j ws false then gpt wide ck wd pf k j ws false else gpt wide ck wd pf k j ws true)), (7, .int (if gpt wide ck wd pf k j ws true < gpt wide ck wd pf k j ws false then gpt wide ck wd pf k j ws false else gpt wide ck wd pf k j ws true)), (6, .int (nI j)), (0, .ref o_), (1, .ref v), (2, .int (nI k)), (3, .int ws)]) hx hb dX1_tellingHour_50 hl (by decide) rfl ?_
            clear hl ls; intro ls hl
            exact J_335 (nI j) (by first | rfl | (simp only [c_332, if_true, if_false, reduceIte]; done) | (simp [c_332]; done)) (if gpt wide ck wd pf k j ws true < gpt wide ck wd pf k j ws false then gpt wide ck wd pf k j ws false else gpt wide ck wd pf k j ws true) (by first | rfl | (simp only [c_332, if_true, if_false, reduceIte]; done) | (simp [c_332]; done)) _ _ _ hW (lv_sub hl [0, 1, 2, 3, 4, 5, 6, 7] rfl)
  exact K_325 _ 0 0 ((bc ws) + 1) (-1) (by first | rfl | assumption | omega | exact nI_1 _ | (simp; done)) (by first | rfl | assumption | omega | exact nI_1 _ | (simp; done)) (by first | rfl | assumption | omega | exact nI_1 _ | (simp; done)) (by first | rfl | assumption | omega | exact nI_1 _ | (simp; done)) (Nat.lt_succ_self _) _ _ _ hW (lv_sub hl [0, 1, 2, 3, 4, 5, 6] rfl)
