set_option maxHeartbeats 4000000 in
set_option maxRecDepth 100000 in
theorem c_X11_save_u (l : Launch) (G : gT) (mo al ke ik rq so ha te bt an vs : Nat) (mab mbe : Int64) (bL tA tL tK tV : Int32) (a : Nat → Int32) (u : Nat) (e4 : a 4 = nI u) (hu : u < 8) : MV l G yX11_save cX11_save 2 ({ frames := 0, cells := 0, slots := 0, locals := 0 }) [.ref mo] [(mo, .inr (9, [.ref al, .ref ke, .ref ik, .ref rq, .long mab, .long mbe, .ref so, .ref ha, .ref te, .ref bt, .int bL, .int tA, .int tL, .int tK, .int tV, .ref an, .ref vs])), (al, .inl (G.2.1, 159, .inl a))] (fun w1 => ∃ u_ : Unit, (True) ∧ w1 = [(mo, .inr (9, [.ref al, .ref ke, .ref ik, .ref rq, .long mab, .long mbe, .ref so, .ref ha, .ref te, .ref bt, .int bL, .int tA, .int tL, .int tK, .int tV, .ref an, .ref vs])), (al, .inl (G.2.1, 159, .inl (svA a u)))]) := by
  refine MV.mk (by decide) (Nat.le_of_ble_eq_true rfl) ?_
  intro p_ e_ s_ m_ ar_ be_ me_ cd_ A_ ls C hrt hW hl
  have hx := C.1; have hb := C.2.1; have hown := C.2.2.2.1; have ht := C.2.2.2.2.1
  replace hl : lv_has ls 2 [(0, .ref mo)] := hl
  generalize hQ : MQ be_ _ ar_ s_ 0 0 A_ = Q
  refine lv_aload_n hx hb dX11_save_0 rfl (lv_at hl 0 rfl) ?_
  refine g_get (k := 0) (v := .ref al) C hW 0 rfl rfl jnX11 (by decide) k_fl_X11_7 rfl dX11_save_1 ?_
  refine lv_iconst (v := 4) hx hb dX11_save_4 (by decide) ?_
  refine g_ald C hW 1 rfl (vp_in_nI (n := 4) (by omega) (by omega)) dX11_save_5 ?_
  refine lv_as (y := a 4) (rfl) ?_
  refine lv_as (y := nI u) (e4) ?_
  refine lv_bipush (v := 8) hx hb dX11_save_6 (by decide) ?_
  refine lv_as (y := 8) (rfl) ?_
  refine lv_icmp_ne (tgt := 51) hx hb dX11_save_8 (by decide) (fun c_1465 => ?_) (fun c_1465 => ?_)
  · have c_1465n : ¬ u = 8 := fun q => c_1465 ((nI_eq (a := u) (b := 8) (by omega) (by omega)).mpr q)
    refine lv_iconst (v := 0) hx hb dX11_save_51 (by decide) ?_
    refine lv_istore_n (lv' := [(1, .int 0), (0, .ref mo)]) hx hb dX11_save_52 rfl hl (by decide) rfl ?_
    clear hl ls; intro ls hl
    have K_1466 : ∀ (n_ : Nat) (j : Nat) (x_1467 : Int32) (g_1468 : Nat → Int32) (_ : x_1467 = nI j) (_ : g_1468 = (fb_put a (ckA a) (103 + 7 * u) j)) (_ : j ≤ 7) (_ : 7 - j < n_) (H : Heap) (locs : List Loc) (ls : Array Slot), Wd G A_ s_.heap [(mo, .inr (9, [.ref al, .ref ke, .ref ik, .ref rq, .long mab, .long mbe, .ref so, .ref ha, .ref te, .ref bt, .int bL, .int tA, .int tL, .int tK, .int tV, .ref an, .ref vs])), (al, .inl (G.2.1, 159, .inl g_1468))] H locs → lv_has ls 2 [(1, .int x_1467), (0, .ref mo)] → W p_ l e_ ({ frames := 0, cells := 0, slots := 0, locals := 0 }) s_ m_ ar_ be_ me_ cd_ H locs 0 0 Q (F0 m_ 53 ls []) := by
      intro n_
      induction n_ with
      | zero => intro j x_1467 g_1468 ex_1467 eg_1468 hj hm_; exact absurd hm_ (Nat.not_lt_zero _)
      | succ n_ ihK_1466 =>
        intro j x_1467 g_1468 ex_1467 eg_1468 hj hm_ H locs ls hW hl
        subst ex_1467
        subst eg_1468
        refine lv_iload_n hx hb dX11_save_53 rfl (lv_at hl 0 rfl) ?_
        refine lv_bipush (v := 7) hx hb dX11_save_54 (by decide) ?_
        refine lv_icmp_ge (tgt := 93) hx hb dX11_save_56 (by decide) (fun c_1469 => ?_) (fun c_1469 => ?_)
        · replace c_1469 := Int32.not_lt.mpr c_1469
          have c_1469n : ¬ j < 7 := fun q => c_1469 ((nI_ltI (a := j) (b := 7) (by omega) (by omega)).mpr q)
          refine lv_aload_n hx hb dX11_save_93 rfl (lv_at hl 1 rfl) ?_
          refine g_get (k := 0) (v := .ref al) C hW 0 rfl rfl jnX11 (by decide) k_fl_X11_7 rfl dX11_save_94 ?_
          refine lv_iconst (v := 4) hx hb dX11_save_97 (by decide) ?_
          refine lv_dup2_11 hx hb dX11_save_98 rfl rfl ?_
          refine g_ald C hW 1 rfl (vp_in_nI (n := 4) (by omega) (by omega)) dX11_save_99 ?_
          refine lv_as (y := (fb_put a (ckA a) (103 + 7 * u) j) 4) (rfl) ?_
          refine lv_as (y := nI u) (by rw [fb_put_out (by omega)]; exact e4) ?_
          refine lv_iconst (v := 1) hx hb dX11_save_100 (by decide) ?_
          refine lv_iadd hx hb dX11_save_101 ?_
          refine lv_as (y := nI (u + 1)) (nI_1 u) ?_
          refine g_ast (w' := [(mo, .inr (9, [.ref al, .ref ke, .ref ik, .ref rq, .long mab, .long mbe, .ref so, .ref ha, .ref te, .ref bt, .int bL, .int tA, .int tL, .int tK, .int tV, .ref an, .ref vs])), (al, .inl (G.2.1, 159, .inl (upd (fb_put a (ckA a) (103 + 7 * u) j) 4 (nI (u + 1)))))]) C hW 1 rfl (vp_in_nI (n := 4) (by omega) (by omega)) (by rw [show (4 : Int32).toNatClampNeg = 4 from rfl]; rfl) dX11_save_102 ?_
          clear hW H locs; intro H locs hW
          subst hQ
          exact g_vret C hW hrt ⟨(), trivial, by (rw [show j = 7 by omega, svA, if_neg (by omega)])⟩ dX11_save_103
        · replace c_1469 := Int32.not_le.mp c_1469
          have c_1469n : j < 7 := (nI_ltI (a := j) (b := 7) (by omega) (by omega)).mp c_1469
          refine lv_aload_n hx hb dX11_save_59 rfl (lv_at hl 1 rfl) ?_
          refine g_get (k := 0) (v := .ref al) C hW 0 rfl rfl jnX11 (by decide) k_fl_X11_7 rfl dX11_save_60 ?_
          refine lv_bipush (v := 103) hx hb dX11_save_63 (by decide) ?_
          refine lv_bipush (v := 7) hx hb dX11_save_65 (by decide) ?_
          refine lv_aload_n hx hb dX11_save_67 rfl (lv_at hl 1 rfl) ?_
          refine g_get (k := 0) (v := .ref al) C hW 0 rfl rfl jnX11 (by decide) k_fl_X11_7 rfl dX11_save_68 ?_
          refine lv_iconst (v := 4) hx hb dX11_save_71 (by decide) ?_
          refine g_ald C hW 1 rfl (vp_in_nI (n := 4) (by omega) (by omega)) dX11_save_72 ?_
          refine lv_as (y := (fb_put a (ckA a) (103 + 7 * u) j) 4) (rfl) ?_
          refine lv_as (y := nI u) (by rw [fb_put_out (by omega)]; exact e4) ?_
          refine lv_imul hx hb dX11_save_73 ?_
          refine lv_iadd hx hb dX11_save_74 ?_
          refine lv_iload_n hx hb dX11_save_75 rfl (lv_at hl 0 rfl) ?_
          refine lv_iadd hx hb dX11_save_76 ?_
          refine lv_aload_n hx hb dX11_save_77 rfl (lv_at hl 1 rfl) ?_
          refine g_get (k := 0) (v := .ref al) C hW 0 rfl rfl jnX11 (by decide) k_fl_X11_7 rfl dX11_save_78 ?_
          refine lv_bipush (v := 6) hx hb dX11_save_81 (by decide) ?_
          refine lv_iload_n hx hb dX11_save_83 rfl (lv_at hl 0 rfl) ?_
          refine lv_iadd hx hb dX11_save_84 ?_
          refine g_ald C hW 1 rfl (ix_in (show (6 + (nI j)) = nI (6 + j) from (by first | rfl | (simp only [nI_lit, nI_add, pk_mul]; done) | (simp only [nI_lit, nI_add, pk_mul]; congr 1; omega))) (by omega) (by omega)) dX11_save_85 ?_
          refine lv_as (y := (fb_put a (ckA a) (103 + 7 * u) j) (6 + j)) (by rw [show (6 + (nI j)).toNatClampNeg = (6 + j) from ix_cl (show (6 + (nI j)) = nI (6 + j) from (by first | rfl | (simp only [nI_lit, nI_add, pk_mul]; done) | (simp only [nI_lit, nI_add, pk_mul]; congr 1; omega))) (Nat.lt_of_lt_of_le (m := 159) (by omega) (by omega))]) ?_
          refine lv_as (y := ckA a j) (by rw [fb_put_out (by omega)]; rfl) ?_
          refine g_ast (w' := [(mo, .inr (9, [.ref al, .ref ke, .ref ik, .ref rq, .long mab, .long mbe, .ref so, .ref ha, .ref te, .ref bt, .int bL, .int tA, .int tL, .int tK, .int tV, .ref an, .ref vs])), (al, .inl (G.2.1, 159, .inl (upd (fb_put a (ckA a) (103 + 7 * u) j) (103 + 7 * u + j) (ckA a j))))]) C hW 1 rfl (ix_in (show ((103 + (7 * (nI u))) + (nI j)) = nI (103 + 7 * u + j) from (by first | rfl | (simp only [nI_lit, nI_add, pk_mul]; done) | (simp only [nI_lit, nI_add, pk_mul]; congr 1; omega))) (by omega) (by omega)) (by rw [show ((103 + (7 * (nI u))) + (nI j)).toNatClampNeg = (103 + 7 * u + j) from ix_cl (show ((103 + (7 * (nI u))) + (nI j)) = nI (103 + 7 * u + j) from (by first | rfl | (simp only [nI_lit, nI_add, pk_mul]; done) | (simp only [nI_lit, nI_add, pk_mul]; congr 1; omega))) (Nat.lt_of_lt_of_le (m := 159) (by omega) (by omega))]; rfl) dX11_save_86 ?_
          clear hW H locs; intro H locs hW
          refine lv_iinc (v := (nI j) + 1) (lv' := [(1, .int ((nI j) + 1)), (0, .ref mo)]) hx hb dX11_save_87 hl (k := 0) rfl rfl (by decide) rfl ?_
          clear hl ls; intro ls hl
          refine lv_goto (tgt := 53) hx hb dX11_save_90 (by decide) ?_
          exact ihK_1466 (j + 1) ((nI j) + 1) (upd (fb_put a (ckA a) (103 + 7 * u) j) (103 + 7 * u + j) (ckA a j)) (by exact nI_1 _) (by exact fb_put_succ _ _ _ _) (by first | omega | assumption | (simp; done)) (by omega) _ _ _ hW (lv_sub hl [0, 1] rfl)
    exact K_1466 _ 0 0 a (by first | exact rfl | (simp; done)) (by exact (fb_put_0 _ _ _).symm) (by first | omega | assumption | (simp; done)) (Nat.lt_succ_self _) _ _ _ hW (lv_sub hl [0, 1] rfl)
  · have c_1465n : u = 8 := (nI_eq (a := u) (b := 8) (by omega) (by omega)).mp c_1465
    exfalso; omega
set_option maxHeartbeats 4000000 in
set_option maxRecDepth 100000 in
theorem c_X11_save_8 (l : Launch) (G : gT) (mo al ke ik rq so ha te bt an vs : Nat) (mab mbe : Int64) (bL tA tL tK tV : Int32) (a : Nat → Int32) (e4 : a 4 = nI 8) : MV l G yX11_save cX11_save 2 ({ frames := 0, cells := 0, slots := 0, locals := 0 }) [.ref mo] [(mo, .inr (9, [.ref al, .ref ke, .ref ik, .ref rq, .long mab, .long mbe, .ref so, .ref ha, .ref te, .ref bt, .int bL, .int tA, .int tL, .int tK, .int tV, .ref an, .ref vs])), (al, .inl (G.2.1, 159, .inl a))] (fun w1 => ∃ u_ : Unit, (True) ∧ w1 = [(mo, .inr (9, [.ref al, .ref ke, .ref ik, .ref rq, .long mab, .long mbe, .ref so, .ref ha, .ref te, .ref bt, .int bL, .int tA, .int tL, .int tK, .int tV, .ref an, .ref vs])), (al, .inl (G.2.1, 159, .inl (svA a 8)))]) := by
  refine MV.mk (by decide) (Nat.le_of_ble_eq_true rfl) ?_
  intro p_ e_ s_ m_ ar_ be_ me_ cd_ A_ ls C hrt hW hl
  have hx := C.1; have hb := C.2.1; have hown := C.2.2.2.1; have ht := C.2.2.2.2.1
  replace hl : lv_has ls 2 [(0, .ref mo)] := hl
  generalize hQ : MQ be_ _ ar_ s_ 0 0 A_ = Q
  refine lv_aload_n hx hb dX11_save_0 rfl (lv_at hl 0 rfl) ?_
  refine g_get (k := 0) (v := .ref al) C hW 0 rfl rfl jnX11 (by decide) k_fl_X11_7 rfl dX11_save_1 ?_
  refine lv_iconst (v := 4) hx hb dX11_save_4 (by decide) ?_
  refine g_ald C hW 1 rfl (vp_in_nI (n := 4) (by omega) (by omega)) dX11_save_5 ?_
  refine lv_as (y := a 4) (rfl) ?_
  refine lv_as (y := 8) (e4) ?_
  refine lv_bipush (v := 8) hx hb dX11_save_6 (by decide) ?_
  refine lv_icmp_ne (tgt := 51) hx hb dX11_save_8 (by decide) (fun c_1470 => ?_) (fun c_1470 => ?_)
  · exfalso; exact absurd c_1470 (by decide)
  · refine lv_iconst (v := 0) hx hb dX11_save_11 (by decide) ?_
    refine lv_istore_n (lv' := [(1, .int 0), (0, .ref mo)]) hx hb dX11_save_12 rfl hl (by decide) rfl ?_
    clear hl ls; intro ls hl
    have K_1471 : ∀ (n_ : Nat) (j : Nat) (x_1472 : Int32) (g_1473 : Nat → Int32) (_ : x_1472 = nI j) (_ : g_1473 = (fb_put a (fun k => a (110 + k)) 103 j)) (_ : j ≤ 49) (_ : 49 - j < n_) (H : Heap) (locs : List Loc) (ls : Array Slot), Wd G A_ s_.heap [(mo, .inr (9, [.ref al, .ref ke, .ref ik, .ref rq, .long mab, .long mbe, .ref so, .ref ha, .ref te, .ref bt, .int bL, .int tA, .int tL, .int tK, .int tV, .ref an, .ref vs])), (al, .inl (G.2.1, 159, .inl g_1473))] H locs → lv_has ls 2 [(1, .int x_1472), (0, .ref mo)] → W p_ l e_ ({ frames := 0, cells := 0, slots := 0, locals := 0 }) s_ m_ ar_ be_ me_ cd_ H locs 0 0 Q (F0 m_ 13 ls []) := by
      intro n_
      induction n_ with
      | zero => intro j x_1472 g_1473 ex_1472 eg_1473 hj hm_; exact absurd hm_ (Nat.not_lt_zero _)
      | succ n_ ihK_1471 =>
        intro j x_1472 g_1473 ex_1472 eg_1473 hj hm_ H locs ls hW hl
        subst ex_1472
        subst eg_1473
        refine lv_iload_n hx hb dX11_save_13 rfl (lv_at hl 0 rfl) ?_
        refine lv_bipush (v := 49) hx hb dX11_save_14 (by decide) ?_
        refine lv_icmp_ge (tgt := 43) hx hb dX11_save_16 (by decide) (fun c_1474 => ?_) (fun c_1474 => ?_)
        · replace c_1474 := Int32.not_lt.mpr c_1474
          have c_1474n : ¬ j < 49 := fun q => c_1474 ((nI_ltI (a := j) (b := 49) (by omega) (by omega)).mpr q)
          obtain rfl : j = 49 := by omega
          refine lv_aload_n hx hb dX11_save_43 rfl (lv_at hl 1 rfl) ?_
          refine g_get (k := 0) (v := .ref al) C hW 0 rfl rfl jnX11 (by decide) k_fl_X11_7 rfl dX11_save_44 ?_
          refine lv_iconst (v := 4) hx hb dX11_save_47 (by decide) ?_
          refine lv_bipush (v := 7) hx hb dX11_save_48 (by decide) ?_
          refine g_ast (w' := [(mo, .inr (9, [.ref al, .ref ke, .ref ik, .ref rq, .long mab, .long mbe, .ref so, .ref ha, .ref te, .ref bt, .int bL, .int tA, .int tL, .int tK, .int tV, .ref an, .ref vs])), (al, .inl (G.2.1, 159, .inl (upd (fb_put a (fun k => a (110 + k)) 103 49) 4 7)))]) C hW 1 rfl (vp_in_nI (n := 4) (by omega) (by omega)) (by rw [show (4 : Int32).toNatClampNeg = 4 from rfl]; rfl) dX11_save_50 ?_
          clear hW H locs; intro H locs hW
          refine lv_iconst (v := 0) hx hb dX11_save_51 (by decide) ?_
          refine lv_istore_n (lv' := [(1, .int 0), (0, .ref mo)]) hx hb dX11_save_52 rfl hl (by decide) rfl ?_
          clear hl ls; intro ls hl
          have K_1475 : ∀ (n_ : Nat) (j : Nat) (x_1476 : Int32) (g_1477 : Nat → Int32) (_ : x_1476 = nI j) (_ : g_1477 = (fb_put (upd (fb_put a (fun k => a (110 + k)) 103 49) 4 7) (ckA a) 152 j)) (_ : j ≤ 7) (_ : 7 - j < n_) (H : Heap) (locs : List Loc) (ls : Array Slot), Wd G A_ s_.heap [(mo, .inr (9, [.ref al, .ref ke, .ref ik, .ref rq, .long mab, .long mbe, .ref so, .ref ha, .ref te, .ref bt, .int bL, .int tA, .int tL, .int tK, .int tV, .ref an, .ref vs])), (al, .inl (G.2.1, 159, .inl g_1477))] H locs → lv_has ls 2 [(1, .int x_1476), (0, .ref mo)] → W p_ l e_ ({ frames := 0, cells := 0, slots := 0, locals := 0 }) s_ m_ ar_ be_ me_ cd_ H locs 0 0 Q (F0 m_ 53 ls []) := by
            intro n_
            induction n_ with
            | zero => intro j x_1476 g_1477 ex_1476 eg_1477 hj hm_; exact absurd hm_ (Nat.not_lt_zero _)
            | succ n_ ihK_1475 =>
              intro j x_1476 g_1477 ex_1476 eg_1477 hj hm_ H locs ls hW hl
              subst ex_1476
              subst eg_1477
              refine lv_iload_n hx hb dX11_save_53 rfl (lv_at hl 0 rfl) ?_
              refine lv_bipush (v := 7) hx hb dX11_save_54 (by decide) ?_
              refine lv_icmp_ge (tgt := 93) hx hb dX11_save_56 (by decide) (fun c_1478 => ?_) (fun c_1478 => ?_)
              · replace c_1478 := Int32.not_lt.mpr c_1478
                have c_1478n : ¬ j < 7 := fun q => c_1478 ((nI_ltI (a := j) (b := 7) (by omega) (by omega)).mpr q)
                refine lv_aload_n hx hb dX11_save_93 rfl (lv_at hl 1 rfl) ?_
                refine g_get (k := 0) (v := .ref al) C hW 0 rfl rfl jnX11 (by decide) k_fl_X11_7 rfl dX11_save_94 ?_
                refine lv_iconst (v := 4) hx hb dX11_save_97 (by decide) ?_
                refine lv_dup2_11 hx hb dX11_save_98 rfl rfl ?_
                refine g_ald C hW 1 rfl (vp_in_nI (n := 4) (by omega) (by omega)) dX11_save_99 ?_
                refine lv_as (y := (fb_put (upd (fb_put a (fun k => a (110 + k)) 103 49) 4 7) (ckA a) 152 j) 4) (rfl) ?_
                refine lv_as (y := 7) (by rw [fb_put_out (by omega), pk_us]) ?_
                refine lv_iconst (v := 1) hx hb dX11_save_100 (by decide) ?_
                refine lv_iadd hx hb dX11_save_101 ?_
                refine lv_as (y := nI 8) (rfl) ?_
                refine g_ast (w' := [(mo, .inr (9, [.ref al, .ref ke, .ref ik, .ref rq, .long mab, .long mbe, .ref so, .ref ha, .ref te, .ref bt, .int bL, .int tA, .int tL, .int tK, .int tV, .ref an, .ref vs])), (al, .inl (G.2.1, 159, .inl (upd (fb_put (upd (fb_put a (fun k => a (110 + k)) 103 49) 4 7) (ckA a) 152 j) 4 (nI 8))))]) C hW 1 rfl (vp_in_nI (n := 4) (by omega) (by omega)) (by rw [show (4 : Int32).toNatClampNeg = 4 from rfl]; rfl) dX11_save_102 ?_
                clear hW H locs; intro H locs hW
                subst hQ
                exact g_vret C hW hrt ⟨(), trivial, by (rw [show j = 7 by omega, svA, if_pos rfl])⟩ dX11_save_103
              · replace c_1478 := Int32.not_le.mp c_1478
                have c_1478n : j < 7 := (nI_ltI (a := j) (b := 7) (by omega) (by omega)).mp c_1478
                refine lv_aload_n hx hb dX11_save_59 rfl (lv_at hl 1 rfl) ?_
                refine g_get (k := 0) (v := .ref al) C hW 0 rfl rfl jnX11 (by decide) k_fl_X11_7 rfl dX11_save_60 ?_
                refine lv_bipush (v := 103) hx hb dX11_save_63 (by decide) ?_
                refine lv_bipush (v := 7) hx hb dX11_save_65 (by decide) ?_
                refine lv_aload_n hx hb dX11_save_67 rfl (lv_at hl 1 rfl) ?_
                refine g_get (k := 0) (v := .ref al) C hW 0 rfl rfl jnX11 (by decide) k_fl_X11_7 rfl dX11_save_68 ?_
                refine lv_iconst (v := 4) hx hb dX11_save_71 (by decide) ?_
                refine g_ald C hW 1 rfl (vp_in_nI (n := 4) (by omega) (by omega)) dX11_save_72 ?_
                refine lv_as (y := (fb_put (upd (fb_put a (fun k => a (110 + k)) 103 49) 4 7) (ckA a) 152 j) 4) (rfl) ?_
                refine lv_as (y := 7) (by rw [fb_put_out (by omega), pk_us]) ?_
                refine lv_imul hx hb dX11_save_73 ?_
                refine lv_iadd hx hb dX11_save_74 ?_
                refine lv_iload_n hx hb dX11_save_75 rfl (lv_at hl 0 rfl) ?_
                refine lv_iadd hx hb dX11_save_76 ?_
                refine lv_aload_n hx hb dX11_save_77 rfl (lv_at hl 1 rfl) ?_
                refine g_get (k := 0) (v := .ref al) C hW 0 rfl rfl jnX11 (by decide) k_fl_X11_7 rfl dX11_save_78 ?_
                refine lv_bipush (v := 6) hx hb dX11_save_81 (by decide) ?_
                refine lv_iload_n hx hb dX11_save_83 rfl (lv_at hl 0 rfl) ?_
                refine lv_iadd hx hb dX11_save_84 ?_
                refine g_ald C hW 1 rfl (ix_in (show (6 + (nI j)) = nI (6 + j) from (by first | rfl | (simp only [nI_lit, nI_add, pk_mul]; done) | (simp only [nI_lit, nI_add, pk_mul]; congr 1; omega))) (by omega) (by omega)) dX11_save_85 ?_
                refine lv_as (y := (fb_put (upd (fb_put a (fun k => a (110 + k)) 103 49) 4 7) (ckA a) 152 j) (6 + j)) (by rw [show (6 + (nI j)).toNatClampNeg = (6 + j) from ix_cl (show (6 + (nI j)) = nI (6 + j) from (by first | rfl | (simp only [nI_lit, nI_add, pk_mul]; done) | (simp only [nI_lit, nI_add, pk_mul]; congr 1; omega))) (Nat.lt_of_lt_of_le (m := 159) (by omega) (by omega))]) ?_
                refine lv_as (y := ckA a j) (by rw [fb_put_out (by omega), pk_un (by omega), fb_put_out (by omega)]; rfl) ?_
                refine g_ast (w' := [(mo, .inr (9, [.ref al, .ref ke, .ref ik, .ref rq, .long mab, .long mbe, .ref so, .ref ha, .ref te, .ref bt, .int bL, .int tA, .int tL, .int tK, .int tV, .ref an, .ref vs])), (al, .inl (G.2.1, 159, .inl (upd (fb_put (upd (fb_put a (fun k => a (110 + k)) 103 49) 4 7) (ckA a) 152 j) (152 + j) (ckA a j))))]) C hW 1 rfl (ix_in (show ((103 + (7 * 7)) + (nI j)) = nI (152 + j) from (by (simp only [nI_lit, nI_add, pk_mul]))) (by omega) (by omega)) (by rw [show ((103 + (7 * 7)) + (nI j)).toNatClampNeg = (152 + j) from ix_cl (show ((103 + (7 * 7)) + (nI j)) = nI (152 + j) from (by (simp only [nI_lit, nI_add, pk_mul]))) (Nat.lt_of_lt_of_le (m := 159) (by omega) (by omega))]; rfl) dX11_save_86 ?_
                clear hW H locs; intro H locs hW
                refine lv_iinc (v := (nI j) + 1) (lv' := [(1, .int ((nI j) + 1)), (0, .ref mo)]) hx hb dX11_save_87 hl (k := 0) rfl rfl (by decide) rfl ?_
                clear hl ls; intro ls hl
                refine lv_goto (tgt := 53) hx hb dX11_save_90 (by decide) ?_
                exact ihK_1475 (j + 1) ((nI j) + 1) (upd (fb_put (upd (fb_put a (fun k => a (110 + k)) 103 49) 4 7) (ckA a) 152 j) (152 + j) (ckA a j)) (by exact nI_1 _) (by exact fb_put_succ _ _ _ _) (by first | omega | assumption | (simp; done)) (by omega) _ _ _ hW (lv_sub hl [0, 1] rfl)
          exact K_1475 _ 0 0 (upd (fb_put a (fun k => a (110 + k)) 103 49) 4 7) (by first | exact rfl | (simp; done)) (by exact (fb_put_0 _ _ _).symm) (by first | omega | assumption | (simp; done)) (Nat.lt_succ_self _) _ _ _ hW (lv_sub hl [0, 1] rfl)
        · replace c_1474 := Int32.not_le.mp c_1474
          have c_1474n : j < 49 := (nI_ltI (a := j) (b := 49) (by omega) (by omega)).mp c_1474
          refine lv_aload_n hx hb dX11_save_19 rfl (lv_at hl 1 rfl) ?_
          refine g_get (k := 0) (v := .ref al) C hW 0 rfl rfl jnX11 (by decide) k_fl_X11_7 rfl dX11_save_20 ?_
          refine lv_bipush (v := 103) hx hb dX11_save_23 (by decide) ?_
          refine lv_iload_n hx hb dX11_save_25 rfl (lv_at hl 0 rfl) ?_
          refine lv_iadd hx hb dX11_save_26 ?_
          refine lv_aload_n hx hb dX11_save_27 rfl (lv_at hl 1 rfl) ?_
          refine g_get (k := 0) (v := .ref al) C hW 0 rfl rfl jnX11 (by decide) k_fl_X11_7 rfl dX11_save_28 ?_
          refine lv_bipush (v := 110) hx hb dX11_save_31 (by decide) ?_
          refine lv_iload_n hx hb dX11_save_33 rfl (lv_at hl 0 rfl) ?_
          refine lv_iadd hx hb dX11_save_34 ?_
          refine g_ald C hW 1 rfl (ix_in (show (110 + (nI j)) = nI (110 + j) from (by first | rfl | (simp only [nI_lit, nI_add, pk_mul]; done) | (simp only [nI_lit, nI_add, pk_mul]; congr 1; omega))) (by omega) (by omega)) dX11_save_35 ?_
          refine lv_as (y := (fb_put a (fun k => a (110 + k)) 103 j) (110 + j)) (by rw [show (110 + (nI j)).toNatClampNeg = (110 + j) from ix_cl (show (110 + (nI j)) = nI (110 + j) from (by first | rfl | (simp only [nI_lit, nI_add, pk_mul]; done) | (simp only [nI_lit, nI_add, pk_mul]; congr 1; omega))) (Nat.lt_of_lt_of_le (m := 159) (by omega) (by omega))]) ?_
          refine lv_as (y := a (110 + j)) (by rw [fb_put_out (by omega)]) ?_
          refine g_ast (w' := [(mo, .inr (9, [.ref al, .ref ke, .ref ik, .ref rq, .long mab, .long mbe, .ref so, .ref ha, .ref te, .ref bt, .int bL, .int tA, .int tL, .int tK, .int tV, .ref an, .ref vs])), (al, .inl (G.2.1, 159, .inl (upd (fb_put a (fun k => a (110 + k)) 103 j) (103 + j) (a (110 + j)))))]) C hW 1 rfl (ix_in (show (103 + (nI j)) = nI (103 + j) from (by first | rfl | (simp only [nI_lit, nI_add, pk_mul]; done) | (simp only [nI_lit, nI_add, pk_mul]; congr 1; omega))) (by omega) (by omega)) (by rw [show (103 + (nI j)).toNatClampNeg = (103 + j) from ix_cl (show (103 + (nI j)) = nI (103 + j) from (by first | rfl | (simp only [nI_lit, nI_add, pk_mul]; done) | (simp only [nI_lit, nI_add, pk_mul]; congr 1; omega))) (Nat.lt_of_lt_of_le (m := 159) (by omega) (by omega))]; rfl) dX11_save_36 ?_
          clear hW H locs; intro H locs hW
          refine lv_iinc (v := (nI j) + 1) (lv' := [(1, .int ((nI j) + 1)), (0, .ref mo)]) hx hb dX11_save_37 hl (k := 0) rfl rfl (by decide) rfl ?_
          clear hl ls; intro ls hl
          refine lv_goto (tgt := 13) hx hb dX11_save_40 (by decide) ?_
          exact ihK_1471 (j + 1) ((nI j) + 1) (upd (fb_put a (fun k => a (110 + k)) 103 j) (103 + j) (a (110 + j))) (by exact nI_1 _) (by exact fb_put_succ a (fun k => a (110 + k)) 103 j) (by first | omega | assumption | (simp; done)) (by omega) _ _ _ hW (lv_sub hl [0, 1] rfl)
    exact K_1471 _ 0 0 a (by first | exact rfl | (simp; done)) (by exact (fb_put_0 _ _ _).symm) (by first | omega | assumption | (simp; done)) (Nat.lt_succ_self _) _ _ _ hW (lv_sub hl [0, 1] rfl)
theorem c_X11_save (l : Launch) (G : gT) (mo al ke ik rq so ha te bt an vs : Nat) (mab mbe : Int64) (bL tA tL tK tV : Int32) (a : Nat → Int32) (u : Nat) (e4 : a 4 = nI u) (hu : u ≤ 8) : MV l G yX11_save cX11_save 2 ({ frames := 0, cells := 0, slots := 0, locals := 0 }) [.ref mo] [(mo, .inr (9, [.ref al, .ref ke, .ref ik, .ref rq, .long mab, .long mbe, .ref so, .ref ha, .ref te, .ref bt, .int bL, .int tA, .int tL, .int tK, .int tV, .ref an, .ref vs])), (al, .inl (G.2.1, 159, .inl a))] (fun w1 => ∃ u_ : Unit, (True) ∧ w1 = [(mo, .inr (9, [.ref al, .ref ke, .ref ik, .ref rq, .long mab, .long mbe, .ref so, .ref ha, .ref te, .ref bt, .int bL, .int tA, .int tL, .int tK, .int tV, .ref an, .ref vs])), (al, .inl (G.2.1, 159, .inl (svA a u)))]) := by
  by_cases h : u = 8
  · subst h; exact c_X11_save_8 l G mo al ke ik rq so ha te bt an vs mab mbe bL tA tL tK tV a e4
  · exact c_X11_save_u l G mo al ke ik rq so ha te bt an vs mab mbe bL tA tL tK tV a u e4 (by omega)
set_option maxHeartbeats 4000000 in
set_option maxRecDepth 100000 in
theorem c_X11_isAt (l : Launch) (G : gT) (of zL : Nat) (a : Nat → Int32) (k : Nat) (hL : 40 ≤ zL ∧ zL ≤ 159) (hk : k < 7) : MI l G yX11_isAt cX11_isAt 2 .boolean ({ frames := 0, cells := 0, slots := 0, locals := 0 }) [.ref of, .int (nI k)] [(of, .inl (G.2.1, zL, .inl a))] (fun (r : Int32) w1 => (r = bI (atA a k)) ∧ w1 = [(of, .inl (G.2.1, zL, .inl a))]) := by
  refine MI.mk (by decide) (Nat.le_of_ble_eq_true rfl) ?_
  intro p_ e_ s_ m_ ar_ be_ me_ cd_ A_ ls C hrt hW hl
  have hx := C.1; have hb := C.2.1; have hown := C.2.2.2.1; have ht := C.2.2.2.2.1
  replace hl : lv_has ls 2 [(0, .ref of), (1, .int (nI k))] := hl
  generalize hQ : MQ be_ _ ar_ s_ 0 0 A_ = Q
  refine lv_aload_n hx hb dX11_isAt_0 rfl (lv_at hl 0 rfl) ?_
  refine lv_bipush (v := 9) hx hb dX11_isAt_1 (by decide) ?_
  refine g_ald C hW 0 rfl (vp_in_nI (n := 9) (by omega) (by omega)) dX11_isAt_3 ?_
  refine lv_as (y := a 9) (rfl) ?_
  refine lv_iconst (v := 1) hx hb dX11_isAt_4 (by decide) ?_
  have J_1481 : ∀ (y_1480 : Int32) (_ : y_1480 = (if (a 9) = 1 then if (a (26 + k)) = (a 8) then 1 else 0 else 0)), ∀ (H : Heap) (locs : List Loc) (ls : Array Slot), Wd G A_ s_.heap [(of, .inl (G.2.1, zL, .inl a))] H locs → lv_has ls 2 [(0, .ref of), (1, .int (nI k))] → W p_ l e_ ({ frames := 0, cells := 0, slots := 0, locals := 0 }) s_ m_ ar_ be_ me_ cd_ H locs 0 0 Q (F0 m_ 26 ls [.int y_1480]) := by
    intro y_1480 ey_1480 H locs ls hW hl
    subst hQ
    exact g_zret (v := y_1480) C hW hrt (by (simp only [ey_1480]; rw [dd2]; exact bI_nar _)) ⟨by (simp only [ey_1480]; exact dd2), rfl⟩ dX11_isAt_26
  refine lv_icmp_ne (tgt := 25) hx hb dX11_isAt_5 (by decide) (fun c_1479 => ?_) (fun c_1479 => ?_)
  · refine lv_iconst (v := 0) hx hb dX11_isAt_25 (by decide) ?_
    exact J_1481 0 (by first | (simp only [c_1479, if_true, if_false, reduceIte]; done) | (simp [c_1479]; done) | rfl | (rw [if_neg c_1479]; done)) _ _ _ hW (lv_sub hl [0, 1] rfl)
  · refine lv_aload_n hx hb dX11_isAt_8 rfl (lv_at hl 0 rfl) ?_
    refine lv_bipush (v := 26) hx hb dX11_isAt_9 (by decide) ?_
    refine lv_iload_n hx hb dX11_isAt_11 rfl (lv_at hl 1 rfl) ?_
    refine lv_iadd hx hb dX11_isAt_12 ?_
    refine g_ald C hW 0 rfl (ix_in (show (26 + (nI k)) = nI (26 + k) from (by first | rfl | (simp only [nI_lit, nI_add, pk_mul]; done) | (simp only [nI_lit, nI_add, pk_mul]; congr 1; omega))) (by omega) (by omega)) dX11_isAt_13 ?_
    refine lv_as (y := a (26 + k)) (by rw [show (26 + (nI k)).toNatClampNeg = (26 + k) from ix_cl (show (26 + (nI k)) = nI (26 + k) from (by first | rfl | (simp only [nI_lit, nI_add, pk_mul]; done) | (simp only [nI_lit, nI_add, pk_mul]; congr 1; omega))) (Nat.lt_of_lt_of_le (m := zL) (by omega) (by omega))]) ?_
    refine lv_aload_n hx hb dX11_isAt_14 rfl (lv_at hl 0 rfl) ?_
    refine lv_bipush (v := 8) hx hb dX11_isAt_15 (by decide) ?_
    refine g_ald C hW 0 rfl (vp_in_nI (n := 8) (by omega) (by omega)) dX11_isAt_17 ?_
    refine lv_as (y := a 8) (rfl) ?_
    refine lv_icmp_ne (tgt := 25) hx hb dX11_isAt_18 (by decide) (fun c_1482 => ?_) (fun c_1482 => ?_)
    · refine lv_iconst (v := 0) hx hb dX11_isAt_25 (by decide) ?_
      exact J_1481 0 (by first | (simp only [c_1479, c_1482, if_true, if_false, reduceIte]; done) | (simp [c_1479, c_1482]; done) | rfl | (rw [if_pos c_1479, if_neg c_1482]; done)) _ _ _ hW (lv_sub hl [0, 1] rfl)
    · refine lv_iconst (v := 1) hx hb dX11_isAt_21 (by decide) ?_
      refine lv_goto (tgt := 26) hx hb dX11_isAt_22 (by decide) ?_
      exact J_1481 1 (by first | (simp only [c_1479, c_1482, if_true, if_false, reduceIte]; done) | (simp [c_1479, c_1482]; done) | rfl | (rw [if_pos c_1479, if_pos c_1482]; done)) _ _ _ hW (lv_sub hl [0, 1] rfl)
set_option maxHeartbeats 4000000 in
set_option maxRecDepth 100000 in
theorem c_X11_canHit (l : Launch) (G : gT) (of zL : Nat) (a : Nat → Int32) (k : Nat) (hL : 40 ≤ zL ∧ zL ≤ 159) (hk : k < 7) : MI l G yX11_canHit cX11_canHit 2 .boolean ({ frames := 1, cells := 0, slots := 0, locals := 21 }) [.ref of, .int (nI k)] [(of, .inl (G.2.1, zL, .inl a))] (fun (r : Int32) w1 => (r = bI (chA a k)) ∧ w1 = [(of, .inl (G.2.1, zL, .inl a))]) := by
  refine MI.mk (by decide) (Nat.le_of_ble_eq_true rfl) ?_
  intro p_ e_ s_ m_ ar_ be_ me_ cd_ A_ ls C hrt hW hl
  have hx := C.1; have hb := C.2.1; have hown := C.2.2.2.1; have ht := C.2.2.2.2.1
  replace hl : lv_has ls 2 [(0, .ref of), (1, .int (nI k))] := hl
  generalize hQ : MQ be_ _ ar_ s_ 0 0 A_ = Q
  refine lv_aload_n hx hb dX11_canHit_0 rfl (lv_at hl 0 rfl) ?_
  refine lv_iload_n hx hb dX11_canHit_1 rfl (lv_at hl 1 rfl) ?_
  refine g_fi C hW [0] rfl (g_runS (As := [.ref of, .int (nI k)]) (rest := []) (wc := [(of, .inl (G.2.1, zL, .inl a))]) C hW hl (c_X11_isAt l G of zL a k (by first | assumption | omega) (by first | assumption | omega) _) k_ml_X11_107 q_X11_isAt (by decide) [0] rfl rfl rfl rfl (Nat.le_of_ble_eq_true rfl) dX11_canHit_2 (by decide)) (fun r_1483 er_1483 => ?_)
  clear hW; intro H locs hW
  refine lv_as (y := bI (atA a k)) er_1483 ?_
  clear er_1483 r_1483
  have J_1486 : ∀ (y_1485 : Int32) (_ : y_1485 = (if (bI (atA a k)) = 0 then 0 else (if (a 12) < 9999 then 1 else 0))), ∀ (H : Heap) (locs : List Loc) (ls : Array Slot), Wd G A_ s_.heap [(of, .inl (G.2.1, zL, .inl a))] H locs → lv_has ls 2 [(0, .ref of), (1, .int (nI k))] → W p_ l e_ ({ frames := 1, cells := 0, slots := 0, locals := 21 }) s_ m_ ar_ be_ me_ cd_ H locs 0 0 Q (F0 m_ 23 ls [.int y_1485]) := by
    intro y_1485 ey_1485 H locs ls hW hl
    subst hQ
    exact g_zret (v := y_1485) C hW hrt (by (simp only [ey_1485]; rw [bd2]; exact bI_nar _)) ⟨by (simp only [ey_1485]; exact bd2), rfl⟩ dX11_canHit_23
  refine lv_if_eq (tgt := 22) hx hb dX11_canHit_5 (by decide) (fun c_1484 => ?_) (fun c_1484 => ?_)
  · refine lv_iconst (v := 0) hx hb dX11_canHit_22 (by decide) ?_
    exact J_1486 0 (by first | (simp only [c_1484, if_true, if_false, reduceIte]; done) | (simp [c_1484]; done) | rfl | (rw [if_pos c_1484]; done)) _ _ _ hW (lv_sub hl [0, 1] rfl)
  · refine lv_aload_n hx hb dX11_canHit_8 rfl (lv_at hl 0 rfl) ?_
    refine lv_bipush (v := 12) hx hb dX11_canHit_9 (by decide) ?_
    refine g_ald C hW 0 rfl (vp_in_nI (n := 12) (by omega) (by omega)) dX11_canHit_11 ?_
    refine lv_as (y := a 12) (rfl) ?_
    refine lv_sipush (v := 9999) hx hb dX11_canHit_12 (by decide) ?_
    refine lv_icmp_ge (tgt := 22) hx hb dX11_canHit_15 (by decide) (fun c_1487 => ?_) (fun c_1487 => ?_)
    · replace c_1487 := Int32.not_lt.mpr c_1487
      refine lv_iconst (v := 0) hx hb dX11_canHit_22 (by decide) ?_
      exact J_1486 0 (by first | (simp only [c_1484, c_1487, if_true, if_false, reduceIte]; done) | (simp [c_1484, c_1487]; done) | rfl | (rw [if_neg c_1484, if_neg c_1487]; done)) _ _ _ hW (lv_sub hl [0, 1] rfl)
    · replace c_1487 := Int32.not_le.mp c_1487
      refine lv_iconst (v := 1) hx hb dX11_canHit_18 (by decide) ?_
      refine lv_goto (tgt := 23) hx hb dX11_canHit_19 (by decide) ?_
      exact J_1486 1 (by first | (simp only [c_1484, c_1487, if_true, if_false, reduceIte]; done) | (simp [c_1484, c_1487]; done) | rfl | (rw [if_neg c_1484, if_pos c_1487]; done)) _ _ _ hW (lv_sub hl [0, 1] rfl)
set_option maxHeartbeats 4000000 in
set_option maxRecDepth 100000 in
theorem c_X11_more (l : Launch) (G : gT) (x9 : Int32)  : MI l G yX11_more cX11_more 1 .int ({ frames := 0, cells := 0, slots := 0, locals := 0 }) [.int x9] [] (fun (r : Int32) w1 => (r = mrA x9) ∧ w1 = []) := by
  refine MI.mk (by decide) (Nat.le_of_ble_eq_true rfl) ?_
  intro p_ e_ s_ m_ ar_ be_ me_ cd_ A_ ls C hrt hW hl
  have hx := C.1; have hb := C.2.1; have hown := C.2.2.2.1; have ht := C.2.2.2.2.1
  replace hl : lv_has ls 1 [(0, .int x9)] := hl
  generalize hQ : MQ be_ _ ar_ s_ 0 0 A_ = Q
  refine lv_iload_n hx hb dX11_more_0 rfl (lv_at hl 0 rfl) ?_
  refine lv_sipush (v := 9999) hx hb dX11_more_1 (by decide) ?_
  have J_1490 : ∀ (y_1489 : Int32) (_ : y_1489 = (if x9 < 9999 then x9 + 1 else 9999)), ∀ (H : Heap) (locs : List Loc) (ls : Array Slot), Wd G A_ s_.heap [] H locs → lv_has ls 1 [(0, .int x9)] → W p_ l e_ ({ frames := 0, cells := 0, slots := 0, locals := 0 }) s_ m_ ar_ be_ me_ cd_ H locs 0 0 Q (F0 m_ 16 ls [.int y_1489]) := by
    intro y_1489 ey_1489 H locs ls hW hl
    subst hQ
    exact g_iret (v := y_1489) C hW hrt ⟨by (simp only [ey_1489]; rfl), rfl⟩ dX11_more_16
  refine lv_icmp_ge (tgt := 13) hx hb dX11_more_4 (by decide) (fun c_1488 => ?_) (fun c_1488 => ?_)
  · replace c_1488 := Int32.not_lt.mpr c_1488
    refine lv_sipush (v := 9999) hx hb dX11_more_13 (by decide) ?_
    exact J_1490 9999 (by first | (simp only [c_1488, if_true, if_false, reduceIte]; done) | (simp [c_1488]; done) | rfl | (rw [if_neg c_1488]; done)) _ _ _ hW (lv_sub hl [0] rfl)
  · replace c_1488 := Int32.not_le.mp c_1488
    refine lv_iload_n hx hb dX11_more_7 rfl (lv_at hl 0 rfl) ?_
    refine lv_iconst (v := 1) hx hb dX11_more_8 (by decide) ?_
    refine lv_iadd hx hb dX11_more_9 ?_
    refine lv_goto (tgt := 16) hx hb dX11_more_10 (by decide) ?_
    exact J_1490 (x9 + 1) (by first | (simp only [c_1488, if_true, if_false, reduceIte]; done) | (simp [c_1488]; done) | rfl | (rw [if_pos c_1488]; done)) _ _ _ hW (lv_sub hl [0] rfl)
set_option maxHeartbeats 4000000 in
set_option maxRecDepth 100000 in
theorem c_X11_goHit (l : Launch) (G : gT) (of zL : Nat) (a : Nat → Int32) (k hr : Nat) (hL : 40 ≤ zL ∧ zL ≤ 159) (hk : k < 7) (e12 : a 12 = nI hr) (hh : hr < 20000) : MI l G yX11_goHit cX11_goHit 3 .int ({ frames := 3, cells := 0, slots := 0, locals := 72 }) [.ref of, .int (nI k)] [(of, .inl (G.2.1, zL, .inl a))] (fun (r : Int32) w1 => ∃ u_ : Unit, (r = bI (crA a k hr (a 8))) ∧ w1 = [(of, .inl (G.2.1, zL, .inl (ghA a (crA a k hr (a 8)))))]) := by
  refine MI.mk (by decide) (Nat.le_of_ble_eq_true rfl) ?_
  intro p_ e_ s_ m_ ar_ be_ me_ cd_ A_ ls C hrt hW hl
  have hx := C.1; have hb := C.2.1; have hown := C.2.2.2.1; have ht := C.2.2.2.2.1
  replace hl : lv_has ls 3 [(0, .ref of), (1, .int (nI k))] := hl
  generalize hQ : MQ be_ _ ar_ s_ 0 0 A_ = Q
  refine lv_aload_n hx hb dX11_goHit_0 rfl (lv_at hl 0 rfl) ?_
  refine lv_iload_n hx hb dX11_goHit_1 rfl (lv_at hl 1 rfl) ?_
  refine lv_aload_n hx hb dX11_goHit_2 rfl (lv_at hl 0 rfl) ?_
  refine lv_bipush (v := 8) hx hb dX11_goHit_3 (by decide) ?_
  refine g_ald C hW 0 rfl (vp_in_nI (n := 8) (by omega) (by omega)) dX11_goHit_5 ?_
  refine lv_as (y := a 8) (rfl) ?_
  refine lv_aload_n hx hb dX11_goHit_6 rfl (lv_at hl 0 rfl) ?_
  refine lv_bipush (v := 12) hx hb dX11_goHit_7 (by decide) ?_
  refine g_ald C hW 0 rfl (vp_in_nI (n := 12) (by omega) (by omega)) dX11_goHit_9 ?_
  refine lv_as (y := a 12) (rfl) ?_
  refine lv_as (y := nI hr) (e12) ?_
  refine g_fi C hW [0] rfl (g_runS (As := [.ref of, .int (nI k), .int (a 8), .int (nI hr)]) (rest := []) (wc := [(of, .inl (G.2.1, zL, .inl a))]) C hW hl (c_X11_carries l G of zL a k hr (a 8) (by first | assumption | omega) (by first | assumption | omega) (by first | assumption | omega) _) k_ml_X11_111 q_X11_carries (by decide) [0] rfl rfl rfl rfl (Nat.le_of_ble_eq_true rfl) dX11_goHit_10 (by decide)) (fun r_1491 er_1491 => ?_)
  clear hW; intro H locs hW
  refine lv_as (y := bI (crA a k hr (a 8))) er_1491 ?_
  clear er_1491 r_1491
  refine lv_istore_n (lv' := [(2, .int (bI (crA a k hr (a 8)))), (0, .ref of), (1, .int (nI k))]) hx hb dX11_goHit_13 rfl hl (by decide) rfl ?_
  clear hl ls; intro ls hl
  refine lv_iload_n hx hb dX11_goHit_14 rfl (lv_at hl 0 rfl) ?_
  refine lv_if_eq (tgt := 42) hx hb dX11_goHit_15 (by decide) (fun c_1492 => ?_) (fun c_1492 => ?_)
  · refine lv_aload_n hx hb dX11_goHit_42 rfl (lv_at hl 1 rfl) ?_
    refine lv_bipush (v := 9) hx hb dX11_goHit_43 (by decide) ?_
    refine lv_iconst (v := 0) hx hb dX11_goHit_45 (by decide) ?_
    refine g_ast (w' := [(of, .inl (G.2.1, zL, .inl (upd a 9 0)))]) C hW 0 rfl (vp_in_nI (n := 9) (by omega) (by omega)) (by rw [show (9 : Int32).toNatClampNeg = 9 from rfl]; rfl) dX11_goHit_46 ?_
    clear hW H locs; intro H locs hW
    refine lv_aload_n hx hb dX11_goHit_47 rfl (lv_at hl 1 rfl) ?_
    refine lv_bipush (v := 10) hx hb dX11_goHit_48 (by decide) ?_
    refine lv_iconst (v := 0) hx hb dX11_goHit_50 (by decide) ?_
    refine g_ast (w' := [(of, .inl (G.2.1, zL, .inl (upd (upd a 9 0) 10 0)))]) C hW 0 rfl (vp_in_nI (n := 10) (by omega) (by omega)) (by rw [show (10 : Int32).toNatClampNeg = 10 from rfl]; rfl) dX11_goHit_51 ?_
    clear hW H locs; intro H locs hW
    refine lv_aload_n hx hb dX11_goHit_52 rfl (lv_at hl 1 rfl) ?_
    refine lv_bipush (v := 11) hx hb dX11_goHit_53 (by decide) ?_
    refine lv_aload_n hx hb dX11_goHit_55 rfl (lv_at hl 1 rfl) ?_
    refine lv_bipush (v := 11) hx hb dX11_goHit_56 (by decide) ?_
    refine g_ald C hW 0 rfl (vp_in_nI (n := 11) (by omega) (by omega)) dX11_goHit_58 ?_
    refine lv_as (y := (upd (upd a 9 0) 10 0) 11) (rfl) ?_
    refine g_fi C hW [] rfl (g_runS (As := [.int ((upd (upd a 9 0) 10 0) 11)]) (rest := [.int 11, .ref of]) (wc := []) C hW hl (c_X11_more l G ((upd (upd a 9 0) 10 0) 11)  _) k_ml_X11_115 q_X11_more (by decide) [] rfl rfl rfl rfl (Nat.le_of_ble_eq_true rfl) dX11_goHit_59 (by decide)) (fun r_1493 er_1493 => ?_)
    clear hW H locs; intro H locs hW
    refine lv_as (y := mrA ((upd (upd a 9 0) 10 0) 11)) er_1493 ?_
    clear er_1493 r_1493
    refine g_ast (w' := [(of, .inl (G.2.1, zL, .inl (upd (upd (upd a 9 0) 10 0) 11 (mrA ((upd (upd a 9 0) 10 0) 11)))))]) C hW 0 rfl (vp_in_nI (n := 11) (by omega) (by omega)) (by rw [show (11 : Int32).toNatClampNeg = 11 from rfl]; rfl) dX11_goHit_62 ?_
    clear hW H locs; intro H locs hW
    refine lv_aload_n hx hb dX11_goHit_63 rfl (lv_at hl 1 rfl) ?_
    refine lv_bipush (v := 12) hx hb dX11_goHit_64 (by decide) ?_
    refine lv_dup2_11 hx hb dX11_goHit_66 rfl rfl ?_
    refine g_ald C hW 0 rfl (vp_in_nI (n := 12) (by omega) (by omega)) dX11_goHit_67 ?_
    refine lv_as (y := (upd (upd (upd a 9 0) 10 0) 11 (mrA ((upd (upd a 9 0) 10 0) 11))) 12) (rfl) ?_
    refine lv_iconst (v := 1) hx hb dX11_goHit_68 (by decide) ?_
    refine lv_iadd hx hb dX11_goHit_69 ?_
    refine g_ast (w' := [(of, .inl (G.2.1, zL, .inl (upd (upd (upd (upd a 9 0) 10 0) 11 (mrA ((upd (upd a 9 0) 10 0) 11))) 12 (((upd (upd (upd a 9 0) 10 0) 11 (mrA ((upd (upd a 9 0) 10 0) 11))) 12) + 1))))]) C hW 0 rfl (vp_in_nI (n := 12) (by omega) (by omega)) (by rw [show (12 : Int32).toNatClampNeg = 12 from rfl]; rfl) dX11_goHit_70 ?_
    clear hW H locs; intro H locs hW
    refine lv_iload_n hx hb dX11_goHit_71 rfl (lv_at hl 0 rfl) ?_
    have J_1496 : ∀ (y_1495 : Int32) (_ : y_1495 = (if (bI (crA a k hr (a 8))) = 0 then 0 else 1)), ∀ (H : Heap) (locs : List Loc) (ls : Array Slot), Wd G A_ s_.heap [(of, .inl (G.2.1, zL, .inl (upd (upd (upd (upd a 9 0) 10 0) 11 (mrA ((upd (upd a 9 0) 10 0) 11))) 12 (((upd (upd (upd a 9 0) 10 0) 11 (mrA ((upd (upd a 9 0) 10 0) 11))) 12) + 1))))] H locs → lv_has ls 3 [(2, .int (bI (crA a k hr (a 8)))), (0, .ref of), (1, .int (nI k))] → W p_ l e_ ({ frames := 3, cells := 0, slots := 0, locals := 72 }) s_ m_ ar_ be_ me_ cd_ H locs 0 0 Q (F0 m_ 80 ls [.int y_1495]) := by
      intro y_1495 ey_1495 H locs ls hW hl
      subst hQ
      exact g_iret (v := y_1495) C hW hrt ⟨(), by (simp only [ey_1495]; exact bz), by first | (rw [ghA, bI_ne.mp c_1492]; rfl) | (rw [ghA, bI_0.mp c_1492]; rfl)⟩ dX11_goHit_80
    refine lv_if_eq (tgt := 79) hx hb dX11_goHit_72 (by decide) (fun c_1494 => ?_) (fun c_1494 => ?_)
    · refine lv_iconst (v := 0) hx hb dX11_goHit_79 (by decide) ?_
      exact J_1496 0 (by first | (simp only [c_1494, if_true, if_false, reduceIte]; done) | (simp [c_1494]; done) | rfl | (rw [if_pos c_1494]; done)) _ _ _ hW (lv_sub hl [0, 1, 2] rfl)
    · refine lv_iconst (v := 1) hx hb dX11_goHit_75 (by decide) ?_
      refine lv_goto (tgt := 80) hx hb dX11_goHit_76 (by decide) ?_
      exact J_1496 1 (by first | (simp only [c_1494, if_true, if_false, reduceIte]; done) | (simp [c_1494]; done) | rfl | (rw [if_neg c_1494]; done)) _ _ _ hW (lv_sub hl [0, 1, 2] rfl)
  · refine lv_aload_n hx hb dX11_goHit_18 rfl (lv_at hl 1 rfl) ?_
    refine lv_bipush (v := 8) hx hb dX11_goHit_19 (by decide) ?_
    refine lv_iconst (v := 1) hx hb dX11_goHit_21 (by decide) ?_
    refine lv_aload_n hx hb dX11_goHit_22 rfl (lv_at hl 1 rfl) ?_
    refine lv_bipush (v := 8) hx hb dX11_goHit_23 (by decide) ?_
    refine g_ald C hW 0 rfl (vp_in_nI (n := 8) (by omega) (by omega)) dX11_goHit_25 ?_
    refine lv_as (y := a 8) (rfl) ?_
    refine lv_isub hx hb dX11_goHit_26 ?_
    refine g_ast (w' := [(of, .inl (G.2.1, zL, .inl (upd a 8 (1 - (a 8)))))]) C hW 0 rfl (vp_in_nI (n := 8) (by omega) (by omega)) (by rw [show (8 : Int32).toNatClampNeg = 8 from rfl]; rfl) dX11_goHit_27 ?_
    clear hW H locs; intro H locs hW
    refine lv_aload_n hx hb dX11_goHit_28 rfl (lv_at hl 1 rfl) ?_
    refine lv_bipush (v := 10) hx hb dX11_goHit_29 (by decide) ?_
    refine lv_aload_n hx hb dX11_goHit_31 rfl (lv_at hl 1 rfl) ?_
    refine lv_bipush (v := 10) hx hb dX11_goHit_32 (by decide) ?_
    refine g_ald C hW 0 rfl (vp_in_nI (n := 10) (by omega) (by omega)) dX11_goHit_34 ?_
    refine lv_as (y := (upd a 8 (1 - (a 8))) 10) (rfl) ?_
    refine g_fi C hW [] rfl (g_runS (As := [.int ((upd a 8 (1 - (a 8))) 10)]) (rest := [.int 10, .ref of]) (wc := []) C hW hl (c_X11_more l G ((upd a 8 (1 - (a 8))) 10)  _) k_ml_X11_115 q_X11_more (by decide) [] rfl rfl rfl rfl (Nat.le_of_ble_eq_true rfl) dX11_goHit_35 (by decide)) (fun r_1497 er_1497 => ?_)
    clear hW H locs; intro H locs hW
    refine lv_as (y := mrA ((upd a 8 (1 - (a 8))) 10)) er_1497 ?_
    clear er_1497 r_1497
    refine g_ast (w' := [(of, .inl (G.2.1, zL, .inl (upd (upd a 8 (1 - (a 8))) 10 (mrA ((upd a 8 (1 - (a 8))) 10)))))]) C hW 0 rfl (vp_in_nI (n := 10) (by omega) (by omega)) (by rw [show (10 : Int32).toNatClampNeg = 10 from rfl]; rfl) dX11_goHit_38 ?_
    clear hW H locs; intro H locs hW
    refine lv_goto (tgt := 63) hx hb dX11_goHit_39 (by decide) ?_
    refine lv_aload_n hx hb dX11_goHit_63 rfl (lv_at hl 1 rfl) ?_
    refine lv_bipush (v := 12) hx hb dX11_goHit_64 (by decide) ?_
    refine lv_dup2_11 hx hb dX11_goHit_66 rfl rfl ?_
    refine g_ald C hW 0 rfl (vp_in_nI (n := 12) (by omega) (by omega)) dX11_goHit_67 ?_
    refine lv_as (y := (upd (upd a 8 (1 - (a 8))) 10 (mrA ((upd a 8 (1 - (a 8))) 10))) 12) (rfl) ?_
    refine lv_iconst (v := 1) hx hb dX11_goHit_68 (by decide) ?_
    refine lv_iadd hx hb dX11_goHit_69 ?_
    refine g_ast (w' := [(of, .inl (G.2.1, zL, .inl (upd (upd (upd a 8 (1 - (a 8))) 10 (mrA ((upd a 8 (1 - (a 8))) 10))) 12 (((upd (upd a 8 (1 - (a 8))) 10 (mrA ((upd a 8 (1 - (a 8))) 10))) 12) + 1))))]) C hW 0 rfl (vp_in_nI (n := 12) (by omega) (by omega)) (by rw [show (12 : Int32).toNatClampNeg = 12 from rfl]; rfl) dX11_goHit_70 ?_
    clear hW H locs; intro H locs hW
    refine lv_iload_n hx hb dX11_goHit_71 rfl (lv_at hl 0 rfl) ?_
    have J_1500 : ∀ (y_1499 : Int32) (_ : y_1499 = (if (bI (crA a k hr (a 8))) = 0 then 0 else 1)), ∀ (H : Heap) (locs : List Loc) (ls : Array Slot), Wd G A_ s_.heap [(of, .inl (G.2.1, zL, .inl (upd (upd (upd a 8 (1 - (a 8))) 10 (mrA ((upd a 8 (1 - (a 8))) 10))) 12 (((upd (upd a 8 (1 - (a 8))) 10 (mrA ((upd a 8 (1 - (a 8))) 10))) 12) + 1))))] H locs → lv_has ls 3 [(2, .int (bI (crA a k hr (a 8)))), (0, .ref of), (1, .int (nI k))] → W p_ l e_ ({ frames := 3, cells := 0, slots := 0, locals := 72 }) s_ m_ ar_ be_ me_ cd_ H locs 0 0 Q (F0 m_ 80 ls [.int y_1499]) := by
      intro y_1499 ey_1499 H locs ls hW hl
      subst hQ
      exact g_iret (v := y_1499) C hW hrt ⟨(), by (simp only [ey_1499]; exact bz), by first | (rw [ghA, bI_ne.mp c_1492]; rfl) | (rw [ghA, bI_0.mp c_1492]; rfl)⟩ dX11_goHit_80
    refine lv_if_eq (tgt := 79) hx hb dX11_goHit_72 (by decide) (fun c_1498 => ?_) (fun c_1498 => ?_)
    · refine lv_iconst (v := 0) hx hb dX11_goHit_79 (by decide) ?_
      exact J_1500 0 (by first | (simp only [c_1498, if_true, if_false, reduceIte]; done) | (simp [c_1498]; done) | rfl | (rw [if_pos c_1498]; done)) _ _ _ hW (lv_sub hl [0, 1, 2] rfl)
    · refine lv_iconst (v := 1) hx hb dX11_goHit_75 (by decide) ?_
      refine lv_goto (tgt := 80) hx hb dX11_goHit_76 (by decide) ?_
      exact J_1500 1 (by first | (simp only [c_1498, if_true, if_false, reduceIte]; done) | (simp [c_1498]; done) | rfl | (rw [if_neg c_1498]; done)) _ _ _ hW (lv_sub hl [0, 1, 2] rfl)
