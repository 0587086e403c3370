set_option maxHeartbeats 4000000 in
set_option maxRecDepth 100000 in
theorem c_X11_layHand (l : Launch) (G : gT) (mo al ke ik rq so ha te bt an vs : Nat) (mab mbe : Int64) (bL tA tL tK tV : Int32) (a : Nat → Int32) (hf : Nat → Int32)  : MV l G yX11_layHand cX11_layHand 2 ({ frames := 0, cells := 0, slots := 0, locals := 0 }) [.ref mo] [(mo, .inr (9, [.ref al, .ref ke, .ref ik, .ref rq, .long mab, .long mbe, .ref so, .ref ha, .ref te, .ref bt, .int bL, .int tA, .int tL, .int tK, .int tV, .ref an, .ref vs])), (al, .inl (G.2.1, 159, .inl a)), (ha, .inl (G.2.1, 40, .inl hf))] (fun w1 => ∃ u_ : Unit, (True) ∧ w1 = [(mo, .inr (9, [.ref al, .ref ke, .ref ik, .ref rq, .long mab, .long mbe, .ref so, .ref ha, .ref te, .ref bt, .int bL, .int tA, .int tL, .int tK, .int tV, .ref an, .ref vs])), (al, .inl (G.2.1, 159, .inl a)), (ha, .inl (G.2.1, 40, .inl (fa_fill a hf 40)))]) := by
  refine MV.mk (by decide) (Nat.le_of_ble_eq_true rfl) ?_
  intro p_ e_ s_ m_ ar_ be_ me_ cd_ A_ ls C hrt hW hl
  have hx := C.1; have hb := C.2.1; have hown := C.2.2.2.1; have ht := C.2.2.2.2.1
  replace hl : lv_has ls 2 [(0, .ref mo)] := hl
  generalize hQ : MQ be_ _ ar_ s_ 0 0 A_ = Q
  refine lv_iconst (v := 0) hx hb dX11_layHand_0 (by decide) ?_
  refine lv_istore_n (lv' := [(1, .int 0), (0, .ref mo)]) hx hb dX11_layHand_1 rfl hl (by decide) rfl ?_
  clear hl ls; intro ls hl
  have K_1646 : ∀ (n_ : Nat) (j : Nat) (x_1647 : Int32) (g_1648 : Nat → Int32) (_ : x_1647 = nI j) (_ : g_1648 = (fa_fill a hf j)) (_ : j ≤ 40) (_ : 40 - j < n_) (H : Heap) (locs : List Loc) (ls : Array Slot), Wd G A_ s_.heap [(mo, .inr (9, [.ref al, .ref ke, .ref ik, .ref rq, .long mab, .long mbe, .ref so, .ref ha, .ref te, .ref bt, .int bL, .int tA, .int tL, .int tK, .int tV, .ref an, .ref vs])), (al, .inl (G.2.1, 159, .inl a)), (ha, .inl (G.2.1, 40, .inl g_1648))] H locs → lv_has ls 2 [(1, .int x_1647), (0, .ref mo)] → W p_ l e_ ({ frames := 0, cells := 0, slots := 0, locals := 0 }) s_ m_ ar_ be_ me_ cd_ H locs 0 0 Q (F0 m_ 2 ls []) := by
    intro n_
    induction n_ with
    | zero => intro j x_1647 g_1648 ex_1647 eg_1648 hj hm_; exact absurd hm_ (Nat.not_lt_zero _)
    | succ n_ ihK_1646 =>
      intro j x_1647 g_1648 ex_1647 eg_1648 hj hm_ H locs ls hW hl
      subst ex_1647
      subst eg_1648
      refine lv_iload_n hx hb dX11_layHand_2 rfl (lv_at hl 0 rfl) ?_
      refine lv_bipush (v := 40) hx hb dX11_layHand_3 (by decide) ?_
      refine lv_icmp_ge (tgt := 26) hx hb dX11_layHand_5 (by decide) (fun c_1649 => ?_) (fun c_1649 => ?_)
      · replace c_1649 := Int32.not_lt.mpr c_1649
        have c_1649n : ¬ j < 40 := fun q => c_1649 ((nI_ltI (a := j) (b := 40) (by omega) (by omega)).mpr q)
        subst hQ
        exact g_vret C hW hrt ⟨(), trivial, by (rw [show j = 40 by omega])⟩ dX11_layHand_26
      · replace c_1649 := Int32.not_le.mp c_1649
        have c_1649n : j < 40 := (nI_ltI (a := j) (b := 40) (by omega) (by omega)).mp c_1649
        refine lv_aload_n hx hb dX11_layHand_8 rfl (lv_at hl 1 rfl) ?_
        refine g_get (k := 7) (v := .ref ha) C hW 0 rfl rfl jnX11 (by decide) k_fl_X11_30 rfl dX11_layHand_9 ?_
        refine lv_iload_n hx hb dX11_layHand_12 rfl (lv_at hl 0 rfl) ?_
        refine lv_aload_n hx hb dX11_layHand_13 rfl (lv_at hl 1 rfl) ?_
        refine g_get (k := 0) (v := .ref al) C hW 0 rfl rfl jnX11 (by decide) k_fl_X11_7 rfl dX11_layHand_14 ?_
        refine lv_iload_n hx hb dX11_layHand_17 rfl (lv_at hl 0 rfl) ?_
        refine g_ald C hW 1 rfl (ix_in (show (nI j) = nI j from (by first | rfl | (simp only [nI_lit, nI_add, pk_mul]; done) | (simp only [nI_lit, nI_add, pk_mul]; congr 1; omega))) (by omega) (by omega)) dX11_layHand_18 ?_
        refine lv_as (y := a j) (by rw [show (nI j).toNatClampNeg = j from nI_clamp (by omega)]) ?_
        refine g_ast (w' := [(mo, .inr (9, [.ref al, .ref ke, .ref ik, .ref rq, .long mab, .long mbe, .ref so, .ref ha, .ref te, .ref bt, .int bL, .int tA, .int tL, .int tK, .int tV, .ref an, .ref vs])), (al, .inl (G.2.1, 159, .inl a)), (ha, .inl (G.2.1, 40, .inl (upd (fa_fill a hf j) j (a j))))]) C hW 2 rfl (ix_in (show (nI j) = nI j from (by first | rfl | (simp only [nI_lit, nI_add, pk_mul]; done) | (simp only [nI_lit, nI_add, pk_mul]; congr 1; omega))) (by omega) (by omega)) (by rw [show (nI j).toNatClampNeg = j from nI_clamp (by omega)]; rfl) dX11_layHand_19 ?_
        clear hW H locs; intro H locs hW
        refine lv_iinc (v := (nI j) + 1) (lv' := [(1, .int ((nI j) + 1)), (0, .ref mo)]) hx hb dX11_layHand_20 hl (k := 0) rfl rfl (by decide) rfl ?_
        clear hl ls; intro ls hl
        refine lv_goto (tgt := 2) hx hb dX11_layHand_23 (by decide) ?_
        exact ihK_1646 (j + 1) ((nI j) + 1) (upd (fa_fill a hf j) j (a j)) (by exact nI_1 _) (by exact fa_fill_succ _ _ _) (by first | omega | assumption | (simp; done)) (by omega) _ _ _ hW (lv_sub hl [0, 1] rfl)
  exact K_1646 _ 0 0 hf (by first | exact rfl | (simp; done)) (by exact (fa_fill_0 _ _).symm) (by first | omega | assumption | (simp; done)) (Nat.lt_succ_self _) _ _ _ hW (lv_sub hl [0, 1] rfl)
set_option maxHeartbeats 4000000 in
set_option maxRecDepth 100000 in
theorem c_X11_lastsBy (l : Launch) (G : gT) (mo al ke ik rq so ha te bt an vs : Nat) (mab mbe : Int64) (bL tA tL tK tV : Int32) (a : Nat → Int32) (b : Nat → Int32) (n hr fh : Nat) (e0 : a 0 = nI n) (hn : n ≤ 7) (eb8 : b 8 = nI fh) (hfh : fh < 2) (eb12 : b 12 = nI hr) (hh : hr < 10000) (hup : b 9 = 1) : MI l G yX11_lastsBy cX11_lastsBy 6 .int ({ frames := 3, cells := 0, slots := 0, locals := 72 }) [.ref mo] [(mo, .inr (9, [.ref al, .ref ke, .ref ik, .ref rq, .long mab, .long mbe, .ref so, .ref ha, .ref te, .ref bt, .int bL, .int tA, .int tL, .int tK, .int tV, .ref an, .ref vs])), (al, .inl (G.2.1, 159, .inl a)), (ha, .inl (G.2.1, 40, .inl b))] (fun (r : Int32) w1 => (r = nI (lsN b n hr fh)) ∧ w1 = [(mo, .inr (9, [.ref al, .ref ke, .ref ik, .ref rq, .long mab, .long mbe, .ref so, .ref ha, .ref te, .ref bt, .int bL, .int tA, .int tL, .int tK, .int tV, .ref an, .ref vs])), (al, .inl (G.2.1, 159, .inl a)), (ha, .inl (G.2.1, 40, .inl b))]) := by
  refine MI.mk (by decide) (Nat.le_of_ble_eq_true rfl) ?_
  intro p_ e_ s_ m_ ar_ be_ me_ cd_ A_ ls C hrt hW hl
  have hx := C.1; have hb := C.2.1; have hown := C.2.2.2.1; have ht := C.2.2.2.2.1
  replace hl : lv_has ls 6 [(0, .ref mo)] := hl
  generalize hQ : MQ be_ _ ar_ s_ 0 0 A_ = Q
  refine lv_aload_n hx hb dX11_lastsBy_0 rfl (lv_at hl 0 rfl) ?_
  refine g_get (k := 7) (v := .ref ha) C hW 0 rfl rfl jnX11 (by decide) k_fl_X11_30 rfl dX11_lastsBy_1 ?_
  refine lv_bipush (v := 8) hx hb dX11_lastsBy_4 (by decide) ?_
  refine g_ald C hW 2 rfl (vp_in_nI (n := 8) (by omega) (by omega)) dX11_lastsBy_6 ?_
  refine lv_as (y := b 8) (rfl) ?_
  refine lv_istore_n (lv' := [(1, .int (b 8)), (0, .ref mo)]) hx hb dX11_lastsBy_7 rfl hl (by decide) rfl ?_
  clear hl ls; intro ls hl
  refine lv_iconst (v := 0) hx hb dX11_lastsBy_8 (by decide) ?_
  refine lv_istore_n (lv' := [(2, .int 0), (1, .int (b 8)), (0, .ref mo)]) hx hb dX11_lastsBy_9 rfl hl (by decide) rfl ?_
  clear hl ls; intro ls hl
  refine lv_aload_n hx hb dX11_lastsBy_10 rfl (lv_at hl 2 rfl) ?_
  refine g_get (k := 7) (v := .ref ha) C hW 0 rfl rfl jnX11 (by decide) k_fl_X11_30 rfl dX11_lastsBy_11 ?_
  refine lv_bipush (v := 9) hx hb dX11_lastsBy_14 (by decide) ?_
  refine g_ald C hW 2 rfl (vp_in_nI (n := 9) (by omega) (by omega)) dX11_lastsBy_16 ?_
  refine lv_as (y := b 9) (rfl) ?_
  refine lv_iconst (v := 1) hx hb dX11_lastsBy_17 (by decide) ?_
  refine lv_icmp_ne (tgt := 25) hx hb dX11_lastsBy_18 (by decide) (fun c_1650 => ?_) (fun c_1650 => ?_)
  · exfalso; exact c_1650 hup
  · refine lv_iconst (v := 1) hx hb dX11_lastsBy_21 (by decide) ?_
    refine lv_goto (tgt := 26) hx hb dX11_lastsBy_22 (by decide) ?_
    refine lv_istore_n (lv' := [(3, .int 1), (2, .int 0), (1, .int (b 8)), (0, .ref mo)]) hx hb dX11_lastsBy_26 rfl hl (by decide) rfl ?_
    clear hl ls; intro ls hl
    have K_1651 : ∀ (n_ : Nat) (m : Nat) (gv : Int32) (x_1652 : Int32) (hv : Int32) (_ : x_1652 = nI m) (_ : (gv = 1 ∧ hv = nI ((fh + m) % 2) ∧ ∀ i, i < m → fnA b n hr fh i = true) ∨ (gv = 0 ∧ m = lsN b n hr fh)) (_ : m ≤ 60) (_ : (if gv = 0 then 0 else 61 - m) < n_) (H : Heap) (locs : List Loc) (ls : Array Slot), Wd G A_ s_.heap [(mo, .inr (9, [.ref al, .ref ke, .ref ik, .ref rq, .long mab, .long mbe, .ref so, .ref ha, .ref te, .ref bt, .int bL, .int tA, .int tL, .int tK, .int tV, .ref an, .ref vs])), (al, .inl (G.2.1, 159, .inl a)), (ha, .inl (G.2.1, 40, .inl b))] H locs → lv_has ls 6 [(3, .int gv), (2, .int x_1652), (1, .int hv), (0, .ref mo)] → W p_ l e_ ({ frames := 3, cells := 0, slots := 0, locals := 72 }) s_ m_ ar_ be_ me_ cd_ H locs 0 0 Q (F0 m_ 27 ls []) := by
      intro n_
      induction n_ with
      | zero => intro m gv x_1652 hv ex_1652 hd hm hm_; exact absurd hm_ (Nat.not_lt_zero _)
      | succ n_ ihK_1651 =>
        intro m gv x_1652 hv ex_1652 hd hm hm_ H locs ls hW hl
        subst ex_1652
        refine lv_iload_n hx hb dX11_lastsBy_27 rfl (lv_at hl 0 rfl) ?_
        refine lv_if_eq (tgt := 129) hx hb dX11_lastsBy_28 (by decide) (fun c_1653 => ?_) (fun c_1653 => ?_)
        · refine lv_iload_n hx hb dX11_lastsBy_129 rfl (lv_at hl 1 rfl) ?_
          subst hQ
          exact g_iret (v := (nI m)) C hW hrt ⟨by first | (rw [← (hd.resolve_left (fun z => absurd (z.1.symm.trans c_1653) (by decide))).2]; done) | (rw [← ls_e hm  (hd.resolve_right (fun z => c_1650 z.1)).2.2]), rfl⟩ dX11_lastsBy_130
        · refine lv_iload_n hx hb dX11_lastsBy_31 rfl (lv_at hl 1 rfl) ?_
          refine lv_bipush (v := 60) hx hb dX11_lastsBy_32 (by decide) ?_
          refine lv_icmp_ge (tgt := 129) hx hb dX11_lastsBy_34 (by decide) (fun c_1654 => ?_) (fun c_1654 => ?_)
          · replace c_1654 := Int32.not_lt.mpr c_1654
            have c_1654n : ¬ m < 60 := fun q => c_1654 ((nI_ltI (a := m) (b := 60) (by omega) (by omega)).mpr q)
            refine lv_iload_n hx hb dX11_lastsBy_129 rfl (lv_at hl 1 rfl) ?_
            subst hQ
            exact g_iret (v := (nI m)) C hW hrt ⟨by first | (rw [← (hd.resolve_left (fun z => absurd (z.1.symm.trans c_1654) (by decide))).2]; done) | (rw [← ls_e hm c_1654n (hd.resolve_right (fun z => c_1653 z.1)).2.2]), rfl⟩ dX11_lastsBy_130
          · replace c_1654 := Int32.not_le.mp c_1654
            have c_1654n : m < 60 := (nI_ltI (a := m) (b := 60) (by omega) (by omega)).mp c_1654
            have hm6 : m < 60 := c_1654n
            obtain ⟨eg, ehv, hz⟩ := hd.resolve_right (fun z => c_1653 z.1)
            have hg9 := c_1653
            have hm9 : 61 - m < n_ + 1 := by rw [if_neg hg9] at hm_; exact hm_
            obtain rfl : hv = nI ((fh + m) % 2) := ehv
            refine lv_iconst (v := 0) hx hb dX11_lastsBy_37 (by decide) ?_
            refine lv_istore (lv' := [(4, .int 0), (3, .int gv), (2, .int (nI m)), (1, .int (nI ((fh + m) % 2))), (0, .ref mo)]) hx hb dX11_lastsBy_38 hl (by decide) rfl ?_
            clear hl ls; intro ls hl
            refine lv_iconst (v := 0) hx hb dX11_lastsBy_40 (by decide) ?_
            refine lv_istore (lv' := [(5, .int 0), (4, .int 0), (3, .int gv), (2, .int (nI m)), (1, .int (nI ((fh + m) % 2))), (0, .ref mo)]) hx hb dX11_lastsBy_41 hl (by decide) rfl ?_
            clear hl ls; intro ls hl
            have K_1655 : ∀ (n_ : Nat) (pq : Nat) (x_1656 : Int32) (x_1657 : Int32) (_ : x_1656 = nI pq) (_ : x_1657 = bI (exB (fun p => decide (b (26 + p) = nI ((fh + m) % 2)) && crA b p (hr + m) (nI ((fh + m) % 2))) pq)) (_ : pq ≤ n) (_ : n - pq < n_) (H : Heap) (locs : List Loc) (ls : Array Slot), Wd G A_ s_.heap [(mo, .inr (9, [.ref al, .ref ke, .ref ik, .ref rq, .long mab, .long mbe, .ref so, .ref ha, .ref te, .ref bt, .int bL, .int tA, .int tL, .int tK, .int tV, .ref an, .ref vs])), (al, .inl (G.2.1, 159, .inl a)), (ha, .inl (G.2.1, 40, .inl b))] H locs → lv_has ls 6 [(5, .int x_1656), (4, .int x_1657), (3, .int gv), (2, .int (nI m)), (1, .int (nI ((fh + m) % 2))), (0, .ref mo)] → W p_ l e_ ({ frames := 3, cells := 0, slots := 0, locals := 72 }) s_ m_ ar_ be_ me_ cd_ H locs 0 0 Q (F0 m_ 43 ls []) := by
              intro n_
              induction n_ with
              | zero => intro pq x_1656 x_1657 ex_1656 ex_1657 hq hm_; exact absurd hm_ (Nat.not_lt_zero _)
              | succ n_ ihK_1655 =>
                intro pq x_1656 x_1657 ex_1656 ex_1657 hq hm_ H locs ls hW hl
                subst ex_1656
                subst ex_1657
                refine lv_iload hx hb dX11_lastsBy_43 (lv_at hl 0 rfl) ?_
                refine lv_aload_n hx hb dX11_lastsBy_45 rfl (lv_at hl 5 rfl) ?_
                refine g_fi C hW [0, 1] rfl (g_runV (As := []) (rest := [.int (nI pq)]) (wc := [(mo, .inr (9, [.ref al, .ref ke, .ref ik, .ref rq, .long mab, .long mbe, .ref so, .ref ha, .ref te, .ref bt, .int bL, .int tA, .int tL, .int tK, .int tV, .ref an, .ref vs])), (al, .inl (G.2.1, 159, .inl a))]) (q0 := 0) (ci := 9) C hW hl (c_X11_many l G mo al ke ik rq so ha te bt an vs mab mbe bL tA tL tK tV a n (by first | assumption | omega) _) k_ml_X11_49 q_X11_many (by decide) [0, 1] rfl rfl rfl rfl rfl rfl (Nat.le_of_ble_eq_true rfl) dX11_lastsBy_46 (by decide)) (fun r_1658 er_1658 => ?_)
                clear hW H locs; intro H locs hW
                refine lv_as (y := nI n) er_1658 ?_
                clear er_1658 r_1658
                refine lv_icmp_ge (tgt := 106) hx hb dX11_lastsBy_49 (by decide) (fun c_1659 => ?_) (fun c_1659 => ?_)
                · replace c_1659 := Int32.not_lt.mpr c_1659
                  have c_1659n : ¬ pq < n := fun q => c_1659 ((nI_ltI (a := pq) (b := n) (by omega) (by omega)).mpr q)
                  refine lv_iload hx hb dX11_lastsBy_106 (lv_at hl 1 rfl) ?_
                  refine lv_as (y := bI (fnA b n hr fh m)) (by rw [fnA, show n = pq by omega]) ?_
                  refine lv_istore_n (lv' := [(3, .int (bI (fnA b n hr fh m))), (5, .int (nI pq)), (4, .int (bI (exB (fun p => decide (b (26 + p) = nI ((fh + m) % 2)) && crA b p (hr + m) (nI ((fh + m) % 2))) pq))), (2, .int (nI m)), (1, .int (nI ((fh + m) % 2))), (0, .ref mo)]) hx hb dX11_lastsBy_108 rfl hl (by decide) rfl ?_
                  clear hl ls; intro ls hl
                  refine lv_iload_n hx hb dX11_lastsBy_109 rfl (lv_at hl 3 rfl) ?_
                  refine lv_iload hx hb dX11_lastsBy_110 (lv_at hl 2 rfl) ?_
                  refine lv_as (y := bI (fnA b n hr fh m)) (by rw [fnA, show n = pq by omega]) ?_
                  have J_1662 : ∀ (y_1661 : Int32) (_ : y_1661 = (if (bI (fnA b n hr fh m)) = 0 then 0 else 1)), ∀ (H : Heap) (locs : List Loc) (ls : Array Slot), Wd G A_ s_.heap [(mo, .inr (9, [.ref al, .ref ke, .ref ik, .ref rq, .long mab, .long mbe, .ref so, .ref ha, .ref te, .ref bt, .int bL, .int tA, .int tL, .int tK, .int tV, .ref an, .ref vs])), (al, .inl (G.2.1, 159, .inl a)), (ha, .inl (G.2.1, 40, .inl b))] H locs → lv_has ls 6 [(3, .int (bI (fnA b n hr fh m))), (5, .int (nI pq)), (4, .int (bI (exB (fun p => decide (b (26 + p) = nI ((fh + m) % 2)) && crA b p (hr + m) (nI ((fh + m) % 2))) pq))), (2, .int (nI m)), (1, .int (nI ((fh + m) % 2))), (0, .ref mo)] → W p_ l e_ ({ frames := 3, cells := 0, slots := 0, locals := 72 }) s_ m_ ar_ be_ me_ cd_ H locs 0 0 Q (F0 m_ 120 ls [.int y_1661, .int (nI m)]) := by
                    intro y_1661 ey_1661 H locs ls hW hl
                    refine lv_iadd hx hb dX11_lastsBy_120 ?_
                    refine lv_istore_n (lv' := [(2, .int ((nI m) + y_1661)), (3, .int (bI (fnA b n hr fh m))), (5, .int (nI pq)), (4, .int (bI (exB (fun p => decide (b (26 + p) = nI ((fh + m) % 2)) && crA b p (hr + m) (nI ((fh + m) % 2))) pq))), (1, .int (nI ((fh + m) % 2))), (0, .ref mo)]) hx hb dX11_lastsBy_121 rfl hl (by decide) rfl ?_
                    clear hl ls; intro ls hl
                    refine lv_iconst (v := 1) hx hb dX11_lastsBy_122 (by decide) ?_
                    refine lv_iload_n hx hb dX11_lastsBy_123 rfl (lv_at hl 4 rfl) ?_
                    refine lv_isub hx hb dX11_lastsBy_124 ?_
                    refine lv_istore_n (lv' := [(1, .int (1 - (nI ((fh + m) % 2)))), (2, .int ((nI m) + y_1661)), (3, .int (bI (fnA b n hr fh m))), (5, .int (nI pq)), (4, .int (bI (exB (fun p => decide (b (26 + p) = nI ((fh + m) % 2)) && crA b p (hr + m) (nI ((fh + m) % 2))) pq))), (0, .ref mo)]) hx hb dX11_lastsBy_125 rfl hl (by decide) rfl ?_
                    clear hl ls; intro ls hl
                    refine lv_goto (tgt := 27) hx hb dX11_lastsBy_126 (by decide) ?_
                    exact ihK_1651 (if fnA b n hr fh m = true then m + 1 else m) (bI (fnA b n hr fh m)) ((nI m) + y_1661) (1 - (nI ((fh + m) % 2))) (by (simp only [ey_1661]; exact ls_n)) (by exact ls_d hm6 hz rfl rfl) (by (split <;> omega)) (by (cases hq9 : fnA b n hr fh m <;> simp [bI] <;> omega)) _ _ _ hW (lv_sub hl [2, 1, 0, 5] rfl)
                  refine lv_if_eq (tgt := 119) hx hb dX11_lastsBy_112 (by decide) (fun c_1660 => ?_) (fun c_1660 => ?_)
                  · refine lv_iconst (v := 0) hx hb dX11_lastsBy_119 (by decide) ?_
                    exact J_1662 0 (by first | (simp only [c_1660, if_true, if_false, reduceIte]; done) | (simp [c_1660]; done) | rfl | (rw [if_pos c_1660]; done)) _ _ _ hW (lv_sub hl [0, 1, 2, 3, 4, 5] rfl)
                  · refine lv_iconst (v := 1) hx hb dX11_lastsBy_115 (by decide) ?_
                    refine lv_goto (tgt := 120) hx hb dX11_lastsBy_116 (by decide) ?_
                    exact J_1662 1 (by first | (simp only [c_1660, if_true, if_false, reduceIte]; done) | (simp [c_1660]; done) | rfl | (rw [if_neg c_1660]; done)) _ _ _ hW (lv_sub hl [0, 1, 2, 3, 4, 5] rfl)
                · replace c_1659 := Int32.not_le.mp c_1659
                  have c_1659n : pq < n := (nI_ltI (a := pq) (b := n) (by omega) (by omega)).mp c_1659
                  refine lv_iload hx hb dX11_lastsBy_52 (lv_at hl 1 rfl) ?_
                  have J_1667 : ∀ (y_1666 : Int32) (_ : y_1666 = (if (bI (exB (fun p => decide (b (26 + p) = nI ((fh + m) % 2)) && crA b p (hr + m) (nI ((fh + m) % 2))) pq)) = 0 then if (b (26 + pq)) = (nI ((fh + m) % 2)) then if (bI (crA b pq (hr + m) (nI ((fh + m) % 2)))) = 0 then 0 else 1 else 0 else 1)), ∀ (H : Heap) (locs : List Loc) (ls : Array Slot), Wd G A_ s_.heap [(mo, .inr (9, [.ref al, .ref ke, .ref ik, .ref rq, .long mab, .long mbe, .ref so, .ref ha, .ref te, .ref bt, .int bL, .int tA, .int tL, .int tK, .int tV, .ref an, .ref vs])), (al, .inl (G.2.1, 159, .inl a)), (ha, .inl (G.2.1, 40, .inl b))] H locs → lv_has ls 6 [(5, .int (nI pq)), (4, .int (bI (exB (fun p => decide (b (26 + p) = nI ((fh + m) % 2)) && crA b p (hr + m) (nI ((fh + m) % 2))) pq))), (3, .int gv), (2, .int (nI m)), (1, .int (nI ((fh + m) % 2))), (0, .ref mo)] → W p_ l e_ ({ frames := 3, cells := 0, slots := 0, locals := 72 }) s_ m_ ar_ be_ me_ cd_ H locs 0 0 Q (F0 m_ 98 ls [.int y_1666]) := by
                    intro y_1666 ey_1666 H locs ls hW hl
                    refine lv_istore (lv' := [(4, .int y_1666), (5, .int (nI pq)), (3, .int gv), (2, .int (nI m)), (1, .int (nI ((fh + m) % 2))), (0, .ref mo)]) hx hb dX11_lastsBy_98 hl (by decide) rfl ?_
                    clear hl ls; intro ls hl
                    refine lv_iinc (v := (nI pq) + 1) (lv' := [(5, .int ((nI pq) + 1)), (4, .int y_1666), (3, .int gv), (2, .int (nI m)), (1, .int (nI ((fh + m) % 2))), (0, .ref mo)]) hx hb dX11_lastsBy_100 hl (k := 1) rfl rfl (by decide) rfl ?_
                    clear hl ls; intro ls hl
                    refine lv_goto (tgt := 43) hx hb dX11_lastsBy_103 (by decide) ?_
                    exact ihK_1655 (pq + 1) ((nI pq) + 1) y_1666 (by exact nI_1 _) (by (simp only [ey_1666]; exact ex_s)) (by first | omega | assumption | (simp; done)) (by omega) _ _ _ hW (lv_sub hl [0, 1, 2, 3, 4, 5] rfl)
                  refine lv_if_ne (tgt := 93) hx hb dX11_lastsBy_54 (by decide) (fun c_1663 => ?_) (fun c_1663 => ?_)
                  · refine lv_iconst (v := 1) hx hb dX11_lastsBy_93 (by decide) ?_
                    refine lv_goto (tgt := 98) hx hb dX11_lastsBy_94 (by decide) ?_
                    exact J_1667 1 (by first | (simp only [c_1663, if_true, if_false, reduceIte]; done) | (simp [c_1663]; done) | rfl | (rw [if_neg c_1663]; done)) _ _ _ hW (lv_sub hl [0, 1, 2, 3, 4, 5] rfl)
                  · refine lv_aload_n hx hb dX11_lastsBy_57 rfl (lv_at hl 5 rfl) ?_
                    refine g_get (k := 7) (v := .ref ha) C hW 0 rfl rfl jnX11 (by decide) k_fl_X11_30 rfl dX11_lastsBy_58 ?_
                    refine lv_bipush (v := 26) hx hb dX11_lastsBy_61 (by decide) ?_
                    refine lv_iload hx hb dX11_lastsBy_63 (lv_at hl 0 rfl) ?_
                    refine lv_iadd hx hb dX11_lastsBy_65 ?_
                    refine g_ald C hW 2 rfl (ix_in (show (26 + (nI pq)) = nI (26 + pq) from (by first | rfl | (simp only [nI_lit, nI_add, pk_mul]; done) | (simp only [nI_lit, nI_add, pk_mul]; congr 1; omega))) (by omega) (by omega)) dX11_lastsBy_66 ?_
                    refine lv_as (y := b (26 + pq)) (by rw [show (26 + (nI pq)).toNatClampNeg = (26 + pq) from ix_cl (show (26 + (nI pq)) = nI (26 + pq) from (by first | rfl | (simp only [nI_lit, nI_add, pk_mul]; done) | (simp only [nI_lit, nI_add, pk_mul]; congr 1; omega))) (Nat.lt_of_lt_of_le (m := 40) (by omega) (by omega))]) ?_
                    refine lv_iload_n hx hb dX11_lastsBy_67 rfl (lv_at hl 4 rfl) ?_
                    refine lv_icmp_ne (tgt := 97) hx hb dX11_lastsBy_68 (by decide) (fun c_1668 => ?_) (fun c_1668 => ?_)
                    · refine lv_iconst (v := 0) hx hb dX11_lastsBy_97 (by decide) ?_
                      exact J_1667 0 (by first | (simp only [c_1663, c_1668, if_true, if_false, reduceIte]; done) | (simp [c_1663, c_1668]; done) | rfl | (rw [if_pos c_1663, if_neg c_1668]; done)) _ _ _ hW (lv_sub hl [0, 1, 2, 3, 4, 5] rfl)
                    · refine lv_aload_n hx hb dX11_lastsBy_71 rfl (lv_at hl 5 rfl) ?_
                      refine g_get (k := 7) (v := .ref ha) C hW 0 rfl rfl jnX11 (by decide) k_fl_X11_30 rfl dX11_lastsBy_72 ?_
                      refine lv_iload hx hb dX11_lastsBy_75 (lv_at hl 0 rfl) ?_
                      refine lv_iload_n hx hb dX11_lastsBy_77 rfl (lv_at hl 4 rfl) ?_
                      refine lv_aload_n hx hb dX11_lastsBy_78 rfl (lv_at hl 5 rfl) ?_
                      refine g_get (k := 7) (v := .ref ha) C hW 0 rfl rfl jnX11 (by decide) k_fl_X11_30 rfl dX11_lastsBy_79 ?_
                      refine lv_bipush (v := 12) hx hb dX11_lastsBy_82 (by decide) ?_
                      refine g_ald C hW 2 rfl (vp_in_nI (n := 12) (by omega) (by omega)) dX11_lastsBy_84 ?_
                      refine lv_as (y := b 12) (rfl) ?_
                      refine lv_as (y := nI hr) (eb12) ?_
                      refine lv_iload_n hx hb dX11_lastsBy_85 rfl (lv_at hl 3 rfl) ?_
                      refine lv_iadd hx hb dX11_lastsBy_86 ?_
                      refine lv_as (y := nI (hr + m)) (nI_add _ _) ?_
                      refine g_fi C hW [2] rfl (g_runS (As := [.ref ha, .int (nI pq), .int (nI ((fh + m) % 2)), .int (nI (hr + m))]) (rest := []) (wc := [(ha, .inl (G.2.1, 40, .inl b))]) C hW hl (c_X11_carries l G ha 40 b pq (hr + m) (nI ((fh + m) % 2)) (by first | assumption | omega) (by first | assumption | omega) (by first | assumption | omega) _) k_ml_X11_111 q_X11_carries (by decide) [2] rfl rfl rfl rfl (Nat.le_of_ble_eq_true rfl) dX11_lastsBy_87 (by decide)) (fun r_1669 er_1669 => ?_)
                      clear hW H locs; intro H locs hW
                      refine lv_as (y := bI (crA b pq (hr + m) (nI ((fh + m) % 2)))) er_1669 ?_
                      clear er_1669 r_1669
                      refine lv_if_eq (tgt := 97) hx hb dX11_lastsBy_90 (by decide) (fun c_1670 => ?_) (fun c_1670 => ?_)
                      · refine lv_iconst (v := 0) hx hb dX11_lastsBy_97 (by decide) ?_
                        exact J_1667 0 (by first | (simp only [c_1663, c_1668, c_1670, if_true, if_false, reduceIte]; done) | (simp [c_1663, c_1668, c_1670]; done) | rfl | (rw [if_pos c_1663, if_pos c_1668, if_pos c_1670]; done)) _ _ _ hW (lv_sub hl [0, 1, 2, 3, 4, 5] rfl)
                      · refine lv_iconst (v := 1) hx hb dX11_lastsBy_93 (by decide) ?_
                        refine lv_goto (tgt := 98) hx hb dX11_lastsBy_94 (by decide) ?_
                        exact J_1667 1 (by first | (simp only [c_1663, c_1668, c_1670, if_true, if_false, reduceIte]; done) | (simp [c_1663, c_1668, c_1670]; done) | rfl | (rw [if_pos c_1663, if_pos c_1668, if_neg c_1670]; done)) _ _ _ hW (lv_sub hl [0, 1, 2, 3, 4, 5] rfl)
            exact K_1655 _ 0 0 0 (by first | exact rfl | (simp; done)) (by exact rfl) (by first | omega | assumption | (simp; done)) (Nat.lt_succ_self _) _ _ _ hW (lv_sub hl [0, 1, 2, 3, 4, 5] rfl)
    exact K_1651 _ 0 1 0 (b 8) (by first | exact rfl | (simp; done)) (by exact Or.inl ⟨rfl, by rw [eb8, Nat.add_zero, Nat.mod_eq_of_lt hfh], fun i hi => absurd hi (Nat.not_lt_zero _)⟩) (by first | omega | assumption | (simp; done)) (Nat.lt_succ_self _) _ _ _ hW (lv_sub hl [0, 1, 2, 3] rfl)
set_option maxHeartbeats 4000000 in
set_option maxRecDepth 100000 in
theorem c_X11_lastsBy_down (l : Launch) (G : gT) (mo al ke ik rq so ha te bt an vs : Nat) (mab mbe : Int64) (bL tA tL tK tV : Int32) (a : Nat → Int32) (b : Nat → Int32) (hup : ¬ b 9 = 1) : MI l G yX11_lastsBy cX11_lastsBy 6 .int ({ frames := 0, cells := 0, slots := 0, locals := 0 }) [.ref mo] [(mo, .inr (9, [.ref al, .ref ke, .ref ik, .ref rq, .long mab, .long mbe, .ref so, .ref ha, .ref te, .ref bt, .int bL, .int tA, .int tL, .int tK, .int tV, .ref an, .ref vs])), (al, .inl (G.2.1, 159, .inl a)), (ha, .inl (G.2.1, 40, .inl b))] (fun (r : Int32) w1 => (r = 0) ∧ w1 = [(mo, .inr (9, [.ref al, .ref ke, .ref ik, .ref rq, .long mab, .long mbe, .ref so, .ref ha, .ref te, .ref bt, .int bL, .int tA, .int tL, .int tK, .int tV, .ref an, .ref vs])), (al, .inl (G.2.1, 159, .inl a)), (ha, .inl (G.2.1, 40, .inl b))]) := by
  refine MI.mk (by decide) (Nat.le_of_ble_eq_true rfl) ?_
  intro p_ e_ s_ m_ ar_ be_ me_ cd_ A_ ls C hrt hW hl
  have hx := C.1; have hb := C.2.1; have hown := C.2.2.2.1; have ht := C.2.2.2.2.1
  replace hl : lv_has ls 6 [(0, .ref mo)] := hl
  generalize hQ : MQ be_ _ ar_ s_ 0 0 A_ = Q
  refine lv_aload_n hx hb dX11_lastsBy_0 rfl (lv_at hl 0 rfl) ?_
  refine g_get (k := 7) (v := .ref ha) C hW 0 rfl rfl jnX11 (by decide) k_fl_X11_30 rfl dX11_lastsBy_1 ?_
  refine lv_bipush (v := 8) hx hb dX11_lastsBy_4 (by decide) ?_
  refine g_ald C hW 2 rfl (vp_in_nI (n := 8) (by omega) (by omega)) dX11_lastsBy_6 ?_
  refine lv_as (y := b 8) (rfl) ?_
  refine lv_istore_n (lv' := [(1, .int (b 8)), (0, .ref mo)]) hx hb dX11_lastsBy_7 rfl hl (by decide) rfl ?_
  clear hl ls; intro ls hl
  refine lv_iconst (v := 0) hx hb dX11_lastsBy_8 (by decide) ?_
  refine lv_istore_n (lv' := [(2, .int 0), (1, .int (b 8)), (0, .ref mo)]) hx hb dX11_lastsBy_9 rfl hl (by decide) rfl ?_
  clear hl ls; intro ls hl
  refine lv_aload_n hx hb dX11_lastsBy_10 rfl (lv_at hl 2 rfl) ?_
  refine g_get (k := 7) (v := .ref ha) C hW 0 rfl rfl jnX11 (by decide) k_fl_X11_30 rfl dX11_lastsBy_11 ?_
  refine lv_bipush (v := 9) hx hb dX11_lastsBy_14 (by decide) ?_
  refine g_ald C hW 2 rfl (vp_in_nI (n := 9) (by omega) (by omega)) dX11_lastsBy_16 ?_
  refine lv_as (y := b 9) (rfl) ?_
  refine lv_iconst (v := 1) hx hb dX11_lastsBy_17 (by decide) ?_
  refine lv_icmp_ne (tgt := 25) hx hb dX11_lastsBy_18 (by decide) (fun c_1671 => ?_) (fun c_1671 => ?_)
  · refine lv_iconst (v := 0) hx hb dX11_lastsBy_25 (by decide) ?_
    refine lv_istore_n (lv' := [(3, .int 0), (2, .int 0), (1, .int (b 8)), (0, .ref mo)]) hx hb dX11_lastsBy_26 rfl hl (by decide) rfl ?_
    clear hl ls; intro ls hl
    refine lv_iload_n hx hb dX11_lastsBy_27 rfl (lv_at hl 0 rfl) ?_
    refine lv_if_eq (tgt := 129) hx hb dX11_lastsBy_28 (by decide) (fun c_1672 => ?_) (fun c_1672 => ?_)
    · refine lv_iload_n hx hb dX11_lastsBy_129 rfl (lv_at hl 1 rfl) ?_
      subst hQ
      exact g_iret (v := 0) C hW hrt ⟨by rfl, rfl⟩ dX11_lastsBy_130
    · exfalso; exact c_1672 rfl
  · exfalso; exact hup c_1671
set_option maxHeartbeats 4000000 in
set_option maxRecDepth 100000 in
theorem c_X11_lasts_up (l : Launch) (G : gT) (mo al ke ik rq so ha te bt an vs : Nat) (mab mbe : Int64) (bL tA tL tK tV : Int32) (a : Nat → Int32) (hf : Nat → Int32) (n hr fh : Nat) (e0 : a 0 = nI n) (hn : n ≤ 7) (e8 : a 8 = nI fh) (hfh : fh < 2) (e12 : a 12 = nI hr) (hh : hr < 10000) (hup : a 9 = 1) : MI l G yX11_lasts cX11_lasts 1 .int ({ frames := 4, cells := 0, slots := 0, locals := 97 }) [.ref mo] [(mo, .inr (9, [.ref al, .ref ke, .ref ik, .ref rq, .long mab, .long mbe, .ref so, .ref ha, .ref te, .ref bt, .int bL, .int tA, .int tL, .int tK, .int tV, .ref an, .ref vs])), (al, .inl (G.2.1, 159, .inl a)), (ha, .inl (G.2.1, 40, .inl hf))] (fun (r : Int32) w1 => ∃ u_ : Unit, (r = nI (lsN (fa_fill a hf 40) n hr fh)) ∧ w1 = [(mo, .inr (9, [.ref al, .ref ke, .ref ik, .ref rq, .long mab, .long mbe, .ref so, .ref ha, .ref te, .ref bt, .int bL, .int tA, .int tL, .int tK, .int tV, .ref an, .ref vs])), (al, .inl (G.2.1, 159, .inl a)), (ha, .inl (G.2.1, 40, .inl (fa_fill a hf 40)))]) := by
  refine MI.mk (by decide) (Nat.le_of_ble_eq_true rfl) ?_
  intro p_ e_ s_ m_ ar_ be_ me_ cd_ A_ ls C hrt hW hl
  have hx := C.1; have hb := C.2.1; have hown := C.2.2.2.1; have ht := C.2.2.2.2.1
  replace hl : lv_has ls 1 [(0, .ref mo)] := hl
  generalize hQ : MQ be_ _ ar_ s_ 0 0 A_ = Q
  refine lv_aload_n hx hb dX11_lasts_0 rfl (lv_at hl 0 rfl) ?_
  refine g_fvw (wr := []) (ww := fun (u_ : Unit) => [(mo, .inr (9, [.ref al, .ref ke, .ref ik, .ref rq, .long mab, .long mbe, .ref so, .ref ha, .ref te, .ref bt, .int bL, .int tA, .int tL, .int tK, .int tV, .ref an, .ref vs])), (al, .inl (G.2.1, 159, .inl a)), (ha, .inl (G.2.1, 40, .inl (fa_fill a hf 40)))]) (w2 := fun (u_ : Unit) => [(mo, .inr (9, [.ref al, .ref ke, .ref ik, .ref rq, .long mab, .long mbe, .ref so, .ref ha, .ref te, .ref bt, .int bL, .int tA, .int tL, .int tK, .int tV, .ref an, .ref vs])), (al, .inl (G.2.1, 159, .inl a)), (ha, .inl (G.2.1, 40, .inl (fa_fill a hf 40)))]) C hW [0, 1, 2] [] [0, 1, 2] rfl rfl (by decide) (by decide) (by decide) (fun _ => rfl) (g_runV (As := []) (rest := []) (wc := [(mo, .inr (9, [.ref al, .ref ke, .ref ik, .ref rq, .long mab, .long mbe, .ref so, .ref ha, .ref te, .ref bt, .int bL, .int tA, .int tL, .int tK, .int tV, .ref an, .ref vs])), (al, .inl (G.2.1, 159, .inl a)), (ha, .inl (G.2.1, 40, .inl hf))]) (q0 := 0) (ci := 9) C hW hl (c_X11_layHand l G mo al ke ik rq so ha te bt an vs mab mbe bL tA tL tK tV a hf  _) k_ml_X11_157 q_X11_layHand (by decide) [0, 1, 2] rfl rfl rfl rfl rfl rfl (Nat.le_of_ble_eq_true rfl) dX11_lasts_1 (by decide)) (fun _ er_1673 => ?_)
  clear hW; intro H locs hW
  replace hW : Wd G A_ s_.heap [(mo, .inr (9, [.ref al, .ref ke, .ref ik, .ref rq, .long mab, .long mbe, .ref so, .ref ha, .ref te, .ref bt, .int bL, .int tA, .int tL, .int tK, .int tV, .ref an, .ref vs])), (al, .inl (G.2.1, 159, .inl a)), (ha, .inl (G.2.1, 40, .inl (fa_fill a hf 40)))] H locs := hW
  refine lv_aload_n hx hb dX11_lasts_4 rfl (lv_at hl 0 rfl) ?_
  refine g_fi C hW [0, 1, 2] rfl (g_runV (As := []) (rest := []) (wc := [(mo, .inr (9, [.ref al, .ref ke, .ref ik, .ref rq, .long mab, .long mbe, .ref so, .ref ha, .ref te, .ref bt, .int bL, .int tA, .int tL, .int tK, .int tV, .ref an, .ref vs])), (al, .inl (G.2.1, 159, .inl a)), (ha, .inl (G.2.1, 40, .inl (fa_fill a hf 40)))]) (q0 := 0) (ci := 9) C hW hl (c_X11_lastsBy l G mo al ke ik rq so ha te bt an vs mab mbe bL tA tL tK tV a (fa_fill a hf 40) n hr fh (by first | assumption | omega) (by first | assumption | omega) (by (rw [fa_fill_in (by decide)]; exact e8)) (by first | assumption | omega) (by (rw [fa_fill_in (by decide)]; exact e12)) (by first | assumption | omega) (by (rw [fa_fill_in (by decide)]; exact hup)) _) k_ml_X11_160 q_X11_lastsBy (by decide) [0, 1, 2] rfl rfl rfl rfl rfl rfl (Nat.le_of_ble_eq_true rfl) dX11_lasts_5 (by decide)) (fun r_1675 er_1675 => ?_)
  clear hW H locs; intro H locs hW
  refine lv_as (y := nI (lsN (fa_fill a hf 40) n hr fh)) er_1675 ?_
  clear er_1675 r_1675
  subst hQ
  exact g_iret (v := (nI (lsN (fa_fill a hf 40) n hr fh))) C hW hrt ⟨(), by rfl, by rfl⟩ dX11_lasts_8
set_option maxHeartbeats 4000000 in
set_option maxRecDepth 100000 in
theorem c_X11_place_nup (l : Launch) (G : gT) (mo al ke ik rq so ha te bt an vs : Nat) (mab mbe : Int64) (bL tA tL tK tV : Int32) (a : Nat → Int32) (hf : Nat → Int32) (n hr fh N : Nat) (e0 : a 0 = nI n) (hn : n ≤ 7) (e8 : a 8 = nI fh) (hfh : fh < 2) (e12 : a 12 = nI hr) (hh : hr < 10000) (eN : N = 2 ^ n) (hup : a 9 = 1) : MI l G yX11_place cX11_place 6 .int ({ frames := 4, cells := 0, slots := 0, locals := 97 }) [.ref mo, .int (-1)] [(mo, .inr (9, [.ref al, .ref ke, .ref ik, .ref rq, .long mab, .long mbe, .ref so, .ref ha, .ref te, .ref bt, .int bL, .int tA, .int tL, .int tK, .int tV, .ref an, .ref vs])), (al, .inl (G.2.1, 159, .inl a)), (ha, .inl (G.2.1, 40, .inl hf))] (fun (r : Int32) w1 => ∃ u_ : Nat → Int32, (r = (plA (lwA a n hr fh) N).2) ∧ w1 = [(mo, .inr (9, [.ref al, .ref ke, .ref ik, .ref rq, .long mab, .long mbe, .ref so, .ref ha, .ref te, .ref bt, .int bL, .int tA, .int tL, .int tK, .int tV, .ref an, .ref vs])), (al, .inl (G.2.1, 159, .inl a)), (ha, .inl (G.2.1, 40, .inl u_))]) := by
  refine MI.mk (by decide) (Nat.le_of_ble_eq_true rfl) ?_
  intro p_ e_ s_ m_ ar_ be_ me_ cd_ A_ ls C hrt hW hl
  have hx := C.1; have hb := C.2.1; have hown := C.2.2.2.1; have ht := C.2.2.2.2.1
  replace hl : lv_has ls 6 [(0, .ref mo), (1, .int (-1))] := hl
  generalize hQ : MQ be_ _ ar_ s_ 0 0 A_ = Q
  have h2n : 1 ≤ N ∧ N ≤ 128 := by rw [eN]; exact pw7 hn
  refine lv_iload_n hx hb dX11_place_0 rfl (lv_at hl 1 rfl) ?_
  refine lv_iconst (v := (-1)) hx hb dX11_place_1 (by decide) ?_
  refine lv_icmp_eq (tgt := 20) hx hb dX11_place_2 (by decide) (fun c_1676 => ?_) (fun c_1676 => ?_)
  · refine lv_iconst (v := (-1)) hx hb dX11_place_20 (by decide) ?_
    refine lv_istore_n (lv' := [(2, .int (-1)), (0, .ref mo), (1, .int (-1))]) hx hb dX11_place_21 rfl hl (by decide) rfl ?_
    clear hl ls; intro ls hl
    refine lv_iconst (v := 0) hx hb dX11_place_22 (by decide) ?_
    refine lv_istore_n (lv' := [(3, .int 0), (2, .int (-1)), (0, .ref mo), (1, .int (-1))]) hx hb dX11_place_23 rfl hl (by decide) rfl ?_
    clear hl ls; intro ls hl
    refine lv_iconst (v := 0) hx hb dX11_place_24 (by decide) ?_
    refine lv_istore (lv' := [(4, .int 0), (3, .int 0), (2, .int (-1)), (0, .ref mo), (1, .int (-1))]) hx hb dX11_place_25 hl (by decide) rfl ?_
    clear hl ls; intro ls hl
    have K_1677 : ∀ (n_ : Nat) (c : Nat) (x_1678 : Int32) (x_1679 : Int32) (x_1680 : Int32) (hx_ : Nat → Int32) (_ : x_1678 = nI c) (_ : x_1679 = (plA (lwA a n hr fh) c).1) (_ : x_1680 = (plA (lwA a n hr fh) c).2) (_ : c ≤ N) (_ : N - c < n_) (H : Heap) (locs : List Loc) (ls : Array Slot), Wd G A_ s_.heap [(mo, .inr (9, [.ref al, .ref ke, .ref ik, .ref rq, .long mab, .long mbe, .ref so, .ref ha, .ref te, .ref bt, .int bL, .int tA, .int tL, .int tK, .int tV, .ref an, .ref vs])), (al, .inl (G.2.1, 159, .inl a)), (ha, .inl (G.2.1, 40, .inl hx_))] H locs → lv_has ls 6 [(4, .int x_1678), (3, .int x_1679), (2, .int x_1680), (0, .ref mo), (1, .int (-1))] → W p_ l e_ ({ frames := 4, cells := 0, slots := 0, locals := 97 }) s_ m_ ar_ be_ me_ cd_ H locs 0 0 Q (F0 m_ 27 ls []) := by
      intro n_
      induction n_ with
      | zero => intro c x_1678 x_1679 x_1680 hx_ ex_1678 ex_1679 ex_1680 hc hm_; exact absurd hm_ (Nat.not_lt_zero _)
      | succ n_ ihK_1677 =>
        intro c x_1678 x_1679 x_1680 hx_ ex_1678 ex_1679 ex_1680 hc hm_ H locs ls hW hl
        subst ex_1678
        subst ex_1679
        subst ex_1680
        refine lv_iload hx hb dX11_place_27 (lv_at hl 0 rfl) ?_
        refine lv_iconst (v := 1) hx hb dX11_place_29 (by decide) ?_
        refine lv_aload_n hx hb dX11_place_30 rfl (lv_at hl 3 rfl) ?_
        refine g_fi C hW [0, 1] rfl (g_runV (As := []) (rest := [.int 1, .int (nI c)]) (wc := [(mo, .inr (9, [.ref al, .ref ke, .ref ik, .ref rq, .long mab, .long mbe, .ref so, .ref ha, .ref te, .ref bt, .int bL, .int tA, .int tL, .int tK, .int tV, .ref an, .ref vs])), (al, .inl (G.2.1, 159, .inl a))]) (q0 := 0) (ci := 9) C hW hl (c_X11_many l G mo al ke ik rq so ha te bt an vs mab mbe bL tA tL tK tV a n (by first | assumption | omega) _) k_ml_X11_49 q_X11_many (by decide) [0, 1] rfl rfl rfl rfl rfl rfl (Nat.le_of_ble_eq_true rfl) dX11_place_31 (by decide)) (fun r_1681 er_1681 => ?_)
        clear hW H locs; intro H locs hW
        refine lv_as (y := nI n) er_1681 ?_
        clear er_1681 r_1681
        refine lv_ishl hx hb dX11_place_34 ?_
        refine lv_as (y := nI N) (by rw [eN]; exact sh1 n (by omega)) ?_
        refine lv_icmp_ge (tgt := 122) hx hb dX11_place_35 (by decide) (fun c_1682 => ?_) (fun c_1682 => ?_)
        · replace c_1682 := Int32.not_lt.mpr c_1682
          have c_1682n : ¬ c < N := fun q => c_1682 ((nI_ltI (a := c) (b := N) (by omega) (by omega)).mpr q)
          refine lv_iload_n hx hb dX11_place_122 rfl (lv_at hl 4 rfl) ?_
          refine lv_iconst (v := (-1)) hx hb dX11_place_123 (by decide) ?_
          refine lv_icmp_ne (tgt := 131) hx hb dX11_place_124 (by decide) (fun c_1685 => ?_) (fun c_1685 => ?_)
          · exfalso; exact c_1685 rfl
          · refine lv_iload_n hx hb dX11_place_127 rfl (lv_at hl 2 rfl) ?_
            refine lv_goto (tgt := 143) hx hb dX11_place_128 (by decide) ?_
            subst hQ
            exact g_iret (v := ((plA (lwA a n hr fh) c).2)) C hW hrt ⟨hx_, by (rw [show N = c by omega]), by rfl⟩ dX11_place_143
        · replace c_1682 := Int32.not_le.mp c_1682
          have c_1682n : c < N := (nI_ltI (a := c) (b := N) (by omega) (by omega)).mp c_1682
          refine lv_aload_n hx hb dX11_place_38 rfl (lv_at hl 3 rfl) ?_
          refine g_fvw (wr := []) (ww := fun (u_ : Unit) => [(mo, .inr (9, [.ref al, .ref ke, .ref ik, .ref rq, .long mab, .long mbe, .ref so, .ref ha, .ref te, .ref bt, .int bL, .int tA, .int tL, .int tK, .int tV, .ref an, .ref vs])), (al, .inl (G.2.1, 159, .inl a)), (ha, .inl (G.2.1, 40, .inl (fa_fill a hx_ 40)))]) (w2 := fun (u_ : Unit) => [(mo, .inr (9, [.ref al, .ref ke, .ref ik, .ref rq, .long mab, .long mbe, .ref so, .ref ha, .ref te, .ref bt, .int bL, .int tA, .int tL, .int tK, .int tV, .ref an, .ref vs])), (al, .inl (G.2.1, 159, .inl a)), (ha, .inl (G.2.1, 40, .inl (fa_fill a hx_ 40)))]) C hW [0, 1, 2] [] [0, 1, 2] rfl rfl (by decide) (by decide) (by decide) (fun _ => rfl) (g_runV (As := []) (rest := []) (wc := [(mo, .inr (9, [.ref al, .ref ke, .ref ik, .ref rq, .long mab, .long mbe, .ref so, .ref ha, .ref te, .ref bt, .int bL, .int tA, .int tL, .int tK, .int tV, .ref an, .ref vs])), (al, .inl (G.2.1, 159, .inl a)), (ha, .inl (G.2.1, 40, .inl hx_))]) (q0 := 0) (ci := 9) C hW hl (c_X11_layHand l G mo al ke ik rq so ha te bt an vs mab mbe bL tA tL tK tV a hx_  _) k_ml_X11_157 q_X11_layHand (by decide) [0, 1, 2] rfl rfl rfl rfl rfl rfl (Nat.le_of_ble_eq_true rfl) dX11_place_39 (by decide)) (fun _ er_1686 => ?_)
          clear hW H locs; intro H locs hW
          replace hW : Wd G A_ s_.heap [(mo, .inr (9, [.ref al, .ref ke, .ref ik, .ref rq, .long mab, .long mbe, .ref so, .ref ha, .ref te, .ref bt, .int bL, .int tA, .int tL, .int tK, .int tV, .ref an, .ref vs])), (al, .inl (G.2.1, 159, .inl a)), (ha, .inl (G.2.1, 40, .inl (fa_fill a hx_ 40)))] H locs := hW
          refine lv_iconst (v := 0) hx hb dX11_place_42 (by decide) ?_
          refine lv_istore (lv' := [(5, .int 0), (4, .int (nI c)), (3, .int ((plA (lwA a n hr fh) c).1)), (2, .int ((plA (lwA a n hr fh) c).2)), (0, .ref mo), (1, .int (-1))]) hx hb dX11_place_43 hl (by decide) rfl ?_
          clear hl ls; intro ls hl
          have K_1688 : ∀ (n_ : Nat) (pq : Nat) (x_1689 : Int32) (g_1690 : Nat → Int32) (_ : x_1689 = nI pq) (_ : g_1690 = (wyA a hx_ n c pq)) (_ : pq ≤ n) (_ : n - pq < n_) (H : Heap) (locs : List Loc) (ls : Array Slot), Wd G A_ s_.heap [(mo, .inr (9, [.ref al, .ref ke, .ref ik, .ref rq, .long mab, .long mbe, .ref so, .ref ha, .ref te, .ref bt, .int bL, .int tA, .int tL, .int tK, .int tV, .ref an, .ref vs])), (al, .inl (G.2.1, 159, .inl a)), (ha, .inl (G.2.1, 40, .inl g_1690))] H locs → lv_has ls 6 [(5, .int x_1689), (4, .int (nI c)), (3, .int ((plA (lwA a n hr fh) c).1)), (2, .int ((plA (lwA a n hr fh) c).2)), (0, .ref mo), (1, .int (-1))] → W p_ l e_ ({ frames := 4, cells := 0, slots := 0, locals := 97 }) s_ m_ ar_ be_ me_ cd_ H locs 0 0 Q (F0 m_ 45 ls []) := by
            intro n_
            induction n_ with
            | zero => intro pq x_1689 g_1690 ex_1689 eg_1690 hq hm_; exact absurd hm_ (Nat.not_lt_zero _)
            | succ n_ ihK_1688 =>
              intro pq x_1689 g_1690 ex_1689 eg_1690 hq hm_ H locs ls hW hl
              subst ex_1689
              subst eg_1690
              refine lv_iload hx hb dX11_place_45 (lv_at hl 0 rfl) ?_
              refine lv_aload_n hx hb dX11_place_47 rfl (lv_at hl 4 rfl) ?_
              refine g_fi C hW [0, 1] rfl (g_runV (As := []) (rest := [.int (nI pq)]) (wc := [(mo, .inr (9, [.ref al, .ref ke, .ref ik, .ref rq, .long mab, .long mbe, .ref so, .ref ha, .ref te, .ref bt, .int bL, .int tA, .int tL, .int tK, .int tV, .ref an, .ref vs])), (al, .inl (G.2.1, 159, .inl a))]) (q0 := 0) (ci := 9) C hW hl (c_X11_many l G mo al ke ik rq so ha te bt an vs mab mbe bL tA tL tK tV a n (by first | assumption | omega) _) k_ml_X11_49 q_X11_many (by decide) [0, 1] rfl rfl rfl rfl rfl rfl (Nat.le_of_ble_eq_true rfl) dX11_place_48 (by decide)) (fun r_1691 er_1691 => ?_)
              clear hW H locs; intro H locs hW
              refine lv_as (y := nI n) er_1691 ?_
              clear er_1691 r_1691
              refine lv_icmp_ge (tgt := 84) hx hb dX11_place_51 (by decide) (fun c_1692 => ?_) (fun c_1692 => ?_)
              · replace c_1692 := Int32.not_lt.mpr c_1692
                have c_1692n : ¬ pq < n := fun q => c_1692 ((nI_ltI (a := pq) (b := n) (by omega) (by omega)).mpr q)
                refine lv_aload_n hx hb dX11_place_84 rfl (lv_at hl 4 rfl) ?_
                refine g_fi C hW [0, 1, 2] rfl (g_runV (As := []) (rest := []) (wc := [(mo, .inr (9, [.ref al, .ref ke, .ref ik, .ref rq, .long mab, .long mbe, .ref so, .ref ha, .ref te, .ref bt, .int bL, .int tA, .int tL, .int tK, .int tV, .ref an, .ref vs])), (al, .inl (G.2.1, 159, .inl a)), (ha, .inl (G.2.1, 40, .inl (wyA a hx_ n c pq)))]) (q0 := 0) (ci := 9) C hW hl (c_X11_lastsBy l G mo al ke ik rq so ha te bt an vs mab mbe bL tA tL tK tV a (wyA a hx_ n c pq) n hr fh (by first | assumption | omega) (by first | assumption | omega) (by (rw [wyA_lo (by decide)]; exact e8)) (by first | assumption | omega) (by (rw [wyA_lo (by decide)]; exact e12)) (by first | assumption | omega) (by (rw [wyA_lo (by decide)]; exact hup)) _) k_ml_X11_160 q_X11_lastsBy (by decide) [0, 1, 2] rfl rfl rfl rfl rfl rfl (Nat.le_of_ble_eq_true rfl) dX11_place_85 (by decide)) (fun r_1694 er_1694 => ?_)
                clear hW H locs; intro H locs hW
                refine lv_as (y := nI (lsN (wyA a hx_ n c pq) n hr fh)) er_1694 ?_
                clear er_1694 r_1694
                refine lv_as (y := lwA a n hr fh c) (by rw [show pq = n by omega]; exact lw_eq hn hup) ?_
                refine lv_istore (lv' := [(5, .int (lwA a n hr fh c)), (4, .int (nI c)), (3, .int ((plA (lwA a n hr fh) c).1)), (2, .int ((plA (lwA a n hr fh) c).2)), (0, .ref mo), (1, .int (-1))]) hx hb dX11_place_88 hl (by decide) rfl ?_
                clear hl ls; intro ls hl
                refine lv_iload hx hb dX11_place_90 (lv_at hl 0 rfl) ?_
                refine lv_iload_n hx hb dX11_place_92 rfl (lv_at hl 3 rfl) ?_
                have J_1697 : ∀ (y_1696 : Int32) (_ : y_1696 = (if ((plA (lwA a n hr fh) c).2) < (lwA a n hr fh c) then nI c else (plA (lwA a n hr fh) c).1)), ∀ (H : Heap) (locs : List Loc) (ls : Array Slot), Wd G A_ s_.heap [(mo, .inr (9, [.ref al, .ref ke, .ref ik, .ref rq, .long mab, .long mbe, .ref so, .ref ha, .ref te, .ref bt, .int bL, .int tA, .int tL, .int tK, .int tV, .ref an, .ref vs])), (al, .inl (G.2.1, 159, .inl a)), (ha, .inl (G.2.1, 40, .inl (wyA a hx_ n c pq)))] H locs → lv_has ls 6 [(5, .int (lwA a n hr fh c)), (4, .int (nI c)), (3, .int ((plA (lwA a n hr fh) c).1)), (2, .int ((plA (lwA a n hr fh) c).2)), (0, .ref mo), (1, .int (-1))] → W p_ l e_ ({ frames := 4, cells := 0, slots := 0, locals := 97 }) s_ m_ ar_ be_ me_ cd_ H locs 0 0 Q (F0 m_ 102 ls [.int y_1696]) := by
                  intro y_1696 ey_1696 H locs ls hW hl
                  refine lv_istore_n (lv' := [(3, .int y_1696), (5, .int (lwA a n hr fh c)), (4, .int (nI c)), (2, .int ((plA (lwA a n hr fh) c).2)), (0, .ref mo), (1, .int (-1))]) hx hb dX11_place_102 rfl hl (by decide) rfl ?_
                  clear hl ls; intro ls hl
                  refine lv_iload hx hb dX11_place_103 (lv_at hl 1 rfl) ?_
                  refine lv_iload_n hx hb dX11_place_105 rfl (lv_at hl 3 rfl) ?_
                  have J_1700 : ∀ (y_1699 : Int32) (_ : y_1699 = (if ((plA (lwA a n hr fh) c).2) < (lwA a n hr fh c) then lwA a n hr fh c else (plA (lwA a n hr fh) c).2)), ∀ (H : Heap) (locs : List Loc) (ls : Array Slot), Wd G A_ s_.heap [(mo, .inr (9, [.ref al, .ref ke, .ref ik, .ref rq, .long mab, .long mbe, .ref so, .ref ha, .ref te, .ref bt, .int bL, .int tA, .int tL, .int tK, .int tV, .ref an, .ref vs])), (al, .inl (G.2.1, 159, .inl a)), (ha, .inl (G.2.1, 40, .inl (wyA a hx_ n c pq)))] H locs → lv_has ls 6 [(3, .int y_1696), (5, .int (lwA a n hr fh c)), (4, .int (nI c)), (2, .int ((plA (lwA a n hr fh) c).2)), (0, .ref mo), (1, .int (-1))] → W p_ l e_ ({ frames := 4, cells := 0, slots := 0, locals := 97 }) s_ m_ ar_ be_ me_ cd_ H locs 0 0 Q (F0 m_ 115 ls [.int y_1699]) := by
                    intro y_1699 ey_1699 H locs ls hW hl
                    refine lv_istore_n (lv' := [(2, .int y_1699), (3, .int y_1696), (5, .int (lwA a n hr fh c)), (4, .int (nI c)), (0, .ref mo), (1, .int (-1))]) hx hb dX11_place_115 rfl hl (by decide) rfl ?_
                    clear hl ls; intro ls hl
                    refine lv_iinc (v := (nI c) + 1) (lv' := [(4, .int ((nI c) + 1)), (2, .int y_1699), (3, .int y_1696), (5, .int (lwA a n hr fh c)), (0, .ref mo), (1, .int (-1))]) hx hb dX11_place_116 hl (k := 3) rfl rfl (by decide) rfl ?_
                    clear hl ls; intro ls hl
                    refine lv_goto (tgt := 27) hx hb dX11_place_119 (by decide) ?_
                    exact ihK_1677 (c + 1) ((nI c) + 1) y_1696 y_1699 (wyA a hx_ n c pq) (by exact nI_1 _) (by (simp only [ey_1696, ey_1699]; exact pl_1)) (by (simp only [ey_1696, ey_1699]; exact pl_2)) (by first | omega | assumption | (simp; done)) (by omega) _ _ _ hW (lv_sub hl [0, 2, 1, 4, 5] rfl)
                  refine lv_icmp_le (tgt := 114) hx hb dX11_place_106 (by decide) (fun c_1698 => ?_) (fun c_1698 => ?_)
                  · replace c_1698 := Int32.not_lt.mpr c_1698
                    refine lv_iload_n hx hb dX11_place_114 rfl (lv_at hl 3 rfl) ?_
                    exact J_1700 ((plA (lwA a n hr fh) c).2) (by first | (simp only [c_1698, if_true, if_false, reduceIte]; done) | (simp [c_1698]; done) | rfl | (rw [if_neg c_1698]; done)) _ _ _ hW (lv_sub hl [0, 1, 2, 3, 4, 5] rfl)
                  · replace c_1698 := Int32.not_le.mp c_1698
                    refine lv_iload hx hb dX11_place_109 (lv_at hl 1 rfl) ?_
                    refine lv_goto (tgt := 115) hx hb dX11_place_111 (by decide) ?_
                    exact J_1700 (lwA a n hr fh c) (by first | (simp only [c_1698, if_true, if_false, reduceIte]; done) | (simp [c_1698]; done) | rfl | (rw [if_pos c_1698]; done)) _ _ _ hW (lv_sub hl [0, 1, 2, 3, 4, 5] rfl)
                refine lv_icmp_le (tgt := 101) hx hb dX11_place_93 (by decide) (fun c_1695 => ?_) (fun c_1695 => ?_)
                · replace c_1695 := Int32.not_lt.mpr c_1695
                  refine lv_iload_n hx hb dX11_place_101 rfl (lv_at hl 2 rfl) ?_
                  exact J_1697 ((plA (lwA a n hr fh) c).1) (by first | (simp only [c_1695, if_true, if_false, reduceIte]; done) | (simp [c_1695]; done) | rfl | (rw [if_neg c_1695]; done)) _ _ _ hW (lv_sub hl [0, 1, 2, 3, 4, 5] rfl)
                · replace c_1695 := Int32.not_le.mp c_1695
                  refine lv_iload hx hb dX11_place_96 (lv_at hl 1 rfl) ?_
                  refine lv_goto (tgt := 102) hx hb dX11_place_98 (by decide) ?_
                  exact J_1697 (nI c) (by first | (simp only [c_1695, if_true, if_false, reduceIte]; done) | (simp [c_1695]; done) | rfl | (rw [if_pos c_1695]; done)) _ _ _ hW (lv_sub hl [0, 1, 2, 3, 4, 5] rfl)
              · replace c_1692 := Int32.not_le.mp c_1692
                have c_1692n : pq < n := (nI_ltI (a := pq) (b := n) (by omega) (by omega)).mp c_1692
                refine lv_aload_n hx hb dX11_place_54 rfl (lv_at hl 4 rfl) ?_
                refine g_get (k := 7) (v := .ref ha) C hW 0 rfl rfl jnX11 (by decide) k_fl_X11_30 rfl dX11_place_55 ?_
                refine lv_bipush (v := 26) hx hb dX11_place_58 (by decide) ?_
                refine lv_iload hx hb dX11_place_60 (lv_at hl 0 rfl) ?_
                refine lv_iadd hx hb dX11_place_62 ?_
                refine lv_iload hx hb dX11_place_63 (lv_at hl 1 rfl) ?_
                refine lv_aload_n hx hb dX11_place_65 rfl (lv_at hl 4 rfl) ?_
                refine g_fi C hW [0, 1] rfl (g_runV (As := []) (rest := [.int (nI c), .int (26 + (nI pq)), .ref ha]) (wc := [(mo, .inr (9, [.ref al, .ref ke, .ref ik, .ref rq, .long mab, .long mbe, .ref so, .ref ha, .ref te, .ref bt, .int bL, .int tA, .int tL, .int tK, .int tV, .ref an, .ref vs])), (al, .inl (G.2.1, 159, .inl a))]) (q0 := 0) (ci := 9) C hW hl (c_X11_many l G mo al ke ik rq so ha te bt an vs mab mbe bL tA tL tK tV a n (by first | assumption | omega) _) k_ml_X11_49 q_X11_many (by decide) [0, 1] rfl rfl rfl rfl rfl rfl (Nat.le_of_ble_eq_true rfl) dX11_place_66 (by decide)) (fun r_1701 er_1701 => ?_)
                clear hW H locs; intro H locs hW
                refine lv_as (y := nI n) er_1701 ?_
                clear er_1701 r_1701
                refine lv_iconst (v := 1) hx hb dX11_place_69 (by decide) ?_
                refine lv_isub hx hb dX11_place_70 ?_
                refine lv_iload hx hb dX11_place_71 (lv_at hl 0 rfl) ?_
                refine lv_isub hx hb dX11_place_73 ?_
                refine lv_ishr hx hb dX11_place_74 ?_
                refine lv_iconst (v := 1) hx hb dX11_place_75 (by decide) ?_
                refine lv_iand hx hb dX11_place_76 ?_
                refine g_ast (w' := [(mo, .inr (9, [.ref al, .ref ke, .ref ik, .ref rq, .long mab, .long mbe, .ref so, .ref ha, .ref te, .ref bt, .int bL, .int tA, .int tL, .int tK, .int tV, .ref an, .ref vs])), (al, .inl (G.2.1, 159, .inl a)), (ha, .inl (G.2.1, 40, .inl (upd (wyA a hx_ n c pq) (26 + pq) (((nI c) >>> ((((nI n) - 1) - (nI pq)) &&& 31)) &&& (1 : Int32)))))]) C hW 2 rfl (ix_in (show (26 + (nI pq)) = nI (26 + pq) from (by first | rfl | (simp only [nI_lit, nI_add, pk_mul]; done) | (simp only [nI_lit, nI_add, pk_mul]; congr 1; omega))) (by omega) (by omega)) (by rw [show (26 + (nI pq)).toNatClampNeg = (26 + pq) from ix_cl (show (26 + (nI pq)) = nI (26 + pq) from (by first | rfl | (simp only [nI_lit, nI_add, pk_mul]; done) | (simp only [nI_lit, nI_add, pk_mul]; congr 1; omega))) (Nat.lt_of_lt_of_le (m := 40) (by omega) (by omega))]; rfl) dX11_place_77 ?_
                clear hW H locs; intro H locs hW
                refine lv_iinc (v := (nI pq) + 1) (lv' := [(5, .int ((nI pq) + 1)), (4, .int (nI c)), (3, .int ((plA (lwA a n hr fh) c).1)), (2, .int ((plA (lwA a n hr fh) c).2)), (0, .ref mo), (1, .int (-1))]) hx hb dX11_place_78 hl (k := 0) rfl rfl (by decide) rfl ?_
                clear hl ls; intro ls hl
                refine lv_goto (tgt := 45) hx hb dX11_place_81 (by decide) ?_
                exact ihK_1688 (pq + 1) ((nI pq) + 1) (upd (wyA a hx_ n c pq) (26 + pq) (((nI c) >>> ((((nI n) - 1) - (nI pq)) &&& 31)) &&& (1 : Int32))) (by exact nI_1 _) (by exact rfl) (by first | omega | assumption | (simp; done)) (by omega) _ _ _ hW (lv_sub hl [0, 1, 2, 3, 4, 5] rfl)
          exact K_1688 _ 0 0 (fa_fill a hx_ 40) (by first | exact rfl | (simp; done)) (by exact rfl) (by first | omega | assumption | (simp; done)) (Nat.lt_succ_self _) _ _ _ hW (lv_sub hl [0, 1, 2, 3, 4, 5] rfl)
    exact K_1677 _ 0 0 0 (-1) hf (by first | exact rfl | (simp; done)) (by exact rfl) (by exact rfl) (by first | omega | assumption | (simp; done)) (Nat.lt_succ_self _) _ _ _ hW (lv_sub hl [0, 1, 2, 3, 4] rfl)
  · exfalso; exact c_1676 rfl
set_option maxHeartbeats 4000000 in
set_option maxRecDepth 100000 in
theorem c_X11_place_pup (l : Launch) (G : gT) (mo al ke ik rq so ha te bt an vs : Nat) (mab mbe : Int64) (bL tA tL tK tV : Int32) (a : Nat → Int32) (hf : Nat → Int32) (n hr fh N : Nat) (k : Nat) (e0 : a 0 = nI n) (hn : n ≤ 7) (e8 : a 8 = nI fh) (hfh : fh < 2) (e12 : a 12 = nI hr) (hh : hr < 10000) (eN : N = 2 ^ n) (hup : a 9 = 1) (hk : k < n) : MI l G yX11_place cX11_place 6 .int ({ frames := 4, cells := 0, slots := 0, locals := 97 }) [.ref mo, .int (nI k)] [(mo, .inr (9, [.ref al, .ref ke, .ref ik, .ref rq, .long mab, .long mbe, .ref so, .ref ha, .ref te, .ref bt, .int bL, .int tA, .int tL, .int tK, .int tV, .ref an, .ref vs])), (al, .inl (G.2.1, 159, .inl a)), (ha, .inl (G.2.1, 40, .inl hf))] (fun (r : Int32) w1 => ∃ u_ : Nat → Int32, (r = ((plA (lwA a n hr fh) N).1 >>> ((nI n - 1 - nI k) &&& 31)) &&& 1) ∧ w1 = [(mo, .inr (9, [.ref al, .ref ke, .ref ik, .ref rq, .long mab, .long mbe, .ref so, .ref ha, .ref te, .ref bt, .int bL, .int tA, .int tL, .int tK, .int tV, .ref an, .ref vs])), (al, .inl (G.2.1, 159, .inl a)), (ha, .inl (G.2.1, 40, .inl u_))]) := by
  refine MI.mk (by decide) (Nat.le_of_ble_eq_true rfl) ?_
  intro p_ e_ s_ m_ ar_ be_ me_ cd_ A_ ls C hrt hW hl
  have hx := C.1; have hb := C.2.1; have hown := C.2.2.2.1; have ht := C.2.2.2.2.1
  replace hl : lv_has ls 6 [(0, .ref mo), (1, .int (nI k))] := hl
  generalize hQ : MQ be_ _ ar_ s_ 0 0 A_ = Q
  have h2n : 1 ≤ N ∧ N ≤ 128 := by rw [eN]; exact pw7 hn
  refine lv_iload_n hx hb dX11_place_0 rfl (lv_at hl 1 rfl) ?_
  refine lv_iconst (v := (-1)) hx hb dX11_place_1 (by decide) ?_
  refine lv_icmp_eq (tgt := 20) hx hb dX11_place_2 (by decide) (fun c_1702 => ?_) (fun c_1702 => ?_)
  · exfalso; exact nI_m1ne (by omega) c_1702
  · refine lv_aload_n hx hb dX11_place_5 rfl (lv_at hl 0 rfl) ?_
    refine lv_iload_n hx hb dX11_place_6 rfl (lv_at hl 1 rfl) ?_
    refine g_fi C hW [0, 1] rfl (g_runV (As := [.int (nI k)]) (rest := []) (wc := [(mo, .inr (9, [.ref al, .ref ke, .ref ik, .ref rq, .long mab, .long mbe, .ref so, .ref ha, .ref te, .ref bt, .int bL, .int tA, .int tL, .int tK, .int tV, .ref an, .ref vs])), (al, .inl (G.2.1, 159, .inl a))]) (q0 := 0) (ci := 9) C hW hl (c_X11_isPlayer l G mo al ke ik rq so ha te bt an vs mab mbe bL tA tL tK tV a n (nI k) (by first | assumption | omega) (by first | assumption | omega) _) k_ml_X11_118 q_X11_isPlayer (by decide) [0, 1] rfl rfl rfl rfl rfl rfl (Nat.le_of_ble_eq_true rfl) dX11_place_7 (by decide)) (fun r_1703 er_1703 => ?_)
    clear hW; intro H locs hW
    refine lv_as (y := bI (okp n (nI k))) er_1703 ?_
    clear er_1703 r_1703
    refine lv_if_ne (tgt := 20) hx hb dX11_place_10 (by decide) (fun c_1704 => ?_) (fun c_1704 => ?_)
    · refine lv_iconst (v := (-1)) hx hb dX11_place_20 (by decide) ?_
      refine lv_istore_n (lv' := [(2, .int (-1)), (0, .ref mo), (1, .int (nI k))]) hx hb dX11_place_21 rfl hl (by decide) rfl ?_
      clear hl ls; intro ls hl
      refine lv_iconst (v := 0) hx hb dX11_place_22 (by decide) ?_
      refine lv_istore_n (lv' := [(3, .int 0), (2, .int (-1)), (0, .ref mo), (1, .int (nI k))]) hx hb dX11_place_23 rfl hl (by decide) rfl ?_
      clear hl ls; intro ls hl
      refine lv_iconst (v := 0) hx hb dX11_place_24 (by decide) ?_
      refine lv_istore (lv' := [(4, .int 0), (3, .int 0), (2, .int (-1)), (0, .ref mo), (1, .int (nI k))]) hx hb dX11_place_25 hl (by decide) rfl ?_
      clear hl ls; intro ls hl
      have K_1705 : ∀ (n_ : Nat) (c : Nat) (x_1706 : Int32) (x_1707 : Int32) (x_1708 : Int32) (hx_ : Nat → Int32) (_ : x_1706 = nI c) (_ : x_1707 = (plA (lwA a n hr fh) c).1) (_ : x_1708 = (plA (lwA a n hr fh) c).2) (_ : c ≤ N) (_ : N - c < n_) (H : Heap) (locs : List Loc) (ls : Array Slot), Wd G A_ s_.heap [(mo, .inr (9, [.ref al, .ref ke, .ref ik, .ref rq, .long mab, .long mbe, .ref so, .ref ha, .ref te, .ref bt, .int bL, .int tA, .int tL, .int tK, .int tV, .ref an, .ref vs])), (al, .inl (G.2.1, 159, .inl a)), (ha, .inl (G.2.1, 40, .inl hx_))] H locs → lv_has ls 6 [(4, .int x_1706), (3, .int x_1707), (2, .int x_1708), (0, .ref mo), (1, .int (nI k))] → W p_ l e_ ({ frames := 4, cells := 0, slots := 0, locals := 97 }) s_ m_ ar_ be_ me_ cd_ H locs 0 0 Q (F0 m_ 27 ls []) := by
        intro n_
        induction n_ with
        | zero => intro c x_1706 x_1707 x_1708 hx_ ex_1706 ex_1707 ex_1708 hc hm_; exact absurd hm_ (Nat.not_lt_zero _)
        | succ n_ ihK_1705 =>
          intro c x_1706 x_1707 x_1708 hx_ ex_1706 ex_1707 ex_1708 hc hm_ H locs ls hW hl
          subst ex_1706
          subst ex_1707
          subst ex_1708
          refine lv_iload hx hb dX11_place_27 (lv_at hl 0 rfl) ?_
          refine lv_iconst (v := 1) hx hb dX11_place_29 (by decide) ?_
          refine lv_aload_n hx hb dX11_place_30 rfl (lv_at hl 3 rfl) ?_
          refine g_fi C hW [0, 1] rfl (g_runV (As := []) (rest := [.int 1, .int (nI c)]) (wc := [(mo, .inr (9, [.ref al, .ref ke, .ref ik, .ref rq, .long mab, .long mbe, .ref so, .ref ha, .ref te, .ref bt, .int bL, .int tA, .int tL, .int tK, .int tV, .ref an, .ref vs])), (al, .inl (G.2.1, 159, .inl a))]) (q0 := 0) (ci := 9) C hW hl (c_X11_many l G mo al ke ik rq so ha te bt an vs mab mbe bL tA tL tK tV a n (by first | assumption | omega) _) k_ml_X11_49 q_X11_many (by decide) [0, 1] rfl rfl rfl rfl rfl rfl (Nat.le_of_ble_eq_true rfl) dX11_place_31 (by decide)) (fun r_1709 er_1709 => ?_)
          clear hW H locs; intro H locs hW
          refine lv_as (y := nI n) er_1709 ?_
          clear er_1709 r_1709
          refine lv_ishl hx hb dX11_place_34 ?_
          refine lv_as (y := nI N) (by rw [eN]; exact sh1 n (by omega)) ?_
          refine lv_icmp_ge (tgt := 122) hx hb dX11_place_35 (by decide) (fun c_1710 => ?_) (fun c_1710 => ?_)
          · replace c_1710 := Int32.not_lt.mpr c_1710
            have c_1710n : ¬ c < N := fun q => c_1710 ((nI_ltI (a := c) (b := N) (by omega) (by omega)).mpr q)
            refine lv_iload_n hx hb dX11_place_122 rfl (lv_at hl 4 rfl) ?_
            refine lv_iconst (v := (-1)) hx hb dX11_place_123 (by decide) ?_
            refine lv_icmp_ne (tgt := 131) hx hb dX11_place_124 (by decide) (fun c_1713 => ?_) (fun c_1713 => ?_)
            · refine lv_iload_n hx hb dX11_place_131 rfl (lv_at hl 1 rfl) ?_
              refine lv_aload_n hx hb dX11_place_132 rfl (lv_at hl 3 rfl) ?_
              refine g_fi C hW [0, 1] rfl (g_runV (As := []) (rest := [.int ((plA (lwA a n hr fh) c).1)]) (wc := [(mo, .inr (9, [.ref al, .ref ke, .ref ik, .ref rq, .long mab, .long mbe, .ref so, .ref ha, .ref te, .ref bt, .int bL, .int tA, .int tL, .int tK, .int tV, .ref an, .ref vs])), (al, .inl (G.2.1, 159, .inl a))]) (q0 := 0) (ci := 9) C hW hl (c_X11_many l G mo al ke ik rq so ha te bt an vs mab mbe bL tA tL tK tV a n (by first | assumption | omega) _) k_ml_X11_49 q_X11_many (by decide) [0, 1] rfl rfl rfl rfl rfl rfl (Nat.le_of_ble_eq_true rfl) dX11_place_133 (by decide)) (fun r_1714 er_1714 => ?_)
              clear hW H locs; intro H locs hW
              refine lv_as (y := nI n) er_1714 ?_
              clear er_1714 r_1714
              refine lv_iconst (v := 1) hx hb dX11_place_136 (by decide) ?_
              refine lv_isub hx hb dX11_place_137 ?_
              refine lv_iload_n hx hb dX11_place_138 rfl (lv_at hl 4 rfl) ?_
              refine lv_isub hx hb dX11_place_139 ?_
              refine lv_ishr hx hb dX11_place_140 ?_
              refine lv_iconst (v := 1) hx hb dX11_place_141 (by decide) ?_
              refine lv_iand hx hb dX11_place_142 ?_
              subst hQ
              exact g_iret (v := ((((plA (lwA a n hr fh) c).1) >>> ((((nI n) - 1) - (nI k)) &&& 31)) &&& (1 : Int32))) C hW hrt ⟨hx_, by (rw [show N = c by omega]), by rfl⟩ dX11_place_143
            · exfalso; exact nI_m1ne (by omega) c_1713
          · replace c_1710 := Int32.not_le.mp c_1710
            have c_1710n : c < N := (nI_ltI (a := c) (b := N) (by omega) (by omega)).mp c_1710
            refine lv_aload_n hx hb dX11_place_38 rfl (lv_at hl 3 rfl) ?_
            refine g_fvw (wr := []) (ww := fun (u_ : Unit) => [(mo, .inr (9, [.ref al, .ref ke, .ref ik, .ref rq, .long mab, .long mbe, .ref so, .ref ha, .ref te, .ref bt, .int bL, .int tA, .int tL, .int tK, .int tV, .ref an, .ref vs])), (al, .inl (G.2.1, 159, .inl a)), (ha, .inl (G.2.1, 40, .inl (fa_fill a hx_ 40)))]) (w2 := fun (u_ : Unit) => [(mo, .inr (9, [.ref al, .ref ke, .ref ik, .ref rq, .long mab, .long mbe, .ref so, .ref ha, .ref te, .ref bt, .int bL, .int tA, .int tL, .int tK, .int tV, .ref an, .ref vs])), (al, .inl (G.2.1, 159, .inl a)), (ha, .inl (G.2.1, 40, .inl (fa_fill a hx_ 40)))]) C hW [0, 1, 2] [] [0, 1, 2] rfl rfl (by decide) (by decide) (by decide) (fun _ => rfl) (g_runV (As := []) (rest := []) (wc := [(mo, .inr (9, [.ref al, .ref ke, .ref ik, .ref rq, .long mab, .long mbe, .ref so, .ref ha, .ref te, .ref bt, .int bL, .int tA, .int tL, .int tK, .int tV, .ref an, .ref vs])), (al, .inl (G.2.1, 159, .inl a)), (ha, .inl (G.2.1, 40, .inl hx_))]) (q0 := 0) (ci := 9) C hW hl (c_X11_layHand l G mo al ke ik rq so ha te bt an vs mab mbe bL tA tL tK tV a hx_  _) k_ml_X11_157 q_X11_layHand (by decide) [0, 1, 2] rfl rfl rfl rfl rfl rfl (Nat.le_of_ble_eq_true rfl) dX11_place_39 (by decide)) (fun _ er_1715 => ?_)
            clear hW H locs; intro H locs hW
            replace hW : Wd G A_ s_.heap [(mo, .inr (9, [.ref al, .ref ke, .ref ik, .ref rq, .long mab, .long mbe, .ref so, .ref ha, .ref te, .ref bt, .int bL, .int tA, .int tL, .int tK, .int tV, .ref an, .ref vs])), (al, .inl (G.2.1, 159, .inl a)), (ha, .inl (G.2.1, 40, .inl (fa_fill a hx_ 40)))] H locs := hW
            refine lv_iconst (v := 0) hx hb dX11_place_42 (by decide) ?_
            refine lv_istore (lv' := [(5, .int 0), (4, .int (nI c)), (3, .int ((plA (lwA a n hr fh) c).1)), (2, .int ((plA (lwA a n hr fh) c).2)), (0, .ref mo), (1, .int (nI k))]) hx hb dX11_place_43 hl (by decide) rfl ?_
            clear hl ls; intro ls hl
            have K_1717 : ∀ (n_ : Nat) (pq : Nat) (x_1718 : Int32) (g_1719 : Nat → Int32) (_ : x_1718 = nI pq) (_ : g_1719 = (wyA a hx_ n c pq)) (_ : pq ≤ n) (_ : n - pq < n_) (H : Heap) (locs : List Loc) (ls : Array Slot), Wd G A_ s_.heap [(mo, .inr (9, [.ref al, .ref ke, .ref ik, .ref rq, .long mab, .long mbe, .ref so, .ref ha, .ref te, .ref bt, .int bL, .int tA, .int tL, .int tK, .int tV, .ref an, .ref vs])), (al, .inl (G.2.1, 159, .inl a)), (ha, .inl (G.2.1, 40, .inl g_1719))] H locs → lv_has ls 6 [(5, .int x_1718), (4, .int (nI c)), (3, .int ((plA (lwA a n hr fh) c).1)), (2, .int ((plA (lwA a n hr fh) c).2)), (0, .ref mo), (1, .int (nI k))] → W p_ l e_ ({ frames := 4, cells := 0, slots := 0, locals := 97 }) s_ m_ ar_ be_ me_ cd_ H locs 0 0 Q (F0 m_ 45 ls []) := by
              intro n_
              induction n_ with
              | zero => intro pq x_1718 g_1719 ex_1718 eg_1719 hq hm_; exact absurd hm_ (Nat.not_lt_zero _)
              | succ n_ ihK_1717 =>
                intro pq x_1718 g_1719 ex_1718 eg_1719 hq hm_ H locs ls hW hl
                subst ex_1718
                subst eg_1719
                refine lv_iload hx hb dX11_place_45 (lv_at hl 0 rfl) ?_
                refine lv_aload_n hx hb dX11_place_47 rfl (lv_at hl 4 rfl) ?_
                refine g_fi C hW [0, 1] rfl (g_runV (As := []) (rest := [.int (nI pq)]) (wc := [(mo, .inr (9, [.ref al, .ref ke, .ref ik, .ref rq, .long mab, .long mbe, .ref so, .ref ha, .ref te, .ref bt, .int bL, .int tA, .int tL, .int tK, .int tV, .ref an, .ref vs])), (al, .inl (G.2.1, 159, .inl a))]) (q0 := 0) (ci := 9) C hW hl (c_X11_many l G mo al ke ik rq so ha te bt an vs mab mbe bL tA tL tK tV a n (by first | assumption | omega) _) k_ml_X11_49 q_X11_many (by decide) [0, 1] rfl rfl rfl rfl rfl rfl (Nat.le_of_ble_eq_true rfl) dX11_place_48 (by decide)) (fun r_1720 er_1720 => ?_)
                clear hW H locs; intro H locs hW
                refine lv_as (y := nI n) er_1720 ?_
                clear er_1720 r_1720
                refine lv_icmp_ge (tgt := 84) hx hb dX11_place_51 (by decide) (fun c_1721 => ?_) (fun c_1721 => ?_)
                · replace c_1721 := Int32.not_lt.mpr c_1721
                  have c_1721n : ¬ pq < n := fun q => c_1721 ((nI_ltI (a := pq) (b := n) (by omega) (by omega)).mpr q)
                  refine lv_aload_n hx hb dX11_place_84 rfl (lv_at hl 4 rfl) ?_
                  refine g_fi C hW [0, 1, 2] rfl (g_runV (As := []) (rest := []) (wc := [(mo, .inr (9, [.ref al, .ref ke, .ref ik, .ref rq, .long mab, .long mbe, .ref so, .ref ha, .ref te, .ref bt, .int bL, .int tA, .int tL, .int tK, .int tV, .ref an, .ref vs])), (al, .inl (G.2.1, 159, .inl a)), (ha, .inl (G.2.1, 40, .inl (wyA a hx_ n c pq)))]) (q0 := 0) (ci := 9) C hW hl (c_X11_lastsBy l G mo al ke ik rq so ha te bt an vs mab mbe bL tA tL tK tV a (wyA a hx_ n c pq) n hr fh (by first | assumption | omega) (by first | assumption | omega) (by (rw [wyA_lo (by decide)]; exact e8)) (by first | assumption | omega) (by (rw [wyA_lo (by decide)]; exact e12)) (by first | assumption | omega) (by (rw [wyA_lo (by decide)]; exact hup)) _) k_ml_X11_160 q_X11_lastsBy (by decide) [0, 1, 2] rfl rfl rfl rfl rfl rfl (Nat.le_of_ble_eq_true rfl) dX11_place_85 (by decide)) (fun r_1723 er_1723 => ?_)
                  clear hW H locs; intro H locs hW
                  refine lv_as (y := nI (lsN (wyA a hx_ n c pq) n hr fh)) er_1723 ?_
                  clear er_1723 r_1723
                  refine lv_as (y := lwA a n hr fh c) (by rw [show pq = n by omega]; exact lw_eq hn hup) ?_
                  refine lv_istore (lv' := [(5, .int (lwA a n hr fh c)), (4, .int (nI c)), (3, .int ((plA (lwA a n hr fh) c).1)), (2, .int ((plA (lwA a n hr fh) c).2)), (0, .ref mo), (1, .int (nI k))]) hx hb dX11_place_88 hl (by decide) rfl ?_
                  clear hl ls; intro ls hl
                  refine lv_iload hx hb dX11_place_90 (lv_at hl 0 rfl) ?_
                  refine lv_iload_n hx hb dX11_place_92 rfl (lv_at hl 3 rfl) ?_
                  have J_1726 : ∀ (y_1725 : Int32) (_ : y_1725 = (if ((plA (lwA a n hr fh) c).2) < (lwA a n hr fh c) then nI c else (plA (lwA a n hr fh) c).1)), ∀ (H : Heap) (locs : List Loc) (ls : Array Slot), Wd G A_ s_.heap [(mo, .inr (9, [.ref al, .ref ke, .ref ik, .ref rq, .long mab, .long mbe, .ref so, .ref ha, .ref te, .ref bt, .int bL, .int tA, .int tL, .int tK, .int tV, .ref an, .ref vs])), (al, .inl (G.2.1, 159, .inl a)), (ha, .inl (G.2.1, 40, .inl (wyA a hx_ n c pq)))] H locs → lv_has ls 6 [(5, .int (lwA a n hr fh c)), (4, .int (nI c)), (3, .int ((plA (lwA a n hr fh) c).1)), (2, .int ((plA (lwA a n hr fh) c).2)), (0, .ref mo), (1, .int (nI k))] → W p_ l e_ ({ frames := 4, cells := 0, slots := 0, locals := 97 }) s_ m_ ar_ be_ me_ cd_ H locs 0 0 Q (F0 m_ 102 ls [.int y_1725]) := by
                    intro y_1725 ey_1725 H locs ls hW hl
                    refine lv_istore_n (lv' := [(3, .int y_1725), (5, .int (lwA a n hr fh c)), (4, .int (nI c)), (2, .int ((plA (lwA a n hr fh) c).2)), (0, .ref mo), (1, .int (nI k))]) hx hb dX11_place_102 rfl hl (by decide) rfl ?_
                    clear hl ls; intro ls hl
                    refine lv_iload hx hb dX11_place_103 (lv_at hl 1 rfl) ?_
                    refine lv_iload_n hx hb dX11_place_105 rfl (lv_at hl 3 rfl) ?_
                    have J_1729 : ∀ (y_1728 : Int32) (_ : y_1728 = (if ((plA (lwA a n hr fh) c).2) < (lwA a n hr fh c) then lwA a n hr fh c else (plA (lwA a n hr fh) c).2)), ∀ (H : Heap) (locs : List Loc) (ls : Array Slot), Wd G A_ s_.heap [(mo, .inr (9, [.ref al, .ref ke, .ref ik, .ref rq, .long mab, .long mbe, .ref so, .ref ha, .ref te, .ref bt, .int bL, .int tA, .int tL, .int tK, .int tV, .ref an, .ref vs])), (al, .inl (G.2.1, 159, .inl a)), (ha, .inl (G.2.1, 40, .inl (wyA a hx_ n c pq)))] H locs → lv_has ls 6 [(3, .int y_1725), (5, .int (lwA a n hr fh c)), (4, .int (nI c)), (2, .int ((plA (lwA a n hr fh) c).2)), (0, .ref mo), (1, .int (nI k))] → W p_ l e_ ({ frames := 4, cells := 0, slots := 0, locals := 97 }) s_ m_ ar_ be_ me_ cd_ H locs 0 0 Q (F0 m_ 115 ls [.int y_1728]) := by
                      intro y_1728 ey_1728 H locs ls hW hl
                      refine lv_istore_n (lv' := [(2, .int y_1728), (3, .int y_1725), (5, .int (lwA a n hr fh c)), (4, .int (nI c)), (0, .ref mo), (1, .int (nI k))]) hx hb dX11_place_115 rfl hl (by decide) rfl ?_
                      clear hl ls; intro ls hl
                      refine lv_iinc (v := (nI c) + 1) (lv' := [(4, .int ((nI c) + 1)), (2, .int y_1728), (3, .int y_1725), (5, .int (lwA a n hr fh c)), (0, .ref mo), (1, .int (nI k))]) hx hb dX11_place_116 hl (k := 3) rfl rfl (by decide) rfl ?_
                      clear hl ls; intro ls hl
                      refine lv_goto (tgt := 27) hx hb dX11_place_119 (by decide) ?_
                      exact ihK_1705 (c + 1) ((nI c) + 1) y_1725 y_1728 (wyA a hx_ n c pq) (by exact nI_1 _) (by (simp only [ey_1725, ey_1728]; exact pl_1)) (by (simp only [ey_1725, ey_1728]; exact pl_2)) (by first | omega | assumption | (simp; done)) (by omega) _ _ _ hW (lv_sub hl [0, 2, 1, 4, 5] rfl)
                    refine lv_icmp_le (tgt := 114) hx hb dX11_place_106 (by decide) (fun c_1727 => ?_) (fun c_1727 => ?_)
                    · replace c_1727 := Int32.not_lt.mpr c_1727
                      refine lv_iload_n hx hb dX11_place_114 rfl (lv_at hl 3 rfl) ?_
                      exact J_1729 ((plA (lwA a n hr fh) c).2) (by first | (simp only [c_1727, if_true, if_false, reduceIte]; done) | (simp [c_1727]; done) | rfl | (rw [if_neg c_1727]; done)) _ _ _ hW (lv_sub hl [0, 1, 2, 3, 4, 5] rfl)
                    · replace c_1727 := Int32.not_le.mp c_1727
                      refine lv_iload hx hb dX11_place_109 (lv_at hl 1 rfl) ?_
                      refine lv_goto (tgt := 115) hx hb dX11_place_111 (by decide) ?_
                      exact J_1729 (lwA a n hr fh c) (by first | (simp only [c_1727, if_true, if_false, reduceIte]; done) | (simp [c_1727]; done) | rfl | (rw [if_pos c_1727]; done)) _ _ _ hW (lv_sub hl [0, 1, 2, 3, 4, 5] rfl)
                  refine lv_icmp_le (tgt := 101) hx hb dX11_place_93 (by decide) (fun c_1724 => ?_) (fun c_1724 => ?_)
                  · replace c_1724 := Int32.not_lt.mpr c_1724
                    refine lv_iload_n hx hb dX11_place_101 rfl (lv_at hl 2 rfl) ?_
                    exact J_1726 ((plA (lwA a n hr fh) c).1) (by first | (simp only [c_1724, if_true, if_false, reduceIte]; done) | (simp [c_1724]; done) | rfl | (rw [if_neg c_1724]; done)) _ _ _ hW (lv_sub hl [0, 1, 2, 3, 4, 5] rfl)
                  · replace c_1724 := Int32.not_le.mp c_1724
                    refine lv_iload hx hb dX11_place_96 (lv_at hl 1 rfl) ?_
                    refine lv_goto (tgt := 102) hx hb dX11_place_98 (by decide) ?_
                    exact J_1726 (nI c) (by first | (simp only [c_1724, if_true, if_false, reduceIte]; done) | (simp [c_1724]; done) | rfl | (rw [if_pos c_1724]; done)) _ _ _ hW (lv_sub hl [0, 1, 2, 3, 4, 5] rfl)
                · replace c_1721 := Int32.not_le.mp c_1721
                  have c_1721n : pq < n := (nI_ltI (a := pq) (b := n) (by omega) (by omega)).mp c_1721
                  refine lv_aload_n hx hb dX11_place_54 rfl (lv_at hl 4 rfl) ?_
                  refine g_get (k := 7) (v := .ref ha) C hW 0 rfl rfl jnX11 (by decide) k_fl_X11_30 rfl dX11_place_55 ?_
                  refine lv_bipush (v := 26) hx hb dX11_place_58 (by decide) ?_
                  refine lv_iload hx hb dX11_place_60 (lv_at hl 0 rfl) ?_
                  refine lv_iadd hx hb dX11_place_62 ?_
                  refine lv_iload hx hb dX11_place_63 (lv_at hl 1 rfl) ?_
                  refine lv_aload_n hx hb dX11_place_65 rfl (lv_at hl 4 rfl) ?_
                  refine g_fi C hW [0, 1] rfl (g_runV (As := []) (rest := [.int (nI c), .int (26 + (nI pq)), .ref ha]) (wc := [(mo, .inr (9, [.ref al, .ref ke, .ref ik, .ref rq, .long mab, .long mbe, .ref so, .ref ha, .ref te, .ref bt, .int bL, .int tA, .int tL, .int tK, .int tV, .ref an, .ref vs])), (al, .inl (G.2.1, 159, .inl a))]) (q0 := 0) (ci := 9) C hW hl (c_X11_many l G mo al ke ik rq so ha te bt an vs mab mbe bL tA tL tK tV a n (by first | assumption | omega) _) k_ml_X11_49 q_X11_many (by decide) [0, 1] rfl rfl rfl rfl rfl rfl (Nat.le_of_ble_eq_true rfl) dX11_place_66 (by decide)) (fun r_1730 er_1730 => ?_)
                  clear hW H locs; intro H locs hW
                  refine lv_as (y := nI n) er_1730 ?_
                  clear er_1730 r_1730
                  refine lv_iconst (v := 1) hx hb dX11_place_69 (by decide) ?_
                  refine lv_isub hx hb dX11_place_70 ?_
                  refine lv_iload hx hb dX11_place_71 (lv_at hl 0 rfl) ?_
                  refine lv_isub hx hb dX11_place_73 ?_
                  refine lv_ishr hx hb dX11_place_74 ?_
                  refine lv_iconst (v := 1) hx hb dX11_place_75 (by decide) ?_
                  refine lv_iand hx hb dX11_place_76 ?_
                  refine g_ast (w' := [(mo, .inr (9, [.ref al, .ref ke, .ref ik, .ref rq, .long mab, .long mbe, .ref so, .ref ha, .ref te, .ref bt, .int bL, .int tA, .int tL, .int tK, .int tV, .ref an, .ref vs])), (al, .inl (G.2.1, 159, .inl a)), (ha, .inl (G.2.1, 40, .inl (upd (wyA a hx_ n c pq) (26 + pq) (((nI c) >>> ((((nI n) - 1) - (nI pq)) &&& 31)) &&& (1 : Int32)))))]) C hW 2 rfl (ix_in (show (26 + (nI pq)) = nI (26 + pq) from (by first | rfl | (simp only [nI_lit, nI_add, pk_mul]; done) | (simp only [nI_lit, nI_add, pk_mul]; congr 1; omega))) (by omega) (by omega)) (by rw [show (26 + (nI pq)).toNatClampNeg = (26 + pq) from ix_cl (show (26 + (nI pq)) = nI (26 + pq) from (by first | rfl | (simp only [nI_lit, nI_add, pk_mul]; done) | (simp only [nI_lit, nI_add, pk_mul]; congr 1; omega))) (Nat.lt_of_lt_of_le (m := 40) (by omega) (by omega))]; rfl) dX11_place_77 ?_
                  clear hW H locs; intro H locs hW
                  refine lv_iinc (v := (nI pq) + 1) (lv' := [(5, .int ((nI pq) + 1)), (4, .int (nI c)), (3, .int ((plA (lwA a n hr fh) c).1)), (2, .int ((plA (lwA a n hr fh) c).2)), (0, .ref mo), (1, .int (nI k))]) hx hb dX11_place_78 hl (k := 0) rfl rfl (by decide) rfl ?_
                  clear hl ls; intro ls hl
                  refine lv_goto (tgt := 45) hx hb dX11_place_81 (by decide) ?_
                  exact ihK_1717 (pq + 1) ((nI pq) + 1) (upd (wyA a hx_ n c pq) (26 + pq) (((nI c) >>> ((((nI n) - 1) - (nI pq)) &&& 31)) &&& (1 : Int32))) (by exact nI_1 _) (by exact rfl) (by first | omega | assumption | (simp; done)) (by omega) _ _ _ hW (lv_sub hl [0, 1, 2, 3, 4, 5] rfl)
            exact K_1717 _ 0 0 (fa_fill a hx_ 40) (by first | exact rfl | (simp; done)) (by exact rfl) (by first | omega | assumption | (simp; done)) (Nat.lt_succ_self _) _ _ _ hW (lv_sub hl [0, 1, 2, 3, 4, 5] rfl)
      exact K_1705 _ 0 0 0 (-1) hf (by first | exact rfl | (simp; done)) (by exact rfl) (by exact rfl) (by first | omega | assumption | (simp; done)) (Nat.lt_succ_self _) _ _ _ hW (lv_sub hl [0, 1, 2, 3, 4] rfl)
    · exfalso; exact dd (okp_nI (by omega) (by assumption)) c_1704
set_option maxHeartbeats 4000000 in
set_option maxRecDepth 100000 in
theorem c_X11_place_ndown (l : Launch) (G : gT) (mo al ke ik rq so ha te bt an vs : Nat) (mab mbe : Int64) (bL tA tL tK tV : Int32) (a : Nat → Int32) (hf : Nat → Int32) (n hr fh N : Nat) (e0 : a 0 = nI n) (hn : n ≤ 7) (e8 : a 8 = nI fh) (hfh : fh < 2) (e12 : a 12 = nI hr) (hh : hr < 10000) (eN : N = 2 ^ n) (hup : ¬ a 9 = 1) : MI l G yX11_place cX11_place 6 .int ({ frames := 1, cells := 0, slots := 0, locals := 25 }) [.ref mo, .int (-1)] [(mo, .inr (9, [.ref al, .ref ke, .ref ik, .ref rq, .long mab, .long mbe, .ref so, .ref ha, .ref te, .ref bt, .int bL, .int tA, .int tL, .int tK, .int tV, .ref an, .ref vs])), (al, .inl (G.2.1, 159, .inl a)), (ha, .inl (G.2.1, 40, .inl hf))] (fun (r : Int32) w1 => ∃ u_ : Nat → Int32, (r = (plA (lwA a n hr fh) N).2) ∧ w1 = [(mo, .inr (9, [.ref al, .ref ke, .ref ik, .ref rq, .long mab, .long mbe, .ref so, .ref ha, .ref te, .ref bt, .int bL, .int tA, .int tL, .int tK, .int tV, .ref an, .ref vs])), (al, .inl (G.2.1, 159, .inl a)), (ha, .inl (G.2.1, 40, .inl u_))]) := by
  refine MI.mk (by decide) (Nat.le_of_ble_eq_true rfl) ?_
  intro p_ e_ s_ m_ ar_ be_ me_ cd_ A_ ls C hrt hW hl
  have hx := C.1; have hb := C.2.1; have hown := C.2.2.2.1; have ht := C.2.2.2.2.1
  replace hl : lv_has ls 6 [(0, .ref mo), (1, .int (-1))] := hl
  generalize hQ : MQ be_ _ ar_ s_ 0 0 A_ = Q
  have h2n : 1 ≤ N ∧ N ≤ 128 := by rw [eN]; exact pw7 hn
  refine lv_iload_n hx hb dX11_place_0 rfl (lv_at hl 1 rfl) ?_
  refine lv_iconst (v := (-1)) hx hb dX11_place_1 (by decide) ?_
  refine lv_icmp_eq (tgt := 20) hx hb dX11_place_2 (by decide) (fun c_1731 => ?_) (fun c_1731 => ?_)
  · refine lv_iconst (v := (-1)) hx hb dX11_place_20 (by decide) ?_
    refine lv_istore_n (lv' := [(2, .int (-1)), (0, .ref mo), (1, .int (-1))]) hx hb dX11_place_21 rfl hl (by decide) rfl ?_
    clear hl ls; intro ls hl
    refine lv_iconst (v := 0) hx hb dX11_place_22 (by decide) ?_
    refine lv_istore_n (lv' := [(3, .int 0), (2, .int (-1)), (0, .ref mo), (1, .int (-1))]) hx hb dX11_place_23 rfl hl (by decide) rfl ?_
    clear hl ls; intro ls hl
    refine lv_iconst (v := 0) hx hb dX11_place_24 (by decide) ?_
    refine lv_istore (lv' := [(4, .int 0), (3, .int 0), (2, .int (-1)), (0, .ref mo), (1, .int (-1))]) hx hb dX11_place_25 hl (by decide) rfl ?_
    clear hl ls; intro ls hl
    have K_1732 : ∀ (n_ : Nat) (c : Nat) (x_1733 : Int32) (x_1734 : Int32) (x_1735 : Int32) (hx_ : Nat → Int32) (_ : x_1733 = nI c) (_ : x_1734 = (plA (lwA a n hr fh) c).1) (_ : x_1735 = (plA (lwA a n hr fh) c).2) (_ : c ≤ N) (_ : N - c < n_) (H : Heap) (locs : List Loc) (ls : Array Slot), Wd G A_ s_.heap [(mo, .inr (9, [.ref al, .ref ke, .ref ik, .ref rq, .long mab, .long mbe, .ref so, .ref ha, .ref te, .ref bt, .int bL, .int tA, .int tL, .int tK, .int tV, .ref an, .ref vs])), (al, .inl (G.2.1, 159, .inl a)), (ha, .inl (G.2.1, 40, .inl hx_))] H locs → lv_has ls 6 [(4, .int x_1733), (3, .int x_1734), (2, .int x_1735), (0, .ref mo), (1, .int (-1))] → W p_ l e_ ({ frames := 1, cells := 0, slots := 0, locals := 25 }) s_ m_ ar_ be_ me_ cd_ H locs 0 0 Q (F0 m_ 27 ls []) := by
      intro n_
      induction n_ with
      | zero => intro c x_1733 x_1734 x_1735 hx_ ex_1733 ex_1734 ex_1735 hc hm_; exact absurd hm_ (Nat.not_lt_zero _)
      | succ n_ ihK_1732 =>
        intro c x_1733 x_1734 x_1735 hx_ ex_1733 ex_1734 ex_1735 hc hm_ H locs ls hW hl
        subst ex_1733
        subst ex_1734
        subst ex_1735
        refine lv_iload hx hb dX11_place_27 (lv_at hl 0 rfl) ?_
        refine lv_iconst (v := 1) hx hb dX11_place_29 (by decide) ?_
        refine lv_aload_n hx hb dX11_place_30 rfl (lv_at hl 3 rfl) ?_
        refine g_fi C hW [0, 1] rfl (g_runV (As := []) (rest := [.int 1, .int (nI c)]) (wc := [(mo, .inr (9, [.ref al, .ref ke, .ref ik, .ref rq, .long mab, .long mbe, .ref so, .ref ha, .ref te, .ref bt, .int bL, .int tA, .int tL, .int tK, .int tV, .ref an, .ref vs])), (al, .inl (G.2.1, 159, .inl a))]) (q0 := 0) (ci := 9) C hW hl (c_X11_many l G mo al ke ik rq so ha te bt an vs mab mbe bL tA tL tK tV a n (by first | assumption | omega) _) k_ml_X11_49 q_X11_many (by decide) [0, 1] rfl rfl rfl rfl rfl rfl (Nat.le_of_ble_eq_true rfl) dX11_place_31 (by decide)) (fun r_1736 er_1736 => ?_)
        clear hW H locs; intro H locs hW
        refine lv_as (y := nI n) er_1736 ?_
        clear er_1736 r_1736
        refine lv_ishl hx hb dX11_place_34 ?_
        refine lv_as (y := nI N) (by rw [eN]; exact sh1 n (by omega)) ?_
        refine lv_icmp_ge (tgt := 122) hx hb dX11_place_35 (by decide) (fun c_1737 => ?_) (fun c_1737 => ?_)
        · replace c_1737 := Int32.not_lt.mpr c_1737
          have c_1737n : ¬ c < N := fun q => c_1737 ((nI_ltI (a := c) (b := N) (by omega) (by omega)).mpr q)
          refine lv_iload_n hx hb dX11_place_122 rfl (lv_at hl 4 rfl) ?_
          refine lv_iconst (v := (-1)) hx hb dX11_place_123 (by decide) ?_
          refine lv_icmp_ne (tgt := 131) hx hb dX11_place_124 (by decide) (fun c_1740 => ?_) (fun c_1740 => ?_)
          · exfalso; exact c_1740 rfl
          · refine lv_iload_n hx hb dX11_place_127 rfl (lv_at hl 2 rfl) ?_
            refine lv_goto (tgt := 143) hx hb dX11_place_128 (by decide) ?_
            subst hQ
            exact g_iret (v := ((plA (lwA a n hr fh) c).2)) C hW hrt ⟨hx_, by (rw [show N = c by omega]), by rfl⟩ dX11_place_143
        · replace c_1737 := Int32.not_le.mp c_1737
          have c_1737n : c < N := (nI_ltI (a := c) (b := N) (by omega) (by omega)).mp c_1737
          refine lv_aload_n hx hb dX11_place_38 rfl (lv_at hl 3 rfl) ?_
          refine g_fvw (wr := []) (ww := fun (u_ : Unit) => [(mo, .inr (9, [.ref al, .ref ke, .ref ik, .ref rq, .long mab, .long mbe, .ref so, .ref ha, .ref te, .ref bt, .int bL, .int tA, .int tL, .int tK, .int tV, .ref an, .ref vs])), (al, .inl (G.2.1, 159, .inl a)), (ha, .inl (G.2.1, 40, .inl (fa_fill a hx_ 40)))]) (w2 := fun (u_ : Unit) => [(mo, .inr (9, [.ref al, .ref ke, .ref ik, .ref rq, .long mab, .long mbe, .ref so, .ref ha, .ref te, .ref bt, .int bL, .int tA, .int tL, .int tK, .int tV, .ref an, .ref vs])), (al, .inl (G.2.1, 159, .inl a)), (ha, .inl (G.2.1, 40, .inl (fa_fill a hx_ 40)))]) C hW [0, 1, 2] [] [0, 1, 2] rfl rfl (by decide) (by decide) (by decide) (fun _ => rfl) (g_runV (As := []) (rest := []) (wc := [(mo, .inr (9, [.ref al, .ref ke, .ref ik, .ref rq, .long mab, .long mbe, .ref so, .ref ha, .ref te, .ref bt, .int bL, .int tA, .int tL, .int tK, .int tV, .ref an, .ref vs])), (al, .inl (G.2.1, 159, .inl a)), (ha, .inl (G.2.1, 40, .inl hx_))]) (q0 := 0) (ci := 9) C hW hl (c_X11_layHand l G mo al ke ik rq so ha te bt an vs mab mbe bL tA tL tK tV a hx_  _) k_ml_X11_157 q_X11_layHand (by decide) [0, 1, 2] rfl rfl rfl rfl rfl rfl (Nat.le_of_ble_eq_true rfl) dX11_place_39 (by decide)) (fun _ er_1741 => ?_)
          clear hW H locs; intro H locs hW
          replace hW : Wd G A_ s_.heap [(mo, .inr (9, [.ref al, .ref ke, .ref ik, .ref rq, .long mab, .long mbe, .ref so, .ref ha, .ref te, .ref bt, .int bL, .int tA, .int tL, .int tK, .int tV, .ref an, .ref vs])), (al, .inl (G.2.1, 159, .inl a)), (ha, .inl (G.2.1, 40, .inl (fa_fill a hx_ 40)))] H locs := hW
          refine lv_iconst (v := 0) hx hb dX11_place_42 (by decide) ?_
          refine lv_istore (lv' := [(5, .int 0), (4, .int (nI c)), (3, .int ((plA (lwA a n hr fh) c).1)), (2, .int ((plA (lwA a n hr fh) c).2)), (0, .ref mo), (1, .int (-1))]) hx hb dX11_place_43 hl (by decide) rfl ?_
          clear hl ls; intro ls hl
          have K_1743 : ∀ (n_ : Nat) (pq : Nat) (x_1744 : Int32) (g_1745 : Nat → Int32) (_ : x_1744 = nI pq) (_ : g_1745 = (wyA a hx_ n c pq)) (_ : pq ≤ n) (_ : n - pq < n_) (H : Heap) (locs : List Loc) (ls : Array Slot), Wd G A_ s_.heap [(mo, .inr (9, [.ref al, .ref ke, .ref ik, .ref rq, .long mab, .long mbe, .ref so, .ref ha, .ref te, .ref bt, .int bL, .int tA, .int tL, .int tK, .int tV, .ref an, .ref vs])), (al, .inl (G.2.1, 159, .inl a)), (ha, .inl (G.2.1, 40, .inl g_1745))] H locs → lv_has ls 6 [(5, .int x_1744), (4, .int (nI c)), (3, .int ((plA (lwA a n hr fh) c).1)), (2, .int ((plA (lwA a n hr fh) c).2)), (0, .ref mo), (1, .int (-1))] → W p_ l e_ ({ frames := 1, cells := 0, slots := 0, locals := 25 }) s_ m_ ar_ be_ me_ cd_ H locs 0 0 Q (F0 m_ 45 ls []) := by
            intro n_
            induction n_ with
            | zero => intro pq x_1744 g_1745 ex_1744 eg_1745 hq hm_; exact absurd hm_ (Nat.not_lt_zero _)
            | succ n_ ihK_1743 =>
              intro pq x_1744 g_1745 ex_1744 eg_1745 hq hm_ H locs ls hW hl
              subst ex_1744
              subst eg_1745
              refine lv_iload hx hb dX11_place_45 (lv_at hl 0 rfl) ?_
              refine lv_aload_n hx hb dX11_place_47 rfl (lv_at hl 4 rfl) ?_
              refine g_fi C hW [0, 1] rfl (g_runV (As := []) (rest := [.int (nI pq)]) (wc := [(mo, .inr (9, [.ref al, .ref ke, .ref ik, .ref rq, .long mab, .long mbe, .ref so, .ref ha, .ref te, .ref bt, .int bL, .int tA, .int tL, .int tK, .int tV, .ref an, .ref vs])), (al, .inl (G.2.1, 159, .inl a))]) (q0 := 0) (ci := 9) C hW hl (c_X11_many l G mo al ke ik rq so ha te bt an vs mab mbe bL tA tL tK tV a n (by first | assumption | omega) _) k_ml_X11_49 q_X11_many (by decide) [0, 1] rfl rfl rfl rfl rfl rfl (Nat.le_of_ble_eq_true rfl) dX11_place_48 (by decide)) (fun r_1746 er_1746 => ?_)
              clear hW H locs; intro H locs hW
              refine lv_as (y := nI n) er_1746 ?_
              clear er_1746 r_1746
              refine lv_icmp_ge (tgt := 84) hx hb dX11_place_51 (by decide) (fun c_1747 => ?_) (fun c_1747 => ?_)
              · replace c_1747 := Int32.not_lt.mpr c_1747
                have c_1747n : ¬ pq < n := fun q => c_1747 ((nI_ltI (a := pq) (b := n) (by omega) (by omega)).mpr q)
                refine lv_aload_n hx hb dX11_place_84 rfl (lv_at hl 4 rfl) ?_
                refine g_fi C hW [0, 1, 2] rfl (g_runV (As := []) (rest := []) (wc := [(mo, .inr (9, [.ref al, .ref ke, .ref ik, .ref rq, .long mab, .long mbe, .ref so, .ref ha, .ref te, .ref bt, .int bL, .int tA, .int tL, .int tK, .int tV, .ref an, .ref vs])), (al, .inl (G.2.1, 159, .inl a)), (ha, .inl (G.2.1, 40, .inl (wyA a hx_ n c pq)))]) (q0 := 0) (ci := 9) C hW hl (c_X11_lastsBy_down l G mo al ke ik rq so ha te bt an vs mab mbe bL tA tL tK tV a (wyA a hx_ n c pq) (by (rw [wyA_lo (by decide)]; exact hup)) _) k_ml_X11_160 q_X11_lastsBy (by decide) [0, 1, 2] rfl rfl rfl rfl rfl rfl (Nat.le_of_ble_eq_true rfl) dX11_place_85 (by decide)) (fun r_1749 er_1749 => ?_)
                clear hW H locs; intro H locs hW
                refine lv_as (y := 0) er_1749 ?_
                clear er_1749 r_1749
                refine lv_as (y := lwA a n hr fh c) ((if_neg hup).symm) ?_
                refine lv_istore (lv' := [(5, .int (lwA a n hr fh c)), (4, .int (nI c)), (3, .int ((plA (lwA a n hr fh) c).1)), (2, .int ((plA (lwA a n hr fh) c).2)), (0, .ref mo), (1, .int (-1))]) hx hb dX11_place_88 hl (by decide) rfl ?_
                clear hl ls; intro ls hl
                refine lv_iload hx hb dX11_place_90 (lv_at hl 0 rfl) ?_
                refine lv_iload_n hx hb dX11_place_92 rfl (lv_at hl 3 rfl) ?_
                have J_1752 : ∀ (y_1751 : Int32) (_ : y_1751 = (if ((plA (lwA a n hr fh) c).2) < (lwA a n hr fh c) then nI c else (plA (lwA a n hr fh) c).1)), ∀ (H : Heap) (locs : List Loc) (ls : Array Slot), Wd G A_ s_.heap [(mo, .inr (9, [.ref al, .ref ke, .ref ik, .ref rq, .long mab, .long mbe, .ref so, .ref ha, .ref te, .ref bt, .int bL, .int tA, .int tL, .int tK, .int tV, .ref an, .ref vs])), (al, .inl (G.2.1, 159, .inl a)), (ha, .inl (G.2.1, 40, .inl (wyA a hx_ n c pq)))] H locs → lv_has ls 6 [(5, .int (lwA a n hr fh c)), (4, .int (nI c)), (3, .int ((plA (lwA a n hr fh) c).1)), (2, .int ((plA (lwA a n hr fh) c).2)), (0, .ref mo), (1, .int (-1))] → W p_ l e_ ({ frames := 1, cells := 0, slots := 0, locals := 25 }) s_ m_ ar_ be_ me_ cd_ H locs 0 0 Q (F0 m_ 102 ls [.int y_1751]) := by
                  intro y_1751 ey_1751 H locs ls hW hl
                  refine lv_istore_n (lv' := [(3, .int y_1751), (5, .int (lwA a n hr fh c)), (4, .int (nI c)), (2, .int ((plA (lwA a n hr fh) c).2)), (0, .ref mo), (1, .int (-1))]) hx hb dX11_place_102 rfl hl (by decide) rfl ?_
                  clear hl ls; intro ls hl
                  refine lv_iload hx hb dX11_place_103 (lv_at hl 1 rfl) ?_
                  refine lv_iload_n hx hb dX11_place_105 rfl (lv_at hl 3 rfl) ?_
                  have J_1755 : ∀ (y_1754 : Int32) (_ : y_1754 = (if ((plA (lwA a n hr fh) c).2) < (lwA a n hr fh c) then lwA a n hr fh c else (plA (lwA a n hr fh) c).2)), ∀ (H : Heap) (locs : List Loc) (ls : Array Slot), Wd G A_ s_.heap [(mo, .inr (9, [.ref al, .ref ke, .ref ik, .ref rq, .long mab, .long mbe, .ref so, .ref ha, .ref te, .ref bt, .int bL, .int tA, .int tL, .int tK, .int tV, .ref an, .ref vs])), (al, .inl (G.2.1, 159, .inl a)), (ha, .inl (G.2.1, 40, .inl (wyA a hx_ n c pq)))] H locs → lv_has ls 6 [(3, .int y_1751), (5, .int (lwA a n hr fh c)), (4, .int (nI c)), (2, .int ((plA (lwA a n hr fh) c).2)), (0, .ref mo), (1, .int (-1))] → W p_ l e_ ({ frames := 1, cells := 0, slots := 0, locals := 25 }) s_ m_ ar_ be_ me_ cd_ H locs 0 0 Q (F0 m_ 115 ls [.int y_1754]) := by
                    intro y_1754 ey_1754 H locs ls hW hl
                    refine lv_istore_n (lv' := [(2, .int y_1754), (3, .int y_1751), (5, .int (lwA a n hr fh c)), (4, .int (nI c)), (0, .ref mo), (1, .int (-1))]) hx hb dX11_place_115 rfl hl (by decide) rfl ?_
                    clear hl ls; intro ls hl
                    refine lv_iinc (v := (nI c) + 1) (lv' := [(4, .int ((nI c) + 1)), (2, .int y_1754), (3, .int y_1751), (5, .int (lwA a n hr fh c)), (0, .ref mo), (1, .int (-1))]) hx hb dX11_place_116 hl (k := 3) rfl rfl (by decide) rfl ?_
                    clear hl ls; intro ls hl
                    refine lv_goto (tgt := 27) hx hb dX11_place_119 (by decide) ?_
                    exact ihK_1732 (c + 1) ((nI c) + 1) y_1751 y_1754 (wyA a hx_ n c pq) (by exact nI_1 _) (by (simp only [ey_1751, ey_1754]; exact pl_1)) (by (simp only [ey_1751, ey_1754]; exact pl_2)) (by first | omega | assumption | (simp; done)) (by omega) _ _ _ hW (lv_sub hl [0, 2, 1, 4, 5] rfl)
                  refine lv_icmp_le (tgt := 114) hx hb dX11_place_106 (by decide) (fun c_1753 => ?_) (fun c_1753 => ?_)
                  · replace c_1753 := Int32.not_lt.mpr c_1753
                    refine lv_iload_n hx hb dX11_place_114 rfl (lv_at hl 3 rfl) ?_
                    exact J_1755 ((plA (lwA a n hr fh) c).2) (by first | (simp only [c_1753, if_true, if_false, reduceIte]; done) | (simp [c_1753]; done) | rfl | (rw [if_neg c_1753]; done)) _ _ _ hW (lv_sub hl [0, 1, 2, 3, 4, 5] rfl)
                  · replace c_1753 := Int32.not_le.mp c_1753
                    refine lv_iload hx hb dX11_place_109 (lv_at hl 1 rfl) ?_
                    refine lv_goto (tgt := 115) hx hb dX11_place_111 (by decide) ?_
                    exact J_1755 (lwA a n hr fh c) (by first | (simp only [c_1753, if_true, if_false, reduceIte]; done) | (simp [c_1753]; done) | rfl | (rw [if_pos c_1753]; done)) _ _ _ hW (lv_sub hl [0, 1, 2, 3, 4, 5] rfl)
                refine lv_icmp_le (tgt := 101) hx hb dX11_place_93 (by decide) (fun c_1750 => ?_) (fun c_1750 => ?_)
                · replace c_1750 := Int32.not_lt.mpr c_1750
                  refine lv_iload_n hx hb dX11_place_101 rfl (lv_at hl 2 rfl) ?_
                  exact J_1752 ((plA (lwA a n hr fh) c).1) (by first | (simp only [c_1750, if_true, if_false, reduceIte]; done) | (simp [c_1750]; done) | rfl | (rw [if_neg c_1750]; done)) _ _ _ hW (lv_sub hl [0, 1, 2, 3, 4, 5] rfl)
                · replace c_1750 := Int32.not_le.mp c_1750
                  refine lv_iload hx hb dX11_place_96 (lv_at hl 1 rfl) ?_
                  refine lv_goto (tgt := 102) hx hb dX11_place_98 (by decide) ?_
                  exact J_1752 (nI c) (by first | (simp only [c_1750, if_true, if_false, reduceIte]; done) | (simp [c_1750]; done) | rfl | (rw [if_pos c_1750]; done)) _ _ _ hW (lv_sub hl [0, 1, 2, 3, 4, 5] rfl)
              · replace c_1747 := Int32.not_le.mp c_1747
                have c_1747n : pq < n := (nI_ltI (a := pq) (b := n) (by omega) (by omega)).mp c_1747
                refine lv_aload_n hx hb dX11_place_54 rfl (lv_at hl 4 rfl) ?_
                refine g_get (k := 7) (v := .ref ha) C hW 0 rfl rfl jnX11 (by decide) k_fl_X11_30 rfl dX11_place_55 ?_
                refine lv_bipush (v := 26) hx hb dX11_place_58 (by decide) ?_
                refine lv_iload hx hb dX11_place_60 (lv_at hl 0 rfl) ?_
                refine lv_iadd hx hb dX11_place_62 ?_
                refine lv_iload hx hb dX11_place_63 (lv_at hl 1 rfl) ?_
                refine lv_aload_n hx hb dX11_place_65 rfl (lv_at hl 4 rfl) ?_
                refine g_fi C hW [0, 1] rfl (g_runV (As := []) (rest := [.int (nI c), .int (26 + (nI pq)), .ref ha]) (wc := [(mo, .inr (9, [.ref al, .ref ke, .ref ik, .ref rq, .long mab, .long mbe, .ref so, .ref ha, .ref te, .ref bt, .int bL, .int tA, .int tL, .int tK, .int tV, .ref an, .ref vs])), (al, .inl (G.2.1, 159, .inl a))]) (q0 := 0) (ci := 9) C hW hl (c_X11_many l G mo al ke ik rq so ha te bt an vs mab mbe bL tA tL tK tV a n (by first | assumption | omega) _) k_ml_X11_49 q_X11_many (by decide) [0, 1] rfl rfl rfl rfl rfl rfl (Nat.le_of_ble_eq_true rfl) dX11_place_66 (by decide)) (fun r_1756 er_1756 => ?_)
                clear hW H locs; intro H locs hW
                refine lv_as (y := nI n) er_1756 ?_
                clear er_1756 r_1756
                refine lv_iconst (v := 1) hx hb dX11_place_69 (by decide) ?_
                refine lv_isub hx hb dX11_place_70 ?_
                refine lv_iload hx hb dX11_place_71 (lv_at hl 0 rfl) ?_
                refine lv_isub hx hb dX11_place_73 ?_
                refine lv_ishr hx hb dX11_place_74 ?_
                refine lv_iconst (v := 1) hx hb dX11_place_75 (by decide) ?_
                refine lv_iand hx hb dX11_place_76 ?_
                refine g_ast (w' := [(mo, .inr (9, [.ref al, .ref ke, .ref ik, .ref rq, .long mab, .long mbe, .ref so, .ref ha, .ref te, .ref bt, .int bL, .int tA, .int tL, .int tK, .int tV, .ref an, .ref vs])), (al, .inl (G.2.1, 159, .inl a)), (ha, .inl (G.2.1, 40, .inl (upd (wyA a hx_ n c pq) (26 + pq) (((nI c) >>> ((((nI n) - 1) - (nI pq)) &&& 31)) &&& (1 : Int32)))))]) C hW 2 rfl (ix_in (show (26 + (nI pq)) = nI (26 + pq) from (by first | rfl | (simp only [nI_lit, nI_add, pk_mul]; done) | (simp only [nI_lit, nI_add, pk_mul]; congr 1; omega))) (by omega) (by omega)) (by rw [show (26 + (nI pq)).toNatClampNeg = (26 + pq) from ix_cl (show (26 + (nI pq)) = nI (26 + pq) from (by first | rfl | (simp only [nI_lit, nI_add, pk_mul]; done) | (simp only [nI_lit, nI_add, pk_mul]; congr 1; omega))) (Nat.lt_of_lt_of_le (m := 40) (by omega) (by omega))]; rfl) dX11_place_77 ?_
                clear hW H locs; intro H locs hW
                refine lv_iinc (v := (nI pq) + 1) (lv' := [(5, .int ((nI pq) + 1)), (4, .int (nI c)), (3, .int ((plA (lwA a n hr fh) c).1)), (2, .int ((plA (lwA a n hr fh) c).2)), (0, .ref mo), (1, .int (-1))]) hx hb dX11_place_78 hl (k := 0) rfl rfl (by decide) rfl ?_
                clear hl ls; intro ls hl
                refine lv_goto (tgt := 45) hx hb dX11_place_81 (by decide) ?_
                exact ihK_1743 (pq + 1) ((nI pq) + 1) (upd (wyA a hx_ n c pq) (26 + pq) (((nI c) >>> ((((nI n) - 1) - (nI pq)) &&& 31)) &&& (1 : Int32))) (by exact nI_1 _) (by exact rfl) (by first | omega | assumption | (simp; done)) (by omega) _ _ _ hW (lv_sub hl [0, 1, 2, 3, 4, 5] rfl)
          exact K_1743 _ 0 0 (fa_fill a hx_ 40) (by first | exact rfl | (simp; done)) (by exact rfl) (by first | omega | assumption | (simp; done)) (Nat.lt_succ_self _) _ _ _ hW (lv_sub hl [0, 1, 2, 3, 4, 5] rfl)
    exact K_1732 _ 0 0 0 (-1) hf (by first | exact rfl | (simp; done)) (by exact rfl) (by exact rfl) (by first | omega | assumption | (simp; done)) (Nat.lt_succ_self _) _ _ _ hW (lv_sub hl [0, 1, 2, 3, 4] rfl)
  · exfalso; exact c_1731 rfl
set_option maxHeartbeats 4000000 in
set_option maxRecDepth 100000 in
theorem c_X11_place_pdown (l : Launch) (G : gT) (mo al ke ik rq so ha te bt an vs : Nat) (mab mbe : Int64) (bL tA tL tK tV : Int32) (a : Nat → Int32) (hf : Nat → Int32) (n hr fh N : Nat) (k : Nat) (e0 : a 0 = nI n) (hn : n ≤ 7) (e8 : a 8 = nI fh) (hfh : fh < 2) (e12 : a 12 = nI hr) (hh : hr < 10000) (eN : N = 2 ^ n) (hup : ¬ a 9 = 1) (hk : k < n) : MI l G yX11_place cX11_place 6 .int ({ frames := 2, cells := 0, slots := 0, locals := 46 }) [.ref mo, .int (nI k)] [(mo, .inr (9, [.ref al, .ref ke, .ref ik, .ref rq, .long mab, .long mbe, .ref so, .ref ha, .ref te, .ref bt, .int bL, .int tA, .int tL, .int tK, .int tV, .ref an, .ref vs])), (al, .inl (G.2.1, 159, .inl a)), (ha, .inl (G.2.1, 40, .inl hf))] (fun (r : Int32) w1 => ∃ u_ : Nat → Int32, (r = ((plA (lwA a n hr fh) N).1 >>> ((nI n - 1 - nI k) &&& 31)) &&& 1) ∧ w1 = [(mo, .inr (9, [.ref al, .ref ke, .ref ik, .ref rq, .long mab, .long mbe, .ref so, .ref ha, .ref te, .ref bt, .int bL, .int tA, .int tL, .int tK, .int tV, .ref an, .ref vs])), (al, .inl (G.2.1, 159, .inl a)), (ha, .inl (G.2.1, 40, .inl u_))]) := by
  refine MI.mk (by decide) (Nat.le_of_ble_eq_true rfl) ?_
  intro p_ e_ s_ m_ ar_ be_ me_ cd_ A_ ls C hrt hW hl
  have hx := C.1; have hb := C.2.1; have hown := C.2.2.2.1; have ht := C.2.2.2.2.1
  replace hl : lv_has ls 6 [(0, .ref mo), (1, .int (nI k))] := hl
  generalize hQ : MQ be_ _ ar_ s_ 0 0 A_ = Q
  have h2n : 1 ≤ N ∧ N ≤ 128 := by rw [eN]; exact pw7 hn
  refine lv_iload_n hx hb dX11_place_0 rfl (lv_at hl 1 rfl) ?_
  refine lv_iconst (v := (-1)) hx hb dX11_place_1 (by decide) ?_
  refine lv_icmp_eq (tgt := 20) hx hb dX11_place_2 (by decide) (fun c_1757 => ?_) (fun c_1757 => ?_)
  · exfalso; exact nI_m1ne (by omega) c_1757
  · refine lv_aload_n hx hb dX11_place_5 rfl (lv_at hl 0 rfl) ?_
    refine lv_iload_n hx hb dX11_place_6 rfl (lv_at hl 1 rfl) ?_
    refine g_fi C hW [0, 1] rfl (g_runV (As := [.int (nI k)]) (rest := []) (wc := [(mo, .inr (9, [.ref al, .ref ke, .ref ik, .ref rq, .long mab, .long mbe, .ref so, .ref ha, .ref te, .ref bt, .int bL, .int tA, .int tL, .int tK, .int tV, .ref an, .ref vs])), (al, .inl (G.2.1, 159, .inl a))]) (q0 := 0) (ci := 9) C hW hl (c_X11_isPlayer l G mo al ke ik rq so ha te bt an vs mab mbe bL tA tL tK tV a n (nI k) (by first | assumption | omega) (by first | assumption | omega) _) k_ml_X11_118 q_X11_isPlayer (by decide) [0, 1] rfl rfl rfl rfl rfl rfl (Nat.le_of_ble_eq_true rfl) dX11_place_7 (by decide)) (fun r_1758 er_1758 => ?_)
    clear hW; intro H locs hW
    refine lv_as (y := bI (okp n (nI k))) er_1758 ?_
    clear er_1758 r_1758
    refine lv_if_ne (tgt := 20) hx hb dX11_place_10 (by decide) (fun c_1759 => ?_) (fun c_1759 => ?_)
    · refine lv_iconst (v := (-1)) hx hb dX11_place_20 (by decide) ?_
      refine lv_istore_n (lv' := [(2, .int (-1)), (0, .ref mo), (1, .int (nI k))]) hx hb dX11_place_21 rfl hl (by decide) rfl ?_
      clear hl ls; intro ls hl
      refine lv_iconst (v := 0) hx hb dX11_place_22 (by decide) ?_
      refine lv_istore_n (lv' := [(3, .int 0), (2, .int (-1)), (0, .ref mo), (1, .int (nI k))]) hx hb dX11_place_23 rfl hl (by decide) rfl ?_
      clear hl ls; intro ls hl
      refine lv_iconst (v := 0) hx hb dX11_place_24 (by decide) ?_
      refine lv_istore (lv' := [(4, .int 0), (3, .int 0), (2, .int (-1)), (0, .ref mo), (1, .int (nI k))]) hx hb dX11_place_25 hl (by decide) rfl ?_
      clear hl ls; intro ls hl
      have K_1760 : ∀ (n_ : Nat) (c : Nat) (x_1761 : Int32) (x_1762 : Int32) (x_1763 : Int32) (hx_ : Nat → Int32) (_ : x_1761 = nI c) (_ : x_1762 = (plA (lwA a n hr fh) c).1) (_ : x_1763 = (plA (lwA a n hr fh) c).2) (_ : c ≤ N) (_ : N - c < n_) (H : Heap) (locs : List Loc) (ls : Array Slot), Wd G A_ s_.heap [(mo, .inr (9, [.ref al, .ref ke, .ref ik, .ref rq, .long mab, .long mbe, .ref so, .ref ha, .ref te, .ref bt, .int bL, .int tA, .int tL, .int tK, .int tV, .ref an, .ref vs])), (al, .inl (G.2.1, 159, .inl a)), (ha, .inl (G.2.1, 40, .inl hx_))] H locs → lv_has ls 6 [(4, .int x_1761), (3, .int x_1762), (2, .int x_1763), (0, .ref mo), (1, .int (nI k))] → W p_ l e_ ({ frames := 2, cells := 0, slots := 0, locals := 46 }) s_ m_ ar_ be_ me_ cd_ H locs 0 0 Q (F0 m_ 27 ls []) := by
        intro n_
        induction n_ with
        | zero => intro c x_1761 x_1762 x_1763 hx_ ex_1761 ex_1762 ex_1763 hc hm_; exact absurd hm_ (Nat.not_lt_zero _)
        | succ n_ ihK_1760 =>
          intro c x_1761 x_1762 x_1763 hx_ ex_1761 ex_1762 ex_1763 hc hm_ H locs ls hW hl
          subst ex_1761
          subst ex_1762
          subst ex_1763
          refine lv_iload hx hb dX11_place_27 (lv_at hl 0 rfl) ?_
          refine lv_iconst (v := 1) hx hb dX11_place_29 (by decide) ?_
          refine lv_aload_n hx hb dX11_place_30 rfl (lv_at hl 3 rfl) ?_
          refine g_fi C hW [0, 1] rfl (g_runV (As := []) (rest := [.int 1, .int (nI c)]) (wc := [(mo, .inr (9, [.ref al, .ref ke, .ref ik, .ref rq, .long mab, .long mbe, .ref so, .ref ha, .ref te, .ref bt, .int bL, .int tA, .int tL, .int tK, .int tV, .ref an, .ref vs])), (al, .inl (G.2.1, 159, .inl a))]) (q0 := 0) (ci := 9) C hW hl (c_X11_many l G mo al ke ik rq so ha te bt an vs mab mbe bL tA tL tK tV a n (by first | assumption | omega) _) k_ml_X11_49 q_X11_many (by decide) [0, 1] rfl rfl rfl rfl rfl rfl (Nat.le_of_ble_eq_true rfl) dX11_place_31 (by decide)) (fun r_1764 er_1764 => ?_)
          clear hW H locs; intro H locs hW
          refine lv_as (y := nI n) er_1764 ?_
          clear er_1764 r_1764
          refine lv_ishl hx hb dX11_place_34 ?_
          refine lv_as (y := nI N) (by rw [eN]; exact sh1 n (by omega)) ?_
          refine lv_icmp_ge (tgt := 122) hx hb dX11_place_35 (by decide) (fun c_1765 => ?_) (fun c_1765 => ?_)
          · replace c_1765 := Int32.not_lt.mpr c_1765
            have c_1765n : ¬ c < N := fun q => c_1765 ((nI_ltI (a := c) (b := N) (by omega) (by omega)).mpr q)
            refine lv_iload_n hx hb dX11_place_122 rfl (lv_at hl 4 rfl) ?_
            refine lv_iconst (v := (-1)) hx hb dX11_place_123 (by decide) ?_
            refine lv_icmp_ne (tgt := 131) hx hb dX11_place_124 (by decide) (fun c_1768 => ?_) (fun c_1768 => ?_)
            · refine lv_iload_n hx hb dX11_place_131 rfl (lv_at hl 1 rfl) ?_
              refine lv_aload_n hx hb dX11_place_132 rfl (lv_at hl 3 rfl) ?_
              refine g_fi C hW [0, 1] rfl (g_runV (As := []) (rest := [.int ((plA (lwA a n hr fh) c).1)]) (wc := [(mo, .inr (9, [.ref al, .ref ke, .ref ik, .ref rq, .long mab, .long mbe, .ref so, .ref ha, .ref te, .ref bt, .int bL, .int tA, .int tL, .int tK, .int tV, .ref an, .ref vs])), (al, .inl (G.2.1, 159, .inl a))]) (q0 := 0) (ci := 9) C hW hl (c_X11_many l G mo al ke ik rq so ha te bt an vs mab mbe bL tA tL tK tV a n (by first | assumption | omega) _) k_ml_X11_49 q_X11_many (by decide) [0, 1] rfl rfl rfl rfl rfl rfl (Nat.le_of_ble_eq_true rfl) dX11_place_133 (by decide)) (fun r_1769 er_1769 => ?_)
              clear hW H locs; intro H locs hW
              refine lv_as (y := nI n) er_1769 ?_
              clear er_1769 r_1769
              refine lv_iconst (v := 1) hx hb dX11_place_136 (by decide) ?_
              refine lv_isub hx hb dX11_place_137 ?_
              refine lv_iload_n hx hb dX11_place_138 rfl (lv_at hl 4 rfl) ?_
              refine lv_isub hx hb dX11_place_139 ?_
              refine lv_ishr hx hb dX11_place_140 ?_
              refine lv_iconst (v := 1) hx hb dX11_place_141 (by decide) ?_
              refine lv_iand hx hb dX11_place_142 ?_
              subst hQ
              exact g_iret (v := ((((plA (lwA a n hr fh) c).1) >>> ((((nI n) - 1) - (nI k)) &&& 31)) &&& (1 : Int32))) C hW hrt ⟨hx_, by (rw [show N = c by omega]), by rfl⟩ dX11_place_143
            · exfalso; exact nI_m1ne (by omega) c_1768
          · replace c_1765 := Int32.not_le.mp c_1765
            have c_1765n : c < N := (nI_ltI (a := c) (b := N) (by omega) (by omega)).mp c_1765
            refine lv_aload_n hx hb dX11_place_38 rfl (lv_at hl 3 rfl) ?_
            refine g_fvw (wr := []) (ww := fun (u_ : Unit) => [(mo, .inr (9, [.ref al, .ref ke, .ref ik, .ref rq, .long mab, .long mbe, .ref so, .ref ha, .ref te, .ref bt, .int bL, .int tA, .int tL, .int tK, .int tV, .ref an, .ref vs])), (al, .inl (G.2.1, 159, .inl a)), (ha, .inl (G.2.1, 40, .inl (fa_fill a hx_ 40)))]) (w2 := fun (u_ : Unit) => [(mo, .inr (9, [.ref al, .ref ke, .ref ik, .ref rq, .long mab, .long mbe, .ref so, .ref ha, .ref te, .ref bt, .int bL, .int tA, .int tL, .int tK, .int tV, .ref an, .ref vs])), (al, .inl (G.2.1, 159, .inl a)), (ha, .inl (G.2.1, 40, .inl (fa_fill a hx_ 40)))]) C hW [0, 1, 2] [] [0, 1, 2] rfl rfl (by decide) (by decide) (by decide) (fun _ => rfl) (g_runV (As := []) (rest := []) (wc := [(mo, .inr (9, [.ref al, .ref ke, .ref ik, .ref rq, .long mab, .long mbe, .ref so, .ref ha, .ref te, .ref bt, .int bL, .int tA, .int tL, .int tK, .int tV, .ref an, .ref vs])), (al, .inl (G.2.1, 159, .inl a)), (ha, .inl (G.2.1, 40, .inl hx_))]) (q0 := 0) (ci := 9) C hW hl (c_X11_layHand l G mo al ke ik rq so ha te bt an vs mab mbe bL tA tL tK tV a hx_  _) k_ml_X11_157 q_X11_layHand (by decide) [0, 1, 2] rfl rfl rfl rfl rfl rfl (Nat.le_of_ble_eq_true rfl) dX11_place_39 (by decide)) (fun _ er_1770 => ?_)
            clear hW H locs; intro H locs hW
            replace hW : Wd G A_ s_.heap [(mo, .inr (9, [.ref al, .ref ke, .ref ik, .ref rq, .long mab, .long mbe, .ref so, .ref ha, .ref te, .ref bt, .int bL, .int tA, .int tL, .int tK, .int tV, .ref an, .ref vs])), (al, .inl (G.2.1, 159, .inl a)), (ha, .inl (G.2.1, 40, .inl (fa_fill a hx_ 40)))] H locs := hW
            refine lv_iconst (v := 0) hx hb dX11_place_42 (by decide) ?_
            refine lv_istore (lv' := [(5, .int 0), (4, .int (nI c)), (3, .int ((plA (lwA a n hr fh) c).1)), (2, .int ((plA (lwA a n hr fh) c).2)), (0, .ref mo), (1, .int (nI k))]) hx hb dX11_place_43 hl (by decide) rfl ?_
            clear hl ls; intro ls hl
            have K_1772 : ∀ (n_ : Nat) (pq : Nat) (x_1773 : Int32) (g_1774 : Nat → Int32) (_ : x_1773 = nI pq) (_ : g_1774 = (wyA a hx_ n c pq)) (_ : pq ≤ n) (_ : n - pq < n_) (H : Heap) (locs : List Loc) (ls : Array Slot), Wd G A_ s_.heap [(mo, .inr (9, [.ref al, .ref ke, .ref ik, .ref rq, .long mab, .long mbe, .ref so, .ref ha, .ref te, .ref bt, .int bL, .int tA, .int tL, .int tK, .int tV, .ref an, .ref vs])), (al, .inl (G.2.1, 159, .inl a)), (ha, .inl (G.2.1, 40, .inl g_1774))] H locs → lv_has ls 6 [(5, .int x_1773), (4, .int (nI c)), (3, .int ((plA (lwA a n hr fh) c).1)), (2, .int ((plA (lwA a n hr fh) c).2)), (0, .ref mo), (1, .int (nI k))] → W p_ l e_ ({ frames := 2, cells := 0, slots := 0, locals := 46 }) s_ m_ ar_ be_ me_ cd_ H locs 0 0 Q (F0 m_ 45 ls []) := by
              intro n_
              induction n_ with
              | zero => intro pq x_1773 g_1774 ex_1773 eg_1774 hq hm_; exact absurd hm_ (Nat.not_lt_zero _)
              | succ n_ ihK_1772 =>
                intro pq x_1773 g_1774 ex_1773 eg_1774 hq hm_ H locs ls hW hl
                subst ex_1773
                subst eg_1774
                refine lv_iload hx hb dX11_place_45 (lv_at hl 0 rfl) ?_
                refine lv_aload_n hx hb dX11_place_47 rfl (lv_at hl 4 rfl) ?_
                refine g_fi C hW [0, 1] rfl (g_runV (As := []) (rest := [.int (nI pq)]) (wc := [(mo, .inr (9, [.ref al, .ref ke, .ref ik, .ref rq, .long mab, .long mbe, .ref so, .ref ha, .ref te, .ref bt, .int bL, .int tA, .int tL, .int tK, .int tV, .ref an, .ref vs])), (al, .inl (G.2.1, 159, .inl a))]) (q0 := 0) (ci := 9) C hW hl (c_X11_many l G mo al ke ik rq so ha te bt an vs mab mbe bL tA tL tK tV a n (by first | assumption | omega) _) k_ml_X11_49 q_X11_many (by decide) [0, 1] rfl rfl rfl rfl rfl rfl (Nat.le_of_ble_eq_true rfl) dX11_place_48 (by decide)) (fun r_1775 er_1775 => ?_)
                clear hW H locs; intro H locs hW
                refine lv_as (y := nI n) er_1775 ?_
                clear er_1775 r_1775
                refine lv_icmp_ge (tgt := 84) hx hb dX11_place_51 (by decide) (fun c_1776 => ?_) (fun c_1776 => ?_)
                · replace c_1776 := Int32.not_lt.mpr c_1776
                  have c_1776n : ¬ pq < n := fun q => c_1776 ((nI_ltI (a := pq) (b := n) (by omega) (by omega)).mpr q)
                  refine lv_aload_n hx hb dX11_place_84 rfl (lv_at hl 4 rfl) ?_
                  refine g_fi C hW [0, 1, 2] rfl (g_runV (As := []) (rest := []) (wc := [(mo, .inr (9, [.ref al, .ref ke, .ref ik, .ref rq, .long mab, .long mbe, .ref so, .ref ha, .ref te, .ref bt, .int bL, .int tA, .int tL, .int tK, .int tV, .ref an, .ref vs])), (al, .inl (G.2.1, 159, .inl a)), (ha, .inl (G.2.1, 40, .inl (wyA a hx_ n c pq)))]) (q0 := 0) (ci := 9) C hW hl (c_X11_lastsBy_down l G mo al ke ik rq so ha te bt an vs mab mbe bL tA tL tK tV a (wyA a hx_ n c pq) (by (rw [wyA_lo (by decide)]; exact hup)) _) k_ml_X11_160 q_X11_lastsBy (by decide) [0, 1, 2] rfl rfl rfl rfl rfl rfl (Nat.le_of_ble_eq_true rfl) dX11_place_85 (by decide)) (fun r_1778 er_1778 => ?_)
                  clear hW H locs; intro H locs hW
                  refine lv_as (y := 0) er_1778 ?_
                  clear er_1778 r_1778
                  refine lv_as (y := lwA a n hr fh c) ((if_neg hup).symm) ?_
                  refine lv_istore (lv' := [(5, .int (lwA a n hr fh c)), (4, .int (nI c)), (3, .int ((plA (lwA a n hr fh) c).1)), (2, .int ((plA (lwA a n hr fh) c).2)), (0, .ref mo), (1, .int (nI k))]) hx hb dX11_place_88 hl (by decide) rfl ?_
                  clear hl ls; intro ls hl
                  refine lv_iload hx hb dX11_place_90 (lv_at hl 0 rfl) ?_
                  refine lv_iload_n hx hb dX11_place_92 rfl (lv_at hl 3 rfl) ?_
                  have J_1781 : ∀ (y_1780 : Int32) (_ : y_1780 = (if ((plA (lwA a n hr fh) c).2) < (lwA a n hr fh c) then nI c else (plA (lwA a n hr fh) c).1)), ∀ (H : Heap) (locs : List Loc) (ls : Array Slot), Wd G A_ s_.heap [(mo, .inr (9, [.ref al, .ref ke, .ref ik, .ref rq, .long mab, .long mbe, .ref so, .ref ha, .ref te, .ref bt, .int bL, .int tA, .int tL, .int tK, .int tV, .ref an, .ref vs])), (al, .inl (G.2.1, 159, .inl a)), (ha, .inl (G.2.1, 40, .inl (wyA a hx_ n c pq)))] H locs → lv_has ls 6 [(5, .int (lwA a n hr fh c)), (4, .int (nI c)), (3, .int ((plA (lwA a n hr fh) c).1)), (2, .int ((plA (lwA a n hr fh) c).2)), (0, .ref mo), (1, .int (nI k))] → W p_ l e_ ({ frames := 2, cells := 0, slots := 0, locals := 46 }) s_ m_ ar_ be_ me_ cd_ H locs 0 0 Q (F0 m_ 102 ls [.int y_1780]) := by
                    intro y_1780 ey_1780 H locs ls hW hl
                    refine lv_istore_n (lv' := [(3, .int y_1780), (5, .int (lwA a n hr fh c)), (4, .int (nI c)), (2, .int ((plA (lwA a n hr fh) c).2)), (0, .ref mo), (1, .int (nI k))]) hx hb dX11_place_102 rfl hl (by decide) rfl ?_
                    clear hl ls; intro ls hl
                    refine lv_iload hx hb dX11_place_103 (lv_at hl 1 rfl) ?_
                    refine lv_iload_n hx hb dX11_place_105 rfl (lv_at hl 3 rfl) ?_
                    have J_1784 : ∀ (y_1783 : Int32) (_ : y_1783 = (if ((plA (lwA a n hr fh) c).2) < (lwA a n hr fh c) then lwA a n hr fh c else (plA (lwA a n hr fh) c).2)), ∀ (H : Heap) (locs : List Loc) (ls : Array Slot), Wd G A_ s_.heap [(mo, .inr (9, [.ref al, .ref ke, .ref ik, .ref rq, .long mab, .long mbe, .ref so, .ref ha, .ref te, .ref bt, .int bL, .int tA, .int tL, .int tK, .int tV, .ref an, .ref vs])), (al, .inl (G.2.1, 159, .inl a)), (ha, .inl (G.2.1, 40, .inl (wyA a hx_ n c pq)))] H locs → lv_has ls 6 [(3, .int y_1780), (5, .int (lwA a n hr fh c)), (4, .int (nI c)), (2, .int ((plA (lwA a n hr fh) c).2)), (0, .ref mo), (1, .int (nI k))] → W p_ l e_ ({ frames := 2, cells := 0, slots := 0, locals := 46 }) s_ m_ ar_ be_ me_ cd_ H locs 0 0 Q (F0 m_ 115 ls [.int y_1783]) := by
                      intro y_1783 ey_1783 H locs ls hW hl
                      refine lv_istore_n (lv' := [(2, .int y_1783), (3, .int y_1780), (5, .int (lwA a n hr fh c)), (4, .int (nI c)), (0, .ref mo), (1, .int (nI k))]) hx hb dX11_place_115 rfl hl (by decide) rfl ?_
                      clear hl ls; intro ls hl
                      refine lv_iinc (v := (nI c) + 1) (lv' := [(4, .int ((nI c) + 1)), (2, .int y_1783), (3, .int y_1780), (5, .int (lwA a n hr fh c)), (0, .ref mo), (1, .int (nI k))]) hx hb dX11_place_116 hl (k := 3) rfl rfl (by decide) rfl ?_
                      clear hl ls; intro ls hl
                      refine lv_goto (tgt := 27) hx hb dX11_place_119 (by decide) ?_
                      exact ihK_1760 (c + 1) ((nI c) + 1) y_1780 y_1783 (wyA a hx_ n c pq) (by exact nI_1 _) (by (simp only [ey_1780, ey_1783]; exact pl_1)) (by (simp only [ey_1780, ey_1783]; exact pl_2)) (by first | omega | assumption | (simp; done)) (by omega) _ _ _ hW (lv_sub hl [0, 2, 1, 4, 5] rfl)
                    refine lv_icmp_le (tgt := 114) hx hb dX11_place_106 (by decide) (fun c_1782 => ?_) (fun c_1782 => ?_)
                    · replace c_1782 := Int32.not_lt.mpr c_1782
                      refine lv_iload_n hx hb dX11_place_114 rfl (lv_at hl 3 rfl) ?_
                      exact J_1784 ((plA (lwA a n hr fh) c).2) (by first | (simp only [c_1782, if_true, if_false, reduceIte]; done) | (simp [c_1782]; done) | rfl | (rw [if_neg c_1782]; done)) _ _ _ hW (lv_sub hl [0, 1, 2, 3, 4, 5] rfl)
                    · replace c_1782 := Int32.not_le.mp c_1782
                      refine lv_iload hx hb dX11_place_109 (lv_at hl 1 rfl) ?_
                      refine lv_goto (tgt := 115) hx hb dX11_place_111 (by decide) ?_
                      exact J_1784 (lwA a n hr fh c) (by first | (simp only [c_1782, if_true, if_false, reduceIte]; done) | (simp [c_1782]; done) | rfl | (rw [if_pos c_1782]; done)) _ _ _ hW (lv_sub hl [0, 1, 2, 3, 4, 5] rfl)
                  refine lv_icmp_le (tgt := 101) hx hb dX11_place_93 (by decide) (fun c_1779 => ?_) (fun c_1779 => ?_)
                  · replace c_1779 := Int32.not_lt.mpr c_1779
                    refine lv_iload_n hx hb dX11_place_101 rfl (lv_at hl 2 rfl) ?_
                    exact J_1781 ((plA (lwA a n hr fh) c).1) (by first | (simp only [c_1779, if_true, if_false, reduceIte]; done) | (simp [c_1779]; done) | rfl | (rw [if_neg c_1779]; done)) _ _ _ hW (lv_sub hl [0, 1, 2, 3, 4, 5] rfl)
                  · replace c_1779 := Int32.not_le.mp c_1779
                    refine lv_iload hx hb dX11_place_96 (lv_at hl 1 rfl) ?_
                    refine lv_goto (tgt := 102) hx hb dX11_place_98 (by decide) ?_
                    exact J_1781 (nI c) (by first | (simp only [c_1779, if_true, if_false, reduceIte]; done) | (simp [c_1779]; done) | rfl | (rw [if_pos c_1779]; done)) _ _ _ hW (lv_sub hl [0, 1, 2, 3, 4, 5] rfl)
                · replace c_1776 := Int32.not_le.mp c_1776
                  have c_1776n : pq < n := (nI_ltI (a := pq) (b := n) (by omega) (by omega)).mp c_1776
                  refine lv_aload_n hx hb dX11_place_54 rfl (lv_at hl 4 rfl) ?_
                  refine g_get (k := 7) (v := .ref ha) C hW 0 rfl rfl jnX11 (by decide) k_fl_X11_30 rfl dX11_place_55 ?_
                  refine lv_bipush (v := 26) hx hb dX11_place_58 (by decide) ?_
                  refine lv_iload hx hb dX11_place_60 (lv_at hl 0 rfl) ?_
                  refine lv_iadd hx hb dX11_place_62 ?_
                  refine lv_iload hx hb dX11_place_63 (lv_at hl 1 rfl) ?_
                  refine lv_aload_n hx hb dX11_place_65 rfl (lv_at hl 4 rfl) ?_
                  refine g_fi C hW [0, 1] rfl (g_runV (As := []) (rest := [.int (nI c), .int (26 + (nI pq)), .ref ha]) (wc := [(mo, .inr (9, [.ref al, .ref ke, .ref ik, .ref rq, .long mab, .long mbe, .ref so, .ref ha, .ref te, .ref bt, .int bL, .int tA, .int tL, .int tK, .int tV, .ref an, .ref vs])), (al, .inl (G.2.1, 159, .inl a))]) (q0 := 0) (ci := 9) C hW hl (c_X11_many l G mo al ke ik rq so ha te bt an vs mab mbe bL tA tL tK tV a n (by first | assumption | omega) _) k_ml_X11_49 q_X11_many (by decide) [0, 1] rfl rfl rfl rfl rfl rfl (Nat.le_of_ble_eq_true rfl) dX11_place_66 (by decide)) (fun r_1785 er_1785 => ?_)
                  clear hW H locs; intro H locs hW
                  refine lv_as (y := nI n) er_1785 ?_
                  clear er_1785 r_1785
                  refine lv_iconst (v := 1) hx hb dX11_place_69 (by decide) ?_
                  refine lv_isub hx hb dX11_place_70 ?_
                  refine lv_iload hx hb dX11_place_71 (lv_at hl 0 rfl) ?_
                  refine lv_isub hx hb dX11_place_73 ?_
                  refine lv_ishr hx hb dX11_place_74 ?_
                  refine lv_iconst (v := 1) hx hb dX11_place_75 (by decide) ?_
                  refine lv_iand hx hb dX11_place_76 ?_
                  refine g_ast (w' := [(mo, .inr (9, [.ref al, .ref ke, .ref ik, .ref rq, .long mab, .long mbe, .ref so, .ref ha, .ref te, .ref bt, .int bL, .int tA, .int tL, .int tK, .int tV, .ref an, .ref vs])), (al, .inl (G.2.1, 159, .inl a)), (ha, .inl (G.2.1, 40, .inl (upd (wyA a hx_ n c pq) (26 + pq) (((nI c) >>> ((((nI n) - 1) - (nI pq)) &&& 31)) &&& (1 : Int32)))))]) C hW 2 rfl (ix_in (show (26 + (nI pq)) = nI (26 + pq) from (by first | rfl | (simp only [nI_lit, nI_add, pk_mul]; done) | (simp only [nI_lit, nI_add, pk_mul]; congr 1; omega))) (by omega) (by omega)) (by rw [show (26 + (nI pq)).toNatClampNeg = (26 + pq) from ix_cl (show (26 + (nI pq)) = nI (26 + pq) from (by first | rfl | (simp only [nI_lit, nI_add, pk_mul]; done) | (simp only [nI_lit, nI_add, pk_mul]; congr 1; omega))) (Nat.lt_of_lt_of_le (m := 40) (by omega) (by omega))]; rfl) dX11_place_77 ?_
                  clear hW H locs; intro H locs hW
                  refine lv_iinc (v := (nI pq) + 1) (lv' := [(5, .int ((nI pq) + 1)), (4, .int (nI c)), (3, .int ((plA (lwA a n hr fh) c).1)), (2, .int ((plA (lwA a n hr fh) c).2)), (0, .ref mo), (1, .int (nI k))]) hx hb dX11_place_78 hl (k := 0) rfl rfl (by decide) rfl ?_
                  clear hl ls; intro ls hl
                  refine lv_goto (tgt := 45) hx hb dX11_place_81 (by decide) ?_
                  exact ihK_1772 (pq + 1) ((nI pq) + 1) (upd (wyA a hx_ n c pq) (26 + pq) (((nI c) >>> ((((nI n) - 1) - (nI pq)) &&& 31)) &&& (1 : Int32))) (by exact nI_1 _) (by exact rfl) (by first | omega | assumption | (simp; done)) (by omega) _ _ _ hW (lv_sub hl [0, 1, 2, 3, 4, 5] rfl)
            exact K_1772 _ 0 0 (fa_fill a hx_ 40) (by first | exact rfl | (simp; done)) (by exact rfl) (by first | omega | assumption | (simp; done)) (Nat.lt_succ_self _) _ _ _ hW (lv_sub hl [0, 1, 2, 3, 4, 5] rfl)
      exact K_1760 _ 0 0 0 (-1) hf (by first | exact rfl | (simp; done)) (by exact rfl) (by exact rfl) (by first | omega | assumption | (simp; done)) (Nat.lt_succ_self _) _ _ _ hW (lv_sub hl [0, 1, 2, 3, 4] rfl)
    · exfalso; exact dd (okp_nI (by omega) (by assumption)) c_1759
set_option maxHeartbeats 4000000 in
set_option maxRecDepth 100000 in
theorem c_X11_place_bad (l : Launch) (G : gT) (mo al ke ik rq so ha te bt an vs : Nat) (mab mbe : Int64) (bL tA tL tK tV : Int32) (rv : Nat → Int32) (a : Nat → Int32) (n : Nat) (p9 : Int32) (e0 : a 0 = nI n) (hn : n ≤ 7) (hb1 : ¬ p9 = -1) (hb2 : okp n p9 = false) : MI l G yX11_place cX11_place 6 .int ({ frames := 2, cells := 0, slots := 0, locals := 46 }) [.ref mo, .int p9] [(mo, .inr (9, [.ref al, .ref ke, .ref ik, .ref rq, .long mab, .long mbe, .ref so, .ref ha, .ref te, .ref bt, .int bL, .int tA, .int tL, .int tK, .int tV, .ref an, .ref vs])), (al, .inl (G.2.1, 159, .inl a)), (rq, .inl (G.2.1, 3, .inl rv))] (fun (r : Int32) w1 => ∃ u_ : Unit, (r = (-10)) ∧ w1 = [(mo, .inr (9, [.ref al, .ref ke, .ref ik, .ref rq, .long mab, .long mbe, .ref so, .ref ha, .ref te, .ref bt, .int bL, .int tA, .int tL, .int tK, .int tV, .ref an, .ref vs])), (al, .inl (G.2.1, 159, .inl a)), (rq, .inl (G.2.1, 3, .inl (upd rv 0 (rv 0 + 1))))]) := by
  refine MI.mk (by decide) (Nat.le_of_ble_eq_true rfl) ?_
  intro p_ e_ s_ m_ ar_ be_ me_ cd_ A_ ls C hrt hW hl
  have hx := C.1; have hb := C.2.1; have hown := C.2.2.2.1; have ht := C.2.2.2.2.1
  replace hl : lv_has ls 6 [(0, .ref mo), (1, .int p9)] := hl
  generalize hQ : MQ be_ _ ar_ s_ 0 0 A_ = Q
  refine lv_iload_n hx hb dX11_place_0 rfl (lv_at hl 1 rfl) ?_
  refine lv_iconst (v := (-1)) hx hb dX11_place_1 (by decide) ?_
  refine lv_icmp_eq (tgt := 20) hx hb dX11_place_2 (by decide) (fun c_1786 => ?_) (fun c_1786 => ?_)
  · exfalso; exact hb1 c_1786
  · refine lv_aload_n hx hb dX11_place_5 rfl (lv_at hl 0 rfl) ?_
    refine lv_iload_n hx hb dX11_place_6 rfl (lv_at hl 1 rfl) ?_
    refine g_fi C hW [0, 1] rfl (g_runV (As := [.int p9]) (rest := []) (wc := [(mo, .inr (9, [.ref al, .ref ke, .ref ik, .ref rq, .long mab, .long mbe, .ref so, .ref ha, .ref te, .ref bt, .int bL, .int tA, .int tL, .int tK, .int tV, .ref an, .ref vs])), (al, .inl (G.2.1, 159, .inl a))]) (q0 := 0) (ci := 9) C hW hl (c_X11_isPlayer l G mo al ke ik rq so ha te bt an vs mab mbe bL tA tL tK tV a n p9 (by first | assumption | omega) (by first | assumption | omega) _) k_ml_X11_118 q_X11_isPlayer (by decide) [0, 1] rfl rfl rfl rfl rfl rfl (Nat.le_of_ble_eq_true rfl) dX11_place_7 (by decide)) (fun r_1787 er_1787 => ?_)
    clear hW; intro H locs hW
    refine lv_as (y := bI (okp n p9)) er_1787 ?_
    clear er_1787 r_1787
    refine lv_if_ne (tgt := 20) hx hb dX11_place_10 (by decide) (fun c_1788 => ?_) (fun c_1788 => ?_)
    · exfalso; exact dd0 (by first | assumption | exact decide_eq_false (by first | assumption | omega)) c_1788
    · refine lv_aload_n hx hb dX11_place_13 rfl (lv_at hl 0 rfl) ?_
      refine lv_bipush (v := (-10)) hx hb dX11_place_14 (by decide) ?_
      refine g_fiw (wr := [(al, .inl (G.2.1, 159, .inl a))]) (ww := fun (u_ : Unit) => [(mo, .inr (9, [.ref al, .ref ke, .ref ik, .ref rq, .long mab, .long mbe, .ref so, .ref ha, .ref te, .ref bt, .int bL, .int tA, .int tL, .int tK, .int tV, .ref an, .ref vs])), (rq, .inl (G.2.1, 3, .inl (upd rv 0 (rv 0 + 1))))]) (w2 := fun (u_ : Unit) => [(mo, .inr (9, [.ref al, .ref ke, .ref ik, .ref rq, .long mab, .long mbe, .ref so, .ref ha, .ref te, .ref bt, .int bL, .int tA, .int tL, .int tK, .int tV, .ref an, .ref vs])), (al, .inl (G.2.1, 159, .inl a)), (rq, .inl (G.2.1, 3, .inl (upd rv 0 (rv 0 + 1))))]) C hW [0, 2] [1] [1, 0, 2] rfl rfl (by decide) (by decide) (by decide) (fun _ => rfl) (g_runV (As := [.int (-10)]) (rest := []) (wc := [(mo, .inr (9, [.ref al, .ref ke, .ref ik, .ref rq, .long mab, .long mbe, .ref so, .ref ha, .ref te, .ref bt, .int bL, .int tA, .int tL, .int tK, .int tV, .ref an, .ref vs])), (rq, .inl (G.2.1, 3, .inl rv))]) (q0 := 0) (ci := 9) C hW hl (c_X11_bad l G mo al ke ik rq so ha te bt an vs mab mbe bL tA tL tK tV rv (-10)  _) k_ml_X11_67 q_X11_bad (by decide) [0, 2] rfl rfl rfl rfl rfl rfl (Nat.le_of_ble_eq_true rfl) dX11_place_16 (by decide)) (fun r_1789 _ er_1789 => ?_)
      clear hW H locs; intro H locs hW
      refine lv_as (y := (-10)) er_1789 ?_
      clear er_1789 r_1789
      replace hW : Wd G A_ s_.heap [(mo, .inr (9, [.ref al, .ref ke, .ref ik, .ref rq, .long mab, .long mbe, .ref so, .ref ha, .ref te, .ref bt, .int bL, .int tA, .int tL, .int tK, .int tV, .ref an, .ref vs])), (al, .inl (G.2.1, 159, .inl a)), (rq, .inl (G.2.1, 3, .inl (upd rv 0 (rv 0 + 1))))] H locs := hW
      subst hQ
      exact g_iret (v := (-10)) C hW hrt ⟨(), by rfl, by rfl⟩ dX11_place_19
set_option maxHeartbeats 4000000 in
set_option maxRecDepth 100000 in
theorem c_X11_lasts_down (l : Launch) (G : gT) (mo al ke ik rq so ha te bt an vs : Nat) (mab mbe : Int64) (bL tA tL tK tV : Int32) (a : Nat → Int32) (hf : Nat → Int32) (hup : ¬ a 9 = 1) : MI l G yX11_lasts cX11_lasts 1 .int ({ frames := 1, cells := 0, slots := 0, locals := 25 }) [.ref mo] [(mo, .inr (9, [.ref al, .ref ke, .ref ik, .ref rq, .long mab, .long mbe, .ref so, .ref ha, .ref te, .ref bt, .int bL, .int tA, .int tL, .int tK, .int tV, .ref an, .ref vs])), (al, .inl (G.2.1, 159, .inl a)), (ha, .inl (G.2.1, 40, .inl hf))] (fun (r : Int32) w1 => ∃ u_ : Unit, (r = 0) ∧ w1 = [(mo, .inr (9, [.ref al, .ref ke, .ref ik, .ref rq, .long mab, .long mbe, .ref so, .ref ha, .ref te, .ref bt, .int bL, .int tA, .int tL, .int tK, .int tV, .ref an, .ref vs])), (al, .inl (G.2.1, 159, .inl a)), (ha, .inl (G.2.1, 40, .inl (fa_fill a hf 40)))]) := by
  refine MI.mk (by decide) (Nat.le_of_ble_eq_true rfl) ?_
  intro p_ e_ s_ m_ ar_ be_ me_ cd_ A_ ls C hrt hW hl
  have hx := C.1; have hb := C.2.1; have hown := C.2.2.2.1; have ht := C.2.2.2.2.1
  replace hl : lv_has ls 1 [(0, .ref mo)] := hl
  generalize hQ : MQ be_ _ ar_ s_ 0 0 A_ = Q
  refine lv_aload_n hx hb dX11_lasts_0 rfl (lv_at hl 0 rfl) ?_
  refine g_fvw (wr := []) (ww := fun (u_ : Unit) => [(mo, .inr (9, [.ref al, .ref ke, .ref ik, .ref rq, .long mab, .long mbe, .ref so, .ref ha, .ref te, .ref bt, .int bL, .int tA, .int tL, .int tK, .int tV, .ref an, .ref vs])), (al, .inl (G.2.1, 159, .inl a)), (ha, .inl (G.2.1, 40, .inl (fa_fill a hf 40)))]) (w2 := fun (u_ : Unit) => [(mo, .inr (9, [.ref al, .ref ke, .ref ik, .ref rq, .long mab, .long mbe, .ref so, .ref ha, .ref te, .ref bt, .int bL, .int tA, .int tL, .int tK, .int tV, .ref an, .ref vs])), (al, .inl (G.2.1, 159, .inl a)), (ha, .inl (G.2.1, 40, .inl (fa_fill a hf 40)))]) C hW [0, 1, 2] [] [0, 1, 2] rfl rfl (by decide) (by decide) (by decide) (fun _ => rfl) (g_runV (As := []) (rest := []) (wc := [(mo, .inr (9, [.ref al, .ref ke, .ref ik, .ref rq, .long mab, .long mbe, .ref so, .ref ha, .ref te, .ref bt, .int bL, .int tA, .int tL, .int tK, .int tV, .ref an, .ref vs])), (al, .inl (G.2.1, 159, .inl a)), (ha, .inl (G.2.1, 40, .inl hf))]) (q0 := 0) (ci := 9) C hW hl (c_X11_layHand l G mo al ke ik rq so ha te bt an vs mab mbe bL tA tL tK tV a hf  _) k_ml_X11_157 q_X11_layHand (by decide) [0, 1, 2] rfl rfl rfl rfl rfl rfl (Nat.le_of_ble_eq_true rfl) dX11_lasts_1 (by decide)) (fun _ er_1791 => ?_)
  clear hW; intro H locs hW
  replace hW : Wd G A_ s_.heap [(mo, .inr (9, [.ref al, .ref ke, .ref ik, .ref rq, .long mab, .long mbe, .ref so, .ref ha, .ref te, .ref bt, .int bL, .int tA, .int tL, .int tK, .int tV, .ref an, .ref vs])), (al, .inl (G.2.1, 159, .inl a)), (ha, .inl (G.2.1, 40, .inl (fa_fill a hf 40)))] H locs := hW
  refine lv_aload_n hx hb dX11_lasts_4 rfl (lv_at hl 0 rfl) ?_
  refine g_fi C hW [0, 1, 2] rfl (g_runV (As := []) (rest := []) (wc := [(mo, .inr (9, [.ref al, .ref ke, .ref ik, .ref rq, .long mab, .long mbe, .ref so, .ref ha, .ref te, .ref bt, .int bL, .int tA, .int tL, .int tK, .int tV, .ref an, .ref vs])), (al, .inl (G.2.1, 159, .inl a)), (ha, .inl (G.2.1, 40, .inl (fa_fill a hf 40)))]) (q0 := 0) (ci := 9) C hW hl (c_X11_lastsBy_down l G mo al ke ik rq so ha te bt an vs mab mbe bL tA tL tK tV a (fa_fill a hf 40) (by (rw [fa_fill_in (by decide)]; exact hup)) _) k_ml_X11_160 q_X11_lastsBy (by decide) [0, 1, 2] rfl rfl rfl rfl rfl rfl (Nat.le_of_ble_eq_true rfl) dX11_lasts_5 (by decide)) (fun r_1793 er_1793 => ?_)
  clear hW H locs; intro H locs hW
  refine lv_as (y := 0) er_1793 ?_
  clear er_1793 r_1793
  subst hQ
  exact g_iret (v := 0) C hW hrt ⟨(), by rfl, by rfl⟩ dX11_lasts_8
