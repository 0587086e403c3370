set_option maxHeartbeats 4000000 in
set_option maxRecDepth 100000 in
theorem c_X11_layHand (l : Launch) (G : gT) (mo al ke ik rq so ha te bt an vs : Nat) (mab mbe : Int64) (bL tA tL tK tV : Int32) (a : Nat → Int32) (hf : Nat → Int32)  : MV l G yX11_layHand cX11_layHand 2 ({ frames := 0, cells := 0, slots := 0, locals := 0 }) [.ref mo] [(mo, .inr (9, [.ref al, .ref ke, .ref ik, .ref rq, .long mab, .long mbe, .ref so, .ref ha, .ref te, .ref bt, .int bL, .int tA, .int tL, .int tK, .int tV, .ref an, .ref vs])), (al, .inl (G.2.1, 159, .inl a)), (ha, .inl (G.2.1, 40, .inl hf))] (fun w1 => ∃ u_ : Unit, (True) ∧ w1 = [(mo, .inr (9, [.ref al, .ref ke, .ref ik, .ref rq, .long mab, .long mbe, .ref so, .ref ha, .ref te, .ref bt, .int bL, .int tA, .int tL, .int tK, .int tV, .ref an, .ref vs])), (al, .inl (G.2.1, 159, .inl a)), (ha, .inl (G.2.1, 40, .inl (fa_fill a hf 40)))]) := by
  refine MV.mk (by decide) (Nat.le_of_ble_eq_true rfl) ?_
  intro p_ e_ s_ m_ ar_ be_ me_ cd_ A_ ls C hrt hW hl
  have hx := C.1; have hb := C.2.1; have hown := C.2.2.2.1; have ht := C.2.2.2.2.1
  replace hl : lv_has ls 2 [(0, .ref mo)] := hl
  generalize hQ : MQ be_ _ ar_ s_ 0 0 A_ = Q
  refine lv_iconst (v := 0) hx hb dX11_layHand_0 (by decide) ?_
  refine lv_istore_n (lv' := [(1, .int 0), (0, .ref mo)]) hx hb dX11_layHand_1 rfl hl (by decide) rfl ?_
  clear hl ls; intro ls hl
  have K_1646 : ∀ (n_ : Nat) (j : Nat) (x_1647 : Int32) (g_1648 : Nat → Int32) (_ : x_1647 = nI j) (_ : g_1648 = (fa_fill a hf j)) (_ : j ≤ 40) (_ : 40 - j < n_) (H : Heap) (locs : List Loc) (ls : Array Slot), Wd G A_ s_.heap [(mo, .inr (9, [.ref al, .ref ke, .ref ik, .ref rq, .long mab, .long mbe, .ref so, .ref ha, .ref te, .ref bt, .int bL, .int tA, .int tL, .int tK, .int tV, .ref an, .ref vs])), (al, .inl (G.2.1, 159, .inl a)), (ha, .inl (G.2.1, 40, .inl g_1648))] H locs → lv_has ls 2 [(1, .int x_1647), (0, .ref mo)] → W p_ l e_ ({ frames := 0, cells := 0, slots := 0, locals := 0 }) s_ m_ ar_ be_ me_ cd_ H locs 0 0 Q (F0 m_ 2 ls []) := by
    intro n_
    induction n_ with
    | zero => intro j x_1647 g_1648 ex_1647 eg_1648 hj hm_; exact absurd hm_ (Nat.not_lt_zero _)
    | succ n_ ihK_1646 =>
      intro j x_1647 g_1648 ex_1647 eg_1648 hj hm_ H locs ls hW hl
      subst ex_1647
      subst eg_1648
      refine lv_iload_n hx hb dX11_layHand_2 rfl (lv_at hl 0 rfl) ?_
      refine lv_bipush (v := 40) hx hb dX11_layHand_3 (by decide) ?_
      refine lv_icmp_ge (tgt := 26) hx hb dX11_layHand_5 (by decide) (fun c_1649 => ?_) (fun c_1649 => ?_)
      · replace c_1649 := Int32.not_lt.mpr c_1649
        have c_1649n : ¬ j < 40 := fun q => c_1649 ((nI_ltI (a := j) (b := 40) (by omega) (by omega)).mpr q)
        subst hQ
        exact g_vret C hW hrt ⟨(), trivial, by (rw [show j = 40 by omega])⟩ dX11_layHand_26
      · replace c_1649 := Int32.not_le.mp c_1649
        have c_1649n : j < 40 := (nI_ltI (a := j) (b := 40) (by omega) (by omega)).mp c_1649
        refine lv_aload_n hx hb dX11_layHand_8 rfl (lv_at hl 1 rfl) ?_
        refine g_get (k := 7) (v := .ref ha) C hW 0 rfl rfl jnX11 (by decide) k_fl_X11_30 rfl dX11_layHand_9 ?_
        refine lv_iload_n hx hb dX11_layHand_12 rfl (lv_at hl 0 rfl) ?_
        refine lv_aload_n hx hb dX11_layHand_13 rfl (lv_at hl 1 rfl) ?_
        refine g_get (k := 0) (v := .ref al) C hW 0 rfl rfl jnX11 (by decide) k_fl_X11_7 rfl dX11_layHand_14 ?_
        refine lv_iload_n hx hb dX11_layHand_17 rfl (lv_at hl 0 rfl) ?_
        refine g_ald C hW 1 rfl (ix_in (show (nI j) = nI j from (by first | rfl | (simp only [nI_lit, nI_add, pk_mul]; done) | (simp only [nI_lit, nI_add, pk_mul]; congr 1; omega))) (by omega) (by omega)) dX11_layHand_18 ?_
        refine lv_as (y := a j) (by rw [show (nI j).toNatClampNeg = j from nI_clamp (by omega)]) ?_
        refine g_ast (w' := [(mo, .inr (9, [.ref al, .ref ke, .ref ik, .ref rq, .long mab, .long mbe, .ref so, .ref ha, .ref te, .ref bt, .int bL, .int tA, .int tL, .int tK, .int tV, .ref an, .ref vs])), (al, .inl (G.2.1, 159, .inl a)), (ha, .inl (G.2.1, 40, .inl (upd (fa_fill a hf j) j (a j))))]) C hW 2 rfl (ix_in (show (nI j) = nI j from (by first | rfl | (simp only [nI_lit, nI_add, pk_mul]; done) | (simp only [nI_lit, nI_add, pk_mul]; congr 1; omega))) (by omega) (by omega)) (by rw [show (nI j).toNatClampNeg = j from nI_clamp (by omega)]; rfl) dX11_layHand_19 ?_
        clear hW H locs; intro H locs hW
        refine lv_iinc (v := (nI j) + 1) (lv' := [(1, .int ((nI j) + 1)), (0, .ref mo)]) hx hb dX11_layHand_20 hl (k := 0) rfl rfl (by decide) rfl ?_
        clear hl ls; intro ls hl
        refine lv_goto (tgt := 2) hx hb dX11_layHand_23 (by decide) ?_
        exact ihK_1646 (j + 1) ((nI j) + 1) (upd (fa_fill a hf j) j (a j)) (by exact nI_1 _) (by exact fa_fill_succ _ _ _) (by first | omega | assumption | (simp; done)) (by omega) _ _ _ hW (lv_sub hl [0, 1] rfl)
  exact K_1646 _ 0 0 hf (by first | exact rfl | (simp; done)) (by exact (fa_fill_0 _ _).symm) (by first | omega | assumption | (simp; done)) (Nat.lt_succ_self _) _ _ _ hW (lv_sub hl [0, 1] rfl)
set_option maxHeartbeats 4000000 in
set_option maxRecDepth 100000 in
theorem c_X11_lastsBy (l : Launch) (G : gT) (mo al ke ik rq so ha te bt an vs : Nat) (mab mbe : Int64) (bL tA tL tK tV : Int32) (a : Nat → Int32) (b : Nat → Int32) (n hr fh : Nat) (e0 : a 0 = nI n) (hn : n ≤ 7) (eb8 : b 8 = nI fh) (hfh : fh < 2) (eb12 : b 12 = nI hr) (hh : hr < 10000) (hup : b 9 = 1) : MI l G yX11_lastsBy cX11_lastsBy 6 .int ({ frames := 3, cells := 0, slots := 0, locals := 72 }) [.ref mo] [(mo, .inr (9, [.ref al, .ref ke, .ref ik, .ref rq, .long mab, .long mbe, .ref so, .ref ha, .ref te, .ref bt, .int bL, .int tA, .int tL, .int tK, .int tV, .ref an, .ref vs])), (al, .inl (G.2.1, 159, .inl a)), (ha, .inl (G.2.1, 40, .inl b))] (fun (r : Int32) w1 => (r = nI (lsN b n hr fh)) ∧ w1 = [(mo, .inr (9, [.ref al, .ref ke, .ref ik, .ref rq, .long mab, .long mbe, .ref so, .ref ha, .ref te, .ref bt, .int bL, .int tA, .int tL, .int tK, .int tV, .ref an, .ref vs])), (al, .inl (G.2.1, 159, .inl a)), (ha, .inl (G.2.1, 40, .inl b))]) := by
  refine MI.mk (by decide) (Nat.le_of_ble_eq_true rfl) ?_
  intro p_ e_ s_ m_ ar_ be_ me_ cd_ A_ ls C hrt hW hl
  have hx := C.1; have hb := C.2.1; have hown := C.2.2.2.1; have ht := C.2.2.2.2.1
  replace hl : lv_has ls 6 [(0, .ref mo)] := hl
  generalize hQ : MQ be_ _ ar_ s_ 0 0 A_ = Q
  refine lv_aload_n hx hb dX11_lastsBy_0 rfl (lv_at hl 0 rfl) ?_
  refine g_get (k := 7) (v := .ref ha) C hW 0 rfl rfl jnX11 (by decide) k_fl_X11_30 rfl dX11_lastsBy_1 ?_
  refine lv_bipush (v := 8) hx hb dX11_lastsBy_4 (by decide) ?_
  refine g_ald C hW 2 rfl (vp_in_nI (n := 8) (by omega) (by omega)) dX11_lastsBy_6 ?_
  refine lv_as (y := b 8) (rfl) ?_
  refine lv_istore_n (lv' := [(1, .int (b 8)), (0, .ref mo)]) hx hb dX11_lastsBy_7 rfl hl (by decide) rfl ?_
  clear hl ls; intro ls hl
  refine lv_iconst (v := 0) hx hb dX11_lastsBy_8 (by decide) ?_
  refine lv_istore_n (lv' := [(2, .int 0), (1, .int (b 8)), (0, .ref mo)]) hx hb dX11_lastsBy_9 rfl hl (by decide) rfl ?_
  clear hl ls; intro ls hl
  refine lv_aload_n hx hb dX11_lastsBy_10 rfl (lv_at hl 2 rfl) ?_
  refine g_get (k := 7) (v := .ref ha) C hW 0 rfl rfl jnX11 (by decide) k_fl_X11_30 rfl dX11_lastsBy_11 ?_
  refine lv_bipush (v := 9) hx hb dX11_lastsBy_14 (by decide) ?_
  refine g_ald C hW 2 rfl (vp_in_nI (n := 9) (by omega) (by omega)) dX11_lastsBy_16 ?_
  refine lv_as (y := b 9) (rfl) ?_
  refine lv_iconst (v := 1) hx hb dX11_lastsBy_17 (by decide) ?_
  refine lv_icmp_ne (tgt := 25) hx hb dX11_lastsBy_18 (by decide) (fun c_1650 => ?_) (fun c_1650 => ?_)
  · exfalso; exact c_1650 hup
  · refine lv_iconst (v := 1) hx hb dX11_lastsBy_21 (by decide) ?_
    refine lv_goto (tgt := 26) hx hb dX11_lastsBy_22 (by decide) ?_
    refine lv_istore_n (lv' := [(3, .int 1), (2, .int 0), (1, .int (b 8)), (0, .ref mo)]) hx hb dX11_lastsBy_26 rfl hl (by decide) rfl ?_
    clear hl ls; intro ls hl
    have K_1651 : ∀ (n_ : Nat) (m : Nat) (gv : Int32) (x_1652 : Int32) (hv : Int32) (_ : x_1652 = nI m) (_ : (gv = 1 ∧ hv = nI ((fh + m) % 2) ∧ ∀ i, i < m → fnA b n hr fh i = true) ∨ (gv = 0 ∧ m = lsN b n hr fh)) (_ : m ≤ 60) (_ : (if gv = 0 then 0 else 61 - m) < n_) (H : Heap) (locs : List Loc) (ls : Array Slot), Wd G A_ s_.heap [(mo, .inr (9, [.ref al, .ref ke, .ref ik, .ref rq, .long mab, .long mbe, .ref so, .ref ha, .ref te, .ref bt, .int bL, .int tA, .int tL, .int tK, .int tV, .ref an, .ref vs])), (al, .inl (G.2.1, 159, .inl a)), (ha, .inl (G.2.1, 40, .inl b))] H locs → lv_has ls 6 [(3, .int gv), (2, .int x_1652), (1, .int hv), (0, .ref mo)] → W p_ l e_ ({ frames := 3, cells := 0, slots := 0, locals := 72 }) s_ m_ ar_ be_ me_ cd_ H locs 0 0 Q (F0 m_ 27 ls []) := by
      intro n_
      induction n_ with
      | zero => intro m gv x_1652 hv ex_1652 hd hm hm_; exact absurd hm_ (Nat.not_lt_zero _)
      | succ n_ ihK_1651 =>
        intro m gv x_1652 hv ex_1652 hd hm hm_ H locs ls hW hl
        subst ex_1652
        refine lv_iload_n hx hb dX11_lastsBy_27 rfl (lv_at hl 0 rfl) ?_
        refine lv_if_eq (tgt := 129) hx hb dX11_lastsBy_28 (by decide) (fun c_1653 => ?_) (fun c_1653 => ?_)
        · refine lv_iload_n hx hb dX11_lastsBy_129 rfl (lv_at hl 1 rfl) ?_
          subst hQ
          exact g_iret (v := (nI m)) C hW hrt ⟨by first | (rw [← (hd.resolve_left (fun z => absurd (z.1.symm.trans c_1653) (by decide))).2]; done) | (rw [← ls_e hm  (hd.resolve_right (fun z => c_1650 z.1)).2.2]), rfl⟩ dX11_lastsBy_130
        · refine lv_iload_n hx hb dX11_lastsBy_31 rfl (lv_at hl 1 rfl) ?_
          refine lv_bipush (v := 60) hx hb dX11_lastsBy_32 (by decide) ?_
          refine lv_icmp_ge (tgt := 129) hx hb dX11_lastsBy_34 (by decide) (fun c_1654 => ?_) (fun c_1654 => ?_)
          · replace c_1654 := Int32.not_lt.mpr c_1654
            have c_1654n : ¬ m < 60 := fun q => c_1654 ((nI_ltI (a := m) (b := 60) (by omega) (by omega)).mpr q)
            refine lv_iload_n hx hb dX11_lastsBy_129 rfl (lv_at hl 1 rfl) ?_
            subst hQ
            exact g_iret (v := (nI m)) C hW hrt ⟨by first | (rw [← (hd.resolve_left (fun z => absurd (z.1.symm.trans c_1654) (by decide))).2]; done) | (rw [← ls_e hm c_1654n (hd.resolve_right (fun z => c_1653 z.1)).2.2]), rfl⟩ dX11_lastsBy_130
          · replace c_1654 := Int32.not_le.mp c_1654
            have c_1654n : m < 60 := (nI_ltI (a := m) (b := 60) (by omega) (by omega)).mp c_1654
            have hm6 : m < 60 := c_1654n
            obtain ⟨eg, ehv, hz⟩ := hd.resolve_right (fun z => c_1653 z.1)
            have hg9 := c_1653
            have hm9 : 61 - m < n_ + 1 := by rw [if_neg hg9] at hm_; exact hm_
            obtain rfl : hv = nI ((fh + m) % 2) := ehv
            refine lv_iconst (v := 0) hx hb dX11_lastsBy_37 (by decide) ?_
            refine lv_istore (lv' := [(4, .int 0), (3, .int gv), (2, .int (nI m)), (1, .int (nI ((fh + m) % 2))), (0, .ref mo)]) hx hb dX11_lastsBy_38 hl (by decide) rfl ?_
            clear hl ls; intro ls hl
            refine lv_iconst (v := 0) hx hb dX11_lastsBy_40 (by decide) ?_
            refine lv_istore (lv' := [(5, .int 0), (4, .int 0), (3, .int gv), (2, .int (nI m)), (1, .int (nI ((fh + m) % 2))), (0, .ref mo)]) hx hb dX11_lastsBy_41 hl (by decide) rfl ?_
            clear hl ls; intro ls hl
            have K_1655 : ∀ (n_ : Nat) (pq : Nat) (x_1656 : Int32) (x_1657 : Int32) (_ : x_1656 = nI pq) (_ : x_1657 = bI (exB (fun p => decide (b (26 + p) = nI ((fh + m) % 2)) && crA b p (hr + m) (nI ((fh + m) % 2))) pq)) (_ : pq ≤ n) (_ : n - pq < n_) (H : Heap) (locs : List Loc) (ls : Array Slot), Wd G A_ s_.heap [(mo, .inr (9, [.ref al, .ref ke, .ref ik, .ref rq, .long mab, .long mbe, .ref so, .ref ha, .ref te, .ref bt, .int bL, .int tA, .int tL, .int tK, .int tV, .ref an, .ref vs])), (al, .inl (G.2.1, 159, .inl a)), (ha, .inl (G.2.1, 40, .inl b))] H locs → lv_has ls 6 [(5, .int x_1656), (4, .int x_1657), (3, .int gv), (2, .int (nI m)), (1, .int (nI ((fh + m) % 2))), (0, .ref mo)] → W p_ l e_ ({ frames := 3, cells := 0, slots := 0, locals := 72 }) s_ m_ ar_ be_ me_ cd_ H locs 0 0 Q (F0 m_ 43 ls []) := by
              intro n_
              induction n_ with
              | zero => intro pq x_1656 x_1657 ex_1656 ex_1657 hq hm_; exact absurd hm_ (Nat.not_lt_zero _)
              | succ n_ ihK_1655 =>
                intro pq x_1656 x_1657 ex_1656 ex_1657 hq hm_ H locs ls hW hl
                subst ex_1656
                subst ex_1657
                refine lv_iload hx hb dX11_lastsBy_43 (lv_at hl 0 rfl) ?_
                refine lv_aload_n hx hb dX11_lastsBy_45 rfl (lv_at hl 5 rfl) ?_
                refine g_fi C hW [0, 1] rfl (g_runV (As := []) (rest := [.int (nI pq)]) (wc := [(mo, .inr (9, [.ref al, .ref ke, .ref ik, .ref rq, .long mab, .long mbe, .ref so, .ref ha, .ref te, .ref bt, .int bL, .int tA, .int tL, .int tK, .int tV, .ref an, .ref vs])), (al, .inl (G.2.1, 159, .inl a))]) (q0 := 0) (ci := 9) C hW hl (c_X11_many l G mo al ke ik rq so ha te bt an vs mab mbe bL tA tL tK tV a n (by first | assumption | omega) _) k_ml_X11_49 q_X11_many (by decide) [0, 1] rfl rfl rfl rfl rfl rfl (Nat.le_of_ble_eq_true rfl) dX11_lastsBy_46 (by decide)) (fun r_1658 er_1658 => ?_)
                clear hW H locs; intro H locs hW
                refine lv_as (y := nI n) er_1658 ?_
                clear er_1658 r_1658
                refine lv_icmp_ge (tgt := 106) hx hb dX11_lastsBy_49 (by decide) (fun c_1659 => ?_) (fun c_1659 => ?_)
                · replace c_1659 := Int32.not_lt.mpr c_1659
                  have c_1659n : ¬ pq < n := fun q => c_1659 ((nI_ltI (a := pq) (b := n) (by omega) (by omega)).mpr q)
                  refine lv_iload hx hb dX11_lastsBy_106 (lv_at hl 1 rfl) ?_
                  refine lv_as (y := bI (fnA b n hr fh m)) (by rw [fnA, show n = pq by omega]) ?_
                  refine lv_istore_n (lv' := [(3, .int (bI (fnA b n hr fh m))), (5, .int (nI pq)), (4, .int (bI (exB (fun p => decide (b (26 + p) = nI ((fh + m) % 2)) && crA b p (hr + m) (nI ((fh + m) % 2))) pq))), (2, .int (nI m)), (1, .int (nI ((fh + m) % 2))), (0, .ref mo)]) hx hb dX11_lastsBy_108 rfl hl (by decide) rfl ?_
                  clear hl ls; intro ls hl
                  refine lv_iload_n hx hb dX11_lastsBy_109 rfl (lv_at hl 3 rfl) ?_
                  refine lv_iload hx hb dX11_lastsBy_110 (lv_at hl 2 rfl) ?_
                  refine lv_as (y := bI (fnA b n hr fh m)) (by rw [fnA, show n = pq by omega]) ?_
                  have J_1662 : ∀ (y_1661 : Int32) (_ : y_1661 = (if (bI (fnA b n hr fh m)) = 0 then 0 else 1)), ∀ (H : Heap) (locs : List Loc) (ls : Array Slot), Wd G A_ s_.heap [(mo, .inr (9, [.ref al, .ref ke, .ref ik, .ref rq, .long mab, .long mbe, .ref so, .ref ha, .ref te, .ref bt, .int bL, .int tA, .int tL, .int tK, .int tV, .ref an, .ref vs])), (al, .inl (G.2.1, 159, .inl a)), (ha, .inl (G.2.1, 40, .inl b))] H locs → lv_has ls 6 [(3, .int (bI (fnA b n hr fh m))), (5, .int (nI pq)), (4, .int (bI (exB (fun p => decide (b (26 + p) = nI ((fh + m) % 2)) && crA b p (hr + m) (nI ((fh + m) % 2))) pq))), (2, .int (nI m)), (1, .int (nI ((fh + m) % 2))), (0, .ref mo)] → W p_ l e_ ({ frames := 3, cells := 0, slots := 0, locals := 72 }) s_ m_ ar_ be_ me_ cd_ H locs 0 0 Q (F0 m_ 120 ls [.int y_1661, .int (nI m)]) := by
                    intro y_1661 ey_1661 H locs ls hW hl
                    refine lv_iadd hx hb dX11_lastsBy_120 ?_
                    refine lv_istore_n (lv' := [(2, .int ((nI m) + y_1661)), (3, .int (bI (fnA b n hr fh m))), (5, .int (nI pq)), (4, .int (bI (exB (fun p => decide (b (26 + p) = nI ((fh + m) % 2)) && crA b p (hr + m) (nI ((fh + m) % 2))) pq))), (1, .int (nI ((fh + m) % 2))), (0, .ref mo)]) hx hb dX11_lastsBy_121 rfl hl (by decide) rfl ?_
                    clear hl ls; intro ls hl
                    refine lv_iconst (v := 1) hx hb dX11_lastsBy_122 (by decide) ?_
                    refine lv_iload_n hx hb dX11_lastsBy_123 rfl (lv_at hl 4 rfl) ?_
                    refine lv_isub hx hb dX11_lastsBy_124 ?_
                    refine lv_istore_n (lv' := [(1, .int (1 - (nI ((fh + m) % 2)))), (2, .int ((nI m) + y_1661)), (3, .int (bI (fnA b n hr fh m))), (5, .int (nI pq)), (4, .int (bI (exB (fun p => decide (b (26 + p) = nI ((fh + m) % 2)) && crA b p (hr + m) (nI ((fh + m) % 2))) pq))), (0, .ref mo)]) hx hb dX11_lastsBy_125 rfl hl (by decide) rfl ?_
                    clear hl ls; intro ls hl
                    refine lv_goto (tgt := 27) hx hb dX11_lastsBy_126 (by decide) ?_
                    exact ihK_1651 (if fnA b n hr fh m = true then m + 1 else m) (bI (fnA b n hr fh m)) ((nI m) + y_1661) (1 - (nI ((fh + m) % 2))) (by (simp only [ey_1661]; exact ls_n)) (by exact ls_d hm6 hz rfl rfl) (by (split <;> omega)) (by (cases hq9 : fnA b n hr fh m <;> simp [bI] <;> omega)) _ _ _ hW (lv_sub hl [2, 1, 0, 5] rfl)
                  refine lv_if_eq (tgt := 119) hx hb dX11_lastsBy_112 (by decide) (fun c_1660 => ?_) (fun c_1660 => ?_)
                  · refine lv_iconst (v := 0) hx hb dX11_lastsBy_119 (by decide) ?_
                    exact J_1662 0 (by first | (simp only [c_1660, if_true, if_false, reduceIte]; done) | (simp [c_1660]; done) | rfl) _ _ _ hW (lv_sub hl [0, 1, 2, 3, 4, 5] rfl)
                  · refine lv_iconst (v := 1) hx hb dX11_lastsBy_115 (by decide) ?_
                    refine lv_goto (tgt := 120) hx hb dX11_lastsBy_116 (by decide) ?_
                    exact J_1662 1 (by first | (simp only [c_1660, if_true, if_false, reduceIte]; done) | (simp [c_1660]; done) | rfl) _ _ _ hW (lv_sub hl [0, 1, 2, 3, 4, 5] rfl)
                · replace c_1659 := Int32.not_le.mp c_1659
                  have c_1659n : pq < n := (nI_ltI (a := pq) (b := n) (by omega) (by omega)).mp c_1659
                  refine lv_iload hx hb dX11_lastsBy_52 (lv_at hl 1 rfl) ?_
                  have J_1667 : ∀ (y_1666 : Int32) (_ : y_1666 = (if (bI (exB (fun p => decide (b (26 + p) = nI ((fh + m) % 2)) && crA b p (hr + m) (nI ((fh + m) % 2))) pq)) = 0 then if (b (26 + pq)) = (nI ((fh + m) % 2)) then if (bI (crA b pq (hr + m) (nI ((fh + m) % 2)))) = 0 then 0 else 1 else 0 else 1)), ∀ (H : Heap) (locs : List Loc) (ls : Array Slot), Wd G A_ s_.heap [(mo, .inr (9, [.ref al, .ref ke, .ref ik, .ref rq, .long mab, .long mbe, .ref so, .ref ha, .ref te, .ref bt, .int bL, .int tA, .int tL, .int tK, .int tV, .ref an, .ref vs])), (al, .inl (G.2.1, 159, .inl a)), (ha, .inl (G.2.1, 40, .inl b))] H locs → lv_has ls 6 [(5, .int (nI pq)), (4, .int (bI (exB (fun p => decide (b (26 + p) = nI ((fh + m) % 2)) && crA b p (hr + m) (nI ((fh + m) % 2))) pq))), (3, .int gv), (2, .int (nI m)), (1, .int (nI ((fh + m) % 2))), (0, .ref mo)] → W p_ l e_ ({ frames := 3, cells := 0, slots := 0, locals := 72 }) s_ m_ ar_ be_ me_ cd_ H locs 0 0 Q (F0 m_ 98 ls [.int y_1666]) := by
                    intro y_1666 ey_1666 H locs ls hW hl
                    refine lv_istore (lv' := [(4, .int y_1666), (5, .int (nI pq)), (3, .int gv), (2, .int (nI m)), (1, .int (nI ((fh + m) % 2))), (0, .ref mo)]) hx hb dX11_lastsBy_98 hl (by decide) rfl ?_
                    clear hl ls; intro ls hl
                    refine lv_iinc (v := (nI pq) + 1) (lv' := [(5, .int ((nI pq) + 1)), (4, .int y_1666), (3, .int gv), (2, .int (nI m)), (1, .int (nI ((fh + m) % 2))), (0, .ref mo)]) hx hb dX11_lastsBy_100 hl (k := 1) rfl rfl (by decide) rfl ?_
                    clear hl ls; intro ls hl
                    refine lv_goto (tgt := 43) hx hb dX11_lastsBy_103 (by decide) ?_
                    exact ihK_1655 (pq + 1) ((nI pq) + 1) y_1666 (by exact nI_1 _) (by (simp only [ey_1666]; exact ex_s)) (by first | omega | assumption | (simp; done)) (by omega) _ _ _ hW (lv_sub hl [0, 1, 2, 3, 4, 5] rfl)
                  refine lv_if_ne (tgt := 93) hx hb dX11_lastsBy_54 (by decide) (fun c_1663 => ?_) (fun c_1663 => ?_)
                  · refine lv_iconst (v := 1) hx hb dX11_lastsBy_93 (by decide) ?_
                    refine lv_goto (tgt := 98) hx hb dX11_lastsBy_94 (by decide) ?_
                    exact J_1667 1 (by first | (simp only [c_1663, if_true, if_false, reduceIte]; done) | (simp [c_1663]; done) | rfl) _ _ _ hW (lv_sub hl [0, 1, 2, 3, 4, 5] rfl)
                  · refine lv_aload_n hx hb dX11_lastsBy_57 rfl (lv_at hl 5 rfl) ?_
                    refine g_get (k := 7) (v := .ref ha) C hW 0 rfl rfl jnX11 (by decide) k_fl_X11_30 rfl dX11_lastsBy_58 ?_
                    refine lv_bipush (v := 26) hx hb dX11_lastsBy_61 (by decide) ?_
                    refine lv_iload hx hb dX11_lastsBy_63 (lv_at hl 0 rfl) ?_
                    refine lv_iadd hx hb dX11_lastsBy_65 ?_
                    refine g_ald C hW 2 rfl (ix_in (show (26 + (nI pq)) = nI (26 + pq) from (by first | rfl | (simp only [nI_lit, nI_add, pk_mul]; done) | (simp only [nI_lit, nI_add, pk_mul]; congr 1; omega))) (by omega) (by omega)) dX11_lastsBy_66 ?_
                    refine lv_as (y := b (26 + pq)) (by rw [show (26 + (nI pq)).toNatClampNeg = (26 + pq) from ix_cl (show (26 + (nI pq)) = nI (26 + pq) from (by first | rfl | (simp only [nI_lit, nI_add, pk_mul]; done) | (simp only [nI_lit, nI_add, pk_mul]; congr 1; omega))) (Nat.lt_of_lt_of_le (m := 40) (by omega) (by omega))]) ?_
                    refine lv_iload_n hx hb dX11_lastsBy_67 rfl (lv_at hl 4 rfl) ?_
                    refine lv_icmp_ne (tgt := 97) hx hb dX11_lastsBy_68 (by decide) (fun c_1668 => ?_) (fun c_1668 => ?_)
                    · refine lv_iconst (v := 0) hx hb dX11_lastsBy_97 (by decide) ?_
                      exact J_1667 0 (by first | (simp only [c_1663, c_1668, if_true, if_false, reduceIte]; done) | (simp [c_1663, c_1668]; done) | rfl) _ _ _ hW (lv_sub hl [0, 1, 2, 3, 4, 5] rfl)
                    · refine lv_aload_n hx hb dX11_lastsBy_71 rfl (lv_at hl 5 rfl) ?_
                      refine g_get (k := 7) (v := .ref ha) C hW 0 rfl rfl jnX11 (by decide) k_fl_X11_30 rfl dX11_lastsBy_72 ?_
                      refine lv_iload hx hb dX11_lastsBy_75 (lv_at hl 0 rfl) ?_
                      refine lv_iload_n hx hb dX11_lastsBy_77 rfl (lv_at hl 4 rfl) ?_
                      refine lv_aload_n hx hb dX11_lastsBy_78 rfl (lv_at hl 5 rfl) ?_
                      refine g_get (k := 7) (v := .ref ha) C hW 0 rfl rfl jnX11 (by decide) k_fl_X11_30 rfl dX11_lastsBy_79 ?_
                      refine lv_bipush (v := 12) hx hb dX11_lastsBy_82 (by decide) ?_
                      refine g_ald C hW 2 rfl (vp_in_nI (n := 12) (by omega) (by omega)) dX11_lastsBy_84 ?_
                      refine lv_as (y := b 12) (rfl) ?_
                      refine lv_as (y := nI hr) (eb12) ?_
                      refine lv_iload_n hx hb dX11_lastsBy_85 rfl (lv_at hl 3 rfl) ?_
                      refine lv_iadd hx hb dX11_lastsBy_86 ?_
                      refine lv_as (y := nI (hr + m)) (nI_add _ _) ?_
                      refine g_fi C hW [2] rfl (g_runS (As := [.ref ha, .int (nI pq), .int (nI ((fh + m) % 2)), .int (nI (hr + m))]) (rest := []) (wc := [(ha, .inl (G.2.1, 40, .inl b))]) C hW hl (c_X11_carries l G ha 40 b pq (hr + m) (nI ((fh + m) % 2)) (by first | assumption | omega) (by first | assumption | omega) (by first | assumption | omega) _) k_ml_X11_111 q_X11_carries (by decide) [2] rfl rfl rfl rfl (Nat.le_of_ble_eq_true rfl) dX11_lastsBy_87 (by decide)) (fun r_1669 er_1669 => ?_)
                      clear hW H locs; intro H locs hW
                      refine lv_as (y := bI (crA b pq (hr + m) (nI ((fh + m) % 2)))) er_1669 ?_
                      clear er_1669 r_1669
                      refine lv_if_eq (tgt := 97) hx hb dX11_lastsBy_90 (by decide) (fun c_1670 => ?_) (fun c_1670 => ?_)
                      · refine lv_iconst (v := 0) hx hb dX11_lastsBy_97 (by decide) ?_
                        exact J_1667 0 (by first | (simp only [c_1663, c_1668, c_1670, if_true, if_false, reduceIte]; done) | (simp [c_1663, c_1668, c_1670]; done) | rfl) _ _ _ hW (lv_sub hl [0, 1, 2, 3, 4, 5] rfl)
                      · refine lv_iconst (v := 1) hx hb dX11_lastsBy_93 (by decide) ?_
                        refine lv_goto (tgt := 98) hx hb dX11_lastsBy_94 (by decide) ?_
                        exact J_1667 1 (by first | (simp only [c_1663, c_1668, c_1670, if_true, if_false, reduceIte]; done) | (simp [c_1663, c_1668, c_1670]; done) | rfl) _ _ _ hW (lv_sub hl [0, 1, 2, 3, 4, 5] rfl)
            exact K_1655 _ 0 0 0 (by first | exact rfl | (simp; done)) (by exact rfl) (by first | omega | assumption | (simp; done)) (Nat.lt_succ_self _) _ _ _ hW (lv_sub hl [0, 1, 2, 3, 4, 5] rfl)
    exact K_1651 _ 0 1 0 (b 8) (by first | exact rfl | (simp; done)) (by exact Or.inl ⟨rfl, by rw [eb8, Nat.add_zero, Nat.mod_eq_of_lt hfh], fun i hi => absurd hi (Nat.not_lt_zero _)⟩) (by first | omega | assumption | (simp; done)) (Nat.lt_succ_self _) _ _ _ hW (lv_sub hl [0, 1, 2, 3] rfl)
set_option maxHeartbeats 4000000 in
set_option maxRecDepth 100000 in
theorem c_X11_lasts_up (l : Launch) (G : gT) (mo al ke ik rq so ha te bt an vs : Nat) (mab mbe : Int64) (bL tA tL tK tV : Int32) (a : Nat → Int32) (hf : Nat → Int32) (n hr fh : Nat) (e0 : a 0 = nI n) (hn : n ≤ 7) (e8 : a 8 = nI fh) (hfh : fh < 2) (e12 : a 12 = nI hr) (hh : hr < 10000) (hup : a 9 = 1) : MI l G yX11_lasts cX11_lasts 1 .int ({ frames := 4, cells := 0, slots := 0, locals := 97 }) [.ref mo] [(mo, .inr (9, [.ref al, .ref ke, .ref ik, .ref rq, .long mab, .long mbe, .ref so, .ref ha, .ref te, .ref bt, .int bL, .int tA, .int tL, .int tK, .int tV, .ref an, .ref vs])), (al, .inl (G.2.1, 159, .inl a)), (ha, .inl (G.2.1, 40, .inl hf))] (fun (r : Int32) w1 => ∃ u_ : Unit, (r = nI (lsN (fa_fill a hf 40) n hr fh)) ∧ w1 = [(mo, .inr (9, [.ref al, .ref ke, .ref ik, .ref rq, .long mab, .long mbe, .ref so, .ref ha, .ref te, .ref bt, .int bL, .int tA, .int tL, .int tK, .int tV, .ref an, .ref vs])), (al, .inl (G.2.1, 159, .inl a)), (ha, .inl (G.2.1, 40, .inl (fa_fill a hf 40)))]) := by
  refine MI.mk (by decide) (Nat.le_of_ble_eq_true rfl) ?_
  intro p_ e_ s_ m_ ar_ be_ me_ cd_ A_ ls C hrt hW hl
  have hx := C.1; have hb := C.2.1; have hown := C.2.2.2.1; have ht := C.2.2.2.2.1
  replace hl : lv_has ls 1 [(0, .ref mo)] := hl
  generalize hQ : MQ be_ _ ar_ s_ 0 0 A_ = Q
  refine lv_aload_n hx hb dX11_lasts_0 rfl (lv_at hl 0 rfl) ?_
  refine g_fvw (wr := []) (ww := fun (u_ : Unit) => [(mo, .inr (9, [.ref al, .ref ke, .ref ik, .ref rq, .long mab, .long mbe, .ref so, .ref ha, .ref te, .ref bt, .int bL, .int tA, .int tL, .int tK, .int tV, .ref an, .ref vs])), (al, .inl (G.2.1, 159, .inl a)), (ha, .inl (G.2.1, 40, .inl (fa_fill a hf 40)))]) (w2 := fun (u_ : Unit) => [(mo, .inr (9, [.ref al, .ref ke, .ref ik, .ref rq, .long mab, .long mbe, .ref so, .ref ha, .ref te, .ref bt, .int bL, .int tA, .int tL, .int tK, .int tV, .ref an, .ref vs])), (al, .inl (G.2.1, 159, .inl a)), (ha, .inl (G.2.1, 40, .inl (fa_fill a hf 40)))]) C hW [0, 1, 2] [] [0, 1, 2] rfl rfl (by decide) (by decide) (by decide) (fun _ => rfl) (g_runV (As := []) (rest := []) (wc := [(mo, .inr (9, [.ref al, .ref ke, .ref ik, .ref rq, .long mab, .long mbe, .ref so, .ref ha, .ref te, .ref bt, .int bL, .int tA, .int tL, .int tK, .int tV, .ref an, .ref vs])), (al, .inl (G.2.1, 159, .inl a)), (ha, .inl (G.2.1, 40, .inl hf))]) (q0 := 0) (ci := 9) C hW hl (c_X11_layHand l G mo al ke ik rq so ha te bt an vs mab mbe bL tA tL tK tV a hf  _) k_ml_X11_157 q_X11_layHand (by decide) [0, 1, 2] rfl rfl rfl rfl rfl rfl (Nat.le_of_ble_eq_true rfl) dX11_lasts_1 (by decide)) (fun _ er_1671 => ?_)
  clear hW; intro H locs hW
  replace hW : Wd G A_ s_.heap [(mo, .inr (9, [.ref al, .ref ke, .ref ik, .ref rq, .long mab, .long mbe, .ref so, .ref ha, .ref te, .ref bt, .int bL, .int tA, .int tL, .int tK, .int tV, .ref an, .ref vs])), (al, .inl (G.2.1, 159, .inl a)), (ha, .inl (G.2.1, 40, .inl (fa_fill a hf 40)))] H locs := hW
  refine lv_aload_n hx hb dX11_lasts_4 rfl (lv_at hl 0 rfl) ?_
  refine g_fi C hW [0, 1, 2] rfl (g_runV (As := []) (rest := []) (wc := [(mo, .inr (9, [.ref al, .ref ke, .ref ik, .ref rq, .long mab, .long mbe, .ref so, .ref ha, .ref te, .ref bt, .int bL, .int tA, .int tL, .int tK, .int tV, .ref an, .ref vs])), (al, .inl (G.2.1, 159, .inl a)), (ha, .inl (G.2.1, 40, .inl (fa_fill a hf 40)))]) (q0 := 0) (ci := 9) C hW hl (c_X11_lastsBy l G mo al ke ik rq so ha te bt an vs mab mbe bL tA tL tK tV a (fa_fill a hf 40) n hr fh (by first | assumption | omega) (by first | assumption | omega) (by (rw [fa_fill_in (by decide)]; exact e8)) (by first | assumption | omega) (by (rw [fa_fill_in (by decide)]; exact e12)) (by first | assumption | omega) (by (rw [fa_fill_in (by decide)]; exact hup)) _) k_ml_X11_160 q_X11_lastsBy (by decide) [0, 1, 2] rfl rfl rfl rfl rfl rfl (Nat.le_of_ble_eq_true rfl) dX11_lasts_5 (by decide)) (fun r_1673 er_1673 => ?_)
  clear hW H locs; intro H locs hW
  refine lv_as (y := nI (lsN (fa_fill a hf 40) n hr fh)) er_1673 ?_
  clear er_1673 r_1673
  subst hQ
  exact g_iret (v := (nI (lsN (fa_fill a hf 40) n hr fh))) C hW hrt ⟨(), by rfl, by rfl⟩ dX11_lasts_8
