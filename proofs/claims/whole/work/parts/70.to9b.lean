set_option maxHeartbeats 4000000 in
set_option maxRecDepth 100000 in
theorem c_X10_rally_many (l : Launch) (G : gT) (v vw vc vp vs vn vm vu : Nat) (wide : Int32) (vpc n : Nat) (pf : Nat → Int32) (ck wd : Nat → Int32) (to iv jv rd st ra og : Nat) (k1 k2 ab be bds nos fls : Int32) (rc rr rf : Nat) (td0 fs0 : Int32) (car rea fin : Nat → Int32) (hr fh pl : Nat) (hn : n ≤ 7) (eh : ck 6 = nI hr) (hh : hr < 10000) (eh2 : ck 2 = nI fh) (hf : fh < 2) (hP : okP n pf) (hWd : okW wd) (hg : Rg (ck 1) 1 9) (hpl : pl < 2 ^ n) (hF : ¬ fwF wide ck wd pf n hr fh pl car rea < 0) : MI l G yX10_rally cX10_rally 4 .int ({ frames := 6, cells := 0, slots := 0, locals := 140 }) [.ref to, .int (nI pl), .int (-2)] [(to, .inr (8, [.ref v, .ref iv, .ref jv, .int k1, .int k2, .ref rd, .ref st, .ref ra, .ref og, .int ab, .int be, .int bds, .int nos, .int fls])), (ra, .inr (2, [.ref rc, .ref rr, .ref rf, .int td0, .int fs0])), (rc, .inl (G.2.1, 40, .inl car)), (rr, .inl (G.2.1, 256, .inl rea)), (rf, .inl (G.2.1, 256, .inl fin)), (v, .inr (7, [.int wide, .ref vw, .ref vc, .ref vp, .ref vs, .ref vn, .ref vm, .ref vu])), (vp, .inr (4, [.int 7, .int 3, .ref vpc, .int (nI n)])), (vpc, .inl (G.2.1, 21, .inl pf)), (vc, .inl (G.2.1, 7, .inl ck)), (vw, .inl (G.2.1, 6, .inl wd))] (fun (r : Int32) w1 => ∃ u_ : (Nat → Int32) × (Nat → Int32) × (Nat → Int32) × Int32 × Int32, (r = fwF wide ck wd pf n hr fh pl car rea) ∧ w1 = [(to, .inr (8, [.ref v, .ref iv, .ref jv, .int k1, .int k2, .ref rd, .ref st, .ref ra, .ref og, .int ab, .int be, .int bds, .int nos, .int fls])), (ra, .inr (2, [.ref rc, .ref rr, .ref rf, .int u_.2.2.2.1, .int u_.2.2.2.2])), (rc, .inl (G.2.1, 40, .inl u_.1)), (rr, .inl (G.2.1, 256, .inl u_.2.1)), (rf, .inl (G.2.1, 256, .inl u_.2.2.1)), (v, .inr (7, [.int wide, .ref vw, .ref vc, .ref vp, .ref vs, .ref vn, .ref vm, .ref vu])), (vp, .inr (4, [.int 7, .int 3, .ref vpc, .int (nI n)])), (vpc, .inl (G.2.1, 21, .inl pf)), (vc, .inl (G.2.1, 7, .inl ck)), (vw, .inl (G.2.1, 6, .inl wd))]) := by
  refine MI.mk (by decide) (Nat.le_of_ble_eq_true rfl) ?_
  intro p_ e_ s_ m_ ar_ be_ me_ cd_ A_ ls C hrt hW hl
  have hx := C.1; have hb := C.2.1; have hown := C.2.2.2.1; have ht := C.2.2.2.2.1
  replace hl : lv_has ls 4 [(0, .ref to), (1, .int (nI pl)), (2, .int (-2))] := hl
  generalize hQ : MQ be_ _ ar_ s_ 0 0 A_ = Q
  have h2n := pw7 hn
  refine lv_iload_n hx hb dX10_rally_0 rfl (lv_at hl 1 rfl) ?_
  refine lv_iconst (v := 0) hx hb dX10_rally_1 (by decide) ?_
  refine lv_aload_n hx hb dX10_rally_2 rfl (lv_at hl 0 rfl) ?_
  refine g_get (k := 0) (v := .ref v) C hW 0 rfl rfl jnX10 (by decide) k_fl_X10_10 rfl dX10_rally_3 ?_
  refine g_fi C hW [5, 6] rfl (g_runV (As := []) (rest := [.int 0, .int (nI pl)]) (wc := [(v, .inr (7, [.int wide, .ref vw, .ref vc, .ref vp, .ref vs, .ref vn, .ref vm, .ref vu])), (vp, .inr (4, [.int 7, .int 3, .ref vpc, .int (nI n)]))]) (q0 := 0) (ci := 7) C hW hl (c_X9_everybody l G v vw vc vp vs vn vm vu wide vpc n  _) k_ml_X10_219 q_X9_everybody (by decide) [5, 6] rfl rfl rfl rfl rfl rfl (Nat.le_of_ble_eq_true rfl) dX10_rally_6 (by decide)) (fun r_2805 er_2805 => ?_)
  clear hW; intro H locs hW
  refine lv_as (y := ((1 : Int32) <<< (nI n &&& 31)) - 1) er_2805 ?_
  clear er_2805 r_2805
  refine g_fi C hW [] rfl (g_runS (As := [.int (nI pl), .int 0, .int (((1 : Int32) <<< (nI n &&& 31)) - 1)]) (rest := []) (wc := []) C hW hl (c_X10_isWithin l G (nI pl) 0 (((1 : Int32) <<< (nI n &&& 31)) - 1)  _) k_ml_X10_73 q_X10_isWithin (by decide) [] rfl rfl rfl rfl (Nat.le_of_ble_eq_true rfl) dX10_rally_9 (by decide)) (fun r_2806 er_2806 => ?_)
  clear hW H locs; intro H locs hW
  refine lv_as (y := bI (iw (nI pl) 0 (((1 : Int32) <<< (nI n &&& 31)) - 1))) er_2806 ?_
  clear er_2806 r_2806
  refine lv_if_eq (tgt := 26) hx hb dX10_rally_12 (by decide) (fun c_2807 => ?_) (fun c_2807 => ?_)
  · exfalso; exact dd (iw_pl hn hpl) c_2807
  · refine lv_iload_n hx hb dX10_rally_15 rfl (lv_at hl 2 rfl) ?_
    refine lv_iconst (v := (-1)) hx hb dX10_rally_16 (by decide) ?_
    refine lv_icmp_eq (tgt := 26) hx hb dX10_rally_17 (by decide) (fun c_2808 => ?_) (fun c_2808 => ?_)
    · exfalso; exact absurd c_2808 (by decide)
    · refine lv_iload_n hx hb dX10_rally_20 rfl (lv_at hl 2 rfl) ?_
      refine lv_bipush (v := (-2)) hx hb dX10_rally_21 (by decide) ?_
      refine lv_icmp_ge (tgt := 33) hx hb dX10_rally_23 (by decide) (fun c_2809 => ?_) (fun c_2809 => ?_)
      · replace c_2809 := Int32.not_lt.mpr c_2809
        refine lv_aload_n hx hb dX10_rally_33 rfl (lv_at hl 0 rfl) ?_
        refine g_get (k := 7) (v := .ref ra) C hW 0 rfl rfl jnX10 (by decide) k_fl_X10_46 rfl dX10_rally_34 ?_
        refine lv_aload_n hx hb dX10_rally_37 rfl (lv_at hl 0 rfl) ?_
        refine g_get (k := 0) (v := .ref v) C hW 0 rfl rfl jnX10 (by decide) k_fl_X10_10 rfl dX10_rally_38 ?_
        refine lv_iload_n hx hb dX10_rally_41 rfl (lv_at hl 1 rfl) ?_
        refine g_fiw (wr := [(to, .inr (8, [.ref v, .ref iv, .ref jv, .int k1, .int k2, .ref rd, .ref st, .ref ra, .ref og, .int ab, .int be, .int bds, .int nos, .int fls])), (rf, .inl (G.2.1, 256, .inl fin))]) (ww := fun (u_ : Unit) => [(ra, .inr (2, [.ref rc, .ref rr, .ref rf, .int (nI pl), .int (nI (fh * 128))])), (rc, .inl (G.2.1, 40, .inl (if pl = 0 then car else if ck 3 = 1 then frC (cof wide ck wd pf n hr) car (frM (cof wide ck wd pf n hr) car pl (r00 fh rea)) else car))), (rr, .inl (G.2.1, 256, .inl (if pl = 0 then rea else if ck 3 = 1 then frR (cof wide ck wd pf n hr) car pl (r00 fh rea) (frM (cof wide ck wd pf n hr) car pl (r00 fh rea)) else rea))), (v, .inr (7, [.int wide, .ref vw, .ref vc, .ref vp, .ref vs, .ref vn, .ref vm, .ref vu])), (vp, .inr (4, [.int 7, .int 3, .ref vpc, .int (nI n)])), (vpc, .inl (G.2.1, 21, .inl pf)), (vc, .inl (G.2.1, 7, .inl ck)), (vw, .inl (G.2.1, 6, .inl wd))]) (w2 := fun (u_ : Unit) => [(to, .inr (8, [.ref v, .ref iv, .ref jv, .int k1, .int k2, .ref rd, .ref st, .ref ra, .ref og, .int ab, .int be, .int bds, .int nos, .int fls])), (ra, .inr (2, [.ref rc, .ref rr, .ref rf, .int (nI pl), .int (nI (fh * 128))])), (rc, .inl (G.2.1, 40, .inl (if pl = 0 then car else if ck 3 = 1 then frC (cof wide ck wd pf n hr) car (frM (cof wide ck wd pf n hr) car pl (r00 fh rea)) else car))), (rr, .inl (G.2.1, 256, .inl (if pl = 0 then rea else if ck 3 = 1 then frR (cof wide ck wd pf n hr) car pl (r00 fh rea) (frM (cof wide ck wd pf n hr) car pl (r00 fh rea)) else rea))), (rf, .inl (G.2.1, 256, .inl fin)), (v, .inr (7, [.int wide, .ref vw, .ref vc, .ref vp, .ref vs, .ref vn, .ref vm, .ref vu])), (vp, .inr (4, [.int 7, .int 3, .ref vpc, .int (nI n)])), (vpc, .inl (G.2.1, 21, .inl pf)), (vc, .inl (G.2.1, 7, .inl ck)), (vw, .inl (G.2.1, 6, .inl wd))]) C hW [1, 2, 3, 5, 6, 7, 8, 9] [0, 4] [0, 2, 3, 4, 1, 5, 6, 7, 8, 9] rfl rfl (by decide) (by decide) (by decide) (fun _ => rfl) (g_runV (As := [.ref v, .int (nI pl)]) (rest := []) (wc := [(ra, .inr (2, [.ref rc, .ref rr, .ref rf, .int td0, .int fs0])), (rc, .inl (G.2.1, 40, .inl car)), (rr, .inl (G.2.1, 256, .inl rea)), (v, .inr (7, [.int wide, .ref vw, .ref vc, .ref vp, .ref vs, .ref vn, .ref vm, .ref vu])), (vp, .inr (4, [.int 7, .int 3, .ref vpc, .int (nI n)])), (vpc, .inl (G.2.1, 21, .inl pf)), (vc, .inl (G.2.1, 7, .inl ck)), (vw, .inl (G.2.1, 6, .inl wd))]) (q0 := 0) (ci := 2) C hW hl (c_X4_fewestHours l G ra rc rr rf td0 fs0 car rea v vw vc vp vs vn vm vu wide vpc n pf ck wd hr fh pl (by first | assumption | omega) (by assumption) (by first | assumption | omega) (by assumption) (by first | assumption | omega) (by first | assumption | omega) (by assumption) (by assumption) (by assumption) _) k_ml_X10_222 q_X4_fewestHours (by decide) [1, 2, 3, 5, 6, 7, 8, 9] rfl rfl rfl rfl rfl rfl (Nat.le_of_ble_eq_true rfl) dX10_rally_42 (by decide)) (fun r_2810 _ er_2810 => ?_)
        clear hW H locs; intro H locs hW
        refine lv_as (y := if pl = 0 then 0 else if ck 3 = 1 then frV (cof wide ck wd pf n hr) car pl (r00 fh rea) else -1) er_2810 ?_
        clear er_2810 r_2810
        replace hW : Wd G A_ s_.heap [(to, .inr (8, [.ref v, .ref iv, .ref jv, .int k1, .int k2, .ref rd, .ref st, .ref ra, .ref og, .int ab, .int be, .int bds, .int nos, .int fls])), (ra, .inr (2, [.ref rc, .ref rr, .ref rf, .int (nI pl), .int (nI (fh * 128))])), (rc, .inl (G.2.1, 40, .inl (if pl = 0 then car else if ck 3 = 1 then frC (cof wide ck wd pf n hr) car (frM (cof wide ck wd pf n hr) car pl (r00 fh rea)) else car))), (rr, .inl (G.2.1, 256, .inl (if pl = 0 then rea else if ck 3 = 1 then frR (cof wide ck wd pf n hr) car pl (r00 fh rea) (frM (cof wide ck wd pf n hr) car pl (r00 fh rea)) else rea))), (rf, .inl (G.2.1, 256, .inl fin)), (v, .inr (7, [.int wide, .ref vw, .ref vc, .ref vp, .ref vs, .ref vn, .ref vm, .ref vu])), (vp, .inr (4, [.int 7, .int 3, .ref vpc, .int (nI n)])), (vpc, .inl (G.2.1, 21, .inl pf)), (vc, .inl (G.2.1, 7, .inl ck)), (vw, .inl (G.2.1, 6, .inl wd))] H locs := hW
        refine lv_as (y := fwF wide ck wd pf n hr fh pl car rea) (rfl) ?_
        refine lv_istore_n (lv' := [(3, .int (fwF wide ck wd pf n hr fh pl car rea)), (0, .ref to), (1, .int (nI pl)), (2, .int (-2))]) hx hb dX10_rally_45 rfl hl (by decide) rfl ?_
        clear hl ls; intro ls hl
        refine lv_iload_n hx hb dX10_rally_46 rfl (lv_at hl 0 rfl) ?_
        refine lv_if_ge (tgt := 53) hx hb dX10_rally_47 (by decide) (fun c_2812 => ?_) (fun c_2812 => ?_)
        · replace c_2812 := Int32.not_lt.mpr c_2812
          refine lv_iload_n hx hb dX10_rally_53 rfl (lv_at hl 3 rfl) ?_
          refine lv_bipush (v := (-2)) hx hb dX10_rally_54 (by decide) ?_
          refine lv_icmp_ne (tgt := 61) hx hb dX10_rally_56 (by decide) (fun c_2813 => ?_) (fun c_2813 => ?_)
          · exfalso; exact c_2813 rfl
          · refine lv_iload_n hx hb dX10_rally_59 rfl (lv_at hl 0 rfl) ?_
            subst hQ
            exact g_iret (v := (fwF wide ck wd pf n hr fh pl car rea)) C hW hrt ⟨((if pl = 0 then car else if ck 3 = 1 then frC (cof wide ck wd pf n hr) car (frM (cof wide ck wd pf n hr) car pl (r00 fh rea)) else car), (if pl = 0 then rea else if ck 3 = 1 then frR (cof wide ck wd pf n hr) car pl (r00 fh rea) (frM (cof wide ck wd pf n hr) car pl (r00 fh rea)) else rea), fin, nI pl, nI (fh * 128)), by exact rfl, by dsimp only⟩ dX10_rally_60
        · replace c_2812 := Int32.not_le.mp c_2812
          exfalso; exact hF c_2812
      · replace c_2809 := Int32.not_le.mp c_2809
        exfalso; exact absurd c_2809 (by decide)
