set_option maxHeartbeats 8000000 in
set_option maxRecDepth 100000 in
theorem st_rally {p_ : Program} {l : Launch} {e_ : Env} {s_ : State} {m_ : MethodId} {ar_ : Array Value} {be_ : List Frame} {me_ : Method} {cd_ : Code} {cells slots : Nat} {Q : State → Prop} {G : gT} {A_ : Nat → Prop} {ad : Nat → Nat} {bS : Nat} {L i B : Nat} {xs : Nat → Int32} (hLA : LA p_ l e_ s_ m_ ar_ be_ me_ cd_ cells slots Q G A_ ad bS L xs) (hi : i + 4 < L) (hB : B ≤ 300) (K : KK p_ l e_ s_ m_ ar_ be_ me_ cd_ cells slots Q G A_ ad bS i (B + 1) 1149) : KK p_ l e_ s_ m_ ar_ be_ me_ cd_ cells slots Q G A_ ad bS i B 561 := by
  obtain ⟨C, hX, hbl, hbA, hL, hcl⟩ := hLA
  intro k1 k2 ab be bds nos fls wide wd ck n pf sn sf nn nf mn mf u uf ywide ywd yck yn ypf ysn ysf ynn ynf ymn ymf yu yuf zwide zwd zck zn zpf zsn zsf znn znf zmn zmf zu zuf tk tn tok stt en tf dwide dwd dck dn dpf dsn dsf dnn dnf dmn dmf du duf f0 cr td0 fs0 car rea fin ms mab mbe bL tA tL tK tV a kf jf rv sv hf ef tg b vf hR H locs ls hW hl
  have hx := C.1; have hb := C.2.1; have hown := C.2.2.2.1; have ht := C.2.2.2.2.1
  obtain ⟨hV, hI1, hI2, hT, hPR, hCR⟩ := hR
  have hV0 := hV
  obtain ⟨⟨hn, hs, ho, hm, hu⟩, ⟨hWd, hP, hH, hS, hO⟩, ⟨hck, hpa⟩, ⟨e0, e1, e2, e3, e4, e5⟩, ⟨ea, ew, ep⟩, ⟨es, eno, em, eu⟩⟩ := hV
  have hck0 := hck
  obtain ⟨⟨hr, eh, hh⟩, ⟨fh, eh2, hfl⟩, hup01, hg, ⟨k4, ek4, hk4⟩, ⟨d5, ed5, hd5⟩⟩ := hck
  have e8 : a 8 = nI fh := (ea 2 (by decide)).trans eh2
  have e12 : a 12 = nI hr := (ea 6 (by decide)).trans eh
  have e9 : a 9 = ck 3 := ea 3 (by decide)
  have e7 : a 7 = ck 1 := ea 1 (by decide)
  have e6 : a 6 = ck 0 := ea 0 (by decide)
  obtain ⟨htn, hbL, htt⟩ := hT
  subst hbL
  cases hc : (iw (xs (i + 1)) 0 (((1 : Int32) <<< (nI n &&& 31)) - 1) && (decide (-2 ≤ (xs (i + 2))) && !(decide ((xs (i + 2)) = -1)))) with
  | false =>
    refine lv_aload_n hx hb dL_law_561 rfl (lv_at hl 1 rfl) ?_
    refine lv_aload_n hx hb dL_law_562 rfl (lv_at hl 0 rfl) ?_
    refine lv_iload_n hx hb dL_law_563 rfl (lv_at hl 3 rfl) ?_
    refine lv_iconst (v := 1) hx hb dL_law_564 (by decide) ?_
    refine lv_iadd hx hb dL_law_565 ?_
    refine lv_as (y := nI (i + 1)) (nI_add i 1) ?_
    refine va_sld hx hb hX hbl hbA hW.2.2 (vp_in_nI (n := i + 1) (by omega) (by omega)) dL_law_566 ?_
    refine lv_as (y := xs (i + 1)) (by rw [nI_clamp (by omega)]) ?_
    refine lv_aload_n hx hb dL_law_567 rfl (lv_at hl 0 rfl) ?_
    refine lv_iload_n hx hb dL_law_568 rfl (lv_at hl 3 rfl) ?_
    refine lv_iconst (v := 2) hx hb dL_law_569 (by decide) ?_
    refine lv_iadd hx hb dL_law_570 ?_
    refine lv_as (y := nI (i + 2)) (nI_add i 2) ?_
    refine va_sld hx hb hX hbl hbA hW.2.2 (vp_in_nI (n := i + 2) (by omega) (by omega)) dL_law_571 ?_
    refine lv_as (y := xs (i + 2)) (by rw [nI_clamp (by omega)]) ?_
    refine g_fiS (ww := fun (u_ : Unit) => [((ad 0), .inr (8, [.ref (ad 1), .ref (ad 14), .ref (ad 27), .int k1, .int k2, .ref (ad 40), .ref (ad 56), .ref (ad 58), .ref (ad 62), .int ab, .int be, .int (bds + 1), .int nos, .int fls])), ((ad 1), .inr (7, [.int wide, .ref (ad 2), .ref (ad 3), .ref (ad 4), .ref (ad 6), .ref (ad 8), .ref (ad 10), .ref (ad 12)])), ((ad 4), .inr (4, [.int 7, .int 3, .ref (ad 5), .int (nI n)]))]) (w2 := fun (u_ : Unit) => LW G ad k1 k2 ab be (bds + 1) nos fls wide wd ck n pf sn sf nn nf mn mf u uf ywide ywd yck yn ypf ysn ysf ynn ynf ymn ymf yu yuf zwide zwd zck zn zpf zsn zsf znn znf zmn zmf zu zuf tk tn tok stt en tf dwide dwd dck dn dpf dsn dsf dnn dnf dmn dmf du duf f0 cr td0 fs0 car rea fin ms mab mbe (nI tn) tA tL tK tV a kf jf rv sv hf ef tg b vf) C hW [0, 1, 4] rfl (fun _ => rfl) (fun _ => rfl) (fun _ => lw_fst.trans lw_fst.symm) (g_runV (As := [.int (xs (i + 1)), .int (xs (i + 2))]) (rest := []) (wc := [((ad 0), .inr (8, [.ref (ad 1), .ref (ad 14), .ref (ad 27), .int k1, .int k2, .ref (ad 40), .ref (ad 56), .ref (ad 58), .ref (ad 62), .int ab, .int be, .int bds, .int nos, .int fls])), ((ad 1), .inr (7, [.int wide, .ref (ad 2), .ref (ad 3), .ref (ad 4), .ref (ad 6), .ref (ad 8), .ref (ad 10), .ref (ad 12)])), ((ad 4), .inr (4, [.int 7, .int 3, .ref (ad 5), .int (nI n)]))]) (q0 := 0) (ci := 8) C hW hl (c_X10_rally_bad l G (ad 1) (ad 2) (ad 3) (ad 4) (ad 6) (ad 8) (ad 10) (ad 12) wide (ad 0) (ad 14) (ad 27) (ad 40) (ad 56) (ad 58) (ad 62) k1 k2 ab be bds nos fls (ad 5) n (xs (i + 1)) (xs (i + 2)) (by exact hc) _) k_ml_L_77 q_X10_rally ⟨⟨rfl, rfl⟩, Nat.le_of_ble_eq_true rfl, Nat.le_of_ble_eq_true rfl⟩ [0, 1, 4] (by decide) rfl rfl rfl rfl rfl (Nat.le_of_ble_eq_true rfl) dL_law_572 ⟨hcl.1, hcl.2⟩) (fun r_1 _ er_1 => ?_)
    clear hW H locs; intro H locs hW
    replace hW : Wd G A_ s_.heap (LW G ad k1 k2 ab be (bds + 1) nos fls wide wd ck n pf sn sf nn nf mn mf u uf ywide ywd yck yn ypf ysn ysf ynn ynf ymn ymf yu yuf zwide zwd zck zn zpf zsn zsf znn znf zmn zmf zu zuf tk tn tok stt en tf dwide dwd dck dn dpf dsn dsf dnn dnf dmn dmf du duf f0 cr td0 fs0 car rea fin ms mab mbe (nI tn) tA tL tK tV a kf jf rv sv hf ef tg b vf) H locs := hW
    refine lv_as (y := (-10)) er_1 ?_
    refine lv_aload_n hx hb dL_law_575 rfl (lv_at hl 2 rfl) ?_
    refine lv_aload_n hx hb dL_law_576 rfl (lv_at hl 0 rfl) ?_
    refine lv_iload_n hx hb dL_law_577 rfl (lv_at hl 3 rfl) ?_
    refine lv_iconst (v := 1) hx hb dL_law_578 (by decide) ?_
    refine lv_iadd hx hb dL_law_579 ?_
    refine lv_as (y := nI (i + 1)) (nI_add i 1) ?_
    refine va_sld hx hb hX hbl hbA hW.2.2 (vp_in_nI (n := i + 1) (by omega) (by omega)) dL_law_580 ?_
    refine lv_as (y := xs (i + 1)) (by rw [nI_clamp (by omega)]) ?_
    refine lv_aload_n hx hb dL_law_581 rfl (lv_at hl 0 rfl) ?_
    refine lv_iload_n hx hb dL_law_582 rfl (lv_at hl 3 rfl) ?_
    refine lv_iconst (v := 2) hx hb dL_law_583 (by decide) ?_
    refine lv_iadd hx hb dL_law_584 ?_
    refine lv_as (y := nI (i + 2)) (nI_add i 2) ?_
    refine va_sld hx hb hX hbl hbA hW.2.2 (vp_in_nI (n := i + 2) (by omega) (by omega)) dL_law_585 ?_
    refine lv_as (y := xs (i + 2)) (by rw [nI_clamp (by omega)]) ?_
    refine g_fiS (ww := fun (u_ : Unit) => [((ad 64), .inr (9, [.ref (ad 65), .ref (ad 66), .ref (ad 67), .ref (ad 68), .long mab, .long mbe, .ref (ad 69), .ref (ad 70), .ref (ad 71), .ref (ad 72), .int (nI tn), .int tA, .int tL, .int tK, .int tV, .ref (ad 73), .ref (ad 74)])), ((ad 65), .inl (G.2.1, 159, .inl a)), ((ad 68), .inl (G.2.1, 3, .inl (upd rv 0 (rv 0 + 1))))]) (w2 := fun (u_ : Unit) => LW G ad k1 k2 ab be (bds + 1) nos fls wide wd ck n pf sn sf nn nf mn mf u uf ywide ywd yck yn ypf ysn ysf ynn ynf ymn ymf yu yuf zwide zwd zck zn zpf zsn zsf znn znf zmn zmf zu zuf tk tn tok stt en tf dwide dwd dck dn dpf dsn dsf dnn dnf dmn dmf du duf f0 cr td0 fs0 car rea fin ms mab mbe (nI tn) tA tL tK tV a kf jf (upd rv 0 (rv 0 + 1)) sv hf ef tg b vf) C hW [64, 65, 68] rfl (fun _ => rfl) (fun _ => rfl) (fun _ => lw_fst.trans lw_fst.symm) (g_runV (As := [.int (xs (i + 1)), .int (xs (i + 2))]) (rest := [.int (-10)]) (wc := [((ad 64), .inr (9, [.ref (ad 65), .ref (ad 66), .ref (ad 67), .ref (ad 68), .long mab, .long mbe, .ref (ad 69), .ref (ad 70), .ref (ad 71), .ref (ad 72), .int (nI tn), .int tA, .int tL, .int tK, .int tV, .ref (ad 73), .ref (ad 74)])), ((ad 65), .inl (G.2.1, 159, .inl a)), ((ad 68), .inl (G.2.1, 3, .inl rv))]) (q0 := 0) (ci := 9) C hW hl (c_X11_rally_bad l G (ad 64) (ad 65) (ad 66) (ad 67) (ad 68) (ad 69) (ad 70) (ad 71) (ad 72) (ad 73) (ad 74) mab mbe (nI tn) tA tL tK tV rv a n (xs (i + 1)) (xs (i + 2)) (by first | assumption | omega) (by first | assumption | omega) (by exact hc) _) k_ml_L_80 q_X11_rally ⟨⟨rfl, rfl⟩, Nat.le_of_ble_eq_true rfl, Nat.le_of_ble_eq_true rfl⟩ [64, 65, 68] (by decide) rfl rfl rfl rfl rfl (Nat.le_of_ble_eq_true rfl) dL_law_586 ⟨hcl.1, hcl.2⟩) (fun r_3 _ er_3 => ?_)
    clear hW H locs; intro H locs hW
    replace hW : Wd G A_ s_.heap (LW G ad k1 k2 ab be (bds + 1) nos fls wide wd ck n pf sn sf nn nf mn mf u uf ywide ywd yck yn ypf ysn ysf ynn ynf ymn ymf yu yuf zwide zwd zck zn zpf zsn zsf znn znf zmn zmf zu zuf tk tn tok stt en tf dwide dwd dck dn dpf dsn dsf dnn dnf dmn dmf du duf f0 cr td0 fs0 car rea fin ms mab mbe (nI tn) tA tL tK tV a kf jf (upd rv 0 (rv 0 + 1)) sv hf ef tg b vf) H locs := hW
    refine lv_as (y := (-10)) er_3 ?_
    refine lv_as (y := (-10)) (rfl) ?_
    refine lv_icmp_eq (tgt := 1149) hx hb dL_law_589 (by decide) (fun _ => ?_) (fun c9 => absurd rfl c9)
    exact K k1 k2 ab be (bds + 1) nos fls wide wd ck n pf sn sf nn nf mn mf u uf ywide ywd yck yn ypf ysn ysf ynn ynf ymn ymf yu yuf zwide zwd zck zn zpf zsn zsf znn znf zmn zmf zu zuf tk tn tok stt en tf dwide dwd dck dn dpf dsn dsf dnn dnf dmn dmf du duf f0 cr td0 fs0 car rea fin ms mab mbe (nI tn) tA tL tK tV a kf jf (upd rv 0 (rv 0 + 1)) sv hf ef tg b vf (⟨hV0.mono (by omega), hI1.mono (by omega), hI2.mono (by omega), ⟨htn, rfl, htt⟩, hPR, CR_bad hCR⟩) _ _ _ hW hl
  | true =>
    simp only [Bool.and_eq_true, decide_eq_true_eq, Bool.not_eq_true', decide_eq_false_iff_not] at hc
    obtain ⟨pl, hpl, epl⟩ := pl_ex hn hc.1
    rcases rl_both (car := car) (rea := rea) (hr := hr) hV0 hfl hpl with ⟨v9, hv20, eF, eR, h9⟩ | ⟨eF, v9, eR, hv9, hv9b⟩
    · by_cases hk2 : (xs (i + 2)) = -2
      · refine lv_aload_n hx hb dL_law_561 rfl (lv_at hl 1 rfl) ?_
        refine lv_aload_n hx hb dL_law_562 rfl (lv_at hl 0 rfl) ?_
        refine lv_iload_n hx hb dL_law_563 rfl (lv_at hl 3 rfl) ?_
        refine lv_iconst (v := 1) hx hb dL_law_564 (by decide) ?_
        refine lv_iadd hx hb dL_law_565 ?_
        refine lv_as (y := nI (i + 1)) (nI_add i 1) ?_
        refine va_sld hx hb hX hbl hbA hW.2.2 (vp_in_nI (n := i + 1) (by omega) (by omega)) dL_law_566 ?_
        refine lv_as (y := nI pl) (by rw [nI_clamp (by omega)]; exact epl) ?_
        refine lv_aload_n hx hb dL_law_567 rfl (lv_at hl 0 rfl) ?_
        refine lv_iload_n hx hb dL_law_568 rfl (lv_at hl 3 rfl) ?_
        refine lv_iconst (v := 2) hx hb dL_law_569 (by decide) ?_
        refine lv_iadd hx hb dL_law_570 ?_
        refine lv_as (y := nI (i + 2)) (nI_add i 2) ?_
        refine va_sld hx hb hX hbl hbA hW.2.2 (vp_in_nI (n := i + 2) (by omega) (by omega)) dL_law_571 ?_
        refine lv_as (y := (-2)) (by rw [nI_clamp (by omega)]; exact hk2) ?_
        refine g_fiS (ww := fun (u_ : (Nat → Int32) × (Nat → Int32) × (Nat → Int32) × Int32 × Int32) => [((ad 0), .inr (8, [.ref (ad 1), .ref (ad 14), .ref (ad 27), .int k1, .int k2, .ref (ad 40), .ref (ad 56), .ref (ad 58), .ref (ad 62), .int ab, .int be, .int bds, .int nos, .int fls])), ((ad 58), .inr (2, [.ref (ad 59), .ref (ad 60), .ref (ad 61), .int u_.2.2.2.1, .int u_.2.2.2.2])), ((ad 59), .inl (G.2.1, 40, .inl u_.1)), ((ad 60), .inl (G.2.1, 256, .inl u_.2.1)), ((ad 61), .inl (G.2.1, 256, .inl u_.2.2.1)), ((ad 1), .inr (7, [.int wide, .ref (ad 2), .ref (ad 3), .ref (ad 4), .ref (ad 6), .ref (ad 8), .ref (ad 10), .ref (ad 12)])), ((ad 4), .inr (4, [.int 7, .int 3, .ref (ad 5), .int (nI n)])), ((ad 5), .inl (G.2.1, 21, .inl pf)), ((ad 3), .inl (G.2.1, 7, .inl ck)), ((ad 2), .inl (G.2.1, 6, .inl wd))]) (w2 := fun (u_ : (Nat → Int32) × (Nat → Int32) × (Nat → Int32) × Int32 × Int32) => LW G ad k1 k2 ab be bds nos fls wide wd ck n pf sn sf nn nf mn mf u uf ywide ywd yck yn ypf ysn ysf ynn ynf ymn ymf yu yuf zwide zwd zck zn zpf zsn zsf znn znf zmn zmf zu zuf tk tn tok stt en tf dwide dwd dck dn dpf dsn dsf dnn dnf dmn dmf du duf f0 cr u_.2.2.2.1 u_.2.2.2.2 u_.1 u_.2.1 u_.2.2.1 ms mab mbe (nI tn) tA tL tK tV a kf jf rv sv hf ef tg b vf) C hW [0, 58, 59, 60, 61, 1, 4, 5, 3, 2] rfl (fun _ => rfl) (fun _ => rfl) (fun _ => lw_fst.trans lw_fst.symm) (g_runV (As := [.int (nI pl), .int (-2)]) (rest := []) (wc := [((ad 0), .inr (8, [.ref (ad 1), .ref (ad 14), .ref (ad 27), .int k1, .int k2, .ref (ad 40), .ref (ad 56), .ref (ad 58), .ref (ad 62), .int ab, .int be, .int bds, .int nos, .int fls])), ((ad 58), .inr (2, [.ref (ad 59), .ref (ad 60), .ref (ad 61), .int td0, .int fs0])), ((ad 59), .inl (G.2.1, 40, .inl car)), ((ad 60), .inl (G.2.1, 256, .inl rea)), ((ad 61), .inl (G.2.1, 256, .inl fin)), ((ad 1), .inr (7, [.int wide, .ref (ad 2), .ref (ad 3), .ref (ad 4), .ref (ad 6), .ref (ad 8), .ref (ad 10), .ref (ad 12)])), ((ad 4), .inr (4, [.int 7, .int 3, .ref (ad 5), .int (nI n)])), ((ad 5), .inl (G.2.1, 21, .inl pf)), ((ad 3), .inl (G.2.1, 7, .inl ck)), ((ad 2), .inl (G.2.1, 6, .inl wd))]) (q0 := 0) (ci := 8) C hW hl (c_X10_rally_many l G (ad 1) (ad 2) (ad 3) (ad 4) (ad 6) (ad 8) (ad 10) (ad 12) wide (ad 5) n pf ck wd (ad 0) (ad 14) (ad 27) (ad 40) (ad 56) (ad 58) (ad 62) k1 k2 ab be bds nos fls (ad 59) (ad 60) (ad 61) td0 fs0 car rea fin hr fh pl (by first | assumption | omega) (by assumption) (by first | assumption | omega) (by assumption) (by first | assumption | omega) (by assumption) (by assumption) (by assumption) (by exact hpl) (by rw [eF]; exact nI_n0 hv20) _) k_ml_L_77 q_X10_rally ⟨⟨rfl, rfl⟩, Nat.le_of_ble_eq_true rfl, Nat.le_of_ble_eq_true rfl⟩ [0, 58, 59, 60, 61, 1, 4, 5, 3, 2] (by decide) rfl rfl rfl rfl rfl (Nat.le_of_ble_eq_true rfl) dL_law_572 ⟨hcl.1, hcl.2⟩) (fun r_1 u_2 er_1 => ?_)
        clear hW H locs; intro H locs hW
        replace hW : Wd G A_ s_.heap (LW G ad k1 k2 ab be bds nos fls wide wd ck n pf sn sf nn nf mn mf u uf ywide ywd yck yn ypf ysn ysf ynn ynf ymn ymf yu yuf zwide zwd zck zn zpf zsn zsf znn znf zmn zmf zu zuf tk tn tok stt en tf dwide dwd dck dn dpf dsn dsf dnn dnf dmn dmf du duf f0 cr u_2.2.2.2.1 u_2.2.2.2.2 u_2.1 u_2.2.1 u_2.2.2.1 ms mab mbe (nI tn) tA tL tK tV a kf jf rv sv hf ef tg b vf) H locs := hW
        refine lv_as (y := fwF wide ck wd pf n hr fh pl car rea) er_1 ?_
        refine lv_aload_n hx hb dL_law_575 rfl (lv_at hl 2 rfl) ?_
        refine lv_aload_n hx hb dL_law_576 rfl (lv_at hl 0 rfl) ?_
        refine lv_iload_n hx hb dL_law_577 rfl (lv_at hl 3 rfl) ?_
        refine lv_iconst (v := 1) hx hb dL_law_578 (by decide) ?_
        refine lv_iadd hx hb dL_law_579 ?_
        refine lv_as (y := nI (i + 1)) (nI_add i 1) ?_
        refine va_sld hx hb hX hbl hbA hW.2.2 (vp_in_nI (n := i + 1) (by omega) (by omega)) dL_law_580 ?_
        refine lv_as (y := nI pl) (by rw [nI_clamp (by omega)]; exact epl) ?_
        refine lv_aload_n hx hb dL_law_581 rfl (lv_at hl 0 rfl) ?_
        refine lv_iload_n hx hb dL_law_582 rfl (lv_at hl 3 rfl) ?_
        refine lv_iconst (v := 2) hx hb dL_law_583 (by decide) ?_
        refine lv_iadd hx hb dL_law_584 ?_
        refine lv_as (y := nI (i + 2)) (nI_add i 2) ?_
        refine va_sld hx hb hX hbl hbA hW.2.2 (vp_in_nI (n := i + 2) (by omega) (by omega)) dL_law_585 ?_
        refine lv_as (y := (-2)) (by rw [nI_clamp (by omega)]; exact hk2) ?_
        refine g_fiS (ww := fun (u_ : Nat → Int32) => [((ad 64), .inr (9, [.ref (ad 65), .ref (ad 66), .ref (ad 67), .ref (ad 68), .long mab, .long mbe, .ref (ad 69), .ref (ad 70), .ref (ad 71), .ref (ad 72), .int (nI tn), .int tA, .int tL, .int tK, .int tV, .ref (ad 73), .ref (ad 74)])), ((ad 65), .inl (G.2.1, 159, .inl a)), ((ad 69), .inl (G.2.1, 5376, .inl u_))]) (w2 := fun (u_ : Nat → Int32) => LW G ad k1 k2 ab be bds nos fls wide wd ck n pf sn sf nn nf mn mf u uf ywide ywd yck yn ypf ysn ysf ynn ynf ymn ymf yu yuf zwide zwd zck zn zpf zsn zsf znn znf zmn zmf zu zuf tk tn tok stt en tf dwide dwd dck dn dpf dsn dsf dnn dnf dmn dmf du duf f0 cr u_2.2.2.2.1 u_2.2.2.2.2 u_2.1 u_2.2.1 u_2.2.2.1 ms mab mbe (nI tn) tA tL tK tV a kf jf rv u_ hf ef tg b vf) C hW [64, 65, 69] rfl (fun _ => rfl) (fun _ => rfl) (fun _ => lw_fst.trans lw_fst.symm) (g_runV (As := [.int (nI pl), .int (-2)]) (rest := [.int (fwF wide ck wd pf n hr fh pl car rea)]) (wc := [((ad 64), .inr (9, [.ref (ad 65), .ref (ad 66), .ref (ad 67), .ref (ad 68), .long mab, .long mbe, .ref (ad 69), .ref (ad 70), .ref (ad 71), .ref (ad 72), .int (nI tn), .int tA, .int tL, .int tK, .int tV, .ref (ad 73), .ref (ad 74)])), ((ad 65), .inl (G.2.1, 159, .inl a)), ((ad 69), .inl (G.2.1, 5376, .inl sv))]) (q0 := 0) (ci := 9) C hW hl (c_X11_rally_many l G (ad 64) (ad 65) (ad 66) (ad 67) (ad 68) (ad 69) (ad 70) (ad 71) (ad 72) (ad 73) (ad 74) mab mbe (nI tn) tA tL tK tV a sv n hr pl fh (2 ^ n) (by first | assumption | omega) (by first | assumption | omega) (by first | assumption | omega) (by first | assumption | omega) (by first | assumption | omega) (by first | assumption | omega) (by rfl) (by exact hpl) (by rw [eR]; exact nI_20 hv20) _) k_ml_L_80 q_X11_rally ⟨⟨rfl, rfl⟩, Nat.le_of_ble_eq_true rfl, Nat.le_of_ble_eq_true rfl⟩ [64, 65, 69] (by decide) rfl rfl rfl rfl rfl (Nat.le_of_ble_eq_true rfl) dL_law_586 ⟨hcl.1, hcl.2⟩) (fun r_3 u_4 er_3 => ?_)
        clear hW H locs; intro H locs hW
        replace hW : Wd G A_ s_.heap (LW G ad k1 k2 ab be bds nos fls wide wd ck n pf sn sf nn nf mn mf u uf ywide ywd yck yn ypf ysn ysf ynn ynf ymn ymf yu yuf zwide zwd zck zn zpf zsn zsf znn znf zmn zmf zu zuf tk tn tok stt en tf dwide dwd dck dn dpf dsn dsf dnn dnf dmn dmf du duf f0 cr u_2.2.2.2.1 u_2.2.2.2.2 u_2.1 u_2.2.1 u_2.2.2.1 ms mab mbe (nI tn) tA tL tK tV a kf jf rv u_4 hf ef tg b vf) H locs := hW
        refine lv_as (y := rlF a n hr pl fh) er_3 ?_
        refine lv_as (y := fwF wide ck wd pf n hr fh pl car rea) (by rw [eF, eR]) ?_
        refine lv_icmp_eq (tgt := 1149) hx hb dL_law_589 (by decide) (fun _ => ?_) (fun c9 => absurd rfl c9)
        exact K k1 k2 ab be bds nos fls wide wd ck n pf sn sf nn nf mn mf u uf ywide ywd yck yn ypf ysn ysf ynn ynf ymn ymf yu yuf zwide zwd zck zn zpf zsn zsf znn znf zmn zmf zu zuf tk tn tok stt en tf dwide dwd dck dn dpf dsn dsf dnn dnf dmn dmf du duf f0 cr u_2.2.2.2.1 u_2.2.2.2.2 u_2.1 u_2.2.1 u_2.2.2.1 ms mab mbe (nI tn) tA tL tK tV a kf jf rv u_4 hf ef tg b vf (⟨hV0.mono (by omega), hI1.mono (by omega), hI2.mono (by omega), ⟨htn, rfl, htt⟩, hPR, hCR⟩) _ _ _ hW hl
      · have hk0 := k_ge hc.2.1 hc.2.2 hk2
        by_cases hlt : (xs (i + 2)) < nI v9
        · obtain ⟨kq, hkq, ekq⟩ := k_ex hk0 hv20 hlt
          obtain ⟨hp0, hup, hM, hFw⟩ := h9 (by omega)
          have SK := sk_eq (co := cof wide ck wd pf n hr) (car0 := car) (rea := rea) (fin := fin) (a := a) (n := n) (hr := hr) (td := pl) (m := v9) hfl hn (Nat.lt_of_lt_of_le hpl (pw7 hn).2) hv20 (co_so hV0) hFw rfl rfl v9 (Nat.le_refl _)
          refine lv_aload_n hx hb dL_law_561 rfl (lv_at hl 1 rfl) ?_
          refine lv_aload_n hx hb dL_law_562 rfl (lv_at hl 0 rfl) ?_
          refine lv_iload_n hx hb dL_law_563 rfl (lv_at hl 3 rfl) ?_
          refine lv_iconst (v := 1) hx hb dL_law_564 (by decide) ?_
          refine lv_iadd hx hb dL_law_565 ?_
          refine lv_as (y := nI (i + 1)) (nI_add i 1) ?_
          refine va_sld hx hb hX hbl hbA hW.2.2 (vp_in_nI (n := i + 1) (by omega) (by omega)) dL_law_566 ?_
          refine lv_as (y := nI pl) (by rw [nI_clamp (by omega)]; exact epl) ?_
          refine lv_aload_n hx hb dL_law_567 rfl (lv_at hl 0 rfl) ?_
          refine lv_iload_n hx hb dL_law_568 rfl (lv_at hl 3 rfl) ?_
          refine lv_iconst (v := 2) hx hb dL_law_569 (by decide) ?_
          refine lv_iadd hx hb dL_law_570 ?_
          refine lv_as (y := nI (i + 2)) (nI_add i 2) ?_
          refine va_sld hx hb hX hbl hbA hW.2.2 (vp_in_nI (n := i + 2) (by omega) (by omega)) dL_law_571 ?_
          refine lv_as (y := nI kq) (by rw [nI_clamp (by omega)]; exact ekq) ?_
          refine g_fiS (ww := fun (u_ : (Nat → Int32) × (Nat → Int32) × (Nat → Int32) × Int32 × Int32) => [((ad 0), .inr (8, [.ref (ad 1), .ref (ad 14), .ref (ad 27), .int k1, .int k2, .ref (ad 40), .ref (ad 56), .ref (ad 58), .ref (ad 62), .int ab, .int be, .int bds, .int nos, .int fls])), ((ad 58), .inr (2, [.ref (ad 59), .ref (ad 60), .ref (ad 61), .int u_.2.2.2.1, .int u_.2.2.2.2])), ((ad 59), .inl (G.2.1, 40, .inl u_.1)), ((ad 60), .inl (G.2.1, 256, .inl u_.2.1)), ((ad 61), .inl (G.2.1, 256, .inl u_.2.2.1)), ((ad 1), .inr (7, [.int wide, .ref (ad 2), .ref (ad 3), .ref (ad 4), .ref (ad 6), .ref (ad 8), .ref (ad 10), .ref (ad 12)])), ((ad 4), .inr (4, [.int 7, .int 3, .ref (ad 5), .int (nI n)])), ((ad 5), .inl (G.2.1, 21, .inl pf)), ((ad 3), .inl (G.2.1, 7, .inl ck)), ((ad 2), .inl (G.2.1, 6, .inl wd))]) (w2 := fun (u_ : (Nat → Int32) × (Nat → Int32) × (Nat → Int32) × Int32 × Int32) => LW G ad k1 k2 ab be bds nos fls wide wd ck n pf sn sf nn nf mn mf u uf ywide ywd yck yn ypf ysn ysf ynn ynf ymn ymf yu yuf zwide zwd zck zn zpf zsn zsf znn znf zmn zmf zu zuf tk tn tok stt en tf dwide dwd dck dn dpf dsn dsf dnn dnf dmn dmf du duf f0 cr u_.2.2.2.1 u_.2.2.2.2 u_.1 u_.2.1 u_.2.2.1 ms mab mbe (nI tn) tA tL tK tV a kf jf rv sv hf ef tg b vf) C hW [0, 58, 59, 60, 61, 1, 4, 5, 3, 2] rfl (fun _ => rfl) (fun _ => rfl) (fun _ => lw_fst.trans lw_fst.symm) (g_runV (As := [.int (nI pl), .int (nI kq)]) (rest := []) (wc := [((ad 0), .inr (8, [.ref (ad 1), .ref (ad 14), .ref (ad 27), .int k1, .int k2, .ref (ad 40), .ref (ad 56), .ref (ad 58), .ref (ad 62), .int ab, .int be, .int bds, .int nos, .int fls])), ((ad 58), .inr (2, [.ref (ad 59), .ref (ad 60), .ref (ad 61), .int td0, .int fs0])), ((ad 59), .inl (G.2.1, 40, .inl car)), ((ad 60), .inl (G.2.1, 256, .inl rea)), ((ad 61), .inl (G.2.1, 256, .inl fin)), ((ad 1), .inr (7, [.int wide, .ref (ad 2), .ref (ad 3), .ref (ad 4), .ref (ad 6), .ref (ad 8), .ref (ad 10), .ref (ad 12)])), ((ad 4), .inr (4, [.int 7, .int 3, .ref (ad 5), .int (nI n)])), ((ad 5), .inl (G.2.1, 21, .inl pf)), ((ad 3), .inl (G.2.1, 7, .inl ck)), ((ad 2), .inl (G.2.1, 6, .inl wd))]) (q0 := 0) (ci := 8) C hW hl (c_X10_rally_w l G (ad 1) (ad 2) (ad 3) (ad 4) (ad 6) (ad 8) (ad 10) (ad 12) wide (ad 5) n pf ck wd (ad 0) (ad 14) (ad 27) (ad 40) (ad 56) (ad 58) (ad 62) k1 k2 ab be bds nos fls (ad 59) (ad 60) (ad 61) td0 fs0 car rea fin hr fh pl kq v9 (by exact hn) (by exact eh) (by exact hh) (by exact eh2) (by exact hfl) (by exact hP) (by exact hWd) (by exact hg) (by exact hpl) (by exact hup) (by exact hp0) (by exact eF) (by exact ⟨hkq, hv20⟩) (by unfold rwO; rw [hM]; exact fun t ht => (SK.2 t (by omega)).1) _) k_ml_L_77 q_X10_rally ⟨⟨rfl, rfl⟩, Nat.le_of_ble_eq_true rfl, Nat.le_of_ble_eq_true rfl⟩ [0, 58, 59, 60, 61, 1, 4, 5, 3, 2] (by decide) rfl rfl rfl rfl rfl (Nat.le_of_ble_eq_true rfl) dL_law_572 ⟨hcl.1, hcl.2⟩) (fun r_1 u_2 er_1 => ?_)
          clear hW H locs; intro H locs hW
          replace hW : Wd G A_ s_.heap (LW G ad k1 k2 ab be bds nos fls wide wd ck n pf sn sf nn nf mn mf u uf ywide ywd yck yn ypf ysn ysf ynn ynf ymn ymf yu yuf zwide zwd zck zn zpf zsn zsf znn znf zmn zmf zu zuf tk tn tok stt en tf dwide dwd dck dn dpf dsn dsf dnn dnf dmn dmf du duf f0 cr u_2.2.2.2.1 u_2.2.2.2.2 u_2.1 u_2.2.1 u_2.2.2.1 ms mab mbe (nI tn) tA tL tK tV a kf jf rv sv hf ef tg b vf) H locs := hW
          refine lv_as (y := (rwV wide ck wd pf n hr fh pl car rea fin v9 kq)) er_1 ?_
          refine lv_aload_n hx hb dL_law_575 rfl (lv_at hl 2 rfl) ?_
          refine lv_aload_n hx hb dL_law_576 rfl (lv_at hl 0 rfl) ?_
          refine lv_iload_n hx hb dL_law_577 rfl (lv_at hl 3 rfl) ?_
          refine lv_iconst (v := 1) hx hb dL_law_578 (by decide) ?_
          refine lv_iadd hx hb dL_law_579 ?_
          refine lv_as (y := nI (i + 1)) (nI_add i 1) ?_
          refine va_sld hx hb hX hbl hbA hW.2.2 (vp_in_nI (n := i + 1) (by omega) (by omega)) dL_law_580 ?_
          refine lv_as (y := nI pl) (by rw [nI_clamp (by omega)]; exact epl) ?_
          refine lv_aload_n hx hb dL_law_581 rfl (lv_at hl 0 rfl) ?_
          refine lv_iload_n hx hb dL_law_582 rfl (lv_at hl 3 rfl) ?_
          refine lv_iconst (v := 2) hx hb dL_law_583 (by decide) ?_
          refine lv_iadd hx hb dL_law_584 ?_
          refine lv_as (y := nI (i + 2)) (nI_add i 2) ?_
          refine va_sld hx hb hX hbl hbA hW.2.2 (vp_in_nI (n := i + 2) (by omega) (by omega)) dL_law_585 ?_
          refine lv_as (y := nI kq) (by rw [nI_clamp (by omega)]; exact ekq) ?_
          refine g_fiS (ww := fun (u_ : Nat → Int32) => [((ad 64), .inr (9, [.ref (ad 65), .ref (ad 66), .ref (ad 67), .ref (ad 68), .long mab, .long mbe, .ref (ad 69), .ref (ad 70), .ref (ad 71), .ref (ad 72), .int (nI tn), .int tA, .int tL, .int tK, .int tV, .ref (ad 73), .ref (ad 74)])), ((ad 65), .inl (G.2.1, 159, .inl a)), ((ad 69), .inl (G.2.1, 5376, .inl u_))]) (w2 := fun (u_ : Nat → Int32) => LW G ad k1 k2 ab be bds nos fls wide wd ck n pf sn sf nn nf mn mf u uf ywide ywd yck yn ypf ysn ysf ynn ynf ymn ymf yu yuf zwide zwd zck zn zpf zsn zsf znn znf zmn zmf zu zuf tk tn tok stt en tf dwide dwd dck dn dpf dsn dsf dnn dnf dmn dmf du duf f0 cr u_2.2.2.2.1 u_2.2.2.2.2 u_2.1 u_2.2.1 u_2.2.2.1 ms mab mbe (nI tn) tA tL tK tV a kf jf rv u_ hf ef tg b vf) C hW [64, 65, 69] rfl (fun _ => rfl) (fun _ => rfl) (fun _ => lw_fst.trans lw_fst.symm) (g_runV (As := [.int (nI pl), .int (nI kq)]) (rest := [.int (rwV wide ck wd pf n hr fh pl car rea fin v9 kq)]) (wc := [((ad 64), .inr (9, [.ref (ad 65), .ref (ad 66), .ref (ad 67), .ref (ad 68), .long mab, .long mbe, .ref (ad 69), .ref (ad 70), .ref (ad 71), .ref (ad 72), .int (nI tn), .int tA, .int tL, .int tK, .int tV, .ref (ad 73), .ref (ad 74)])), ((ad 65), .inl (G.2.1, 159, .inl a)), ((ad 69), .inl (G.2.1, 5376, .inl sv))]) (q0 := 0) (ci := 9) C hW hl (c_X11_rally_who l G (ad 64) (ad 65) (ad 66) (ad 67) (ad 68) (ad 69) (ad 70) (ad 71) (ad 72) (ad 73) (ad 74) mab mbe (nI tn) tA tL tK tV a sv n hr pl fh (2 ^ n) kq v9 (by exact e0) (by exact hn) (by exact e12) (by exact hh) (by exact e8) (by exact hfl) (by rfl) (by exact hpl) (by exact eR) (by exact ⟨hkq, hv20⟩) (by exact fun h hh => (SK.2 h (by omega)).2.2) _) k_ml_L_80 q_X11_rally ⟨⟨rfl, rfl⟩, Nat.le_of_ble_eq_true rfl, Nat.le_of_ble_eq_true rfl⟩ [64, 65, 69] (by decide) rfl rfl rfl rfl rfl (Nat.le_of_ble_eq_true rfl) dL_law_586 ⟨hcl.1, hcl.2⟩) (fun r_3 u_4 er_3 => ?_)
          clear hW H locs; intro H locs hW
          replace hW : Wd G A_ s_.heap (LW G ad k1 k2 ab be bds nos fls wide wd ck n pf sn sf nn nf mn mf u uf ywide ywd yck yn ypf ysn ysf ynn ynf ymn ymf yu yuf zwide zwd zck zn zpf zsn zsf znn znf zmn zmf zu zuf tk tn tok stt en tf dwide dwd dck dn dpf dsn dsf dnn dnf dmn dmf du duf f0 cr u_2.2.2.2.1 u_2.2.2.2.2 u_2.1 u_2.2.1 u_2.2.2.1 ms mab mbe (nI tn) tA tL tK tV a kf jf rv u_4 hf ef tg b vf) H locs := hW
          refine lv_as (y := (skR a n hr pl v9 fh (kq + 1)).2.2) er_3 ?_
          refine lv_as (y := (rwV wide ck wd pf n hr fh pl car rea fin v9 kq)) (by rw [rwV, hM, skV_s]; exact (SK.2 kq (by omega)).2.1.symm) ?_
          refine lv_icmp_eq (tgt := 1149) hx hb dL_law_589 (by decide) (fun _ => ?_) (fun c9 => absurd rfl c9)
          exact K k1 k2 ab be bds nos fls wide wd ck n pf sn sf nn nf mn mf u uf ywide ywd yck yn ypf ysn ysf ynn ynf ymn ymf yu yuf zwide zwd zck zn zpf zsn zsf znn znf zmn zmf zu zuf tk tn tok stt en tf dwide dwd dck dn dpf dsn dsf dnn dnf dmn dmf du duf f0 cr u_2.2.2.2.1 u_2.2.2.2.2 u_2.1 u_2.2.1 u_2.2.2.1 ms mab mbe (nI tn) tA tL tK tV a kf jf rv u_4 hf ef tg b vf (⟨hV0.mono (by omega), hI1.mono (by omega), hI2.mono (by omega), ⟨htn, rfl, htt⟩, hPR, hCR⟩) _ _ _ hW hl
        · refine lv_aload_n hx hb dL_law_561 rfl (lv_at hl 1 rfl) ?_
          refine lv_aload_n hx hb dL_law_562 rfl (lv_at hl 0 rfl) ?_
          refine lv_iload_n hx hb dL_law_563 rfl (lv_at hl 3 rfl) ?_
          refine lv_iconst (v := 1) hx hb dL_law_564 (by decide) ?_
          refine lv_iadd hx hb dL_law_565 ?_
          refine lv_as (y := nI (i + 1)) (nI_add i 1) ?_
          refine va_sld hx hb hX hbl hbA hW.2.2 (vp_in_nI (n := i + 1) (by omega) (by omega)) dL_law_566 ?_
          refine lv_as (y := nI pl) (by rw [nI_clamp (by omega)]; exact epl) ?_
          refine lv_aload_n hx hb dL_law_567 rfl (lv_at hl 0 rfl) ?_
          refine lv_iload_n hx hb dL_law_568 rfl (lv_at hl 3 rfl) ?_
          refine lv_iconst (v := 2) hx hb dL_law_569 (by decide) ?_
          refine lv_iadd hx hb dL_law_570 ?_
          refine lv_as (y := nI (i + 2)) (nI_add i 2) ?_
          refine va_sld hx hb hX hbl hbA hW.2.2 (vp_in_nI (n := i + 2) (by omega) (by omega)) dL_law_571 ?_
          refine lv_as (y := xs (i + 2)) (by rw [nI_clamp (by omega)]) ?_
          refine g_fiS (ww := fun (u_ : (Nat → Int32) × (Nat → Int32) × (Nat → Int32) × Int32 × Int32) => [((ad 0), .inr (8, [.ref (ad 1), .ref (ad 14), .ref (ad 27), .int k1, .int k2, .ref (ad 40), .ref (ad 56), .ref (ad 58), .ref (ad 62), .int ab, .int be, .int bds, .int nos, .int fls])), ((ad 58), .inr (2, [.ref (ad 59), .ref (ad 60), .ref (ad 61), .int u_.2.2.2.1, .int u_.2.2.2.2])), ((ad 59), .inl (G.2.1, 40, .inl u_.1)), ((ad 60), .inl (G.2.1, 256, .inl u_.2.1)), ((ad 61), .inl (G.2.1, 256, .inl u_.2.2.1)), ((ad 1), .inr (7, [.int wide, .ref (ad 2), .ref (ad 3), .ref (ad 4), .ref (ad 6), .ref (ad 8), .ref (ad 10), .ref (ad 12)])), ((ad 4), .inr (4, [.int 7, .int 3, .ref (ad 5), .int (nI n)])), ((ad 5), .inl (G.2.1, 21, .inl pf)), ((ad 3), .inl (G.2.1, 7, .inl ck)), ((ad 2), .inl (G.2.1, 6, .inl wd))]) (w2 := fun (u_ : (Nat → Int32) × (Nat → Int32) × (Nat → Int32) × Int32 × Int32) => LW G ad k1 k2 ab be bds nos fls wide wd ck n pf sn sf nn nf mn mf u uf ywide ywd yck yn ypf ysn ysf ynn ynf ymn ymf yu yuf zwide zwd zck zn zpf zsn zsf znn znf zmn zmf zu zuf tk tn tok stt en tf dwide dwd dck dn dpf dsn dsf dnn dnf dmn dmf du duf f0 cr u_.2.2.2.1 u_.2.2.2.2 u_.1 u_.2.1 u_.2.2.1 ms mab mbe (nI tn) tA tL tK tV a kf jf rv sv hf ef tg b vf) C hW [0, 58, 59, 60, 61, 1, 4, 5, 3, 2] rfl (fun _ => rfl) (fun _ => rfl) (fun _ => lw_fst.trans lw_fst.symm) (g_runV (As := [.int (nI pl), .int (xs (i + 2))]) (rest := []) (wc := [((ad 0), .inr (8, [.ref (ad 1), .ref (ad 14), .ref (ad 27), .int k1, .int k2, .ref (ad 40), .ref (ad 56), .ref (ad 58), .ref (ad 62), .int ab, .int be, .int bds, .int nos, .int fls])), ((ad 58), .inr (2, [.ref (ad 59), .ref (ad 60), .ref (ad 61), .int td0, .int fs0])), ((ad 59), .inl (G.2.1, 40, .inl car)), ((ad 60), .inl (G.2.1, 256, .inl rea)), ((ad 61), .inl (G.2.1, 256, .inl fin)), ((ad 1), .inr (7, [.int wide, .ref (ad 2), .ref (ad 3), .ref (ad 4), .ref (ad 6), .ref (ad 8), .ref (ad 10), .ref (ad 12)])), ((ad 4), .inr (4, [.int 7, .int 3, .ref (ad 5), .int (nI n)])), ((ad 5), .inl (G.2.1, 21, .inl pf)), ((ad 3), .inl (G.2.1, 7, .inl ck)), ((ad 2), .inl (G.2.1, 6, .inl wd))]) (q0 := 0) (ci := 8) C hW hl (c_X10_rally_less l G (ad 1) (ad 2) (ad 3) (ad 4) (ad 6) (ad 8) (ad 10) (ad 12) wide (ad 5) n pf ck wd (ad 0) (ad 14) (ad 27) (ad 40) (ad 56) (ad 58) (ad 62) k1 k2 ab be bds nos fls (ad 59) (ad 60) (ad 61) td0 fs0 car rea fin hr fh pl (xs (i + 2)) (by first | assumption | omega) (by assumption) (by first | assumption | omega) (by assumption) (by first | assumption | omega) (by assumption) (by assumption) (by assumption) (by exact hpl) (by exact hk0) (by rw [eF]; exact nI_n0 hv20) (by rw [eF]; exact hlt) _) k_ml_L_77 q_X10_rally ⟨⟨rfl, rfl⟩, Nat.le_of_ble_eq_true rfl, Nat.le_of_ble_eq_true rfl⟩ [0, 58, 59, 60, 61, 1, 4, 5, 3, 2] (by decide) rfl rfl rfl rfl rfl (Nat.le_of_ble_eq_true rfl) dL_law_572 ⟨hcl.1, hcl.2⟩) (fun r_1 u_2 er_1 => ?_)
          clear hW H locs; intro H locs hW
          replace hW : Wd G A_ s_.heap (LW G ad k1 k2 ab be bds nos fls wide wd ck n pf sn sf nn nf mn mf u uf ywide ywd yck yn ypf ysn ysf ynn ynf ymn ymf yu yuf zwide zwd zck zn zpf zsn zsf znn znf zmn zmf zu zuf tk tn tok stt en tf dwide dwd dck dn dpf dsn dsf dnn dnf dmn dmf du duf f0 cr u_2.2.2.2.1 u_2.2.2.2.2 u_2.1 u_2.2.1 u_2.2.2.1 ms mab mbe (nI tn) tA tL tK tV a kf jf rv sv hf ef tg b vf) H locs := hW
          refine lv_as (y := (-5)) er_1 ?_
          refine lv_aload_n hx hb dL_law_575 rfl (lv_at hl 2 rfl) ?_
          refine lv_aload_n hx hb dL_law_576 rfl (lv_at hl 0 rfl) ?_
          refine lv_iload_n hx hb dL_law_577 rfl (lv_at hl 3 rfl) ?_
          refine lv_iconst (v := 1) hx hb dL_law_578 (by decide) ?_
          refine lv_iadd hx hb dL_law_579 ?_
          refine lv_as (y := nI (i + 1)) (nI_add i 1) ?_
          refine va_sld hx hb hX hbl hbA hW.2.2 (vp_in_nI (n := i + 1) (by omega) (by omega)) dL_law_580 ?_
          refine lv_as (y := nI pl) (by rw [nI_clamp (by omega)]; exact epl) ?_
          refine lv_aload_n hx hb dL_law_581 rfl (lv_at hl 0 rfl) ?_
          refine lv_iload_n hx hb dL_law_582 rfl (lv_at hl 3 rfl) ?_
          refine lv_iconst (v := 2) hx hb dL_law_583 (by decide) ?_
          refine lv_iadd hx hb dL_law_584 ?_
          refine lv_as (y := nI (i + 2)) (nI_add i 2) ?_
          refine va_sld hx hb hX hbl hbA hW.2.2 (vp_in_nI (n := i + 2) (by omega) (by omega)) dL_law_585 ?_
          refine lv_as (y := xs (i + 2)) (by rw [nI_clamp (by omega)]) ?_
          refine g_fiS (ww := fun (u_ : Nat → Int32) => [((ad 64), .inr (9, [.ref (ad 65), .ref (ad 66), .ref (ad 67), .ref (ad 68), .long mab, .long mbe, .ref (ad 69), .ref (ad 70), .ref (ad 71), .ref (ad 72), .int (nI tn), .int tA, .int tL, .int tK, .int tV, .ref (ad 73), .ref (ad 74)])), ((ad 65), .inl (G.2.1, 159, .inl a)), ((ad 69), .inl (G.2.1, 5376, .inl u_))]) (w2 := fun (u_ : Nat → Int32) => LW G ad k1 k2 ab be bds nos fls wide wd ck n pf sn sf nn nf mn mf u uf ywide ywd yck yn ypf ysn ysf ynn ynf ymn ymf yu yuf zwide zwd zck zn zpf zsn zsf znn znf zmn zmf zu zuf tk tn tok stt en tf dwide dwd dck dn dpf dsn dsf dnn dnf dmn dmf du duf f0 cr u_2.2.2.2.1 u_2.2.2.2.2 u_2.1 u_2.2.1 u_2.2.2.1 ms mab mbe (nI tn) tA tL tK tV a kf jf rv u_ hf ef tg b vf) C hW [64, 65, 69] rfl (fun _ => rfl) (fun _ => rfl) (fun _ => lw_fst.trans lw_fst.symm) (g_runV (As := [.int (nI pl), .int (xs (i + 2))]) (rest := [.int (-5)]) (wc := [((ad 64), .inr (9, [.ref (ad 65), .ref (ad 66), .ref (ad 67), .ref (ad 68), .long mab, .long mbe, .ref (ad 69), .ref (ad 70), .ref (ad 71), .ref (ad 72), .int (nI tn), .int tA, .int tL, .int tK, .int tV, .ref (ad 73), .ref (ad 74)])), ((ad 65), .inl (G.2.1, 159, .inl a)), ((ad 69), .inl (G.2.1, 5376, .inl sv))]) (q0 := 0) (ci := 9) C hW hl (c_X11_rally_less l G (ad 64) (ad 65) (ad 66) (ad 67) (ad 68) (ad 69) (ad 70) (ad 71) (ad 72) (ad 73) (ad 74) mab mbe (nI tn) tA tL tK tV a sv n hr pl fh (2 ^ n) (xs (i + 2)) (by first | assumption | omega) (by first | assumption | omega) (by first | assumption | omega) (by first | assumption | omega) (by first | assumption | omega) (by first | assumption | omega) (by rfl) (by exact hpl) (by exact hk0) (by rw [eR]; exact nI_20 hv20) (by rw [eR]; exact hlt) _) k_ml_L_80 q_X11_rally ⟨⟨rfl, rfl⟩, Nat.le_of_ble_eq_true rfl, Nat.le_of_ble_eq_true rfl⟩ [64, 65, 69] (by decide) rfl rfl rfl rfl rfl (Nat.le_of_ble_eq_true rfl) dL_law_586 ⟨hcl.1, hcl.2⟩) (fun r_3 u_4 er_3 => ?_)
          clear hW H locs; intro H locs hW
          replace hW : Wd G A_ s_.heap (LW G ad k1 k2 ab be bds nos fls wide wd ck n pf sn sf nn nf mn mf u uf ywide ywd yck yn ypf ysn ysf ynn ynf ymn ymf yu yuf zwide zwd zck zn zpf zsn zsf znn znf zmn zmf zu zuf tk tn tok stt en tf dwide dwd dck dn dpf dsn dsf dnn dnf dmn dmf du duf f0 cr u_2.2.2.2.1 u_2.2.2.2.2 u_2.1 u_2.2.1 u_2.2.2.1 ms mab mbe (nI tn) tA tL tK tV a kf jf rv u_4 hf ef tg b vf) H locs := hW
          refine lv_as (y := (-5)) er_3 ?_
          refine lv_as (y := (-5)) (rfl) ?_
          refine lv_icmp_eq (tgt := 1149) hx hb dL_law_589 (by decide) (fun _ => ?_) (fun c9 => absurd rfl c9)
          exact K k1 k2 ab be bds nos fls wide wd ck n pf sn sf nn nf mn mf u uf ywide ywd yck yn ypf ysn ysf ynn ynf ymn ymf yu yuf zwide zwd zck zn zpf zsn zsf znn znf zmn zmf zu zuf tk tn tok stt en tf dwide dwd dck dn dpf dsn dsf dnn dnf dmn dmf du duf f0 cr u_2.2.2.2.1 u_2.2.2.2.2 u_2.1 u_2.2.1 u_2.2.2.1 ms mab mbe (nI tn) tA tL tK tV a kf jf rv u_4 hf ef tg b vf (⟨hV0.mono (by omega), hI1.mono (by omega), hI2.mono (by omega), ⟨htn, rfl, htt⟩, hPR, hCR⟩) _ _ _ hW hl
    · refine lv_aload_n hx hb dL_law_561 rfl (lv_at hl 1 rfl) ?_
      refine lv_aload_n hx hb dL_law_562 rfl (lv_at hl 0 rfl) ?_
      refine lv_iload_n hx hb dL_law_563 rfl (lv_at hl 3 rfl) ?_
      refine lv_iconst (v := 1) hx hb dL_law_564 (by decide) ?_
      refine lv_iadd hx hb dL_law_565 ?_
      refine lv_as (y := nI (i + 1)) (nI_add i 1) ?_
      refine va_sld hx hb hX hbl hbA hW.2.2 (vp_in_nI (n := i + 1) (by omega) (by omega)) dL_law_566 ?_
      refine lv_as (y := nI pl) (by rw [nI_clamp (by omega)]; exact epl) ?_
      refine lv_aload_n hx hb dL_law_567 rfl (lv_at hl 0 rfl) ?_
      refine lv_iload_n hx hb dL_law_568 rfl (lv_at hl 3 rfl) ?_
      refine lv_iconst (v := 2) hx hb dL_law_569 (by decide) ?_
      refine lv_iadd hx hb dL_law_570 ?_
      refine lv_as (y := nI (i + 2)) (nI_add i 2) ?_
      refine va_sld hx hb hX hbl hbA hW.2.2 (vp_in_nI (n := i + 2) (by omega) (by omega)) dL_law_571 ?_
      refine lv_as (y := xs (i + 2)) (by rw [nI_clamp (by omega)]) ?_
      refine g_fiS (ww := fun (u_ : (Nat → Int32) × (Nat → Int32) × (Nat → Int32) × Int32 × Int32) => [((ad 0), .inr (8, [.ref (ad 1), .ref (ad 14), .ref (ad 27), .int k1, .int k2, .ref (ad 40), .ref (ad 56), .ref (ad 58), .ref (ad 62), .int ab, .int be, .int bds, .int nos, .int fls])), ((ad 58), .inr (2, [.ref (ad 59), .ref (ad 60), .ref (ad 61), .int u_.2.2.2.1, .int u_.2.2.2.2])), ((ad 59), .inl (G.2.1, 40, .inl u_.1)), ((ad 60), .inl (G.2.1, 256, .inl u_.2.1)), ((ad 61), .inl (G.2.1, 256, .inl u_.2.2.1)), ((ad 1), .inr (7, [.int wide, .ref (ad 2), .ref (ad 3), .ref (ad 4), .ref (ad 6), .ref (ad 8), .ref (ad 10), .ref (ad 12)])), ((ad 4), .inr (4, [.int 7, .int 3, .ref (ad 5), .int (nI n)])), ((ad 5), .inl (G.2.1, 21, .inl pf)), ((ad 3), .inl (G.2.1, 7, .inl ck)), ((ad 2), .inl (G.2.1, 6, .inl wd))]) (w2 := fun (u_ : (Nat → Int32) × (Nat → Int32) × (Nat → Int32) × Int32 × Int32) => LW G ad k1 k2 ab be bds nos fls wide wd ck n pf sn sf nn nf mn mf u uf ywide ywd yck yn ypf ysn ysf ynn ynf ymn ymf yu yuf zwide zwd zck zn zpf zsn zsf znn znf zmn zmf zu zuf tk tn tok stt en tf dwide dwd dck dn dpf dsn dsf dnn dnf dmn dmf du duf f0 cr u_.2.2.2.1 u_.2.2.2.2 u_.1 u_.2.1 u_.2.2.1 ms mab mbe (nI tn) tA tL tK tV a kf jf rv sv hf ef tg b vf) C hW [0, 58, 59, 60, 61, 1, 4, 5, 3, 2] rfl (fun _ => rfl) (fun _ => rfl) (fun _ => lw_fst.trans lw_fst.symm) (g_runV (As := [.int (nI pl), .int (xs (i + 2))]) (rest := []) (wc := [((ad 0), .inr (8, [.ref (ad 1), .ref (ad 14), .ref (ad 27), .int k1, .int k2, .ref (ad 40), .ref (ad 56), .ref (ad 58), .ref (ad 62), .int ab, .int be, .int bds, .int nos, .int fls])), ((ad 58), .inr (2, [.ref (ad 59), .ref (ad 60), .ref (ad 61), .int td0, .int fs0])), ((ad 59), .inl (G.2.1, 40, .inl car)), ((ad 60), .inl (G.2.1, 256, .inl rea)), ((ad 61), .inl (G.2.1, 256, .inl fin)), ((ad 1), .inr (7, [.int wide, .ref (ad 2), .ref (ad 3), .ref (ad 4), .ref (ad 6), .ref (ad 8), .ref (ad 10), .ref (ad 12)])), ((ad 4), .inr (4, [.int 7, .int 3, .ref (ad 5), .int (nI n)])), ((ad 5), .inl (G.2.1, 21, .inl pf)), ((ad 3), .inl (G.2.1, 7, .inl ck)), ((ad 2), .inl (G.2.1, 6, .inl wd))]) (q0 := 0) (ci := 8) C hW hl (c_X10_rally_none l G (ad 1) (ad 2) (ad 3) (ad 4) (ad 6) (ad 8) (ad 10) (ad 12) wide (ad 5) n pf ck wd (ad 0) (ad 14) (ad 27) (ad 40) (ad 56) (ad 58) (ad 62) k1 k2 ab be bds nos fls (ad 59) (ad 60) (ad 61) td0 fs0 car rea fin hr fh pl (xs (i + 2)) (by first | assumption | omega) (by assumption) (by first | assumption | omega) (by assumption) (by first | assumption | omega) (by assumption) (by assumption) (by assumption) (by exact hpl) (by exact k_nlt hc.2.1) (by exact hc.2.2) (by rw [eF]; decide) _) k_ml_L_77 q_X10_rally ⟨⟨rfl, rfl⟩, Nat.le_of_ble_eq_true rfl, Nat.le_of_ble_eq_true rfl⟩ [0, 58, 59, 60, 61, 1, 4, 5, 3, 2] (by decide) rfl rfl rfl rfl rfl (Nat.le_of_ble_eq_true rfl) dL_law_572 ⟨hcl.1, hcl.2⟩) (fun r_1 u_2 er_1 => ?_)
      clear hW H locs; intro H locs hW
      replace hW : Wd G A_ s_.heap (LW G ad k1 k2 ab be bds nos fls wide wd ck n pf sn sf nn nf mn mf u uf ywide ywd yck yn ypf ysn ysf ynn ynf ymn ymf yu yuf zwide zwd zck zn zpf zsn zsf znn znf zmn zmf zu zuf tk tn tok stt en tf dwide dwd dck dn dpf dsn dsf dnn dnf dmn dmf du duf f0 cr u_2.2.2.2.1 u_2.2.2.2.2 u_2.1 u_2.2.1 u_2.2.2.1 ms mab mbe (nI tn) tA tL tK tV a kf jf rv sv hf ef tg b vf) H locs := hW
      refine lv_as (y := (-6)) er_1 ?_
      refine lv_aload_n hx hb dL_law_575 rfl (lv_at hl 2 rfl) ?_
      refine lv_aload_n hx hb dL_law_576 rfl (lv_at hl 0 rfl) ?_
      refine lv_iload_n hx hb dL_law_577 rfl (lv_at hl 3 rfl) ?_
      refine lv_iconst (v := 1) hx hb dL_law_578 (by decide) ?_
      refine lv_iadd hx hb dL_law_579 ?_
      refine lv_as (y := nI (i + 1)) (nI_add i 1) ?_
      refine va_sld hx hb hX hbl hbA hW.2.2 (vp_in_nI (n := i + 1) (by omega) (by omega)) dL_law_580 ?_
      refine lv_as (y := nI pl) (by rw [nI_clamp (by omega)]; exact epl) ?_
      refine lv_aload_n hx hb dL_law_581 rfl (lv_at hl 0 rfl) ?_
      refine lv_iload_n hx hb dL_law_582 rfl (lv_at hl 3 rfl) ?_
      refine lv_iconst (v := 2) hx hb dL_law_583 (by decide) ?_
      refine lv_iadd hx hb dL_law_584 ?_
      refine lv_as (y := nI (i + 2)) (nI_add i 2) ?_
      refine va_sld hx hb hX hbl hbA hW.2.2 (vp_in_nI (n := i + 2) (by omega) (by omega)) dL_law_585 ?_
      refine lv_as (y := xs (i + 2)) (by rw [nI_clamp (by omega)]) ?_
      refine g_fiS (ww := fun (u_ : Nat → Int32) => [((ad 64), .inr (9, [.ref (ad 65), .ref (ad 66), .ref (ad 67), .ref (ad 68), .long mab, .long mbe, .ref (ad 69), .ref (ad 70), .ref (ad 71), .ref (ad 72), .int (nI tn), .int tA, .int tL, .int tK, .int tV, .ref (ad 73), .ref (ad 74)])), ((ad 65), .inl (G.2.1, 159, .inl a)), ((ad 69), .inl (G.2.1, 5376, .inl u_))]) (w2 := fun (u_ : Nat → Int32) => LW G ad k1 k2 ab be bds nos fls wide wd ck n pf sn sf nn nf mn mf u uf ywide ywd yck yn ypf ysn ysf ynn ynf ymn ymf yu yuf zwide zwd zck zn zpf zsn zsf znn znf zmn zmf zu zuf tk tn tok stt en tf dwide dwd dck dn dpf dsn dsf dnn dnf dmn dmf du duf f0 cr u_2.2.2.2.1 u_2.2.2.2.2 u_2.1 u_2.2.1 u_2.2.2.1 ms mab mbe (nI tn) tA tL tK tV a kf jf rv u_ hf ef tg b vf) C hW [64, 65, 69] rfl (fun _ => rfl) (fun _ => rfl) (fun _ => lw_fst.trans lw_fst.symm) (g_runV (As := [.int (nI pl), .int (xs (i + 2))]) (rest := [.int (-6)]) (wc := [((ad 64), .inr (9, [.ref (ad 65), .ref (ad 66), .ref (ad 67), .ref (ad 68), .long mab, .long mbe, .ref (ad 69), .ref (ad 70), .ref (ad 71), .ref (ad 72), .int (nI tn), .int tA, .int tL, .int tK, .int tV, .ref (ad 73), .ref (ad 74)])), ((ad 65), .inl (G.2.1, 159, .inl a)), ((ad 69), .inl (G.2.1, 5376, .inl sv))]) (q0 := 0) (ci := 9) C hW hl (c_X11_rally_none l G (ad 64) (ad 65) (ad 66) (ad 67) (ad 68) (ad 69) (ad 70) (ad 71) (ad 72) (ad 73) (ad 74) mab mbe (nI tn) tA tL tK tV a sv n hr pl fh (2 ^ n) (xs (i + 2)) (by first | assumption | omega) (by first | assumption | omega) (by first | assumption | omega) (by first | assumption | omega) (by first | assumption | omega) (by first | assumption | omega) (by rfl) (by exact hpl) (by exact k_nlt hc.2.1) (by exact hc.2.2) (by rw [eR]; exact nI_lt (a := 20) (by omega) (by omega)) _) k_ml_L_80 q_X11_rally ⟨⟨rfl, rfl⟩, Nat.le_of_ble_eq_true rfl, Nat.le_of_ble_eq_true rfl⟩ [64, 65, 69] (by decide) rfl rfl rfl rfl rfl (Nat.le_of_ble_eq_true rfl) dL_law_586 ⟨hcl.1, hcl.2⟩) (fun r_3 u_4 er_3 => ?_)
      clear hW H locs; intro H locs hW
      replace hW : Wd G A_ s_.heap (LW G ad k1 k2 ab be bds nos fls wide wd ck n pf sn sf nn nf mn mf u uf ywide ywd yck yn ypf ysn ysf ynn ynf ymn ymf yu yuf zwide zwd zck zn zpf zsn zsf znn znf zmn zmf zu zuf tk tn tok stt en tf dwide dwd dck dn dpf dsn dsf dnn dnf dmn dmf du duf f0 cr u_2.2.2.2.1 u_2.2.2.2.2 u_2.1 u_2.2.1 u_2.2.2.1 ms mab mbe (nI tn) tA tL tK tV a kf jf rv u_4 hf ef tg b vf) H locs := hW
      refine lv_as (y := (-6)) er_3 ?_
      refine lv_as (y := (-6)) (rfl) ?_
      refine lv_icmp_eq (tgt := 1149) hx hb dL_law_589 (by decide) (fun _ => ?_) (fun c9 => absurd rfl c9)
      exact K k1 k2 ab be bds nos fls wide wd ck n pf sn sf nn nf mn mf u uf ywide ywd yck yn ypf ysn ysf ynn ynf ymn ymf yu yuf zwide zwd zck zn zpf zsn zsf znn znf zmn zmf zu zuf tk tn tok stt en tf dwide dwd dck dn dpf dsn dsf dnn dnf dmn dmf du duf f0 cr u_2.2.2.2.1 u_2.2.2.2.2 u_2.1 u_2.2.1 u_2.2.2.1 ms mab mbe (nI tn) tA tL tK tV a kf jf rv u_4 hf ef tg b vf (⟨hV0.mono (by omega), hI1.mono (by omega), hI2.mono (by omega), ⟨htn, rfl, htt⟩, hPR, hCR⟩) _ _ _ hW hl
