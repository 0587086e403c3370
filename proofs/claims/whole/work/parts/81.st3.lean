set_option maxHeartbeats 8000000 in
set_option maxRecDepth 100000 in
theorem st_now {p_ : Program} {l : Launch} {e_ : Env} {s_ : State} {m_ : MethodId} {ar_ : Array Value} {be_ : List Frame} {me_ : Method} {cd_ : Code} {cells slots : Nat} {Q : State → Prop} {G : gT} {A_ : Nat → Prop} {ad : Nat → Nat} {bS : Nat} {L i B : Nat} {xs : Nat → Int32} (hLA : LA p_ l e_ s_ m_ ar_ be_ me_ cd_ cells slots Q G A_ ad bS L xs) (hi : i + 4 < L) (hB : B ≤ 300) (K : KK p_ l e_ s_ m_ ar_ be_ me_ cd_ cells slots Q G A_ ad bS i (B + 1) 1149) : KK p_ l e_ s_ m_ ar_ be_ me_ cd_ cells slots Q G A_ ad bS i B 459 := by
  obtain ⟨C, hX, hbl, hbA, hL, hcl⟩ := hLA
  intro k1 k2 ab be bds nos fls wide wd ck n pf sn sf nn nf mn mf u uf ywide ywd yck yn ypf ysn ysf ynn ynf ymn ymf yu yuf zwide zwd zck zn zpf zsn zsf znn znf zmn zmf zu zuf tk tn tok stt en tf dwide dwd dck dn dpf dsn dsf dnn dnf dmn dmf du duf f0 cr td0 fs0 car rea fin ms mab mbe bL tA tL tK tV a kf jf rv sv hf ef tg b vf hR H locs ls hW hl
  have hx := C.1; have hb := C.2.1; have hown := C.2.2.2.1; have ht := C.2.2.2.2.1
  obtain ⟨hV, hI1, hI2, hT, hPR, hCR⟩ := hR
  have hV0 := hV
  obtain ⟨⟨hn, hs, ho, hm, hu⟩, ⟨hWd, hP, hH, hS, hO⟩, ⟨hck, hpa⟩, ⟨e0, e1, e2, e3, e4, e5⟩, ⟨ea, ew, ep⟩, ⟨es, eno, em, eu⟩⟩ := hV
  have hck0 := hck
  obtain ⟨⟨hr, eh, hh⟩, ⟨fh, eh2, hfl⟩, hup01, hg, ⟨k4, ek4, hk4⟩, ⟨d5, ed5, hd5⟩⟩ := hck
  have e8 : a 8 = nI fh := (ea 2 (by decide)).trans eh2
  have e12 : a 12 = nI hr := (ea 6 (by decide)).trans eh
  have e9 : a 9 = ck 3 := ea 3 (by decide)
  have e7 : a 7 = ck 1 := ea 1 (by decide)
  have e6 : a 6 = ck 0 := ea 0 (by decide)
  obtain ⟨htn, hbL, htt⟩ := hT
  subst hbL
  cases hc : iw (xs (i + 1)) 0 6 with
  | false =>
    refine lv_aload_n hx hb dL_law_459 rfl (lv_at hl 1 rfl) ?_
    refine lv_aload_n hx hb dL_law_460 rfl (lv_at hl 0 rfl) ?_
    refine lv_iload_n hx hb dL_law_461 rfl (lv_at hl 3 rfl) ?_
    refine lv_iconst (v := 1) hx hb dL_law_462 (by decide) ?_
    refine lv_iadd hx hb dL_law_463 ?_
    refine lv_as (y := nI (i + 1)) (nI_add i 1) ?_
    refine va_sld hx hb hX hbl hbA hW.2.2 (vp_in_nI (n := i + 1) (by omega) (by omega)) dL_law_464 ?_
    refine lv_as (y := xs (i + 1)) (by rw [nI_clamp (by omega)]) ?_
    refine g_fiS (ww := fun (u_ : Unit) => [((ad 0), .inr (8, [.ref (ad 1), .ref (ad 14), .ref (ad 27), .int k1, .int k2, .ref (ad 40), .ref (ad 56), .ref (ad 58), .ref (ad 62), .int ab, .int be, .int (bds + 1), .int nos, .int fls]))]) (w2 := fun (u_ : Unit) => LW G ad k1 k2 ab be (bds + 1) nos fls wide wd ck n pf sn sf nn nf mn mf u uf ywide ywd yck yn ypf ysn ysf ynn ynf ymn ymf yu yuf zwide zwd zck zn zpf zsn zsf znn znf zmn zmf zu zuf tk tn tok stt en tf dwide dwd dck dn dpf dsn dsf dnn dnf dmn dmf du duf f0 cr td0 fs0 car rea fin ms mab mbe (nI tn) tA tL tK tV a kf jf rv sv hf ef tg b vf) C hW [0] rfl (fun _ => rfl) (fun _ => rfl) (fun _ => lw_fst.trans lw_fst.symm) (g_runV (As := [.int (xs (i + 1))]) (rest := []) (wc := [((ad 0), .inr (8, [.ref (ad 1), .ref (ad 14), .ref (ad 27), .int k1, .int k2, .ref (ad 40), .ref (ad 56), .ref (ad 58), .ref (ad 62), .int ab, .int be, .int bds, .int nos, .int fls]))]) (q0 := 0) (ci := 8) C hW hl (c_X10_now_bad l G (ad 1) (ad 0) (ad 14) (ad 27) (ad 40) (ad 56) (ad 58) (ad 62) k1 k2 ab be bds nos fls (xs (i + 1)) (by exact iw_56 hc) (by intro q; rw [q] at hc; exact absurd hc (by decide)) _) k_ml_L_61 q_X10_now ⟨⟨rfl, rfl⟩, Nat.le_of_ble_eq_true rfl, Nat.le_of_ble_eq_true rfl⟩ [0] (by decide) rfl rfl rfl rfl rfl (Nat.le_of_ble_eq_true rfl) dL_law_465 ⟨hcl.1, hcl.2⟩) (fun r_1 _ er_1 => ?_)
    clear hW H locs; intro H locs hW
    replace hW : Wd G A_ s_.heap (LW G ad k1 k2 ab be (bds + 1) nos fls wide wd ck n pf sn sf nn nf mn mf u uf ywide ywd yck yn ypf ysn ysf ynn ynf ymn ymf yu yuf zwide zwd zck zn zpf zsn zsf znn znf zmn zmf zu zuf tk tn tok stt en tf dwide dwd dck dn dpf dsn dsf dnn dnf dmn dmf du duf f0 cr td0 fs0 car rea fin ms mab mbe (nI tn) tA tL tK tV a kf jf rv sv hf ef tg b vf) H locs := hW
    refine lv_as (y := (-10)) er_1 ?_
    refine lv_aload_n hx hb dL_law_468 rfl (lv_at hl 2 rfl) ?_
    refine lv_aload_n hx hb dL_law_469 rfl (lv_at hl 0 rfl) ?_
    refine lv_iload_n hx hb dL_law_470 rfl (lv_at hl 3 rfl) ?_
    refine lv_iconst (v := 1) hx hb dL_law_471 (by decide) ?_
    refine lv_iadd hx hb dL_law_472 ?_
    refine lv_as (y := nI (i + 1)) (nI_add i 1) ?_
    refine va_sld hx hb hX hbl hbA hW.2.2 (vp_in_nI (n := i + 1) (by omega) (by omega)) dL_law_473 ?_
    refine lv_as (y := xs (i + 1)) (by rw [nI_clamp (by omega)]) ?_
    refine g_fiS (ww := fun (u_ : Unit) => [((ad 64), .inr (9, [.ref (ad 65), .ref (ad 66), .ref (ad 67), .ref (ad 68), .long mab, .long mbe, .ref (ad 69), .ref (ad 70), .ref (ad 71), .ref (ad 72), .int (nI tn), .int tA, .int tL, .int tK, .int tV, .ref (ad 73), .ref (ad 74)])), ((ad 68), .inl (G.2.1, 3, .inl (upd rv 0 (rv 0 + 1))))]) (w2 := fun (u_ : Unit) => LW G ad k1 k2 ab be (bds + 1) nos fls wide wd ck n pf sn sf nn nf mn mf u uf ywide ywd yck yn ypf ysn ysf ynn ynf ymn ymf yu yuf zwide zwd zck zn zpf zsn zsf znn znf zmn zmf zu zuf tk tn tok stt en tf dwide dwd dck dn dpf dsn dsf dnn dnf dmn dmf du duf f0 cr td0 fs0 car rea fin ms mab mbe (nI tn) tA tL tK tV a kf jf (upd rv 0 (rv 0 + 1)) sv hf ef tg b vf) C hW [64, 68] rfl (fun _ => rfl) (fun _ => rfl) (fun _ => lw_fst.trans lw_fst.symm) (g_runV (As := [.int (xs (i + 1))]) (rest := [.int (-10)]) (wc := [((ad 64), .inr (9, [.ref (ad 65), .ref (ad 66), .ref (ad 67), .ref (ad 68), .long mab, .long mbe, .ref (ad 69), .ref (ad 70), .ref (ad 71), .ref (ad 72), .int (nI tn), .int tA, .int tL, .int tK, .int tV, .ref (ad 73), .ref (ad 74)])), ((ad 68), .inl (G.2.1, 3, .inl rv))]) (q0 := 0) (ci := 9) C hW hl (c_X11_now_bad l G (ad 64) (ad 65) (ad 66) (ad 67) (ad 68) (ad 69) (ad 70) (ad 71) (ad 72) (ad 73) (ad 74) mab mbe (nI tn) tA tL tK tV rv (xs (i + 1)) (by exact hc) _) k_ml_L_64 q_X11_now ⟨⟨rfl, rfl⟩, Nat.le_of_ble_eq_true rfl, Nat.le_of_ble_eq_true rfl⟩ [64, 68] (by decide) rfl rfl rfl rfl rfl (Nat.le_of_ble_eq_true rfl) dL_law_474 ⟨hcl.1, hcl.2⟩) (fun r_3 _ er_3 => ?_)
    clear hW H locs; intro H locs hW
    replace hW : Wd G A_ s_.heap (LW G ad k1 k2 ab be (bds + 1) nos fls wide wd ck n pf sn sf nn nf mn mf u uf ywide ywd yck yn ypf ysn ysf ynn ynf ymn ymf yu yuf zwide zwd zck zn zpf zsn zsf znn znf zmn zmf zu zuf tk tn tok stt en tf dwide dwd dck dn dpf dsn dsf dnn dnf dmn dmf du duf f0 cr td0 fs0 car rea fin ms mab mbe (nI tn) tA tL tK tV a kf jf (upd rv 0 (rv 0 + 1)) sv hf ef tg b vf) H locs := hW
    refine lv_as (y := (-10)) er_3 ?_
    refine lv_as (y := (-10)) (rfl) ?_
    refine lv_icmp_eq (tgt := 1149) hx hb dL_law_477 (by decide) (fun _ => ?_) (fun c9 => absurd rfl c9)
    exact K k1 k2 ab be (bds + 1) nos fls wide wd ck n pf sn sf nn nf mn mf u uf ywide ywd yck yn ypf ysn ysf ynn ynf ymn ymf yu yuf zwide zwd zck zn zpf zsn zsf znn znf zmn zmf zu zuf tk tn tok stt en tf dwide dwd dck dn dpf dsn dsf dnn dnf dmn dmf du duf f0 cr td0 fs0 car rea fin ms mab mbe (nI tn) tA tL tK tV a kf jf (upd rv 0 (rv 0 + 1)) sv hf ef tg b vf (⟨hV0.mono (by omega), hI1.mono (by omega), hI2.mono (by omega), ⟨htn, rfl, htt⟩, hPR, CR_bad hCR⟩) _ _ _ hW hl
  | true =>
    obtain ⟨j9, hj9, ej9⟩ := iw_ex (m := 6) hc (by decide)
    by_cases hj6 : j9 = 6
    · subst hj6
      refine lv_aload_n hx hb dL_law_459 rfl (lv_at hl 1 rfl) ?_
      refine lv_aload_n hx hb dL_law_460 rfl (lv_at hl 0 rfl) ?_
      refine lv_iload_n hx hb dL_law_461 rfl (lv_at hl 3 rfl) ?_
      refine lv_iconst (v := 1) hx hb dL_law_462 (by decide) ?_
      refine lv_iadd hx hb dL_law_463 ?_
      refine lv_as (y := nI (i + 1)) (nI_add i 1) ?_
      refine va_sld hx hb hX hbl hbA hW.2.2 (vp_in_nI (n := i + 1) (by omega) (by omega)) dL_law_464 ?_
      refine lv_as (y := 6) (by rw [nI_clamp (by omega)]; exact ej9) ?_
      refine g_fi C hW [0, 1, 3, 2] rfl (g_runV (As := [.int 6]) (rest := []) (wc := [((ad 0), .inr (8, [.ref (ad 1), .ref (ad 14), .ref (ad 27), .int k1, .int k2, .ref (ad 40), .ref (ad 56), .ref (ad 58), .ref (ad 62), .int ab, .int be, .int bds, .int nos, .int fls])), ((ad 1), .inr (7, [.int wide, .ref (ad 2), .ref (ad 3), .ref (ad 4), .ref (ad 6), .ref (ad 8), .ref (ad 10), .ref (ad 12)])), ((ad 3), .inl (G.2.1, 7, .inl ck)), ((ad 2), .inl (G.2.1, 6, .inl wd))]) (q0 := 0) (ci := 8) C hW hl (c_X10_now_6 l G (ad 1) (ad 2) (ad 3) (ad 4) (ad 6) (ad 8) (ad 10) (ad 12) wide (ad 0) (ad 14) (ad 27) (ad 40) (ad 56) (ad 58) (ad 62) k1 k2 ab be bds nos fls ck wd hr (by assumption) (by omega) _) k_ml_L_61 q_X10_now ⟨⟨rfl, rfl⟩, Nat.le_of_ble_eq_true rfl, Nat.le_of_ble_eq_true rfl⟩ [0, 1, 3, 2] (by decide) rfl rfl rfl rfl rfl (Nat.le_of_ble_eq_true rfl) dL_law_465 ⟨hcl.1, hcl.2⟩) (fun r_1 er_1 => ?_)
      clear hW H locs; intro H locs hW
      refine lv_as (y := hp (ck 2) (wd (hr % 6))) er_1 ?_
      refine lv_aload_n hx hb dL_law_468 rfl (lv_at hl 2 rfl) ?_
      refine lv_aload_n hx hb dL_law_469 rfl (lv_at hl 0 rfl) ?_
      refine lv_iload_n hx hb dL_law_470 rfl (lv_at hl 3 rfl) ?_
      refine lv_iconst (v := 1) hx hb dL_law_471 (by decide) ?_
      refine lv_iadd hx hb dL_law_472 ?_
      refine lv_as (y := nI (i + 1)) (nI_add i 1) ?_
      refine va_sld hx hb hX hbl hbA hW.2.2 (vp_in_nI (n := i + 1) (by omega) (by omega)) dL_law_473 ?_
      refine lv_as (y := 6) (by rw [nI_clamp (by omega)]; exact ej9) ?_
      refine g_fi C hW [64, 65] rfl (g_runV (As := [.int 6]) (rest := [.int (hp (ck 2) (wd (hr % 6)))]) (wc := [((ad 64), .inr (9, [.ref (ad 65), .ref (ad 66), .ref (ad 67), .ref (ad 68), .long mab, .long mbe, .ref (ad 69), .ref (ad 70), .ref (ad 71), .ref (ad 72), .int (nI tn), .int tA, .int tL, .int tK, .int tV, .ref (ad 73), .ref (ad 74)])), ((ad 65), .inl (G.2.1, 159, .inl a))]) (q0 := 0) (ci := 9) C hW hl (c_X11_now_6 l G (ad 64) (ad 65) (ad 66) (ad 67) (ad 68) (ad 69) (ad 70) (ad 71) (ad 72) (ad 73) (ad 74) mab mbe (nI tn) tA tL tK tV a hr (by first | assumption | omega) (by first | assumption | omega) _) k_ml_L_64 q_X11_now ⟨⟨rfl, rfl⟩, Nat.le_of_ble_eq_true rfl, Nat.le_of_ble_eq_true rfl⟩ [64, 65] (by decide) rfl rfl rfl rfl rfl (Nat.le_of_ble_eq_true rfl) dL_law_474 ⟨hcl.1, hcl.2⟩) (fun r_2 er_2 => ?_)
      clear hW H locs; intro H locs hW
      refine lv_as (y := hp (a 8) (a (13 + hr % 6))) er_2 ?_
      refine lv_as (y := hp (ck 2) (wd (hr % 6))) (by rw [show a 8 = ck 2 from ea 2 (by decide), ew _ (Nat.mod_lt _ (by decide))]) ?_
      refine lv_icmp_eq (tgt := 1149) hx hb dL_law_477 (by decide) (fun _ => ?_) (fun c9 => absurd rfl c9)
      exact K k1 k2 ab be bds nos fls wide wd ck n pf sn sf nn nf mn mf u uf ywide ywd yck yn ypf ysn ysf ynn ynf ymn ymf yu yuf zwide zwd zck zn zpf zsn zsf znn znf zmn zmf zu zuf tk tn tok stt en tf dwide dwd dck dn dpf dsn dsf dnn dnf dmn dmf du duf f0 cr td0 fs0 car rea fin ms mab mbe (nI tn) tA tL tK tV a kf jf rv sv hf ef tg b vf (⟨hV0.mono (by omega), hI1.mono (by omega), hI2.mono (by omega), ⟨htn, rfl, htt⟩, hPR, hCR⟩) _ _ _ hW hl
    · refine lv_aload_n hx hb dL_law_459 rfl (lv_at hl 1 rfl) ?_
      refine lv_aload_n hx hb dL_law_460 rfl (lv_at hl 0 rfl) ?_
      refine lv_iload_n hx hb dL_law_461 rfl (lv_at hl 3 rfl) ?_
      refine lv_iconst (v := 1) hx hb dL_law_462 (by decide) ?_
      refine lv_iadd hx hb dL_law_463 ?_
      refine lv_as (y := nI (i + 1)) (nI_add i 1) ?_
      refine va_sld hx hb hX hbl hbA hW.2.2 (vp_in_nI (n := i + 1) (by omega) (by omega)) dL_law_464 ?_
      refine lv_as (y := nI j9) (by rw [nI_clamp (by omega)]; exact ej9) ?_
      refine g_fi C hW [0, 1, 3] rfl (g_runV (As := [.int (nI j9)]) (rest := []) (wc := [((ad 0), .inr (8, [.ref (ad 1), .ref (ad 14), .ref (ad 27), .int k1, .int k2, .ref (ad 40), .ref (ad 56), .ref (ad 58), .ref (ad 62), .int ab, .int be, .int bds, .int nos, .int fls])), ((ad 1), .inr (7, [.int wide, .ref (ad 2), .ref (ad 3), .ref (ad 4), .ref (ad 6), .ref (ad 8), .ref (ad 10), .ref (ad 12)])), ((ad 3), .inl (G.2.1, 7, .inl ck))]) (q0 := 0) (ci := 8) C hW hl (c_X10_now_ok l G (ad 1) (ad 2) (ad 3) (ad 4) (ad 6) (ad 8) (ad 10) (ad 12) wide (ad 0) (ad 14) (ad 27) (ad 40) (ad 56) (ad 58) (ad 62) k1 k2 ab be bds nos fls ck (nI j9) (by exact iw_nI (m := 5) (by omega) (by omega)) (by intro q; exact absurd ((nI_eq (a := j9) (b := 6) (by omega) (by omega)).mp q) (by omega)) _) k_ml_L_61 q_X10_now ⟨⟨rfl, rfl⟩, Nat.le_of_ble_eq_true rfl, Nat.le_of_ble_eq_true rfl⟩ [0, 1, 3] (by decide) rfl rfl rfl rfl rfl (Nat.le_of_ble_eq_true rfl) dL_law_465 ⟨hcl.1, hcl.2⟩) (fun r_1 er_1 => ?_)
      clear hW H locs; intro H locs hW
      refine lv_as (y := ck (nI j9).toNatClampNeg) er_1 ?_
      refine lv_aload_n hx hb dL_law_468 rfl (lv_at hl 2 rfl) ?_
      refine lv_aload_n hx hb dL_law_469 rfl (lv_at hl 0 rfl) ?_
      refine lv_iload_n hx hb dL_law_470 rfl (lv_at hl 3 rfl) ?_
      refine lv_iconst (v := 1) hx hb dL_law_471 (by decide) ?_
      refine lv_iadd hx hb dL_law_472 ?_
      refine lv_as (y := nI (i + 1)) (nI_add i 1) ?_
      refine va_sld hx hb hX hbl hbA hW.2.2 (vp_in_nI (n := i + 1) (by omega) (by omega)) dL_law_473 ?_
      refine lv_as (y := nI j9) (by rw [nI_clamp (by omega)]; exact ej9) ?_
      refine g_fi C hW [64, 65] rfl (g_runV (As := [.int (nI j9)]) (rest := [.int (ck (nI j9).toNatClampNeg)]) (wc := [((ad 64), .inr (9, [.ref (ad 65), .ref (ad 66), .ref (ad 67), .ref (ad 68), .long mab, .long mbe, .ref (ad 69), .ref (ad 70), .ref (ad 71), .ref (ad 72), .int (nI tn), .int tA, .int tL, .int tK, .int tV, .ref (ad 73), .ref (ad 74)])), ((ad 65), .inl (G.2.1, 159, .inl a))]) (q0 := 0) (ci := 9) C hW hl (c_X11_now_ok l G (ad 64) (ad 65) (ad 66) (ad 67) (ad 68) (ad 69) (ad 70) (ad 71) (ad 72) (ad 73) (ad 74) mab mbe (nI tn) tA tL tK tV a j9 (by omega) _) k_ml_L_64 q_X11_now ⟨⟨rfl, rfl⟩, Nat.le_of_ble_eq_true rfl, Nat.le_of_ble_eq_true rfl⟩ [64, 65] (by decide) rfl rfl rfl rfl rfl (Nat.le_of_ble_eq_true rfl) dL_law_474 ⟨hcl.1, hcl.2⟩) (fun r_2 er_2 => ?_)
      clear hW H locs; intro H locs hW
      refine lv_as (y := a (6 + j9)) er_2 ?_
      refine lv_as (y := ck (nI j9).toNatClampNeg) (by rw [ea j9 (by omega), nI_clamp (by omega)]) ?_
      refine lv_icmp_eq (tgt := 1149) hx hb dL_law_477 (by decide) (fun _ => ?_) (fun c9 => absurd rfl c9)
      exact K k1 k2 ab be bds nos fls wide wd ck n pf sn sf nn nf mn mf u uf ywide ywd yck yn ypf ysn ysf ynn ynf ymn ymf yu yuf zwide zwd zck zn zpf zsn zsf znn znf zmn zmf zu zuf tk tn tok stt en tf dwide dwd dck dn dpf dsn dsf dnn dnf dmn dmf du duf f0 cr td0 fs0 car rea fin ms mab mbe (nI tn) tA tL tK tV a kf jf rv sv hf ef tg b vf (⟨hV0.mono (by omega), hI1.mono (by omega), hI2.mono (by omega), ⟨htn, rfl, htt⟩, hPR, hCR⟩) _ _ _ hW hl
set_option maxHeartbeats 8000000 in
set_option maxRecDepth 100000 in
theorem st_of {p_ : Program} {l : Launch} {e_ : Env} {s_ : State} {m_ : MethodId} {ar_ : Array Value} {be_ : List Frame} {me_ : Method} {cd_ : Code} {cells slots : Nat} {Q : State → Prop} {G : gT} {A_ : Nat → Prop} {ad : Nat → Nat} {bS : Nat} {L i B : Nat} {xs : Nat → Int32} (hLA : LA p_ l e_ s_ m_ ar_ be_ me_ cd_ cells slots Q G A_ ad bS L xs) (hi : i + 4 < L) (hB : B ≤ 300) (K : KK p_ l e_ s_ m_ ar_ be_ me_ cd_ cells slots Q G A_ ad bS i (B + 1) 1149) : KK p_ l e_ s_ m_ ar_ be_ me_ cd_ cells slots Q G A_ ad bS i B 482 := by
  obtain ⟨C, hX, hbl, hbA, hL, hcl⟩ := hLA
  intro k1 k2 ab be bds nos fls wide wd ck n pf sn sf nn nf mn mf u uf ywide ywd yck yn ypf ysn ysf ynn ynf ymn ymf yu yuf zwide zwd zck zn zpf zsn zsf znn znf zmn zmf zu zuf tk tn tok stt en tf dwide dwd dck dn dpf dsn dsf dnn dnf dmn dmf du duf f0 cr td0 fs0 car rea fin ms mab mbe bL tA tL tK tV a kf jf rv sv hf ef tg b vf hR H locs ls hW hl
  have hx := C.1; have hb := C.2.1; have hown := C.2.2.2.1; have ht := C.2.2.2.2.1
  obtain ⟨hV, hI1, hI2, hT, hPR, hCR⟩ := hR
  have hV0 := hV
  obtain ⟨⟨hn, hs, ho, hm, hu⟩, ⟨hWd, hP, hH, hS, hO⟩, ⟨hck, hpa⟩, ⟨e0, e1, e2, e3, e4, e5⟩, ⟨ea, ew, ep⟩, ⟨es, eno, em, eu⟩⟩ := hV
  have hck0 := hck
  obtain ⟨⟨hr, eh, hh⟩, ⟨fh, eh2, hfl⟩, hup01, hg, ⟨k4, ek4, hk4⟩, ⟨d5, ed5, hd5⟩⟩ := hck
  have e8 : a 8 = nI fh := (ea 2 (by decide)).trans eh2
  have e12 : a 12 = nI hr := (ea 6 (by decide)).trans eh
  have e9 : a 9 = ck 3 := ea 3 (by decide)
  have e7 : a 7 = ck 1 := ea 1 (by decide)
  have e6 : a 6 = ck 0 := ea 0 (by decide)
  obtain ⟨htn, hbL, htt⟩ := hT
  subst hbL
  cases hc : (okp n (xs (i + 1)) && iw (xs (i + 2)) 0 3) with
  | false =>
    refine lv_aload_n hx hb dL_law_482 rfl (lv_at hl 1 rfl) ?_
    refine lv_aload_n hx hb dL_law_483 rfl (lv_at hl 0 rfl) ?_
    refine lv_iload_n hx hb dL_law_484 rfl (lv_at hl 3 rfl) ?_
    refine lv_iconst (v := 1) hx hb dL_law_485 (by decide) ?_
    refine lv_iadd hx hb dL_law_486 ?_
    refine lv_as (y := nI (i + 1)) (nI_add i 1) ?_
    refine va_sld hx hb hX hbl hbA hW.2.2 (vp_in_nI (n := i + 1) (by omega) (by omega)) dL_law_487 ?_
    refine lv_as (y := xs (i + 1)) (by rw [nI_clamp (by omega)]) ?_
    refine lv_aload_n hx hb dL_law_488 rfl (lv_at hl 0 rfl) ?_
    refine lv_iload_n hx hb dL_law_489 rfl (lv_at hl 3 rfl) ?_
    refine lv_iconst (v := 2) hx hb dL_law_490 (by decide) ?_
    refine lv_iadd hx hb dL_law_491 ?_
    refine lv_as (y := nI (i + 2)) (nI_add i 2) ?_
    refine va_sld hx hb hX hbl hbA hW.2.2 (vp_in_nI (n := i + 2) (by omega) (by omega)) dL_law_492 ?_
    refine lv_as (y := xs (i + 2)) (by rw [nI_clamp (by omega)]) ?_
    refine g_fiS (ww := fun (u_ : Unit) => [((ad 0), .inr (8, [.ref (ad 1), .ref (ad 14), .ref (ad 27), .int k1, .int k2, .ref (ad 40), .ref (ad 56), .ref (ad 58), .ref (ad 62), .int ab, .int be, .int (bds + 1), .int nos, .int fls])), ((ad 1), .inr (7, [.int wide, .ref (ad 2), .ref (ad 3), .ref (ad 4), .ref (ad 6), .ref (ad 8), .ref (ad 10), .ref (ad 12)])), ((ad 4), .inr (4, [.int 7, .int 3, .ref (ad 5), .int (nI n)]))]) (w2 := fun (u_ : Unit) => LW G ad k1 k2 ab be (bds + 1) nos fls wide wd ck n pf sn sf nn nf mn mf u uf ywide ywd yck yn ypf ysn ysf ynn ynf ymn ymf yu yuf zwide zwd zck zn zpf zsn zsf znn znf zmn zmf zu zuf tk tn tok stt en tf dwide dwd dck dn dpf dsn dsf dnn dnf dmn dmf du duf f0 cr td0 fs0 car rea fin ms mab mbe (nI tn) tA tL tK tV a kf jf rv sv hf ef tg b vf) C hW [0, 1, 4] rfl (fun _ => rfl) (fun _ => rfl) (fun _ => lw_fst.trans lw_fst.symm) (g_runV (As := [.int (xs (i + 1)), .int (xs (i + 2))]) (rest := []) (wc := [((ad 0), .inr (8, [.ref (ad 1), .ref (ad 14), .ref (ad 27), .int k1, .int k2, .ref (ad 40), .ref (ad 56), .ref (ad 58), .ref (ad 62), .int ab, .int be, .int bds, .int nos, .int fls])), ((ad 1), .inr (7, [.int wide, .ref (ad 2), .ref (ad 3), .ref (ad 4), .ref (ad 6), .ref (ad 8), .ref (ad 10), .ref (ad 12)])), ((ad 4), .inr (4, [.int 7, .int 3, .ref (ad 5), .int (nI n)]))]) (q0 := 0) (ci := 8) C hW hl (c_X10_of_bad l G (ad 1) (ad 2) (ad 3) (ad 4) (ad 6) (ad 8) (ad 10) (ad 12) wide (ad 0) (ad 14) (ad 27) (ad 40) (ad 56) (ad 58) (ad 62) k1 k2 ab be bds nos fls (ad 5) n (xs (i + 1)) (xs (i + 2)) (by exact hc) _) k_ml_L_65 q_X10_of ⟨⟨rfl, rfl⟩, Nat.le_of_ble_eq_true rfl, Nat.le_of_ble_eq_true rfl⟩ [0, 1, 4] (by decide) rfl rfl rfl rfl rfl (Nat.le_of_ble_eq_true rfl) dL_law_493 ⟨hcl.1, hcl.2⟩) (fun r_1 _ er_1 => ?_)
    clear hW H locs; intro H locs hW
    replace hW : Wd G A_ s_.heap (LW G ad k1 k2 ab be (bds + 1) nos fls wide wd ck n pf sn sf nn nf mn mf u uf ywide ywd yck yn ypf ysn ysf ynn ynf ymn ymf yu yuf zwide zwd zck zn zpf zsn zsf znn znf zmn zmf zu zuf tk tn tok stt en tf dwide dwd dck dn dpf dsn dsf dnn dnf dmn dmf du duf f0 cr td0 fs0 car rea fin ms mab mbe (nI tn) tA tL tK tV a kf jf rv sv hf ef tg b vf) H locs := hW
    refine lv_as (y := (-2)) er_1 ?_
    refine lv_aload_n hx hb dL_law_496 rfl (lv_at hl 2 rfl) ?_
    refine lv_aload_n hx hb dL_law_497 rfl (lv_at hl 0 rfl) ?_
    refine lv_iload_n hx hb dL_law_498 rfl (lv_at hl 3 rfl) ?_
    refine lv_iconst (v := 1) hx hb dL_law_499 (by decide) ?_
    refine lv_iadd hx hb dL_law_500 ?_
    refine lv_as (y := nI (i + 1)) (nI_add i 1) ?_
    refine va_sld hx hb hX hbl hbA hW.2.2 (vp_in_nI (n := i + 1) (by omega) (by omega)) dL_law_501 ?_
    refine lv_as (y := xs (i + 1)) (by rw [nI_clamp (by omega)]) ?_
    refine lv_aload_n hx hb dL_law_502 rfl (lv_at hl 0 rfl) ?_
    refine lv_iload_n hx hb dL_law_503 rfl (lv_at hl 3 rfl) ?_
    refine lv_iconst (v := 2) hx hb dL_law_504 (by decide) ?_
    refine lv_iadd hx hb dL_law_505 ?_
    refine lv_as (y := nI (i + 2)) (nI_add i 2) ?_
    refine va_sld hx hb hX hbl hbA hW.2.2 (vp_in_nI (n := i + 2) (by omega) (by omega)) dL_law_506 ?_
    refine lv_as (y := xs (i + 2)) (by rw [nI_clamp (by omega)]) ?_
    refine g_fiS (ww := fun (u_ : Unit) => [((ad 64), .inr (9, [.ref (ad 65), .ref (ad 66), .ref (ad 67), .ref (ad 68), .long mab, .long mbe, .ref (ad 69), .ref (ad 70), .ref (ad 71), .ref (ad 72), .int (nI tn), .int tA, .int tL, .int tK, .int tV, .ref (ad 73), .ref (ad 74)])), ((ad 65), .inl (G.2.1, 159, .inl a)), ((ad 68), .inl (G.2.1, 3, .inl (upd rv 0 (rv 0 + 1))))]) (w2 := fun (u_ : Unit) => LW G ad k1 k2 ab be (bds + 1) nos fls wide wd ck n pf sn sf nn nf mn mf u uf ywide ywd yck yn ypf ysn ysf ynn ynf ymn ymf yu yuf zwide zwd zck zn zpf zsn zsf znn znf zmn zmf zu zuf tk tn tok stt en tf dwide dwd dck dn dpf dsn dsf dnn dnf dmn dmf du duf f0 cr td0 fs0 car rea fin ms mab mbe (nI tn) tA tL tK tV a kf jf (upd rv 0 (rv 0 + 1)) sv hf ef tg b vf) C hW [64, 65, 68] rfl (fun _ => rfl) (fun _ => rfl) (fun _ => lw_fst.trans lw_fst.symm) (g_runV (As := [.int (xs (i + 1)), .int (xs (i + 2))]) (rest := [.int (-2)]) (wc := [((ad 64), .inr (9, [.ref (ad 65), .ref (ad 66), .ref (ad 67), .ref (ad 68), .long mab, .long mbe, .ref (ad 69), .ref (ad 70), .ref (ad 71), .ref (ad 72), .int (nI tn), .int tA, .int tL, .int tK, .int tV, .ref (ad 73), .ref (ad 74)])), ((ad 65), .inl (G.2.1, 159, .inl a)), ((ad 68), .inl (G.2.1, 3, .inl rv))]) (q0 := 0) (ci := 9) C hW hl (c_X11_of_bad l G (ad 64) (ad 65) (ad 66) (ad 67) (ad 68) (ad 69) (ad 70) (ad 71) (ad 72) (ad 73) (ad 74) mab mbe (nI tn) tA tL tK tV rv a n (xs (i + 1)) (xs (i + 2)) (by first | assumption | omega) (by first | assumption | omega) (by exact hc) _) k_ml_L_68 q_X11_of ⟨⟨rfl, rfl⟩, Nat.le_of_ble_eq_true rfl, Nat.le_of_ble_eq_true rfl⟩ [64, 65, 68] (by decide) rfl rfl rfl rfl rfl (Nat.le_of_ble_eq_true rfl) dL_law_507 ⟨hcl.1, hcl.2⟩) (fun r_3 _ er_3 => ?_)
    clear hW H locs; intro H locs hW
    replace hW : Wd G A_ s_.heap (LW G ad k1 k2 ab be (bds + 1) nos fls wide wd ck n pf sn sf nn nf mn mf u uf ywide ywd yck yn ypf ysn ysf ynn ynf ymn ymf yu yuf zwide zwd zck zn zpf zsn zsf znn znf zmn zmf zu zuf tk tn tok stt en tf dwide dwd dck dn dpf dsn dsf dnn dnf dmn dmf du duf f0 cr td0 fs0 car rea fin ms mab mbe (nI tn) tA tL tK tV a kf jf (upd rv 0 (rv 0 + 1)) sv hf ef tg b vf) H locs := hW
    refine lv_as (y := (-2)) er_3 ?_
    refine lv_as (y := (-2)) (rfl) ?_
    refine lv_icmp_eq (tgt := 1149) hx hb dL_law_510 (by decide) (fun _ => ?_) (fun c9 => absurd rfl c9)
    exact K k1 k2 ab be (bds + 1) nos fls wide wd ck n pf sn sf nn nf mn mf u uf ywide ywd yck yn ypf ysn ysf ynn ynf ymn ymf yu yuf zwide zwd zck zn zpf zsn zsf znn znf zmn zmf zu zuf tk tn tok stt en tf dwide dwd dck dn dpf dsn dsf dnn dnf dmn dmf du duf f0 cr td0 fs0 car rea fin ms mab mbe (nI tn) tA tL tK tV a kf jf (upd rv 0 (rv 0 + 1)) sv hf ef tg b vf (⟨hV0.mono (by omega), hI1.mono (by omega), hI2.mono (by omega), ⟨htn, rfl, htt⟩, hPR, CR_bad hCR⟩) _ _ _ hW hl
  | true =>
    simp only [Bool.and_eq_true] at hc
    obtain ⟨k, hk, ek⟩ := okp_ex hc.1
    obtain ⟨j9, hj9, ej9⟩ := iw_ex (m := 3) hc.2 (by decide)
    rcases (show j9 = 0 ∨ j9 = 1 ∨ j9 = 2 ∨ j9 = 3 by omega) with rfl | rfl | rfl | rfl
    · refine lv_aload_n hx hb dL_law_482 rfl (lv_at hl 1 rfl) ?_
      refine lv_aload_n hx hb dL_law_483 rfl (lv_at hl 0 rfl) ?_
      refine lv_iload_n hx hb dL_law_484 rfl (lv_at hl 3 rfl) ?_
      refine lv_iconst (v := 1) hx hb dL_law_485 (by decide) ?_
      refine lv_iadd hx hb dL_law_486 ?_
      refine lv_as (y := nI (i + 1)) (nI_add i 1) ?_
      refine va_sld hx hb hX hbl hbA hW.2.2 (vp_in_nI (n := i + 1) (by omega) (by omega)) dL_law_487 ?_
      refine lv_as (y := nI k) (by rw [nI_clamp (by omega)]; exact ek) ?_
      refine lv_aload_n hx hb dL_law_488 rfl (lv_at hl 0 rfl) ?_
      refine lv_iload_n hx hb dL_law_489 rfl (lv_at hl 3 rfl) ?_
      refine lv_iconst (v := 2) hx hb dL_law_490 (by decide) ?_
      refine lv_iadd hx hb dL_law_491 ?_
      refine lv_as (y := nI (i + 2)) (nI_add i 2) ?_
      refine va_sld hx hb hX hbl hbA hW.2.2 (vp_in_nI (n := i + 2) (by omega) (by omega)) dL_law_492 ?_
      refine lv_as (y := 0) (by rw [nI_clamp (by omega)]; exact ej9) ?_
      refine g_fi C hW [0, 1, 4, 5] rfl (g_runV (As := [.int (nI k), .int 0]) (rest := []) (wc := [((ad 0), .inr (8, [.ref (ad 1), .ref (ad 14), .ref (ad 27), .int k1, .int k2, .ref (ad 40), .ref (ad 56), .ref (ad 58), .ref (ad 62), .int ab, .int be, .int bds, .int nos, .int fls])), ((ad 1), .inr (7, [.int wide, .ref (ad 2), .ref (ad 3), .ref (ad 4), .ref (ad 6), .ref (ad 8), .ref (ad 10), .ref (ad 12)])), ((ad 4), .inr (4, [.int 7, .int 3, .ref (ad 5), .int (nI n)])), ((ad 5), .inl (G.2.1, 21, .inl pf))]) (q0 := 0) (ci := 8) C hW hl (c_X10_of_ok l G (ad 1) (ad 2) (ad 3) (ad 4) (ad 6) (ad 8) (ad 10) (ad 12) wide (ad 0) (ad 14) (ad 27) (ad 40) (ad 56) (ad 58) (ad 62) k1 k2 ab be bds nos fls (ad 5) n pf k 0 (by first | assumption | omega) (by first | assumption | omega) (by decide) _) k_ml_L_65 q_X10_of ⟨⟨rfl, rfl⟩, Nat.le_of_ble_eq_true rfl, Nat.le_of_ble_eq_true rfl⟩ [0, 1, 4, 5] (by decide) rfl rfl rfl rfl rfl (Nat.le_of_ble_eq_true rfl) dL_law_493 ⟨hcl.1, hcl.2⟩) (fun r_1 er_1 => ?_)
      clear hW H locs; intro H locs hW
      refine lv_as (y := pf (k * 3 + 0)) er_1 ?_
      refine lv_aload_n hx hb dL_law_496 rfl (lv_at hl 2 rfl) ?_
      refine lv_aload_n hx hb dL_law_497 rfl (lv_at hl 0 rfl) ?_
      refine lv_iload_n hx hb dL_law_498 rfl (lv_at hl 3 rfl) ?_
      refine lv_iconst (v := 1) hx hb dL_law_499 (by decide) ?_
      refine lv_iadd hx hb dL_law_500 ?_
      refine lv_as (y := nI (i + 1)) (nI_add i 1) ?_
      refine va_sld hx hb hX hbl hbA hW.2.2 (vp_in_nI (n := i + 1) (by omega) (by omega)) dL_law_501 ?_
      refine lv_as (y := nI k) (by rw [nI_clamp (by omega)]; exact ek) ?_
      refine lv_aload_n hx hb dL_law_502 rfl (lv_at hl 0 rfl) ?_
      refine lv_iload_n hx hb dL_law_503 rfl (lv_at hl 3 rfl) ?_
      refine lv_iconst (v := 2) hx hb dL_law_504 (by decide) ?_
      refine lv_iadd hx hb dL_law_505 ?_
      refine lv_as (y := nI (i + 2)) (nI_add i 2) ?_
      refine va_sld hx hb hX hbl hbA hW.2.2 (vp_in_nI (n := i + 2) (by omega) (by omega)) dL_law_506 ?_
      refine lv_as (y := 0) (by rw [nI_clamp (by omega)]; exact ej9) ?_
      refine g_fi C hW [64, 65] rfl (g_runV (As := [.int (nI k), .int 0]) (rest := [.int (pf (k * 3 + 0))]) (wc := [((ad 64), .inr (9, [.ref (ad 65), .ref (ad 66), .ref (ad 67), .ref (ad 68), .long mab, .long mbe, .ref (ad 69), .ref (ad 70), .ref (ad 71), .ref (ad 72), .int (nI tn), .int tA, .int tL, .int tK, .int tV, .ref (ad 73), .ref (ad 74)])), ((ad 65), .inl (G.2.1, 159, .inl a))]) (q0 := 0) (ci := 9) C hW hl (c_X11_of_0 l G (ad 64) (ad 65) (ad 66) (ad 67) (ad 68) (ad 69) (ad 70) (ad 71) (ad 72) (ad 73) (ad 74) mab mbe (nI tn) tA tL tK tV a n k (by first | assumption | omega) (by first | assumption | omega) (by first | assumption | omega) _) k_ml_L_68 q_X11_of ⟨⟨rfl, rfl⟩, Nat.le_of_ble_eq_true rfl, Nat.le_of_ble_eq_true rfl⟩ [64, 65] (by decide) rfl rfl rfl rfl rfl (Nat.le_of_ble_eq_true rfl) dL_law_507 ⟨hcl.1, hcl.2⟩) (fun r_2 er_2 => ?_)
      clear hW H locs; intro H locs hW
      refine lv_as (y := a (19 + k)) er_2 ?_
      refine lv_as (y := pf (k * 3 + 0)) ((ep k hk).1) ?_
      refine lv_icmp_eq (tgt := 1149) hx hb dL_law_510 (by decide) (fun _ => ?_) (fun c9 => absurd rfl c9)
      exact K k1 k2 ab be bds nos fls wide wd ck n pf sn sf nn nf mn mf u uf ywide ywd yck yn ypf ysn ysf ynn ynf ymn ymf yu yuf zwide zwd zck zn zpf zsn zsf znn znf zmn zmf zu zuf tk tn tok stt en tf dwide dwd dck dn dpf dsn dsf dnn dnf dmn dmf du duf f0 cr td0 fs0 car rea fin ms mab mbe (nI tn) tA tL tK tV a kf jf rv sv hf ef tg b vf (⟨hV0.mono (by omega), hI1.mono (by omega), hI2.mono (by omega), ⟨htn, rfl, htt⟩, hPR, hCR⟩) _ _ _ hW hl
    · refine lv_aload_n hx hb dL_law_482 rfl (lv_at hl 1 rfl) ?_
      refine lv_aload_n hx hb dL_law_483 rfl (lv_at hl 0 rfl) ?_
      refine lv_iload_n hx hb dL_law_484 rfl (lv_at hl 3 rfl) ?_
      refine lv_iconst (v := 1) hx hb dL_law_485 (by decide) ?_
      refine lv_iadd hx hb dL_law_486 ?_
      refine lv_as (y := nI (i + 1)) (nI_add i 1) ?_
      refine va_sld hx hb hX hbl hbA hW.2.2 (vp_in_nI (n := i + 1) (by omega) (by omega)) dL_law_487 ?_
      refine lv_as (y := nI k) (by rw [nI_clamp (by omega)]; exact ek) ?_
      refine lv_aload_n hx hb dL_law_488 rfl (lv_at hl 0 rfl) ?_
      refine lv_iload_n hx hb dL_law_489 rfl (lv_at hl 3 rfl) ?_
      refine lv_iconst (v := 2) hx hb dL_law_490 (by decide) ?_
      refine lv_iadd hx hb dL_law_491 ?_
      refine lv_as (y := nI (i + 2)) (nI_add i 2) ?_
      refine va_sld hx hb hX hbl hbA hW.2.2 (vp_in_nI (n := i + 2) (by omega) (by omega)) dL_law_492 ?_
      refine lv_as (y := 1) (by rw [nI_clamp (by omega)]; exact ej9) ?_
      refine g_fi C hW [0, 1, 4, 5] rfl (g_runV (As := [.int (nI k), .int 1]) (rest := []) (wc := [((ad 0), .inr (8, [.ref (ad 1), .ref (ad 14), .ref (ad 27), .int k1, .int k2, .ref (ad 40), .ref (ad 56), .ref (ad 58), .ref (ad 62), .int ab, .int be, .int bds, .int nos, .int fls])), ((ad 1), .inr (7, [.int wide, .ref (ad 2), .ref (ad 3), .ref (ad 4), .ref (ad 6), .ref (ad 8), .ref (ad 10), .ref (ad 12)])), ((ad 4), .inr (4, [.int 7, .int 3, .ref (ad 5), .int (nI n)])), ((ad 5), .inl (G.2.1, 21, .inl pf))]) (q0 := 0) (ci := 8) C hW hl (c_X10_of_ok l G (ad 1) (ad 2) (ad 3) (ad 4) (ad 6) (ad 8) (ad 10) (ad 12) wide (ad 0) (ad 14) (ad 27) (ad 40) (ad 56) (ad 58) (ad 62) k1 k2 ab be bds nos fls (ad 5) n pf k 1 (by first | assumption | omega) (by first | assumption | omega) (by decide) _) k_ml_L_65 q_X10_of ⟨⟨rfl, rfl⟩, Nat.le_of_ble_eq_true rfl, Nat.le_of_ble_eq_true rfl⟩ [0, 1, 4, 5] (by decide) rfl rfl rfl rfl rfl (Nat.le_of_ble_eq_true rfl) dL_law_493 ⟨hcl.1, hcl.2⟩) (fun r_1 er_1 => ?_)
      clear hW H locs; intro H locs hW
      refine lv_as (y := pf (k * 3 + 1)) er_1 ?_
      refine lv_aload_n hx hb dL_law_496 rfl (lv_at hl 2 rfl) ?_
      refine lv_aload_n hx hb dL_law_497 rfl (lv_at hl 0 rfl) ?_
      refine lv_iload_n hx hb dL_law_498 rfl (lv_at hl 3 rfl) ?_
      refine lv_iconst (v := 1) hx hb dL_law_499 (by decide) ?_
      refine lv_iadd hx hb dL_law_500 ?_
      refine lv_as (y := nI (i + 1)) (nI_add i 1) ?_
      refine va_sld hx hb hX hbl hbA hW.2.2 (vp_in_nI (n := i + 1) (by omega) (by omega)) dL_law_501 ?_
      refine lv_as (y := nI k) (by rw [nI_clamp (by omega)]; exact ek) ?_
      refine lv_aload_n hx hb dL_law_502 rfl (lv_at hl 0 rfl) ?_
      refine lv_iload_n hx hb dL_law_503 rfl (lv_at hl 3 rfl) ?_
      refine lv_iconst (v := 2) hx hb dL_law_504 (by decide) ?_
      refine lv_iadd hx hb dL_law_505 ?_
      refine lv_as (y := nI (i + 2)) (nI_add i 2) ?_
      refine va_sld hx hb hX hbl hbA hW.2.2 (vp_in_nI (n := i + 2) (by omega) (by omega)) dL_law_506 ?_
      refine lv_as (y := 1) (by rw [nI_clamp (by omega)]; exact ej9) ?_
      refine g_fi C hW [64, 65] rfl (g_runV (As := [.int (nI k), .int 1]) (rest := [.int (pf (k * 3 + 1))]) (wc := [((ad 64), .inr (9, [.ref (ad 65), .ref (ad 66), .ref (ad 67), .ref (ad 68), .long mab, .long mbe, .ref (ad 69), .ref (ad 70), .ref (ad 71), .ref (ad 72), .int (nI tn), .int tA, .int tL, .int tK, .int tV, .ref (ad 73), .ref (ad 74)])), ((ad 65), .inl (G.2.1, 159, .inl a))]) (q0 := 0) (ci := 9) C hW hl (c_X11_of_1 l G (ad 64) (ad 65) (ad 66) (ad 67) (ad 68) (ad 69) (ad 70) (ad 71) (ad 72) (ad 73) (ad 74) mab mbe (nI tn) tA tL tK tV a n k (by first | assumption | omega) (by first | assumption | omega) (by first | assumption | omega) _) k_ml_L_68 q_X11_of ⟨⟨rfl, rfl⟩, Nat.le_of_ble_eq_true rfl, Nat.le_of_ble_eq_true rfl⟩ [64, 65] (by decide) rfl rfl rfl rfl rfl (Nat.le_of_ble_eq_true rfl) dL_law_507 ⟨hcl.1, hcl.2⟩) (fun r_2 er_2 => ?_)
      clear hW H locs; intro H locs hW
      refine lv_as (y := a (26 + k)) er_2 ?_
      refine lv_as (y := pf (k * 3 + 1)) ((ep k hk).2.1) ?_
      refine lv_icmp_eq (tgt := 1149) hx hb dL_law_510 (by decide) (fun _ => ?_) (fun c9 => absurd rfl c9)
      exact K k1 k2 ab be bds nos fls wide wd ck n pf sn sf nn nf mn mf u uf ywide ywd yck yn ypf ysn ysf ynn ynf ymn ymf yu yuf zwide zwd zck zn zpf zsn zsf znn znf zmn zmf zu zuf tk tn tok stt en tf dwide dwd dck dn dpf dsn dsf dnn dnf dmn dmf du duf f0 cr td0 fs0 car rea fin ms mab mbe (nI tn) tA tL tK tV a kf jf rv sv hf ef tg b vf (⟨hV0.mono (by omega), hI1.mono (by omega), hI2.mono (by omega), ⟨htn, rfl, htt⟩, hPR, hCR⟩) _ _ _ hW hl
    · refine lv_aload_n hx hb dL_law_482 rfl (lv_at hl 1 rfl) ?_
      refine lv_aload_n hx hb dL_law_483 rfl (lv_at hl 0 rfl) ?_
      refine lv_iload_n hx hb dL_law_484 rfl (lv_at hl 3 rfl) ?_
      refine lv_iconst (v := 1) hx hb dL_law_485 (by decide) ?_
      refine lv_iadd hx hb dL_law_486 ?_
      refine lv_as (y := nI (i + 1)) (nI_add i 1) ?_
      refine va_sld hx hb hX hbl hbA hW.2.2 (vp_in_nI (n := i + 1) (by omega) (by omega)) dL_law_487 ?_
      refine lv_as (y := nI k) (by rw [nI_clamp (by omega)]; exact ek) ?_
      refine lv_aload_n hx hb dL_law_488 rfl (lv_at hl 0 rfl) ?_
      refine lv_iload_n hx hb dL_law_489 rfl (lv_at hl 3 rfl) ?_
      refine lv_iconst (v := 2) hx hb dL_law_490 (by decide) ?_
      refine lv_iadd hx hb dL_law_491 ?_
      refine lv_as (y := nI (i + 2)) (nI_add i 2) ?_
      refine va_sld hx hb hX hbl hbA hW.2.2 (vp_in_nI (n := i + 2) (by omega) (by omega)) dL_law_492 ?_
      refine lv_as (y := 2) (by rw [nI_clamp (by omega)]; exact ej9) ?_
      refine g_fi C hW [0, 1, 4, 5] rfl (g_runV (As := [.int (nI k), .int 2]) (rest := []) (wc := [((ad 0), .inr (8, [.ref (ad 1), .ref (ad 14), .ref (ad 27), .int k1, .int k2, .ref (ad 40), .ref (ad 56), .ref (ad 58), .ref (ad 62), .int ab, .int be, .int bds, .int nos, .int fls])), ((ad 1), .inr (7, [.int wide, .ref (ad 2), .ref (ad 3), .ref (ad 4), .ref (ad 6), .ref (ad 8), .ref (ad 10), .ref (ad 12)])), ((ad 4), .inr (4, [.int 7, .int 3, .ref (ad 5), .int (nI n)])), ((ad 5), .inl (G.2.1, 21, .inl pf))]) (q0 := 0) (ci := 8) C hW hl (c_X10_of_ok l G (ad 1) (ad 2) (ad 3) (ad 4) (ad 6) (ad 8) (ad 10) (ad 12) wide (ad 0) (ad 14) (ad 27) (ad 40) (ad 56) (ad 58) (ad 62) k1 k2 ab be bds nos fls (ad 5) n pf k 2 (by first | assumption | omega) (by first | assumption | omega) (by decide) _) k_ml_L_65 q_X10_of ⟨⟨rfl, rfl⟩, Nat.le_of_ble_eq_true rfl, Nat.le_of_ble_eq_true rfl⟩ [0, 1, 4, 5] (by decide) rfl rfl rfl rfl rfl (Nat.le_of_ble_eq_true rfl) dL_law_493 ⟨hcl.1, hcl.2⟩) (fun r_1 er_1 => ?_)
      clear hW H locs; intro H locs hW
      refine lv_as (y := pf (k * 3 + 2)) er_1 ?_
      refine lv_aload_n hx hb dL_law_496 rfl (lv_at hl 2 rfl) ?_
      refine lv_aload_n hx hb dL_law_497 rfl (lv_at hl 0 rfl) ?_
      refine lv_iload_n hx hb dL_law_498 rfl (lv_at hl 3 rfl) ?_
      refine lv_iconst (v := 1) hx hb dL_law_499 (by decide) ?_
      refine lv_iadd hx hb dL_law_500 ?_
      refine lv_as (y := nI (i + 1)) (nI_add i 1) ?_
      refine va_sld hx hb hX hbl hbA hW.2.2 (vp_in_nI (n := i + 1) (by omega) (by omega)) dL_law_501 ?_
      refine lv_as (y := nI k) (by rw [nI_clamp (by omega)]; exact ek) ?_
      refine lv_aload_n hx hb dL_law_502 rfl (lv_at hl 0 rfl) ?_
      refine lv_iload_n hx hb dL_law_503 rfl (lv_at hl 3 rfl) ?_
      refine lv_iconst (v := 2) hx hb dL_law_504 (by decide) ?_
      refine lv_iadd hx hb dL_law_505 ?_
      refine lv_as (y := nI (i + 2)) (nI_add i 2) ?_
      refine va_sld hx hb hX hbl hbA hW.2.2 (vp_in_nI (n := i + 2) (by omega) (by omega)) dL_law_506 ?_
      refine lv_as (y := 2) (by rw [nI_clamp (by omega)]; exact ej9) ?_
      refine g_fi C hW [64, 65] rfl (g_runV (As := [.int (nI k), .int 2]) (rest := [.int (pf (k * 3 + 2))]) (wc := [((ad 64), .inr (9, [.ref (ad 65), .ref (ad 66), .ref (ad 67), .ref (ad 68), .long mab, .long mbe, .ref (ad 69), .ref (ad 70), .ref (ad 71), .ref (ad 72), .int (nI tn), .int tA, .int tL, .int tK, .int tV, .ref (ad 73), .ref (ad 74)])), ((ad 65), .inl (G.2.1, 159, .inl a))]) (q0 := 0) (ci := 9) C hW hl (c_X11_of_2 l G (ad 64) (ad 65) (ad 66) (ad 67) (ad 68) (ad 69) (ad 70) (ad 71) (ad 72) (ad 73) (ad 74) mab mbe (nI tn) tA tL tK tV a n k (by first | assumption | omega) (by first | assumption | omega) (by first | assumption | omega) _) k_ml_L_68 q_X11_of ⟨⟨rfl, rfl⟩, Nat.le_of_ble_eq_true rfl, Nat.le_of_ble_eq_true rfl⟩ [64, 65] (by decide) rfl rfl rfl rfl rfl (Nat.le_of_ble_eq_true rfl) dL_law_507 ⟨hcl.1, hcl.2⟩) (fun r_2 er_2 => ?_)
      clear hW H locs; intro H locs hW
      refine lv_as (y := a (33 + k)) er_2 ?_
      refine lv_as (y := pf (k * 3 + 2)) ((ep k hk).2.2) ?_
      refine lv_icmp_eq (tgt := 1149) hx hb dL_law_510 (by decide) (fun _ => ?_) (fun c9 => absurd rfl c9)
      exact K k1 k2 ab be bds nos fls wide wd ck n pf sn sf nn nf mn mf u uf ywide ywd yck yn ypf ysn ysf ynn ynf ymn ymf yu yuf zwide zwd zck zn zpf zsn zsf znn znf zmn zmf zu zuf tk tn tok stt en tf dwide dwd dck dn dpf dsn dsf dnn dnf dmn dmf du duf f0 cr td0 fs0 car rea fin ms mab mbe (nI tn) tA tL tK tV a kf jf rv sv hf ef tg b vf (⟨hV0.mono (by omega), hI1.mono (by omega), hI2.mono (by omega), ⟨htn, rfl, htt⟩, hPR, hCR⟩) _ _ _ hW hl
    · refine lv_aload_n hx hb dL_law_482 rfl (lv_at hl 1 rfl) ?_
      refine lv_aload_n hx hb dL_law_483 rfl (lv_at hl 0 rfl) ?_
      refine lv_iload_n hx hb dL_law_484 rfl (lv_at hl 3 rfl) ?_
      refine lv_iconst (v := 1) hx hb dL_law_485 (by decide) ?_
      refine lv_iadd hx hb dL_law_486 ?_
      refine lv_as (y := nI (i + 1)) (nI_add i 1) ?_
      refine va_sld hx hb hX hbl hbA hW.2.2 (vp_in_nI (n := i + 1) (by omega) (by omega)) dL_law_487 ?_
      refine lv_as (y := nI k) (by rw [nI_clamp (by omega)]; exact ek) ?_
      refine lv_aload_n hx hb dL_law_488 rfl (lv_at hl 0 rfl) ?_
      refine lv_iload_n hx hb dL_law_489 rfl (lv_at hl 3 rfl) ?_
      refine lv_iconst (v := 2) hx hb dL_law_490 (by decide) ?_
      refine lv_iadd hx hb dL_law_491 ?_
      refine lv_as (y := nI (i + 2)) (nI_add i 2) ?_
      refine va_sld hx hb hX hbl hbA hW.2.2 (vp_in_nI (n := i + 2) (by omega) (by omega)) dL_law_492 ?_
      refine lv_as (y := 3) (by rw [nI_clamp (by omega)]; exact ej9) ?_
      refine g_fi C hW [0, 1, 4, 5, 3] rfl (g_runV (As := [.int (nI k), .int 3]) (rest := []) (wc := [((ad 0), .inr (8, [.ref (ad 1), .ref (ad 14), .ref (ad 27), .int k1, .int k2, .ref (ad 40), .ref (ad 56), .ref (ad 58), .ref (ad 62), .int ab, .int be, .int bds, .int nos, .int fls])), ((ad 1), .inr (7, [.int wide, .ref (ad 2), .ref (ad 3), .ref (ad 4), .ref (ad 6), .ref (ad 8), .ref (ad 10), .ref (ad 12)])), ((ad 4), .inr (4, [.int 7, .int 3, .ref (ad 5), .int (nI n)])), ((ad 5), .inl (G.2.1, 21, .inl pf)), ((ad 3), .inl (G.2.1, 7, .inl ck))]) (q0 := 0) (ci := 8) C hW hl (c_X10_of_3 l G (ad 1) (ad 2) (ad 3) (ad 4) (ad 6) (ad 8) (ad 10) (ad 12) wide (ad 0) (ad 14) (ad 27) (ad 40) (ad 56) (ad 58) (ad 62) k1 k2 ab be bds nos fls (ad 5) n pf ck k hr (by first | assumption | omega) (by first | assumption | omega) (by assumption) (by omega) _) k_ml_L_65 q_X10_of ⟨⟨rfl, rfl⟩, Nat.le_of_ble_eq_true rfl, Nat.le_of_ble_eq_true rfl⟩ [0, 1, 4, 5, 3] (by decide) rfl rfl rfl rfl rfl (Nat.le_of_ble_eq_true rfl) dL_law_493 ⟨hcl.1, hcl.2⟩) (fun r_1 er_1 => ?_)
      clear hW H locs; intro H locs hW
      refine lv_as (y := bl (pf (k * 3 + 0)) (pf (k * 3 + 2)) (nI (hr % 24))) er_1 ?_
      refine lv_aload_n hx hb dL_law_496 rfl (lv_at hl 2 rfl) ?_
      refine lv_aload_n hx hb dL_law_497 rfl (lv_at hl 0 rfl) ?_
      refine lv_iload_n hx hb dL_law_498 rfl (lv_at hl 3 rfl) ?_
      refine lv_iconst (v := 1) hx hb dL_law_499 (by decide) ?_
      refine lv_iadd hx hb dL_law_500 ?_
      refine lv_as (y := nI (i + 1)) (nI_add i 1) ?_
      refine va_sld hx hb hX hbl hbA hW.2.2 (vp_in_nI (n := i + 1) (by omega) (by omega)) dL_law_501 ?_
      refine lv_as (y := nI k) (by rw [nI_clamp (by omega)]; exact ek) ?_
      refine lv_aload_n hx hb dL_law_502 rfl (lv_at hl 0 rfl) ?_
      refine lv_iload_n hx hb dL_law_503 rfl (lv_at hl 3 rfl) ?_
      refine lv_iconst (v := 2) hx hb dL_law_504 (by decide) ?_
      refine lv_iadd hx hb dL_law_505 ?_
      refine lv_as (y := nI (i + 2)) (nI_add i 2) ?_
      refine va_sld hx hb hX hbl hbA hW.2.2 (vp_in_nI (n := i + 2) (by omega) (by omega)) dL_law_506 ?_
      refine lv_as (y := 3) (by rw [nI_clamp (by omega)]; exact ej9) ?_
      refine g_fi C hW [64, 65] rfl (g_runV (As := [.int (nI k), .int 3]) (rest := [.int (bl (pf (k * 3 + 0)) (pf (k * 3 + 2)) (nI (hr % 24)))]) (wc := [((ad 64), .inr (9, [.ref (ad 65), .ref (ad 66), .ref (ad 67), .ref (ad 68), .long mab, .long mbe, .ref (ad 69), .ref (ad 70), .ref (ad 71), .ref (ad 72), .int (nI tn), .int tA, .int tL, .int tK, .int tV, .ref (ad 73), .ref (ad 74)])), ((ad 65), .inl (G.2.1, 159, .inl a))]) (q0 := 0) (ci := 9) C hW hl (c_X11_of_3 l G (ad 64) (ad 65) (ad 66) (ad 67) (ad 68) (ad 69) (ad 70) (ad 71) (ad 72) (ad 73) (ad 74) mab mbe (nI tn) tA tL tK tV a n k hr (by first | assumption | omega) (by first | assumption | omega) (by first | assumption | omega) (by first | assumption | omega) (by first | assumption | omega) _) k_ml_L_68 q_X11_of ⟨⟨rfl, rfl⟩, Nat.le_of_ble_eq_true rfl, Nat.le_of_ble_eq_true rfl⟩ [64, 65] (by decide) rfl rfl rfl rfl rfl (Nat.le_of_ble_eq_true rfl) dL_law_507 ⟨hcl.1, hcl.2⟩) (fun r_2 er_2 => ?_)
      clear hW H locs; intro H locs hW
      refine lv_as (y := bl (a (19 + k)) (a (33 + k)) (nI (hr % 24))) er_2 ?_
      refine lv_as (y := bl (pf (k * 3 + 0)) (pf (k * 3 + 2)) (nI (hr % 24))) (by rw [(ep k hk).1, (ep k hk).2.2]) ?_
      refine lv_icmp_eq (tgt := 1149) hx hb dL_law_510 (by decide) (fun _ => ?_) (fun c9 => absurd rfl c9)
      exact K k1 k2 ab be bds nos fls wide wd ck n pf sn sf nn nf mn mf u uf ywide ywd yck yn ypf ysn ysf ynn ynf ymn ymf yu yuf zwide zwd zck zn zpf zsn zsf znn znf zmn zmf zu zuf tk tn tok stt en tf dwide dwd dck dn dpf dsn dsf dnn dnf dmn dmf du duf f0 cr td0 fs0 car rea fin ms mab mbe (nI tn) tA tL tK tV a kf jf rv sv hf ef tg b vf (⟨hV0.mono (by omega), hI1.mono (by omega), hI2.mono (by omega), ⟨htn, rfl, htt⟩, hPR, hCR⟩) _ _ _ hW hl
set_option maxHeartbeats 8000000 in
set_option maxRecDepth 100000 in
theorem st_reach {p_ : Program} {l : Launch} {e_ : Env} {s_ : State} {m_ : MethodId} {ar_ : Array Value} {be_ : List Frame} {me_ : Method} {cd_ : Code} {cells slots : Nat} {Q : State → Prop} {G : gT} {A_ : Nat → Prop} {ad : Nat → Nat} {bS : Nat} {L i B : Nat} {xs : Nat → Int32} (hLA : LA p_ l e_ s_ m_ ar_ be_ me_ cd_ cells slots Q G A_ ad bS L xs) (hi : i + 4 < L) (hB : B ≤ 300) (K : KK p_ l e_ s_ m_ ar_ be_ me_ cd_ cells slots Q G A_ ad bS i (B + 1) 1149) : KK p_ l e_ s_ m_ ar_ be_ me_ cd_ cells slots Q G A_ ad bS i B 515 := by
  obtain ⟨C, hX, hbl, hbA, hL, hcl⟩ := hLA
  intro k1 k2 ab be bds nos fls wide wd ck n pf sn sf nn nf mn mf u uf ywide ywd yck yn ypf ysn ysf ynn ynf ymn ymf yu yuf zwide zwd zck zn zpf zsn zsf znn znf zmn zmf zu zuf tk tn tok stt en tf dwide dwd dck dn dpf dsn dsf dnn dnf dmn dmf du duf f0 cr td0 fs0 car rea fin ms mab mbe bL tA tL tK tV a kf jf rv sv hf ef tg b vf hR H locs ls hW hl
  have hx := C.1; have hb := C.2.1; have hown := C.2.2.2.1; have ht := C.2.2.2.2.1
  obtain ⟨hV, hI1, hI2, hT, hPR, hCR⟩ := hR
  have hV0 := hV
  obtain ⟨⟨hn, hs, ho, hm, hu⟩, ⟨hWd, hP, hH, hS, hO⟩, ⟨hck, hpa⟩, ⟨e0, e1, e2, e3, e4, e5⟩, ⟨ea, ew, ep⟩, ⟨es, eno, em, eu⟩⟩ := hV
  have hck0 := hck
  obtain ⟨⟨hr, eh, hh⟩, ⟨fh, eh2, hfl⟩, hup01, hg, ⟨k4, ek4, hk4⟩, ⟨d5, ed5, hd5⟩⟩ := hck
  have e8 : a 8 = nI fh := (ea 2 (by decide)).trans eh2
  have e12 : a 12 = nI hr := (ea 6 (by decide)).trans eh
  have e9 : a 9 = ck 3 := ea 3 (by decide)
  have e7 : a 7 = ck 1 := ea 1 (by decide)
  have e6 : a 6 = ck 0 := ea 0 (by decide)
  obtain ⟨htn, hbL, htt⟩ := hT
  subst hbL
  cases hc : (okp n (xs (i + 1)) && iw (xs (i + 2)) 0 47) with
  | false =>
    refine lv_aload_n hx hb dL_law_515 rfl (lv_at hl 1 rfl) ?_
    refine lv_aload_n hx hb dL_law_516 rfl (lv_at hl 0 rfl) ?_
    refine lv_iload_n hx hb dL_law_517 rfl (lv_at hl 3 rfl) ?_
    refine lv_iconst (v := 1) hx hb dL_law_518 (by decide) ?_
    refine lv_iadd hx hb dL_law_519 ?_
    refine lv_as (y := nI (i + 1)) (nI_add i 1) ?_
    refine va_sld hx hb hX hbl hbA hW.2.2 (vp_in_nI (n := i + 1) (by omega) (by omega)) dL_law_520 ?_
    refine lv_as (y := xs (i + 1)) (by rw [nI_clamp (by omega)]) ?_
    refine lv_aload_n hx hb dL_law_521 rfl (lv_at hl 0 rfl) ?_
    refine lv_iload_n hx hb dL_law_522 rfl (lv_at hl 3 rfl) ?_
    refine lv_iconst (v := 2) hx hb dL_law_523 (by decide) ?_
    refine lv_iadd hx hb dL_law_524 ?_
    refine lv_as (y := nI (i + 2)) (nI_add i 2) ?_
    refine va_sld hx hb hX hbl hbA hW.2.2 (vp_in_nI (n := i + 2) (by omega) (by omega)) dL_law_525 ?_
    refine lv_as (y := xs (i + 2)) (by rw [nI_clamp (by omega)]) ?_
    refine g_fiS (ww := fun (u_ : Unit) => [((ad 0), .inr (8, [.ref (ad 1), .ref (ad 14), .ref (ad 27), .int k1, .int k2, .ref (ad 40), .ref (ad 56), .ref (ad 58), .ref (ad 62), .int ab, .int be, .int (bds + 1), .int nos, .int fls])), ((ad 1), .inr (7, [.int wide, .ref (ad 2), .ref (ad 3), .ref (ad 4), .ref (ad 6), .ref (ad 8), .ref (ad 10), .ref (ad 12)])), ((ad 4), .inr (4, [.int 7, .int 3, .ref (ad 5), .int (nI n)]))]) (w2 := fun (u_ : Unit) => LW G ad k1 k2 ab be (bds + 1) nos fls wide wd ck n pf sn sf nn nf mn mf u uf ywide ywd yck yn ypf ysn ysf ynn ynf ymn ymf yu yuf zwide zwd zck zn zpf zsn zsf znn znf zmn zmf zu zuf tk tn tok stt en tf dwide dwd dck dn dpf dsn dsf dnn dnf dmn dmf du duf f0 cr td0 fs0 car rea fin ms mab mbe (nI tn) tA tL tK tV a kf jf rv sv hf ef tg b vf) C hW [0, 1, 4] rfl (fun _ => rfl) (fun _ => rfl) (fun _ => lw_fst.trans lw_fst.symm) (g_runV (As := [.int (xs (i + 1)), .int (xs (i + 2))]) (rest := []) (wc := [((ad 0), .inr (8, [.ref (ad 1), .ref (ad 14), .ref (ad 27), .int k1, .int k2, .ref (ad 40), .ref (ad 56), .ref (ad 58), .ref (ad 62), .int ab, .int be, .int bds, .int nos, .int fls])), ((ad 1), .inr (7, [.int wide, .ref (ad 2), .ref (ad 3), .ref (ad 4), .ref (ad 6), .ref (ad 8), .ref (ad 10), .ref (ad 12)])), ((ad 4), .inr (4, [.int 7, .int 3, .ref (ad 5), .int (nI n)]))]) (q0 := 0) (ci := 8) C hW hl (c_X10_reach_bad l G (ad 1) (ad 2) (ad 3) (ad 4) (ad 6) (ad 8) (ad 10) (ad 12) wide (ad 0) (ad 14) (ad 27) (ad 40) (ad 56) (ad 58) (ad 62) k1 k2 ab be bds nos fls (ad 5) n (xs (i + 1)) (xs (i + 2)) (by exact hc) _) k_ml_L_69 q_X10_reach ⟨⟨rfl, rfl⟩, Nat.le_of_ble_eq_true rfl, Nat.le_of_ble_eq_true rfl⟩ [0, 1, 4] (by decide) rfl rfl rfl rfl rfl (Nat.le_of_ble_eq_true rfl) dL_law_526 ⟨hcl.1, hcl.2⟩) (fun r_1 _ er_1 => ?_)
    clear hW H locs; intro H locs hW
    replace hW : Wd G A_ s_.heap (LW G ad k1 k2 ab be (bds + 1) nos fls wide wd ck n pf sn sf nn nf mn mf u uf ywide ywd yck yn ypf ysn ysf ynn ynf ymn ymf yu yuf zwide zwd zck zn zpf zsn zsf znn znf zmn zmf zu zuf tk tn tok stt en tf dwide dwd dck dn dpf dsn dsf dnn dnf dmn dmf du duf f0 cr td0 fs0 car rea fin ms mab mbe (nI tn) tA tL tK tV a kf jf rv sv hf ef tg b vf) H locs := hW
    refine lv_as (y := (-2)) er_1 ?_
    refine lv_aload_n hx hb dL_law_529 rfl (lv_at hl 2 rfl) ?_
    refine lv_aload_n hx hb dL_law_530 rfl (lv_at hl 0 rfl) ?_
    refine lv_iload_n hx hb dL_law_531 rfl (lv_at hl 3 rfl) ?_
    refine lv_iconst (v := 1) hx hb dL_law_532 (by decide) ?_
    refine lv_iadd hx hb dL_law_533 ?_
    refine lv_as (y := nI (i + 1)) (nI_add i 1) ?_
    refine va_sld hx hb hX hbl hbA hW.2.2 (vp_in_nI (n := i + 1) (by omega) (by omega)) dL_law_534 ?_
    refine lv_as (y := xs (i + 1)) (by rw [nI_clamp (by omega)]) ?_
    refine lv_aload_n hx hb dL_law_535 rfl (lv_at hl 0 rfl) ?_
    refine lv_iload_n hx hb dL_law_536 rfl (lv_at hl 3 rfl) ?_
    refine lv_iconst (v := 2) hx hb dL_law_537 (by decide) ?_
    refine lv_iadd hx hb dL_law_538 ?_
    refine lv_as (y := nI (i + 2)) (nI_add i 2) ?_
    refine va_sld hx hb hX hbl hbA hW.2.2 (vp_in_nI (n := i + 2) (by omega) (by omega)) dL_law_539 ?_
    refine lv_as (y := xs (i + 2)) (by rw [nI_clamp (by omega)]) ?_
    refine g_fiS (ww := fun (u_ : Unit) => [((ad 64), .inr (9, [.ref (ad 65), .ref (ad 66), .ref (ad 67), .ref (ad 68), .long mab, .long mbe, .ref (ad 69), .ref (ad 70), .ref (ad 71), .ref (ad 72), .int (nI tn), .int tA, .int tL, .int tK, .int tV, .ref (ad 73), .ref (ad 74)])), ((ad 65), .inl (G.2.1, 159, .inl a)), ((ad 68), .inl (G.2.1, 3, .inl (upd rv 0 (rv 0 + 1))))]) (w2 := fun (u_ : Unit) => LW G ad k1 k2 ab be (bds + 1) nos fls wide wd ck n pf sn sf nn nf mn mf u uf ywide ywd yck yn ypf ysn ysf ynn ynf ymn ymf yu yuf zwide zwd zck zn zpf zsn zsf znn znf zmn zmf zu zuf tk tn tok stt en tf dwide dwd dck dn dpf dsn dsf dnn dnf dmn dmf du duf f0 cr td0 fs0 car rea fin ms mab mbe (nI tn) tA tL tK tV a kf jf (upd rv 0 (rv 0 + 1)) sv hf ef tg b vf) C hW [64, 65, 68] rfl (fun _ => rfl) (fun _ => rfl) (fun _ => lw_fst.trans lw_fst.symm) (g_runV (As := [.int (xs (i + 1)), .int (xs (i + 2))]) (rest := [.int (-2)]) (wc := [((ad 64), .inr (9, [.ref (ad 65), .ref (ad 66), .ref (ad 67), .ref (ad 68), .long mab, .long mbe, .ref (ad 69), .ref (ad 70), .ref (ad 71), .ref (ad 72), .int (nI tn), .int tA, .int tL, .int tK, .int tV, .ref (ad 73), .ref (ad 74)])), ((ad 65), .inl (G.2.1, 159, .inl a)), ((ad 68), .inl (G.2.1, 3, .inl rv))]) (q0 := 0) (ci := 9) C hW hl (c_X11_reach_bad l G (ad 64) (ad 65) (ad 66) (ad 67) (ad 68) (ad 69) (ad 70) (ad 71) (ad 72) (ad 73) (ad 74) mab mbe (nI tn) tA tL tK tV rv a n (xs (i + 1)) (xs (i + 2)) (by first | assumption | omega) (by first | assumption | omega) (by exact hc) _) k_ml_L_72 q_X11_reach ⟨⟨rfl, rfl⟩, Nat.le_of_ble_eq_true rfl, Nat.le_of_ble_eq_true rfl⟩ [64, 65, 68] (by decide) rfl rfl rfl rfl rfl (Nat.le_of_ble_eq_true rfl) dL_law_540 ⟨hcl.1, hcl.2⟩) (fun r_3 _ er_3 => ?_)
    clear hW H locs; intro H locs hW
    replace hW : Wd G A_ s_.heap (LW G ad k1 k2 ab be (bds + 1) nos fls wide wd ck n pf sn sf nn nf mn mf u uf ywide ywd yck yn ypf ysn ysf ynn ynf ymn ymf yu yuf zwide zwd zck zn zpf zsn zsf znn znf zmn zmf zu zuf tk tn tok stt en tf dwide dwd dck dn dpf dsn dsf dnn dnf dmn dmf du duf f0 cr td0 fs0 car rea fin ms mab mbe (nI tn) tA tL tK tV a kf jf (upd rv 0 (rv 0 + 1)) sv hf ef tg b vf) H locs := hW
    refine lv_as (y := (-2)) er_3 ?_
    refine lv_as (y := (-2)) (rfl) ?_
    refine lv_icmp_eq (tgt := 1149) hx hb dL_law_543 (by decide) (fun _ => ?_) (fun c9 => absurd rfl c9)
    exact K k1 k2 ab be (bds + 1) nos fls wide wd ck n pf sn sf nn nf mn mf u uf ywide ywd yck yn ypf ysn ysf ynn ynf ymn ymf yu yuf zwide zwd zck zn zpf zsn zsf znn znf zmn zmf zu zuf tk tn tok stt en tf dwide dwd dck dn dpf dsn dsf dnn dnf dmn dmf du duf f0 cr td0 fs0 car rea fin ms mab mbe (nI tn) tA tL tK tV a kf jf (upd rv 0 (rv 0 + 1)) sv hf ef tg b vf (⟨hV0.mono (by omega), hI1.mono (by omega), hI2.mono (by omega), ⟨htn, rfl, htt⟩, hPR, CR_bad hCR⟩) _ _ _ hW hl
  | true =>
    simp only [Bool.and_eq_true] at hc
    obtain ⟨k, hk, ek⟩ := okp_ex hc.1
    obtain ⟨m9, hm9, em9⟩ := iw_ex (m := 47) hc.2 (by decide)
    refine lv_aload_n hx hb dL_law_515 rfl (lv_at hl 1 rfl) ?_
    refine lv_aload_n hx hb dL_law_516 rfl (lv_at hl 0 rfl) ?_
    refine lv_iload_n hx hb dL_law_517 rfl (lv_at hl 3 rfl) ?_
    refine lv_iconst (v := 1) hx hb dL_law_518 (by decide) ?_
    refine lv_iadd hx hb dL_law_519 ?_
    refine lv_as (y := nI (i + 1)) (nI_add i 1) ?_
    refine va_sld hx hb hX hbl hbA hW.2.2 (vp_in_nI (n := i + 1) (by omega) (by omega)) dL_law_520 ?_
    refine lv_as (y := nI k) (by rw [nI_clamp (by omega)]; exact ek) ?_
    refine lv_aload_n hx hb dL_law_521 rfl (lv_at hl 0 rfl) ?_
    refine lv_iload_n hx hb dL_law_522 rfl (lv_at hl 3 rfl) ?_
    refine lv_iconst (v := 2) hx hb dL_law_523 (by decide) ?_
    refine lv_iadd hx hb dL_law_524 ?_
    refine lv_as (y := nI (i + 2)) (nI_add i 2) ?_
    refine va_sld hx hb hX hbl hbA hW.2.2 (vp_in_nI (n := i + 2) (by omega) (by omega)) dL_law_525 ?_
    refine lv_as (y := nI m9) (by rw [nI_clamp (by omega)]; exact em9) ?_
    refine g_fi C hW [0, 1, 4, 5, 3, 2] rfl (g_runV (As := [.int (nI k), .int (nI m9)]) (rest := []) (wc := [((ad 0), .inr (8, [.ref (ad 1), .ref (ad 14), .ref (ad 27), .int k1, .int k2, .ref (ad 40), .ref (ad 56), .ref (ad 58), .ref (ad 62), .int ab, .int be, .int bds, .int nos, .int fls])), ((ad 1), .inr (7, [.int wide, .ref (ad 2), .ref (ad 3), .ref (ad 4), .ref (ad 6), .ref (ad 8), .ref (ad 10), .ref (ad 12)])), ((ad 4), .inr (4, [.int 7, .int 3, .ref (ad 5), .int (nI n)])), ((ad 5), .inl (G.2.1, 21, .inl pf)), ((ad 3), .inl (G.2.1, 7, .inl ck)), ((ad 2), .inl (G.2.1, 6, .inl wd))]) (q0 := 0) (ci := 8) C hW hl (c_X10_reach_ok l G (ad 1) (ad 2) (ad 3) (ad 4) (ad 6) (ad 8) (ad 10) (ad 12) wide (ad 5) n pf ck wd (ad 0) (ad 14) (ad 27) (ad 40) (ad 56) (ad 58) (ad 62) k1 k2 ab be bds nos fls k m9 hr (by first | assumption | omega) (by first | assumption | omega) (by assumption) (by first | assumption | omega) (by omega) (by assumption) (by assumption) (by assumption) _) k_ml_L_69 q_X10_reach ⟨⟨rfl, rfl⟩, Nat.le_of_ble_eq_true rfl, Nat.le_of_ble_eq_true rfl⟩ [0, 1, 4, 5, 3, 2] (by decide) rfl rfl rfl rfl rfl (Nat.le_of_ble_eq_true rfl) dL_law_526 ⟨hcl.1, hcl.2⟩) (fun r_1 er_1 => ?_)
    clear hW H locs; intro H locs hW
    refine lv_as (y := rch ck wd pf k (hr + m9) (pf (k * 3 + 1)) (ck 1)) er_1 ?_
    refine lv_aload_n hx hb dL_law_529 rfl (lv_at hl 2 rfl) ?_
    refine lv_aload_n hx hb dL_law_530 rfl (lv_at hl 0 rfl) ?_
    refine lv_iload_n hx hb dL_law_531 rfl (lv_at hl 3 rfl) ?_
    refine lv_iconst (v := 1) hx hb dL_law_532 (by decide) ?_
    refine lv_iadd hx hb dL_law_533 ?_
    refine lv_as (y := nI (i + 1)) (nI_add i 1) ?_
    refine va_sld hx hb hX hbl hbA hW.2.2 (vp_in_nI (n := i + 1) (by omega) (by omega)) dL_law_534 ?_
    refine lv_as (y := nI k) (by rw [nI_clamp (by omega)]; exact ek) ?_
    refine lv_aload_n hx hb dL_law_535 rfl (lv_at hl 0 rfl) ?_
    refine lv_iload_n hx hb dL_law_536 rfl (lv_at hl 3 rfl) ?_
    refine lv_iconst (v := 2) hx hb dL_law_537 (by decide) ?_
    refine lv_iadd hx hb dL_law_538 ?_
    refine lv_as (y := nI (i + 2)) (nI_add i 2) ?_
    refine va_sld hx hb hX hbl hbA hW.2.2 (vp_in_nI (n := i + 2) (by omega) (by omega)) dL_law_539 ?_
    refine lv_as (y := nI m9) (by rw [nI_clamp (by omega)]; exact em9) ?_
    refine g_fi C hW [64, 65] rfl (g_runV (As := [.int (nI k), .int (nI m9)]) (rest := [.int (rch ck wd pf k (hr + m9) (pf (k * 3 + 1)) (ck 1))]) (wc := [((ad 64), .inr (9, [.ref (ad 65), .ref (ad 66), .ref (ad 67), .ref (ad 68), .long mab, .long mbe, .ref (ad 69), .ref (ad 70), .ref (ad 71), .ref (ad 72), .int (nI tn), .int tA, .int tL, .int tK, .int tV, .ref (ad 73), .ref (ad 74)])), ((ad 65), .inl (G.2.1, 159, .inl a))]) (q0 := 0) (ci := 9) C hW hl (c_X11_reach_ok l G (ad 64) (ad 65) (ad 66) (ad 67) (ad 68) (ad 69) (ad 70) (ad 71) (ad 72) (ad 73) (ad 74) mab mbe (nI tn) tA tL tK tV a n k m9 hr (by first | assumption | omega) (by first | assumption | omega) (by first | assumption | omega) (by first | assumption | omega) (by first | assumption | omega) (by omega) _) k_ml_L_72 q_X11_reach ⟨⟨rfl, rfl⟩, Nat.le_of_ble_eq_true rfl, Nat.le_of_ble_eq_true rfl⟩ [64, 65] (by decide) rfl rfl rfl rfl rfl (Nat.le_of_ble_eq_true rfl) dL_law_540 ⟨hcl.1, hcl.2⟩) (fun r_2 er_2 => ?_)
    clear hW H locs; intro H locs hW
    refine lv_as (y := rcA a k (hr + m9) (a (26 + k)) (a 7)) er_2 ?_
    refine lv_as (y := rch ck wd pf k (hr + m9) (pf (k * 3 + 1)) (ck 1)) (by rw [rc_eq hV0 hk, (ep k hk).2.1, e7]) ?_
    refine lv_icmp_eq (tgt := 1149) hx hb dL_law_543 (by decide) (fun _ => ?_) (fun c9 => absurd rfl c9)
    exact K k1 k2 ab be bds nos fls wide wd ck n pf sn sf nn nf mn mf u uf ywide ywd yck yn ypf ysn ysf ynn ynf ymn ymf yu yuf zwide zwd zck zn zpf zsn zsf znn znf zmn zmf zu zuf tk tn tok stt en tf dwide dwd dck dn dpf dsn dsf dnn dnf dmn dmf du duf f0 cr td0 fs0 car rea fin ms mab mbe (nI tn) tA tL tK tV a kf jf rv sv hf ef tg b vf (⟨hV0.mono (by omega), hI1.mono (by omega), hI2.mono (by omega), ⟨htn, rfl, htt⟩, hPR, hCR⟩) _ _ _ hW hl
set_option maxHeartbeats 8000000 in
set_option maxRecDepth 100000 in
theorem st_may {p_ : Program} {l : Launch} {e_ : Env} {s_ : State} {m_ : MethodId} {ar_ : Array Value} {be_ : List Frame} {me_ : Method} {cd_ : Code} {cells slots : Nat} {Q : State → Prop} {G : gT} {A_ : Nat → Prop} {ad : Nat → Nat} {bS : Nat} {L i B : Nat} {xs : Nat → Int32} (hLA : LA p_ l e_ s_ m_ ar_ be_ me_ cd_ cells slots Q G A_ ad bS L xs) (hi : i + 4 < L) (hB : B ≤ 300) (K : KK p_ l e_ s_ m_ ar_ be_ me_ cd_ cells slots Q G A_ ad bS i (B + 1) 1149) : KK p_ l e_ s_ m_ ar_ be_ me_ cd_ cells slots Q G A_ ad bS i B 548 := by
  obtain ⟨C, hX, hbl, hbA, hL, hcl⟩ := hLA
  intro k1 k2 ab be bds nos fls wide wd ck n pf sn sf nn nf mn mf u uf ywide ywd yck yn ypf ysn ysf ynn ynf ymn ymf yu yuf zwide zwd zck zn zpf zsn zsf znn znf zmn zmf zu zuf tk tn tok stt en tf dwide dwd dck dn dpf dsn dsf dnn dnf dmn dmf du duf f0 cr td0 fs0 car rea fin ms mab mbe bL tA tL tK tV a kf jf rv sv hf ef tg b vf hR H locs ls hW hl
  have hx := C.1; have hb := C.2.1; have hown := C.2.2.2.1; have ht := C.2.2.2.2.1
  obtain ⟨hV, hI1, hI2, hT, hPR, hCR⟩ := hR
  have hV0 := hV
  obtain ⟨⟨hn, hs, ho, hm, hu⟩, ⟨hWd, hP, hH, hS, hO⟩, ⟨hck, hpa⟩, ⟨e0, e1, e2, e3, e4, e5⟩, ⟨ea, ew, ep⟩, ⟨es, eno, em, eu⟩⟩ := hV
  have hck0 := hck
  obtain ⟨⟨hr, eh, hh⟩, ⟨fh, eh2, hfl⟩, hup01, hg, ⟨k4, ek4, hk4⟩, ⟨d5, ed5, hd5⟩⟩ := hck
  have e8 : a 8 = nI fh := (ea 2 (by decide)).trans eh2
  have e12 : a 12 = nI hr := (ea 6 (by decide)).trans eh
  have e9 : a 9 = ck 3 := ea 3 (by decide)
  have e7 : a 7 = ck 1 := ea 1 (by decide)
  have e6 : a 6 = ck 0 := ea 0 (by decide)
  obtain ⟨htn, hbL, htt⟩ := hT
  subst hbL
  by_cases hup : ck 3 = 1
  · refine lv_aload_n hx hb dL_law_548 rfl (lv_at hl 1 rfl) ?_
    refine g_fi C hW [0, 1, 4, 5, 3, 2] rfl (g_runV (As := []) (rest := []) (wc := [((ad 0), .inr (8, [.ref (ad 1), .ref (ad 14), .ref (ad 27), .int k1, .int k2, .ref (ad 40), .ref (ad 56), .ref (ad 58), .ref (ad 62), .int ab, .int be, .int bds, .int nos, .int fls])), ((ad 1), .inr (7, [.int wide, .ref (ad 2), .ref (ad 3), .ref (ad 4), .ref (ad 6), .ref (ad 8), .ref (ad 10), .ref (ad 12)])), ((ad 4), .inr (4, [.int 7, .int 3, .ref (ad 5), .int (nI n)])), ((ad 5), .inl (G.2.1, 21, .inl pf)), ((ad 3), .inl (G.2.1, 7, .inl ck)), ((ad 2), .inl (G.2.1, 6, .inl wd))]) (q0 := 0) (ci := 8) C hW hl (c_X10_may_up l G (ad 1) (ad 2) (ad 3) (ad 4) (ad 6) (ad 8) (ad 10) (ad 12) wide (ad 5) n pf ck wd (ad 0) (ad 14) (ad 27) (ad 40) (ad 56) (ad 58) (ad 62) k1 k2 ab be bds nos fls hr (by exact hup) (by first | assumption | omega) (by assumption) (by omega) (by assumption) (by assumption) (by assumption) _) k_ml_L_73 q_X10_may ⟨⟨rfl, rfl⟩, Nat.le_of_ble_eq_true rfl, Nat.le_of_ble_eq_true rfl⟩ [0, 1, 4, 5, 3, 2] (by decide) rfl rfl rfl rfl rfl (Nat.le_of_ble_eq_true rfl) dL_law_549 ⟨hcl.1, hcl.2⟩) (fun r_1 er_1 => ?_)
    clear hW H locs; intro H locs hW
    refine lv_as (y := orF (fun i => decide (pf (i * 3 + 1) = ck 2) && decide (wide ≤ rch ck wd pf i hr (pf (i * 3 + 1)) (ck 1))) n) er_1 ?_
    refine lv_aload_n hx hb dL_law_552 rfl (lv_at hl 2 rfl) ?_
    refine g_fi C hW [64, 65] rfl (g_runV (As := []) (rest := [.int (orF (fun i => decide (pf (i * 3 + 1) = ck 2) && decide (wide ≤ rch ck wd pf i hr (pf (i * 3 + 1)) (ck 1))) n)]) (wc := [((ad 64), .inr (9, [.ref (ad 65), .ref (ad 66), .ref (ad 67), .ref (ad 68), .long mab, .long mbe, .ref (ad 69), .ref (ad 70), .ref (ad 71), .ref (ad 72), .int (nI tn), .int tA, .int tL, .int tK, .int tV, .ref (ad 73), .ref (ad 74)])), ((ad 65), .inl (G.2.1, 159, .inl a))]) (q0 := 0) (ci := 9) C hW hl (c_X11_may l G (ad 64) (ad 65) (ad 66) (ad 67) (ad 68) (ad 69) (ad 70) (ad 71) (ad 72) (ad 73) (ad 74) mab mbe (nI tn) tA tL tK tV a n hr (by first | assumption | omega) (by first | assumption | omega) (by first | assumption | omega) (by first | assumption | omega) _) k_ml_L_76 q_X11_may ⟨⟨rfl, rfl⟩, Nat.le_of_ble_eq_true rfl, Nat.le_of_ble_eq_true rfl⟩ [64, 65] (by decide) rfl rfl rfl rfl rfl (Nat.le_of_ble_eq_true rfl) dL_law_553 ⟨hcl.1, hcl.2⟩) (fun r_2 er_2 => ?_)
    clear hW H locs; intro H locs hW
    refine lv_as (y := orF (fun i => atA a i && crA a i hr (a 8)) n) er_2 ?_
    refine lv_as (y := orF (fun i => decide (pf (i * 3 + 1) = ck 2) && decide (wide ≤ rch ck wd pf i hr (pf (i * 3 + 1)) (ck 1))) n) (may_up hV0 hup) ?_
    refine lv_icmp_eq (tgt := 1149) hx hb dL_law_556 (by decide) (fun _ => ?_) (fun c9 => absurd rfl c9)
    exact K k1 k2 ab be bds nos fls wide wd ck n pf sn sf nn nf mn mf u uf ywide ywd yck yn ypf ysn ysf ynn ynf ymn ymf yu yuf zwide zwd zck zn zpf zsn zsf znn znf zmn zmf zu zuf tk tn tok stt en tf dwide dwd dck dn dpf dsn dsf dnn dnf dmn dmf du duf f0 cr td0 fs0 car rea fin ms mab mbe (nI tn) tA tL tK tV a kf jf rv sv hf ef tg b vf (⟨hV0.mono (by omega), hI1.mono (by omega), hI2.mono (by omega), ⟨htn, rfl, htt⟩, hPR, hCR⟩) _ _ _ hW hl
  · refine lv_aload_n hx hb dL_law_548 rfl (lv_at hl 1 rfl) ?_
    refine g_fi C hW [0, 1, 3] rfl (g_runV (As := []) (rest := []) (wc := [((ad 0), .inr (8, [.ref (ad 1), .ref (ad 14), .ref (ad 27), .int k1, .int k2, .ref (ad 40), .ref (ad 56), .ref (ad 58), .ref (ad 62), .int ab, .int be, .int bds, .int nos, .int fls])), ((ad 1), .inr (7, [.int wide, .ref (ad 2), .ref (ad 3), .ref (ad 4), .ref (ad 6), .ref (ad 8), .ref (ad 10), .ref (ad 12)])), ((ad 3), .inl (G.2.1, 7, .inl ck))]) (q0 := 0) (ci := 8) C hW hl (c_X10_may_down l G (ad 1) (ad 2) (ad 3) (ad 4) (ad 6) (ad 8) (ad 10) (ad 12) wide (ad 0) (ad 14) (ad 27) (ad 40) (ad 56) (ad 58) (ad 62) k1 k2 ab be bds nos fls ck (by exact hup) _) k_ml_L_73 q_X10_may ⟨⟨rfl, rfl⟩, Nat.le_of_ble_eq_true rfl, Nat.le_of_ble_eq_true rfl⟩ [0, 1, 3] (by decide) rfl rfl rfl rfl rfl (Nat.le_of_ble_eq_true rfl) dL_law_549 ⟨hcl.1, hcl.2⟩) (fun r_1 er_1 => ?_)
    clear hW H locs; intro H locs hW
    refine lv_as (y := 0) er_1 ?_
    refine lv_aload_n hx hb dL_law_552 rfl (lv_at hl 2 rfl) ?_
    refine g_fi C hW [64, 65] rfl (g_runV (As := []) (rest := [.int 0]) (wc := [((ad 64), .inr (9, [.ref (ad 65), .ref (ad 66), .ref (ad 67), .ref (ad 68), .long mab, .long mbe, .ref (ad 69), .ref (ad 70), .ref (ad 71), .ref (ad 72), .int (nI tn), .int tA, .int tL, .int tK, .int tV, .ref (ad 73), .ref (ad 74)])), ((ad 65), .inl (G.2.1, 159, .inl a))]) (q0 := 0) (ci := 9) C hW hl (c_X11_may l G (ad 64) (ad 65) (ad 66) (ad 67) (ad 68) (ad 69) (ad 70) (ad 71) (ad 72) (ad 73) (ad 74) mab mbe (nI tn) tA tL tK tV a n hr (by first | assumption | omega) (by first | assumption | omega) (by first | assumption | omega) (by first | assumption | omega) _) k_ml_L_76 q_X11_may ⟨⟨rfl, rfl⟩, Nat.le_of_ble_eq_true rfl, Nat.le_of_ble_eq_true rfl⟩ [64, 65] (by decide) rfl rfl rfl rfl rfl (Nat.le_of_ble_eq_true rfl) dL_law_553 ⟨hcl.1, hcl.2⟩) (fun r_2 er_2 => ?_)
    clear hW H locs; intro H locs hW
    refine lv_as (y := orF (fun i => atA a i && crA a i hr (a 8)) n) er_2 ?_
    refine lv_as (y := 0) (may_down hV0 hup) ?_
    refine lv_icmp_eq (tgt := 1149) hx hb dL_law_556 (by decide) (fun _ => ?_) (fun c9 => absurd rfl c9)
    exact K k1 k2 ab be bds nos fls wide wd ck n pf sn sf nn nf mn mf u uf ywide ywd yck yn ypf ysn ysf ynn ynf ymn ymf yu yuf zwide zwd zck zn zpf zsn zsf znn znf zmn zmf zu zuf tk tn tok stt en tf dwide dwd dck dn dpf dsn dsf dnn dnf dmn dmf du duf f0 cr td0 fs0 car rea fin ms mab mbe (nI tn) tA tL tK tV a kf jf rv sv hf ef tg b vf (⟨hV0.mono (by omega), hI1.mono (by omega), hI2.mono (by omega), ⟨htn, rfl, htt⟩, hPR, hCR⟩) _ _ _ hW hl
