set_option maxHeartbeats 8000000 in
set_option maxRecDepth 100000 in
theorem st_type {p_ : Program} {l : Launch} {e_ : Env} {s_ : State} {m_ : MethodId} {ar_ : Array Value} {be_ : List Frame} {me_ : Method} {cd_ : Code} {cells slots : Nat} {Q : State → Prop} {G : gT} {A_ : Nat → Prop} {ad : Nat → Nat} {bS : Nat} {L i B : Nat} {xs : Nat → Int32} (hLA : LA p_ l e_ s_ m_ ar_ be_ me_ cd_ cells slots Q G A_ ad bS L xs) (hi : i + 4 < L) (hB : B ≤ 300) (K : KK p_ l e_ s_ m_ ar_ be_ me_ cd_ cells slots Q G A_ ad bS i (B + 1) 1149) : KK p_ l e_ s_ m_ ar_ be_ me_ cd_ cells slots Q G A_ ad bS i B 295 := by
  obtain ⟨C, hX, hbl, hbA, hL, hcl⟩ := hLA
  intro k1 k2 ab be bds nos fls wide wd ck n pf sn sf nn nf mn mf u uf ywide ywd yck yn ypf ysn ysf ynn ynf ymn ymf yu yuf zwide zwd zck zn zpf zsn zsf znn znf zmn zmf zu zuf tk tn tok stt en tf dwide dwd dck dn dpf dsn dsf dnn dnf dmn dmf du duf f0 cr td0 fs0 car rea fin ms mab mbe bL tA tL tK tV a kf jf rv sv hf ef tg b vf hR H locs ls hW hl
  have hx := C.1; have hb := C.2.1; have hown := C.2.2.2.1; have ht := C.2.2.2.2.1
  obtain ⟨hV, hI1, hI2, hT, hPR, hCR⟩ := hR
  have hV0 := hV
  obtain ⟨⟨hn, hs, ho, hm, hu⟩, ⟨hWd, hP, hH, hS, hO⟩, ⟨hck, hpa⟩, ⟨e0, e1, e2, e3, e4, e5⟩, ⟨ea, ew, ep⟩, ⟨es, eno, em, eu⟩⟩ := hV
  have hck0 := hck
  obtain ⟨⟨hr, eh, hh⟩, ⟨fh, eh2, hfl⟩, hup01, hg, ⟨k4, ek4, hk4⟩, ⟨d5, ed5, hd5⟩⟩ := hck
  have e8 : a 8 = nI fh := (ea 2 (by decide)).trans eh2
  have e12 : a 12 = nI hr := (ea 6 (by decide)).trans eh
  have e9 : a 9 = ck 3 := ea 3 (by decide)
  have e7 : a 7 = ck 1 := ea 1 (by decide)
  have e6 : a 6 = ck 0 := ea 0 (by decide)
  obtain ⟨htn, hbL, htt⟩ := hT
  subst hbL
  cases hc : iw (xs (i + 1)) 0 127 with
  | false =>
    refine lv_aload_n hx hb dL_law_295 rfl (lv_at hl 1 rfl) ?_
    refine lv_aload_n hx hb dL_law_296 rfl (lv_at hl 0 rfl) ?_
    refine lv_iload_n hx hb dL_law_297 rfl (lv_at hl 3 rfl) ?_
    refine lv_iconst (v := 1) hx hb dL_law_298 (by decide) ?_
    refine lv_iadd hx hb dL_law_299 ?_
    refine lv_as (y := nI (i + 1)) (nI_add i 1) ?_
    refine va_sld hx hb hX hbl hbA hW.2.2 (vp_in_nI (n := i + 1) (by omega) (by omega)) dL_law_300 ?_
    refine lv_as (y := xs (i + 1)) (by rw [nI_clamp (by omega)]) ?_
    refine g_fiS (ww := fun (u_ : Unit) => [((ad 0), .inr (8, [.ref (ad 1), .ref (ad 14), .ref (ad 27), .int k1, .int k2, .ref (ad 40), .ref (ad 56), .ref (ad 58), .ref (ad 62), .int ab, .int be, .int (bds + 1), .int nos, .int fls]))]) (w2 := fun (u_ : Unit) => LW G ad k1 k2 ab be (bds + 1) nos fls wide wd ck n pf sn sf nn nf mn mf u uf ywide ywd yck yn ypf ysn ysf ynn ynf ymn ymf yu yuf zwide zwd zck zn zpf zsn zsf znn znf zmn zmf zu zuf tk tn tok stt en tf dwide dwd dck dn dpf dsn dsf dnn dnf dmn dmf du duf f0 cr td0 fs0 car rea fin ms mab mbe (nI tn) tA tL tK tV a kf jf rv sv hf ef tg b vf) C hW [0] rfl (fun _ => rfl) (fun _ => rfl) (fun _ => lw_fst.trans lw_fst.symm) (g_runV (As := [.int (xs (i + 1))]) (rest := []) (wc := [((ad 0), .inr (8, [.ref (ad 1), .ref (ad 14), .ref (ad 27), .int k1, .int k2, .ref (ad 40), .ref (ad 56), .ref (ad 58), .ref (ad 62), .int ab, .int be, .int bds, .int nos, .int fls]))]) (q0 := 0) (ci := 8) C hW hl (c_X10_type_bad l G (ad 1) (ad 0) (ad 14) (ad 27) (ad 40) (ad 56) (ad 58) (ad 62) k1 k2 ab be bds nos fls (xs (i + 1)) (by exact hc) _) k_ml_L_28 q_X10_type ⟨⟨rfl, rfl⟩, Nat.le_of_ble_eq_true rfl, Nat.le_of_ble_eq_true rfl⟩ [0] (by decide) rfl rfl rfl rfl rfl (Nat.le_of_ble_eq_true rfl) dL_law_301 ⟨hcl.1, hcl.2⟩) (fun r_1 _ er_1 => ?_)
    clear hW H locs; intro H locs hW
    replace hW : Wd G A_ s_.heap (LW G ad k1 k2 ab be (bds + 1) nos fls wide wd ck n pf sn sf nn nf mn mf u uf ywide ywd yck yn ypf ysn ysf ynn ynf ymn ymf yu yuf zwide zwd zck zn zpf zsn zsf znn znf zmn zmf zu zuf tk tn tok stt en tf dwide dwd dck dn dpf dsn dsf dnn dnf dmn dmf du duf f0 cr td0 fs0 car rea fin ms mab mbe (nI tn) tA tL tK tV a kf jf rv sv hf ef tg b vf) H locs := hW
    refine lv_as (y := (-2)) er_1 ?_
    refine lv_aload_n hx hb dL_law_304 rfl (lv_at hl 2 rfl) ?_
    refine lv_aload_n hx hb dL_law_305 rfl (lv_at hl 0 rfl) ?_
    refine lv_iload_n hx hb dL_law_306 rfl (lv_at hl 3 rfl) ?_
    refine lv_iconst (v := 1) hx hb dL_law_307 (by decide) ?_
    refine lv_iadd hx hb dL_law_308 ?_
    refine lv_as (y := nI (i + 1)) (nI_add i 1) ?_
    refine va_sld hx hb hX hbl hbA hW.2.2 (vp_in_nI (n := i + 1) (by omega) (by omega)) dL_law_309 ?_
    refine lv_as (y := xs (i + 1)) (by rw [nI_clamp (by omega)]) ?_
    refine g_fiS (ww := fun (u_ : Unit) => [((ad 64), .inr (9, [.ref (ad 65), .ref (ad 66), .ref (ad 67), .ref (ad 68), .long mab, .long mbe, .ref (ad 69), .ref (ad 70), .ref (ad 71), .ref (ad 72), .int (nI tn), .int tA, .int tL, .int tK, .int tV, .ref (ad 73), .ref (ad 74)])), ((ad 68), .inl (G.2.1, 3, .inl (upd rv 0 (rv 0 + 1))))]) (w2 := fun (u_ : Unit) => LW G ad k1 k2 ab be (bds + 1) nos fls wide wd ck n pf sn sf nn nf mn mf u uf ywide ywd yck yn ypf ysn ysf ynn ynf ymn ymf yu yuf zwide zwd zck zn zpf zsn zsf znn znf zmn zmf zu zuf tk tn tok stt en tf dwide dwd dck dn dpf dsn dsf dnn dnf dmn dmf du duf f0 cr td0 fs0 car rea fin ms mab mbe (nI tn) tA tL tK tV a kf jf (upd rv 0 (rv 0 + 1)) sv hf ef tg b vf) C hW [64, 68] rfl (fun _ => rfl) (fun _ => rfl) (fun _ => lw_fst.trans lw_fst.symm) (g_runV (As := [.int (xs (i + 1))]) (rest := [.int (-2)]) (wc := [((ad 64), .inr (9, [.ref (ad 65), .ref (ad 66), .ref (ad 67), .ref (ad 68), .long mab, .long mbe, .ref (ad 69), .ref (ad 70), .ref (ad 71), .ref (ad 72), .int (nI tn), .int tA, .int tL, .int tK, .int tV, .ref (ad 73), .ref (ad 74)])), ((ad 68), .inl (G.2.1, 3, .inl rv))]) (q0 := 0) (ci := 9) C hW hl (c_X11_type_bad l G (ad 64) (ad 65) (ad 66) (ad 67) (ad 68) (ad 69) (ad 70) (ad 71) (ad 72) (ad 73) (ad 74) mab mbe (nI tn) tA tL tK tV rv (xs (i + 1)) (by exact hc) _) k_ml_L_31 q_X11_type ⟨⟨rfl, rfl⟩, Nat.le_of_ble_eq_true rfl, Nat.le_of_ble_eq_true rfl⟩ [64, 68] (by decide) rfl rfl rfl rfl rfl (Nat.le_of_ble_eq_true rfl) dL_law_310 ⟨hcl.1, hcl.2⟩) (fun r_3 _ er_3 => ?_)
    clear hW H locs; intro H locs hW
    replace hW : Wd G A_ s_.heap (LW G ad k1 k2 ab be (bds + 1) nos fls wide wd ck n pf sn sf nn nf mn mf u uf ywide ywd yck yn ypf ysn ysf ynn ynf ymn ymf yu yuf zwide zwd zck zn zpf zsn zsf znn znf zmn zmf zu zuf tk tn tok stt en tf dwide dwd dck dn dpf dsn dsf dnn dnf dmn dmf du duf f0 cr td0 fs0 car rea fin ms mab mbe (nI tn) tA tL tK tV a kf jf (upd rv 0 (rv 0 + 1)) sv hf ef tg b vf) H locs := hW
    refine lv_as (y := (-2)) er_3 ?_
    refine lv_as (y := (-2)) (rfl) ?_
    refine lv_icmp_eq (tgt := 1149) hx hb dL_law_313 (by decide) (fun _ => ?_) (fun c9 => absurd rfl c9)
    exact K k1 k2 ab be (bds + 1) nos fls wide wd ck n pf sn sf nn nf mn mf u uf ywide ywd yck yn ypf ysn ysf ynn ynf ymn ymf yu yuf zwide zwd zck zn zpf zsn zsf znn znf zmn zmf zu zuf tk tn tok stt en tf dwide dwd dck dn dpf dsn dsf dnn dnf dmn dmf du duf f0 cr td0 fs0 car rea fin ms mab mbe (nI tn) tA tL tK tV a kf jf (upd rv 0 (rv 0 + 1)) sv hf ef tg b vf (⟨hV0.mono (by omega), hI1.mono (by omega), hI2.mono (by omega), ⟨htn, rfl, htt⟩, hPR, CR_bad hCR⟩) _ _ _ hW hl
  | true =>
    rcases Nat.lt_or_ge tn 150 with hn9 | hn9
    · refine lv_aload_n hx hb dL_law_295 rfl (lv_at hl 1 rfl) ?_
      refine lv_aload_n hx hb dL_law_296 rfl (lv_at hl 0 rfl) ?_
      refine lv_iload_n hx hb dL_law_297 rfl (lv_at hl 3 rfl) ?_
      refine lv_iconst (v := 1) hx hb dL_law_298 (by decide) ?_
      refine lv_iadd hx hb dL_law_299 ?_
      refine lv_as (y := nI (i + 1)) (nI_add i 1) ?_
      refine va_sld hx hb hX hbl hbA hW.2.2 (vp_in_nI (n := i + 1) (by omega) (by omega)) dL_law_300 ?_
      refine lv_as (y := xs (i + 1)) (by rw [nI_clamp (by omega)]) ?_
      refine g_fiS (ww := fun (u_ : Unit) => [((ad 0), .inr (8, [.ref (ad 1), .ref (ad 14), .ref (ad 27), .int k1, .int k2, .ref (ad 40), .ref (ad 56), .ref (ad 58), .ref (ad 62), .int ab, .int be, .int bds, .int nos, .int fls])), ((ad 40), .inr (3, [.ref (ad 41), .ref (ad 43), .int tk])), ((ad 41), .inr (6, [.ref (ad 42), .int (nI (tn + 1)), .int tok, .int stt, .int en])), ((ad 42), .inl (G.2.1, 150, .inl (upd tf tn (xs (i + 1)))))]) (w2 := fun (u_ : Unit) => LW G ad k1 k2 ab be bds nos fls wide wd ck n pf sn sf nn nf mn mf u uf ywide ywd yck yn ypf ysn ysf ynn ynf ymn ymf yu yuf zwide zwd zck zn zpf zsn zsf znn znf zmn zmf zu zuf tk (tn + 1) tok stt en (upd tf tn (xs (i + 1))) dwide dwd dck dn dpf dsn dsf dnn dnf dmn dmf du duf f0 cr td0 fs0 car rea fin ms mab mbe (nI tn) tA tL tK tV a kf jf rv sv hf ef tg b vf) C hW [0, 40, 41, 42] rfl (fun _ => rfl) (fun _ => rfl) (fun _ => lw_fst.trans lw_fst.symm) (g_runV (As := [.int (xs (i + 1))]) (rest := []) (wc := [((ad 0), .inr (8, [.ref (ad 1), .ref (ad 14), .ref (ad 27), .int k1, .int k2, .ref (ad 40), .ref (ad 56), .ref (ad 58), .ref (ad 62), .int ab, .int be, .int bds, .int nos, .int fls])), ((ad 40), .inr (3, [.ref (ad 41), .ref (ad 43), .int tk])), ((ad 41), .inr (6, [.ref (ad 42), .int (nI tn), .int tok, .int stt, .int en])), ((ad 42), .inl (G.2.1, 150, .inl tf))]) (q0 := 0) (ci := 8) C hW hl (c_X10_type_ok l G (ad 1) (ad 0) (ad 14) (ad 27) (ad 40) (ad 56) (ad 58) (ad 62) k1 k2 ab be bds nos fls (ad 41) (ad 43) (ad 42) tn tk tok stt en tf (xs (i + 1)) (by exact hc) (by omega) _) k_ml_L_28 q_X10_type ⟨⟨rfl, rfl⟩, Nat.le_of_ble_eq_true rfl, Nat.le_of_ble_eq_true rfl⟩ [0, 40, 41, 42] (by decide) rfl rfl rfl rfl rfl (Nat.le_of_ble_eq_true rfl) dL_law_301 ⟨hcl.1, hcl.2⟩) (fun r_1 _ er_1 => ?_)
      clear hW H locs; intro H locs hW
      replace hW : Wd G A_ s_.heap (LW G ad k1 k2 ab be bds nos fls wide wd ck n pf sn sf nn nf mn mf u uf ywide ywd yck yn ypf ysn ysf ynn ynf ymn ymf yu yuf zwide zwd zck zn zpf zsn zsf znn znf zmn zmf zu zuf tk (tn + 1) tok stt en (upd tf tn (xs (i + 1))) dwide dwd dck dn dpf dsn dsf dnn dnf dmn dmf du duf f0 cr td0 fs0 car rea fin ms mab mbe (nI tn) tA tL tK tV a kf jf rv sv hf ef tg b vf) H locs := hW
      refine lv_as (y := nI (tn + 1)) er_1 ?_
      refine lv_aload_n hx hb dL_law_304 rfl (lv_at hl 2 rfl) ?_
      refine lv_aload_n hx hb dL_law_305 rfl (lv_at hl 0 rfl) ?_
      refine lv_iload_n hx hb dL_law_306 rfl (lv_at hl 3 rfl) ?_
      refine lv_iconst (v := 1) hx hb dL_law_307 (by decide) ?_
      refine lv_iadd hx hb dL_law_308 ?_
      refine lv_as (y := nI (i + 1)) (nI_add i 1) ?_
      refine va_sld hx hb hX hbl hbA hW.2.2 (vp_in_nI (n := i + 1) (by omega) (by omega)) dL_law_309 ?_
      refine lv_as (y := xs (i + 1)) (by rw [nI_clamp (by omega)]) ?_
      refine g_fiS (ww := fun (u_ : Unit) => [((ad 64), .inr (9, [.ref (ad 65), .ref (ad 66), .ref (ad 67), .ref (ad 68), .long mab, .long mbe, .ref (ad 69), .ref (ad 70), .ref (ad 71), .ref (ad 72), .int (nI (tn + 1)), .int tA, .int tL, .int tK, .int tV, .ref (ad 73), .ref (ad 74)])), ((ad 72), .inl (G.2.1, 150, .inl (upd tg tn (xs (i + 1)))))]) (w2 := fun (u_ : Unit) => LW G ad k1 k2 ab be bds nos fls wide wd ck n pf sn sf nn nf mn mf u uf ywide ywd yck yn ypf ysn ysf ynn ynf ymn ymf yu yuf zwide zwd zck zn zpf zsn zsf znn znf zmn zmf zu zuf tk (tn + 1) tok stt en (upd tf tn (xs (i + 1))) dwide dwd dck dn dpf dsn dsf dnn dnf dmn dmf du duf f0 cr td0 fs0 car rea fin ms mab mbe (nI (tn + 1)) tA tL tK tV a kf jf rv sv hf ef (upd tg tn (xs (i + 1))) b vf) C hW [64, 72] rfl (fun _ => rfl) (fun _ => rfl) (fun _ => lw_fst.trans lw_fst.symm) (g_runV (As := [.int (xs (i + 1))]) (rest := [.int (nI (tn + 1))]) (wc := [((ad 64), .inr (9, [.ref (ad 65), .ref (ad 66), .ref (ad 67), .ref (ad 68), .long mab, .long mbe, .ref (ad 69), .ref (ad 70), .ref (ad 71), .ref (ad 72), .int (nI tn), .int tA, .int tL, .int tK, .int tV, .ref (ad 73), .ref (ad 74)])), ((ad 72), .inl (G.2.1, 150, .inl tg))]) (q0 := 0) (ci := 9) C hW hl (c_X11_type_ok l G (ad 64) (ad 65) (ad 66) (ad 67) (ad 68) (ad 69) (ad 70) (ad 71) (ad 72) (ad 73) (ad 74) mab mbe tA tL tK tV tn tg (xs (i + 1)) (by exact hc) (by omega) _) k_ml_L_31 q_X11_type ⟨⟨rfl, rfl⟩, Nat.le_of_ble_eq_true rfl, Nat.le_of_ble_eq_true rfl⟩ [64, 72] (by decide) rfl rfl rfl rfl rfl (Nat.le_of_ble_eq_true rfl) dL_law_310 ⟨hcl.1, hcl.2⟩) (fun r_3 _ er_3 => ?_)
      clear hW H locs; intro H locs hW
      replace hW : Wd G A_ s_.heap (LW G ad k1 k2 ab be bds nos fls wide wd ck n pf sn sf nn nf mn mf u uf ywide ywd yck yn ypf ysn ysf ynn ynf ymn ymf yu yuf zwide zwd zck zn zpf zsn zsf znn znf zmn zmf zu zuf tk (tn + 1) tok stt en (upd tf tn (xs (i + 1))) dwide dwd dck dn dpf dsn dsf dnn dnf dmn dmf du duf f0 cr td0 fs0 car rea fin ms mab mbe (nI (tn + 1)) tA tL tK tV a kf jf rv sv hf ef (upd tg tn (xs (i + 1))) b vf) H locs := hW
      refine lv_as (y := nI (tn + 1)) er_3 ?_
      refine lv_as (y := nI (tn + 1)) (rfl) ?_
      refine lv_icmp_eq (tgt := 1149) hx hb dL_law_313 (by decide) (fun _ => ?_) (fun c9 => absurd rfl c9)
      exact K k1 k2 ab be bds nos fls wide wd ck n pf sn sf nn nf mn mf u uf ywide ywd yck yn ypf ysn ysf ynn ynf ymn ymf yu yuf zwide zwd zck zn zpf zsn zsf znn znf zmn zmf zu zuf tk (tn + 1) tok stt en (upd tf tn (xs (i + 1))) dwide dwd dck dn dpf dsn dsf dnn dnf dmn dmf du duf f0 cr td0 fs0 car rea fin ms mab mbe (nI (tn + 1)) tA tL tK tV a kf jf rv sv hf ef (upd tg tn (xs (i + 1))) b vf (⟨hV0.mono (by omega), hI1.mono (by omega), hI2.mono (by omega), ⟨by omega, rfl, by rw [htt]⟩, hPR, hCR⟩) _ _ _ hW hl
    · refine lv_aload_n hx hb dL_law_295 rfl (lv_at hl 1 rfl) ?_
      refine lv_aload_n hx hb dL_law_296 rfl (lv_at hl 0 rfl) ?_
      refine lv_iload_n hx hb dL_law_297 rfl (lv_at hl 3 rfl) ?_
      refine lv_iconst (v := 1) hx hb dL_law_298 (by decide) ?_
      refine lv_iadd hx hb dL_law_299 ?_
      refine lv_as (y := nI (i + 1)) (nI_add i 1) ?_
      refine va_sld hx hb hX hbl hbA hW.2.2 (vp_in_nI (n := i + 1) (by omega) (by omega)) dL_law_300 ?_
      refine lv_as (y := xs (i + 1)) (by rw [nI_clamp (by omega)]) ?_
      refine g_fiS (ww := fun (u_ : Unit) => [((ad 0), .inr (8, [.ref (ad 1), .ref (ad 14), .ref (ad 27), .int k1, .int k2, .ref (ad 40), .ref (ad 56), .ref (ad 58), .ref (ad 62), .int ab, .int be, .int bds, .int nos, .int (fls + 1)])), ((ad 40), .inr (3, [.ref (ad 41), .ref (ad 43), .int tk])), ((ad 41), .inr (6, [.ref (ad 42), .int (nI tn), .int tok, .int stt, .int en])), ((ad 42), .inl (G.2.1, 150, .inl tf))]) (w2 := fun (u_ : Unit) => LW G ad k1 k2 ab be bds nos (fls + 1) wide wd ck n pf sn sf nn nf mn mf u uf ywide ywd yck yn ypf ysn ysf ynn ynf ymn ymf yu yuf zwide zwd zck zn zpf zsn zsf znn znf zmn zmf zu zuf tk tn tok stt en tf dwide dwd dck dn dpf dsn dsf dnn dnf dmn dmf du duf f0 cr td0 fs0 car rea fin ms mab mbe (nI tn) tA tL tK tV a kf jf rv sv hf ef tg b vf) C hW [0, 40, 41, 42] rfl (fun _ => rfl) (fun _ => rfl) (fun _ => lw_fst.trans lw_fst.symm) (g_runV (As := [.int (xs (i + 1))]) (rest := []) (wc := [((ad 0), .inr (8, [.ref (ad 1), .ref (ad 14), .ref (ad 27), .int k1, .int k2, .ref (ad 40), .ref (ad 56), .ref (ad 58), .ref (ad 62), .int ab, .int be, .int bds, .int nos, .int fls])), ((ad 40), .inr (3, [.ref (ad 41), .ref (ad 43), .int tk])), ((ad 41), .inr (6, [.ref (ad 42), .int (nI tn), .int tok, .int stt, .int en])), ((ad 42), .inl (G.2.1, 150, .inl tf))]) (q0 := 0) (ci := 8) C hW hl (c_X10_type_full l G (ad 1) (ad 0) (ad 14) (ad 27) (ad 40) (ad 56) (ad 58) (ad 62) k1 k2 ab be bds nos fls (ad 41) (ad 43) (ad 42) tn tk tok stt en tf (xs (i + 1)) (by exact hc) (by omega) _) k_ml_L_28 q_X10_type ⟨⟨rfl, rfl⟩, Nat.le_of_ble_eq_true rfl, Nat.le_of_ble_eq_true rfl⟩ [0, 40, 41, 42] (by decide) rfl rfl rfl rfl rfl (Nat.le_of_ble_eq_true rfl) dL_law_301 ⟨hcl.1, hcl.2⟩) (fun r_1 _ er_1 => ?_)
      clear hW H locs; intro H locs hW
      replace hW : Wd G A_ s_.heap (LW G ad k1 k2 ab be bds nos (fls + 1) wide wd ck n pf sn sf nn nf mn mf u uf ywide ywd yck yn ypf ysn ysf ynn ynf ymn ymf yu yuf zwide zwd zck zn zpf zsn zsf znn znf zmn zmf zu zuf tk tn tok stt en tf dwide dwd dck dn dpf dsn dsf dnn dnf dmn dmf du duf f0 cr td0 fs0 car rea fin ms mab mbe (nI tn) tA tL tK tV a kf jf rv sv hf ef tg b vf) H locs := hW
      refine lv_as (y := (-4)) er_1 ?_
      refine lv_aload_n hx hb dL_law_304 rfl (lv_at hl 2 rfl) ?_
      refine lv_aload_n hx hb dL_law_305 rfl (lv_at hl 0 rfl) ?_
      refine lv_iload_n hx hb dL_law_306 rfl (lv_at hl 3 rfl) ?_
      refine lv_iconst (v := 1) hx hb dL_law_307 (by decide) ?_
      refine lv_iadd hx hb dL_law_308 ?_
      refine lv_as (y := nI (i + 1)) (nI_add i 1) ?_
      refine va_sld hx hb hX hbl hbA hW.2.2 (vp_in_nI (n := i + 1) (by omega) (by omega)) dL_law_309 ?_
      refine lv_as (y := xs (i + 1)) (by rw [nI_clamp (by omega)]) ?_
      refine g_fiS (ww := fun (u_ : Unit) => [((ad 64), .inr (9, [.ref (ad 65), .ref (ad 66), .ref (ad 67), .ref (ad 68), .long mab, .long mbe, .ref (ad 69), .ref (ad 70), .ref (ad 71), .ref (ad 72), .int (nI tn), .int tA, .int tL, .int tK, .int tV, .ref (ad 73), .ref (ad 74)])), ((ad 68), .inl (G.2.1, 3, .inl (upd rv 2 (rv 2 + 1))))]) (w2 := fun (u_ : Unit) => LW G ad k1 k2 ab be bds nos (fls + 1) wide wd ck n pf sn sf nn nf mn mf u uf ywide ywd yck yn ypf ysn ysf ynn ynf ymn ymf yu yuf zwide zwd zck zn zpf zsn zsf znn znf zmn zmf zu zuf tk tn tok stt en tf dwide dwd dck dn dpf dsn dsf dnn dnf dmn dmf du duf f0 cr td0 fs0 car rea fin ms mab mbe (nI tn) tA tL tK tV a kf jf (upd rv 2 (rv 2 + 1)) sv hf ef tg b vf) C hW [64, 68] rfl (fun _ => rfl) (fun _ => rfl) (fun _ => lw_fst.trans lw_fst.symm) (g_runV (As := [.int (xs (i + 1))]) (rest := [.int (-4)]) (wc := [((ad 64), .inr (9, [.ref (ad 65), .ref (ad 66), .ref (ad 67), .ref (ad 68), .long mab, .long mbe, .ref (ad 69), .ref (ad 70), .ref (ad 71), .ref (ad 72), .int (nI tn), .int tA, .int tL, .int tK, .int tV, .ref (ad 73), .ref (ad 74)])), ((ad 68), .inl (G.2.1, 3, .inl rv))]) (q0 := 0) (ci := 9) C hW hl (c_X11_type_full l G (ad 64) (ad 65) (ad 66) (ad 67) (ad 68) (ad 69) (ad 70) (ad 71) (ad 72) (ad 73) (ad 74) mab mbe tA tL tK tV tn tf rv (xs (i + 1)) (by exact hc) (by omega) _) k_ml_L_31 q_X11_type ⟨⟨rfl, rfl⟩, Nat.le_of_ble_eq_true rfl, Nat.le_of_ble_eq_true rfl⟩ [64, 68] (by decide) rfl rfl rfl rfl rfl (Nat.le_of_ble_eq_true rfl) dL_law_310 ⟨hcl.1, hcl.2⟩) (fun r_3 _ er_3 => ?_)
      clear hW H locs; intro H locs hW
      replace hW : Wd G A_ s_.heap (LW G ad k1 k2 ab be bds nos (fls + 1) wide wd ck n pf sn sf nn nf mn mf u uf ywide ywd yck yn ypf ysn ysf ynn ynf ymn ymf yu yuf zwide zwd zck zn zpf zsn zsf znn znf zmn zmf zu zuf tk tn tok stt en tf dwide dwd dck dn dpf dsn dsf dnn dnf dmn dmf du duf f0 cr td0 fs0 car rea fin ms mab mbe (nI tn) tA tL tK tV a kf jf (upd rv 2 (rv 2 + 1)) sv hf ef tg b vf) H locs := hW
      refine lv_as (y := (-4)) er_3 ?_
      refine lv_as (y := (-4)) (rfl) ?_
      refine lv_icmp_eq (tgt := 1149) hx hb dL_law_313 (by decide) (fun _ => ?_) (fun c9 => absurd rfl c9)
      exact K k1 k2 ab be bds nos (fls + 1) wide wd ck n pf sn sf nn nf mn mf u uf ywide ywd yck yn ypf ysn ysf ynn ynf ymn ymf yu yuf zwide zwd zck zn zpf zsn zsf znn znf zmn zmf zu zuf tk tn tok stt en tf dwide dwd dck dn dpf dsn dsf dnn dnf dmn dmf du duf f0 cr td0 fs0 car rea fin ms mab mbe (nI tn) tA tL tK tV a kf jf (upd rv 2 (rv 2 + 1)) sv hf ef tg b vf (⟨hV0.mono (by omega), hI1.mono (by omega), hI2.mono (by omega), ⟨htn, rfl, htt⟩, hPR, CR_full hCR⟩) _ _ _ hW hl
set_option maxHeartbeats 8000000 in
set_option maxRecDepth 100000 in
theorem st_clear {p_ : Program} {l : Launch} {e_ : Env} {s_ : State} {m_ : MethodId} {ar_ : Array Value} {be_ : List Frame} {me_ : Method} {cd_ : Code} {cells slots : Nat} {Q : State → Prop} {G : gT} {A_ : Nat → Prop} {ad : Nat → Nat} {bS : Nat} {L i B : Nat} {xs : Nat → Int32} (hLA : LA p_ l e_ s_ m_ ar_ be_ me_ cd_ cells slots Q G A_ ad bS L xs) (hi : i + 4 < L) (hB : B ≤ 300) (K : KK p_ l e_ s_ m_ ar_ be_ me_ cd_ cells slots Q G A_ ad bS i (B + 1) 1149) : KK p_ l e_ s_ m_ ar_ be_ me_ cd_ cells slots Q G A_ ad bS i B 318 := by
  obtain ⟨C, hX, hbl, hbA, hL, hcl⟩ := hLA
  intro k1 k2 ab be bds nos fls wide wd ck n pf sn sf nn nf mn mf u uf ywide ywd yck yn ypf ysn ysf ynn ynf ymn ymf yu yuf zwide zwd zck zn zpf zsn zsf znn znf zmn zmf zu zuf tk tn tok stt en tf dwide dwd dck dn dpf dsn dsf dnn dnf dmn dmf du duf f0 cr td0 fs0 car rea fin ms mab mbe bL tA tL tK tV a kf jf rv sv hf ef tg b vf hR H locs ls hW hl
  have hx := C.1; have hb := C.2.1; have hown := C.2.2.2.1; have ht := C.2.2.2.2.1
  obtain ⟨hV, hI1, hI2, hT, hPR, hCR⟩ := hR
  have hV0 := hV
  obtain ⟨⟨hn, hs, ho, hm, hu⟩, ⟨hWd, hP, hH, hS, hO⟩, ⟨hck, hpa⟩, ⟨e0, e1, e2, e3, e4, e5⟩, ⟨ea, ew, ep⟩, ⟨es, eno, em, eu⟩⟩ := hV
  have hck0 := hck
  obtain ⟨⟨hr, eh, hh⟩, ⟨fh, eh2, hfl⟩, hup01, hg, ⟨k4, ek4, hk4⟩, ⟨d5, ed5, hd5⟩⟩ := hck
  have e8 : a 8 = nI fh := (ea 2 (by decide)).trans eh2
  have e12 : a 12 = nI hr := (ea 6 (by decide)).trans eh
  have e9 : a 9 = ck 3 := ea 3 (by decide)
  have e7 : a 7 = ck 1 := ea 1 (by decide)
  have e6 : a 6 = ck 0 := ea 0 (by decide)
  obtain ⟨htn, hbL, htt⟩ := hT
  subst hbL
  refine lv_aload_n hx hb dL_law_318 rfl (lv_at hl 1 rfl) ?_
  refine g_fiS (ww := fun (u_ : Unit) => [((ad 0), .inr (8, [.ref (ad 1), .ref (ad 14), .ref (ad 27), .int k1, .int k2, .ref (ad 40), .ref (ad 56), .ref (ad 58), .ref (ad 62), .int ab, .int be, .int bds, .int nos, .int fls])), ((ad 40), .inr (3, [.ref (ad 41), .ref (ad 43), .int tk])), ((ad 41), .inr (6, [.ref (ad 42), .int (nI 0), .int tok, .int stt, .int en])), ((ad 42), .inl (G.2.1, 150, .inl tf))]) (w2 := fun (u_ : Unit) => LW G ad k1 k2 ab be bds nos fls wide wd ck n pf sn sf nn nf mn mf u uf ywide ywd yck yn ypf ysn ysf ynn ynf ymn ymf yu yuf zwide zwd zck zn zpf zsn zsf znn znf zmn zmf zu zuf tk 0 tok stt en tf dwide dwd dck dn dpf dsn dsf dnn dnf dmn dmf du duf f0 cr td0 fs0 car rea fin ms mab mbe (nI tn) tA tL tK tV a kf jf rv sv hf ef tg b vf) C hW [0, 40, 41, 42] rfl (fun _ => rfl) (fun _ => rfl) (fun _ => lw_fst.trans lw_fst.symm) (g_runV (As := []) (rest := []) (wc := [((ad 0), .inr (8, [.ref (ad 1), .ref (ad 14), .ref (ad 27), .int k1, .int k2, .ref (ad 40), .ref (ad 56), .ref (ad 58), .ref (ad 62), .int ab, .int be, .int bds, .int nos, .int fls])), ((ad 40), .inr (3, [.ref (ad 41), .ref (ad 43), .int tk])), ((ad 41), .inr (6, [.ref (ad 42), .int (nI tn), .int tok, .int stt, .int en])), ((ad 42), .inl (G.2.1, 150, .inl tf))]) (q0 := 0) (ci := 8) C hW hl (c_X10_clear l G (ad 1) (ad 0) (ad 14) (ad 27) (ad 40) (ad 56) (ad 58) (ad 62) k1 k2 ab be bds nos fls (ad 41) (ad 43) (ad 42) tn tk tok stt en tf  _) k_ml_L_32 q_X10_clear ⟨⟨rfl, rfl⟩, Nat.le_of_ble_eq_true rfl, Nat.le_of_ble_eq_true rfl⟩ [0, 40, 41, 42] (by decide) rfl rfl rfl rfl rfl (Nat.le_of_ble_eq_true rfl) dL_law_319 ⟨hcl.1, hcl.2⟩) (fun r_1 _ er_1 => ?_)
  clear hW H locs; intro H locs hW
  replace hW : Wd G A_ s_.heap (LW G ad k1 k2 ab be bds nos fls wide wd ck n pf sn sf nn nf mn mf u uf ywide ywd yck yn ypf ysn ysf ynn ynf ymn ymf yu yuf zwide zwd zck zn zpf zsn zsf znn znf zmn zmf zu zuf tk 0 tok stt en tf dwide dwd dck dn dpf dsn dsf dnn dnf dmn dmf du duf f0 cr td0 fs0 car rea fin ms mab mbe (nI tn) tA tL tK tV a kf jf rv sv hf ef tg b vf) H locs := hW
  refine lv_as (y := nI tn) er_1 ?_
  refine lv_aload_n hx hb dL_law_322 rfl (lv_at hl 2 rfl) ?_
  refine g_fiS (ww := fun (u_ : Unit) => [((ad 64), .inr (9, [.ref (ad 65), .ref (ad 66), .ref (ad 67), .ref (ad 68), .long mab, .long mbe, .ref (ad 69), .ref (ad 70), .ref (ad 71), .ref (ad 72), .int (nI 0), .int tA, .int tL, .int tK, .int tV, .ref (ad 73), .ref (ad 74)]))]) (w2 := fun (u_ : Unit) => LW G ad k1 k2 ab be bds nos fls wide wd ck n pf sn sf nn nf mn mf u uf ywide ywd yck yn ypf ysn ysf ynn ynf ymn ymf yu yuf zwide zwd zck zn zpf zsn zsf znn znf zmn zmf zu zuf tk 0 tok stt en tf dwide dwd dck dn dpf dsn dsf dnn dnf dmn dmf du duf f0 cr td0 fs0 car rea fin ms mab mbe (nI 0) tA tL tK tV a kf jf rv sv hf ef tg b vf) C hW [64] rfl (fun _ => rfl) (fun _ => rfl) (fun _ => lw_fst.trans lw_fst.symm) (g_runV (As := []) (rest := [.int (nI tn)]) (wc := [((ad 64), .inr (9, [.ref (ad 65), .ref (ad 66), .ref (ad 67), .ref (ad 68), .long mab, .long mbe, .ref (ad 69), .ref (ad 70), .ref (ad 71), .ref (ad 72), .int (nI tn), .int tA, .int tL, .int tK, .int tV, .ref (ad 73), .ref (ad 74)]))]) (q0 := 0) (ci := 9) C hW hl (c_X11_clear l G (ad 64) (ad 65) (ad 66) (ad 67) (ad 68) (ad 69) (ad 70) (ad 71) (ad 72) (ad 73) (ad 74) mab mbe tA tL tK tV tn tf  _) k_ml_L_36 q_X11_clear ⟨⟨rfl, rfl⟩, Nat.le_of_ble_eq_true rfl, Nat.le_of_ble_eq_true rfl⟩ [64] (by decide) rfl rfl rfl rfl rfl (Nat.le_of_ble_eq_true rfl) dL_law_323 ⟨hcl.1, hcl.2⟩) (fun r_3 _ er_3 => ?_)
  clear hW H locs; intro H locs hW
  replace hW : Wd G A_ s_.heap (LW G ad k1 k2 ab be bds nos fls wide wd ck n pf sn sf nn nf mn mf u uf ywide ywd yck yn ypf ysn ysf ynn ynf ymn ymf yu yuf zwide zwd zck zn zpf zsn zsf znn znf zmn zmf zu zuf tk 0 tok stt en tf dwide dwd dck dn dpf dsn dsf dnn dnf dmn dmf du duf f0 cr td0 fs0 car rea fin ms mab mbe (nI 0) tA tL tK tV a kf jf rv sv hf ef tg b vf) H locs := hW
  refine lv_as (y := nI tn) er_3 ?_
  refine lv_as (y := nI tn) (rfl) ?_
  refine lv_icmp_eq (tgt := 1149) hx hb dL_law_326 (by decide) (fun _ => ?_) (fun c9 => absurd rfl c9)
  exact K k1 k2 ab be bds nos fls wide wd ck n pf sn sf nn nf mn mf u uf ywide ywd yck yn ypf ysn ysf ynn ynf ymn ymf yu yuf zwide zwd zck zn zpf zsn zsf znn znf zmn zmf zu zuf tk 0 tok stt en tf dwide dwd dck dn dpf dsn dsf dnn dnf dmn dmf du duf f0 cr td0 fs0 car rea fin ms mab mbe (nI 0) tA tL tK tV a kf jf rv sv hf ef tg b vf (⟨hV0.mono (by omega), hI1.mono (by omega), hI2.mono (by omega), ⟨by omega, rfl, htt⟩, hPR, hCR⟩) _ _ _ hW hl
set_option maxHeartbeats 8000000 in
set_option maxRecDepth 100000 in
theorem st_hits {p_ : Program} {l : Launch} {e_ : Env} {s_ : State} {m_ : MethodId} {ar_ : Array Value} {be_ : List Frame} {me_ : Method} {cd_ : Code} {cells slots : Nat} {Q : State → Prop} {G : gT} {A_ : Nat → Prop} {ad : Nat → Nat} {bS : Nat} {L i B : Nat} {xs : Nat → Int32} (hLA : LA p_ l e_ s_ m_ ar_ be_ me_ cd_ cells slots Q G A_ ad bS L xs) (hi : i + 4 < L) (hB : B ≤ 300) (K : KK p_ l e_ s_ m_ ar_ be_ me_ cd_ cells slots Q G A_ ad bS i (B + 1) 1149) : KK p_ l e_ s_ m_ ar_ be_ me_ cd_ cells slots Q G A_ ad bS i B 344 := by
  obtain ⟨C, hX, hbl, hbA, hL, hcl⟩ := hLA
  intro k1 k2 ab be bds nos fls wide wd ck n pf sn sf nn nf mn mf u uf ywide ywd yck yn ypf ysn ysf ynn ynf ymn ymf yu yuf zwide zwd zck zn zpf zsn zsf znn znf zmn zmf zu zuf tk tn tok stt en tf dwide dwd dck dn dpf dsn dsf dnn dnf dmn dmf du duf f0 cr td0 fs0 car rea fin ms mab mbe bL tA tL tK tV a kf jf rv sv hf ef tg b vf hR H locs ls hW hl
  have hx := C.1; have hb := C.2.1; have hown := C.2.2.2.1; have ht := C.2.2.2.2.1
  obtain ⟨hV, hI1, hI2, hT, hPR, hCR⟩ := hR
  have hV0 := hV
  obtain ⟨⟨hn, hs, ho, hm, hu⟩, ⟨hWd, hP, hH, hS, hO⟩, ⟨hck, hpa⟩, ⟨e0, e1, e2, e3, e4, e5⟩, ⟨ea, ew, ep⟩, ⟨es, eno, em, eu⟩⟩ := hV
  have hck0 := hck
  obtain ⟨⟨hr, eh, hh⟩, ⟨fh, eh2, hfl⟩, hup01, hg, ⟨k4, ek4, hk4⟩, ⟨d5, ed5, hd5⟩⟩ := hck
  have e8 : a 8 = nI fh := (ea 2 (by decide)).trans eh2
  have e12 : a 12 = nI hr := (ea 6 (by decide)).trans eh
  have e9 : a 9 = ck 3 := ea 3 (by decide)
  have e7 : a 7 = ck 1 := ea 1 (by decide)
  have e6 : a 6 = ck 0 := ea 0 (by decide)
  obtain ⟨htn, hbL, htt⟩ := hT
  subst hbL
  cases hc : okp n (xs (i + 1)) with
  | false =>
    refine lv_aload_n hx hb dL_law_344 rfl (lv_at hl 1 rfl) ?_
    refine lv_aload_n hx hb dL_law_345 rfl (lv_at hl 0 rfl) ?_
    refine lv_iload_n hx hb dL_law_346 rfl (lv_at hl 3 rfl) ?_
    refine lv_iconst (v := 1) hx hb dL_law_347 (by decide) ?_
    refine lv_iadd hx hb dL_law_348 ?_
    refine lv_as (y := nI (i + 1)) (nI_add i 1) ?_
    refine va_sld hx hb hX hbl hbA hW.2.2 (vp_in_nI (n := i + 1) (by omega) (by omega)) dL_law_349 ?_
    refine lv_as (y := xs (i + 1)) (by rw [nI_clamp (by omega)]) ?_
    refine g_fiS (ww := fun (u_ : Unit) => [((ad 0), .inr (8, [.ref (ad 1), .ref (ad 14), .ref (ad 27), .int k1, .int k2, .ref (ad 40), .ref (ad 56), .ref (ad 58), .ref (ad 62), .int ab, .int be, .int (bds + 1), .int nos, .int fls])), ((ad 1), .inr (7, [.int wide, .ref (ad 2), .ref (ad 3), .ref (ad 4), .ref (ad 6), .ref (ad 8), .ref (ad 10), .ref (ad 12)])), ((ad 4), .inr (4, [.int 7, .int 3, .ref (ad 5), .int (nI n)]))]) (w2 := fun (u_ : Unit) => LW G ad k1 k2 ab be (bds + 1) nos fls wide wd ck n pf sn sf nn nf mn mf u uf ywide ywd yck yn ypf ysn ysf ynn ynf ymn ymf yu yuf zwide zwd zck zn zpf zsn zsf znn znf zmn zmf zu zuf tk tn tok stt en tf dwide dwd dck dn dpf dsn dsf dnn dnf dmn dmf du duf f0 cr td0 fs0 car rea fin ms mab mbe (nI tn) tA tL tK tV a kf jf rv sv hf ef tg b vf) C hW [0, 1, 4] rfl (fun _ => rfl) (fun _ => rfl) (fun _ => lw_fst.trans lw_fst.symm) (g_runV (As := [.int (xs (i + 1))]) (rest := []) (wc := [((ad 0), .inr (8, [.ref (ad 1), .ref (ad 14), .ref (ad 27), .int k1, .int k2, .ref (ad 40), .ref (ad 56), .ref (ad 58), .ref (ad 62), .int ab, .int be, .int bds, .int nos, .int fls])), ((ad 1), .inr (7, [.int wide, .ref (ad 2), .ref (ad 3), .ref (ad 4), .ref (ad 6), .ref (ad 8), .ref (ad 10), .ref (ad 12)])), ((ad 4), .inr (4, [.int 7, .int 3, .ref (ad 5), .int (nI n)]))]) (q0 := 0) (ci := 8) C hW hl (c_X10_hits_bad l G (ad 1) (ad 2) (ad 3) (ad 4) (ad 6) (ad 8) (ad 10) (ad 12) wide (ad 0) (ad 14) (ad 27) (ad 40) (ad 56) (ad 58) (ad 62) k1 k2 ab be bds nos fls (ad 5) n (xs (i + 1)) (by exact hc) _) k_ml_L_41 q_X10_hits ⟨⟨rfl, rfl⟩, Nat.le_of_ble_eq_true rfl, Nat.le_of_ble_eq_true rfl⟩ [0, 1, 4] (by decide) rfl rfl rfl rfl rfl (Nat.le_of_ble_eq_true rfl) dL_law_350 ⟨hcl.1, hcl.2⟩) (fun r_1 _ er_1 => ?_)
    clear hW H locs; intro H locs hW
    replace hW : Wd G A_ s_.heap (LW G ad k1 k2 ab be (bds + 1) nos fls wide wd ck n pf sn sf nn nf mn mf u uf ywide ywd yck yn ypf ysn ysf ynn ynf ymn ymf yu yuf zwide zwd zck zn zpf zsn zsf znn znf zmn zmf zu zuf tk tn tok stt en tf dwide dwd dck dn dpf dsn dsf dnn dnf dmn dmf du duf f0 cr td0 fs0 car rea fin ms mab mbe (nI tn) tA tL tK tV a kf jf rv sv hf ef tg b vf) H locs := hW
    refine lv_as (y := (-2)) er_1 ?_
    refine lv_aload_n hx hb dL_law_353 rfl (lv_at hl 2 rfl) ?_
    refine lv_aload_n hx hb dL_law_354 rfl (lv_at hl 0 rfl) ?_
    refine lv_iload_n hx hb dL_law_355 rfl (lv_at hl 3 rfl) ?_
    refine lv_iconst (v := 1) hx hb dL_law_356 (by decide) ?_
    refine lv_iadd hx hb dL_law_357 ?_
    refine lv_as (y := nI (i + 1)) (nI_add i 1) ?_
    refine va_sld hx hb hX hbl hbA hW.2.2 (vp_in_nI (n := i + 1) (by omega) (by omega)) dL_law_358 ?_
    refine lv_as (y := xs (i + 1)) (by rw [nI_clamp (by omega)]) ?_
    refine g_fiS (ww := fun (u_ : Unit) => [((ad 64), .inr (9, [.ref (ad 65), .ref (ad 66), .ref (ad 67), .ref (ad 68), .long mab, .long mbe, .ref (ad 69), .ref (ad 70), .ref (ad 71), .ref (ad 72), .int (nI tn), .int tA, .int tL, .int tK, .int tV, .ref (ad 73), .ref (ad 74)])), ((ad 65), .inl (G.2.1, 159, .inl a)), ((ad 68), .inl (G.2.1, 3, .inl (upd rv 0 (rv 0 + 1))))]) (w2 := fun (u_ : Unit) => LW G ad k1 k2 ab be (bds + 1) nos fls wide wd ck n pf sn sf nn nf mn mf u uf ywide ywd yck yn ypf ysn ysf ynn ynf ymn ymf yu yuf zwide zwd zck zn zpf zsn zsf znn znf zmn zmf zu zuf tk tn tok stt en tf dwide dwd dck dn dpf dsn dsf dnn dnf dmn dmf du duf f0 cr td0 fs0 car rea fin ms mab mbe (nI tn) tA tL tK tV a kf jf (upd rv 0 (rv 0 + 1)) sv hf ef tg b vf) C hW [64, 65, 68] rfl (fun _ => rfl) (fun _ => rfl) (fun _ => lw_fst.trans lw_fst.symm) (g_runV (As := [.int (xs (i + 1))]) (rest := [.int (-2)]) (wc := [((ad 64), .inr (9, [.ref (ad 65), .ref (ad 66), .ref (ad 67), .ref (ad 68), .long mab, .long mbe, .ref (ad 69), .ref (ad 70), .ref (ad 71), .ref (ad 72), .int (nI tn), .int tA, .int tL, .int tK, .int tV, .ref (ad 73), .ref (ad 74)])), ((ad 65), .inl (G.2.1, 159, .inl a)), ((ad 68), .inl (G.2.1, 3, .inl rv))]) (q0 := 0) (ci := 9) C hW hl (c_X11_hits_bad l G (ad 64) (ad 65) (ad 66) (ad 67) (ad 68) (ad 69) (ad 70) (ad 71) (ad 72) (ad 73) (ad 74) mab mbe (nI tn) tA tL tK tV rv a n (xs (i + 1)) (by first | assumption | omega) (by first | assumption | omega) (by exact hc) _) k_ml_L_44 q_X11_hits ⟨⟨rfl, rfl⟩, Nat.le_of_ble_eq_true rfl, Nat.le_of_ble_eq_true rfl⟩ [64, 65, 68] (by decide) rfl rfl rfl rfl rfl (Nat.le_of_ble_eq_true rfl) dL_law_359 ⟨hcl.1, hcl.2⟩) (fun r_3 _ er_3 => ?_)
    clear hW H locs; intro H locs hW
    replace hW : Wd G A_ s_.heap (LW G ad k1 k2 ab be (bds + 1) nos fls wide wd ck n pf sn sf nn nf mn mf u uf ywide ywd yck yn ypf ysn ysf ynn ynf ymn ymf yu yuf zwide zwd zck zn zpf zsn zsf znn znf zmn zmf zu zuf tk tn tok stt en tf dwide dwd dck dn dpf dsn dsf dnn dnf dmn dmf du duf f0 cr td0 fs0 car rea fin ms mab mbe (nI tn) tA tL tK tV a kf jf (upd rv 0 (rv 0 + 1)) sv hf ef tg b vf) H locs := hW
    refine lv_as (y := (-2)) er_3 ?_
    refine lv_as (y := (-2)) (rfl) ?_
    refine lv_icmp_eq (tgt := 1149) hx hb dL_law_362 (by decide) (fun _ => ?_) (fun c9 => absurd rfl c9)
    exact K k1 k2 ab be (bds + 1) nos fls wide wd ck n pf sn sf nn nf mn mf u uf ywide ywd yck yn ypf ysn ysf ynn ynf ymn ymf yu yuf zwide zwd zck zn zpf zsn zsf znn znf zmn zmf zu zuf tk tn tok stt en tf dwide dwd dck dn dpf dsn dsf dnn dnf dmn dmf du duf f0 cr td0 fs0 car rea fin ms mab mbe (nI tn) tA tL tK tV a kf jf (upd rv 0 (rv 0 + 1)) sv hf ef tg b vf (⟨hV0.mono (by omega), hI1.mono (by omega), hI2.mono (by omega), ⟨htn, rfl, htt⟩, hPR, CR_bad hCR⟩) _ _ _ hW hl
  | true =>
    obtain ⟨k, hk, ek⟩ := okp_ex hc
    cases hcs : chA a k with
    | false =>
      refine lv_aload_n hx hb dL_law_344 rfl (lv_at hl 1 rfl) ?_
      refine lv_aload_n hx hb dL_law_345 rfl (lv_at hl 0 rfl) ?_
      refine lv_iload_n hx hb dL_law_346 rfl (lv_at hl 3 rfl) ?_
      refine lv_iconst (v := 1) hx hb dL_law_347 (by decide) ?_
      refine lv_iadd hx hb dL_law_348 ?_
      refine lv_as (y := nI (i + 1)) (nI_add i 1) ?_
      refine va_sld hx hb hX hbl hbA hW.2.2 (vp_in_nI (n := i + 1) (by omega) (by omega)) dL_law_349 ?_
      refine lv_as (y := nI k) (by rw [nI_clamp (by omega)]; exact ek) ?_
      refine g_fiS (ww := fun (u_ : Unit) => [((ad 0), .inr (8, [.ref (ad 1), .ref (ad 14), .ref (ad 27), .int k1, .int k2, .ref (ad 40), .ref (ad 56), .ref (ad 58), .ref (ad 62), .int ab, .int be, .int bds, .int (nos + 1), .int fls])), ((ad 1), .inr (7, [.int wide, .ref (ad 2), .ref (ad 3), .ref (ad 4), .ref (ad 6), .ref (ad 8), .ref (ad 10), .ref (ad 12)])), ((ad 4), .inr (4, [.int 7, .int 3, .ref (ad 5), .int (nI n)])), ((ad 5), .inl (G.2.1, 21, .inl pf)), ((ad 3), .inl (G.2.1, 7, .inl ck))]) (w2 := fun (u_ : Unit) => LW G ad k1 k2 ab be bds (nos + 1) fls wide wd ck n pf sn sf nn nf mn mf u uf ywide ywd yck yn ypf ysn ysf ynn ynf ymn ymf yu yuf zwide zwd zck zn zpf zsn zsf znn znf zmn zmf zu zuf tk tn tok stt en tf dwide dwd dck dn dpf dsn dsf dnn dnf dmn dmf du duf f0 cr td0 fs0 car rea fin ms mab mbe (nI tn) tA tL tK tV a kf jf rv sv hf ef tg b vf) C hW [0, 1, 4, 5, 3] rfl (fun _ => rfl) (fun _ => rfl) (fun _ => lw_fst.trans lw_fst.symm) (g_runV (As := [.int (nI k)]) (rest := []) (wc := [((ad 0), .inr (8, [.ref (ad 1), .ref (ad 14), .ref (ad 27), .int k1, .int k2, .ref (ad 40), .ref (ad 56), .ref (ad 58), .ref (ad 62), .int ab, .int be, .int bds, .int nos, .int fls])), ((ad 1), .inr (7, [.int wide, .ref (ad 2), .ref (ad 3), .ref (ad 4), .ref (ad 6), .ref (ad 8), .ref (ad 10), .ref (ad 12)])), ((ad 4), .inr (4, [.int 7, .int 3, .ref (ad 5), .int (nI n)])), ((ad 5), .inl (G.2.1, 21, .inl pf)), ((ad 3), .inl (G.2.1, 7, .inl ck))]) (q0 := 0) (ci := 8) C hW hl (c_X10_hits_no l G (ad 1) (ad 2) (ad 3) (ad 4) (ad 6) (ad 8) (ad 10) (ad 12) wide (ad 0) (ad 14) (ad 27) (ad 40) (ad 56) (ad 58) (ad 62) k1 k2 ab be bds nos fls (ad 5) n pf ck k (by first | assumption | omega) (by first | assumption | omega) (by rw [← ch_eq hV0 hk]; exact hcs) _) k_ml_L_41 q_X10_hits ⟨⟨rfl, rfl⟩, Nat.le_of_ble_eq_true rfl, Nat.le_of_ble_eq_true rfl⟩ [0, 1, 4, 5, 3] (by decide) rfl rfl rfl rfl rfl (Nat.le_of_ble_eq_true rfl) dL_law_350 ⟨hcl.1, hcl.2⟩) (fun r_1 _ er_1 => ?_)
      clear hW H locs; intro H locs hW
      replace hW : Wd G A_ s_.heap (LW G ad k1 k2 ab be bds (nos + 1) fls wide wd ck n pf sn sf nn nf mn mf u uf ywide ywd yck yn ypf ysn ysf ynn ynf ymn ymf yu yuf zwide zwd zck zn zpf zsn zsf znn znf zmn zmf zu zuf tk tn tok stt en tf dwide dwd dck dn dpf dsn dsf dnn dnf dmn dmf du duf f0 cr td0 fs0 car rea fin ms mab mbe (nI tn) tA tL tK tV a kf jf rv sv hf ef tg b vf) H locs := hW
      refine lv_as (y := (-3)) er_1 ?_
      refine lv_aload_n hx hb dL_law_353 rfl (lv_at hl 2 rfl) ?_
      refine lv_aload_n hx hb dL_law_354 rfl (lv_at hl 0 rfl) ?_
      refine lv_iload_n hx hb dL_law_355 rfl (lv_at hl 3 rfl) ?_
      refine lv_iconst (v := 1) hx hb dL_law_356 (by decide) ?_
      refine lv_iadd hx hb dL_law_357 ?_
      refine lv_as (y := nI (i + 1)) (nI_add i 1) ?_
      refine va_sld hx hb hX hbl hbA hW.2.2 (vp_in_nI (n := i + 1) (by omega) (by omega)) dL_law_358 ?_
      refine lv_as (y := nI k) (by rw [nI_clamp (by omega)]; exact ek) ?_
      refine g_fiS (ww := fun (u_ : Unit) => [((ad 64), .inr (9, [.ref (ad 65), .ref (ad 66), .ref (ad 67), .ref (ad 68), .long mab, .long mbe, .ref (ad 69), .ref (ad 70), .ref (ad 71), .ref (ad 72), .int (nI tn), .int tA, .int tL, .int tK, .int tV, .ref (ad 73), .ref (ad 74)])), ((ad 65), .inl (G.2.1, 159, .inl a)), ((ad 68), .inl (G.2.1, 3, .inl (upd rv 1 (rv 1 + 1))))]) (w2 := fun (u_ : Unit) => LW G ad k1 k2 ab be bds (nos + 1) fls wide wd ck n pf sn sf nn nf mn mf u uf ywide ywd yck yn ypf ysn ysf ynn ynf ymn ymf yu yuf zwide zwd zck zn zpf zsn zsf znn znf zmn zmf zu zuf tk tn tok stt en tf dwide dwd dck dn dpf dsn dsf dnn dnf dmn dmf du duf f0 cr td0 fs0 car rea fin ms mab mbe (nI tn) tA tL tK tV a kf jf (upd rv 1 (rv 1 + 1)) sv hf ef tg b vf) C hW [64, 65, 68] rfl (fun _ => rfl) (fun _ => rfl) (fun _ => lw_fst.trans lw_fst.symm) (g_runV (As := [.int (nI k)]) (rest := [.int (-3)]) (wc := [((ad 64), .inr (9, [.ref (ad 65), .ref (ad 66), .ref (ad 67), .ref (ad 68), .long mab, .long mbe, .ref (ad 69), .ref (ad 70), .ref (ad 71), .ref (ad 72), .int (nI tn), .int tA, .int tL, .int tK, .int tV, .ref (ad 73), .ref (ad 74)])), ((ad 65), .inl (G.2.1, 159, .inl a)), ((ad 68), .inl (G.2.1, 3, .inl rv))]) (q0 := 0) (ci := 9) C hW hl (c_X11_hits_no l G (ad 64) (ad 65) (ad 66) (ad 67) (ad 68) (ad 69) (ad 70) (ad 71) (ad 72) (ad 73) (ad 74) mab mbe (nI tn) tA tL tK tV rv a n k (by first | assumption | omega) (by first | assumption | omega) (by first | assumption | omega) (by exact hcs) _) k_ml_L_44 q_X11_hits ⟨⟨rfl, rfl⟩, Nat.le_of_ble_eq_true rfl, Nat.le_of_ble_eq_true rfl⟩ [64, 65, 68] (by decide) rfl rfl rfl rfl rfl (Nat.le_of_ble_eq_true rfl) dL_law_359 ⟨hcl.1, hcl.2⟩) (fun r_3 _ er_3 => ?_)
      clear hW H locs; intro H locs hW
      replace hW : Wd G A_ s_.heap (LW G ad k1 k2 ab be bds (nos + 1) fls wide wd ck n pf sn sf nn nf mn mf u uf ywide ywd yck yn ypf ysn ysf ynn ynf ymn ymf yu yuf zwide zwd zck zn zpf zsn zsf znn znf zmn zmf zu zuf tk tn tok stt en tf dwide dwd dck dn dpf dsn dsf dnn dnf dmn dmf du duf f0 cr td0 fs0 car rea fin ms mab mbe (nI tn) tA tL tK tV a kf jf (upd rv 1 (rv 1 + 1)) sv hf ef tg b vf) H locs := hW
      refine lv_as (y := (-3)) er_3 ?_
      refine lv_as (y := (-3)) (rfl) ?_
      refine lv_icmp_eq (tgt := 1149) hx hb dL_law_362 (by decide) (fun _ => ?_) (fun c9 => absurd rfl c9)
      exact K k1 k2 ab be bds (nos + 1) fls wide wd ck n pf sn sf nn nf mn mf u uf ywide ywd yck yn ypf ysn ysf ynn ynf ymn ymf yu yuf zwide zwd zck zn zpf zsn zsf znn znf zmn zmf zu zuf tk tn tok stt en tf dwide dwd dck dn dpf dsn dsf dnn dnf dmn dmf du duf f0 cr td0 fs0 car rea fin ms mab mbe (nI tn) tA tL tK tV a kf jf (upd rv 1 (rv 1 + 1)) sv hf ef tg b vf (⟨hV0.mono (by omega), hI1.mono (by omega), hI2.mono (by omega), ⟨htn, rfl, htt⟩, hPR, CR_no hCR⟩) _ _ _ hW hl
    | true =>
      refine lv_aload_n hx hb dL_law_344 rfl (lv_at hl 1 rfl) ?_
      refine lv_aload_n hx hb dL_law_345 rfl (lv_at hl 0 rfl) ?_
      refine lv_iload_n hx hb dL_law_346 rfl (lv_at hl 3 rfl) ?_
      refine lv_iconst (v := 1) hx hb dL_law_347 (by decide) ?_
      refine lv_iadd hx hb dL_law_348 ?_
      refine lv_as (y := nI (i + 1)) (nI_add i 1) ?_
      refine va_sld hx hb hX hbl hbA hW.2.2 (vp_in_nI (n := i + 1) (by omega) (by omega)) dL_law_349 ?_
      refine lv_as (y := nI k) (by rw [nI_clamp (by omega)]; exact ek) ?_
      refine g_fiS (ww := fun (u_ : Unit) => [((ad 0), .inr (8, [.ref (ad 1), .ref (ad 14), .ref (ad 27), .int k1, .int k2, .ref (ad 40), .ref (ad 56), .ref (ad 58), .ref (ad 62), .int ab, .int be, .int bds, .int nos, .int fls])), ((ad 1), .inr (7, [.int wide, .ref (ad 2), .ref (ad 3), .ref (ad 4), .ref (ad 6), .ref (ad 8), .ref (ad 10), .ref (ad 12)])), ((ad 4), .inr (4, [.int 7, .int 3, .ref (ad 5), .int (nI n)])), ((ad 5), .inl (G.2.1, 21, .inl pf)), ((ad 3), .inl (G.2.1, 7, .inl (stk ck (decide (wide ≤ rch ck wd pf k hr (pf (k * 3 + 1)) (ck 1)))))), ((ad 2), .inl (G.2.1, 6, .inl wd)), ((ad 12), .inr (1, [.ref (ad 13), .int (nI (pun u))])), ((ad 13), .inl (G.2.1, 56, .inl (pu u uf ck)))]) (w2 := fun (u_ : Unit) => LW G ad k1 k2 ab be bds nos fls wide wd (stk ck (decide (wide ≤ rch ck wd pf k hr (pf (k * 3 + 1)) (ck 1)))) n pf sn sf nn nf mn mf (pun u) (pu u uf ck) ywide ywd yck yn ypf ysn ysf ynn ynf ymn ymf yu yuf zwide zwd zck zn zpf zsn zsf znn znf zmn zmf zu zuf tk tn tok stt en tf dwide dwd dck dn dpf dsn dsf dnn dnf dmn dmf du duf f0 cr td0 fs0 car rea fin ms mab mbe (nI tn) tA tL tK tV a kf jf rv sv hf ef tg b vf) C hW [0, 1, 4, 5, 3, 2, 12, 13] rfl (fun _ => rfl) (fun _ => rfl) (fun _ => lw_fst.trans lw_fst.symm) (g_runV (As := [.int (nI k)]) (rest := []) (wc := [((ad 0), .inr (8, [.ref (ad 1), .ref (ad 14), .ref (ad 27), .int k1, .int k2, .ref (ad 40), .ref (ad 56), .ref (ad 58), .ref (ad 62), .int ab, .int be, .int bds, .int nos, .int fls])), ((ad 1), .inr (7, [.int wide, .ref (ad 2), .ref (ad 3), .ref (ad 4), .ref (ad 6), .ref (ad 8), .ref (ad 10), .ref (ad 12)])), ((ad 4), .inr (4, [.int 7, .int 3, .ref (ad 5), .int (nI n)])), ((ad 5), .inl (G.2.1, 21, .inl pf)), ((ad 3), .inl (G.2.1, 7, .inl ck)), ((ad 2), .inl (G.2.1, 6, .inl wd)), ((ad 12), .inr (1, [.ref (ad 13), .int (nI u)])), ((ad 13), .inl (G.2.1, 56, .inl uf))]) (q0 := 0) (ci := 8) C hW hl (c_X10_hits_ok l G (ad 1) (ad 2) (ad 3) (ad 4) (ad 6) (ad 8) (ad 10) (ad 12) wide (ad 5) n pf ck wd (ad 0) (ad 14) (ad 27) (ad 40) (ad 56) (ad 58) (ad 62) k1 k2 ab be bds nos fls (ad 13) u uf k hr (by first | assumption | omega) (by first | assumption | omega) (by assumption) (by omega) (by assumption) (by assumption) (by assumption) (by first | assumption | omega) (by rw [← ch_eq hV0 hk]; exact hcs) _) k_ml_L_41 q_X10_hits ⟨⟨rfl, rfl⟩, Nat.le_of_ble_eq_true rfl, Nat.le_of_ble_eq_true rfl⟩ [0, 1, 4, 5, 3, 2, 12, 13] (by decide) rfl rfl rfl rfl rfl (Nat.le_of_ble_eq_true rfl) dL_law_350 ⟨hcl.1, hcl.2⟩) (fun r_1 _ er_1 => ?_)
      clear hW H locs; intro H locs hW
      replace hW : Wd G A_ s_.heap (LW G ad k1 k2 ab be bds nos fls wide wd (stk ck (decide (wide ≤ rch ck wd pf k hr (pf (k * 3 + 1)) (ck 1)))) n pf sn sf nn nf mn mf (pun u) (pu u uf ck) ywide ywd yck yn ypf ysn ysf ynn ynf ymn ymf yu yuf zwide zwd zck zn zpf zsn zsf znn znf zmn zmf zu zuf tk tn tok stt en tf dwide dwd dck dn dpf dsn dsf dnn dnf dmn dmf du duf f0 cr td0 fs0 car rea fin ms mab mbe (nI tn) tA tL tK tV a kf jf rv sv hf ef tg b vf) H locs := hW
      refine lv_as (y := bI (decide (wide ≤ rch ck wd pf k hr (pf (k * 3 + 1)) (ck 1)))) er_1 ?_
      refine lv_aload_n hx hb dL_law_353 rfl (lv_at hl 2 rfl) ?_
      refine lv_aload_n hx hb dL_law_354 rfl (lv_at hl 0 rfl) ?_
      refine lv_iload_n hx hb dL_law_355 rfl (lv_at hl 3 rfl) ?_
      refine lv_iconst (v := 1) hx hb dL_law_356 (by decide) ?_
      refine lv_iadd hx hb dL_law_357 ?_
      refine lv_as (y := nI (i + 1)) (nI_add i 1) ?_
      refine va_sld hx hb hX hbl hbA hW.2.2 (vp_in_nI (n := i + 1) (by omega) (by omega)) dL_law_358 ?_
      refine lv_as (y := nI k) (by rw [nI_clamp (by omega)]; exact ek) ?_
      refine g_fiS (ww := fun (u_ : Unit) => [((ad 64), .inr (9, [.ref (ad 65), .ref (ad 66), .ref (ad 67), .ref (ad 68), .long mab, .long mbe, .ref (ad 69), .ref (ad 70), .ref (ad 71), .ref (ad 72), .int (nI tn), .int tA, .int tL, .int tK, .int tV, .ref (ad 73), .ref (ad 74)])), ((ad 65), .inl (G.2.1, 159, .inl (ghA (svA a u) (crA (svA a u) k hr (svA a u 8)))))]) (w2 := fun (u_ : Unit) => LW G ad k1 k2 ab be bds nos fls wide wd (stk ck (decide (wide ≤ rch ck wd pf k hr (pf (k * 3 + 1)) (ck 1)))) n pf sn sf nn nf mn mf (pun u) (pu u uf ck) ywide ywd yck yn ypf ysn ysf ynn ynf ymn ymf yu yuf zwide zwd zck zn zpf zsn zsf znn znf zmn zmf zu zuf tk tn tok stt en tf dwide dwd dck dn dpf dsn dsf dnn dnf dmn dmf du duf f0 cr td0 fs0 car rea fin ms mab mbe (nI tn) tA tL tK tV (ghA (svA a u) (crA (svA a u) k hr (svA a u 8))) kf jf rv sv hf ef tg b vf) C hW [64, 65] rfl (fun _ => rfl) (fun _ => rfl) (fun _ => lw_fst.trans lw_fst.symm) (g_runV (As := [.int (nI k)]) (rest := [.int (bI (decide (wide ≤ rch ck wd pf k hr (pf (k * 3 + 1)) (ck 1))))]) (wc := [((ad 64), .inr (9, [.ref (ad 65), .ref (ad 66), .ref (ad 67), .ref (ad 68), .long mab, .long mbe, .ref (ad 69), .ref (ad 70), .ref (ad 71), .ref (ad 72), .int (nI tn), .int tA, .int tL, .int tK, .int tV, .ref (ad 73), .ref (ad 74)])), ((ad 65), .inl (G.2.1, 159, .inl a))]) (q0 := 0) (ci := 9) C hW hl (c_X11_hits_ok l G (ad 64) (ad 65) (ad 66) (ad 67) (ad 68) (ad 69) (ad 70) (ad 71) (ad 72) (ad 73) (ad 74) mab mbe (nI tn) tA tL tK tV a n u k hr (by first | assumption | omega) (by first | assumption | omega) (by first | assumption | omega) (by first | assumption | omega) (by first | assumption | omega) (by first | assumption | omega) (by first | assumption | omega) (by exact hcs) _) k_ml_L_44 q_X11_hits ⟨⟨rfl, rfl⟩, Nat.le_of_ble_eq_true rfl, Nat.le_of_ble_eq_true rfl⟩ [64, 65] (by decide) rfl rfl rfl rfl rfl (Nat.le_of_ble_eq_true rfl) dL_law_359 ⟨hcl.1, hcl.2⟩) (fun r_3 _ er_3 => ?_)
      clear hW H locs; intro H locs hW
      replace hW : Wd G A_ s_.heap (LW G ad k1 k2 ab be bds nos fls wide wd (stk ck (decide (wide ≤ rch ck wd pf k hr (pf (k * 3 + 1)) (ck 1)))) n pf sn sf nn nf mn mf (pun u) (pu u uf ck) ywide ywd yck yn ypf ysn ysf ynn ynf ymn ymf yu yuf zwide zwd zck zn zpf zsn zsf znn znf zmn zmf zu zuf tk tn tok stt en tf dwide dwd dck dn dpf dsn dsf dnn dnf dmn dmf du duf f0 cr td0 fs0 car rea fin ms mab mbe (nI tn) tA tL tK tV (ghA (svA a u) (crA (svA a u) k hr (svA a u 8))) kf jf rv sv hf ef tg b vf) H locs := hW
      refine lv_as (y := bI (crA (svA a u) k hr (svA a u 8))) er_3 ?_
      refine lv_as (y := bI (decide (wide ≤ rch ck wd pf k hr (pf (k * 3 + 1)) (ck 1)))) (by rw [(VR_hit hV0 (by omega) hk hcs eh).1]) ?_
      refine lv_icmp_eq (tgt := 1149) hx hb dL_law_362 (by decide) (fun _ => ?_) (fun c9 => absurd rfl c9)
      exact K k1 k2 ab be bds nos fls wide wd (stk ck (decide (wide ≤ rch ck wd pf k hr (pf (k * 3 + 1)) (ck 1)))) n pf sn sf nn nf mn mf (pun u) (pu u uf ck) ywide ywd yck yn ypf ysn ysf ynn ynf ymn ymf yu yuf zwide zwd zck zn zpf zsn zsf znn znf zmn zmf zu zuf tk tn tok stt en tf dwide dwd dck dn dpf dsn dsf dnn dnf dmn dmf du duf f0 cr td0 fs0 car rea fin ms mab mbe (nI tn) tA tL tK tV (ghA (svA a u) (crA (svA a u) k hr (svA a u 8))) kf jf rv sv hf ef tg b vf (⟨(VR_hit hV0 (by omega) hk hcs eh).2, hI1.mono (by omega), hI2.mono (by omega), ⟨htn, rfl, htt⟩, hPR, hCR⟩) _ _ _ hW hl
set_option maxHeartbeats 8000000 in
set_option maxRecDepth 100000 in
theorem st_picks {p_ : Program} {l : Launch} {e_ : Env} {s_ : State} {m_ : MethodId} {ar_ : Array Value} {be_ : List Frame} {me_ : Method} {cd_ : Code} {cells slots : Nat} {Q : State → Prop} {G : gT} {A_ : Nat → Prop} {ad : Nat → Nat} {bS : Nat} {L i B : Nat} {xs : Nat → Int32} (hLA : LA p_ l e_ s_ m_ ar_ be_ me_ cd_ cells slots Q G A_ ad bS L xs) (hi : i + 4 < L) (hB : B ≤ 300) (K : KK p_ l e_ s_ m_ ar_ be_ me_ cd_ cells slots Q G A_ ad bS i (B + 1) 1149) : KK p_ l e_ s_ m_ ar_ be_ me_ cd_ cells slots Q G A_ ad bS i B 367 := by
  obtain ⟨C, hX, hbl, hbA, hL, hcl⟩ := hLA
  intro k1 k2 ab be bds nos fls wide wd ck n pf sn sf nn nf mn mf u uf ywide ywd yck yn ypf ysn ysf ynn ynf ymn ymf yu yuf zwide zwd zck zn zpf zsn zsf znn znf zmn zmf zu zuf tk tn tok stt en tf dwide dwd dck dn dpf dsn dsf dnn dnf dmn dmf du duf f0 cr td0 fs0 car rea fin ms mab mbe bL tA tL tK tV a kf jf rv sv hf ef tg b vf hR H locs ls hW hl
  have hx := C.1; have hb := C.2.1; have hown := C.2.2.2.1; have ht := C.2.2.2.2.1
  obtain ⟨hV, hI1, hI2, hT, hPR, hCR⟩ := hR
  have hV0 := hV
  obtain ⟨⟨hn, hs, ho, hm, hu⟩, ⟨hWd, hP, hH, hS, hO⟩, ⟨hck, hpa⟩, ⟨e0, e1, e2, e3, e4, e5⟩, ⟨ea, ew, ep⟩, ⟨es, eno, em, eu⟩⟩ := hV
  have hck0 := hck
  obtain ⟨⟨hr, eh, hh⟩, ⟨fh, eh2, hfl⟩, hup01, hg, ⟨k4, ek4, hk4⟩, ⟨d5, ed5, hd5⟩⟩ := hck
  have e8 : a 8 = nI fh := (ea 2 (by decide)).trans eh2
  have e12 : a 12 = nI hr := (ea 6 (by decide)).trans eh
  have e9 : a 9 = ck 3 := ea 3 (by decide)
  have e7 : a 7 = ck 1 := ea 1 (by decide)
  have e6 : a 6 = ck 0 := ea 0 (by decide)
  obtain ⟨htn, hbL, htt⟩ := hT
  subst hbL
  cases hc : iw (xs (i + 1)) 0 1 with
  | false =>
    refine lv_aload_n hx hb dL_law_367 rfl (lv_at hl 1 rfl) ?_
    refine lv_aload_n hx hb dL_law_368 rfl (lv_at hl 0 rfl) ?_
    refine lv_iload_n hx hb dL_law_369 rfl (lv_at hl 3 rfl) ?_
    refine lv_iconst (v := 1) hx hb dL_law_370 (by decide) ?_
    refine lv_iadd hx hb dL_law_371 ?_
    refine lv_as (y := nI (i + 1)) (nI_add i 1) ?_
    refine va_sld hx hb hX hbl hbA hW.2.2 (vp_in_nI (n := i + 1) (by omega) (by omega)) dL_law_372 ?_
    refine lv_as (y := xs (i + 1)) (by rw [nI_clamp (by omega)]) ?_
    refine g_fiS (ww := fun (u_ : Unit) => [((ad 0), .inr (8, [.ref (ad 1), .ref (ad 14), .ref (ad 27), .int k1, .int k2, .ref (ad 40), .ref (ad 56), .ref (ad 58), .ref (ad 62), .int ab, .int be, .int (bds + 1), .int nos, .int fls]))]) (w2 := fun (u_ : Unit) => LW G ad k1 k2 ab be (bds + 1) nos fls wide wd ck n pf sn sf nn nf mn mf u uf ywide ywd yck yn ypf ysn ysf ynn ynf ymn ymf yu yuf zwide zwd zck zn zpf zsn zsf znn znf zmn zmf zu zuf tk tn tok stt en tf dwide dwd dck dn dpf dsn dsf dnn dnf dmn dmf du duf f0 cr td0 fs0 car rea fin ms mab mbe (nI tn) tA tL tK tV a kf jf rv sv hf ef tg b vf) C hW [0] rfl (fun _ => rfl) (fun _ => rfl) (fun _ => lw_fst.trans lw_fst.symm) (g_runV (As := [.int (xs (i + 1))]) (rest := []) (wc := [((ad 0), .inr (8, [.ref (ad 1), .ref (ad 14), .ref (ad 27), .int k1, .int k2, .ref (ad 40), .ref (ad 56), .ref (ad 58), .ref (ad 62), .int ab, .int be, .int bds, .int nos, .int fls]))]) (q0 := 0) (ci := 8) C hW hl (c_X10_picks_bad l G (ad 1) (ad 0) (ad 14) (ad 27) (ad 40) (ad 56) (ad 58) (ad 62) k1 k2 ab be bds nos fls (xs (i + 1)) (by exact hc) _) k_ml_L_45 q_X10_picks ⟨⟨rfl, rfl⟩, Nat.le_of_ble_eq_true rfl, Nat.le_of_ble_eq_true rfl⟩ [0] (by decide) rfl rfl rfl rfl rfl (Nat.le_of_ble_eq_true rfl) dL_law_373 ⟨hcl.1, hcl.2⟩) (fun r_1 _ er_1 => ?_)
    clear hW H locs; intro H locs hW
    replace hW : Wd G A_ s_.heap (LW G ad k1 k2 ab be (bds + 1) nos fls wide wd ck n pf sn sf nn nf mn mf u uf ywide ywd yck yn ypf ysn ysf ynn ynf ymn ymf yu yuf zwide zwd zck zn zpf zsn zsf znn znf zmn zmf zu zuf tk tn tok stt en tf dwide dwd dck dn dpf dsn dsf dnn dnf dmn dmf du duf f0 cr td0 fs0 car rea fin ms mab mbe (nI tn) tA tL tK tV a kf jf rv sv hf ef tg b vf) H locs := hW
    refine lv_as (y := (-2)) er_1 ?_
    refine lv_aload_n hx hb dL_law_376 rfl (lv_at hl 2 rfl) ?_
    refine lv_aload_n hx hb dL_law_377 rfl (lv_at hl 0 rfl) ?_
    refine lv_iload_n hx hb dL_law_378 rfl (lv_at hl 3 rfl) ?_
    refine lv_iconst (v := 1) hx hb dL_law_379 (by decide) ?_
    refine lv_iadd hx hb dL_law_380 ?_
    refine lv_as (y := nI (i + 1)) (nI_add i 1) ?_
    refine va_sld hx hb hX hbl hbA hW.2.2 (vp_in_nI (n := i + 1) (by omega) (by omega)) dL_law_381 ?_
    refine lv_as (y := xs (i + 1)) (by rw [nI_clamp (by omega)]) ?_
    refine g_fiS (ww := fun (u_ : Unit) => [((ad 64), .inr (9, [.ref (ad 65), .ref (ad 66), .ref (ad 67), .ref (ad 68), .long mab, .long mbe, .ref (ad 69), .ref (ad 70), .ref (ad 71), .ref (ad 72), .int (nI tn), .int tA, .int tL, .int tK, .int tV, .ref (ad 73), .ref (ad 74)])), ((ad 68), .inl (G.2.1, 3, .inl (upd rv 0 (rv 0 + 1))))]) (w2 := fun (u_ : Unit) => LW G ad k1 k2 ab be (bds + 1) nos fls wide wd ck n pf sn sf nn nf mn mf u uf ywide ywd yck yn ypf ysn ysf ynn ynf ymn ymf yu yuf zwide zwd zck zn zpf zsn zsf znn znf zmn zmf zu zuf tk tn tok stt en tf dwide dwd dck dn dpf dsn dsf dnn dnf dmn dmf du duf f0 cr td0 fs0 car rea fin ms mab mbe (nI tn) tA tL tK tV a kf jf (upd rv 0 (rv 0 + 1)) sv hf ef tg b vf) C hW [64, 68] rfl (fun _ => rfl) (fun _ => rfl) (fun _ => lw_fst.trans lw_fst.symm) (g_runV (As := [.int (xs (i + 1))]) (rest := [.int (-2)]) (wc := [((ad 64), .inr (9, [.ref (ad 65), .ref (ad 66), .ref (ad 67), .ref (ad 68), .long mab, .long mbe, .ref (ad 69), .ref (ad 70), .ref (ad 71), .ref (ad 72), .int (nI tn), .int tA, .int tL, .int tK, .int tV, .ref (ad 73), .ref (ad 74)])), ((ad 68), .inl (G.2.1, 3, .inl rv))]) (q0 := 0) (ci := 9) C hW hl (c_X11_picks_bad l G (ad 64) (ad 65) (ad 66) (ad 67) (ad 68) (ad 69) (ad 70) (ad 71) (ad 72) (ad 73) (ad 74) mab mbe (nI tn) tA tL tK tV rv (xs (i + 1)) (by exact hc) _) k_ml_L_48 q_X11_picks ⟨⟨rfl, rfl⟩, Nat.le_of_ble_eq_true rfl, Nat.le_of_ble_eq_true rfl⟩ [64, 68] (by decide) rfl rfl rfl rfl rfl (Nat.le_of_ble_eq_true rfl) dL_law_382 ⟨hcl.1, hcl.2⟩) (fun r_3 _ er_3 => ?_)
    clear hW H locs; intro H locs hW
    replace hW : Wd G A_ s_.heap (LW G ad k1 k2 ab be (bds + 1) nos fls wide wd ck n pf sn sf nn nf mn mf u uf ywide ywd yck yn ypf ysn ysf ynn ynf ymn ymf yu yuf zwide zwd zck zn zpf zsn zsf znn znf zmn zmf zu zuf tk tn tok stt en tf dwide dwd dck dn dpf dsn dsf dnn dnf dmn dmf du duf f0 cr td0 fs0 car rea fin ms mab mbe (nI tn) tA tL tK tV a kf jf (upd rv 0 (rv 0 + 1)) sv hf ef tg b vf) H locs := hW
    refine lv_as (y := (-2)) er_3 ?_
    refine lv_as (y := (-2)) (rfl) ?_
    refine lv_icmp_eq (tgt := 1149) hx hb dL_law_385 (by decide) (fun _ => ?_) (fun c9 => absurd rfl c9)
    exact K k1 k2 ab be (bds + 1) nos fls wide wd ck n pf sn sf nn nf mn mf u uf ywide ywd yck yn ypf ysn ysf ynn ynf ymn ymf yu yuf zwide zwd zck zn zpf zsn zsf znn znf zmn zmf zu zuf tk tn tok stt en tf dwide dwd dck dn dpf dsn dsf dnn dnf dmn dmf du duf f0 cr td0 fs0 car rea fin ms mab mbe (nI tn) tA tL tK tV a kf jf (upd rv 0 (rv 0 + 1)) sv hf ef tg b vf (⟨hV0.mono (by omega), hI1.mono (by omega), hI2.mono (by omega), ⟨htn, rfl, htt⟩, hPR, CR_bad hCR⟩) _ _ _ hW hl
  | true =>
    by_cases hup : ck 3 = 1
    · refine lv_aload_n hx hb dL_law_367 rfl (lv_at hl 1 rfl) ?_
      refine lv_aload_n hx hb dL_law_368 rfl (lv_at hl 0 rfl) ?_
      refine lv_iload_n hx hb dL_law_369 rfl (lv_at hl 3 rfl) ?_
      refine lv_iconst (v := 1) hx hb dL_law_370 (by decide) ?_
      refine lv_iadd hx hb dL_law_371 ?_
      refine lv_as (y := nI (i + 1)) (nI_add i 1) ?_
      refine va_sld hx hb hX hbl hbA hW.2.2 (vp_in_nI (n := i + 1) (by omega) (by omega)) dL_law_372 ?_
      refine lv_as (y := xs (i + 1)) (by rw [nI_clamp (by omega)]) ?_
      refine g_fiS (ww := fun (u_ : Unit) => [((ad 0), .inr (8, [.ref (ad 1), .ref (ad 14), .ref (ad 27), .int k1, .int k2, .ref (ad 40), .ref (ad 56), .ref (ad 58), .ref (ad 62), .int ab, .int be, .int bds, .int (nos + 1), .int fls])), ((ad 1), .inr (7, [.int wide, .ref (ad 2), .ref (ad 3), .ref (ad 4), .ref (ad 6), .ref (ad 8), .ref (ad 10), .ref (ad 12)])), ((ad 3), .inl (G.2.1, 7, .inl ck))]) (w2 := fun (u_ : Unit) => LW G ad k1 k2 ab be bds (nos + 1) fls wide wd ck n pf sn sf nn nf mn mf u uf ywide ywd yck yn ypf ysn ysf ynn ynf ymn ymf yu yuf zwide zwd zck zn zpf zsn zsf znn znf zmn zmf zu zuf tk tn tok stt en tf dwide dwd dck dn dpf dsn dsf dnn dnf dmn dmf du duf f0 cr td0 fs0 car rea fin ms mab mbe (nI tn) tA tL tK tV a kf jf rv sv hf ef tg b vf) C hW [0, 1, 3] rfl (fun _ => rfl) (fun _ => rfl) (fun _ => lw_fst.trans lw_fst.symm) (g_runV (As := [.int (xs (i + 1))]) (rest := []) (wc := [((ad 0), .inr (8, [.ref (ad 1), .ref (ad 14), .ref (ad 27), .int k1, .int k2, .ref (ad 40), .ref (ad 56), .ref (ad 58), .ref (ad 62), .int ab, .int be, .int bds, .int nos, .int fls])), ((ad 1), .inr (7, [.int wide, .ref (ad 2), .ref (ad 3), .ref (ad 4), .ref (ad 6), .ref (ad 8), .ref (ad 10), .ref (ad 12)])), ((ad 3), .inl (G.2.1, 7, .inl ck))]) (q0 := 0) (ci := 8) C hW hl (c_X10_picks_no l G (ad 1) (ad 2) (ad 3) (ad 4) (ad 6) (ad 8) (ad 10) (ad 12) wide (ad 0) (ad 14) (ad 27) (ad 40) (ad 56) (ad 58) (ad 62) k1 k2 ab be bds nos fls ck (xs (i + 1)) (by exact hc) (by exact hup) _) k_ml_L_45 q_X10_picks ⟨⟨rfl, rfl⟩, Nat.le_of_ble_eq_true rfl, Nat.le_of_ble_eq_true rfl⟩ [0, 1, 3] (by decide) rfl rfl rfl rfl rfl (Nat.le_of_ble_eq_true rfl) dL_law_373 ⟨hcl.1, hcl.2⟩) (fun r_1 _ er_1 => ?_)
      clear hW H locs; intro H locs hW
      replace hW : Wd G A_ s_.heap (LW G ad k1 k2 ab be bds (nos + 1) fls wide wd ck n pf sn sf nn nf mn mf u uf ywide ywd yck yn ypf ysn ysf ynn ynf ymn ymf yu yuf zwide zwd zck zn zpf zsn zsf znn znf zmn zmf zu zuf tk tn tok stt en tf dwide dwd dck dn dpf dsn dsf dnn dnf dmn dmf du duf f0 cr td0 fs0 car rea fin ms mab mbe (nI tn) tA tL tK tV a kf jf rv sv hf ef tg b vf) H locs := hW
      refine lv_as (y := (-3)) er_1 ?_
      refine lv_aload_n hx hb dL_law_376 rfl (lv_at hl 2 rfl) ?_
      refine lv_aload_n hx hb dL_law_377 rfl (lv_at hl 0 rfl) ?_
      refine lv_iload_n hx hb dL_law_378 rfl (lv_at hl 3 rfl) ?_
      refine lv_iconst (v := 1) hx hb dL_law_379 (by decide) ?_
      refine lv_iadd hx hb dL_law_380 ?_
      refine lv_as (y := nI (i + 1)) (nI_add i 1) ?_
      refine va_sld hx hb hX hbl hbA hW.2.2 (vp_in_nI (n := i + 1) (by omega) (by omega)) dL_law_381 ?_
      refine lv_as (y := xs (i + 1)) (by rw [nI_clamp (by omega)]) ?_
      refine g_fiS (ww := fun (u_ : Unit) => [((ad 64), .inr (9, [.ref (ad 65), .ref (ad 66), .ref (ad 67), .ref (ad 68), .long mab, .long mbe, .ref (ad 69), .ref (ad 70), .ref (ad 71), .ref (ad 72), .int (nI tn), .int tA, .int tL, .int tK, .int tV, .ref (ad 73), .ref (ad 74)])), ((ad 65), .inl (G.2.1, 159, .inl a)), ((ad 68), .inl (G.2.1, 3, .inl (upd rv 1 (rv 1 + 1))))]) (w2 := fun (u_ : Unit) => LW G ad k1 k2 ab be bds (nos + 1) fls wide wd ck n pf sn sf nn nf mn mf u uf ywide ywd yck yn ypf ysn ysf ynn ynf ymn ymf yu yuf zwide zwd zck zn zpf zsn zsf znn znf zmn zmf zu zuf tk tn tok stt en tf dwide dwd dck dn dpf dsn dsf dnn dnf dmn dmf du duf f0 cr td0 fs0 car rea fin ms mab mbe (nI tn) tA tL tK tV a kf jf (upd rv 1 (rv 1 + 1)) sv hf ef tg b vf) C hW [64, 65, 68] rfl (fun _ => rfl) (fun _ => rfl) (fun _ => lw_fst.trans lw_fst.symm) (g_runV (As := [.int (xs (i + 1))]) (rest := [.int (-3)]) (wc := [((ad 64), .inr (9, [.ref (ad 65), .ref (ad 66), .ref (ad 67), .ref (ad 68), .long mab, .long mbe, .ref (ad 69), .ref (ad 70), .ref (ad 71), .ref (ad 72), .int (nI tn), .int tA, .int tL, .int tK, .int tV, .ref (ad 73), .ref (ad 74)])), ((ad 65), .inl (G.2.1, 159, .inl a)), ((ad 68), .inl (G.2.1, 3, .inl rv))]) (q0 := 0) (ci := 9) C hW hl (c_X11_picks_no l G (ad 64) (ad 65) (ad 66) (ad 67) (ad 68) (ad 69) (ad 70) (ad 71) (ad 72) (ad 73) (ad 74) mab mbe (nI tn) tA tL tK tV rv a (xs (i + 1)) (by exact hc) (by rw [e9]; exact hup) _) k_ml_L_48 q_X11_picks ⟨⟨rfl, rfl⟩, Nat.le_of_ble_eq_true rfl, Nat.le_of_ble_eq_true rfl⟩ [64, 65, 68] (by decide) rfl rfl rfl rfl rfl (Nat.le_of_ble_eq_true rfl) dL_law_382 ⟨hcl.1, hcl.2⟩) (fun r_3 _ er_3 => ?_)
      clear hW H locs; intro H locs hW
      replace hW : Wd G A_ s_.heap (LW G ad k1 k2 ab be bds (nos + 1) fls wide wd ck n pf sn sf nn nf mn mf u uf ywide ywd yck yn ypf ysn ysf ynn ynf ymn ymf yu yuf zwide zwd zck zn zpf zsn zsf znn znf zmn zmf zu zuf tk tn tok stt en tf dwide dwd dck dn dpf dsn dsf dnn dnf dmn dmf du duf f0 cr td0 fs0 car rea fin ms mab mbe (nI tn) tA tL tK tV a kf jf (upd rv 1 (rv 1 + 1)) sv hf ef tg b vf) H locs := hW
      refine lv_as (y := (-3)) er_3 ?_
      refine lv_as (y := (-3)) (rfl) ?_
      refine lv_icmp_eq (tgt := 1149) hx hb dL_law_385 (by decide) (fun _ => ?_) (fun c9 => absurd rfl c9)
      exact K k1 k2 ab be bds (nos + 1) fls wide wd ck n pf sn sf nn nf mn mf u uf ywide ywd yck yn ypf ysn ysf ynn ynf ymn ymf yu yuf zwide zwd zck zn zpf zsn zsf znn znf zmn zmf zu zuf tk tn tok stt en tf dwide dwd dck dn dpf dsn dsf dnn dnf dmn dmf du duf f0 cr td0 fs0 car rea fin ms mab mbe (nI tn) tA tL tK tV a kf jf (upd rv 1 (rv 1 + 1)) sv hf ef tg b vf (⟨hV0.mono (by omega), hI1.mono (by omega), hI2.mono (by omega), ⟨htn, rfl, htt⟩, hPR, CR_no hCR⟩) _ _ _ hW hl
    · refine lv_aload_n hx hb dL_law_367 rfl (lv_at hl 1 rfl) ?_
      refine lv_aload_n hx hb dL_law_368 rfl (lv_at hl 0 rfl) ?_
      refine lv_iload_n hx hb dL_law_369 rfl (lv_at hl 3 rfl) ?_
      refine lv_iconst (v := 1) hx hb dL_law_370 (by decide) ?_
      refine lv_iadd hx hb dL_law_371 ?_
      refine lv_as (y := nI (i + 1)) (nI_add i 1) ?_
      refine va_sld hx hb hX hbl hbA hW.2.2 (vp_in_nI (n := i + 1) (by omega) (by omega)) dL_law_372 ?_
      refine lv_as (y := xs (i + 1)) (by rw [nI_clamp (by omega)]) ?_
      refine g_fiS (ww := fun (u_ : Unit) => [((ad 0), .inr (8, [.ref (ad 1), .ref (ad 14), .ref (ad 27), .int k1, .int k2, .ref (ad 40), .ref (ad 56), .ref (ad 58), .ref (ad 62), .int ab, .int be, .int bds, .int nos, .int fls])), ((ad 1), .inr (7, [.int wide, .ref (ad 2), .ref (ad 3), .ref (ad 4), .ref (ad 6), .ref (ad 8), .ref (ad 10), .ref (ad 12)])), ((ad 3), .inl (G.2.1, 7, .inl (upd (upd ck 2 (xs (i + 1))) 3 1))), ((ad 12), .inr (1, [.ref (ad 13), .int (nI (pun u))])), ((ad 13), .inl (G.2.1, 56, .inl (pu u uf ck)))]) (w2 := fun (u_ : Unit) => LW G ad k1 k2 ab be bds nos fls wide wd (upd (upd ck 2 (xs (i + 1))) 3 1) n pf sn sf nn nf mn mf (pun u) (pu u uf ck) ywide ywd yck yn ypf ysn ysf ynn ynf ymn ymf yu yuf zwide zwd zck zn zpf zsn zsf znn znf zmn zmf zu zuf tk tn tok stt en tf dwide dwd dck dn dpf dsn dsf dnn dnf dmn dmf du duf f0 cr td0 fs0 car rea fin ms mab mbe (nI tn) tA tL tK tV a kf jf rv sv hf ef tg b vf) C hW [0, 1, 3, 12, 13] rfl (fun _ => rfl) (fun _ => rfl) (fun _ => lw_fst.trans lw_fst.symm) (g_runV (As := [.int (xs (i + 1))]) (rest := []) (wc := [((ad 0), .inr (8, [.ref (ad 1), .ref (ad 14), .ref (ad 27), .int k1, .int k2, .ref (ad 40), .ref (ad 56), .ref (ad 58), .ref (ad 62), .int ab, .int be, .int bds, .int nos, .int fls])), ((ad 1), .inr (7, [.int wide, .ref (ad 2), .ref (ad 3), .ref (ad 4), .ref (ad 6), .ref (ad 8), .ref (ad 10), .ref (ad 12)])), ((ad 3), .inl (G.2.1, 7, .inl ck)), ((ad 12), .inr (1, [.ref (ad 13), .int (nI u)])), ((ad 13), .inl (G.2.1, 56, .inl uf))]) (q0 := 0) (ci := 8) C hW hl (c_X10_picks_ok l G (ad 1) (ad 2) (ad 3) (ad 4) (ad 6) (ad 8) (ad 10) (ad 12) wide (ad 0) (ad 14) (ad 27) (ad 40) (ad 56) (ad 58) (ad 62) k1 k2 ab be bds nos fls ck (ad 13) u uf (xs (i + 1)) (by exact hc) (by exact hup) (by first | assumption | omega) _) k_ml_L_45 q_X10_picks ⟨⟨rfl, rfl⟩, Nat.le_of_ble_eq_true rfl, Nat.le_of_ble_eq_true rfl⟩ [0, 1, 3, 12, 13] (by decide) rfl rfl rfl rfl rfl (Nat.le_of_ble_eq_true rfl) dL_law_373 ⟨hcl.1, hcl.2⟩) (fun r_1 _ er_1 => ?_)
      clear hW H locs; intro H locs hW
      replace hW : Wd G A_ s_.heap (LW G ad k1 k2 ab be bds nos fls wide wd (upd (upd ck 2 (xs (i + 1))) 3 1) n pf sn sf nn nf mn mf (pun u) (pu u uf ck) ywide ywd yck yn ypf ysn ysf ynn ynf ymn ymf yu yuf zwide zwd zck zn zpf zsn zsf znn znf zmn zmf zu zuf tk tn tok stt en tf dwide dwd dck dn dpf dsn dsf dnn dnf dmn dmf du duf f0 cr td0 fs0 car rea fin ms mab mbe (nI tn) tA tL tK tV a kf jf rv sv hf ef tg b vf) H locs := hW
      refine lv_as (y := ck 5) er_1 ?_
      refine lv_aload_n hx hb dL_law_376 rfl (lv_at hl 2 rfl) ?_
      refine lv_aload_n hx hb dL_law_377 rfl (lv_at hl 0 rfl) ?_
      refine lv_iload_n hx hb dL_law_378 rfl (lv_at hl 3 rfl) ?_
      refine lv_iconst (v := 1) hx hb dL_law_379 (by decide) ?_
      refine lv_iadd hx hb dL_law_380 ?_
      refine lv_as (y := nI (i + 1)) (nI_add i 1) ?_
      refine va_sld hx hb hX hbl hbA hW.2.2 (vp_in_nI (n := i + 1) (by omega) (by omega)) dL_law_381 ?_
      refine lv_as (y := xs (i + 1)) (by rw [nI_clamp (by omega)]) ?_
      refine g_fiS (ww := fun (u_ : Unit) => [((ad 64), .inr (9, [.ref (ad 65), .ref (ad 66), .ref (ad 67), .ref (ad 68), .long mab, .long mbe, .ref (ad 69), .ref (ad 70), .ref (ad 71), .ref (ad 72), .int (nI tn), .int tA, .int tL, .int tK, .int tV, .ref (ad 73), .ref (ad 74)])), ((ad 65), .inl (G.2.1, 159, .inl (upd (upd (svA a u) 9 1) 8 (xs (i + 1)))))]) (w2 := fun (u_ : Unit) => LW G ad k1 k2 ab be bds nos fls wide wd (upd (upd ck 2 (xs (i + 1))) 3 1) n pf sn sf nn nf mn mf (pun u) (pu u uf ck) ywide ywd yck yn ypf ysn ysf ynn ynf ymn ymf yu yuf zwide zwd zck zn zpf zsn zsf znn znf zmn zmf zu zuf tk tn tok stt en tf dwide dwd dck dn dpf dsn dsf dnn dnf dmn dmf du duf f0 cr td0 fs0 car rea fin ms mab mbe (nI tn) tA tL tK tV (upd (upd (svA a u) 9 1) 8 (xs (i + 1))) kf jf rv sv hf ef tg b vf) C hW [64, 65] rfl (fun _ => rfl) (fun _ => rfl) (fun _ => lw_fst.trans lw_fst.symm) (g_runV (As := [.int (xs (i + 1))]) (rest := [.int (ck 5)]) (wc := [((ad 64), .inr (9, [.ref (ad 65), .ref (ad 66), .ref (ad 67), .ref (ad 68), .long mab, .long mbe, .ref (ad 69), .ref (ad 70), .ref (ad 71), .ref (ad 72), .int (nI tn), .int tA, .int tL, .int tK, .int tV, .ref (ad 73), .ref (ad 74)])), ((ad 65), .inl (G.2.1, 159, .inl a))]) (q0 := 0) (ci := 9) C hW hl (c_X11_picks_ok l G (ad 64) (ad 65) (ad 66) (ad 67) (ad 68) (ad 69) (ad 70) (ad 71) (ad 72) (ad 73) (ad 74) mab mbe (nI tn) tA tL tK tV a u (xs (i + 1)) (by first | assumption | omega) (by first | assumption | omega) (by exact hc) (by rw [e9]; exact hup) _) k_ml_L_48 q_X11_picks ⟨⟨rfl, rfl⟩, Nat.le_of_ble_eq_true rfl, Nat.le_of_ble_eq_true rfl⟩ [64, 65] (by decide) rfl rfl rfl rfl rfl (Nat.le_of_ble_eq_true rfl) dL_law_382 ⟨hcl.1, hcl.2⟩) (fun r_3 _ er_3 => ?_)
      clear hW H locs; intro H locs hW
      replace hW : Wd G A_ s_.heap (LW G ad k1 k2 ab be bds nos fls wide wd (upd (upd ck 2 (xs (i + 1))) 3 1) n pf sn sf nn nf mn mf (pun u) (pu u uf ck) ywide ywd yck yn ypf ysn ysf ynn ynf ymn ymf yu yuf zwide zwd zck zn zpf zsn zsf znn znf zmn zmf zu zuf tk tn tok stt en tf dwide dwd dck dn dpf dsn dsf dnn dnf dmn dmf du duf f0 cr td0 fs0 car rea fin ms mab mbe (nI tn) tA tL tK tV (upd (upd (svA a u) 9 1) 8 (xs (i + 1))) kf jf rv sv hf ef tg b vf) H locs := hW
      refine lv_as (y := a 11) er_3 ?_
      refine lv_as (y := ck 5) (ea 5 (by decide)) ?_
      refine lv_icmp_eq (tgt := 1149) hx hb dL_law_385 (by decide) (fun _ => ?_) (fun c9 => absurd rfl c9)
      exact K k1 k2 ab be bds nos fls wide wd (upd (upd ck 2 (xs (i + 1))) 3 1) n pf sn sf nn nf mn mf (pun u) (pu u uf ck) ywide ywd yck yn ypf ysn ysf ynn ynf ymn ymf yu yuf zwide zwd zck zn zpf zsn zsf znn znf zmn zmf zu zuf tk tn tok stt en tf dwide dwd dck dn dpf dsn dsf dnn dnf dmn dmf du duf f0 cr td0 fs0 car rea fin ms mab mbe (nI tn) tA tL tK tV (upd (upd (svA a u) 9 1) 8 (xs (i + 1))) kf jf rv sv hf ef tg b vf (⟨(VR_pick hV0 hc).mono (by omega), hI1.mono (by omega), hI2.mono (by omega), ⟨htn, rfl, htt⟩, hPR, hCR⟩) _ _ _ hW hl
set_option maxHeartbeats 8000000 in
set_option maxRecDepth 100000 in
theorem st_cock {p_ : Program} {l : Launch} {e_ : Env} {s_ : State} {m_ : MethodId} {ar_ : Array Value} {be_ : List Frame} {me_ : Method} {cd_ : Code} {cells slots : Nat} {Q : State → Prop} {G : gT} {A_ : Nat → Prop} {ad : Nat → Nat} {bS : Nat} {L i B : Nat} {xs : Nat → Int32} (hLA : LA p_ l e_ s_ m_ ar_ be_ me_ cd_ cells slots Q G A_ ad bS L xs) (hi : i + 4 < L) (hB : B ≤ 300) (K : KK p_ l e_ s_ m_ ar_ be_ me_ cd_ cells slots Q G A_ ad bS i (B + 1) 1149) : KK p_ l e_ s_ m_ ar_ be_ me_ cd_ cells slots Q G A_ ad bS i B 390 := by
  obtain ⟨C, hX, hbl, hbA, hL, hcl⟩ := hLA
  intro k1 k2 ab be bds nos fls wide wd ck n pf sn sf nn nf mn mf u uf ywide ywd yck yn ypf ysn ysf ynn ynf ymn ymf yu yuf zwide zwd zck zn zpf zsn zsf znn znf zmn zmf zu zuf tk tn tok stt en tf dwide dwd dck dn dpf dsn dsf dnn dnf dmn dmf du duf f0 cr td0 fs0 car rea fin ms mab mbe bL tA tL tK tV a kf jf rv sv hf ef tg b vf hR H locs ls hW hl
  have hx := C.1; have hb := C.2.1; have hown := C.2.2.2.1; have ht := C.2.2.2.2.1
  obtain ⟨hV, hI1, hI2, hT, hPR, hCR⟩ := hR
  have hV0 := hV
  obtain ⟨⟨hn, hs, ho, hm, hu⟩, ⟨hWd, hP, hH, hS, hO⟩, ⟨hck, hpa⟩, ⟨e0, e1, e2, e3, e4, e5⟩, ⟨ea, ew, ep⟩, ⟨es, eno, em, eu⟩⟩ := hV
  have hck0 := hck
  obtain ⟨⟨hr, eh, hh⟩, ⟨fh, eh2, hfl⟩, hup01, hg, ⟨k4, ek4, hk4⟩, ⟨d5, ed5, hd5⟩⟩ := hck
  have e8 : a 8 = nI fh := (ea 2 (by decide)).trans eh2
  have e12 : a 12 = nI hr := (ea 6 (by decide)).trans eh
  have e9 : a 9 = ck 3 := ea 3 (by decide)
  have e7 : a 7 = ck 1 := ea 1 (by decide)
  have e6 : a 6 = ck 0 := ea 0 (by decide)
  obtain ⟨htn, hbL, htt⟩ := hT
  subst hbL
  cases hc : (iw (xs (i + 1)) 0 5 && iw (xs (i + 2)) 1 9) with
  | false =>
    refine lv_aload_n hx hb dL_law_390 rfl (lv_at hl 1 rfl) ?_
    refine lv_aload_n hx hb dL_law_391 rfl (lv_at hl 0 rfl) ?_
    refine lv_iload_n hx hb dL_law_392 rfl (lv_at hl 3 rfl) ?_
    refine lv_iconst (v := 1) hx hb dL_law_393 (by decide) ?_
    refine lv_iadd hx hb dL_law_394 ?_
    refine lv_as (y := nI (i + 1)) (nI_add i 1) ?_
    refine va_sld hx hb hX hbl hbA hW.2.2 (vp_in_nI (n := i + 1) (by omega) (by omega)) dL_law_395 ?_
    refine lv_as (y := xs (i + 1)) (by rw [nI_clamp (by omega)]) ?_
    refine lv_aload_n hx hb dL_law_396 rfl (lv_at hl 0 rfl) ?_
    refine lv_iload_n hx hb dL_law_397 rfl (lv_at hl 3 rfl) ?_
    refine lv_iconst (v := 2) hx hb dL_law_398 (by decide) ?_
    refine lv_iadd hx hb dL_law_399 ?_
    refine lv_as (y := nI (i + 2)) (nI_add i 2) ?_
    refine va_sld hx hb hX hbl hbA hW.2.2 (vp_in_nI (n := i + 2) (by omega) (by omega)) dL_law_400 ?_
    refine lv_as (y := xs (i + 2)) (by rw [nI_clamp (by omega)]) ?_
    refine g_fiS (ww := fun (u_ : Unit) => [((ad 0), .inr (8, [.ref (ad 1), .ref (ad 14), .ref (ad 27), .int k1, .int k2, .ref (ad 40), .ref (ad 56), .ref (ad 58), .ref (ad 62), .int ab, .int be, .int (bds + 1), .int nos, .int fls]))]) (w2 := fun (u_ : Unit) => LW G ad k1 k2 ab be (bds + 1) nos fls wide wd ck n pf sn sf nn nf mn mf u uf ywide ywd yck yn ypf ysn ysf ynn ynf ymn ymf yu yuf zwide zwd zck zn zpf zsn zsf znn znf zmn zmf zu zuf tk tn tok stt en tf dwide dwd dck dn dpf dsn dsf dnn dnf dmn dmf du duf f0 cr td0 fs0 car rea fin ms mab mbe (nI tn) tA tL tK tV a kf jf rv sv hf ef tg b vf) C hW [0] rfl (fun _ => rfl) (fun _ => rfl) (fun _ => lw_fst.trans lw_fst.symm) (g_runV (As := [.int (xs (i + 1)), .int (xs (i + 2))]) (rest := []) (wc := [((ad 0), .inr (8, [.ref (ad 1), .ref (ad 14), .ref (ad 27), .int k1, .int k2, .ref (ad 40), .ref (ad 56), .ref (ad 58), .ref (ad 62), .int ab, .int be, .int bds, .int nos, .int fls]))]) (q0 := 0) (ci := 8) C hW hl (c_X10_cock_bad l G (ad 1) (ad 0) (ad 14) (ad 27) (ad 40) (ad 56) (ad 58) (ad 62) k1 k2 ab be bds nos fls (xs (i + 1)) (xs (i + 2)) (by exact hc) _) k_ml_L_49 q_X10_cock ⟨⟨rfl, rfl⟩, Nat.le_of_ble_eq_true rfl, Nat.le_of_ble_eq_true rfl⟩ [0] (by decide) rfl rfl rfl rfl rfl (Nat.le_of_ble_eq_true rfl) dL_law_401 ⟨hcl.1, hcl.2⟩) (fun r_1 _ er_1 => ?_)
    clear hW H locs; intro H locs hW
    replace hW : Wd G A_ s_.heap (LW G ad k1 k2 ab be (bds + 1) nos fls wide wd ck n pf sn sf nn nf mn mf u uf ywide ywd yck yn ypf ysn ysf ynn ynf ymn ymf yu yuf zwide zwd zck zn zpf zsn zsf znn znf zmn zmf zu zuf tk tn tok stt en tf dwide dwd dck dn dpf dsn dsf dnn dnf dmn dmf du duf f0 cr td0 fs0 car rea fin ms mab mbe (nI tn) tA tL tK tV a kf jf rv sv hf ef tg b vf) H locs := hW
    refine lv_as (y := (-2)) er_1 ?_
    refine lv_aload_n hx hb dL_law_404 rfl (lv_at hl 2 rfl) ?_
    refine lv_aload_n hx hb dL_law_405 rfl (lv_at hl 0 rfl) ?_
    refine lv_iload_n hx hb dL_law_406 rfl (lv_at hl 3 rfl) ?_
    refine lv_iconst (v := 1) hx hb dL_law_407 (by decide) ?_
    refine lv_iadd hx hb dL_law_408 ?_
    refine lv_as (y := nI (i + 1)) (nI_add i 1) ?_
    refine va_sld hx hb hX hbl hbA hW.2.2 (vp_in_nI (n := i + 1) (by omega) (by omega)) dL_law_409 ?_
    refine lv_as (y := xs (i + 1)) (by rw [nI_clamp (by omega)]) ?_
    refine lv_aload_n hx hb dL_law_410 rfl (lv_at hl 0 rfl) ?_
    refine lv_iload_n hx hb dL_law_411 rfl (lv_at hl 3 rfl) ?_
    refine lv_iconst (v := 2) hx hb dL_law_412 (by decide) ?_
    refine lv_iadd hx hb dL_law_413 ?_
    refine lv_as (y := nI (i + 2)) (nI_add i 2) ?_
    refine va_sld hx hb hX hbl hbA hW.2.2 (vp_in_nI (n := i + 2) (by omega) (by omega)) dL_law_414 ?_
    refine lv_as (y := xs (i + 2)) (by rw [nI_clamp (by omega)]) ?_
    refine g_fiS (ww := fun (u_ : Unit) => [((ad 64), .inr (9, [.ref (ad 65), .ref (ad 66), .ref (ad 67), .ref (ad 68), .long mab, .long mbe, .ref (ad 69), .ref (ad 70), .ref (ad 71), .ref (ad 72), .int (nI tn), .int tA, .int tL, .int tK, .int tV, .ref (ad 73), .ref (ad 74)])), ((ad 68), .inl (G.2.1, 3, .inl (upd rv 0 (rv 0 + 1))))]) (w2 := fun (u_ : Unit) => LW G ad k1 k2 ab be (bds + 1) nos fls wide wd ck n pf sn sf nn nf mn mf u uf ywide ywd yck yn ypf ysn ysf ynn ynf ymn ymf yu yuf zwide zwd zck zn zpf zsn zsf znn znf zmn zmf zu zuf tk tn tok stt en tf dwide dwd dck dn dpf dsn dsf dnn dnf dmn dmf du duf f0 cr td0 fs0 car rea fin ms mab mbe (nI tn) tA tL tK tV a kf jf (upd rv 0 (rv 0 + 1)) sv hf ef tg b vf) C hW [64, 68] rfl (fun _ => rfl) (fun _ => rfl) (fun _ => lw_fst.trans lw_fst.symm) (g_runV (As := [.int (xs (i + 1)), .int (xs (i + 2))]) (rest := [.int (-2)]) (wc := [((ad 64), .inr (9, [.ref (ad 65), .ref (ad 66), .ref (ad 67), .ref (ad 68), .long mab, .long mbe, .ref (ad 69), .ref (ad 70), .ref (ad 71), .ref (ad 72), .int (nI tn), .int tA, .int tL, .int tK, .int tV, .ref (ad 73), .ref (ad 74)])), ((ad 68), .inl (G.2.1, 3, .inl rv))]) (q0 := 0) (ci := 9) C hW hl (c_X11_cock_bad l G (ad 64) (ad 65) (ad 66) (ad 67) (ad 68) (ad 69) (ad 70) (ad 71) (ad 72) (ad 73) (ad 74) mab mbe (nI tn) tA tL tK tV rv (xs (i + 1)) (xs (i + 2)) (by exact hc) _) k_ml_L_52 q_X11_cock ⟨⟨rfl, rfl⟩, Nat.le_of_ble_eq_true rfl, Nat.le_of_ble_eq_true rfl⟩ [64, 68] (by decide) rfl rfl rfl rfl rfl (Nat.le_of_ble_eq_true rfl) dL_law_415 ⟨hcl.1, hcl.2⟩) (fun r_3 _ er_3 => ?_)
    clear hW H locs; intro H locs hW
    replace hW : Wd G A_ s_.heap (LW G ad k1 k2 ab be (bds + 1) nos fls wide wd ck n pf sn sf nn nf mn mf u uf ywide ywd yck yn ypf ysn ysf ynn ynf ymn ymf yu yuf zwide zwd zck zn zpf zsn zsf znn znf zmn zmf zu zuf tk tn tok stt en tf dwide dwd dck dn dpf dsn dsf dnn dnf dmn dmf du duf f0 cr td0 fs0 car rea fin ms mab mbe (nI tn) tA tL tK tV a kf jf (upd rv 0 (rv 0 + 1)) sv hf ef tg b vf) H locs := hW
    refine lv_as (y := (-2)) er_3 ?_
    refine lv_as (y := (-2)) (rfl) ?_
    refine lv_icmp_eq (tgt := 1149) hx hb dL_law_418 (by decide) (fun _ => ?_) (fun c9 => absurd rfl c9)
    exact K k1 k2 ab be (bds + 1) nos fls wide wd ck n pf sn sf nn nf mn mf u uf ywide ywd yck yn ypf ysn ysf ynn ynf ymn ymf yu yuf zwide zwd zck zn zpf zsn zsf znn znf zmn zmf zu zuf tk tn tok stt en tf dwide dwd dck dn dpf dsn dsf dnn dnf dmn dmf du duf f0 cr td0 fs0 car rea fin ms mab mbe (nI tn) tA tL tK tV a kf jf (upd rv 0 (rv 0 + 1)) sv hf ef tg b vf (⟨hV0.mono (by omega), hI1.mono (by omega), hI2.mono (by omega), ⟨htn, rfl, htt⟩, hPR, CR_bad hCR⟩) _ _ _ hW hl
  | true =>
    simp only [Bool.and_eq_true] at hc
    refine lv_aload_n hx hb dL_law_390 rfl (lv_at hl 1 rfl) ?_
    refine lv_aload_n hx hb dL_law_391 rfl (lv_at hl 0 rfl) ?_
    refine lv_iload_n hx hb dL_law_392 rfl (lv_at hl 3 rfl) ?_
    refine lv_iconst (v := 1) hx hb dL_law_393 (by decide) ?_
    refine lv_iadd hx hb dL_law_394 ?_
    refine lv_as (y := nI (i + 1)) (nI_add i 1) ?_
    refine va_sld hx hb hX hbl hbA hW.2.2 (vp_in_nI (n := i + 1) (by omega) (by omega)) dL_law_395 ?_
    refine lv_as (y := xs (i + 1)) (by rw [nI_clamp (by omega)]) ?_
    refine lv_aload_n hx hb dL_law_396 rfl (lv_at hl 0 rfl) ?_
    refine lv_iload_n hx hb dL_law_397 rfl (lv_at hl 3 rfl) ?_
    refine lv_iconst (v := 2) hx hb dL_law_398 (by decide) ?_
    refine lv_iadd hx hb dL_law_399 ?_
    refine lv_as (y := nI (i + 2)) (nI_add i 2) ?_
    refine va_sld hx hb hX hbl hbA hW.2.2 (vp_in_nI (n := i + 2) (by omega) (by omega)) dL_law_400 ?_
    refine lv_as (y := xs (i + 2)) (by rw [nI_clamp (by omega)]) ?_
    refine g_fiS (ww := fun (u_ : Unit) => [((ad 0), .inr (8, [.ref (ad 1), .ref (ad 14), .ref (ad 27), .int k1, .int k2, .ref (ad 40), .ref (ad 56), .ref (ad 58), .ref (ad 62), .int ab, .int be, .int bds, .int nos, .int fls])), ((ad 1), .inr (7, [.int wide, .ref (ad 2), .ref (ad 3), .ref (ad 4), .ref (ad 6), .ref (ad 8), .ref (ad 10), .ref (ad 12)])), ((ad 3), .inl (G.2.1, 7, .inl (upd (upd ck 0 (xs (i + 1))) 1 (xs (i + 2))))), ((ad 12), .inr (1, [.ref (ad 13), .int (nI (pun u))])), ((ad 13), .inl (G.2.1, 56, .inl (pu u uf ck)))]) (w2 := fun (u_ : Unit) => LW G ad k1 k2 ab be bds nos fls wide wd (upd (upd ck 0 (xs (i + 1))) 1 (xs (i + 2))) n pf sn sf nn nf mn mf (pun u) (pu u uf ck) ywide ywd yck yn ypf ysn ysf ynn ynf ymn ymf yu yuf zwide zwd zck zn zpf zsn zsf znn znf zmn zmf zu zuf tk tn tok stt en tf dwide dwd dck dn dpf dsn dsf dnn dnf dmn dmf du duf f0 cr td0 fs0 car rea fin ms mab mbe (nI tn) tA tL tK tV a kf jf rv sv hf ef tg b vf) C hW [0, 1, 3, 12, 13] rfl (fun _ => rfl) (fun _ => rfl) (fun _ => lw_fst.trans lw_fst.symm) (g_runV (As := [.int (xs (i + 1)), .int (xs (i + 2))]) (rest := []) (wc := [((ad 0), .inr (8, [.ref (ad 1), .ref (ad 14), .ref (ad 27), .int k1, .int k2, .ref (ad 40), .ref (ad 56), .ref (ad 58), .ref (ad 62), .int ab, .int be, .int bds, .int nos, .int fls])), ((ad 1), .inr (7, [.int wide, .ref (ad 2), .ref (ad 3), .ref (ad 4), .ref (ad 6), .ref (ad 8), .ref (ad 10), .ref (ad 12)])), ((ad 3), .inl (G.2.1, 7, .inl ck)), ((ad 12), .inr (1, [.ref (ad 13), .int (nI u)])), ((ad 13), .inl (G.2.1, 56, .inl uf))]) (q0 := 0) (ci := 8) C hW hl (c_X10_cock_ok l G (ad 1) (ad 2) (ad 3) (ad 4) (ad 6) (ad 8) (ad 10) (ad 12) wide (ad 0) (ad 14) (ad 27) (ad 40) (ad 56) (ad 58) (ad 62) k1 k2 ab be bds nos fls ck (ad 13) u uf (xs (i + 1)) (xs (i + 2)) (by exact hc.1) (by exact hc.2) (by first | assumption | omega) _) k_ml_L_49 q_X10_cock ⟨⟨rfl, rfl⟩, Nat.le_of_ble_eq_true rfl, Nat.le_of_ble_eq_true rfl⟩ [0, 1, 3, 12, 13] (by decide) rfl rfl rfl rfl rfl (Nat.le_of_ble_eq_true rfl) dL_law_401 ⟨hcl.1, hcl.2⟩) (fun r_1 _ er_1 => ?_)
    clear hW H locs; intro H locs hW
    replace hW : Wd G A_ s_.heap (LW G ad k1 k2 ab be bds nos fls wide wd (upd (upd ck 0 (xs (i + 1))) 1 (xs (i + 2))) n pf sn sf nn nf mn mf (pun u) (pu u uf ck) ywide ywd yck yn ypf ysn ysf ynn ynf ymn ymf yu yuf zwide zwd zck zn zpf zsn zsf znn znf zmn zmf zu zuf tk tn tok stt en tf dwide dwd dck dn dpf dsn dsf dnn dnf dmn dmf du duf f0 cr td0 fs0 car rea fin ms mab mbe (nI tn) tA tL tK tV a kf jf rv sv hf ef tg b vf) H locs := hW
    refine lv_as (y := ck 1) er_1 ?_
    refine lv_aload_n hx hb dL_law_404 rfl (lv_at hl 2 rfl) ?_
    refine lv_aload_n hx hb dL_law_405 rfl (lv_at hl 0 rfl) ?_
    refine lv_iload_n hx hb dL_law_406 rfl (lv_at hl 3 rfl) ?_
    refine lv_iconst (v := 1) hx hb dL_law_407 (by decide) ?_
    refine lv_iadd hx hb dL_law_408 ?_
    refine lv_as (y := nI (i + 1)) (nI_add i 1) ?_
    refine va_sld hx hb hX hbl hbA hW.2.2 (vp_in_nI (n := i + 1) (by omega) (by omega)) dL_law_409 ?_
    refine lv_as (y := xs (i + 1)) (by rw [nI_clamp (by omega)]) ?_
    refine lv_aload_n hx hb dL_law_410 rfl (lv_at hl 0 rfl) ?_
    refine lv_iload_n hx hb dL_law_411 rfl (lv_at hl 3 rfl) ?_
    refine lv_iconst (v := 2) hx hb dL_law_412 (by decide) ?_
    refine lv_iadd hx hb dL_law_413 ?_
    refine lv_as (y := nI (i + 2)) (nI_add i 2) ?_
    refine va_sld hx hb hX hbl hbA hW.2.2 (vp_in_nI (n := i + 2) (by omega) (by omega)) dL_law_414 ?_
    refine lv_as (y := xs (i + 2)) (by rw [nI_clamp (by omega)]) ?_
    refine g_fiS (ww := fun (u_ : Unit) => [((ad 64), .inr (9, [.ref (ad 65), .ref (ad 66), .ref (ad 67), .ref (ad 68), .long mab, .long mbe, .ref (ad 69), .ref (ad 70), .ref (ad 71), .ref (ad 72), .int (nI tn), .int tA, .int tL, .int tK, .int tV, .ref (ad 73), .ref (ad 74)])), ((ad 65), .inl (G.2.1, 159, .inl (upd (upd (svA a u) 6 (xs (i + 1))) 7 (xs (i + 2)))))]) (w2 := fun (u_ : Unit) => LW G ad k1 k2 ab be bds nos fls wide wd (upd (upd ck 0 (xs (i + 1))) 1 (xs (i + 2))) n pf sn sf nn nf mn mf (pun u) (pu u uf ck) ywide ywd yck yn ypf ysn ysf ynn ynf ymn ymf yu yuf zwide zwd zck zn zpf zsn zsf znn znf zmn zmf zu zuf tk tn tok stt en tf dwide dwd dck dn dpf dsn dsf dnn dnf dmn dmf du duf f0 cr td0 fs0 car rea fin ms mab mbe (nI tn) tA tL tK tV (upd (upd (svA a u) 6 (xs (i + 1))) 7 (xs (i + 2))) kf jf rv sv hf ef tg b vf) C hW [64, 65] rfl (fun _ => rfl) (fun _ => rfl) (fun _ => lw_fst.trans lw_fst.symm) (g_runV (As := [.int (xs (i + 1)), .int (xs (i + 2))]) (rest := [.int (ck 1)]) (wc := [((ad 64), .inr (9, [.ref (ad 65), .ref (ad 66), .ref (ad 67), .ref (ad 68), .long mab, .long mbe, .ref (ad 69), .ref (ad 70), .ref (ad 71), .ref (ad 72), .int (nI tn), .int tA, .int tL, .int tK, .int tV, .ref (ad 73), .ref (ad 74)])), ((ad 65), .inl (G.2.1, 159, .inl a))]) (q0 := 0) (ci := 9) C hW hl (c_X11_cock_ok l G (ad 64) (ad 65) (ad 66) (ad 67) (ad 68) (ad 69) (ad 70) (ad 71) (ad 72) (ad 73) (ad 74) mab mbe (nI tn) tA tL tK tV a u (xs (i + 1)) (xs (i + 2)) (by first | assumption | omega) (by first | assumption | omega) (by exact hc.1) (by exact hc.2) _) k_ml_L_52 q_X11_cock ⟨⟨rfl, rfl⟩, Nat.le_of_ble_eq_true rfl, Nat.le_of_ble_eq_true rfl⟩ [64, 65] (by decide) rfl rfl rfl rfl rfl (Nat.le_of_ble_eq_true rfl) dL_law_415 ⟨hcl.1, hcl.2⟩) (fun r_3 _ er_3 => ?_)
    clear hW H locs; intro H locs hW
    replace hW : Wd G A_ s_.heap (LW G ad k1 k2 ab be bds nos fls wide wd (upd (upd ck 0 (xs (i + 1))) 1 (xs (i + 2))) n pf sn sf nn nf mn mf (pun u) (pu u uf ck) ywide ywd yck yn ypf ysn ysf ynn ynf ymn ymf yu yuf zwide zwd zck zn zpf zsn zsf znn znf zmn zmf zu zuf tk tn tok stt en tf dwide dwd dck dn dpf dsn dsf dnn dnf dmn dmf du duf f0 cr td0 fs0 car rea fin ms mab mbe (nI tn) tA tL tK tV (upd (upd (svA a u) 6 (xs (i + 1))) 7 (xs (i + 2))) kf jf rv sv hf ef tg b vf) H locs := hW
    refine lv_as (y := a 7) er_3 ?_
    refine lv_as (y := ck 1) (e7) ?_
    refine lv_icmp_eq (tgt := 1149) hx hb dL_law_418 (by decide) (fun _ => ?_) (fun c9 => absurd rfl c9)
    exact K k1 k2 ab be bds nos fls wide wd (upd (upd ck 0 (xs (i + 1))) 1 (xs (i + 2))) n pf sn sf nn nf mn mf (pun u) (pu u uf ck) ywide ywd yck yn ypf ysn ysf ynn ynf ymn ymf yu yuf zwide zwd zck zn zpf zsn zsf znn znf zmn zmf zu zuf tk tn tok stt en tf dwide dwd dck dn dpf dsn dsf dnn dnf dmn dmf du duf f0 cr td0 fs0 car rea fin ms mab mbe (nI tn) tA tL tK tV (upd (upd (svA a u) 6 (xs (i + 1))) 7 (xs (i + 2))) kf jf rv sv hf ef tg b vf (⟨(VR_cock hV0 hc.2).mono (by omega), hI1.mono (by omega), hI2.mono (by omega), ⟨htn, rfl, htt⟩, hPR, hCR⟩) _ _ _ hW hl
set_option maxHeartbeats 8000000 in
set_option maxRecDepth 100000 in
theorem st_hours {p_ : Program} {l : Launch} {e_ : Env} {s_ : State} {m_ : MethodId} {ar_ : Array Value} {be_ : List Frame} {me_ : Method} {cd_ : Code} {cells slots : Nat} {Q : State → Prop} {G : gT} {A_ : Nat → Prop} {ad : Nat → Nat} {bS : Nat} {L i B : Nat} {xs : Nat → Int32} (hLA : LA p_ l e_ s_ m_ ar_ be_ me_ cd_ cells slots Q G A_ ad bS L xs) (hi : i + 4 < L) (hB : B ≤ 300) (K : KK p_ l e_ s_ m_ ar_ be_ me_ cd_ cells slots Q G A_ ad bS i (B + 1) 1149) : KK p_ l e_ s_ m_ ar_ be_ me_ cd_ cells slots Q G A_ ad bS i B 423 := by
  obtain ⟨C, hX, hbl, hbA, hL, hcl⟩ := hLA
  intro k1 k2 ab be bds nos fls wide wd ck n pf sn sf nn nf mn mf u uf ywide ywd yck yn ypf ysn ysf ynn ynf ymn ymf yu yuf zwide zwd zck zn zpf zsn zsf znn znf zmn zmf zu zuf tk tn tok stt en tf dwide dwd dck dn dpf dsn dsf dnn dnf dmn dmf du duf f0 cr td0 fs0 car rea fin ms mab mbe bL tA tL tK tV a kf jf rv sv hf ef tg b vf hR H locs ls hW hl
  have hx := C.1; have hb := C.2.1; have hown := C.2.2.2.1; have ht := C.2.2.2.2.1
  obtain ⟨hV, hI1, hI2, hT, hPR, hCR⟩ := hR
  have hV0 := hV
  obtain ⟨⟨hn, hs, ho, hm, hu⟩, ⟨hWd, hP, hH, hS, hO⟩, ⟨hck, hpa⟩, ⟨e0, e1, e2, e3, e4, e5⟩, ⟨ea, ew, ep⟩, ⟨es, eno, em, eu⟩⟩ := hV
  have hck0 := hck
  obtain ⟨⟨hr, eh, hh⟩, ⟨fh, eh2, hfl⟩, hup01, hg, ⟨k4, ek4, hk4⟩, ⟨d5, ed5, hd5⟩⟩ := hck
  have e8 : a 8 = nI fh := (ea 2 (by decide)).trans eh2
  have e12 : a 12 = nI hr := (ea 6 (by decide)).trans eh
  have e9 : a 9 = ck 3 := ea 3 (by decide)
  have e7 : a 7 = ck 1 := ea 1 (by decide)
  have e6 : a 6 = ck 0 := ea 0 (by decide)
  obtain ⟨htn, hbL, htt⟩ := hT
  subst hbL
  cases hc : iw (xs (i + 1)) 1 99 with
  | false =>
    refine lv_aload_n hx hb dL_law_423 rfl (lv_at hl 1 rfl) ?_
    refine lv_aload_n hx hb dL_law_424 rfl (lv_at hl 0 rfl) ?_
    refine lv_iload_n hx hb dL_law_425 rfl (lv_at hl 3 rfl) ?_
    refine lv_iconst (v := 1) hx hb dL_law_426 (by decide) ?_
    refine lv_iadd hx hb dL_law_427 ?_
    refine lv_as (y := nI (i + 1)) (nI_add i 1) ?_
    refine va_sld hx hb hX hbl hbA hW.2.2 (vp_in_nI (n := i + 1) (by omega) (by omega)) dL_law_428 ?_
    refine lv_as (y := xs (i + 1)) (by rw [nI_clamp (by omega)]) ?_
    refine g_fiS (ww := fun (u_ : Unit) => [((ad 0), .inr (8, [.ref (ad 1), .ref (ad 14), .ref (ad 27), .int k1, .int k2, .ref (ad 40), .ref (ad 56), .ref (ad 58), .ref (ad 62), .int ab, .int be, .int (bds + 1), .int nos, .int fls]))]) (w2 := fun (u_ : Unit) => LW G ad k1 k2 ab be (bds + 1) nos fls wide wd ck n pf sn sf nn nf mn mf u uf ywide ywd yck yn ypf ysn ysf ynn ynf ymn ymf yu yuf zwide zwd zck zn zpf zsn zsf znn znf zmn zmf zu zuf tk tn tok stt en tf dwide dwd dck dn dpf dsn dsf dnn dnf dmn dmf du duf f0 cr td0 fs0 car rea fin ms mab mbe (nI tn) tA tL tK tV a kf jf rv sv hf ef tg b vf) C hW [0] rfl (fun _ => rfl) (fun _ => rfl) (fun _ => lw_fst.trans lw_fst.symm) (g_runV (As := [.int (xs (i + 1))]) (rest := []) (wc := [((ad 0), .inr (8, [.ref (ad 1), .ref (ad 14), .ref (ad 27), .int k1, .int k2, .ref (ad 40), .ref (ad 56), .ref (ad 58), .ref (ad 62), .int ab, .int be, .int bds, .int nos, .int fls]))]) (q0 := 0) (ci := 8) C hW hl (c_X10_hours_bad l G (ad 1) (ad 0) (ad 14) (ad 27) (ad 40) (ad 56) (ad 58) (ad 62) k1 k2 ab be bds nos fls (xs (i + 1)) (by exact hc) _) k_ml_L_53 q_X10_hours ⟨⟨rfl, rfl⟩, Nat.le_of_ble_eq_true rfl, Nat.le_of_ble_eq_true rfl⟩ [0] (by decide) rfl rfl rfl rfl rfl (Nat.le_of_ble_eq_true rfl) dL_law_429 ⟨hcl.1, hcl.2⟩) (fun r_1 _ er_1 => ?_)
    clear hW H locs; intro H locs hW
    replace hW : Wd G A_ s_.heap (LW G ad k1 k2 ab be (bds + 1) nos fls wide wd ck n pf sn sf nn nf mn mf u uf ywide ywd yck yn ypf ysn ysf ynn ynf ymn ymf yu yuf zwide zwd zck zn zpf zsn zsf znn znf zmn zmf zu zuf tk tn tok stt en tf dwide dwd dck dn dpf dsn dsf dnn dnf dmn dmf du duf f0 cr td0 fs0 car rea fin ms mab mbe (nI tn) tA tL tK tV a kf jf rv sv hf ef tg b vf) H locs := hW
    refine lv_as (y := (-2)) er_1 ?_
    refine lv_aload_n hx hb dL_law_432 rfl (lv_at hl 2 rfl) ?_
    refine lv_aload_n hx hb dL_law_433 rfl (lv_at hl 0 rfl) ?_
    refine lv_iload_n hx hb dL_law_434 rfl (lv_at hl 3 rfl) ?_
    refine lv_iconst (v := 1) hx hb dL_law_435 (by decide) ?_
    refine lv_iadd hx hb dL_law_436 ?_
    refine lv_as (y := nI (i + 1)) (nI_add i 1) ?_
    refine va_sld hx hb hX hbl hbA hW.2.2 (vp_in_nI (n := i + 1) (by omega) (by omega)) dL_law_437 ?_
    refine lv_as (y := xs (i + 1)) (by rw [nI_clamp (by omega)]) ?_
    refine g_fiS (ww := fun (u_ : Unit) => [((ad 64), .inr (9, [.ref (ad 65), .ref (ad 66), .ref (ad 67), .ref (ad 68), .long mab, .long mbe, .ref (ad 69), .ref (ad 70), .ref (ad 71), .ref (ad 72), .int (nI tn), .int tA, .int tL, .int tK, .int tV, .ref (ad 73), .ref (ad 74)])), ((ad 68), .inl (G.2.1, 3, .inl (upd rv 0 (rv 0 + 1))))]) (w2 := fun (u_ : Unit) => LW G ad k1 k2 ab be (bds + 1) nos fls wide wd ck n pf sn sf nn nf mn mf u uf ywide ywd yck yn ypf ysn ysf ynn ynf ymn ymf yu yuf zwide zwd zck zn zpf zsn zsf znn znf zmn zmf zu zuf tk tn tok stt en tf dwide dwd dck dn dpf dsn dsf dnn dnf dmn dmf du duf f0 cr td0 fs0 car rea fin ms mab mbe (nI tn) tA tL tK tV a kf jf (upd rv 0 (rv 0 + 1)) sv hf ef tg b vf) C hW [64, 68] rfl (fun _ => rfl) (fun _ => rfl) (fun _ => lw_fst.trans lw_fst.symm) (g_runV (As := [.int (xs (i + 1))]) (rest := [.int (-2)]) (wc := [((ad 64), .inr (9, [.ref (ad 65), .ref (ad 66), .ref (ad 67), .ref (ad 68), .long mab, .long mbe, .ref (ad 69), .ref (ad 70), .ref (ad 71), .ref (ad 72), .int (nI tn), .int tA, .int tL, .int tK, .int tV, .ref (ad 73), .ref (ad 74)])), ((ad 68), .inl (G.2.1, 3, .inl rv))]) (q0 := 0) (ci := 9) C hW hl (c_X11_hours_bad l G (ad 64) (ad 65) (ad 66) (ad 67) (ad 68) (ad 69) (ad 70) (ad 71) (ad 72) (ad 73) (ad 74) mab mbe (nI tn) tA tL tK tV rv (xs (i + 1)) (by exact hc) _) k_ml_L_56 q_X11_hours ⟨⟨rfl, rfl⟩, Nat.le_of_ble_eq_true rfl, Nat.le_of_ble_eq_true rfl⟩ [64, 68] (by decide) rfl rfl rfl rfl rfl (Nat.le_of_ble_eq_true rfl) dL_law_438 ⟨hcl.1, hcl.2⟩) (fun r_3 _ er_3 => ?_)
    clear hW H locs; intro H locs hW
    replace hW : Wd G A_ s_.heap (LW G ad k1 k2 ab be (bds + 1) nos fls wide wd ck n pf sn sf nn nf mn mf u uf ywide ywd yck yn ypf ysn ysf ynn ynf ymn ymf yu yuf zwide zwd zck zn zpf zsn zsf znn znf zmn zmf zu zuf tk tn tok stt en tf dwide dwd dck dn dpf dsn dsf dnn dnf dmn dmf du duf f0 cr td0 fs0 car rea fin ms mab mbe (nI tn) tA tL tK tV a kf jf (upd rv 0 (rv 0 + 1)) sv hf ef tg b vf) H locs := hW
    refine lv_as (y := (-2)) er_3 ?_
    refine lv_as (y := (-2)) (rfl) ?_
    refine lv_icmp_eq (tgt := 1149) hx hb dL_law_441 (by decide) (fun _ => ?_) (fun c9 => absurd rfl c9)
    exact K k1 k2 ab be (bds + 1) nos fls wide wd ck n pf sn sf nn nf mn mf u uf ywide ywd yck yn ypf ysn ysf ynn ynf ymn ymf yu yuf zwide zwd zck zn zpf zsn zsf znn znf zmn zmf zu zuf tk tn tok stt en tf dwide dwd dck dn dpf dsn dsf dnn dnf dmn dmf du duf f0 cr td0 fs0 car rea fin ms mab mbe (nI tn) tA tL tK tV a kf jf (upd rv 0 (rv 0 + 1)) sv hf ef tg b vf (⟨hV0.mono (by omega), hI1.mono (by omega), hI2.mono (by omega), ⟨htn, rfl, htt⟩, hPR, CR_bad hCR⟩) _ _ _ hW hl
  | true =>
    obtain ⟨j9, hj9, ej9⟩ := iw_ex (m := 99) (iw_lo hc) (by decide)
    refine lv_aload_n hx hb dL_law_423 rfl (lv_at hl 1 rfl) ?_
    refine lv_aload_n hx hb dL_law_424 rfl (lv_at hl 0 rfl) ?_
    refine lv_iload_n hx hb dL_law_425 rfl (lv_at hl 3 rfl) ?_
    refine lv_iconst (v := 1) hx hb dL_law_426 (by decide) ?_
    refine lv_iadd hx hb dL_law_427 ?_
    refine lv_as (y := nI (i + 1)) (nI_add i 1) ?_
    refine va_sld hx hb hX hbl hbA hW.2.2 (vp_in_nI (n := i + 1) (by omega) (by omega)) dL_law_428 ?_
    refine lv_as (y := nI j9) (by rw [nI_clamp (by omega)]; exact ej9) ?_
    refine g_fiS (ww := fun (u_ : Unit) => [((ad 0), .inr (8, [.ref (ad 1), .ref (ad 14), .ref (ad 27), .int k1, .int k2, .ref (ad 40), .ref (ad 56), .ref (ad 58), .ref (ad 62), .int ab, .int be, .int bds, .int nos, .int fls])), ((ad 1), .inr (7, [.int wide, .ref (ad 2), .ref (ad 3), .ref (ad 4), .ref (ad 6), .ref (ad 8), .ref (ad 10), .ref (ad 12)])), ((ad 3), .inl (G.2.1, 7, .inl (lps ck (nI j9)))), ((ad 12), .inr (1, [.ref (ad 13), .int (nI (pun u))])), ((ad 13), .inl (G.2.1, 56, .inl (pu u uf ck)))]) (w2 := fun (u_ : Unit) => LW G ad k1 k2 ab be bds nos fls wide wd (lps ck (nI j9)) n pf sn sf nn nf mn mf (pun u) (pu u uf ck) ywide ywd yck yn ypf ysn ysf ynn ynf ymn ymf yu yuf zwide zwd zck zn zpf zsn zsf znn znf zmn zmf zu zuf tk tn tok stt en tf dwide dwd dck dn dpf dsn dsf dnn dnf dmn dmf du duf f0 cr td0 fs0 car rea fin ms mab mbe (nI tn) tA tL tK tV a kf jf rv sv hf ef tg b vf) C hW [0, 1, 3, 12, 13] rfl (fun _ => rfl) (fun _ => rfl) (fun _ => lw_fst.trans lw_fst.symm) (g_runV (As := [.int (nI j9)]) (rest := []) (wc := [((ad 0), .inr (8, [.ref (ad 1), .ref (ad 14), .ref (ad 27), .int k1, .int k2, .ref (ad 40), .ref (ad 56), .ref (ad 58), .ref (ad 62), .int ab, .int be, .int bds, .int nos, .int fls])), ((ad 1), .inr (7, [.int wide, .ref (ad 2), .ref (ad 3), .ref (ad 4), .ref (ad 6), .ref (ad 8), .ref (ad 10), .ref (ad 12)])), ((ad 3), .inl (G.2.1, 7, .inl ck)), ((ad 12), .inr (1, [.ref (ad 13), .int (nI u)])), ((ad 13), .inl (G.2.1, 56, .inl uf))]) (q0 := 0) (ci := 8) C hW hl (c_X10_hours_ok l G (ad 1) (ad 2) (ad 3) (ad 4) (ad 6) (ad 8) (ad 10) (ad 12) wide (ad 0) (ad 14) (ad 27) (ad 40) (ad 56) (ad 58) (ad 62) k1 k2 ab be bds nos fls ck (ad 13) u uf (nI j9) (by rw [← ej9]; exact hc) (by first | assumption | omega) _) k_ml_L_53 q_X10_hours ⟨⟨rfl, rfl⟩, Nat.le_of_ble_eq_true rfl, Nat.le_of_ble_eq_true rfl⟩ [0, 1, 3, 12, 13] (by decide) rfl rfl rfl rfl rfl (Nat.le_of_ble_eq_true rfl) dL_law_429 ⟨hcl.1, hcl.2⟩) (fun r_1 _ er_1 => ?_)
    clear hW H locs; intro H locs hW
    replace hW : Wd G A_ s_.heap (LW G ad k1 k2 ab be bds nos fls wide wd (lps ck (nI j9)) n pf sn sf nn nf mn mf (pun u) (pu u uf ck) ywide ywd yck yn ypf ysn ysf ynn ynf ymn ymf yu yuf zwide zwd zck zn zpf zsn zsf znn znf zmn zmf zu zuf tk tn tok stt en tf dwide dwd dck dn dpf dsn dsf dnn dnf dmn dmf du duf f0 cr td0 fs0 car rea fin ms mab mbe (nI tn) tA tL tK tV a kf jf rv sv hf ef tg b vf) H locs := hW
    refine lv_as (y := lps ck (nI j9) 6) er_1 ?_
    refine lv_aload_n hx hb dL_law_432 rfl (lv_at hl 2 rfl) ?_
    refine lv_aload_n hx hb dL_law_433 rfl (lv_at hl 0 rfl) ?_
    refine lv_iload_n hx hb dL_law_434 rfl (lv_at hl 3 rfl) ?_
    refine lv_iconst (v := 1) hx hb dL_law_435 (by decide) ?_
    refine lv_iadd hx hb dL_law_436 ?_
    refine lv_as (y := nI (i + 1)) (nI_add i 1) ?_
    refine va_sld hx hb hX hbl hbA hW.2.2 (vp_in_nI (n := i + 1) (by omega) (by omega)) dL_law_437 ?_
    refine lv_as (y := nI j9) (by rw [nI_clamp (by omega)]; exact ej9) ?_
    refine g_fiS (ww := fun (u_ : Unit) => [((ad 64), .inr (9, [.ref (ad 65), .ref (ad 66), .ref (ad 67), .ref (ad 68), .long mab, .long mbe, .ref (ad 69), .ref (ad 70), .ref (ad 71), .ref (ad 72), .int (nI tn), .int tA, .int tL, .int tK, .int tV, .ref (ad 73), .ref (ad 74)])), ((ad 65), .inl (G.2.1, 159, .inl (glA (svA a u) (nI j9))))]) (w2 := fun (u_ : Unit) => LW G ad k1 k2 ab be bds nos fls wide wd (lps ck (nI j9)) n pf sn sf nn nf mn mf (pun u) (pu u uf ck) ywide ywd yck yn ypf ysn ysf ynn ynf ymn ymf yu yuf zwide zwd zck zn zpf zsn zsf znn znf zmn zmf zu zuf tk tn tok stt en tf dwide dwd dck dn dpf dsn dsf dnn dnf dmn dmf du duf f0 cr td0 fs0 car rea fin ms mab mbe (nI tn) tA tL tK tV (glA (svA a u) (nI j9)) kf jf rv sv hf ef tg b vf) C hW [64, 65] rfl (fun _ => rfl) (fun _ => rfl) (fun _ => lw_fst.trans lw_fst.symm) (g_runV (As := [.int (nI j9)]) (rest := [.int (lps ck (nI j9) 6)]) (wc := [((ad 64), .inr (9, [.ref (ad 65), .ref (ad 66), .ref (ad 67), .ref (ad 68), .long mab, .long mbe, .ref (ad 69), .ref (ad 70), .ref (ad 71), .ref (ad 72), .int (nI tn), .int tA, .int tL, .int tK, .int tV, .ref (ad 73), .ref (ad 74)])), ((ad 65), .inl (G.2.1, 159, .inl a))]) (q0 := 0) (ci := 9) C hW hl (c_X11_hours_ok l G (ad 64) (ad 65) (ad 66) (ad 67) (ad 68) (ad 69) (ad 70) (ad 71) (ad 72) (ad 73) (ad 74) mab mbe (nI tn) tA tL tK tV a u (nI j9) (by first | assumption | omega) (by first | assumption | omega) (by rw [← ej9]; exact hc) _) k_ml_L_56 q_X11_hours ⟨⟨rfl, rfl⟩, Nat.le_of_ble_eq_true rfl, Nat.le_of_ble_eq_true rfl⟩ [64, 65] (by decide) rfl rfl rfl rfl rfl (Nat.le_of_ble_eq_true rfl) dL_law_438 ⟨hcl.1, hcl.2⟩) (fun r_3 _ er_3 => ?_)
    clear hW H locs; intro H locs hW
    replace hW : Wd G A_ s_.heap (LW G ad k1 k2 ab be bds nos fls wide wd (lps ck (nI j9)) n pf sn sf nn nf mn mf (pun u) (pu u uf ck) ywide ywd yck yn ypf ysn ysf ynn ynf ymn ymf yu yuf zwide zwd zck zn zpf zsn zsf znn znf zmn zmf zu zuf tk tn tok stt en tf dwide dwd dck dn dpf dsn dsf dnn dnf dmn dmf du duf f0 cr td0 fs0 car rea fin ms mab mbe (nI tn) tA tL tK tV (glA (svA a u) (nI j9)) kf jf rv sv hf ef tg b vf) H locs := hW
    refine lv_as (y := glA (svA a u) (nI j9) 12) er_3 ?_
    refine lv_as (y := lps ck (nI j9) 6) ((VR_hours hV0 (by omega)).1) ?_
    refine lv_icmp_eq (tgt := 1149) hx hb dL_law_441 (by decide) (fun _ => ?_) (fun c9 => absurd rfl c9)
    exact K k1 k2 ab be bds nos fls wide wd (lps ck (nI j9)) n pf sn sf nn nf mn mf (pun u) (pu u uf ck) ywide ywd yck yn ypf ysn ysf ynn ynf ymn ymf yu yuf zwide zwd zck zn zpf zsn zsf znn znf zmn zmf zu zuf tk tn tok stt en tf dwide dwd dck dn dpf dsn dsf dnn dnf dmn dmf du duf f0 cr td0 fs0 car rea fin ms mab mbe (nI tn) tA tL tK tV (glA (svA a u) (nI j9)) kf jf rv sv hf ef tg b vf (⟨((VR_hours hV0 (by omega)).2).mono (by omega), hI1.mono (by omega), hI2.mono (by omega), ⟨htn, rfl, htt⟩, hPR, hCR⟩) _ _ _ hW hl
set_option maxHeartbeats 8000000 in
set_option maxRecDepth 100000 in
theorem st_undo {p_ : Program} {l : Launch} {e_ : Env} {s_ : State} {m_ : MethodId} {ar_ : Array Value} {be_ : List Frame} {me_ : Method} {cd_ : Code} {cells slots : Nat} {Q : State → Prop} {G : gT} {A_ : Nat → Prop} {ad : Nat → Nat} {bS : Nat} {L i B : Nat} {xs : Nat → Int32} (hLA : LA p_ l e_ s_ m_ ar_ be_ me_ cd_ cells slots Q G A_ ad bS L xs) (hi : i + 4 < L) (hB : B ≤ 300) (K : KK p_ l e_ s_ m_ ar_ be_ me_ cd_ cells slots Q G A_ ad bS i (B + 1) 1149) : KK p_ l e_ s_ m_ ar_ be_ me_ cd_ cells slots Q G A_ ad bS i B 446 := by
  obtain ⟨C, hX, hbl, hbA, hL, hcl⟩ := hLA
  intro k1 k2 ab be bds nos fls wide wd ck n pf sn sf nn nf mn mf u uf ywide ywd yck yn ypf ysn ysf ynn ynf ymn ymf yu yuf zwide zwd zck zn zpf zsn zsf znn znf zmn zmf zu zuf tk tn tok stt en tf dwide dwd dck dn dpf dsn dsf dnn dnf dmn dmf du duf f0 cr td0 fs0 car rea fin ms mab mbe bL tA tL tK tV a kf jf rv sv hf ef tg b vf hR H locs ls hW hl
  have hx := C.1; have hb := C.2.1; have hown := C.2.2.2.1; have ht := C.2.2.2.2.1
  obtain ⟨hV, hI1, hI2, hT, hPR, hCR⟩ := hR
  have hV0 := hV
  obtain ⟨⟨hn, hs, ho, hm, hu⟩, ⟨hWd, hP, hH, hS, hO⟩, ⟨hck, hpa⟩, ⟨e0, e1, e2, e3, e4, e5⟩, ⟨ea, ew, ep⟩, ⟨es, eno, em, eu⟩⟩ := hV
  have hck0 := hck
  obtain ⟨⟨hr, eh, hh⟩, ⟨fh, eh2, hfl⟩, hup01, hg, ⟨k4, ek4, hk4⟩, ⟨d5, ed5, hd5⟩⟩ := hck
  have e8 : a 8 = nI fh := (ea 2 (by decide)).trans eh2
  have e12 : a 12 = nI hr := (ea 6 (by decide)).trans eh
  have e9 : a 9 = ck 3 := ea 3 (by decide)
  have e7 : a 7 = ck 1 := ea 1 (by decide)
  have e6 : a 6 = ck 0 := ea 0 (by decide)
  obtain ⟨htn, hbL, htt⟩ := hT
  subst hbL
  rcases Nat.eq_zero_or_pos u with hu9 | hu9
  · refine lv_aload_n hx hb dL_law_446 rfl (lv_at hl 1 rfl) ?_
    refine g_fiS (ww := fun (u_ : Unit) => [((ad 0), .inr (8, [.ref (ad 1), .ref (ad 14), .ref (ad 27), .int k1, .int k2, .ref (ad 40), .ref (ad 56), .ref (ad 58), .ref (ad 62), .int ab, .int be, .int bds, .int (nos + 1), .int fls])), ((ad 1), .inr (7, [.int wide, .ref (ad 2), .ref (ad 3), .ref (ad 4), .ref (ad 6), .ref (ad 8), .ref (ad 10), .ref (ad 12)])), ((ad 12), .inr (1, [.ref (ad 13), .int (nI u)]))]) (w2 := fun (u_ : Unit) => LW G ad k1 k2 ab be bds (nos + 1) fls wide wd ck n pf sn sf nn nf mn mf u uf ywide ywd yck yn ypf ysn ysf ynn ynf ymn ymf yu yuf zwide zwd zck zn zpf zsn zsf znn znf zmn zmf zu zuf tk tn tok stt en tf dwide dwd dck dn dpf dsn dsf dnn dnf dmn dmf du duf f0 cr td0 fs0 car rea fin ms mab mbe (nI tn) tA tL tK tV a kf jf rv sv hf ef tg b vf) C hW [0, 1, 12] rfl (fun _ => rfl) (fun _ => rfl) (fun _ => lw_fst.trans lw_fst.symm) (g_runV (As := []) (rest := []) (wc := [((ad 0), .inr (8, [.ref (ad 1), .ref (ad 14), .ref (ad 27), .int k1, .int k2, .ref (ad 40), .ref (ad 56), .ref (ad 58), .ref (ad 62), .int ab, .int be, .int bds, .int nos, .int fls])), ((ad 1), .inr (7, [.int wide, .ref (ad 2), .ref (ad 3), .ref (ad 4), .ref (ad 6), .ref (ad 8), .ref (ad 10), .ref (ad 12)])), ((ad 12), .inr (1, [.ref (ad 13), .int (nI u)]))]) (q0 := 0) (ci := 8) C hW hl (c_X10_undo_no l G (ad 1) (ad 2) (ad 3) (ad 4) (ad 6) (ad 8) (ad 10) (ad 12) wide (ad 0) (ad 14) (ad 27) (ad 40) (ad 56) (ad 58) (ad 62) k1 k2 ab be bds nos fls (ad 13) u (by omega) _) k_ml_L_57 q_X10_undo ⟨⟨rfl, rfl⟩, Nat.le_of_ble_eq_true rfl, Nat.le_of_ble_eq_true rfl⟩ [0, 1, 12] (by decide) rfl rfl rfl rfl rfl (Nat.le_of_ble_eq_true rfl) dL_law_447 ⟨hcl.1, hcl.2⟩) (fun r_1 _ er_1 => ?_)
    clear hW H locs; intro H locs hW
    replace hW : Wd G A_ s_.heap (LW G ad k1 k2 ab be bds (nos + 1) fls wide wd ck n pf sn sf nn nf mn mf u uf ywide ywd yck yn ypf ysn ysf ynn ynf ymn ymf yu yuf zwide zwd zck zn zpf zsn zsf znn znf zmn zmf zu zuf tk tn tok stt en tf dwide dwd dck dn dpf dsn dsf dnn dnf dmn dmf du duf f0 cr td0 fs0 car rea fin ms mab mbe (nI tn) tA tL tK tV a kf jf rv sv hf ef tg b vf) H locs := hW
    refine lv_as (y := (-3)) er_1 ?_
    refine lv_aload_n hx hb dL_law_450 rfl (lv_at hl 2 rfl) ?_
    refine g_fiS (ww := fun (u_ : Unit) => [((ad 64), .inr (9, [.ref (ad 65), .ref (ad 66), .ref (ad 67), .ref (ad 68), .long mab, .long mbe, .ref (ad 69), .ref (ad 70), .ref (ad 71), .ref (ad 72), .int (nI tn), .int tA, .int tL, .int tK, .int tV, .ref (ad 73), .ref (ad 74)])), ((ad 65), .inl (G.2.1, 159, .inl a)), ((ad 68), .inl (G.2.1, 3, .inl (upd rv 1 (rv 1 + 1))))]) (w2 := fun (u_ : Unit) => LW G ad k1 k2 ab be bds (nos + 1) fls wide wd ck n pf sn sf nn nf mn mf u uf ywide ywd yck yn ypf ysn ysf ynn ynf ymn ymf yu yuf zwide zwd zck zn zpf zsn zsf znn znf zmn zmf zu zuf tk tn tok stt en tf dwide dwd dck dn dpf dsn dsf dnn dnf dmn dmf du duf f0 cr td0 fs0 car rea fin ms mab mbe (nI tn) tA tL tK tV a kf jf (upd rv 1 (rv 1 + 1)) sv hf ef tg b vf) C hW [64, 65, 68] rfl (fun _ => rfl) (fun _ => rfl) (fun _ => lw_fst.trans lw_fst.symm) (g_runV (As := []) (rest := [.int (-3)]) (wc := [((ad 64), .inr (9, [.ref (ad 65), .ref (ad 66), .ref (ad 67), .ref (ad 68), .long mab, .long mbe, .ref (ad 69), .ref (ad 70), .ref (ad 71), .ref (ad 72), .int (nI tn), .int tA, .int tL, .int tK, .int tV, .ref (ad 73), .ref (ad 74)])), ((ad 65), .inl (G.2.1, 159, .inl a)), ((ad 68), .inl (G.2.1, 3, .inl rv))]) (q0 := 0) (ci := 9) C hW hl (c_X11_undo_no l G (ad 64) (ad 65) (ad 66) (ad 67) (ad 68) (ad 69) (ad 70) (ad 71) (ad 72) (ad 73) (ad 74) mab mbe (nI tn) tA tL tK tV rv a (by rw [e4, hu9]; rfl) _) k_ml_L_60 q_X11_undo ⟨⟨rfl, rfl⟩, Nat.le_of_ble_eq_true rfl, Nat.le_of_ble_eq_true rfl⟩ [64, 65, 68] (by decide) rfl rfl rfl rfl rfl (Nat.le_of_ble_eq_true rfl) dL_law_451 ⟨hcl.1, hcl.2⟩) (fun r_3 _ er_3 => ?_)
    clear hW H locs; intro H locs hW
    replace hW : Wd G A_ s_.heap (LW G ad k1 k2 ab be bds (nos + 1) fls wide wd ck n pf sn sf nn nf mn mf u uf ywide ywd yck yn ypf ysn ysf ynn ynf ymn ymf yu yuf zwide zwd zck zn zpf zsn zsf znn znf zmn zmf zu zuf tk tn tok stt en tf dwide dwd dck dn dpf dsn dsf dnn dnf dmn dmf du duf f0 cr td0 fs0 car rea fin ms mab mbe (nI tn) tA tL tK tV a kf jf (upd rv 1 (rv 1 + 1)) sv hf ef tg b vf) H locs := hW
    refine lv_as (y := (-3)) er_3 ?_
    refine lv_as (y := (-3)) (rfl) ?_
    refine lv_icmp_eq (tgt := 1149) hx hb dL_law_454 (by decide) (fun _ => ?_) (fun c9 => absurd rfl c9)
    exact K k1 k2 ab be bds (nos + 1) fls wide wd ck n pf sn sf nn nf mn mf u uf ywide ywd yck yn ypf ysn ysf ynn ynf ymn ymf yu yuf zwide zwd zck zn zpf zsn zsf znn znf zmn zmf zu zuf tk tn tok stt en tf dwide dwd dck dn dpf dsn dsf dnn dnf dmn dmf du duf f0 cr td0 fs0 car rea fin ms mab mbe (nI tn) tA tL tK tV a kf jf (upd rv 1 (rv 1 + 1)) sv hf ef tg b vf (⟨hV0.mono (by omega), hI1.mono (by omega), hI2.mono (by omega), ⟨htn, rfl, htt⟩, hPR, CR_no hCR⟩) _ _ _ hW hl
  · refine lv_aload_n hx hb dL_law_446 rfl (lv_at hl 1 rfl) ?_
    refine g_fiS (ww := fun (u_ : Unit) => [((ad 0), .inr (8, [.ref (ad 1), .ref (ad 14), .ref (ad 27), .int k1, .int k2, .ref (ad 40), .ref (ad 56), .ref (ad 58), .ref (ad 62), .int ab, .int be, .int bds, .int nos, .int fls])), ((ad 1), .inr (7, [.int wide, .ref (ad 2), .ref (ad 3), .ref (ad 4), .ref (ad 6), .ref (ad 8), .ref (ad 10), .ref (ad 12)])), ((ad 3), .inl (G.2.1, 7, .inl (va_cpy uf ck ((u - 1) * 7) 0 7))), ((ad 12), .inr (1, [.ref (ad 13), .int (nI (u - 1))])), ((ad 13), .inl (G.2.1, 56, .inl uf))]) (w2 := fun (u_ : Unit) => LW G ad k1 k2 ab be bds nos fls wide wd (va_cpy uf ck ((u - 1) * 7) 0 7) n pf sn sf nn nf mn mf (u - 1) uf ywide ywd yck yn ypf ysn ysf ynn ynf ymn ymf yu yuf zwide zwd zck zn zpf zsn zsf znn znf zmn zmf zu zuf tk tn tok stt en tf dwide dwd dck dn dpf dsn dsf dnn dnf dmn dmf du duf f0 cr td0 fs0 car rea fin ms mab mbe (nI tn) tA tL tK tV a kf jf rv sv hf ef tg b vf) C hW [0, 1, 3, 12, 13] rfl (fun _ => rfl) (fun _ => rfl) (fun _ => lw_fst.trans lw_fst.symm) (g_runV (As := []) (rest := []) (wc := [((ad 0), .inr (8, [.ref (ad 1), .ref (ad 14), .ref (ad 27), .int k1, .int k2, .ref (ad 40), .ref (ad 56), .ref (ad 58), .ref (ad 62), .int ab, .int be, .int bds, .int nos, .int fls])), ((ad 1), .inr (7, [.int wide, .ref (ad 2), .ref (ad 3), .ref (ad 4), .ref (ad 6), .ref (ad 8), .ref (ad 10), .ref (ad 12)])), ((ad 3), .inl (G.2.1, 7, .inl ck)), ((ad 12), .inr (1, [.ref (ad 13), .int (nI u)])), ((ad 13), .inl (G.2.1, 56, .inl uf))]) (q0 := 0) (ci := 8) C hW hl (c_X10_undo_ok l G (ad 1) (ad 2) (ad 3) (ad 4) (ad 6) (ad 8) (ad 10) (ad 12) wide (ad 0) (ad 14) (ad 27) (ad 40) (ad 56) (ad 58) (ad 62) k1 k2 ab be bds nos fls ck (ad 13) u uf (by omega) (by first | assumption | omega) _) k_ml_L_57 q_X10_undo ⟨⟨rfl, rfl⟩, Nat.le_of_ble_eq_true rfl, Nat.le_of_ble_eq_true rfl⟩ [0, 1, 3, 12, 13] (by decide) rfl rfl rfl rfl rfl (Nat.le_of_ble_eq_true rfl) dL_law_447 ⟨hcl.1, hcl.2⟩) (fun r_1 _ er_1 => ?_)
    clear hW H locs; intro H locs hW
    replace hW : Wd G A_ s_.heap (LW G ad k1 k2 ab be bds nos fls wide wd (va_cpy uf ck ((u - 1) * 7) 0 7) n pf sn sf nn nf mn mf (u - 1) uf ywide ywd yck yn ypf ysn ysf ynn ynf ymn ymf yu yuf zwide zwd zck zn zpf zsn zsf znn znf zmn zmf zu zuf tk tn tok stt en tf dwide dwd dck dn dpf dsn dsf dnn dnf dmn dmf du duf f0 cr td0 fs0 car rea fin ms mab mbe (nI tn) tA tL tK tV a kf jf rv sv hf ef tg b vf) H locs := hW
    refine lv_as (y := va_cpy uf ck ((u - 1) * 7) 0 7 6) er_1 ?_
    refine lv_aload_n hx hb dL_law_450 rfl (lv_at hl 2 rfl) ?_
    refine g_fiS (ww := fun (u_ : Unit) => [((ad 64), .inr (9, [.ref (ad 65), .ref (ad 66), .ref (ad 67), .ref (ad 68), .long mab, .long mbe, .ref (ad 69), .ref (ad 70), .ref (ad 71), .ref (ad 72), .int (nI tn), .int tA, .int tL, .int tK, .int tV, .ref (ad 73), .ref (ad 74)])), ((ad 65), .inl (G.2.1, 159, .inl (unA a u)))]) (w2 := fun (u_ : Unit) => LW G ad k1 k2 ab be bds nos fls wide wd (va_cpy uf ck ((u - 1) * 7) 0 7) n pf sn sf nn nf mn mf (u - 1) uf ywide ywd yck yn ypf ysn ysf ynn ynf ymn ymf yu yuf zwide zwd zck zn zpf zsn zsf znn znf zmn zmf zu zuf tk tn tok stt en tf dwide dwd dck dn dpf dsn dsf dnn dnf dmn dmf du duf f0 cr td0 fs0 car rea fin ms mab mbe (nI tn) tA tL tK tV (unA a u) kf jf rv sv hf ef tg b vf) C hW [64, 65] rfl (fun _ => rfl) (fun _ => rfl) (fun _ => lw_fst.trans lw_fst.symm) (g_runV (As := []) (rest := [.int (va_cpy uf ck ((u - 1) * 7) 0 7 6)]) (wc := [((ad 64), .inr (9, [.ref (ad 65), .ref (ad 66), .ref (ad 67), .ref (ad 68), .long mab, .long mbe, .ref (ad 69), .ref (ad 70), .ref (ad 71), .ref (ad 72), .int (nI tn), .int tA, .int tL, .int tK, .int tV, .ref (ad 73), .ref (ad 74)])), ((ad 65), .inl (G.2.1, 159, .inl a))]) (q0 := 0) (ci := 9) C hW hl (c_X11_undo_ok l G (ad 64) (ad 65) (ad 66) (ad 67) (ad 68) (ad 69) (ad 70) (ad 71) (ad 72) (ad 73) (ad 74) mab mbe (nI tn) tA tL tK tV a u (by first | assumption | omega) (by first | assumption | omega) (by omega) _) k_ml_L_60 q_X11_undo ⟨⟨rfl, rfl⟩, Nat.le_of_ble_eq_true rfl, Nat.le_of_ble_eq_true rfl⟩ [64, 65] (by decide) rfl rfl rfl rfl rfl (Nat.le_of_ble_eq_true rfl) dL_law_451 ⟨hcl.1, hcl.2⟩) (fun r_3 _ er_3 => ?_)
    clear hW H locs; intro H locs hW
    replace hW : Wd G A_ s_.heap (LW G ad k1 k2 ab be bds nos fls wide wd (va_cpy uf ck ((u - 1) * 7) 0 7) n pf sn sf nn nf mn mf (u - 1) uf ywide ywd yck yn ypf ysn ysf ynn ynf ymn ymf yu yuf zwide zwd zck zn zpf zsn zsf znn znf zmn zmf zu zuf tk tn tok stt en tf dwide dwd dck dn dpf dsn dsf dnn dnf dmn dmf du duf f0 cr td0 fs0 car rea fin ms mab mbe (nI tn) tA tL tK tV (unA a u) kf jf rv sv hf ef tg b vf) H locs := hW
    refine lv_as (y := unA a u 12) er_3 ?_
    refine lv_as (y := va_cpy uf ck ((u - 1) * 7) 0 7 6) ((VR_undo hV0 (by omega)).1) ?_
    refine lv_icmp_eq (tgt := 1149) hx hb dL_law_454 (by decide) (fun _ => ?_) (fun c9 => absurd rfl c9)
    exact K k1 k2 ab be bds nos fls wide wd (va_cpy uf ck ((u - 1) * 7) 0 7) n pf sn sf nn nf mn mf (u - 1) uf ywide ywd yck yn ypf ysn ysf ynn ynf ymn ymf yu yuf zwide zwd zck zn zpf zsn zsf znn znf zmn zmf zu zuf tk tn tok stt en tf dwide dwd dck dn dpf dsn dsf dnn dnf dmn dmf du duf f0 cr td0 fs0 car rea fin ms mab mbe (nI tn) tA tL tK tV (unA a u) kf jf rv sv hf ef tg b vf (⟨((VR_undo hV0 (by omega)).2).mono (by omega), hI1.mono (by omega), hI2.mono (by omega), ⟨htn, rfl, htt⟩, hPR, hCR⟩) _ _ _ hW hl
