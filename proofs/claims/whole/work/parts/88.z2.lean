set_option maxHeartbeats 8000000 in
set_option maxRecDepth 100000 in
theorem st_centuries {p_ : Program} {l : Launch} {e_ : Env} {s_ : State} {m_ : MethodId} {ar_ : Array Value} {be_ : List Frame} {me_ : Method} {cd_ : Code} {cells slots : Nat} {Q : State → Prop} {G : gT} {A_ : Nat → Prop} {ad : Nat → Nat} {bS : Nat} {L i B : Nat} {xs : Nat → Int32} (hLA : LA p_ l e_ s_ m_ ar_ be_ me_ cd_ cells slots Q G A_ ad bS L xs) (hi : i + 4 < L) (hB : B ≤ 300) (K : KK p_ l e_ s_ m_ ar_ be_ me_ cd_ cells slots Q G A_ ad bS i (B + 1) 1149) : KK p_ l e_ s_ m_ ar_ be_ me_ cd_ cells slots Q G A_ ad bS i B 986 := by
  obtain ⟨C, hX, hbl, hbA, hL, hcl⟩ := hLA
  intro k1 k2 ab be bds nos fls wide wd ck n pf sn sf nn nf mn mf u uf ywide ywd yck yn ypf ysn ysf ynn ynf ymn ymf yu yuf zwide zwd zck zn zpf zsn zsf znn znf zmn zmf zu zuf tk tn tok stt en tf dwide dwd dck dn dpf dsn dsf dnn dnf dmn dmf du duf f0 cr td0 fs0 car rea fin ms mab mbe bL tA tL tK tV a kf jf rv sv hf ef tg b vf hR H locs ls hW hl
  have hx := C.1; have hb := C.2.1; have hown := C.2.2.2.1; have ht := C.2.2.2.2.1
  obtain ⟨hV, hI1, hI2, hT, hPR, hCR⟩ := hR
  have hV0 := hV
  obtain ⟨⟨hn, hs, ho, hm, hu⟩, ⟨hWd, hP, hH, hS, hO⟩, ⟨hck, hpa⟩, ⟨e0, e1, e2, e3, e4, e5⟩, ⟨ea, ew, ep⟩, ⟨es, eno, em, eu⟩⟩ := hV
  have hck0 := hck
  obtain ⟨⟨hr, eh, hh⟩, ⟨fh, eh2, hfl⟩, hup01, hg, ⟨k4, ek4, hk4⟩, ⟨d5, ed5, hd5⟩⟩ := hck
  have e8 : a 8 = nI fh := (ea 2 (by decide)).trans eh2
  have e12 : a 12 = nI hr := (ea 6 (by decide)).trans eh
  have e9 : a 9 = ck 3 := ea 3 (by decide)
  have e7 : a 7 = ck 1 := ea 1 (by decide)
  have e6 : a 6 = ck 0 := ea 0 (by decide)
  obtain ⟨htn, hbL, htt⟩ := hT
  subst hbL
  cases hc : (iw (xs (i + 1)) 0 999999 && iw (xs (i + 2)) 0 60) with
  | false =>
    refine lv_aload_n hx hb dL_law_986 rfl (lv_at hl 1 rfl) ?_
    refine lv_aload_n hx hb dL_law_987 rfl (lv_at hl 0 rfl) ?_
    refine lv_iload_n hx hb dL_law_988 rfl (lv_at hl 3 rfl) ?_
    refine lv_iconst (v := 1) hx hb dL_law_989 (by decide) ?_
    refine lv_iadd hx hb dL_law_990 ?_
    refine lv_as (y := nI (i + 1)) (nI_add i 1) ?_
    refine va_sld hx hb hX hbl hbA hW.2.2 (vp_in_nI (n := i + 1) (by omega) (by omega)) dL_law_991 ?_
    refine lv_as (y := xs (i + 1)) (by rw [nI_clamp (by omega)]) ?_
    refine lv_aload_n hx hb dL_law_992 rfl (lv_at hl 0 rfl) ?_
    refine lv_iload_n hx hb dL_law_993 rfl (lv_at hl 3 rfl) ?_
    refine lv_iconst (v := 2) hx hb dL_law_994 (by decide) ?_
    refine lv_iadd hx hb dL_law_995 ?_
    refine lv_as (y := nI (i + 2)) (nI_add i 2) ?_
    refine va_sld hx hb hX hbl hbA hW.2.2 (vp_in_nI (n := i + 2) (by omega) (by omega)) dL_law_996 ?_
    refine lv_as (y := xs (i + 2)) (by rw [nI_clamp (by omega)]) ?_
    refine g_fiS (ww := fun (u_ : Unit) => [((ad 0), .inr (8, [.ref (ad 1), .ref (ad 14), .ref (ad 27), .int k1, .int k2, .ref (ad 40), .ref (ad 56), .ref (ad 58), .ref (ad 62), .int ab, .int be, .int (bds + 1), .int nos, .int fls]))]) (w2 := fun (u_ : Unit) => LW G ad k1 k2 ab be (bds + 1) nos fls wide wd ck n pf sn sf nn nf mn mf u uf ywide ywd yck yn ypf ysn ysf ynn ynf ymn ymf yu yuf zwide zwd zck zn zpf zsn zsf znn znf zmn zmf zu zuf tk tn tok stt en tf dwide dwd dck dn dpf dsn dsf dnn dnf dmn dmf du duf f0 cr td0 fs0 car rea fin ms mab mbe (nI tn) tA tL tK tV a kf jf rv sv hf ef tg b vf) C hW [0] rfl (fun _ => rfl) (fun _ => rfl) (fun _ => lw_fst.trans lw_fst.symm) (g_runV (As := [.int (xs (i + 1)), .int (xs (i + 2))]) (rest := []) (wc := [((ad 0), .inr (8, [.ref (ad 1), .ref (ad 14), .ref (ad 27), .int k1, .int k2, .ref (ad 40), .ref (ad 56), .ref (ad 58), .ref (ad 62), .int ab, .int be, .int bds, .int nos, .int fls]))]) (q0 := 0) (ci := 8) C hW hl (c_X10_centuries_bad l G (ad 1) (ad 0) (ad 14) (ad 27) (ad 40) (ad 56) (ad 58) (ad 62) k1 k2 ab be bds nos fls (xs (i + 1)) (xs (i + 2)) (by exact hc) _) k_ml_L_138 q_X10_centuries ⟨⟨rfl, rfl⟩, Nat.le_of_ble_eq_true rfl, Nat.le_of_ble_eq_true rfl⟩ [0] (by decide) rfl rfl rfl rfl rfl (Nat.le_of_ble_eq_true rfl) dL_law_997 ⟨hcl.1, hcl.2⟩) (fun r_1 _ er_1 => ?_)
    clear hW H locs; intro H locs hW
    replace hW : Wd G A_ s_.heap (LW G ad k1 k2 ab be (bds + 1) nos fls wide wd ck n pf sn sf nn nf mn mf u uf ywide ywd yck yn ypf ysn ysf ynn ynf ymn ymf yu yuf zwide zwd zck zn zpf zsn zsf znn znf zmn zmf zu zuf tk tn tok stt en tf dwide dwd dck dn dpf dsn dsf dnn dnf dmn dmf du duf f0 cr td0 fs0 car rea fin ms mab mbe (nI tn) tA tL tK tV a kf jf rv sv hf ef tg b vf) H locs := hW
    refine lv_as (y := (-2)) er_1 ?_
    refine lv_aload_n hx hb dL_law_1000 rfl (lv_at hl 2 rfl) ?_
    refine lv_aload_n hx hb dL_law_1001 rfl (lv_at hl 0 rfl) ?_
    refine lv_iload_n hx hb dL_law_1002 rfl (lv_at hl 3 rfl) ?_
    refine lv_iconst (v := 1) hx hb dL_law_1003 (by decide) ?_
    refine lv_iadd hx hb dL_law_1004 ?_
    refine lv_as (y := nI (i + 1)) (nI_add i 1) ?_
    refine va_sld hx hb hX hbl hbA hW.2.2 (vp_in_nI (n := i + 1) (by omega) (by omega)) dL_law_1005 ?_
    refine lv_as (y := xs (i + 1)) (by rw [nI_clamp (by omega)]) ?_
    refine lv_aload_n hx hb dL_law_1006 rfl (lv_at hl 0 rfl) ?_
    refine lv_iload_n hx hb dL_law_1007 rfl (lv_at hl 3 rfl) ?_
    refine lv_iconst (v := 2) hx hb dL_law_1008 (by decide) ?_
    refine lv_iadd hx hb dL_law_1009 ?_
    refine lv_as (y := nI (i + 2)) (nI_add i 2) ?_
    refine va_sld hx hb hX hbl hbA hW.2.2 (vp_in_nI (n := i + 2) (by omega) (by omega)) dL_law_1010 ?_
    refine lv_as (y := xs (i + 2)) (by rw [nI_clamp (by omega)]) ?_
    refine g_fiS (ww := fun (u_ : Unit) => [((ad 64), .inr (9, [.ref (ad 65), .ref (ad 66), .ref (ad 67), .ref (ad 68), .long mab, .long mbe, .ref (ad 69), .ref (ad 70), .ref (ad 71), .ref (ad 72), .int (nI tn), .int tA, .int tL, .int tK, .int tV, .ref (ad 73), .ref (ad 74)])), ((ad 68), .inl (G.2.1, 3, .inl (upd rv 0 (rv 0 + 1))))]) (w2 := fun (u_ : Unit) => LW G ad k1 k2 ab be (bds + 1) nos fls wide wd ck n pf sn sf nn nf mn mf u uf ywide ywd yck yn ypf ysn ysf ynn ynf ymn ymf yu yuf zwide zwd zck zn zpf zsn zsf znn znf zmn zmf zu zuf tk tn tok stt en tf dwide dwd dck dn dpf dsn dsf dnn dnf dmn dmf du duf f0 cr td0 fs0 car rea fin ms mab mbe (nI tn) tA tL tK tV a kf jf (upd rv 0 (rv 0 + 1)) sv hf ef tg b vf) C hW [64, 68] rfl (fun _ => rfl) (fun _ => rfl) (fun _ => lw_fst.trans lw_fst.symm) (g_runV (As := [.int (xs (i + 1)), .int (xs (i + 2))]) (rest := [.int (-2)]) (wc := [((ad 64), .inr (9, [.ref (ad 65), .ref (ad 66), .ref (ad 67), .ref (ad 68), .long mab, .long mbe, .ref (ad 69), .ref (ad 70), .ref (ad 71), .ref (ad 72), .int (nI tn), .int tA, .int tL, .int tK, .int tV, .ref (ad 73), .ref (ad 74)])), ((ad 68), .inl (G.2.1, 3, .inl rv))]) (q0 := 0) (ci := 9) C hW hl (c_X11_centuries_bad l G (ad 64) (ad 65) (ad 66) (ad 67) (ad 68) (ad 69) (ad 70) (ad 71) (ad 72) (ad 73) (ad 74) mab mbe (nI tn) tA tL tK tV rv (xs (i + 1)) (xs (i + 2)) (by exact hc) _) k_ml_L_141 q_X11_centuries ⟨⟨rfl, rfl⟩, Nat.le_of_ble_eq_true rfl, Nat.le_of_ble_eq_true rfl⟩ [64, 68] (by decide) rfl rfl rfl rfl rfl (Nat.le_of_ble_eq_true rfl) dL_law_1011 ⟨hcl.1, hcl.2⟩) (fun r_3 _ er_3 => ?_)
    clear hW H locs; intro H locs hW
    replace hW : Wd G A_ s_.heap (LW G ad k1 k2 ab be (bds + 1) nos fls wide wd ck n pf sn sf nn nf mn mf u uf ywide ywd yck yn ypf ysn ysf ynn ynf ymn ymf yu yuf zwide zwd zck zn zpf zsn zsf znn znf zmn zmf zu zuf tk tn tok stt en tf dwide dwd dck dn dpf dsn dsf dnn dnf dmn dmf du duf f0 cr td0 fs0 car rea fin ms mab mbe (nI tn) tA tL tK tV a kf jf (upd rv 0 (rv 0 + 1)) sv hf ef tg b vf) H locs := hW
    refine lv_as (y := (-2)) er_3 ?_
    refine lv_as (y := (-2)) (rfl) ?_
    refine lv_icmp_eq (tgt := 1149) hx hb dL_law_1014 (by decide) (fun _ => ?_) (fun c9 => absurd rfl c9)
    exact K k1 k2 ab be (bds + 1) nos fls wide wd ck n pf sn sf nn nf mn mf u uf ywide ywd yck yn ypf ysn ysf ynn ynf ymn ymf yu yuf zwide zwd zck zn zpf zsn zsf znn znf zmn zmf zu zuf tk tn tok stt en tf dwide dwd dck dn dpf dsn dsf dnn dnf dmn dmf du duf f0 cr td0 fs0 car rea fin ms mab mbe (nI tn) tA tL tK tV a kf jf (upd rv 0 (rv 0 + 1)) sv hf ef tg b vf (⟨hV0.mono (by omega), hI1.mono (by omega), hI2.mono (by omega), ⟨htn, rfl, htt⟩, hPR, CR_bad hCR⟩) _ _ _ hW hl
  | true =>
    simp only [Bool.and_eq_true] at hc
    obtain ⟨m9, hm9, em9⟩ := iw_ex (m := 60) hc.2 (by decide)
    refine lv_aload_n hx hb dL_law_986 rfl (lv_at hl 1 rfl) ?_
    refine lv_aload_n hx hb dL_law_987 rfl (lv_at hl 0 rfl) ?_
    refine lv_iload_n hx hb dL_law_988 rfl (lv_at hl 3 rfl) ?_
    refine lv_iconst (v := 1) hx hb dL_law_989 (by decide) ?_
    refine lv_iadd hx hb dL_law_990 ?_
    refine lv_as (y := nI (i + 1)) (nI_add i 1) ?_
    refine va_sld hx hb hX hbl hbA hW.2.2 (vp_in_nI (n := i + 1) (by omega) (by omega)) dL_law_991 ?_
    refine lv_as (y := xs (i + 1)) (by rw [nI_clamp (by omega)]) ?_
    refine lv_aload_n hx hb dL_law_992 rfl (lv_at hl 0 rfl) ?_
    refine lv_iload_n hx hb dL_law_993 rfl (lv_at hl 3 rfl) ?_
    refine lv_iconst (v := 2) hx hb dL_law_994 (by decide) ?_
    refine lv_iadd hx hb dL_law_995 ?_
    refine lv_as (y := nI (i + 2)) (nI_add i 2) ?_
    refine va_sld hx hb hX hbl hbA hW.2.2 (vp_in_nI (n := i + 2) (by omega) (by omega)) dL_law_996 ?_
    refine lv_as (y := nI m9) (by rw [nI_clamp (by omega)]; exact em9) ?_
    refine g_fi C hW [0, 1, 4, 5, 3, 2] rfl (g_runV (As := [.int (xs (i + 1)), .int (nI m9)]) (rest := []) (wc := [((ad 0), .inr (8, [.ref (ad 1), .ref (ad 14), .ref (ad 27), .int k1, .int k2, .ref (ad 40), .ref (ad 56), .ref (ad 58), .ref (ad 62), .int ab, .int be, .int bds, .int nos, .int fls])), ((ad 1), .inr (7, [.int wide, .ref (ad 2), .ref (ad 3), .ref (ad 4), .ref (ad 6), .ref (ad 8), .ref (ad 10), .ref (ad 12)])), ((ad 4), .inr (4, [.int 7, .int 3, .ref (ad 5), .int (nI n)])), ((ad 5), .inl (G.2.1, 21, .inl pf)), ((ad 3), .inl (G.2.1, 7, .inl ck)), ((ad 2), .inl (G.2.1, 6, .inl wd))]) (q0 := 0) (ci := 8) C hW hl (c_X10_centuries_ok l G (ad 1) (ad 2) (ad 3) (ad 4) (ad 6) (ad 8) (ad 10) (ad 12) wide (ad 5) n pf ck wd (ad 0) (ad 14) (ad 27) (ad 40) (ad 56) (ad 58) (ad 62) k1 k2 ab be bds nos fls hr m9 (xs (i + 1)) (by first | assumption | omega) (by assumption) (by first | assumption | omega) (by assumption) (by assumption) (by assumption) (by exact hc.1) (by omega) _) k_ml_L_138 q_X10_centuries ⟨⟨rfl, rfl⟩, Nat.le_of_ble_eq_true rfl, Nat.le_of_ble_eq_true rfl⟩ [0, 1, 4, 5, 3, 2] (by decide) rfl rfl rfl rfl rfl (Nat.le_of_ble_eq_true rfl) dL_law_997 ⟨hcl.1, hcl.2⟩) (fun r_1 er_1 => ?_)
    clear hW H locs; intro H locs hW
    refine lv_as (y := (ceS wide ck wd pf n hr (xs (i + 1)) m9).2.2) er_1 ?_
    refine lv_aload_n hx hb dL_law_1000 rfl (lv_at hl 2 rfl) ?_
    refine lv_aload_n hx hb dL_law_1001 rfl (lv_at hl 0 rfl) ?_
    refine lv_iload_n hx hb dL_law_1002 rfl (lv_at hl 3 rfl) ?_
    refine lv_iconst (v := 1) hx hb dL_law_1003 (by decide) ?_
    refine lv_iadd hx hb dL_law_1004 ?_
    refine lv_as (y := nI (i + 1)) (nI_add i 1) ?_
    refine va_sld hx hb hX hbl hbA hW.2.2 (vp_in_nI (n := i + 1) (by omega) (by omega)) dL_law_1005 ?_
    refine lv_as (y := xs (i + 1)) (by rw [nI_clamp (by omega)]) ?_
    refine lv_aload_n hx hb dL_law_1006 rfl (lv_at hl 0 rfl) ?_
    refine lv_iload_n hx hb dL_law_1007 rfl (lv_at hl 3 rfl) ?_
    refine lv_iconst (v := 2) hx hb dL_law_1008 (by decide) ?_
    refine lv_iadd hx hb dL_law_1009 ?_
    refine lv_as (y := nI (i + 2)) (nI_add i 2) ?_
    refine va_sld hx hb hX hbl hbA hW.2.2 (vp_in_nI (n := i + 2) (by omega) (by omega)) dL_law_1010 ?_
    refine lv_as (y := nI m9) (by rw [nI_clamp (by omega)]; exact em9) ?_
    refine g_fiS (ww := fun (u_ : Unit) => [((ad 64), .inr (9, [.ref (ad 65), .ref (ad 66), .ref (ad 67), .ref (ad 68), .long mab, .long mbe, .ref (ad 69), .ref (ad 70), .ref (ad 71), .ref (ad 72), .int (nI tn), .int tA, .int tL, .int tK, .int tV, .ref (ad 73), .ref (ad 74)])), ((ad 65), .inl (G.2.1, 159, .inl a)), ((ad 70), .inl (G.2.1, 40, .inl ((ctS (fa_fill a hf 40) n hr (xs (i + 1)) m9).1)))]) (w2 := fun (u_ : Unit) => LW G ad k1 k2 ab be bds nos fls wide wd ck n pf sn sf nn nf mn mf u uf ywide ywd yck yn ypf ysn ysf ynn ynf ymn ymf yu yuf zwide zwd zck zn zpf zsn zsf znn znf zmn zmf zu zuf tk tn tok stt en tf dwide dwd dck dn dpf dsn dsf dnn dnf dmn dmf du duf f0 cr td0 fs0 car rea fin ms mab mbe (nI tn) tA tL tK tV a kf jf rv sv ((ctS (fa_fill a hf 40) n hr (xs (i + 1)) m9).1) ef tg b vf) C hW [64, 65, 70] rfl (fun _ => rfl) (fun _ => rfl) (fun _ => lw_fst.trans lw_fst.symm) (g_runV (As := [.int (xs (i + 1)), .int (nI m9)]) (rest := [.int ((ceS wide ck wd pf n hr (xs (i + 1)) m9).2.2)]) (wc := [((ad 64), .inr (9, [.ref (ad 65), .ref (ad 66), .ref (ad 67), .ref (ad 68), .long mab, .long mbe, .ref (ad 69), .ref (ad 70), .ref (ad 71), .ref (ad 72), .int (nI tn), .int tA, .int tL, .int tK, .int tV, .ref (ad 73), .ref (ad 74)])), ((ad 65), .inl (G.2.1, 159, .inl a)), ((ad 70), .inl (G.2.1, 40, .inl hf))]) (q0 := 0) (ci := 9) C hW hl (c_X11_centuries_ok l G (ad 64) (ad 65) (ad 66) (ad 67) (ad 68) (ad 69) (ad 70) (ad 71) (ad 72) (ad 73) (ad 74) mab mbe (nI tn) tA tL tK tV a hf n hr m9 (xs (i + 1)) (by first | assumption | omega) (by first | assumption | omega) (by first | assumption | omega) (by first | assumption | omega) (by exact hc.1) (by omega) _) k_ml_L_141 q_X11_centuries ⟨⟨rfl, rfl⟩, Nat.le_of_ble_eq_true rfl, Nat.le_of_ble_eq_true rfl⟩ [64, 65, 70] (by decide) rfl rfl rfl rfl rfl (Nat.le_of_ble_eq_true rfl) dL_law_1011 ⟨hcl.1, hcl.2⟩) (fun r_2 _ er_2 => ?_)
    clear hW H locs; intro H locs hW
    replace hW : Wd G A_ s_.heap (LW G ad k1 k2 ab be bds nos fls wide wd ck n pf sn sf nn nf mn mf u uf ywide ywd yck yn ypf ysn ysf ynn ynf ymn ymf yu yuf zwide zwd zck zn zpf zsn zsf znn znf zmn zmf zu zuf tk tn tok stt en tf dwide dwd dck dn dpf dsn dsf dnn dnf dmn dmf du duf f0 cr td0 fs0 car rea fin ms mab mbe (nI tn) tA tL tK tV a kf jf rv sv ((ctS (fa_fill a hf 40) n hr (xs (i + 1)) m9).1) ef tg b vf) H locs := hW
    refine lv_as (y := (ctS (fa_fill a hf 40) n hr (xs (i + 1)) m9).2) er_2 ?_
    refine lv_as (y := (ceS wide ck wd pf n hr (xs (i + 1)) m9).2.2) ((ce_sim hV0 m9).2.2.2.1) ?_
    refine lv_icmp_eq (tgt := 1149) hx hb dL_law_1014 (by decide) (fun _ => ?_) (fun c9 => absurd rfl c9)
    exact K k1 k2 ab be bds nos fls wide wd ck n pf sn sf nn nf mn mf u uf ywide ywd yck yn ypf ysn ysf ynn ynf ymn ymf yu yuf zwide zwd zck zn zpf zsn zsf znn znf zmn zmf zu zuf tk tn tok stt en tf dwide dwd dck dn dpf dsn dsf dnn dnf dmn dmf du duf f0 cr td0 fs0 car rea fin ms mab mbe (nI tn) tA tL tK tV a kf jf rv sv ((ctS (fa_fill a hf 40) n hr (xs (i + 1)) m9).1) ef tg b vf (⟨hV0.mono (by omega), hI1.mono (by omega), hI2.mono (by omega), ⟨htn, rfl, htt⟩, hPR, hCR⟩) _ _ _ hW hl
