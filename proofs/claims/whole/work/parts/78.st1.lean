set_option maxHeartbeats 8000000 in
set_option maxRecDepth 100000 in
theorem st_valley {p_ : Program} {l : Launch} {e_ : Env} {s_ : State} {m_ : MethodId} {ar_ : Array Value} {be_ : List Frame} {me_ : Method} {cd_ : Code} {cells slots : Nat} {Q : State → Prop} {G : gT} {A_ : Nat → Prop} {ad : Nat → Nat} {bS : Nat} {L i B : Nat} {xs : Nat → Int32} (hLA : LA p_ l e_ s_ m_ ar_ be_ me_ cd_ cells slots Q G A_ ad bS L xs) (hi : i + 4 < L) (hB : B ≤ 300) (K : KK p_ l e_ s_ m_ ar_ be_ me_ cd_ cells slots Q G A_ ad bS i (B + 1) 1149) : KK p_ l e_ s_ m_ ar_ be_ me_ cd_ cells slots Q G A_ ad bS i B 196 := by
  obtain ⟨C, hX, hbl, hbA, hL, hcl⟩ := hLA
  intro k1 k2 ab be bds nos fls wide wd ck n pf sn sf nn nf mn mf u uf ywide ywd yck yn ypf ysn ysf ynn ynf ymn ymf yu yuf zwide zwd zck zn zpf zsn zsf znn znf zmn zmf zu zuf tk tn tok stt en tf dwide dwd dck dn dpf dsn dsf dnn dnf dmn dmf du duf f0 cr td0 fs0 car rea fin ms mab mbe bL tA tL tK tV a kf jf rv sv hf ef tg b vf hR H locs ls hW hl
  have hx := C.1; have hb := C.2.1; have hown := C.2.2.2.1; have ht := C.2.2.2.2.1
  obtain ⟨hV, hI1, hI2, hT, hPR, hCR⟩ := hR
  have hV0 := hV
  obtain ⟨⟨hn, hs, ho, hm, hu⟩, ⟨hWd, hP, hH, hS, hO⟩, ⟨hck, hpa⟩, ⟨e0, e1, e2, e3, e4, e5⟩, ⟨ea, ew, ep⟩, ⟨es, eno, em, eu⟩⟩ := hV
  have hck0 := hck
  obtain ⟨⟨hr, eh, hh⟩, ⟨fh, eh2, hfl⟩, hup01, hg, ⟨k4, ek4, hk4⟩, ⟨d5, ed5, hd5⟩⟩ := hck
  have e8 : a 8 = nI fh := (ea 2 (by decide)).trans eh2
  have e12 : a 12 = nI hr := (ea 6 (by decide)).trans eh
  have e9 : a 9 = ck 3 := ea 3 (by decide)
  have e7 : a 7 = ck 1 := ea 1 (by decide)
  have e6 : a 6 = ck 0 := ea 0 (by decide)
  obtain ⟨htn, hbL, htt⟩ := hT
  subst hbL
  cases hc : iw (xs (i + 1)) 1 40 with
  | false =>
    refine lv_aload_n hx hb dL_law_196 rfl (lv_at hl 1 rfl) ?_
    refine lv_aload_n hx hb dL_law_197 rfl (lv_at hl 0 rfl) ?_
    refine lv_iload_n hx hb dL_law_198 rfl (lv_at hl 3 rfl) ?_
    refine lv_iconst (v := 1) hx hb dL_law_199 (by decide) ?_
    refine lv_iadd hx hb dL_law_200 ?_
    refine lv_as (y := nI (i + 1)) (nI_add i 1) ?_
    refine va_sld hx hb hX hbl hbA hW.2.2 (vp_in_nI (n := i + 1) (by omega) (by omega)) dL_law_201 ?_
    refine lv_as (y := xs (i + 1)) (by rw [nI_clamp (by omega)]) ?_
    refine g_fiS (ww := fun (u_ : Unit) => [((ad 0), .inr (8, [.ref (ad 1), .ref (ad 14), .ref (ad 27), .int k1, .int k2, .ref (ad 40), .ref (ad 56), .ref (ad 58), .ref (ad 62), .int ab, .int be, .int (bds + 1), .int nos, .int fls]))]) (w2 := fun (u_ : Unit) => LW G ad k1 k2 ab be (bds + 1) nos fls wide wd ck n pf sn sf nn nf mn mf u uf ywide ywd yck yn ypf ysn ysf ynn ynf ymn ymf yu yuf zwide zwd zck zn zpf zsn zsf znn znf zmn zmf zu zuf tk tn tok stt en tf dwide dwd dck dn dpf dsn dsf dnn dnf dmn dmf du duf f0 cr td0 fs0 car rea fin ms mab mbe (nI tn) tA tL tK tV a kf jf rv sv hf ef tg b vf) C hW [0] rfl (fun _ => rfl) (fun _ => rfl) (fun _ => lw_fst.trans lw_fst.symm) (g_runV (As := [.int (xs (i + 1))]) (rest := []) (wc := [((ad 0), .inr (8, [.ref (ad 1), .ref (ad 14), .ref (ad 27), .int k1, .int k2, .ref (ad 40), .ref (ad 56), .ref (ad 58), .ref (ad 62), .int ab, .int be, .int bds, .int nos, .int fls]))]) (q0 := 0) (ci := 8) C hW hl (c_X10_valley_bad l G (ad 1) (ad 0) (ad 14) (ad 27) (ad 40) (ad 56) (ad 58) (ad 62) k1 k2 ab be bds nos fls (xs (i + 1)) (by exact hc) _) k_ml_L_13 q_X10_valley ⟨⟨rfl, rfl⟩, Nat.le_of_ble_eq_true rfl, Nat.le_of_ble_eq_true rfl⟩ [0] (by decide) rfl rfl rfl rfl rfl (Nat.le_of_ble_eq_true rfl) dL_law_202 ⟨hcl.1, hcl.2⟩) (fun r_1 _ er_1 => ?_)
    clear hW H locs; intro H locs hW
    replace hW : Wd G A_ s_.heap (LW G ad k1 k2 ab be (bds + 1) nos fls wide wd ck n pf sn sf nn nf mn mf u uf ywide ywd yck yn ypf ysn ysf ynn ynf ymn ymf yu yuf zwide zwd zck zn zpf zsn zsf znn znf zmn zmf zu zuf tk tn tok stt en tf dwide dwd dck dn dpf dsn dsf dnn dnf dmn dmf du duf f0 cr td0 fs0 car rea fin ms mab mbe (nI tn) tA tL tK tV a kf jf rv sv hf ef tg b vf) H locs := hW
    refine lv_as (y := (-2)) er_1 ?_
    refine lv_aload_n hx hb dL_law_205 rfl (lv_at hl 2 rfl) ?_
    refine lv_aload_n hx hb dL_law_206 rfl (lv_at hl 0 rfl) ?_
    refine lv_iload_n hx hb dL_law_207 rfl (lv_at hl 3 rfl) ?_
    refine lv_iconst (v := 1) hx hb dL_law_208 (by decide) ?_
    refine lv_iadd hx hb dL_law_209 ?_
    refine lv_as (y := nI (i + 1)) (nI_add i 1) ?_
    refine va_sld hx hb hX hbl hbA hW.2.2 (vp_in_nI (n := i + 1) (by omega) (by omega)) dL_law_210 ?_
    refine lv_as (y := xs (i + 1)) (by rw [nI_clamp (by omega)]) ?_
    refine g_fiS (ww := fun (u_ : Unit) => [((ad 64), .inr (9, [.ref (ad 65), .ref (ad 66), .ref (ad 67), .ref (ad 68), .long mab, .long mbe, .ref (ad 69), .ref (ad 70), .ref (ad 71), .ref (ad 72), .int (nI tn), .int tA, .int tL, .int tK, .int tV, .ref (ad 73), .ref (ad 74)])), ((ad 68), .inl (G.2.1, 3, .inl (upd rv 0 (rv 0 + 1))))]) (w2 := fun (u_ : Unit) => LW G ad k1 k2 ab be (bds + 1) nos fls wide wd ck n pf sn sf nn nf mn mf u uf ywide ywd yck yn ypf ysn ysf ynn ynf ymn ymf yu yuf zwide zwd zck zn zpf zsn zsf znn znf zmn zmf zu zuf tk tn tok stt en tf dwide dwd dck dn dpf dsn dsf dnn dnf dmn dmf du duf f0 cr td0 fs0 car rea fin ms mab mbe (nI tn) tA tL tK tV a kf jf (upd rv 0 (rv 0 + 1)) sv hf ef tg b vf) C hW [64, 68] rfl (fun _ => rfl) (fun _ => rfl) (fun _ => lw_fst.trans lw_fst.symm) (g_runV (As := [.int (xs (i + 1))]) (rest := [.int (-2)]) (wc := [((ad 64), .inr (9, [.ref (ad 65), .ref (ad 66), .ref (ad 67), .ref (ad 68), .long mab, .long mbe, .ref (ad 69), .ref (ad 70), .ref (ad 71), .ref (ad 72), .int (nI tn), .int tA, .int tL, .int tK, .int tV, .ref (ad 73), .ref (ad 74)])), ((ad 68), .inl (G.2.1, 3, .inl rv))]) (q0 := 0) (ci := 9) C hW hl (c_X11_valley_bad l G (ad 64) (ad 65) (ad 66) (ad 67) (ad 68) (ad 69) (ad 70) (ad 71) (ad 72) (ad 73) (ad 74) mab mbe (nI tn) tA tL tK tV rv (xs (i + 1)) (by exact hc) _) k_ml_L_17 q_X11_valley ⟨⟨rfl, rfl⟩, Nat.le_of_ble_eq_true rfl, Nat.le_of_ble_eq_true rfl⟩ [64, 68] (by decide) rfl rfl rfl rfl rfl (Nat.le_of_ble_eq_true rfl) dL_law_211 ⟨hcl.1, hcl.2⟩) (fun r_3 _ er_3 => ?_)
    clear hW H locs; intro H locs hW
    replace hW : Wd G A_ s_.heap (LW G ad k1 k2 ab be (bds + 1) nos fls wide wd ck n pf sn sf nn nf mn mf u uf ywide ywd yck yn ypf ysn ysf ynn ynf ymn ymf yu yuf zwide zwd zck zn zpf zsn zsf znn znf zmn zmf zu zuf tk tn tok stt en tf dwide dwd dck dn dpf dsn dsf dnn dnf dmn dmf du duf f0 cr td0 fs0 car rea fin ms mab mbe (nI tn) tA tL tK tV a kf jf (upd rv 0 (rv 0 + 1)) sv hf ef tg b vf) H locs := hW
    refine lv_as (y := (-2)) er_3 ?_
    refine lv_as (y := (-2)) (rfl) ?_
    refine lv_icmp_eq (tgt := 1149) hx hb dL_law_214 (by decide) (fun _ => ?_) (fun c9 => absurd rfl c9)
    exact K k1 k2 ab be (bds + 1) nos fls wide wd ck n pf sn sf nn nf mn mf u uf ywide ywd yck yn ypf ysn ysf ynn ynf ymn ymf yu yuf zwide zwd zck zn zpf zsn zsf znn znf zmn zmf zu zuf tk tn tok stt en tf dwide dwd dck dn dpf dsn dsf dnn dnf dmn dmf du duf f0 cr td0 fs0 car rea fin ms mab mbe (nI tn) tA tL tK tV a kf jf (upd rv 0 (rv 0 + 1)) sv hf ef tg b vf (⟨hV0.mono (by omega), hI1.mono (by omega), hI2.mono (by omega), ⟨htn, rfl, htt⟩, hPR, CR_bad hCR⟩) _ _ _ hW hl
  | true =>
    refine lv_aload_n hx hb dL_law_196 rfl (lv_at hl 1 rfl) ?_
    refine lv_aload_n hx hb dL_law_197 rfl (lv_at hl 0 rfl) ?_
    refine lv_iload_n hx hb dL_law_198 rfl (lv_at hl 3 rfl) ?_
    refine lv_iconst (v := 1) hx hb dL_law_199 (by decide) ?_
    refine lv_iadd hx hb dL_law_200 ?_
    refine lv_as (y := nI (i + 1)) (nI_add i 1) ?_
    refine va_sld hx hb hX hbl hbA hW.2.2 (vp_in_nI (n := i + 1) (by omega) (by omega)) dL_law_201 ?_
    refine lv_as (y := xs (i + 1)) (by rw [nI_clamp (by omega)]) ?_
    refine g_fiS (ww := fun (u_ : Unit) => [((ad 0), .inr (8, [.ref (ad 1), .ref (ad 14), .ref (ad 27), .int k1, .int k2, .ref (ad 40), .ref (ad 56), .ref (ad 58), .ref (ad 62), .int ab, .int be, .int bds, .int nos, .int fls])), ((ad 1), .inr (7, [.int (xs (i + 1)), .ref (ad 2), .ref (ad 3), .ref (ad 4), .ref (ad 6), .ref (ad 8), .ref (ad 10), .ref (ad 12)])), ((ad 2), .inl (G.2.1, 6, .inl (fun i => if i < 6 then 0 else wd i))), ((ad 3), .inl (G.2.1, 7, .inl (upd (upd (fun i => if i < 7 then 0 else ck i) 1 1) 3 1))), ((ad 4), .inr (4, [.int 7, .int 3, .ref (ad 5), .int (nI 0)])), ((ad 5), .inl (G.2.1, 21, .inl pf)), ((ad 6), .inr (4, [.int 5, .int 3, .ref (ad 7), .int (nI 0)])), ((ad 7), .inl (G.2.1, 15, .inl sf)), ((ad 8), .inr (4, [.int 6, .int 4, .ref (ad 9), .int (nI 0)])), ((ad 9), .inl (G.2.1, 24, .inl nf)), ((ad 10), .inr (4, [.int 6, .int 4, .ref (ad 11), .int (nI 0)])), ((ad 11), .inl (G.2.1, 24, .inl mf)), ((ad 12), .inr (1, [.ref (ad 13), .int (nI 0)])), ((ad 13), .inl (G.2.1, 56, .inl uf))]) (w2 := fun (u_ : Unit) => LW G ad k1 k2 ab be bds nos fls (xs (i + 1)) (fun i => if i < 6 then 0 else wd i) (upd (upd (fun i => if i < 7 then 0 else ck i) 1 1) 3 1) 0 pf 0 sf 0 nf 0 mf 0 uf ywide ywd yck yn ypf ysn ysf ynn ynf ymn ymf yu yuf zwide zwd zck zn zpf zsn zsf znn znf zmn zmf zu zuf tk tn tok stt en tf dwide dwd dck dn dpf dsn dsf dnn dnf dmn dmf du duf f0 cr td0 fs0 car rea fin ms mab mbe (nI tn) tA tL tK tV a kf jf rv sv hf ef tg b vf) C hW [0, 1, 2, 3, 4, 5, 6, 7, 8, 9, 10, 11, 12, 13] rfl (fun _ => rfl) (fun _ => rfl) (fun _ => lw_fst.trans lw_fst.symm) (g_runV (As := [.int (xs (i + 1))]) (rest := []) (wc := [((ad 0), .inr (8, [.ref (ad 1), .ref (ad 14), .ref (ad 27), .int k1, .int k2, .ref (ad 40), .ref (ad 56), .ref (ad 58), .ref (ad 62), .int ab, .int be, .int bds, .int nos, .int fls])), ((ad 1), .inr (7, [.int wide, .ref (ad 2), .ref (ad 3), .ref (ad 4), .ref (ad 6), .ref (ad 8), .ref (ad 10), .ref (ad 12)])), ((ad 2), .inl (G.2.1, 6, .inl wd)), ((ad 3), .inl (G.2.1, 7, .inl ck)), ((ad 4), .inr (4, [.int 7, .int 3, .ref (ad 5), .int (nI n)])), ((ad 5), .inl (G.2.1, 21, .inl pf)), ((ad 6), .inr (4, [.int 5, .int 3, .ref (ad 7), .int (nI sn)])), ((ad 7), .inl (G.2.1, 15, .inl sf)), ((ad 8), .inr (4, [.int 6, .int 4, .ref (ad 9), .int (nI nn)])), ((ad 9), .inl (G.2.1, 24, .inl nf)), ((ad 10), .inr (4, [.int 6, .int 4, .ref (ad 11), .int (nI mn)])), ((ad 11), .inl (G.2.1, 24, .inl mf)), ((ad 12), .inr (1, [.ref (ad 13), .int (nI u)])), ((ad 13), .inl (G.2.1, 56, .inl uf))]) (q0 := 0) (ci := 8) C hW hl (c_X10_valley_ok l G (ad 1) (ad 2) (ad 3) (ad 4) (ad 5) (ad 6) (ad 7) (ad 8) (ad 9) (ad 10) (ad 11) (ad 12) (ad 13) wide wd ck n pf sn sf nn nf mn mf u uf (ad 0) (ad 14) (ad 27) (ad 40) (ad 56) (ad 58) (ad 62) k1 k2 ab be bds nos fls (xs (i + 1)) (by exact hc) _) k_ml_L_13 q_X10_valley ⟨⟨rfl, rfl⟩, Nat.le_of_ble_eq_true rfl, Nat.le_of_ble_eq_true rfl⟩ [0, 1, 2, 3, 4, 5, 6, 7, 8, 9, 10, 11, 12, 13] (by decide) rfl rfl rfl rfl rfl (Nat.le_of_ble_eq_true rfl) dL_law_202 ⟨hcl.1, hcl.2⟩) (fun r_1 _ er_1 => ?_)
    clear hW H locs; intro H locs hW
    replace hW : Wd G A_ s_.heap (LW G ad k1 k2 ab be bds nos fls (xs (i + 1)) (fun i => if i < 6 then 0 else wd i) (upd (upd (fun i => if i < 7 then 0 else ck i) 1 1) 3 1) 0 pf 0 sf 0 nf 0 mf 0 uf ywide ywd yck yn ypf ysn ysf ynn ynf ymn ymf yu yuf zwide zwd zck zn zpf zsn zsf znn znf zmn zmf zu zuf tk tn tok stt en tf dwide dwd dck dn dpf dsn dsf dnn dnf dmn dmf du duf f0 cr td0 fs0 car rea fin ms mab mbe (nI tn) tA tL tK tV a kf jf rv sv hf ef tg b vf) H locs := hW
    refine lv_as (y := nI n) er_1 ?_
    refine lv_aload_n hx hb dL_law_205 rfl (lv_at hl 2 rfl) ?_
    refine lv_aload_n hx hb dL_law_206 rfl (lv_at hl 0 rfl) ?_
    refine lv_iload_n hx hb dL_law_207 rfl (lv_at hl 3 rfl) ?_
    refine lv_iconst (v := 1) hx hb dL_law_208 (by decide) ?_
    refine lv_iadd hx hb dL_law_209 ?_
    refine lv_as (y := nI (i + 1)) (nI_add i 1) ?_
    refine va_sld hx hb hX hbl hbA hW.2.2 (vp_in_nI (n := i + 1) (by omega) (by omega)) dL_law_210 ?_
    refine lv_as (y := xs (i + 1)) (by rw [nI_clamp (by omega)]) ?_
    refine g_fiS (ww := fun (u_ : Unit) => [((ad 64), .inr (9, [.ref (ad 65), .ref (ad 66), .ref (ad 67), .ref (ad 68), .long mab, .long mbe, .ref (ad 69), .ref (ad 70), .ref (ad 71), .ref (ad 72), .int (nI tn), .int tA, .int tL, .int tK, .int tV, .ref (ad 73), .ref (ad 74)])), ((ad 65), .inl (G.2.1, 159, .inl (bgA a (xs (i + 1)))))]) (w2 := fun (u_ : Unit) => LW G ad k1 k2 ab be bds nos fls (xs (i + 1)) (fun i => if i < 6 then 0 else wd i) (upd (upd (fun i => if i < 7 then 0 else ck i) 1 1) 3 1) 0 pf 0 sf 0 nf 0 mf 0 uf ywide ywd yck yn ypf ysn ysf ynn ynf ymn ymf yu yuf zwide zwd zck zn zpf zsn zsf znn znf zmn zmf zu zuf tk tn tok stt en tf dwide dwd dck dn dpf dsn dsf dnn dnf dmn dmf du duf f0 cr td0 fs0 car rea fin ms mab mbe (nI tn) tA tL tK tV (bgA a (xs (i + 1))) kf jf rv sv hf ef tg b vf) C hW [64, 65] rfl (fun _ => rfl) (fun _ => rfl) (fun _ => lw_fst.trans lw_fst.symm) (g_runV (As := [.int (xs (i + 1))]) (rest := [.int (nI n)]) (wc := [((ad 64), .inr (9, [.ref (ad 65), .ref (ad 66), .ref (ad 67), .ref (ad 68), .long mab, .long mbe, .ref (ad 69), .ref (ad 70), .ref (ad 71), .ref (ad 72), .int (nI tn), .int tA, .int tL, .int tK, .int tV, .ref (ad 73), .ref (ad 74)])), ((ad 65), .inl (G.2.1, 159, .inl a))]) (q0 := 0) (ci := 9) C hW hl (c_X11_valley_ok l G (ad 64) (ad 65) (ad 66) (ad 67) (ad 68) (ad 69) (ad 70) (ad 71) (ad 72) (ad 73) (ad 74) mab mbe (nI tn) tA tL tK tV a n (xs (i + 1)) (by exact hc) (by first | assumption | omega) _) k_ml_L_17 q_X11_valley ⟨⟨rfl, rfl⟩, Nat.le_of_ble_eq_true rfl, Nat.le_of_ble_eq_true rfl⟩ [64, 65] (by decide) rfl rfl rfl rfl rfl (Nat.le_of_ble_eq_true rfl) dL_law_211 ⟨hcl.1, hcl.2⟩) (fun r_3 _ er_3 => ?_)
    clear hW H locs; intro H locs hW
    replace hW : Wd G A_ s_.heap (LW G ad k1 k2 ab be bds nos fls (xs (i + 1)) (fun i => if i < 6 then 0 else wd i) (upd (upd (fun i => if i < 7 then 0 else ck i) 1 1) 3 1) 0 pf 0 sf 0 nf 0 mf 0 uf ywide ywd yck yn ypf ysn ysf ynn ynf ymn ymf yu yuf zwide zwd zck zn zpf zsn zsf znn znf zmn zmf zu zuf tk tn tok stt en tf dwide dwd dck dn dpf dsn dsf dnn dnf dmn dmf du duf f0 cr td0 fs0 car rea fin ms mab mbe (nI tn) tA tL tK tV (bgA a (xs (i + 1))) kf jf rv sv hf ef tg b vf) H locs := hW
    refine lv_as (y := nI n) er_3 ?_
    refine lv_as (y := nI n) (rfl) ?_
    refine lv_icmp_eq (tgt := 1149) hx hb dL_law_214 (by decide) (fun _ => ?_) (fun c9 => absurd rfl c9)
    exact K k1 k2 ab be bds nos fls (xs (i + 1)) (fun i => if i < 6 then 0 else wd i) (upd (upd (fun i => if i < 7 then 0 else ck i) 1 1) 3 1) 0 pf 0 sf 0 nf 0 mf 0 uf ywide ywd yck yn ypf ysn ysf ynn ynf ymn ymf yu yuf zwide zwd zck zn zpf zsn zsf znn znf zmn zmf zu zuf tk tn tok stt en tf dwide dwd dck dn dpf dsn dsf dnn dnf dmn dmf du duf f0 cr td0 fs0 car rea fin ms mab mbe (nI tn) tA tL tK tV (bgA a (xs (i + 1))) kf jf rv sv hf ef tg b vf (⟨VR_start, hI1.mono (by omega), hI2.mono (by omega), ⟨htn, rfl, htt⟩, hPR, hCR⟩) _ _ _ hW hl
set_option maxHeartbeats 8000000 in
set_option maxRecDepth 100000 in
theorem st_wind {p_ : Program} {l : Launch} {e_ : Env} {s_ : State} {m_ : MethodId} {ar_ : Array Value} {be_ : List Frame} {me_ : Method} {cd_ : Code} {cells slots : Nat} {Q : State → Prop} {G : gT} {A_ : Nat → Prop} {ad : Nat → Nat} {bS : Nat} {L i B : Nat} {xs : Nat → Int32} (hLA : LA p_ l e_ s_ m_ ar_ be_ me_ cd_ cells slots Q G A_ ad bS L xs) (hi : i + 4 < L) (hB : B ≤ 300) (K : KK p_ l e_ s_ m_ ar_ be_ me_ cd_ cells slots Q G A_ ad bS i (B + 1) 1149) : KK p_ l e_ s_ m_ ar_ be_ me_ cd_ cells slots Q G A_ ad bS i B 219 := by
  obtain ⟨C, hX, hbl, hbA, hL, hcl⟩ := hLA
  intro k1 k2 ab be bds nos fls wide wd ck n pf sn sf nn nf mn mf u uf ywide ywd yck yn ypf ysn ysf ynn ynf ymn ymf yu yuf zwide zwd zck zn zpf zsn zsf znn znf zmn zmf zu zuf tk tn tok stt en tf dwide dwd dck dn dpf dsn dsf dnn dnf dmn dmf du duf f0 cr td0 fs0 car rea fin ms mab mbe bL tA tL tK tV a kf jf rv sv hf ef tg b vf hR H locs ls hW hl
  have hx := C.1; have hb := C.2.1; have hown := C.2.2.2.1; have ht := C.2.2.2.2.1
  obtain ⟨hV, hI1, hI2, hT, hPR, hCR⟩ := hR
  have hV0 := hV
  obtain ⟨⟨hn, hs, ho, hm, hu⟩, ⟨hWd, hP, hH, hS, hO⟩, ⟨hck, hpa⟩, ⟨e0, e1, e2, e3, e4, e5⟩, ⟨ea, ew, ep⟩, ⟨es, eno, em, eu⟩⟩ := hV
  have hck0 := hck
  obtain ⟨⟨hr, eh, hh⟩, ⟨fh, eh2, hfl⟩, hup01, hg, ⟨k4, ek4, hk4⟩, ⟨d5, ed5, hd5⟩⟩ := hck
  have e8 : a 8 = nI fh := (ea 2 (by decide)).trans eh2
  have e12 : a 12 = nI hr := (ea 6 (by decide)).trans eh
  have e9 : a 9 = ck 3 := ea 3 (by decide)
  have e7 : a 7 = ck 1 := ea 1 (by decide)
  have e6 : a 6 = ck 0 := ea 0 (by decide)
  obtain ⟨htn, hbL, htt⟩ := hT
  subst hbL
  cases hc : (iw (xs (i + 1)) 0 5 && iw (xs (i + 2)) (-4) 4) with
  | false =>
    refine lv_aload_n hx hb dL_law_219 rfl (lv_at hl 1 rfl) ?_
    refine lv_aload_n hx hb dL_law_220 rfl (lv_at hl 0 rfl) ?_
    refine lv_iload_n hx hb dL_law_221 rfl (lv_at hl 3 rfl) ?_
    refine lv_iconst (v := 1) hx hb dL_law_222 (by decide) ?_
    refine lv_iadd hx hb dL_law_223 ?_
    refine lv_as (y := nI (i + 1)) (nI_add i 1) ?_
    refine va_sld hx hb hX hbl hbA hW.2.2 (vp_in_nI (n := i + 1) (by omega) (by omega)) dL_law_224 ?_
    refine lv_as (y := xs (i + 1)) (by rw [nI_clamp (by omega)]) ?_
    refine lv_aload_n hx hb dL_law_225 rfl (lv_at hl 0 rfl) ?_
    refine lv_iload_n hx hb dL_law_226 rfl (lv_at hl 3 rfl) ?_
    refine lv_iconst (v := 2) hx hb dL_law_227 (by decide) ?_
    refine lv_iadd hx hb dL_law_228 ?_
    refine lv_as (y := nI (i + 2)) (nI_add i 2) ?_
    refine va_sld hx hb hX hbl hbA hW.2.2 (vp_in_nI (n := i + 2) (by omega) (by omega)) dL_law_229 ?_
    refine lv_as (y := xs (i + 2)) (by rw [nI_clamp (by omega)]) ?_
    refine g_fiS (ww := fun (u_ : Unit) => [((ad 0), .inr (8, [.ref (ad 1), .ref (ad 14), .ref (ad 27), .int k1, .int k2, .ref (ad 40), .ref (ad 56), .ref (ad 58), .ref (ad 62), .int ab, .int be, .int (bds + 1), .int nos, .int fls]))]) (w2 := fun (u_ : Unit) => LW G ad k1 k2 ab be (bds + 1) nos fls wide wd ck n pf sn sf nn nf mn mf u uf ywide ywd yck yn ypf ysn ysf ynn ynf ymn ymf yu yuf zwide zwd zck zn zpf zsn zsf znn znf zmn zmf zu zuf tk tn tok stt en tf dwide dwd dck dn dpf dsn dsf dnn dnf dmn dmf du duf f0 cr td0 fs0 car rea fin ms mab mbe (nI tn) tA tL tK tV a kf jf rv sv hf ef tg b vf) C hW [0] rfl (fun _ => rfl) (fun _ => rfl) (fun _ => lw_fst.trans lw_fst.symm) (g_runV (As := [.int (xs (i + 1)), .int (xs (i + 2))]) (rest := []) (wc := [((ad 0), .inr (8, [.ref (ad 1), .ref (ad 14), .ref (ad 27), .int k1, .int k2, .ref (ad 40), .ref (ad 56), .ref (ad 58), .ref (ad 62), .int ab, .int be, .int bds, .int nos, .int fls]))]) (q0 := 0) (ci := 8) C hW hl (c_X10_wind_bad l G (ad 1) (ad 0) (ad 14) (ad 27) (ad 40) (ad 56) (ad 58) (ad 62) k1 k2 ab be bds nos fls (xs (i + 1)) (xs (i + 2)) (by exact hc) _) k_ml_L_18 q_X10_wind ⟨⟨rfl, rfl⟩, Nat.le_of_ble_eq_true rfl, Nat.le_of_ble_eq_true rfl⟩ [0] (by decide) rfl rfl rfl rfl rfl (Nat.le_of_ble_eq_true rfl) dL_law_230 ⟨hcl.1, hcl.2⟩) (fun r_1 _ er_1 => ?_)
    clear hW H locs; intro H locs hW
    replace hW : Wd G A_ s_.heap (LW G ad k1 k2 ab be (bds + 1) nos fls wide wd ck n pf sn sf nn nf mn mf u uf ywide ywd yck yn ypf ysn ysf ynn ynf ymn ymf yu yuf zwide zwd zck zn zpf zsn zsf znn znf zmn zmf zu zuf tk tn tok stt en tf dwide dwd dck dn dpf dsn dsf dnn dnf dmn dmf du duf f0 cr td0 fs0 car rea fin ms mab mbe (nI tn) tA tL tK tV a kf jf rv sv hf ef tg b vf) H locs := hW
    refine lv_as (y := (-10)) er_1 ?_
    refine lv_aload_n hx hb dL_law_233 rfl (lv_at hl 2 rfl) ?_
    refine lv_aload_n hx hb dL_law_234 rfl (lv_at hl 0 rfl) ?_
    refine lv_iload_n hx hb dL_law_235 rfl (lv_at hl 3 rfl) ?_
    refine lv_iconst (v := 1) hx hb dL_law_236 (by decide) ?_
    refine lv_iadd hx hb dL_law_237 ?_
    refine lv_as (y := nI (i + 1)) (nI_add i 1) ?_
    refine va_sld hx hb hX hbl hbA hW.2.2 (vp_in_nI (n := i + 1) (by omega) (by omega)) dL_law_238 ?_
    refine lv_as (y := xs (i + 1)) (by rw [nI_clamp (by omega)]) ?_
    refine lv_aload_n hx hb dL_law_239 rfl (lv_at hl 0 rfl) ?_
    refine lv_iload_n hx hb dL_law_240 rfl (lv_at hl 3 rfl) ?_
    refine lv_iconst (v := 2) hx hb dL_law_241 (by decide) ?_
    refine lv_iadd hx hb dL_law_242 ?_
    refine lv_as (y := nI (i + 2)) (nI_add i 2) ?_
    refine va_sld hx hb hX hbl hbA hW.2.2 (vp_in_nI (n := i + 2) (by omega) (by omega)) dL_law_243 ?_
    refine lv_as (y := xs (i + 2)) (by rw [nI_clamp (by omega)]) ?_
    refine g_fiS (ww := fun (u_ : Unit) => [((ad 64), .inr (9, [.ref (ad 65), .ref (ad 66), .ref (ad 67), .ref (ad 68), .long mab, .long mbe, .ref (ad 69), .ref (ad 70), .ref (ad 71), .ref (ad 72), .int (nI tn), .int tA, .int tL, .int tK, .int tV, .ref (ad 73), .ref (ad 74)])), ((ad 68), .inl (G.2.1, 3, .inl (upd rv 0 (rv 0 + 1))))]) (w2 := fun (u_ : Unit) => LW G ad k1 k2 ab be (bds + 1) nos fls wide wd ck n pf sn sf nn nf mn mf u uf ywide ywd yck yn ypf ysn ysf ynn ynf ymn ymf yu yuf zwide zwd zck zn zpf zsn zsf znn znf zmn zmf zu zuf tk tn tok stt en tf dwide dwd dck dn dpf dsn dsf dnn dnf dmn dmf du duf f0 cr td0 fs0 car rea fin ms mab mbe (nI tn) tA tL tK tV a kf jf (upd rv 0 (rv 0 + 1)) sv hf ef tg b vf) C hW [64, 68] rfl (fun _ => rfl) (fun _ => rfl) (fun _ => lw_fst.trans lw_fst.symm) (g_runV (As := [.int (xs (i + 1)), .int (xs (i + 2))]) (rest := [.int (-10)]) (wc := [((ad 64), .inr (9, [.ref (ad 65), .ref (ad 66), .ref (ad 67), .ref (ad 68), .long mab, .long mbe, .ref (ad 69), .ref (ad 70), .ref (ad 71), .ref (ad 72), .int (nI tn), .int tA, .int tL, .int tK, .int tV, .ref (ad 73), .ref (ad 74)])), ((ad 68), .inl (G.2.1, 3, .inl rv))]) (q0 := 0) (ci := 9) C hW hl (c_X11_wind_bad l G (ad 64) (ad 65) (ad 66) (ad 67) (ad 68) (ad 69) (ad 70) (ad 71) (ad 72) (ad 73) (ad 74) mab mbe (nI tn) tA tL tK tV rv (xs (i + 1)) (xs (i + 2)) (by exact hc) _) k_ml_L_22 q_X11_wind ⟨⟨rfl, rfl⟩, Nat.le_of_ble_eq_true rfl, Nat.le_of_ble_eq_true rfl⟩ [64, 68] (by decide) rfl rfl rfl rfl rfl (Nat.le_of_ble_eq_true rfl) dL_law_244 ⟨hcl.1, hcl.2⟩) (fun r_3 _ er_3 => ?_)
    clear hW H locs; intro H locs hW
    replace hW : Wd G A_ s_.heap (LW G ad k1 k2 ab be (bds + 1) nos fls wide wd ck n pf sn sf nn nf mn mf u uf ywide ywd yck yn ypf ysn ysf ynn ynf ymn ymf yu yuf zwide zwd zck zn zpf zsn zsf znn znf zmn zmf zu zuf tk tn tok stt en tf dwide dwd dck dn dpf dsn dsf dnn dnf dmn dmf du duf f0 cr td0 fs0 car rea fin ms mab mbe (nI tn) tA tL tK tV a kf jf (upd rv 0 (rv 0 + 1)) sv hf ef tg b vf) H locs := hW
    refine lv_as (y := (-10)) er_3 ?_
    refine lv_as (y := (-10)) (rfl) ?_
    refine lv_icmp_eq (tgt := 1149) hx hb dL_law_247 (by decide) (fun _ => ?_) (fun c9 => absurd rfl c9)
    exact K k1 k2 ab be (bds + 1) nos fls wide wd ck n pf sn sf nn nf mn mf u uf ywide ywd yck yn ypf ysn ysf ynn ynf ymn ymf yu yuf zwide zwd zck zn zpf zsn zsf znn znf zmn zmf zu zuf tk tn tok stt en tf dwide dwd dck dn dpf dsn dsf dnn dnf dmn dmf du duf f0 cr td0 fs0 car rea fin ms mab mbe (nI tn) tA tL tK tV a kf jf (upd rv 0 (rv 0 + 1)) sv hf ef tg b vf (⟨hV0.mono (by omega), hI1.mono (by omega), hI2.mono (by omega), ⟨htn, rfl, htt⟩, hPR, CR_bad hCR⟩) _ _ _ hW hl
  | true =>
    simp only [Bool.and_eq_true] at hc
    obtain ⟨h9, hh9, eh9⟩ := iw_ex (m := 5) hc.1 (by decide)
    refine lv_aload_n hx hb dL_law_219 rfl (lv_at hl 1 rfl) ?_
    refine lv_aload_n hx hb dL_law_220 rfl (lv_at hl 0 rfl) ?_
    refine lv_iload_n hx hb dL_law_221 rfl (lv_at hl 3 rfl) ?_
    refine lv_iconst (v := 1) hx hb dL_law_222 (by decide) ?_
    refine lv_iadd hx hb dL_law_223 ?_
    refine lv_as (y := nI (i + 1)) (nI_add i 1) ?_
    refine va_sld hx hb hX hbl hbA hW.2.2 (vp_in_nI (n := i + 1) (by omega) (by omega)) dL_law_224 ?_
    refine lv_as (y := nI h9) (by rw [nI_clamp (by omega)]; exact eh9) ?_
    refine lv_aload_n hx hb dL_law_225 rfl (lv_at hl 0 rfl) ?_
    refine lv_iload_n hx hb dL_law_226 rfl (lv_at hl 3 rfl) ?_
    refine lv_iconst (v := 2) hx hb dL_law_227 (by decide) ?_
    refine lv_iadd hx hb dL_law_228 ?_
    refine lv_as (y := nI (i + 2)) (nI_add i 2) ?_
    refine va_sld hx hb hX hbl hbA hW.2.2 (vp_in_nI (n := i + 2) (by omega) (by omega)) dL_law_229 ?_
    refine lv_as (y := xs (i + 2)) (by rw [nI_clamp (by omega)]) ?_
    refine g_fiS (ww := fun (u_ : Unit) => [((ad 0), .inr (8, [.ref (ad 1), .ref (ad 14), .ref (ad 27), .int k1, .int k2, .ref (ad 40), .ref (ad 56), .ref (ad 58), .ref (ad 62), .int ab, .int be, .int bds, .int nos, .int fls])), ((ad 1), .inr (7, [.int wide, .ref (ad 2), .ref (ad 3), .ref (ad 4), .ref (ad 6), .ref (ad 8), .ref (ad 10), .ref (ad 12)])), ((ad 2), .inl (G.2.1, 6, .inl (upd wd (nI h9).toNatClampNeg (xs (i + 2))))), ((ad 12), .inr (1, [.ref (ad 13), .int (nI 0)]))]) (w2 := fun (u_ : Unit) => LW G ad k1 k2 ab be bds nos fls wide (upd wd (nI h9).toNatClampNeg (xs (i + 2))) ck n pf sn sf nn nf mn mf 0 uf ywide ywd yck yn ypf ysn ysf ynn ynf ymn ymf yu yuf zwide zwd zck zn zpf zsn zsf znn znf zmn zmf zu zuf tk tn tok stt en tf dwide dwd dck dn dpf dsn dsf dnn dnf dmn dmf du duf f0 cr td0 fs0 car rea fin ms mab mbe (nI tn) tA tL tK tV a kf jf rv sv hf ef tg b vf) C hW [0, 1, 2, 12] rfl (fun _ => rfl) (fun _ => rfl) (fun _ => lw_fst.trans lw_fst.symm) (g_runV (As := [.int (nI h9), .int (xs (i + 2))]) (rest := []) (wc := [((ad 0), .inr (8, [.ref (ad 1), .ref (ad 14), .ref (ad 27), .int k1, .int k2, .ref (ad 40), .ref (ad 56), .ref (ad 58), .ref (ad 62), .int ab, .int be, .int bds, .int nos, .int fls])), ((ad 1), .inr (7, [.int wide, .ref (ad 2), .ref (ad 3), .ref (ad 4), .ref (ad 6), .ref (ad 8), .ref (ad 10), .ref (ad 12)])), ((ad 2), .inl (G.2.1, 6, .inl wd)), ((ad 12), .inr (1, [.ref (ad 13), .int (nI u)]))]) (q0 := 0) (ci := 8) C hW hl (c_X10_wind_ok l G (ad 1) (ad 2) (ad 3) (ad 4) (ad 6) (ad 8) (ad 10) (ad 12) wide (ad 0) (ad 14) (ad 27) (ad 40) (ad 56) (ad 58) (ad 62) k1 k2 ab be bds nos fls wd (ad 13) u (nI h9) (xs (i + 2)) (by rw [← eh9]; exact hc.1) (by exact hc.2) _) k_ml_L_18 q_X10_wind ⟨⟨rfl, rfl⟩, Nat.le_of_ble_eq_true rfl, Nat.le_of_ble_eq_true rfl⟩ [0, 1, 2, 12] (by decide) rfl rfl rfl rfl rfl (Nat.le_of_ble_eq_true rfl) dL_law_230 ⟨hcl.1, hcl.2⟩) (fun r_1 _ er_1 => ?_)
    clear hW H locs; intro H locs hW
    replace hW : Wd G A_ s_.heap (LW G ad k1 k2 ab be bds nos fls wide (upd wd (nI h9).toNatClampNeg (xs (i + 2))) ck n pf sn sf nn nf mn mf 0 uf ywide ywd yck yn ypf ysn ysf ynn ynf ymn ymf yu yuf zwide zwd zck zn zpf zsn zsf znn znf zmn zmf zu zuf tk tn tok stt en tf dwide dwd dck dn dpf dsn dsf dnn dnf dmn dmf du duf f0 cr td0 fs0 car rea fin ms mab mbe (nI tn) tA tL tK tV a kf jf rv sv hf ef tg b vf) H locs := hW
    refine lv_as (y := wd (nI h9).toNatClampNeg) er_1 ?_
    refine lv_aload_n hx hb dL_law_233 rfl (lv_at hl 2 rfl) ?_
    refine lv_aload_n hx hb dL_law_234 rfl (lv_at hl 0 rfl) ?_
    refine lv_iload_n hx hb dL_law_235 rfl (lv_at hl 3 rfl) ?_
    refine lv_iconst (v := 1) hx hb dL_law_236 (by decide) ?_
    refine lv_iadd hx hb dL_law_237 ?_
    refine lv_as (y := nI (i + 1)) (nI_add i 1) ?_
    refine va_sld hx hb hX hbl hbA hW.2.2 (vp_in_nI (n := i + 1) (by omega) (by omega)) dL_law_238 ?_
    refine lv_as (y := nI h9) (by rw [nI_clamp (by omega)]; exact eh9) ?_
    refine lv_aload_n hx hb dL_law_239 rfl (lv_at hl 0 rfl) ?_
    refine lv_iload_n hx hb dL_law_240 rfl (lv_at hl 3 rfl) ?_
    refine lv_iconst (v := 2) hx hb dL_law_241 (by decide) ?_
    refine lv_iadd hx hb dL_law_242 ?_
    refine lv_as (y := nI (i + 2)) (nI_add i 2) ?_
    refine va_sld hx hb hX hbl hbA hW.2.2 (vp_in_nI (n := i + 2) (by omega) (by omega)) dL_law_243 ?_
    refine lv_as (y := xs (i + 2)) (by rw [nI_clamp (by omega)]) ?_
    refine g_fiS (ww := fun (u_ : Unit) => [((ad 64), .inr (9, [.ref (ad 65), .ref (ad 66), .ref (ad 67), .ref (ad 68), .long mab, .long mbe, .ref (ad 69), .ref (ad 70), .ref (ad 71), .ref (ad 72), .int (nI tn), .int tA, .int tL, .int tK, .int tV, .ref (ad 73), .ref (ad 74)])), ((ad 65), .inl (G.2.1, 159, .inl (upd (upd a (13 + h9) (xs (i + 2))) 4 0)))]) (w2 := fun (u_ : Unit) => LW G ad k1 k2 ab be bds nos fls wide (upd wd (nI h9).toNatClampNeg (xs (i + 2))) ck n pf sn sf nn nf mn mf 0 uf ywide ywd yck yn ypf ysn ysf ynn ynf ymn ymf yu yuf zwide zwd zck zn zpf zsn zsf znn znf zmn zmf zu zuf tk tn tok stt en tf dwide dwd dck dn dpf dsn dsf dnn dnf dmn dmf du duf f0 cr td0 fs0 car rea fin ms mab mbe (nI tn) tA tL tK tV (upd (upd a (13 + h9) (xs (i + 2))) 4 0) kf jf rv sv hf ef tg b vf) C hW [64, 65] rfl (fun _ => rfl) (fun _ => rfl) (fun _ => lw_fst.trans lw_fst.symm) (g_runV (As := [.int (nI h9), .int (xs (i + 2))]) (rest := [.int (wd (nI h9).toNatClampNeg)]) (wc := [((ad 64), .inr (9, [.ref (ad 65), .ref (ad 66), .ref (ad 67), .ref (ad 68), .long mab, .long mbe, .ref (ad 69), .ref (ad 70), .ref (ad 71), .ref (ad 72), .int (nI tn), .int tA, .int tL, .int tK, .int tV, .ref (ad 73), .ref (ad 74)])), ((ad 65), .inl (G.2.1, 159, .inl a))]) (q0 := 0) (ci := 9) C hW hl (c_X11_wind_ok l G (ad 64) (ad 65) (ad 66) (ad 67) (ad 68) (ad 69) (ad 70) (ad 71) (ad 72) (ad 73) (ad 74) mab mbe (nI tn) tA tL tK tV a h9 (xs (i + 2)) (by omega) (by exact hc.2) _) k_ml_L_22 q_X11_wind ⟨⟨rfl, rfl⟩, Nat.le_of_ble_eq_true rfl, Nat.le_of_ble_eq_true rfl⟩ [64, 65] (by decide) rfl rfl rfl rfl rfl (Nat.le_of_ble_eq_true rfl) dL_law_244 ⟨hcl.1, hcl.2⟩) (fun r_3 _ er_3 => ?_)
    clear hW H locs; intro H locs hW
    replace hW : Wd G A_ s_.heap (LW G ad k1 k2 ab be bds nos fls wide (upd wd (nI h9).toNatClampNeg (xs (i + 2))) ck n pf sn sf nn nf mn mf 0 uf ywide ywd yck yn ypf ysn ysf ynn ynf ymn ymf yu yuf zwide zwd zck zn zpf zsn zsf znn znf zmn zmf zu zuf tk tn tok stt en tf dwide dwd dck dn dpf dsn dsf dnn dnf dmn dmf du duf f0 cr td0 fs0 car rea fin ms mab mbe (nI tn) tA tL tK tV (upd (upd a (13 + h9) (xs (i + 2))) 4 0) kf jf rv sv hf ef tg b vf) H locs := hW
    refine lv_as (y := a (13 + h9)) er_3 ?_
    refine lv_as (y := wd (nI h9).toNatClampNeg) (by rw [ew h9 (by omega), nI_clamp (by omega)]) ?_
    refine lv_icmp_eq (tgt := 1149) hx hb dL_law_247 (by decide) (fun _ => ?_) (fun c9 => absurd rfl c9)
    exact K k1 k2 ab be bds nos fls wide (upd wd (nI h9).toNatClampNeg (xs (i + 2))) ck n pf sn sf nn nf mn mf 0 uf ywide ywd yck yn ypf ysn ysf ynn ynf ymn ymf yu yuf zwide zwd zck zn zpf zsn zsf znn znf zmn zmf zu zuf tk tn tok stt en tf dwide dwd dck dn dpf dsn dsf dnn dnf dmn dmf du duf f0 cr td0 fs0 car rea fin ms mab mbe (nI tn) tA tL tK tV (upd (upd a (13 + h9) (xs (i + 2))) 4 0) kf jf rv sv hf ef tg b vf (⟨by rw [nI_clamp (by omega)]; exact (VR_wind hV0 (by omega) hc.2).mono (by omega), hI1.mono (by omega), hI2.mono (by omega), ⟨htn, rfl, htt⟩, hPR, hCR⟩) _ _ _ hW hl
set_option maxHeartbeats 8000000 in
set_option maxRecDepth 100000 in
theorem st_player {p_ : Program} {l : Launch} {e_ : Env} {s_ : State} {m_ : MethodId} {ar_ : Array Value} {be_ : List Frame} {me_ : Method} {cd_ : Code} {cells slots : Nat} {Q : State → Prop} {G : gT} {A_ : Nat → Prop} {ad : Nat → Nat} {bS : Nat} {L i B : Nat} {xs : Nat → Int32} (hLA : LA p_ l e_ s_ m_ ar_ be_ me_ cd_ cells slots Q G A_ ad bS L xs) (hi : i + 4 < L) (hB : B ≤ 300) (K : KK p_ l e_ s_ m_ ar_ be_ me_ cd_ cells slots Q G A_ ad bS i (B + 1) 1149) : KK p_ l e_ s_ m_ ar_ be_ me_ cd_ cells slots Q G A_ ad bS i B 252 := by
  obtain ⟨C, hX, hbl, hbA, hL, hcl⟩ := hLA
  intro k1 k2 ab be bds nos fls wide wd ck n pf sn sf nn nf mn mf u uf ywide ywd yck yn ypf ysn ysf ynn ynf ymn ymf yu yuf zwide zwd zck zn zpf zsn zsf znn znf zmn zmf zu zuf tk tn tok stt en tf dwide dwd dck dn dpf dsn dsf dnn dnf dmn dmf du duf f0 cr td0 fs0 car rea fin ms mab mbe bL tA tL tK tV a kf jf rv sv hf ef tg b vf hR H locs ls hW hl
  have hx := C.1; have hb := C.2.1; have hown := C.2.2.2.1; have ht := C.2.2.2.2.1
  obtain ⟨hV, hI1, hI2, hT, hPR, hCR⟩ := hR
  have hV0 := hV
  obtain ⟨⟨hn, hs, ho, hm, hu⟩, ⟨hWd, hP, hH, hS, hO⟩, ⟨hck, hpa⟩, ⟨e0, e1, e2, e3, e4, e5⟩, ⟨ea, ew, ep⟩, ⟨es, eno, em, eu⟩⟩ := hV
  have hck0 := hck
  obtain ⟨⟨hr, eh, hh⟩, ⟨fh, eh2, hfl⟩, hup01, hg, ⟨k4, ek4, hk4⟩, ⟨d5, ed5, hd5⟩⟩ := hck
  have e8 : a 8 = nI fh := (ea 2 (by decide)).trans eh2
  have e12 : a 12 = nI hr := (ea 6 (by decide)).trans eh
  have e9 : a 9 = ck 3 := ea 3 (by decide)
  have e7 : a 7 = ck 1 := ea 1 (by decide)
  have e6 : a 6 = ck 0 := ea 0 (by decide)
  obtain ⟨htn, hbL, htt⟩ := hT
  subst hbL
  cases hc : (iw (xs (i + 1)) 0 5 && (iw (xs (i + 2)) 0 1 && iw (xs (i + 3)) 1 9)) with
  | false =>
    refine lv_aload_n hx hb dL_law_252 rfl (lv_at hl 1 rfl) ?_
    refine lv_aload_n hx hb dL_law_253 rfl (lv_at hl 0 rfl) ?_
    refine lv_iload_n hx hb dL_law_254 rfl (lv_at hl 3 rfl) ?_
    refine lv_iconst (v := 1) hx hb dL_law_255 (by decide) ?_
    refine lv_iadd hx hb dL_law_256 ?_
    refine lv_as (y := nI (i + 1)) (nI_add i 1) ?_
    refine va_sld hx hb hX hbl hbA hW.2.2 (vp_in_nI (n := i + 1) (by omega) (by omega)) dL_law_257 ?_
    refine lv_as (y := xs (i + 1)) (by rw [nI_clamp (by omega)]) ?_
    refine lv_aload_n hx hb dL_law_258 rfl (lv_at hl 0 rfl) ?_
    refine lv_iload_n hx hb dL_law_259 rfl (lv_at hl 3 rfl) ?_
    refine lv_iconst (v := 2) hx hb dL_law_260 (by decide) ?_
    refine lv_iadd hx hb dL_law_261 ?_
    refine lv_as (y := nI (i + 2)) (nI_add i 2) ?_
    refine va_sld hx hb hX hbl hbA hW.2.2 (vp_in_nI (n := i + 2) (by omega) (by omega)) dL_law_262 ?_
    refine lv_as (y := xs (i + 2)) (by rw [nI_clamp (by omega)]) ?_
    refine lv_aload_n hx hb dL_law_263 rfl (lv_at hl 0 rfl) ?_
    refine lv_iload_n hx hb dL_law_264 rfl (lv_at hl 3 rfl) ?_
    refine lv_iconst (v := 3) hx hb dL_law_265 (by decide) ?_
    refine lv_iadd hx hb dL_law_266 ?_
    refine lv_as (y := nI (i + 3)) (nI_add i 3) ?_
    refine va_sld hx hb hX hbl hbA hW.2.2 (vp_in_nI (n := i + 3) (by omega) (by omega)) dL_law_267 ?_
    refine lv_as (y := xs (i + 3)) (by rw [nI_clamp (by omega)]) ?_
    refine g_fiS (ww := fun (u_ : Unit) => [((ad 0), .inr (8, [.ref (ad 1), .ref (ad 14), .ref (ad 27), .int k1, .int k2, .ref (ad 40), .ref (ad 56), .ref (ad 58), .ref (ad 62), .int ab, .int be, .int (bds + 1), .int nos, .int fls]))]) (w2 := fun (u_ : Unit) => LW G ad k1 k2 ab be (bds + 1) nos fls wide wd ck n pf sn sf nn nf mn mf u uf ywide ywd yck yn ypf ysn ysf ynn ynf ymn ymf yu yuf zwide zwd zck zn zpf zsn zsf znn znf zmn zmf zu zuf tk tn tok stt en tf dwide dwd dck dn dpf dsn dsf dnn dnf dmn dmf du duf f0 cr td0 fs0 car rea fin ms mab mbe (nI tn) tA tL tK tV a kf jf rv sv hf ef tg b vf) C hW [0] rfl (fun _ => rfl) (fun _ => rfl) (fun _ => lw_fst.trans lw_fst.symm) (g_runV (As := [.int (xs (i + 1)), .int (xs (i + 2)), .int (xs (i + 3))]) (rest := []) (wc := [((ad 0), .inr (8, [.ref (ad 1), .ref (ad 14), .ref (ad 27), .int k1, .int k2, .ref (ad 40), .ref (ad 56), .ref (ad 58), .ref (ad 62), .int ab, .int be, .int bds, .int nos, .int fls]))]) (q0 := 0) (ci := 8) C hW hl (c_X10_player_bad l G (ad 1) (ad 0) (ad 14) (ad 27) (ad 40) (ad 56) (ad 58) (ad 62) k1 k2 ab be bds nos fls (xs (i + 1)) (xs (i + 2)) (xs (i + 3)) (by exact hc) _) k_ml_L_23 q_X10_player ⟨⟨rfl, rfl⟩, Nat.le_of_ble_eq_true rfl, Nat.le_of_ble_eq_true rfl⟩ [0] (by decide) rfl rfl rfl rfl rfl (Nat.le_of_ble_eq_true rfl) dL_law_268 ⟨hcl.1, hcl.2⟩) (fun r_1 _ er_1 => ?_)
    clear hW H locs; intro H locs hW
    replace hW : Wd G A_ s_.heap (LW G ad k1 k2 ab be (bds + 1) nos fls wide wd ck n pf sn sf nn nf mn mf u uf ywide ywd yck yn ypf ysn ysf ynn ynf ymn ymf yu yuf zwide zwd zck zn zpf zsn zsf znn znf zmn zmf zu zuf tk tn tok stt en tf dwide dwd dck dn dpf dsn dsf dnn dnf dmn dmf du duf f0 cr td0 fs0 car rea fin ms mab mbe (nI tn) tA tL tK tV a kf jf rv sv hf ef tg b vf) H locs := hW
    refine lv_as (y := (-2)) er_1 ?_
    refine lv_aload_n hx hb dL_law_271 rfl (lv_at hl 2 rfl) ?_
    refine lv_aload_n hx hb dL_law_272 rfl (lv_at hl 0 rfl) ?_
    refine lv_iload_n hx hb dL_law_273 rfl (lv_at hl 3 rfl) ?_
    refine lv_iconst (v := 1) hx hb dL_law_274 (by decide) ?_
    refine lv_iadd hx hb dL_law_275 ?_
    refine lv_as (y := nI (i + 1)) (nI_add i 1) ?_
    refine va_sld hx hb hX hbl hbA hW.2.2 (vp_in_nI (n := i + 1) (by omega) (by omega)) dL_law_276 ?_
    refine lv_as (y := xs (i + 1)) (by rw [nI_clamp (by omega)]) ?_
    refine lv_aload_n hx hb dL_law_277 rfl (lv_at hl 0 rfl) ?_
    refine lv_iload_n hx hb dL_law_278 rfl (lv_at hl 3 rfl) ?_
    refine lv_iconst (v := 2) hx hb dL_law_279 (by decide) ?_
    refine lv_iadd hx hb dL_law_280 ?_
    refine lv_as (y := nI (i + 2)) (nI_add i 2) ?_
    refine va_sld hx hb hX hbl hbA hW.2.2 (vp_in_nI (n := i + 2) (by omega) (by omega)) dL_law_281 ?_
    refine lv_as (y := xs (i + 2)) (by rw [nI_clamp (by omega)]) ?_
    refine lv_aload_n hx hb dL_law_282 rfl (lv_at hl 0 rfl) ?_
    refine lv_iload_n hx hb dL_law_283 rfl (lv_at hl 3 rfl) ?_
    refine lv_iconst (v := 3) hx hb dL_law_284 (by decide) ?_
    refine lv_iadd hx hb dL_law_285 ?_
    refine lv_as (y := nI (i + 3)) (nI_add i 3) ?_
    refine va_sld hx hb hX hbl hbA hW.2.2 (vp_in_nI (n := i + 3) (by omega) (by omega)) dL_law_286 ?_
    refine lv_as (y := xs (i + 3)) (by rw [nI_clamp (by omega)]) ?_
    refine g_fiS (ww := fun (u_ : Unit) => [((ad 64), .inr (9, [.ref (ad 65), .ref (ad 66), .ref (ad 67), .ref (ad 68), .long mab, .long mbe, .ref (ad 69), .ref (ad 70), .ref (ad 71), .ref (ad 72), .int (nI tn), .int tA, .int tL, .int tK, .int tV, .ref (ad 73), .ref (ad 74)])), ((ad 68), .inl (G.2.1, 3, .inl (upd rv 0 (rv 0 + 1))))]) (w2 := fun (u_ : Unit) => LW G ad k1 k2 ab be (bds + 1) nos fls wide wd ck n pf sn sf nn nf mn mf u uf ywide ywd yck yn ypf ysn ysf ynn ynf ymn ymf yu yuf zwide zwd zck zn zpf zsn zsf znn znf zmn zmf zu zuf tk tn tok stt en tf dwide dwd dck dn dpf dsn dsf dnn dnf dmn dmf du duf f0 cr td0 fs0 car rea fin ms mab mbe (nI tn) tA tL tK tV a kf jf (upd rv 0 (rv 0 + 1)) sv hf ef tg b vf) C hW [64, 68] rfl (fun _ => rfl) (fun _ => rfl) (fun _ => lw_fst.trans lw_fst.symm) (g_runV (As := [.int (xs (i + 1)), .int (xs (i + 2)), .int (xs (i + 3))]) (rest := [.int (-2)]) (wc := [((ad 64), .inr (9, [.ref (ad 65), .ref (ad 66), .ref (ad 67), .ref (ad 68), .long mab, .long mbe, .ref (ad 69), .ref (ad 70), .ref (ad 71), .ref (ad 72), .int (nI tn), .int tA, .int tL, .int tK, .int tV, .ref (ad 73), .ref (ad 74)])), ((ad 68), .inl (G.2.1, 3, .inl rv))]) (q0 := 0) (ci := 9) C hW hl (c_X11_player_bad l G (ad 64) (ad 65) (ad 66) (ad 67) (ad 68) (ad 69) (ad 70) (ad 71) (ad 72) (ad 73) (ad 74) mab mbe (nI tn) tA tL tK tV rv (xs (i + 1)) (xs (i + 2)) (xs (i + 3)) (by exact hc) _) k_ml_L_27 q_X11_player ⟨⟨rfl, rfl⟩, Nat.le_of_ble_eq_true rfl, Nat.le_of_ble_eq_true rfl⟩ [64, 68] (by decide) rfl rfl rfl rfl rfl (Nat.le_of_ble_eq_true rfl) dL_law_287 ⟨hcl.1, hcl.2⟩) (fun r_3 _ er_3 => ?_)
    clear hW H locs; intro H locs hW
    replace hW : Wd G A_ s_.heap (LW G ad k1 k2 ab be (bds + 1) nos fls wide wd ck n pf sn sf nn nf mn mf u uf ywide ywd yck yn ypf ysn ysf ynn ynf ymn ymf yu yuf zwide zwd zck zn zpf zsn zsf znn znf zmn zmf zu zuf tk tn tok stt en tf dwide dwd dck dn dpf dsn dsf dnn dnf dmn dmf du duf f0 cr td0 fs0 car rea fin ms mab mbe (nI tn) tA tL tK tV a kf jf (upd rv 0 (rv 0 + 1)) sv hf ef tg b vf) H locs := hW
    refine lv_as (y := (-2)) er_3 ?_
    refine lv_as (y := (-2)) (rfl) ?_
    refine lv_icmp_eq (tgt := 1149) hx hb dL_law_290 (by decide) (fun _ => ?_) (fun c9 => absurd rfl c9)
    exact K k1 k2 ab be (bds + 1) nos fls wide wd ck n pf sn sf nn nf mn mf u uf ywide ywd yck yn ypf ysn ysf ynn ynf ymn ymf yu yuf zwide zwd zck zn zpf zsn zsf znn znf zmn zmf zu zuf tk tn tok stt en tf dwide dwd dck dn dpf dsn dsf dnn dnf dmn dmf du duf f0 cr td0 fs0 car rea fin ms mab mbe (nI tn) tA tL tK tV a kf jf (upd rv 0 (rv 0 + 1)) sv hf ef tg b vf (⟨hV0.mono (by omega), hI1.mono (by omega), hI2.mono (by omega), ⟨htn, rfl, htt⟩, hPR, CR_bad hCR⟩) _ _ _ hW hl
  | true =>
    simp only [Bool.and_eq_true] at hc
    rcases Nat.lt_or_ge n 7 with hn7 | hn7
    · refine lv_aload_n hx hb dL_law_252 rfl (lv_at hl 1 rfl) ?_
      refine lv_aload_n hx hb dL_law_253 rfl (lv_at hl 0 rfl) ?_
      refine lv_iload_n hx hb dL_law_254 rfl (lv_at hl 3 rfl) ?_
      refine lv_iconst (v := 1) hx hb dL_law_255 (by decide) ?_
      refine lv_iadd hx hb dL_law_256 ?_
      refine lv_as (y := nI (i + 1)) (nI_add i 1) ?_
      refine va_sld hx hb hX hbl hbA hW.2.2 (vp_in_nI (n := i + 1) (by omega) (by omega)) dL_law_257 ?_
      refine lv_as (y := xs (i + 1)) (by rw [nI_clamp (by omega)]) ?_
      refine lv_aload_n hx hb dL_law_258 rfl (lv_at hl 0 rfl) ?_
      refine lv_iload_n hx hb dL_law_259 rfl (lv_at hl 3 rfl) ?_
      refine lv_iconst (v := 2) hx hb dL_law_260 (by decide) ?_
      refine lv_iadd hx hb dL_law_261 ?_
      refine lv_as (y := nI (i + 2)) (nI_add i 2) ?_
      refine va_sld hx hb hX hbl hbA hW.2.2 (vp_in_nI (n := i + 2) (by omega) (by omega)) dL_law_262 ?_
      refine lv_as (y := xs (i + 2)) (by rw [nI_clamp (by omega)]) ?_
      refine lv_aload_n hx hb dL_law_263 rfl (lv_at hl 0 rfl) ?_
      refine lv_iload_n hx hb dL_law_264 rfl (lv_at hl 3 rfl) ?_
      refine lv_iconst (v := 3) hx hb dL_law_265 (by decide) ?_
      refine lv_iadd hx hb dL_law_266 ?_
      refine lv_as (y := nI (i + 3)) (nI_add i 3) ?_
      refine va_sld hx hb hX hbl hbA hW.2.2 (vp_in_nI (n := i + 3) (by omega) (by omega)) dL_law_267 ?_
      refine lv_as (y := xs (i + 3)) (by rw [nI_clamp (by omega)]) ?_
      refine g_fiS (ww := fun (u_ : Unit) => [((ad 0), .inr (8, [.ref (ad 1), .ref (ad 14), .ref (ad 27), .int k1, .int k2, .ref (ad 40), .ref (ad 56), .ref (ad 58), .ref (ad 62), .int ab, .int be, .int bds, .int nos, .int fls])), ((ad 1), .inr (7, [.int wide, .ref (ad 2), .ref (ad 3), .ref (ad 4), .ref (ad 6), .ref (ad 8), .ref (ad 10), .ref (ad 12)])), ((ad 4), .inr (4, [.int 7, .int 3, .ref (ad 5), .int (nI (n + 1))])), ((ad 5), .inl (G.2.1, 21, .inl (upd (upd (upd pf (n * 3 + 0) (xs (i + 1))) (n * 3 + 1) (xs (i + 2))) (n * 3 + 2) (xs (i + 3))))), ((ad 12), .inr (1, [.ref (ad 13), .int (nI 0)]))]) (w2 := fun (u_ : Unit) => LW G ad k1 k2 ab be bds nos fls wide wd ck (n + 1) (upd (upd (upd pf (n * 3 + 0) (xs (i + 1))) (n * 3 + 1) (xs (i + 2))) (n * 3 + 2) (xs (i + 3))) sn sf nn nf mn mf 0 uf ywide ywd yck yn ypf ysn ysf ynn ynf ymn ymf yu yuf zwide zwd zck zn zpf zsn zsf znn znf zmn zmf zu zuf tk tn tok stt en tf dwide dwd dck dn dpf dsn dsf dnn dnf dmn dmf du duf f0 cr td0 fs0 car rea fin ms mab mbe (nI tn) tA tL tK tV a kf jf rv sv hf ef tg b vf) C hW [0, 1, 4, 5, 12] rfl (fun _ => rfl) (fun _ => rfl) (fun _ => lw_fst.trans lw_fst.symm) (g_runV (As := [.int (xs (i + 1)), .int (xs (i + 2)), .int (xs (i + 3))]) (rest := []) (wc := [((ad 0), .inr (8, [.ref (ad 1), .ref (ad 14), .ref (ad 27), .int k1, .int k2, .ref (ad 40), .ref (ad 56), .ref (ad 58), .ref (ad 62), .int ab, .int be, .int bds, .int nos, .int fls])), ((ad 1), .inr (7, [.int wide, .ref (ad 2), .ref (ad 3), .ref (ad 4), .ref (ad 6), .ref (ad 8), .ref (ad 10), .ref (ad 12)])), ((ad 4), .inr (4, [.int 7, .int 3, .ref (ad 5), .int (nI n)])), ((ad 5), .inl (G.2.1, 21, .inl pf)), ((ad 12), .inr (1, [.ref (ad 13), .int (nI u)]))]) (q0 := 0) (ci := 8) C hW hl (c_X10_player_ok l G (ad 1) (ad 2) (ad 3) (ad 4) (ad 6) (ad 8) (ad 10) (ad 12) wide (ad 0) (ad 14) (ad 27) (ad 40) (ad 56) (ad 58) (ad 62) k1 k2 ab be bds nos fls (ad 5) n pf (ad 13) u (xs (i + 1)) (xs (i + 2)) (xs (i + 3)) (by exact hc.1) (by exact hc.2.1) (by exact hc.2.2) (by omega) _) k_ml_L_23 q_X10_player ⟨⟨rfl, rfl⟩, Nat.le_of_ble_eq_true rfl, Nat.le_of_ble_eq_true rfl⟩ [0, 1, 4, 5, 12] (by decide) rfl rfl rfl rfl rfl (Nat.le_of_ble_eq_true rfl) dL_law_268 ⟨hcl.1, hcl.2⟩) (fun r_1 _ er_1 => ?_)
      clear hW H locs; intro H locs hW
      replace hW : Wd G A_ s_.heap (LW G ad k1 k2 ab be bds nos fls wide wd ck (n + 1) (upd (upd (upd pf (n * 3 + 0) (xs (i + 1))) (n * 3 + 1) (xs (i + 2))) (n * 3 + 2) (xs (i + 3))) sn sf nn nf mn mf 0 uf ywide ywd yck yn ypf ysn ysf ynn ynf ymn ymf yu yuf zwide zwd zck zn zpf zsn zsf znn znf zmn zmf zu zuf tk tn tok stt en tf dwide dwd dck dn dpf dsn dsf dnn dnf dmn dmf du duf f0 cr td0 fs0 car rea fin ms mab mbe (nI tn) tA tL tK tV a kf jf rv sv hf ef tg b vf) H locs := hW
      refine lv_as (y := nI n) er_1 ?_
      refine lv_aload_n hx hb dL_law_271 rfl (lv_at hl 2 rfl) ?_
      refine lv_aload_n hx hb dL_law_272 rfl (lv_at hl 0 rfl) ?_
      refine lv_iload_n hx hb dL_law_273 rfl (lv_at hl 3 rfl) ?_
      refine lv_iconst (v := 1) hx hb dL_law_274 (by decide) ?_
      refine lv_iadd hx hb dL_law_275 ?_
      refine lv_as (y := nI (i + 1)) (nI_add i 1) ?_
      refine va_sld hx hb hX hbl hbA hW.2.2 (vp_in_nI (n := i + 1) (by omega) (by omega)) dL_law_276 ?_
      refine lv_as (y := xs (i + 1)) (by rw [nI_clamp (by omega)]) ?_
      refine lv_aload_n hx hb dL_law_277 rfl (lv_at hl 0 rfl) ?_
      refine lv_iload_n hx hb dL_law_278 rfl (lv_at hl 3 rfl) ?_
      refine lv_iconst (v := 2) hx hb dL_law_279 (by decide) ?_
      refine lv_iadd hx hb dL_law_280 ?_
      refine lv_as (y := nI (i + 2)) (nI_add i 2) ?_
      refine va_sld hx hb hX hbl hbA hW.2.2 (vp_in_nI (n := i + 2) (by omega) (by omega)) dL_law_281 ?_
      refine lv_as (y := xs (i + 2)) (by rw [nI_clamp (by omega)]) ?_
      refine lv_aload_n hx hb dL_law_282 rfl (lv_at hl 0 rfl) ?_
      refine lv_iload_n hx hb dL_law_283 rfl (lv_at hl 3 rfl) ?_
      refine lv_iconst (v := 3) hx hb dL_law_284 (by decide) ?_
      refine lv_iadd hx hb dL_law_285 ?_
      refine lv_as (y := nI (i + 3)) (nI_add i 3) ?_
      refine va_sld hx hb hX hbl hbA hW.2.2 (vp_in_nI (n := i + 3) (by omega) (by omega)) dL_law_286 ?_
      refine lv_as (y := xs (i + 3)) (by rw [nI_clamp (by omega)]) ?_
      refine g_fiS (ww := fun (u_ : Unit) => [((ad 64), .inr (9, [.ref (ad 65), .ref (ad 66), .ref (ad 67), .ref (ad 68), .long mab, .long mbe, .ref (ad 69), .ref (ad 70), .ref (ad 71), .ref (ad 72), .int (nI tn), .int tA, .int tL, .int tK, .int tV, .ref (ad 73), .ref (ad 74)])), ((ad 65), .inl (G.2.1, 159, .inl (upd (upd (upd (upd (upd a (19 + n) (xs (i + 1))) (26 + n) (xs (i + 2))) (33 + n) (xs (i + 3))) 0 (nI (n + 1))) 4 0)))]) (w2 := fun (u_ : Unit) => LW G ad k1 k2 ab be bds nos fls wide wd ck (n + 1) (upd (upd (upd pf (n * 3 + 0) (xs (i + 1))) (n * 3 + 1) (xs (i + 2))) (n * 3 + 2) (xs (i + 3))) sn sf nn nf mn mf 0 uf ywide ywd yck yn ypf ysn ysf ynn ynf ymn ymf yu yuf zwide zwd zck zn zpf zsn zsf znn znf zmn zmf zu zuf tk tn tok stt en tf dwide dwd dck dn dpf dsn dsf dnn dnf dmn dmf du duf f0 cr td0 fs0 car rea fin ms mab mbe (nI tn) tA tL tK tV (upd (upd (upd (upd (upd a (19 + n) (xs (i + 1))) (26 + n) (xs (i + 2))) (33 + n) (xs (i + 3))) 0 (nI (n + 1))) 4 0) kf jf rv sv hf ef tg b vf) C hW [64, 65] rfl (fun _ => rfl) (fun _ => rfl) (fun _ => lw_fst.trans lw_fst.symm) (g_runV (As := [.int (xs (i + 1)), .int (xs (i + 2)), .int (xs (i + 3))]) (rest := [.int (nI n)]) (wc := [((ad 64), .inr (9, [.ref (ad 65), .ref (ad 66), .ref (ad 67), .ref (ad 68), .long mab, .long mbe, .ref (ad 69), .ref (ad 70), .ref (ad 71), .ref (ad 72), .int (nI tn), .int tA, .int tL, .int tK, .int tV, .ref (ad 73), .ref (ad 74)])), ((ad 65), .inl (G.2.1, 159, .inl a))]) (q0 := 0) (ci := 9) C hW hl (c_X11_player_ok l G (ad 64) (ad 65) (ad 66) (ad 67) (ad 68) (ad 69) (ad 70) (ad 71) (ad 72) (ad 73) (ad 74) mab mbe (nI tn) tA tL tK tV a n (xs (i + 1)) (xs (i + 2)) (xs (i + 3)) (by exact hc.1) (by exact hc.2.1) (by exact hc.2.2) (by first | assumption | omega) (by omega) _) k_ml_L_27 q_X11_player ⟨⟨rfl, rfl⟩, Nat.le_of_ble_eq_true rfl, Nat.le_of_ble_eq_true rfl⟩ [64, 65] (by decide) rfl rfl rfl rfl rfl (Nat.le_of_ble_eq_true rfl) dL_law_287 ⟨hcl.1, hcl.2⟩) (fun r_3 _ er_3 => ?_)
      clear hW H locs; intro H locs hW
      replace hW : Wd G A_ s_.heap (LW G ad k1 k2 ab be bds nos fls wide wd ck (n + 1) (upd (upd (upd pf (n * 3 + 0) (xs (i + 1))) (n * 3 + 1) (xs (i + 2))) (n * 3 + 2) (xs (i + 3))) sn sf nn nf mn mf 0 uf ywide ywd yck yn ypf ysn ysf ynn ynf ymn ymf yu yuf zwide zwd zck zn zpf zsn zsf znn znf zmn zmf zu zuf tk tn tok stt en tf dwide dwd dck dn dpf dsn dsf dnn dnf dmn dmf du duf f0 cr td0 fs0 car rea fin ms mab mbe (nI tn) tA tL tK tV (upd (upd (upd (upd (upd a (19 + n) (xs (i + 1))) (26 + n) (xs (i + 2))) (33 + n) (xs (i + 3))) 0 (nI (n + 1))) 4 0) kf jf rv sv hf ef tg b vf) H locs := hW
      refine lv_as (y := nI n) er_3 ?_
      refine lv_as (y := nI n) (rfl) ?_
      refine lv_icmp_eq (tgt := 1149) hx hb dL_law_290 (by decide) (fun _ => ?_) (fun c9 => absurd rfl c9)
      exact K k1 k2 ab be bds nos fls wide wd ck (n + 1) (upd (upd (upd pf (n * 3 + 0) (xs (i + 1))) (n * 3 + 1) (xs (i + 2))) (n * 3 + 2) (xs (i + 3))) sn sf nn nf mn mf 0 uf ywide ywd yck yn ypf ysn ysf ynn ynf ymn ymf yu yuf zwide zwd zck zn zpf zsn zsf znn znf zmn zmf zu zuf tk tn tok stt en tf dwide dwd dck dn dpf dsn dsf dnn dnf dmn dmf du duf f0 cr td0 fs0 car rea fin ms mab mbe (nI tn) tA tL tK tV (upd (upd (upd (upd (upd a (19 + n) (xs (i + 1))) (26 + n) (xs (i + 2))) (33 + n) (xs (i + 3))) 0 (nI (n + 1))) 4 0) kf jf rv sv hf ef tg b vf (⟨(VR_player hV0 (by omega) hc.2.1 hc.2.2).mono (by omega), hI1.mono (by omega), hI2.mono (by omega), ⟨htn, rfl, htt⟩, hPR, hCR⟩) _ _ _ hW hl
    · refine lv_aload_n hx hb dL_law_252 rfl (lv_at hl 1 rfl) ?_
      refine lv_aload_n hx hb dL_law_253 rfl (lv_at hl 0 rfl) ?_
      refine lv_iload_n hx hb dL_law_254 rfl (lv_at hl 3 rfl) ?_
      refine lv_iconst (v := 1) hx hb dL_law_255 (by decide) ?_
      refine lv_iadd hx hb dL_law_256 ?_
      refine lv_as (y := nI (i + 1)) (nI_add i 1) ?_
      refine va_sld hx hb hX hbl hbA hW.2.2 (vp_in_nI (n := i + 1) (by omega) (by omega)) dL_law_257 ?_
      refine lv_as (y := xs (i + 1)) (by rw [nI_clamp (by omega)]) ?_
      refine lv_aload_n hx hb dL_law_258 rfl (lv_at hl 0 rfl) ?_
      refine lv_iload_n hx hb dL_law_259 rfl (lv_at hl 3 rfl) ?_
      refine lv_iconst (v := 2) hx hb dL_law_260 (by decide) ?_
      refine lv_iadd hx hb dL_law_261 ?_
      refine lv_as (y := nI (i + 2)) (nI_add i 2) ?_
      refine va_sld hx hb hX hbl hbA hW.2.2 (vp_in_nI (n := i + 2) (by omega) (by omega)) dL_law_262 ?_
      refine lv_as (y := xs (i + 2)) (by rw [nI_clamp (by omega)]) ?_
      refine lv_aload_n hx hb dL_law_263 rfl (lv_at hl 0 rfl) ?_
      refine lv_iload_n hx hb dL_law_264 rfl (lv_at hl 3 rfl) ?_
      refine lv_iconst (v := 3) hx hb dL_law_265 (by decide) ?_
      refine lv_iadd hx hb dL_law_266 ?_
      refine lv_as (y := nI (i + 3)) (nI_add i 3) ?_
      refine va_sld hx hb hX hbl hbA hW.2.2 (vp_in_nI (n := i + 3) (by omega) (by omega)) dL_law_267 ?_
      refine lv_as (y := xs (i + 3)) (by rw [nI_clamp (by omega)]) ?_
      refine g_fiS (ww := fun (u_ : Unit) => [((ad 0), .inr (8, [.ref (ad 1), .ref (ad 14), .ref (ad 27), .int k1, .int k2, .ref (ad 40), .ref (ad 56), .ref (ad 58), .ref (ad 62), .int ab, .int be, .int bds, .int nos, .int (fls + 1)])), ((ad 1), .inr (7, [.int wide, .ref (ad 2), .ref (ad 3), .ref (ad 4), .ref (ad 6), .ref (ad 8), .ref (ad 10), .ref (ad 12)])), ((ad 4), .inr (4, [.int 7, .int 3, .ref (ad 5), .int (nI n)]))]) (w2 := fun (u_ : Unit) => LW G ad k1 k2 ab be bds nos (fls + 1) wide wd ck n pf sn sf nn nf mn mf u uf ywide ywd yck yn ypf ysn ysf ynn ynf ymn ymf yu yuf zwide zwd zck zn zpf zsn zsf znn znf zmn zmf zu zuf tk tn tok stt en tf dwide dwd dck dn dpf dsn dsf dnn dnf dmn dmf du duf f0 cr td0 fs0 car rea fin ms mab mbe (nI tn) tA tL tK tV a kf jf rv sv hf ef tg b vf) C hW [0, 1, 4] rfl (fun _ => rfl) (fun _ => rfl) (fun _ => lw_fst.trans lw_fst.symm) (g_runV (As := [.int (xs (i + 1)), .int (xs (i + 2)), .int (xs (i + 3))]) (rest := []) (wc := [((ad 0), .inr (8, [.ref (ad 1), .ref (ad 14), .ref (ad 27), .int k1, .int k2, .ref (ad 40), .ref (ad 56), .ref (ad 58), .ref (ad 62), .int ab, .int be, .int bds, .int nos, .int fls])), ((ad 1), .inr (7, [.int wide, .ref (ad 2), .ref (ad 3), .ref (ad 4), .ref (ad 6), .ref (ad 8), .ref (ad 10), .ref (ad 12)])), ((ad 4), .inr (4, [.int 7, .int 3, .ref (ad 5), .int (nI n)]))]) (q0 := 0) (ci := 8) C hW hl (c_X10_player_full l G (ad 1) (ad 2) (ad 3) (ad 4) (ad 6) (ad 8) (ad 10) (ad 12) wide (ad 0) (ad 14) (ad 27) (ad 40) (ad 56) (ad 58) (ad 62) k1 k2 ab be bds nos fls (ad 5) n (xs (i + 1)) (xs (i + 2)) (xs (i + 3)) (by exact hc.1) (by exact hc.2.1) (by exact hc.2.2) (by omega) _) k_ml_L_23 q_X10_player ⟨⟨rfl, rfl⟩, Nat.le_of_ble_eq_true rfl, Nat.le_of_ble_eq_true rfl⟩ [0, 1, 4] (by decide) rfl rfl rfl rfl rfl (Nat.le_of_ble_eq_true rfl) dL_law_268 ⟨hcl.1, hcl.2⟩) (fun r_1 _ er_1 => ?_)
      clear hW H locs; intro H locs hW
      replace hW : Wd G A_ s_.heap (LW G ad k1 k2 ab be bds nos (fls + 1) wide wd ck n pf sn sf nn nf mn mf u uf ywide ywd yck yn ypf ysn ysf ynn ynf ymn ymf yu yuf zwide zwd zck zn zpf zsn zsf znn znf zmn zmf zu zuf tk tn tok stt en tf dwide dwd dck dn dpf dsn dsf dnn dnf dmn dmf du duf f0 cr td0 fs0 car rea fin ms mab mbe (nI tn) tA tL tK tV a kf jf rv sv hf ef tg b vf) H locs := hW
      refine lv_as (y := (-4)) er_1 ?_
      refine lv_aload_n hx hb dL_law_271 rfl (lv_at hl 2 rfl) ?_
      refine lv_aload_n hx hb dL_law_272 rfl (lv_at hl 0 rfl) ?_
      refine lv_iload_n hx hb dL_law_273 rfl (lv_at hl 3 rfl) ?_
      refine lv_iconst (v := 1) hx hb dL_law_274 (by decide) ?_
      refine lv_iadd hx hb dL_law_275 ?_
      refine lv_as (y := nI (i + 1)) (nI_add i 1) ?_
      refine va_sld hx hb hX hbl hbA hW.2.2 (vp_in_nI (n := i + 1) (by omega) (by omega)) dL_law_276 ?_
      refine lv_as (y := xs (i + 1)) (by rw [nI_clamp (by omega)]) ?_
      refine lv_aload_n hx hb dL_law_277 rfl (lv_at hl 0 rfl) ?_
      refine lv_iload_n hx hb dL_law_278 rfl (lv_at hl 3 rfl) ?_
      refine lv_iconst (v := 2) hx hb dL_law_279 (by decide) ?_
      refine lv_iadd hx hb dL_law_280 ?_
      refine lv_as (y := nI (i + 2)) (nI_add i 2) ?_
      refine va_sld hx hb hX hbl hbA hW.2.2 (vp_in_nI (n := i + 2) (by omega) (by omega)) dL_law_281 ?_
      refine lv_as (y := xs (i + 2)) (by rw [nI_clamp (by omega)]) ?_
      refine lv_aload_n hx hb dL_law_282 rfl (lv_at hl 0 rfl) ?_
      refine lv_iload_n hx hb dL_law_283 rfl (lv_at hl 3 rfl) ?_
      refine lv_iconst (v := 3) hx hb dL_law_284 (by decide) ?_
      refine lv_iadd hx hb dL_law_285 ?_
      refine lv_as (y := nI (i + 3)) (nI_add i 3) ?_
      refine va_sld hx hb hX hbl hbA hW.2.2 (vp_in_nI (n := i + 3) (by omega) (by omega)) dL_law_286 ?_
      refine lv_as (y := xs (i + 3)) (by rw [nI_clamp (by omega)]) ?_
      refine g_fiS (ww := fun (u_ : Unit) => [((ad 64), .inr (9, [.ref (ad 65), .ref (ad 66), .ref (ad 67), .ref (ad 68), .long mab, .long mbe, .ref (ad 69), .ref (ad 70), .ref (ad 71), .ref (ad 72), .int (nI tn), .int tA, .int tL, .int tK, .int tV, .ref (ad 73), .ref (ad 74)])), ((ad 65), .inl (G.2.1, 159, .inl a)), ((ad 68), .inl (G.2.1, 3, .inl (upd rv 2 (rv 2 + 1))))]) (w2 := fun (u_ : Unit) => LW G ad k1 k2 ab be bds nos (fls + 1) wide wd ck n pf sn sf nn nf mn mf u uf ywide ywd yck yn ypf ysn ysf ynn ynf ymn ymf yu yuf zwide zwd zck zn zpf zsn zsf znn znf zmn zmf zu zuf tk tn tok stt en tf dwide dwd dck dn dpf dsn dsf dnn dnf dmn dmf du duf f0 cr td0 fs0 car rea fin ms mab mbe (nI tn) tA tL tK tV a kf jf (upd rv 2 (rv 2 + 1)) sv hf ef tg b vf) C hW [64, 65, 68] rfl (fun _ => rfl) (fun _ => rfl) (fun _ => lw_fst.trans lw_fst.symm) (g_runV (As := [.int (xs (i + 1)), .int (xs (i + 2)), .int (xs (i + 3))]) (rest := [.int (-4)]) (wc := [((ad 64), .inr (9, [.ref (ad 65), .ref (ad 66), .ref (ad 67), .ref (ad 68), .long mab, .long mbe, .ref (ad 69), .ref (ad 70), .ref (ad 71), .ref (ad 72), .int (nI tn), .int tA, .int tL, .int tK, .int tV, .ref (ad 73), .ref (ad 74)])), ((ad 65), .inl (G.2.1, 159, .inl a)), ((ad 68), .inl (G.2.1, 3, .inl rv))]) (q0 := 0) (ci := 9) C hW hl (c_X11_player_full l G (ad 64) (ad 65) (ad 66) (ad 67) (ad 68) (ad 69) (ad 70) (ad 71) (ad 72) (ad 73) (ad 74) mab mbe (nI tn) tA tL tK tV rv a n (xs (i + 1)) (xs (i + 2)) (xs (i + 3)) (by exact hc.1) (by exact hc.2.1) (by exact hc.2.2) (by first | assumption | omega) (by omega) _) k_ml_L_27 q_X11_player ⟨⟨rfl, rfl⟩, Nat.le_of_ble_eq_true rfl, Nat.le_of_ble_eq_true rfl⟩ [64, 65, 68] (by decide) rfl rfl rfl rfl rfl (Nat.le_of_ble_eq_true rfl) dL_law_287 ⟨hcl.1, hcl.2⟩) (fun r_3 _ er_3 => ?_)
      clear hW H locs; intro H locs hW
      replace hW : Wd G A_ s_.heap (LW G ad k1 k2 ab be bds nos (fls + 1) wide wd ck n pf sn sf nn nf mn mf u uf ywide ywd yck yn ypf ysn ysf ynn ynf ymn ymf yu yuf zwide zwd zck zn zpf zsn zsf znn znf zmn zmf zu zuf tk tn tok stt en tf dwide dwd dck dn dpf dsn dsf dnn dnf dmn dmf du duf f0 cr td0 fs0 car rea fin ms mab mbe (nI tn) tA tL tK tV a kf jf (upd rv 2 (rv 2 + 1)) sv hf ef tg b vf) H locs := hW
      refine lv_as (y := (-4)) er_3 ?_
      refine lv_as (y := (-4)) (rfl) ?_
      refine lv_icmp_eq (tgt := 1149) hx hb dL_law_290 (by decide) (fun _ => ?_) (fun c9 => absurd rfl c9)
      exact K k1 k2 ab be bds nos (fls + 1) wide wd ck n pf sn sf nn nf mn mf u uf ywide ywd yck yn ypf ysn ysf ynn ynf ymn ymf yu yuf zwide zwd zck zn zpf zsn zsf znn znf zmn zmf zu zuf tk tn tok stt en tf dwide dwd dck dn dpf dsn dsf dnn dnf dmn dmf du duf f0 cr td0 fs0 car rea fin ms mab mbe (nI tn) tA tL tK tV a kf jf (upd rv 2 (rv 2 + 1)) sv hf ef tg b vf (⟨hV0.mono (by omega), hI1.mono (by omega), hI2.mono (by omega), ⟨htn, rfl, htt⟩, hPR, CR_full hCR⟩) _ _ _ hW hl
