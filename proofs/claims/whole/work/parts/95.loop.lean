set_option maxHeartbeats 8000000 in
set_option maxRecDepth 100000 in
theorem law_loop {p_ : Program} {l : Launch} {e_ : Env} {s_ : State} {m_ : MethodId} {ar_ : Array Value} {be_ : List Frame} {me_ : Method} {cd_ : Code} {cells slots : Nat} {Q : State → Prop} {G : gT} {A_ : Nat → Prop} {ad : Nat → Nat} {bS : Nat} {L : Nat} {xs : Nat → Int32} (hLA : LA p_ l e_ s_ m_ ar_ be_ me_ cd_ cells slots Q G A_ ad bS L xs) (hend : ∀ (H : Heap) (locs : List Loc) (ls : Array Slot), va_S A_ s_.heap H locs → W p_ l e_ room_1 s_ m_ ar_ be_ me_ cd_ H locs cells slots Q (F0 m_ 1155 ls [])) : ∀ n_ i B : Nat, L - i < n_ → i ≤ L → 5 * B ≤ 1000 + i → 200 ≤ B → KK p_ l e_ s_ m_ ar_ be_ me_ cd_ cells slots Q G A_ ad bS i B 18 := by
  intro n_
  induction n_ with
  | zero => intro i B h; exact absurd h (Nat.not_lt_zero _)
  | succ n_ ih =>
    intro i B hm hiL hB hB2
    have hLA0 := hLA
    obtain ⟨C, hX, hbl, hbA, hL, hcl⟩ := hLA0
    have hx := C.1; have hb := C.2.1; have hown := C.2.2.2.1; have ht := C.2.2.2.2.1
    have K1149 : i + 4 < L → KK p_ l e_ s_ m_ ar_ be_ me_ cd_ cells slots Q G A_ ad bS i (B + 1) 1149 := by
      intro hi k1 k2 ab be bds nos fls wide wd ck n pf sn sf nn nf mn mf u uf ywide ywd yck yn ypf ysn ysf ynn ynf ymn ymf yu yuf zwide zwd zck zn zpf zsn zsf znn znf zmn zmf zu zuf tk tn tok stt en tf dwide dwd dck dn dpf dsn dsf dnn dnf dmn dmf du duf f0 cr td0 fs0 car rea fin ms mab mbe bL tA tL tK tV a kf jf rv sv hf ef tg b vf hR H locs ls hW hl
      refine lv_iinc (v := nI i + 5) (lv' := [(3, .int (nI i + 5)), (0, .ref bS), (1, .ref (ad 0)), (2, .ref (ad 64))]) hx hb dL_law_1149 hl (k := 3) rfl rfl (by decide) rfl ?_
      clear hl ls; intro ls hl
      refine lv_goto (tgt := 18) hx hb dL_law_1152 (by decide) ?_
      rw [show nI i + 5 = nI (i + 5) from nI_add i 5] at hl
      exact ih (i + 5) (B + 1) (by omega) (by omega) (by omega) (by omega) k1 k2 ab be bds nos fls wide wd ck n pf sn sf nn nf mn mf u uf ywide ywd yck yn ypf ysn ysf ynn ynf ymn ymf yu yuf zwide zwd zck zn zpf zsn zsf znn znf zmn zmf zu zuf tk tn tok stt en tf dwide dwd dck dn dpf dsn dsf dnn dnf dmn dmf du duf f0 cr td0 fs0 car rea fin ms mab mbe bL tA tL tK tV a kf jf rv sv hf ef tg b vf hR _ _ _ hW (lv_sub hl [1, 2, 3, 0] rfl)
    intro k1 k2 ab be bds nos fls wide wd ck n pf sn sf nn nf mn mf u uf ywide ywd yck yn ypf ysn ysf ynn ynf ymn ymf yu yuf zwide zwd zck zn zpf zsn zsf znn znf zmn zmf zu zuf tk tn tok stt en tf dwide dwd dck dn dpf dsn dsf dnn dnf dmn dmf du duf f0 cr td0 fs0 car rea fin ms mab mbe bL tA tL tK tV a kf jf rv sv hf ef tg b vf hR H locs ls hW hl
    refine lv_iload_n hx hb dL_law_18 rfl (lv_at hl 3 rfl) ?_
    refine lv_aload_n hx hb dL_law_19 rfl (lv_at hl 0 rfl) ?_
    refine va_slen hx hb hX hbl hbA hW.2.2 dL_law_20 ?_
    refine lv_iconst (v := 5) hx hb dL_law_21 (by decide) ?_
    refine lv_isub hx hb dL_law_22 ?_
    have hcmp : (nI i ≤ Int32.ofNat L - 5) ↔ i + 5 ≤ L := by
      have e := pk_sub_toInt (a := L) (b := 5) (by omega) (by omega)
      rw [fa_le, nI_toInt (by omega), show (Int32.ofNat L - 5).toInt = (L : Int) - 5 from e]; omega
    refine lv_icmp_gt (tgt := 1155) hx hb dL_law_23 (by decide) (fun c9 => ?_) (fun c9 => ?_)
    · exact hend H locs ls hW.2.2
    · have hi : i + 4 < L := by have := hcmp.mp (Int32.not_lt.mp c9); omega
      have K := K1149 hi
      refine lv_aload_n hx hb dL_law_26 rfl (lv_at hl 0 rfl) ?_
      refine lv_iload_n hx hb dL_law_27 rfl (lv_at hl 3 rfl) ?_
      refine va_sld hx hb hX hbl hbA hW.2.2 (vp_in_nI (n := i) (by omega) (by omega)) dL_law_28 ?_
      refine lv_bipush (v := 63) hx hb dL_law_29 (by decide) ?_
      refine lv_iand hx hb dL_law_31 ?_
      refine lv_topi (fun x9 ex9 => ?_)
      by_cases c_0 : x9 = 0
      · refine lv_as c_0 (lv_tableIn (tgt := 196) hx hb dL_law_32 (by decide) (by decide) rfl (by decide) ?_)
        exact st_valley hLA hi (by omega) K k1 k2 ab be bds nos fls wide wd ck n pf sn sf nn nf mn mf u uf ywide ywd yck yn ypf ysn ysf ynn ynf ymn ymf yu yuf zwide zwd zck zn zpf zsn zsf znn znf zmn zmf zu zuf tk tn tok stt en tf dwide dwd dck dn dpf dsn dsf dnn dnf dmn dmf du duf f0 cr td0 fs0 car rea fin ms mab mbe bL tA tL tK tV a kf jf rv sv hf ef tg b vf hR _ _ _ hW hl
      by_cases c_1 : x9 = 1
      · refine lv_as c_1 (lv_tableIn (tgt := 219) hx hb dL_law_32 (by decide) (by decide) rfl (by decide) ?_)
        exact st_wind hLA hi (by omega) K k1 k2 ab be bds nos fls wide wd ck n pf sn sf nn nf mn mf u uf ywide ywd yck yn ypf ysn ysf ynn ynf ymn ymf yu yuf zwide zwd zck zn zpf zsn zsf znn znf zmn zmf zu zuf tk tn tok stt en tf dwide dwd dck dn dpf dsn dsf dnn dnf dmn dmf du duf f0 cr td0 fs0 car rea fin ms mab mbe bL tA tL tK tV a kf jf rv sv hf ef tg b vf hR _ _ _ hW hl
      by_cases c_2 : x9 = 2
      · refine lv_as c_2 (lv_tableIn (tgt := 252) hx hb dL_law_32 (by decide) (by decide) rfl (by decide) ?_)
        exact st_player hLA hi (by omega) K k1 k2 ab be bds nos fls wide wd ck n pf sn sf nn nf mn mf u uf ywide ywd yck yn ypf ysn ysf ynn ynf ymn ymf yu yuf zwide zwd zck zn zpf zsn zsf znn znf zmn zmf zu zuf tk tn tok stt en tf dwide dwd dck dn dpf dsn dsf dnn dnf dmn dmf du duf f0 cr td0 fs0 car rea fin ms mab mbe bL tA tL tK tV a kf jf rv sv hf ef tg b vf hR _ _ _ hW hl
      by_cases c_3 : x9 = 3
      · refine lv_as c_3 (lv_tableIn (tgt := 295) hx hb dL_law_32 (by decide) (by decide) rfl (by decide) ?_)
        exact st_type hLA hi (by omega) K k1 k2 ab be bds nos fls wide wd ck n pf sn sf nn nf mn mf u uf ywide ywd yck yn ypf ysn ysf ynn ynf ymn ymf yu yuf zwide zwd zck zn zpf zsn zsf znn znf zmn zmf zu zuf tk tn tok stt en tf dwide dwd dck dn dpf dsn dsf dnn dnf dmn dmf du duf f0 cr td0 fs0 car rea fin ms mab mbe bL tA tL tK tV a kf jf rv sv hf ef tg b vf hR _ _ _ hW hl
      by_cases c_4 : x9 = 4
      · refine lv_as c_4 (lv_tableIn (tgt := 318) hx hb dL_law_32 (by decide) (by decide) rfl (by decide) ?_)
        exact st_clear hLA hi (by omega) K k1 k2 ab be bds nos fls wide wd ck n pf sn sf nn nf mn mf u uf ywide ywd yck yn ypf ysn ysf ynn ynf ymn ymf yu yuf zwide zwd zck zn zpf zsn zsf znn znf zmn zmf zu zuf tk tn tok stt en tf dwide dwd dck dn dpf dsn dsf dnn dnf dmn dmf du duf f0 cr td0 fs0 car rea fin ms mab mbe bL tA tL tK tV a kf jf rv sv hf ef tg b vf hR _ _ _ hW hl
      by_cases c_5 : x9 = 5
      · refine lv_as c_5 (lv_tableIn (tgt := 331) hx hb dL_law_32 (by decide) (by decide) rfl (by decide) ?_)
        exact st_read hLA hi (by omega) hB2 K k1 k2 ab be bds nos fls wide wd ck n pf sn sf nn nf mn mf u uf ywide ywd yck yn ypf ysn ysf ynn ynf ymn ymf yu yuf zwide zwd zck zn zpf zsn zsf znn znf zmn zmf zu zuf tk tn tok stt en tf dwide dwd dck dn dpf dsn dsf dnn dnf dmn dmf du duf f0 cr td0 fs0 car rea fin ms mab mbe bL tA tL tK tV a kf jf rv sv hf ef tg b vf hR _ _ _ hW hl
      by_cases c_6 : x9 = 6
      · refine lv_as c_6 (lv_tableIn (tgt := 344) hx hb dL_law_32 (by decide) (by decide) rfl (by decide) ?_)
        exact st_hits hLA hi (by omega) K k1 k2 ab be bds nos fls wide wd ck n pf sn sf nn nf mn mf u uf ywide ywd yck yn ypf ysn ysf ynn ynf ymn ymf yu yuf zwide zwd zck zn zpf zsn zsf znn znf zmn zmf zu zuf tk tn tok stt en tf dwide dwd dck dn dpf dsn dsf dnn dnf dmn dmf du duf f0 cr td0 fs0 car rea fin ms mab mbe bL tA tL tK tV a kf jf rv sv hf ef tg b vf hR _ _ _ hW hl
      by_cases c_7 : x9 = 7
      · refine lv_as c_7 (lv_tableIn (tgt := 367) hx hb dL_law_32 (by decide) (by decide) rfl (by decide) ?_)
        exact st_picks hLA hi (by omega) K k1 k2 ab be bds nos fls wide wd ck n pf sn sf nn nf mn mf u uf ywide ywd yck yn ypf ysn ysf ynn ynf ymn ymf yu yuf zwide zwd zck zn zpf zsn zsf znn znf zmn zmf zu zuf tk tn tok stt en tf dwide dwd dck dn dpf dsn dsf dnn dnf dmn dmf du duf f0 cr td0 fs0 car rea fin ms mab mbe bL tA tL tK tV a kf jf rv sv hf ef tg b vf hR _ _ _ hW hl
      by_cases c_8 : x9 = 8
      · refine lv_as c_8 (lv_tableIn (tgt := 390) hx hb dL_law_32 (by decide) (by decide) rfl (by decide) ?_)
        exact st_cock hLA hi (by omega) K k1 k2 ab be bds nos fls wide wd ck n pf sn sf nn nf mn mf u uf ywide ywd yck yn ypf ysn ysf ynn ynf ymn ymf yu yuf zwide zwd zck zn zpf zsn zsf znn znf zmn zmf zu zuf tk tn tok stt en tf dwide dwd dck dn dpf dsn dsf dnn dnf dmn dmf du duf f0 cr td0 fs0 car rea fin ms mab mbe bL tA tL tK tV a kf jf rv sv hf ef tg b vf hR _ _ _ hW hl
      by_cases c_9 : x9 = 9
      · refine lv_as c_9 (lv_tableIn (tgt := 423) hx hb dL_law_32 (by decide) (by decide) rfl (by decide) ?_)
        exact st_hours hLA hi (by omega) K k1 k2 ab be bds nos fls wide wd ck n pf sn sf nn nf mn mf u uf ywide ywd yck yn ypf ysn ysf ynn ynf ymn ymf yu yuf zwide zwd zck zn zpf zsn zsf znn znf zmn zmf zu zuf tk tn tok stt en tf dwide dwd dck dn dpf dsn dsf dnn dnf dmn dmf du duf f0 cr td0 fs0 car rea fin ms mab mbe bL tA tL tK tV a kf jf rv sv hf ef tg b vf hR _ _ _ hW hl
      by_cases c_10 : x9 = 10
      · refine lv_as c_10 (lv_tableIn (tgt := 446) hx hb dL_law_32 (by decide) (by decide) rfl (by decide) ?_)
        exact st_undo hLA hi (by omega) K k1 k2 ab be bds nos fls wide wd ck n pf sn sf nn nf mn mf u uf ywide ywd yck yn ypf ysn ysf ynn ynf ymn ymf yu yuf zwide zwd zck zn zpf zsn zsf znn znf zmn zmf zu zuf tk tn tok stt en tf dwide dwd dck dn dpf dsn dsf dnn dnf dmn dmf du duf f0 cr td0 fs0 car rea fin ms mab mbe bL tA tL tK tV a kf jf rv sv hf ef tg b vf hR _ _ _ hW hl
      by_cases c_11 : x9 = 11
      · refine lv_as c_11 (lv_tableIn (tgt := 459) hx hb dL_law_32 (by decide) (by decide) rfl (by decide) ?_)
        exact st_now hLA hi (by omega) K k1 k2 ab be bds nos fls wide wd ck n pf sn sf nn nf mn mf u uf ywide ywd yck yn ypf ysn ysf ynn ynf ymn ymf yu yuf zwide zwd zck zn zpf zsn zsf znn znf zmn zmf zu zuf tk tn tok stt en tf dwide dwd dck dn dpf dsn dsf dnn dnf dmn dmf du duf f0 cr td0 fs0 car rea fin ms mab mbe bL tA tL tK tV a kf jf rv sv hf ef tg b vf hR _ _ _ hW hl
      by_cases c_12 : x9 = 12
      · refine lv_as c_12 (lv_tableIn (tgt := 482) hx hb dL_law_32 (by decide) (by decide) rfl (by decide) ?_)
        exact st_of hLA hi (by omega) K k1 k2 ab be bds nos fls wide wd ck n pf sn sf nn nf mn mf u uf ywide ywd yck yn ypf ysn ysf ynn ynf ymn ymf yu yuf zwide zwd zck zn zpf zsn zsf znn znf zmn zmf zu zuf tk tn tok stt en tf dwide dwd dck dn dpf dsn dsf dnn dnf dmn dmf du duf f0 cr td0 fs0 car rea fin ms mab mbe bL tA tL tK tV a kf jf rv sv hf ef tg b vf hR _ _ _ hW hl
      by_cases c_13 : x9 = 13
      · refine lv_as c_13 (lv_tableIn (tgt := 515) hx hb dL_law_32 (by decide) (by decide) rfl (by decide) ?_)
        exact st_reach hLA hi (by omega) K k1 k2 ab be bds nos fls wide wd ck n pf sn sf nn nf mn mf u uf ywide ywd yck yn ypf ysn ysf ynn ynf ymn ymf yu yuf zwide zwd zck zn zpf zsn zsf znn znf zmn zmf zu zuf tk tn tok stt en tf dwide dwd dck dn dpf dsn dsf dnn dnf dmn dmf du duf f0 cr td0 fs0 car rea fin ms mab mbe bL tA tL tK tV a kf jf rv sv hf ef tg b vf hR _ _ _ hW hl
      by_cases c_14 : x9 = 14
      · refine lv_as c_14 (lv_tableIn (tgt := 548) hx hb dL_law_32 (by decide) (by decide) rfl (by decide) ?_)
        exact st_may hLA hi (by omega) K k1 k2 ab be bds nos fls wide wd ck n pf sn sf nn nf mn mf u uf ywide ywd yck yn ypf ysn ysf ynn ynf ymn ymf yu yuf zwide zwd zck zn zpf zsn zsf znn znf zmn zmf zu zuf tk tn tok stt en tf dwide dwd dck dn dpf dsn dsf dnn dnf dmn dmf du duf f0 cr td0 fs0 car rea fin ms mab mbe bL tA tL tK tV a kf jf rv sv hf ef tg b vf hR _ _ _ hW hl
      by_cases c_15 : x9 = 15
      · refine lv_as c_15 (lv_tableIn (tgt := 561) hx hb dL_law_32 (by decide) (by decide) rfl (by decide) ?_)
        exact st_rally hLA hi (by omega) K k1 k2 ab be bds nos fls wide wd ck n pf sn sf nn nf mn mf u uf ywide ywd yck yn ypf ysn ysf ynn ynf ymn ymf yu yuf zwide zwd zck zn zpf zsn zsf znn znf zmn zmf zu zuf tk tn tok stt en tf dwide dwd dck dn dpf dsn dsf dnn dnf dmn dmf du duf f0 cr td0 fs0 car rea fin ms mab mbe bL tA tL tK tV a kf jf rv sv hf ef tg b vf hR _ _ _ hW hl
      by_cases c_16 : x9 = 16
      · refine lv_as c_16 (lv_tableIn (tgt := 594) hx hb dL_law_32 (by decide) (by decide) rfl (by decide) ?_)
        exact st_lasts hLA hi (by omega) K k1 k2 ab be bds nos fls wide wd ck n pf sn sf nn nf mn mf u uf ywide ywd yck yn ypf ysn ysf ynn ynf ymn ymf yu yuf zwide zwd zck zn zpf zsn zsf znn znf zmn zmf zu zuf tk tn tok stt en tf dwide dwd dck dn dpf dsn dsf dnn dnf dmn dmf du duf f0 cr td0 fs0 car rea fin ms mab mbe bL tA tL tK tV a kf jf rv sv hf ef tg b vf hR _ _ _ hW hl
      by_cases c_17 : x9 = 17
      · refine lv_as c_17 (lv_tableIn (tgt := 607) hx hb dL_law_32 (by decide) (by decide) rfl (by decide) ?_)
        exact st_place hLA hi (by omega) K k1 k2 ab be bds nos fls wide wd ck n pf sn sf nn nf mn mf u uf ywide ywd yck yn ypf ysn ysf ynn ynf ymn ymf yu yuf zwide zwd zck zn zpf zsn zsf znn znf zmn zmf zu zuf tk tn tok stt en tf dwide dwd dck dn dpf dsn dsf dnn dnf dmn dmf du duf f0 cr td0 fs0 car rea fin ms mab mbe bL tA tL tK tV a kf jf rv sv hf ef tg b vf hR _ _ _ hW hl
      by_cases c_18 : x9 = 18
      · refine lv_as c_18 (lv_tableIn (tgt := 630) hx hb dL_law_32 (by decide) (by decide) rfl (by decide) ?_)
        exact st_seen hLA hi (by omega) K k1 k2 ab be bds nos fls wide wd ck n pf sn sf nn nf mn mf u uf ywide ywd yck yn ypf ysn ysf ynn ynf ymn ymf yu yuf zwide zwd zck zn zpf zsn zsf znn znf zmn zmf zu zuf tk tn tok stt en tf dwide dwd dck dn dpf dsn dsf dnn dnf dmn dmf du duf f0 cr td0 fs0 car rea fin ms mab mbe bL tA tL tK tV a kf jf rv sv hf ef tg b vf hR _ _ _ hW hl
      by_cases c_19 : x9 = 19
      · refine lv_as c_19 (lv_tableIn (tgt := 673) hx hb dL_law_32 (by decide) (by decide) rfl (by decide) ?_)
        exact st_heavy hLA hi (by omega) K k1 k2 ab be bds nos fls wide wd ck n pf sn sf nn nf mn mf u uf ywide ywd yck yn ypf ysn ysf ynn ynf ymn ymf yu yuf zwide zwd zck zn zpf zsn zsf znn znf zmn zmf zu zuf tk tn tok stt en tf dwide dwd dck dn dpf dsn dsf dnn dnf dmn dmf du duf f0 cr td0 fs0 car rea fin ms mab mbe bL tA tL tK tV a kf jf rv sv hf ef tg b vf hR _ _ _ hW hl
      by_cases c_20 : x9 = 20
      · refine lv_as c_20 (lv_tableIn (tgt := 696) hx hb dL_law_32 (by decide) (by decide) rfl (by decide) ?_)
        exact st_tell hLA hi (by omega) K k1 k2 ab be bds nos fls wide wd ck n pf sn sf nn nf mn mf u uf ywide ywd yck yn ypf ysn ysf ynn ynf ymn ymf yu yuf zwide zwd zck zn zpf zsn zsf znn znf zmn zmf zu zuf tk tn tok stt en tf dwide dwd dck dn dpf dsn dsf dnn dnf dmn dmf du duf f0 cr td0 fs0 car rea fin ms mab mbe bL tA tL tK tV a kf jf rv sv hf ef tg b vf hR _ _ _ hW hl
      by_cases c_21 : x9 = 21
      · refine lv_as c_21 (lv_tableIn (tgt := 719) hx hb dL_law_32 (by decide) (by decide) rfl (by decide) ?_)
        exact st_note hLA hi (by omega) K k1 k2 ab be bds nos fls wide wd ck n pf sn sf nn nf mn mf u uf ywide ywd yck yn ypf ysn ysf ynn ynf ymn ymf yu yuf zwide zwd zck zn zpf zsn zsf znn znf zmn zmf zu zuf tk tn tok stt en tf dwide dwd dck dn dpf dsn dsf dnn dnf dmn dmf du duf f0 cr td0 fs0 car rea fin ms mab mbe bL tA tL tK tV a kf jf rv sv hf ef tg b vf hR _ _ _ hW hl
      by_cases c_22 : x9 = 22
      · refine lv_as c_22 (lv_tableIn (tgt := 772) hx hb dL_law_32 (by decide) (by decide) rfl (by decide) ?_)
        exact st_mark hLA hi (by omega) K k1 k2 ab be bds nos fls wide wd ck n pf sn sf nn nf mn mf u uf ywide ywd yck yn ypf ysn ysf ynn ynf ymn ymf yu yuf zwide zwd zck zn zpf zsn zsf znn znf zmn zmf zu zuf tk tn tok stt en tf dwide dwd dck dn dpf dsn dsf dnn dnf dmn dmf du duf f0 cr td0 fs0 car rea fin ms mab mbe bL tA tL tK tV a kf jf rv sv hf ef tg b vf hR _ _ _ hW hl
      by_cases c_23 : x9 = 23
      · refine lv_as c_23 (lv_tableIn (tgt := 825) hx hb dL_law_32 (by decide) (by decide) rfl (by decide) ?_)
        exact st_forget hLA hi (by omega) K k1 k2 ab be bds nos fls wide wd ck n pf sn sf nn nf mn mf u uf ywide ywd yck yn ypf ysn ysf ynn ynf ymn ymf yu yuf zwide zwd zck zn zpf zsn zsf znn znf zmn zmf zu zuf tk tn tok stt en tf dwide dwd dck dn dpf dsn dsf dnn dnf dmn dmf du duf f0 cr td0 fs0 car rea fin ms mab mbe bL tA tL tK tV a kf jf rv sv hf ef tg b vf hR _ _ _ hW hl
      by_cases c_24 : x9 = 24
      · refine lv_as c_24 (lv_tableIn (tgt := 848) hx hb dL_law_32 (by decide) (by decide) rfl (by decide) ?_)
        exact st_is hLA hi (by omega) K k1 k2 ab be bds nos fls wide wd ck n pf sn sf nn nf mn mf u uf ywide ywd yck yn ypf ysn ysf ynn ynf ymn ymf yu yuf zwide zwd zck zn zpf zsn zsf znn znf zmn zmf zu zuf tk tn tok stt en tf dwide dwd dck dn dpf dsn dsf dnn dnf dmn dmf du duf f0 cr td0 fs0 car rea fin ms mab mbe bL tA tL tK tV a kf jf rv sv hf ef tg b vf hR _ _ _ hW hl
      by_cases c_25 : x9 = 25
      · refine lv_as c_25 (lv_tableIn (tgt := 861) hx hb dL_law_32 (by decide) (by decide) rfl (by decide) ?_)
        exact st_look hLA hi (by omega) K k1 k2 ab be bds nos fls wide wd ck n pf sn sf nn nf mn mf u uf ywide ywd yck yn ypf ysn ysf ynn ynf ymn ymf yu yuf zwide zwd zck zn zpf zsn zsf znn znf zmn zmf zu zuf tk tn tok stt en tf dwide dwd dck dn dpf dsn dsf dnn dnf dmn dmf du duf f0 cr td0 fs0 car rea fin ms mab mbe bL tA tL tK tV a kf jf rv sv hf ef tg b vf hR _ _ _ hW hl
      by_cases c_26 : x9 = 26
      · refine lv_as c_26 (lv_tableIn (tgt := 874) hx hb dL_law_32 (by decide) (by decide) rfl (by decide) ?_)
        exact st_kinds hLA hi (by omega) K k1 k2 ab be bds nos fls wide wd ck n pf sn sf nn nf mn mf u uf ywide ywd yck yn ypf ysn ysf ynn ynf ymn ymf yu yuf zwide zwd zck zn zpf zsn zsf znn znf zmn zmf zu zuf tk tn tok stt en tf dwide dwd dck dn dpf dsn dsf dnn dnf dmn dmf du duf f0 cr td0 fs0 car rea fin ms mab mbe bL tA tL tK tV a kf jf rv sv hf ef tg b vf hR _ _ _ hW hl
      by_cases c_27 : x9 = 27
      · refine lv_as c_27 (lv_tableIn (tgt := 897) hx hb dL_law_32 (by decide) (by decide) rfl (by decide) ?_)
        exact st_ask hLA hi (by omega) K k1 k2 ab be bds nos fls wide wd ck n pf sn sf nn nf mn mf u uf ywide ywd yck yn ypf ysn ysf ynn ynf ymn ymf yu yuf zwide zwd zck zn zpf zsn zsf znn znf zmn zmf zu zuf tk tn tok stt en tf dwide dwd dck dn dpf dsn dsf dnn dnf dmn dmf du duf f0 cr td0 fs0 car rea fin ms mab mbe bL tA tL tK tV a kf jf rv sv hf ef tg b vf hR _ _ _ hW hl
      by_cases c_28 : x9 = 28
      · refine lv_as c_28 (lv_tableIn (tgt := 920) hx hb dL_law_32 (by decide) (by decide) rfl (by decide) ?_)
        exact st_yours hLA hi (by omega) K k1 k2 ab be bds nos fls wide wd ck n pf sn sf nn nf mn mf u uf ywide ywd yck yn ypf ysn ysf ynn ynf ymn ymf yu yuf zwide zwd zck zn zpf zsn zsf znn znf zmn zmf zu zuf tk tn tok stt en tf dwide dwd dck dn dpf dsn dsf dnn dnf dmn dmf du duf f0 cr td0 fs0 car rea fin ms mab mbe bL tA tL tK tV a kf jf rv sv hf ef tg b vf hR _ _ _ hW hl
      by_cases c_29 : x9 = 29
      · refine lv_as c_29 (lv_tableIn (tgt := 953) hx hb dL_law_32 (by decide) (by decide) rfl (by decide) ?_)
        exact st_gusts hLA hi (by omega) K k1 k2 ab be bds nos fls wide wd ck n pf sn sf nn nf mn mf u uf ywide ywd yck yn ypf ysn ysf ynn ynf ymn ymf yu yuf zwide zwd zck zn zpf zsn zsf znn znf zmn zmf zu zuf tk tn tok stt en tf dwide dwd dck dn dpf dsn dsf dnn dnf dmn dmf du duf f0 cr td0 fs0 car rea fin ms mab mbe bL tA tL tK tV a kf jf rv sv hf ef tg b vf hR _ _ _ hW hl
      by_cases c_30 : x9 = 30
      · refine lv_as c_30 (lv_tableIn (tgt := 986) hx hb dL_law_32 (by decide) (by decide) rfl (by decide) ?_)
        exact st_centuries hLA hi (by omega) K k1 k2 ab be bds nos fls wide wd ck n pf sn sf nn nf mn mf u uf ywide ywd yck yn ypf ysn ysf ynn ynf ymn ymf yu yuf zwide zwd zck zn zpf zsn zsf znn znf zmn zmf zu zuf tk tn tok stt en tf dwide dwd dck dn dpf dsn dsf dnn dnf dmn dmf du duf f0 cr td0 fs0 car rea fin ms mab mbe bL tA tL tK tV a kf jf rv sv hf ef tg b vf hR _ _ _ hW hl
      by_cases c_31 : x9 = 31
      · refine lv_as c_31 (lv_tableIn (tgt := 1019) hx hb dL_law_32 (by decide) (by decide) rfl (by decide) ?_)
        exact st_part hLA hi (by omega) K k1 k2 ab be bds nos fls wide wd ck n pf sn sf nn nf mn mf u uf ywide ywd yck yn ypf ysn ysf ynn ynf ymn ymf yu yuf zwide zwd zck zn zpf zsn zsf znn znf zmn zmf zu zuf tk tn tok stt en tf dwide dwd dck dn dpf dsn dsf dnn dnf dmn dmf du duf f0 cr td0 fs0 car rea fin ms mab mbe bL tA tL tK tV a kf jf rv sv hf ef tg b vf hR _ _ _ hW hl
      by_cases c_32 : x9 = 32
      · refine lv_as c_32 (lv_tableIn (tgt := 1043) hx hb dL_law_32 (by decide) (by decide) rfl (by decide) ?_)
        exact st_image hLA hi (by omega) K k1 k2 ab be bds nos fls wide wd ck n pf sn sf nn nf mn mf u uf ywide ywd yck yn ypf ysn ysf ynn ynf ymn ymf yu yuf zwide zwd zck zn zpf zsn zsf znn znf zmn zmf zu zuf tk tn tok stt en tf dwide dwd dck dn dpf dsn dsf dnn dnf dmn dmf du duf f0 cr td0 fs0 car rea fin ms mab mbe bL tA tL tK tV a kf jf rv sv hf ef tg b vf hR _ _ _ hW hl
      by_cases c_33 : x9 = 33
      · refine lv_as c_33 (lv_tableIn (tgt := 1066) hx hb dL_law_32 (by decide) (by decide) rfl (by decide) ?_)
        exact st_from hLA hi (by omega) K k1 k2 ab be bds nos fls wide wd ck n pf sn sf nn nf mn mf u uf ywide ywd yck yn ypf ysn ysf ynn ynf ymn ymf yu yuf zwide zwd zck zn zpf zsn zsf znn znf zmn zmf zu zuf tk tn tok stt en tf dwide dwd dck dn dpf dsn dsf dnn dnf dmn dmf du duf f0 cr td0 fs0 car rea fin ms mab mbe bL tA tL tK tV a kf jf rv sv hf ef tg b vf hR _ _ _ hW hl
      by_cases c_34 : x9 = 34
      · refine lv_as c_34 (lv_tableIn (tgt := 1089) hx hb dL_law_32 (by decide) (by decide) rfl (by decide) ?_)
        exact st_status hLA hi (by omega) K k1 k2 ab be bds nos fls wide wd ck n pf sn sf nn nf mn mf u uf ywide ywd yck yn ypf ysn ysf ynn ynf ymn ymf yu yuf zwide zwd zck zn zpf zsn zsf znn znf zmn zmf zu zuf tk tn tok stt en tf dwide dwd dck dn dpf dsn dsf dnn dnf dmn dmf du duf f0 cr td0 fs0 car rea fin ms mab mbe bL tA tL tK tV a kf jf rv sv hf ef tg b vf hR _ _ _ hW hl
      by_cases c_35 : x9 = 35
      · refine lv_as c_35 (lv_tableIn (tgt := 1112) hx hb dL_law_32 (by decide) (by decide) rfl (by decide) ?_)
        exact st_count hLA hi (by omega) K k1 k2 ab be bds nos fls wide wd ck n pf sn sf nn nf mn mf u uf ywide ywd yck yn ypf ysn ysf ynn ynf ymn ymf yu yuf zwide zwd zck zn zpf zsn zsf znn znf zmn zmf zu zuf tk tn tok stt en tf dwide dwd dck dn dpf dsn dsf dnn dnf dmn dmf du duf f0 cr td0 fs0 car rea fin ms mab mbe bL tA tL tK tV a kf jf rv sv hf ef tg b vf hR _ _ _ hW hl
      by_cases c_36 : x9 = 36
      · refine lv_as c_36 (lv_tableIn (tgt := 1135) hx hb dL_law_32 (by decide) (by decide) rfl (by decide) ?_)
        exact st_digest hLA hi (by omega) K k1 k2 ab be bds nos fls wide wd ck n pf sn sf nn nf mn mf u uf ywide ywd yck yn ypf ysn ysf ynn ynf ymn ymf yu yuf zwide zwd zck zn zpf zsn zsf znn znf zmn zmf zu zuf tk tn tok stt en tf dwide dwd dck dn dpf dsn dsf dnn dnf dmn dmf du duf f0 cr td0 fs0 car rea fin ms mab mbe bL tA tL tK tV a kf jf rv sv hf ef tg b vf hR _ _ _ hW hl
      refine lv_tableOut (tgt := 1149) hx hb dL_law_32 (by have q0 := sw_ne (z := 0) c_0 (by decide); have q1 := sw_ne (z := 1) c_1 (by decide); have q2 := sw_ne (z := 2) c_2 (by decide); have q3 := sw_ne (z := 3) c_3 (by decide); have q4 := sw_ne (z := 4) c_4 (by decide); have q5 := sw_ne (z := 5) c_5 (by decide); have q6 := sw_ne (z := 6) c_6 (by decide); have q7 := sw_ne (z := 7) c_7 (by decide); have q8 := sw_ne (z := 8) c_8 (by decide); have q9 := sw_ne (z := 9) c_9 (by decide); have q10 := sw_ne (z := 10) c_10 (by decide); have q11 := sw_ne (z := 11) c_11 (by decide); have q12 := sw_ne (z := 12) c_12 (by decide); have q13 := sw_ne (z := 13) c_13 (by decide); have q14 := sw_ne (z := 14) c_14 (by decide); have q15 := sw_ne (z := 15) c_15 (by decide); have q16 := sw_ne (z := 16) c_16 (by decide); have q17 := sw_ne (z := 17) c_17 (by decide); have q18 := sw_ne (z := 18) c_18 (by decide); have q19 := sw_ne (z := 19) c_19 (by decide); have q20 := sw_ne (z := 20) c_20 (by decide); have q21 := sw_ne (z := 21) c_21 (by decide); have q22 := sw_ne (z := 22) c_22 (by decide); have q23 := sw_ne (z := 23) c_23 (by decide); have q24 := sw_ne (z := 24) c_24 (by decide); have q25 := sw_ne (z := 25) c_25 (by decide); have q26 := sw_ne (z := 26) c_26 (by decide); have q27 := sw_ne (z := 27) c_27 (by decide); have q28 := sw_ne (z := 28) c_28 (by decide); have q29 := sw_ne (z := 29) c_29 (by decide); have q30 := sw_ne (z := 30) c_30 (by decide); have q31 := sw_ne (z := 31) c_31 (by decide); have q32 := sw_ne (z := 32) c_32 (by decide); have q33 := sw_ne (z := 33) c_33 (by decide); have q34 := sw_ne (z := 34) c_34 (by decide); have q35 := sw_ne (z := 35) c_35 (by decide); have q36 := sw_ne (z := 36) c_36 (by decide); omega) (by decide) ?_
      exact K k1 k2 ab be bds nos fls wide wd ck n pf sn sf nn nf mn mf u uf ywide ywd yck yn ypf ysn ysf ynn ynf ymn ymf yu yuf zwide zwd zck zn zpf zsn zsf znn znf zmn zmf zu zuf tk tn tok stt en tf dwide dwd dck dn dpf dsn dsf dnn dnf dmn dmf du duf f0 cr td0 fs0 car rea fin ms mab mbe bL tA tL tK tV a kf jf rv sv hf ef tg b vf (by obtain ⟨r1, r2, r3, r4⟩ := hR; exact ⟨r1.mono (by omega), r2.mono (by omega), r3.mono (by omega), r4⟩) _ _ _ hW hl
