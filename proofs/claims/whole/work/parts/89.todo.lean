theorem st_rally {p_ : Program} {l : Launch} {e_ : Env} {s_ : State} {m_ : MethodId} {ar_ : Array Value} {be_ : List Frame} {me_ : Method} {cd_ : Code} {cells slots : Nat} {Q : State → Prop} {G : gT} {A_ : Nat → Prop} {ad : Nat → Nat} {bS : Nat} {L i B : Nat} {xs : Nat → Int32} (hLA : LA p_ l e_ s_ m_ ar_ be_ me_ cd_ cells slots Q G A_ ad bS L xs) (hi : i + 4 < L) (hB : B ≤ 300) (K : KK p_ l e_ s_ m_ ar_ be_ me_ cd_ cells slots Q G A_ ad bS i (B + 1) 1149) : KK p_ l e_ s_ m_ ar_ be_ me_ cd_ cells slots Q G A_ ad bS i B 561 := by
  obtain ⟨C, hX, hbl, hbA, hL, hcl⟩ := hLA
  intro k1 k2 ab be bds nos fls wide wd ck n pf sn sf nn nf mn mf u uf ywide ywd yck yn ypf ysn ysf ynn ynf ymn ymf yu yuf zwide zwd zck zn zpf zsn zsf znn znf zmn zmf zu zuf tk tn tok stt en tf dwide dwd dck dn dpf dsn dsf dnn dnf dmn dmf du duf f0 cr td0 fs0 car rea fin ms mab mbe bL tA tL tK tV a kf jf rv sv hf ef tg b vf hR H locs ls hW hl
  have hx := C.1; have hb := C.2.1; have hown := C.2.2.2.1; have ht := C.2.2.2.2.1
  obtain ⟨hV, hI1, hI2, hT, hPR, hCR⟩ := hR
  have hV0 := hV
  obtain ⟨⟨hn, hs, ho, hm, hu⟩, ⟨hWd, hP, hH, hS, hO⟩, ⟨hck, hpa⟩, ⟨e0, e1, e2, e3, e4, e5⟩, ⟨ea, ew, ep⟩, ⟨es, eno, em, eu⟩⟩ := hV
  have hck0 := hck
  obtain ⟨⟨hr, eh, hh⟩, ⟨fh, eh2, hfl⟩, hup01, hg, ⟨k4, ek4, hk4⟩, ⟨d5, ed5, hd5⟩⟩ := hck
  have e8 : a 8 = nI fh := (ea 2 (by decide)).trans eh2
  have e12 : a 12 = nI hr := (ea 6 (by decide)).trans eh
  have e9 : a 9 = ck 3 := ea 3 (by decide)
  have e7 : a 7 = ck 1 := ea 1 (by decide)
  have e6 : a 6 = ck 0 := ea 0 (by decide)
  obtain ⟨htn, hbL, htt⟩ := hT
  subst hbL
  sorry
