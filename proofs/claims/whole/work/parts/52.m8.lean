set_option maxHeartbeats 4000000 in
set_option maxRecDepth 100000 in
theorem c_X11_look (l : Launch) (G : gT) (mo al ke ik rq so ha te bt an vs : Nat) (mab mbe : Int64) (bL tA tL tK tV : Int32) (a : Nat → Int32) (tf : Nat → Int32) (nn : Nat) (e2 : a 2 = nI nn) (ho : nn ≤ 6) : MI l G yX11_look cX11_look 7 .int ({ frames := 2, cells := 0, slots := 0, locals := 50 }) [.ref mo] [(mo, .inr (9, [.ref al, .ref ke, .ref ik, .ref rq, .long mab, .long mbe, .ref so, .ref ha, .ref te, .ref bt, .int bL, .int tA, .int tL, .int tK, .int tV, .ref an, .ref vs])), (al, .inl (G.2.1, 159, .inl a)), (te, .inl (G.2.1, 6, .inl tf))] (fun (r : Int32) w1 => ∃ u_ : Nat → Int32, (r = if 0 < (kcA a nn) then ((lookR (fun x w => nI (10 * x + w)) (fun x w => mal (kcA a nn) (fun i => fl (nI i) (a 7) (nI x) (nI w - 4))) (-1, 1000000) 31)).1 else -1) ∧ w1 = [(mo, .inr (9, [.ref al, .ref ke, .ref ik, .ref rq, .long mab, .long mbe, .ref so, .ref ha, .ref te, .ref bt, .int bL, .int tA, .int tL, .int tK, .int tV, .ref an, .ref vs])), (al, .inl (G.2.1, 159, .inl a)), (te, .inl (G.2.1, 6, .inl u_))]) := by
  refine MI.mk (by decide) (Nat.le_of_ble_eq_true rfl) ?_
  intro p_ e_ s_ m_ ar_ be_ me_ cd_ A_ ls C hrt hW hl
  have hx := C.1; have hb := C.2.1; have hown := C.2.2.2.1; have ht := C.2.2.2.2.1
  replace hl : lv_has ls 7 [(0, .ref mo)] := hl
  generalize hQ : MQ be_ _ ar_ s_ 0 0 A_ = Q
  refine lv_aload_n hx hb dX11_look_0 rfl (lv_at hl 0 rfl) ?_
  refine g_fi C hW [0, 1] rfl (g_runV (As := []) (rest := []) (wc := [(mo, .inr (9, [.ref al, .ref ke, .ref ik, .ref rq, .long mab, .long mbe, .ref so, .ref ha, .ref te, .ref bt, .int bL, .int tA, .int tL, .int tK, .int tV, .ref an, .ref vs])), (al, .inl (G.2.1, 159, .inl a))]) (q0 := 0) (ci := 9) C hW hl (c_X11_kindsOfCock l G mo al ke ik rq so ha te bt an vs mab mbe bL tA tL tK tV a nn (by first | assumption | omega) (by first | assumption | omega) _) k_ml_X11_184 q_X11_kindsOfCock (by decide) [0, 1] rfl rfl rfl rfl rfl rfl (Nat.le_of_ble_eq_true rfl) dX11_look_1 (by decide)) (fun r_2087 er_2087 => ?_)
  clear hW; intro H locs hW
  refine lv_as (y := kcA a nn) er_2087 ?_
  clear er_2087 r_2087
  refine lv_istore_n (lv' := [(1, .int (kcA a nn)), (0, .ref mo)]) hx hb dX11_look_4 rfl hl (by decide) rfl ?_
  clear hl ls; intro ls hl
  refine lv_iconst (v := (-1)) hx hb dX11_look_5 (by decide) ?_
  refine lv_istore_n (lv' := [(2, .int (-1)), (1, .int (kcA a nn)), (0, .ref mo)]) hx hb dX11_look_6 rfl hl (by decide) rfl ?_
  clear hl ls; intro ls hl
  refine lv_ldc (v := 1000000) hx hb hown (ht _ k_ct_X11_145) dX11_look_7 ?_
  refine lv_istore_n (lv' := [(3, .int 1000000), (2, .int (-1)), (1, .int (kcA a nn)), (0, .ref mo)]) hx hb dX11_look_9 rfl hl (by decide) rfl ?_
  clear hl ls; intro ls hl
  refine lv_iconst (v := 0) hx hb dX11_look_10 (by decide) ?_
  refine lv_istore (lv' := [(4, .int 0), (3, .int 1000000), (2, .int (-1)), (1, .int (kcA a nn)), (0, .ref mo)]) hx hb dX11_look_11 hl (by decide) rfl ?_
  clear hl ls; intro ls hl
  have K_2088 : ∀ (n_ : Nat) (xx : Nat) (x_2089 : Int32) (x_2090 : Int32) (x_2091 : Int32) (mz : Nat → Int32) (_ : x_2089 = nI xx) (_ : x_2090 = (lookR (fun x w => nI (10 * x + w)) (fun x w => mal (kcA a nn) (fun i => fl (nI i) (a 7) (nI x) (nI w - 4))) (-1, 1000000) xx).2) (_ : x_2091 = (lookR (fun x w => nI (10 * x + w)) (fun x w => mal (kcA a nn) (fun i => fl (nI i) (a 7) (nI x) (nI w - 4))) (-1, 1000000) xx).1) (_ : xx ≤ 31) (_ : ¬ 0 < (kcA a nn) → xx = 0) (_ : 31 - xx < n_) (H : Heap) (locs : List Loc) (ls : Array Slot), Wd G A_ s_.heap [(mo, .inr (9, [.ref al, .ref ke, .ref ik, .ref rq, .long mab, .long mbe, .ref so, .ref ha, .ref te, .ref bt, .int bL, .int tA, .int tL, .int tK, .int tV, .ref an, .ref vs])), (al, .inl (G.2.1, 159, .inl a)), (te, .inl (G.2.1, 6, .inl mz))] H locs → lv_has ls 7 [(4, .int x_2089), (3, .int x_2090), (2, .int x_2091), (1, .int (kcA a nn)), (0, .ref mo)] → W p_ l e_ ({ frames := 2, cells := 0, slots := 0, locals := 50 }) s_ m_ ar_ be_ me_ cd_ H locs 0 0 Q (F0 m_ 13 ls []) := by
    intro n_
    induction n_ with
    | zero => intro xx x_2089 x_2090 x_2091 mz ex_2089 ex_2090 ex_2091 hx9 hx0 hm_; exact absurd hm_ (Nat.not_lt_zero _)
    | succ n_ ihK_2088 =>
      intro xx x_2089 x_2090 x_2091 mz ex_2089 ex_2090 ex_2091 hx9 hx0 hm_ H locs ls hW hl
      subst ex_2089
      subst ex_2090
      subst ex_2091
      refine lv_iload hx hb dX11_look_13 (lv_at hl 0 rfl) ?_
      refine lv_bipush (v := 30) hx hb dX11_look_15 (by decide) ?_
      refine lv_icmp_gt (tgt := 126) hx hb dX11_look_17 (by decide) (fun c_2092 => ?_) (fun c_2092 => ?_)
      · replace c_2092 := Int32.not_le.mpr c_2092
        have c_2092n : ¬ xx ≤ 30 := fun q => c_2092 ((nI_leI (a := xx) (b := 30) (by omega) (by omega)).mpr q)
        refine lv_iload_n hx hb dX11_look_126 rfl (lv_at hl 2 rfl) ?_
        subst hQ
        exact g_iret (v := ((lookR (fun x w => nI (10 * x + w)) (fun x w => mal (kcA a nn) (fun i => fl (nI i) (a 7) (nI x) (nI w - 4))) (-1, 1000000) xx).1)) C hW hrt ⟨mz, by first | (rw [if_neg c_2092, hx0 c_2092]; rfl) | (rcases Decidable.em (0 < (kcA a nn)) with hz | hz <;> first | (rw [if_pos hz, show xx = 31 by omega]; done) | (exact absurd (hx0 hz) (by omega))), by rfl⟩ dX11_look_127
      · replace c_2092 := Int32.not_lt.mp c_2092
        have c_2092n : xx ≤ 30 := (nI_leI (a := xx) (b := 30) (by omega) (by omega)).mp c_2092
        refine lv_iload_n hx hb dX11_look_20 rfl (lv_at hl 3 rfl) ?_
        refine lv_if_le (tgt := 126) hx hb dX11_look_21 (by decide) (fun c_2093 => ?_) (fun c_2093 => ?_)
        · replace c_2093 := Int32.not_lt.mpr c_2093
          refine lv_iload_n hx hb dX11_look_126 rfl (lv_at hl 2 rfl) ?_
          subst hQ
          exact g_iret (v := ((lookR (fun x w => nI (10 * x + w)) (fun x w => mal (kcA a nn) (fun i => fl (nI i) (a 7) (nI x) (nI w - 4))) (-1, 1000000) xx).1)) C hW hrt ⟨mz, by first | (rw [if_neg c_2093, hx0 c_2093]; rfl) | (rcases Decidable.em (0 < (kcA a nn)) with hz | hz <;> first | (rw [if_pos hz, show xx = 31 by omega]; done) | (exact absurd (hx0 hz) (by omega))), by rfl⟩ dX11_look_127
        · replace c_2093 := Int32.not_le.mp c_2093
          have hgo := c_2093
          refine lv_iconst (v := 0) hx hb dX11_look_24 (by decide) ?_
          refine lv_istore (lv' := [(5, .int 0), (4, .int (nI xx)), (3, .int ((lookR (fun x w => nI (10 * x + w)) (fun x w => mal (kcA a nn) (fun i => fl (nI i) (a 7) (nI x) (nI w - 4))) (-1, 1000000) xx).2)), (2, .int ((lookR (fun x w => nI (10 * x + w)) (fun x w => mal (kcA a nn) (fun i => fl (nI i) (a 7) (nI x) (nI w - 4))) (-1, 1000000) xx).1)), (1, .int (kcA a nn)), (0, .ref mo)]) hx hb dX11_look_25 hl (by decide) rfl ?_
          clear hl ls; intro ls hl
          have K_2094 : ∀ (n_ : Nat) (yy : Nat) (x_2095 : Int32) (x_2096 : Int32) (x_2097 : Int32) (my : Nat → Int32) (_ : x_2095 = nI yy) (_ : x_2096 = (amnF (fun w => nI (10 * xx + w)) (fun w => mal (kcA a nn) (fun i => fl (nI i) (a 7) (nI xx) (nI w - 4))) (lookR (fun x w => nI (10 * x + w)) (fun x w => mal (kcA a nn) (fun i => fl (nI i) (a 7) (nI x) (nI w - 4))) (-1, 1000000) xx) yy).2) (_ : x_2097 = (amnF (fun w => nI (10 * xx + w)) (fun w => mal (kcA a nn) (fun i => fl (nI i) (a 7) (nI xx) (nI w - 4))) (lookR (fun x w => nI (10 * x + w)) (fun x w => mal (kcA a nn) (fun i => fl (nI i) (a 7) (nI x) (nI w - 4))) (-1, 1000000) xx) yy).1) (_ : yy ≤ 9) (_ : 9 - yy < n_) (H : Heap) (locs : List Loc) (ls : Array Slot), Wd G A_ s_.heap [(mo, .inr (9, [.ref al, .ref ke, .ref ik, .ref rq, .long mab, .long mbe, .ref so, .ref ha, .ref te, .ref bt, .int bL, .int tA, .int tL, .int tK, .int tV, .ref an, .ref vs])), (al, .inl (G.2.1, 159, .inl a)), (te, .inl (G.2.1, 6, .inl my))] H locs → lv_has ls 7 [(5, .int x_2095), (4, .int (nI xx)), (3, .int x_2096), (2, .int x_2097), (1, .int (kcA a nn)), (0, .ref mo)] → W p_ l e_ ({ frames := 2, cells := 0, slots := 0, locals := 50 }) s_ m_ ar_ be_ me_ cd_ H locs 0 0 Q (F0 m_ 27 ls []) := by
            intro n_
            induction n_ with
            | zero => intro yy x_2095 x_2096 x_2097 my ex_2095 ex_2096 ex_2097 hy9 hm_; exact absurd hm_ (Nat.not_lt_zero _)
            | succ n_ ihK_2094 =>
              intro yy x_2095 x_2096 x_2097 my ex_2095 ex_2096 ex_2097 hy9 hm_ H locs ls hW hl
              subst ex_2095
              subst ex_2096
              subst ex_2097
              refine lv_iload hx hb dX11_look_27 (lv_at hl 0 rfl) ?_
              refine lv_bipush (v := 9) hx hb dX11_look_29 (by decide) ?_
              refine lv_icmp_ge (tgt := 120) hx hb dX11_look_31 (by decide) (fun c_2098 => ?_) (fun c_2098 => ?_)
              · replace c_2098 := Int32.not_lt.mpr c_2098
                have c_2098n : ¬ yy < 9 := fun q => c_2098 ((nI_ltI (a := yy) (b := 9) (by omega) (by omega)).mpr q)
                obtain rfl : yy = 9 := by omega
                refine lv_iinc (v := (nI xx) + 1) (lv' := [(4, .int ((nI xx) + 1)), (5, .int (nI 9)), (3, .int ((amnF (fun w => nI (10 * xx + w)) (fun w => mal (kcA a nn) (fun i => fl (nI i) (a 7) (nI xx) (nI w - 4))) (lookR (fun x w => nI (10 * x + w)) (fun x w => mal (kcA a nn) (fun i => fl (nI i) (a 7) (nI x) (nI w - 4))) (-1, 1000000) xx) 9).2)), (2, .int ((amnF (fun w => nI (10 * xx + w)) (fun w => mal (kcA a nn) (fun i => fl (nI i) (a 7) (nI xx) (nI w - 4))) (lookR (fun x w => nI (10 * x + w)) (fun x w => mal (kcA a nn) (fun i => fl (nI i) (a 7) (nI x) (nI w - 4))) (-1, 1000000) xx) 9).1)), (1, .int (kcA a nn)), (0, .ref mo)]) hx hb dX11_look_120 hl (k := 1) rfl rfl (by decide) rfl ?_
                clear hl ls; intro ls hl
                refine lv_goto (tgt := 13) hx hb dX11_look_123 (by decide) ?_
                exact ihK_2088 (xx + 1) ((nI xx) + 1) ((amnF (fun w => nI (10 * xx + w)) (fun w => mal (kcA a nn) (fun i => fl (nI i) (a 7) (nI xx) (nI w - 4))) (lookR (fun x w => nI (10 * x + w)) (fun x w => mal (kcA a nn) (fun i => fl (nI i) (a 7) (nI x) (nI w - 4))) (-1, 1000000) xx) 9).2) ((amnF (fun w => nI (10 * xx + w)) (fun w => mal (kcA a nn) (fun i => fl (nI i) (a 7) (nI xx) (nI w - 4))) (lookR (fun x w => nI (10 * x + w)) (fun x w => mal (kcA a nn) (fun i => fl (nI i) (a 7) (nI x) (nI w - 4))) (-1, 1000000) xx) 9).1) my (by exact nI_1 _) (by exact rfl) (by exact rfl) (by first | omega | assumption | (simp; done)) (by exact fun q => absurd hgo q) (by omega) _ _ _ hW (lv_sub hl [0, 2, 3, 4, 5] rfl)
              · replace c_2098 := Int32.not_le.mp c_2098
                have c_2098n : yy < 9 := (nI_ltI (a := yy) (b := 9) (by omega) (by omega)).mp c_2098
                refine lv_iconst (v := 0) hx hb dX11_look_34 (by decide) ?_
                refine lv_istore (lv' := [(6, .int 0), (5, .int (nI yy)), (4, .int (nI xx)), (3, .int ((amnF (fun w => nI (10 * xx + w)) (fun w => mal (kcA a nn) (fun i => fl (nI i) (a 7) (nI xx) (nI w - 4))) (lookR (fun x w => nI (10 * x + w)) (fun x w => mal (kcA a nn) (fun i => fl (nI i) (a 7) (nI x) (nI w - 4))) (-1, 1000000) xx) yy).2)), (2, .int ((amnF (fun w => nI (10 * xx + w)) (fun w => mal (kcA a nn) (fun i => fl (nI i) (a 7) (nI xx) (nI w - 4))) (lookR (fun x w => nI (10 * x + w)) (fun x w => mal (kcA a nn) (fun i => fl (nI i) (a 7) (nI x) (nI w - 4))) (-1, 1000000) xx) yy).1)), (1, .int (kcA a nn)), (0, .ref mo)]) hx hb dX11_look_35 hl (by decide) rfl ?_
                clear hl ls; intro ls hl
                have K_2099 : ∀ (n_ : Nat) (qq : Nat) (x_2100 : Int32) (g_2101 : Nat → Int32) (_ : x_2100 = nI qq) (_ : g_2101 = (fun i => if i < qq then fl (nI i) (a 7) (nI xx) (nI yy - 4) else my i)) (_ : qq ≤ 6) (_ : 6 - qq < n_) (H : Heap) (locs : List Loc) (ls : Array Slot), Wd G A_ s_.heap [(mo, .inr (9, [.ref al, .ref ke, .ref ik, .ref rq, .long mab, .long mbe, .ref so, .ref ha, .ref te, .ref bt, .int bL, .int tA, .int tL, .int tK, .int tV, .ref an, .ref vs])), (al, .inl (G.2.1, 159, .inl a)), (te, .inl (G.2.1, 6, .inl g_2101))] H locs → lv_has ls 7 [(6, .int x_2100), (5, .int (nI yy)), (4, .int (nI xx)), (3, .int ((amnF (fun w => nI (10 * xx + w)) (fun w => mal (kcA a nn) (fun i => fl (nI i) (a 7) (nI xx) (nI w - 4))) (lookR (fun x w => nI (10 * x + w)) (fun x w => mal (kcA a nn) (fun i => fl (nI i) (a 7) (nI x) (nI w - 4))) (-1, 1000000) xx) yy).2)), (2, .int ((amnF (fun w => nI (10 * xx + w)) (fun w => mal (kcA a nn) (fun i => fl (nI i) (a 7) (nI xx) (nI w - 4))) (lookR (fun x w => nI (10 * x + w)) (fun x w => mal (kcA a nn) (fun i => fl (nI i) (a 7) (nI x) (nI w - 4))) (-1, 1000000) xx) yy).1)), (1, .int (kcA a nn)), (0, .ref mo)] → W p_ l e_ ({ frames := 2, cells := 0, slots := 0, locals := 50 }) s_ m_ ar_ be_ me_ cd_ H locs 0 0 Q (F0 m_ 37 ls []) := by
                  intro n_
                  induction n_ with
                  | zero => intro qq x_2100 g_2101 ex_2100 eg_2101 hq9 hm_; exact absurd hm_ (Nat.not_lt_zero _)
                  | succ n_ ihK_2099 =>
                    intro qq x_2100 g_2101 ex_2100 eg_2101 hq9 hm_ H locs ls hW hl
                    subst ex_2100
                    subst eg_2101
                    refine lv_iload hx hb dX11_look_37 (lv_at hl 0 rfl) ?_
                    refine lv_bipush (v := 6) hx hb dX11_look_39 (by decide) ?_
                    refine lv_icmp_ge (tgt := 75) hx hb dX11_look_41 (by decide) (fun c_2102 => ?_) (fun c_2102 => ?_)
                    · replace c_2102 := Int32.not_lt.mpr c_2102
                      have c_2102n : ¬ qq < 6 := fun q => c_2102 ((nI_ltI (a := qq) (b := 6) (by omega) (by omega)).mpr q)
                      obtain rfl : qq = 6 := by omega
                      refine lv_aload_n hx hb dX11_look_75 rfl (lv_at hl 6 rfl) ?_
                      refine lv_iload_n hx hb dX11_look_76 rfl (lv_at hl 5 rfl) ?_
                      refine g_fi C hW [0, 2] rfl (g_runV (As := [.int (kcA a nn)]) (rest := []) (wc := [(mo, .inr (9, [.ref al, .ref ke, .ref ik, .ref rq, .long mab, .long mbe, .ref so, .ref ha, .ref te, .ref bt, .int bL, .int tA, .int tL, .int tK, .int tV, .ref an, .ref vs])), (te, .inl (G.2.1, 6, .inl (fun i => if i < 6 then fl (nI i) (a 7) (nI xx) (nI yy - 4) else my i)))]) (q0 := 0) (ci := 9) C hW hl (c_X11_mostAlike l G mo al ke ik rq so ha te bt an vs mab mbe bL tA tL tK tV (fun i => if i < 6 then fl (nI i) (a 7) (nI xx) (nI yy - 4) else my i) (kcA a nn)  _) k_ml_X11_187 q_X11_mostAlike (by decide) [0, 2] rfl rfl rfl rfl rfl rfl (Nat.le_of_ble_eq_true rfl) dX11_look_77 (by decide)) (fun r_2104 er_2104 => ?_)
                      clear hW H locs; intro H locs hW
                      refine lv_as (y := mal (kcA a nn) (fun i => if i < 6 then fl (nI i) (a 7) (nI xx) (nI yy - 4) else my i)) er_2104 ?_
                      clear er_2104 r_2104
                      refine lv_as (y := mal (kcA a nn) (fun i => fl (nI i) (a 7) (nI xx) (nI yy - 4))) (mal_cong (fun i hi => if_pos hi)) ?_
                      refine lv_istore (lv' := [(6, .int (mal (kcA a nn) (fun i => fl (nI i) (a 7) (nI xx) (nI yy - 4)))), (5, .int (nI yy)), (4, .int (nI xx)), (3, .int ((amnF (fun w => nI (10 * xx + w)) (fun w => mal (kcA a nn) (fun i => fl (nI i) (a 7) (nI xx) (nI w - 4))) (lookR (fun x w => nI (10 * x + w)) (fun x w => mal (kcA a nn) (fun i => fl (nI i) (a 7) (nI x) (nI w - 4))) (-1, 1000000) xx) yy).2)), (2, .int ((amnF (fun w => nI (10 * xx + w)) (fun w => mal (kcA a nn) (fun i => fl (nI i) (a 7) (nI xx) (nI w - 4))) (lookR (fun x w => nI (10 * x + w)) (fun x w => mal (kcA a nn) (fun i => fl (nI i) (a 7) (nI x) (nI w - 4))) (-1, 1000000) xx) yy).1)), (1, .int (kcA a nn)), (0, .ref mo)]) hx hb dX11_look_80 hl (by decide) rfl ?_
                      clear hl ls; intro ls hl
                      refine lv_iload hx hb dX11_look_82 (lv_at hl 0 rfl) ?_
                      refine lv_iload_n hx hb dX11_look_84 rfl (lv_at hl 3 rfl) ?_
                      have J_2107 : ∀ (y_2106 : Int32) (_ : y_2106 = (if (mal (kcA a nn) (fun i => fl (nI i) (a 7) (nI xx) (nI yy - 4))) < ((amnF (fun w => nI (10 * xx + w)) (fun w => mal (kcA a nn) (fun i => fl (nI i) (a 7) (nI xx) (nI w - 4))) (lookR (fun x w => nI (10 * x + w)) (fun x w => mal (kcA a nn) (fun i => fl (nI i) (a 7) (nI x) (nI w - 4))) (-1, 1000000) xx) yy).2) then nI (10 * xx + yy) else (amnF (fun w => nI (10 * xx + w)) (fun w => mal (kcA a nn) (fun i => fl (nI i) (a 7) (nI xx) (nI w - 4))) (lookR (fun x w => nI (10 * x + w)) (fun x w => mal (kcA a nn) (fun i => fl (nI i) (a 7) (nI x) (nI w - 4))) (-1, 1000000) xx) yy).1)), ∀ (H : Heap) (locs : List Loc) (ls : Array Slot), Wd G A_ s_.heap [(mo, .inr (9, [.ref al, .ref ke, .ref ik, .ref rq, .long mab, .long mbe, .ref so, .ref ha, .ref te, .ref bt, .int bL, .int tA, .int tL, .int tK, .int tV, .ref an, .ref vs])), (al, .inl (G.2.1, 159, .inl a)), (te, .inl (G.2.1, 6, .inl (fun i => if i < 6 then fl (nI i) (a 7) (nI xx) (nI yy - 4) else my i)))] H locs → lv_has ls 7 [(6, .int (mal (kcA a nn) (fun i => fl (nI i) (a 7) (nI xx) (nI yy - 4)))), (5, .int (nI yy)), (4, .int (nI xx)), (3, .int ((amnF (fun w => nI (10 * xx + w)) (fun w => mal (kcA a nn) (fun i => fl (nI i) (a 7) (nI xx) (nI w - 4))) (lookR (fun x w => nI (10 * x + w)) (fun x w => mal (kcA a nn) (fun i => fl (nI i) (a 7) (nI x) (nI w - 4))) (-1, 1000000) xx) yy).2)), (2, .int ((amnF (fun w => nI (10 * xx + w)) (fun w => mal (kcA a nn) (fun i => fl (nI i) (a 7) (nI xx) (nI w - 4))) (lookR (fun x w => nI (10 * x + w)) (fun x w => mal (kcA a nn) (fun i => fl (nI i) (a 7) (nI x) (nI w - 4))) (-1, 1000000) xx) yy).1)), (1, .int (kcA a nn)), (0, .ref mo)] → W p_ l e_ ({ frames := 2, cells := 0, slots := 0, locals := 50 }) s_ m_ ar_ be_ me_ cd_ H locs 0 0 Q (F0 m_ 100 ls [.int y_2106]) := by
                        intro y_2106 ey_2106 H locs ls hW hl
                        refine lv_istore_n (lv' := [(2, .int y_2106), (6, .int (mal (kcA a nn) (fun i => fl (nI i) (a 7) (nI xx) (nI yy - 4)))), (5, .int (nI yy)), (4, .int (nI xx)), (3, .int ((amnF (fun w => nI (10 * xx + w)) (fun w => mal (kcA a nn) (fun i => fl (nI i) (a 7) (nI xx) (nI w - 4))) (lookR (fun x w => nI (10 * x + w)) (fun x w => mal (kcA a nn) (fun i => fl (nI i) (a 7) (nI x) (nI w - 4))) (-1, 1000000) xx) yy).2)), (1, .int (kcA a nn)), (0, .ref mo)]) hx hb dX11_look_100 rfl hl (by decide) rfl ?_
                        clear hl ls; intro ls hl
                        refine lv_iload hx hb dX11_look_101 (lv_at hl 1 rfl) ?_
                        refine lv_iload_n hx hb dX11_look_103 rfl (lv_at hl 4 rfl) ?_
                        have J_2110 : ∀ (y_2109 : Int32) (_ : y_2109 = (if (mal (kcA a nn) (fun i => fl (nI i) (a 7) (nI xx) (nI yy - 4))) < ((amnF (fun w => nI (10 * xx + w)) (fun w => mal (kcA a nn) (fun i => fl (nI i) (a 7) (nI xx) (nI w - 4))) (lookR (fun x w => nI (10 * x + w)) (fun x w => mal (kcA a nn) (fun i => fl (nI i) (a 7) (nI x) (nI w - 4))) (-1, 1000000) xx) yy).2) then mal (kcA a nn) (fun i => fl (nI i) (a 7) (nI xx) (nI yy - 4)) else (amnF (fun w => nI (10 * xx + w)) (fun w => mal (kcA a nn) (fun i => fl (nI i) (a 7) (nI xx) (nI w - 4))) (lookR (fun x w => nI (10 * x + w)) (fun x w => mal (kcA a nn) (fun i => fl (nI i) (a 7) (nI x) (nI w - 4))) (-1, 1000000) xx) yy).2)), ∀ (H : Heap) (locs : List Loc) (ls : Array Slot), Wd G A_ s_.heap [(mo, .inr (9, [.ref al, .ref ke, .ref ik, .ref rq, .long mab, .long mbe, .ref so, .ref ha, .ref te, .ref bt, .int bL, .int tA, .int tL, .int tK, .int tV, .ref an, .ref vs])), (al, .inl (G.2.1, 159, .inl a)), (te, .inl (G.2.1, 6, .inl (fun i => if i < 6 then fl (nI i) (a 7) (nI xx) (nI yy - 4) else my i)))] H locs → lv_has ls 7 [(2, .int y_2106), (6, .int (mal (kcA a nn) (fun i => fl (nI i) (a 7) (nI xx) (nI yy - 4)))), (5, .int (nI yy)), (4, .int (nI xx)), (3, .int ((amnF (fun w => nI (10 * xx + w)) (fun w => mal (kcA a nn) (fun i => fl (nI i) (a 7) (nI xx) (nI w - 4))) (lookR (fun x w => nI (10 * x + w)) (fun x w => mal (kcA a nn) (fun i => fl (nI i) (a 7) (nI x) (nI w - 4))) (-1, 1000000) xx) yy).2)), (1, .int (kcA a nn)), (0, .ref mo)] → W p_ l e_ ({ frames := 2, cells := 0, slots := 0, locals := 50 }) s_ m_ ar_ be_ me_ cd_ H locs 0 0 Q (F0 m_ 113 ls [.int y_2109]) := by
                          intro y_2109 ey_2109 H locs ls hW hl
                          refine lv_istore_n (lv' := [(3, .int y_2109), (2, .int y_2106), (6, .int (mal (kcA a nn) (fun i => fl (nI i) (a 7) (nI xx) (nI yy - 4)))), (5, .int (nI yy)), (4, .int (nI xx)), (1, .int (kcA a nn)), (0, .ref mo)]) hx hb dX11_look_113 rfl hl (by decide) rfl ?_
                          clear hl ls; intro ls hl
                          refine lv_iinc (v := (nI yy) + 1) (lv' := [(5, .int ((nI yy) + 1)), (3, .int y_2109), (2, .int y_2106), (6, .int (mal (kcA a nn) (fun i => fl (nI i) (a 7) (nI xx) (nI yy - 4)))), (4, .int (nI xx)), (1, .int (kcA a nn)), (0, .ref mo)]) hx hb dX11_look_114 hl (k := 3) rfl rfl (by decide) rfl ?_
                          clear hl ls; intro ls hl
                          refine lv_goto (tgt := 27) hx hb dX11_look_117 (by decide) ?_
                          exact ihK_2094 (yy + 1) ((nI yy) + 1) y_2109 y_2106 (fun i => if i < 6 then fl (nI i) (a 7) (nI xx) (nI yy - 4) else my i) (by exact nI_1 _) (by (simp only [ey_2106, ey_2109]; exact af_2)) (by (simp only [ey_2106, ey_2109]; exact af_1)) (by first | omega | assumption | (simp; done)) (by omega) _ _ _ hW (lv_sub hl [0, 4, 1, 2, 5, 6] rfl)
                        refine lv_icmp_ge (tgt := 112) hx hb dX11_look_104 (by decide) (fun c_2108 => ?_) (fun c_2108 => ?_)
                        · replace c_2108 := Int32.not_lt.mpr c_2108
                          refine lv_iload_n hx hb dX11_look_112 rfl (lv_at hl 4 rfl) ?_
                          exact J_2110 ((amnF (fun w => nI (10 * xx + w)) (fun w => mal (kcA a nn) (fun i => fl (nI i) (a 7) (nI xx) (nI w - 4))) (lookR (fun x w => nI (10 * x + w)) (fun x w => mal (kcA a nn) (fun i => fl (nI i) (a 7) (nI x) (nI w - 4))) (-1, 1000000) xx) yy).2) (by first | (simp only [c_2108, if_true, if_false, reduceIte]; done) | (simp [c_2108]; done) | rfl | (rw [if_neg c_2108]; done)) _ _ _ hW (lv_sub hl [0, 1, 2, 3, 4, 5, 6] rfl)
                        · replace c_2108 := Int32.not_le.mp c_2108
                          refine lv_iload hx hb dX11_look_107 (lv_at hl 1 rfl) ?_
                          refine lv_goto (tgt := 113) hx hb dX11_look_109 (by decide) ?_
                          exact J_2110 (mal (kcA a nn) (fun i => fl (nI i) (a 7) (nI xx) (nI yy - 4))) (by first | (simp only [c_2108, if_true, if_false, reduceIte]; done) | (simp [c_2108]; done) | rfl | (rw [if_pos c_2108]; done)) _ _ _ hW (lv_sub hl [0, 1, 2, 3, 4, 5, 6] rfl)
                      refine lv_icmp_ge (tgt := 99) hx hb dX11_look_85 (by decide) (fun c_2105 => ?_) (fun c_2105 => ?_)
                      · replace c_2105 := Int32.not_lt.mpr c_2105
                        refine lv_iload_n hx hb dX11_look_99 rfl (lv_at hl 4 rfl) ?_
                        exact J_2107 ((amnF (fun w => nI (10 * xx + w)) (fun w => mal (kcA a nn) (fun i => fl (nI i) (a 7) (nI xx) (nI w - 4))) (lookR (fun x w => nI (10 * x + w)) (fun x w => mal (kcA a nn) (fun i => fl (nI i) (a 7) (nI x) (nI w - 4))) (-1, 1000000) xx) yy).1) (by first | (simp only [c_2105, if_true, if_false, reduceIte]; done) | (simp [c_2105]; done) | rfl | (rw [if_neg c_2105]; done)) _ _ _ hW (lv_sub hl [0, 1, 2, 3, 4, 5, 6] rfl)
                      · replace c_2105 := Int32.not_le.mp c_2105
                        refine lv_bipush (v := 10) hx hb dX11_look_88 (by decide) ?_
                        refine lv_iload hx hb dX11_look_90 (lv_at hl 2 rfl) ?_
                        refine lv_imul hx hb dX11_look_92 ?_
                        refine lv_iload hx hb dX11_look_93 (lv_at hl 1 rfl) ?_
                        refine lv_iadd hx hb dX11_look_95 ?_
                        refine lv_as (y := nI (10 * xx + yy)) (by simp only [nI_lit, nI_add, pk_mul]) ?_
                        refine lv_goto (tgt := 100) hx hb dX11_look_96 (by decide) ?_
                        exact J_2107 (nI (10 * xx + yy)) (by first | (simp only [c_2105, if_true, if_false, reduceIte]; done) | (simp [c_2105]; done) | rfl | (rw [if_pos c_2105]; done)) _ _ _ hW (lv_sub hl [0, 1, 2, 3, 4, 5, 6] rfl)
                    · replace c_2102 := Int32.not_le.mp c_2102
                      have c_2102n : qq < 6 := (nI_ltI (a := qq) (b := 6) (by omega) (by omega)).mp c_2102
                      refine lv_aload_n hx hb dX11_look_44 rfl (lv_at hl 6 rfl) ?_
                      refine g_get (k := 8) (v := .ref te) C hW 0 rfl rfl jnX11 (by decide) k_fl_X11_33 rfl dX11_look_45 ?_
                      refine lv_iload hx hb dX11_look_48 (lv_at hl 0 rfl) ?_
                      refine lv_iload hx hb dX11_look_50 (lv_at hl 0 rfl) ?_
                      refine lv_aload_n hx hb dX11_look_52 rfl (lv_at hl 6 rfl) ?_
                      refine g_get (k := 0) (v := .ref al) C hW 0 rfl rfl jnX11 (by decide) k_fl_X11_7 rfl dX11_look_53 ?_
                      refine lv_bipush (v := 7) hx hb dX11_look_56 (by decide) ?_
                      refine g_ald C hW 1 rfl (vp_in_nI (n := 7) (by omega) (by omega)) dX11_look_58 ?_
                      refine lv_as (y := a 7) (rfl) ?_
                      refine lv_iload hx hb dX11_look_59 (lv_at hl 2 rfl) ?_
                      refine lv_iload hx hb dX11_look_61 (lv_at hl 1 rfl) ?_
                      refine lv_iconst (v := 4) hx hb dX11_look_63 (by decide) ?_
                      refine lv_isub hx hb dX11_look_64 ?_
                      refine g_fi C hW [] rfl (g_runS (As := [.int (nI qq), .int (a 7), .int (nI xx), .int ((nI yy) - 4)]) (rest := [.int (nI qq), .ref te]) (wc := []) C hW hl (c_X11_fliesAs l G (nI qq) (a 7) (nI xx) ((nI yy) - 4)  _) k_ml_X11_99 q_X11_fliesAs (by decide) [] rfl rfl rfl rfl (Nat.le_of_ble_eq_true rfl) dX11_look_65 (by decide)) (fun r_2111 er_2111 => ?_)
                      clear hW H locs; intro H locs hW
                      refine lv_as (y := fl (nI qq) (a 7) (nI xx) ((nI yy) - 4)) er_2111 ?_
                      clear er_2111 r_2111
                      refine g_ast (w' := [(mo, .inr (9, [.ref al, .ref ke, .ref ik, .ref rq, .long mab, .long mbe, .ref so, .ref ha, .ref te, .ref bt, .int bL, .int tA, .int tL, .int tK, .int tV, .ref an, .ref vs])), (al, .inl (G.2.1, 159, .inl a)), (te, .inl (G.2.1, 6, .inl (upd (fun i => if i < qq then fl (nI i) (a 7) (nI xx) (nI yy - 4) else my i) qq (fl (nI qq) (a 7) (nI xx) ((nI yy) - 4)))))]) C hW 2 rfl (ix_in (show (nI qq) = nI qq from (by first | rfl | (simp only [nI_lit, nI_add, pk_mul]; done) | (simp only [nI_lit, nI_add, pk_mul]; congr 1; omega))) (by omega) (by omega)) (by rw [show (nI qq).toNatClampNeg = qq from nI_clamp (by omega)]; rfl) dX11_look_68 ?_
                      clear hW H locs; intro H locs hW
                      refine lv_iinc (v := (nI qq) + 1) (lv' := [(6, .int ((nI qq) + 1)), (5, .int (nI yy)), (4, .int (nI xx)), (3, .int ((amnF (fun w => nI (10 * xx + w)) (fun w => mal (kcA a nn) (fun i => fl (nI i) (a 7) (nI xx) (nI w - 4))) (lookR (fun x w => nI (10 * x + w)) (fun x w => mal (kcA a nn) (fun i => fl (nI i) (a 7) (nI x) (nI w - 4))) (-1, 1000000) xx) yy).2)), (2, .int ((amnF (fun w => nI (10 * xx + w)) (fun w => mal (kcA a nn) (fun i => fl (nI i) (a 7) (nI xx) (nI w - 4))) (lookR (fun x w => nI (10 * x + w)) (fun x w => mal (kcA a nn) (fun i => fl (nI i) (a 7) (nI x) (nI w - 4))) (-1, 1000000) xx) yy).1)), (1, .int (kcA a nn)), (0, .ref mo)]) hx hb dX11_look_69 hl (k := 0) rfl rfl (by decide) rfl ?_
                      clear hl ls; intro ls hl
                      refine lv_goto (tgt := 37) hx hb dX11_look_72 (by decide) ?_
                      exact ihK_2099 (qq + 1) ((nI qq) + 1) (upd (fun i => if i < qq then fl (nI i) (a 7) (nI xx) (nI yy - 4) else my i) qq (fl (nI qq) (a 7) (nI xx) ((nI yy) - 4))) (by exact nI_1 _) (by exact ms_upd my (fun i => fl (nI i) (a 7) (nI xx) (nI yy - 4)) qq) (by first | omega | assumption | (simp; done)) (by omega) _ _ _ hW (lv_sub hl [0, 1, 2, 3, 4, 5, 6] rfl)
                exact K_2099 _ 0 0 my (by first | exact rfl | (simp; done)) (by exact ms_fill) (by first | omega | assumption | (simp; done)) (Nat.lt_succ_self _) _ _ _ hW (lv_sub hl [0, 1, 2, 3, 4, 5, 6] rfl)
          exact K_2094 _ 0 0 ((lookR (fun x w => nI (10 * x + w)) (fun x w => mal (kcA a nn) (fun i => fl (nI i) (a 7) (nI x) (nI w - 4))) (-1, 1000000) xx).2) ((lookR (fun x w => nI (10 * x + w)) (fun x w => mal (kcA a nn) (fun i => fl (nI i) (a 7) (nI x) (nI w - 4))) (-1, 1000000) xx).1) mz (by first | exact rfl | (simp; done)) (by exact rfl) (by exact rfl) (by first | omega | assumption | (simp; done)) (Nat.lt_succ_self _) _ _ _ hW (lv_sub hl [0, 1, 2, 3, 4, 5] rfl)
  exact K_2088 _ 0 0 1000000 (-1) tf (by first | exact rfl | (simp; done)) (by exact rfl) (by exact rfl) (by first | omega | assumption | (simp; done)) (by exact fun _ => rfl) (Nat.lt_succ_self _) _ _ _ hW (lv_sub hl [0, 1, 2, 3, 4] rfl)
set_option maxHeartbeats 4000000 in
set_option maxRecDepth 100000 in
theorem c_X11_kinds_ok (l : Launch) (G : gT) (mo al ke ik rq so ha te bt an vs : Nat) (mab mbe : Int64) (bL tA tL tK tV : Int32) (a : Nat → Int32) (n mn k : Nat) (hk : k < n) (hn : n ≤ 7) (e0 : a 0 = nI n) (e3 : a 3 = nI mn) (hm : mn ≤ 6) : MI l G yX11_kinds cX11_kinds 2 .int ({ frames := 2, cells := 0, slots := 0, locals := 50 }) [.ref mo, .int (nI k)] [(mo, .inr (9, [.ref al, .ref ke, .ref ik, .ref rq, .long mab, .long mbe, .ref so, .ref ha, .ref te, .ref bt, .int bL, .int tA, .int tL, .int tK, .int tV, .ref an, .ref vs])), (al, .inl (G.2.1, 159, .inl a))] (fun (r : Int32) w1 => (r = kpA a (nI k) mn) ∧ w1 = [(mo, .inr (9, [.ref al, .ref ke, .ref ik, .ref rq, .long mab, .long mbe, .ref so, .ref ha, .ref te, .ref bt, .int bL, .int tA, .int tL, .int tK, .int tV, .ref an, .ref vs])), (al, .inl (G.2.1, 159, .inl a))]) := by
  refine MI.mk (by decide) (Nat.le_of_ble_eq_true rfl) ?_
  intro p_ e_ s_ m_ ar_ be_ me_ cd_ A_ ls C hrt hW hl
  have hx := C.1; have hb := C.2.1; have hown := C.2.2.2.1; have ht := C.2.2.2.2.1
  replace hl : lv_has ls 2 [(0, .ref mo), (1, .int (nI k))] := hl
  generalize hQ : MQ be_ _ ar_ s_ 0 0 A_ = Q
  refine lv_aload_n hx hb dX11_kinds_0 rfl (lv_at hl 0 rfl) ?_
  refine lv_iload_n hx hb dX11_kinds_1 rfl (lv_at hl 1 rfl) ?_
  refine g_fi C hW [0, 1] rfl (g_runV (As := [.int (nI k)]) (rest := []) (wc := [(mo, .inr (9, [.ref al, .ref ke, .ref ik, .ref rq, .long mab, .long mbe, .ref so, .ref ha, .ref te, .ref bt, .int bL, .int tA, .int tL, .int tK, .int tV, .ref an, .ref vs])), (al, .inl (G.2.1, 159, .inl a))]) (q0 := 0) (ci := 9) C hW hl (c_X11_isPlayer l G mo al ke ik rq so ha te bt an vs mab mbe bL tA tL tK tV a n (nI k) (by first | assumption | omega) (by first | assumption | omega) _) k_ml_X11_118 q_X11_isPlayer (by decide) [0, 1] rfl rfl rfl rfl rfl rfl (Nat.le_of_ble_eq_true rfl) dX11_kinds_2 (by decide)) (fun r_2112 er_2112 => ?_)
  clear hW; intro H locs hW
  refine lv_as (y := bI (okp n (nI k))) er_2112 ?_
  clear er_2112 r_2112
  refine lv_if_eq (tgt := 16) hx hb dX11_kinds_5 (by decide) (fun c_2113 => ?_) (fun c_2113 => ?_)
  · exfalso; exact dd (okp_nI (by omega) (by assumption)) c_2113
  · refine lv_aload_n hx hb dX11_kinds_8 rfl (lv_at hl 0 rfl) ?_
    refine lv_iload_n hx hb dX11_kinds_9 rfl (lv_at hl 1 rfl) ?_
    refine g_fi C hW [0, 1] rfl (g_runV (As := [.int (nI k)]) (rest := []) (wc := [(mo, .inr (9, [.ref al, .ref ke, .ref ik, .ref rq, .long mab, .long mbe, .ref so, .ref ha, .ref te, .ref bt, .int bL, .int tA, .int tL, .int tK, .int tV, .ref an, .ref vs])), (al, .inl (G.2.1, 159, .inl a))]) (q0 := 0) (ci := 9) C hW hl (c_X11_kindsOfPlayer l G mo al ke ik rq so ha te bt an vs mab mbe bL tA tL tK tV a mn (nI k) (by first | assumption | omega) (by first | assumption | omega) _) k_ml_X11_190 q_X11_kindsOfPlayer (by decide) [0, 1] rfl rfl rfl rfl rfl rfl (Nat.le_of_ble_eq_true rfl) dX11_kinds_10 (by decide)) (fun r_2114 er_2114 => ?_)
    clear hW H locs; intro H locs hW
    refine lv_as (y := kpA a (nI k) mn) er_2114 ?_
    clear er_2114 r_2114
    refine lv_goto (tgt := 22) hx hb dX11_kinds_13 (by decide) ?_
    subst hQ
    exact g_iret (v := (kpA a (nI k) mn)) C hW hrt ⟨by rfl, rfl⟩ dX11_kinds_22
set_option maxHeartbeats 4000000 in
set_option maxRecDepth 100000 in
theorem c_X11_kinds_bad (l : Launch) (G : gT) (mo al ke ik rq so ha te bt an vs : Nat) (mab mbe : Int64) (bL tA tL tK tV : Int32) (rv : Nat → Int32) (a : Nat → Int32) (n : Nat) (p9 : Int32) (e0 : a 0 = nI n) (hn : n ≤ 7) (hbad : okp n p9 = false) : MI l G yX11_kinds cX11_kinds 2 .int ({ frames := 2, cells := 0, slots := 0, locals := 46 }) [.ref mo, .int p9] [(mo, .inr (9, [.ref al, .ref ke, .ref ik, .ref rq, .long mab, .long mbe, .ref so, .ref ha, .ref te, .ref bt, .int bL, .int tA, .int tL, .int tK, .int tV, .ref an, .ref vs])), (al, .inl (G.2.1, 159, .inl a)), (rq, .inl (G.2.1, 3, .inl rv))] (fun (r : Int32) w1 => ∃ u_ : Unit, (r = (-2)) ∧ w1 = [(mo, .inr (9, [.ref al, .ref ke, .ref ik, .ref rq, .long mab, .long mbe, .ref so, .ref ha, .ref te, .ref bt, .int bL, .int tA, .int tL, .int tK, .int tV, .ref an, .ref vs])), (al, .inl (G.2.1, 159, .inl a)), (rq, .inl (G.2.1, 3, .inl (upd rv 0 (rv 0 + 1))))]) := by
  refine MI.mk (by decide) (Nat.le_of_ble_eq_true rfl) ?_
  intro p_ e_ s_ m_ ar_ be_ me_ cd_ A_ ls C hrt hW hl
  have hx := C.1; have hb := C.2.1; have hown := C.2.2.2.1; have ht := C.2.2.2.2.1
  replace hl : lv_has ls 2 [(0, .ref mo), (1, .int p9)] := hl
  generalize hQ : MQ be_ _ ar_ s_ 0 0 A_ = Q
  refine lv_aload_n hx hb dX11_kinds_0 rfl (lv_at hl 0 rfl) ?_
  refine lv_iload_n hx hb dX11_kinds_1 rfl (lv_at hl 1 rfl) ?_
  refine g_fi C hW [0, 1] rfl (g_runV (As := [.int p9]) (rest := []) (wc := [(mo, .inr (9, [.ref al, .ref ke, .ref ik, .ref rq, .long mab, .long mbe, .ref so, .ref ha, .ref te, .ref bt, .int bL, .int tA, .int tL, .int tK, .int tV, .ref an, .ref vs])), (al, .inl (G.2.1, 159, .inl a))]) (q0 := 0) (ci := 9) C hW hl (c_X11_isPlayer l G mo al ke ik rq so ha te bt an vs mab mbe bL tA tL tK tV a n p9 (by first | assumption | omega) (by first | assumption | omega) _) k_ml_X11_118 q_X11_isPlayer (by decide) [0, 1] rfl rfl rfl rfl rfl rfl (Nat.le_of_ble_eq_true rfl) dX11_kinds_2 (by decide)) (fun r_2115 er_2115 => ?_)
  clear hW; intro H locs hW
  refine lv_as (y := bI (okp n p9)) er_2115 ?_
  clear er_2115 r_2115
  refine lv_if_eq (tgt := 16) hx hb dX11_kinds_5 (by decide) (fun c_2116 => ?_) (fun c_2116 => ?_)
  · refine lv_aload_n hx hb dX11_kinds_16 rfl (lv_at hl 0 rfl) ?_
    refine lv_bipush (v := (-2)) hx hb dX11_kinds_17 (by decide) ?_
    refine g_fiw (wr := [(al, .inl (G.2.1, 159, .inl a))]) (ww := fun (u_ : Unit) => [(mo, .inr (9, [.ref al, .ref ke, .ref ik, .ref rq, .long mab, .long mbe, .ref so, .ref ha, .ref te, .ref bt, .int bL, .int tA, .int tL, .int tK, .int tV, .ref an, .ref vs])), (rq, .inl (G.2.1, 3, .inl (upd rv 0 (rv 0 + 1))))]) (w2 := fun (u_ : Unit) => [(mo, .inr (9, [.ref al, .ref ke, .ref ik, .ref rq, .long mab, .long mbe, .ref so, .ref ha, .ref te, .ref bt, .int bL, .int tA, .int tL, .int tK, .int tV, .ref an, .ref vs])), (al, .inl (G.2.1, 159, .inl a)), (rq, .inl (G.2.1, 3, .inl (upd rv 0 (rv 0 + 1))))]) C hW [0, 2] [1] [1, 0, 2] rfl rfl (by decide) (by decide) (by decide) (fun _ => rfl) (g_runV (As := [.int (-2)]) (rest := []) (wc := [(mo, .inr (9, [.ref al, .ref ke, .ref ik, .ref rq, .long mab, .long mbe, .ref so, .ref ha, .ref te, .ref bt, .int bL, .int tA, .int tL, .int tK, .int tV, .ref an, .ref vs])), (rq, .inl (G.2.1, 3, .inl rv))]) (q0 := 0) (ci := 9) C hW hl (c_X11_bad l G mo al ke ik rq so ha te bt an vs mab mbe bL tA tL tK tV rv (-2)  _) k_ml_X11_67 q_X11_bad (by decide) [0, 2] rfl rfl rfl rfl rfl rfl (Nat.le_of_ble_eq_true rfl) dX11_kinds_19 (by decide)) (fun r_2117 _ er_2117 => ?_)
    clear hW H locs; intro H locs hW
    refine lv_as (y := (-2)) er_2117 ?_
    clear er_2117 r_2117
    replace hW : Wd G A_ s_.heap [(mo, .inr (9, [.ref al, .ref ke, .ref ik, .ref rq, .long mab, .long mbe, .ref so, .ref ha, .ref te, .ref bt, .int bL, .int tA, .int tL, .int tK, .int tV, .ref an, .ref vs])), (al, .inl (G.2.1, 159, .inl a)), (rq, .inl (G.2.1, 3, .inl (upd rv 0 (rv 0 + 1))))] H locs := hW
    subst hQ
    exact g_iret (v := (-2)) C hW hrt ⟨(), by rfl, by rfl⟩ dX11_kinds_22
  · exfalso; simp [bI_ne.mp c_2116, if_true, if_false, reduceIte, Bool.false_eq_true] at hbad
set_option maxHeartbeats 4000000 in
set_option maxRecDepth 100000 in
theorem c_X11_ask_ok (l : Launch) (G : gT) (mo al ke ik rq so ha te bt an vs : Nat) (mab mbe : Int64) (bL tA tL tK tV : Int32) (a : Nat → Int32) (tf : Nat → Int32) (n mn k : Nat) (hk : k < n) (hn : n ≤ 7) (e0 : a 0 = nI n) (e3 : a 3 = nI mn) (hm : mn ≤ 6) : MI l G yX11_ask cX11_ask 7 .int ({ frames := 2, cells := 0, slots := 0, locals := 50 }) [.ref mo, .int (nI k)] [(mo, .inr (9, [.ref al, .ref ke, .ref ik, .ref rq, .long mab, .long mbe, .ref so, .ref ha, .ref te, .ref bt, .int bL, .int tA, .int tL, .int tK, .int tV, .ref an, .ref vs])), (al, .inl (G.2.1, 159, .inl a)), (te, .inl (G.2.1, 6, .inl tf))] (fun (r : Int32) w1 => ∃ u_ : Nat → Int32, (r = if 0 < (kpA a (nI k) mn) then ((amnF nI (fun t => mal (kpA a (nI k) mn) (fun i => bl (nI i) (a (33 + k)) (nI t))) (-1, 1000000) 24)).1 else -1) ∧ w1 = [(mo, .inr (9, [.ref al, .ref ke, .ref ik, .ref rq, .long mab, .long mbe, .ref so, .ref ha, .ref te, .ref bt, .int bL, .int tA, .int tL, .int tK, .int tV, .ref an, .ref vs])), (al, .inl (G.2.1, 159, .inl a)), (te, .inl (G.2.1, 6, .inl u_))]) := by
  refine MI.mk (by decide) (Nat.le_of_ble_eq_true rfl) ?_
  intro p_ e_ s_ m_ ar_ be_ me_ cd_ A_ ls C hrt hW hl
  have hx := C.1; have hb := C.2.1; have hown := C.2.2.2.1; have ht := C.2.2.2.2.1
  replace hl : lv_has ls 7 [(0, .ref mo), (1, .int (nI k))] := hl
  generalize hQ : MQ be_ _ ar_ s_ 0 0 A_ = Q
  refine lv_aload_n hx hb dX11_ask_0 rfl (lv_at hl 0 rfl) ?_
  refine lv_iload_n hx hb dX11_ask_1 rfl (lv_at hl 1 rfl) ?_
  refine g_fi C hW [0, 1] rfl (g_runV (As := [.int (nI k)]) (rest := []) (wc := [(mo, .inr (9, [.ref al, .ref ke, .ref ik, .ref rq, .long mab, .long mbe, .ref so, .ref ha, .ref te, .ref bt, .int bL, .int tA, .int tL, .int tK, .int tV, .ref an, .ref vs])), (al, .inl (G.2.1, 159, .inl a))]) (q0 := 0) (ci := 9) C hW hl (c_X11_isPlayer l G mo al ke ik rq so ha te bt an vs mab mbe bL tA tL tK tV a n (nI k) (by first | assumption | omega) (by first | assumption | omega) _) k_ml_X11_118 q_X11_isPlayer (by decide) [0, 1] rfl rfl rfl rfl rfl rfl (Nat.le_of_ble_eq_true rfl) dX11_ask_2 (by decide)) (fun r_2119 er_2119 => ?_)
  clear hW; intro H locs hW
  refine lv_as (y := bI (okp n (nI k))) er_2119 ?_
  clear er_2119 r_2119
  refine lv_if_ne (tgt := 15) hx hb dX11_ask_5 (by decide) (fun c_2120 => ?_) (fun c_2120 => ?_)
  · refine lv_aload_n hx hb dX11_ask_15 rfl (lv_at hl 0 rfl) ?_
    refine lv_iload_n hx hb dX11_ask_16 rfl (lv_at hl 1 rfl) ?_
    refine g_fi C hW [0, 1] rfl (g_runV (As := [.int (nI k)]) (rest := []) (wc := [(mo, .inr (9, [.ref al, .ref ke, .ref ik, .ref rq, .long mab, .long mbe, .ref so, .ref ha, .ref te, .ref bt, .int bL, .int tA, .int tL, .int tK, .int tV, .ref an, .ref vs])), (al, .inl (G.2.1, 159, .inl a))]) (q0 := 0) (ci := 9) C hW hl (c_X11_kindsOfPlayer l G mo al ke ik rq so ha te bt an vs mab mbe bL tA tL tK tV a mn (nI k) (by first | assumption | omega) (by first | assumption | omega) _) k_ml_X11_190 q_X11_kindsOfPlayer (by decide) [0, 1] rfl rfl rfl rfl rfl rfl (Nat.le_of_ble_eq_true rfl) dX11_ask_17 (by decide)) (fun r_2121 er_2121 => ?_)
    clear hW H locs; intro H locs hW
    refine lv_as (y := kpA a (nI k) mn) er_2121 ?_
    clear er_2121 r_2121
    refine lv_istore_n (lv' := [(2, .int (kpA a (nI k) mn)), (0, .ref mo), (1, .int (nI k))]) hx hb dX11_ask_20 rfl hl (by decide) rfl ?_
    clear hl ls; intro ls hl
    refine lv_iconst (v := (-1)) hx hb dX11_ask_21 (by decide) ?_
    refine lv_istore_n (lv' := [(3, .int (-1)), (2, .int (kpA a (nI k) mn)), (0, .ref mo), (1, .int (nI k))]) hx hb dX11_ask_22 rfl hl (by decide) rfl ?_
    clear hl ls; intro ls hl
    refine lv_ldc (v := 1000000) hx hb hown (ht _ k_ct_X11_145) dX11_ask_23 ?_
    refine lv_istore (lv' := [(4, .int 1000000), (3, .int (-1)), (2, .int (kpA a (nI k) mn)), (0, .ref mo), (1, .int (nI k))]) hx hb dX11_ask_25 hl (by decide) rfl ?_
    clear hl ls; intro ls hl
    refine lv_iconst (v := 0) hx hb dX11_ask_27 (by decide) ?_
    refine lv_istore (lv' := [(5, .int 0), (4, .int 1000000), (3, .int (-1)), (2, .int (kpA a (nI k) mn)), (0, .ref mo), (1, .int (nI k))]) hx hb dX11_ask_28 hl (by decide) rfl ?_
    clear hl ls; intro ls hl
    have K_2122 : ∀ (n_ : Nat) (t : Nat) (x_2123 : Int32) (x_2124 : Int32) (x_2125 : Int32) (my : Nat → Int32) (_ : x_2123 = nI t) (_ : x_2124 = (amnF nI (fun t => mal (kpA a (nI k) mn) (fun i => bl (nI i) (a (33 + k)) (nI t))) (-1, 1000000) t).2) (_ : x_2125 = (amnF nI (fun t => mal (kpA a (nI k) mn) (fun i => bl (nI i) (a (33 + k)) (nI t))) (-1, 1000000) t).1) (_ : t ≤ 24) (_ : ¬ 0 < (kpA a (nI k) mn) → t = 0) (_ : 24 - t < n_) (H : Heap) (locs : List Loc) (ls : Array Slot), Wd G A_ s_.heap [(mo, .inr (9, [.ref al, .ref ke, .ref ik, .ref rq, .long mab, .long mbe, .ref so, .ref ha, .ref te, .ref bt, .int bL, .int tA, .int tL, .int tK, .int tV, .ref an, .ref vs])), (al, .inl (G.2.1, 159, .inl a)), (te, .inl (G.2.1, 6, .inl my))] H locs → lv_has ls 7 [(5, .int x_2123), (4, .int x_2124), (3, .int x_2125), (2, .int (kpA a (nI k) mn)), (0, .ref mo), (1, .int (nI k))] → W p_ l e_ ({ frames := 2, cells := 0, slots := 0, locals := 50 }) s_ m_ ar_ be_ me_ cd_ H locs 0 0 Q (F0 m_ 30 ls []) := by
      intro n_
      induction n_ with
      | zero => intro t x_2123 x_2124 x_2125 my ex_2123 ex_2124 ex_2125 ht hx0 hm_; exact absurd hm_ (Nat.not_lt_zero _)
      | succ n_ ihK_2122 =>
        intro t x_2123 x_2124 x_2125 my ex_2123 ex_2124 ex_2125 ht hx0 hm_ H locs ls hW hl
        subst ex_2123
        subst ex_2124
        subst ex_2125
        refine lv_iload hx hb dX11_ask_30 (lv_at hl 0 rfl) ?_
        refine lv_bipush (v := 24) hx hb dX11_ask_32 (by decide) ?_
        refine lv_icmp_ge (tgt := 123) hx hb dX11_ask_34 (by decide) (fun c_2126 => ?_) (fun c_2126 => ?_)
        · replace c_2126 := Int32.not_lt.mpr c_2126
          have c_2126n : ¬ t < 24 := fun q => c_2126 ((nI_ltI (a := t) (b := 24) (by omega) (by omega)).mpr q)
          refine lv_iload_n hx hb dX11_ask_123 rfl (lv_at hl 2 rfl) ?_
          subst hQ
          exact g_iret (v := ((amnF nI (fun t => mal (kpA a (nI k) mn) (fun i => bl (nI i) (a (33 + k)) (nI t))) (-1, 1000000) t).1)) C hW hrt ⟨my, by first | (rw [if_neg c_2126, hx0 c_2126]; rfl) | (rcases Decidable.em (0 < (kpA a (nI k) mn)) with hz | hz <;> first | (rw [if_pos hz, show t = 24 by omega]; done) | (exact absurd (hx0 hz) (by omega))), by rfl⟩ dX11_ask_124
        · replace c_2126 := Int32.not_le.mp c_2126
          have c_2126n : t < 24 := (nI_ltI (a := t) (b := 24) (by omega) (by omega)).mp c_2126
          refine lv_iload_n hx hb dX11_ask_37 rfl (lv_at hl 3 rfl) ?_
          refine lv_if_le (tgt := 123) hx hb dX11_ask_38 (by decide) (fun c_2127 => ?_) (fun c_2127 => ?_)
          · replace c_2127 := Int32.not_lt.mpr c_2127
            refine lv_iload_n hx hb dX11_ask_123 rfl (lv_at hl 2 rfl) ?_
            subst hQ
            exact g_iret (v := ((amnF nI (fun t => mal (kpA a (nI k) mn) (fun i => bl (nI i) (a (33 + k)) (nI t))) (-1, 1000000) t).1)) C hW hrt ⟨my, by first | (rw [if_neg c_2127, hx0 c_2127]; rfl) | (rcases Decidable.em (0 < (kpA a (nI k) mn)) with hz | hz <;> first | (rw [if_pos hz, show t = 24 by omega]; done) | (exact absurd (hx0 hz) (by omega))), by rfl⟩ dX11_ask_124
          · replace c_2127 := Int32.not_le.mp c_2127
            have hgo := c_2127
            refine lv_iconst (v := 0) hx hb dX11_ask_41 (by decide) ?_
            refine lv_istore (lv' := [(6, .int 0), (5, .int (nI t)), (4, .int ((amnF nI (fun t => mal (kpA a (nI k) mn) (fun i => bl (nI i) (a (33 + k)) (nI t))) (-1, 1000000) t).2)), (3, .int ((amnF nI (fun t => mal (kpA a (nI k) mn) (fun i => bl (nI i) (a (33 + k)) (nI t))) (-1, 1000000) t).1)), (2, .int (kpA a (nI k) mn)), (0, .ref mo), (1, .int (nI k))]) hx hb dX11_ask_42 hl (by decide) rfl ?_
            clear hl ls; intro ls hl
            have K_2128 : ∀ (n_ : Nat) (qq : Nat) (x_2129 : Int32) (g_2130 : Nat → Int32) (_ : x_2129 = nI qq) (_ : g_2130 = (fun i => if i < qq then bl (nI i) (a (33 + k)) (nI t) else my i)) (_ : qq ≤ 6) (_ : 6 - qq < n_) (H : Heap) (locs : List Loc) (ls : Array Slot), Wd G A_ s_.heap [(mo, .inr (9, [.ref al, .ref ke, .ref ik, .ref rq, .long mab, .long mbe, .ref so, .ref ha, .ref te, .ref bt, .int bL, .int tA, .int tL, .int tK, .int tV, .ref an, .ref vs])), (al, .inl (G.2.1, 159, .inl a)), (te, .inl (G.2.1, 6, .inl g_2130))] H locs → lv_has ls 7 [(6, .int x_2129), (5, .int (nI t)), (4, .int ((amnF nI (fun t => mal (kpA a (nI k) mn) (fun i => bl (nI i) (a (33 + k)) (nI t))) (-1, 1000000) t).2)), (3, .int ((amnF nI (fun t => mal (kpA a (nI k) mn) (fun i => bl (nI i) (a (33 + k)) (nI t))) (-1, 1000000) t).1)), (2, .int (kpA a (nI k) mn)), (0, .ref mo), (1, .int (nI k))] → W p_ l e_ ({ frames := 2, cells := 0, slots := 0, locals := 50 }) s_ m_ ar_ be_ me_ cd_ H locs 0 0 Q (F0 m_ 44 ls []) := by
              intro n_
              induction n_ with
              | zero => intro qq x_2129 g_2130 ex_2129 eg_2130 hq9 hm_; exact absurd hm_ (Nat.not_lt_zero _)
              | succ n_ ihK_2128 =>
                intro qq x_2129 g_2130 ex_2129 eg_2130 hq9 hm_ H locs ls hW hl
                subst ex_2129
                subst eg_2130
                refine lv_iload hx hb dX11_ask_44 (lv_at hl 0 rfl) ?_
                refine lv_bipush (v := 6) hx hb dX11_ask_46 (by decide) ?_
                refine lv_icmp_ge (tgt := 80) hx hb dX11_ask_48 (by decide) (fun c_2131 => ?_) (fun c_2131 => ?_)
                · replace c_2131 := Int32.not_lt.mpr c_2131
                  have c_2131n : ¬ qq < 6 := fun q => c_2131 ((nI_ltI (a := qq) (b := 6) (by omega) (by omega)).mpr q)
                  obtain rfl : qq = 6 := by omega
                  refine lv_aload_n hx hb dX11_ask_80 rfl (lv_at hl 5 rfl) ?_
                  refine lv_iload_n hx hb dX11_ask_81 rfl (lv_at hl 4 rfl) ?_
                  refine g_fi C hW [0, 2] rfl (g_runV (As := [.int (kpA a (nI k) mn)]) (rest := []) (wc := [(mo, .inr (9, [.ref al, .ref ke, .ref ik, .ref rq, .long mab, .long mbe, .ref so, .ref ha, .ref te, .ref bt, .int bL, .int tA, .int tL, .int tK, .int tV, .ref an, .ref vs])), (te, .inl (G.2.1, 6, .inl (fun i => if i < 6 then bl (nI i) (a (33 + k)) (nI t) else my i)))]) (q0 := 0) (ci := 9) C hW hl (c_X11_mostAlike l G mo al ke ik rq so ha te bt an vs mab mbe bL tA tL tK tV (fun i => if i < 6 then bl (nI i) (a (33 + k)) (nI t) else my i) (kpA a (nI k) mn)  _) k_ml_X11_187 q_X11_mostAlike (by decide) [0, 2] rfl rfl rfl rfl rfl rfl (Nat.le_of_ble_eq_true rfl) dX11_ask_82 (by decide)) (fun r_2133 er_2133 => ?_)
                  clear hW H locs; intro H locs hW
                  refine lv_as (y := mal (kpA a (nI k) mn) (fun i => if i < 6 then bl (nI i) (a (33 + k)) (nI t) else my i)) er_2133 ?_
                  clear er_2133 r_2133
                  refine lv_as (y := mal (kpA a (nI k) mn) (fun i => bl (nI i) (a (33 + k)) (nI t))) (mal_cong (fun i hi => if_pos hi)) ?_
                  refine lv_istore (lv' := [(6, .int (mal (kpA a (nI k) mn) (fun i => bl (nI i) (a (33 + k)) (nI t)))), (5, .int (nI t)), (4, .int ((amnF nI (fun t => mal (kpA a (nI k) mn) (fun i => bl (nI i) (a (33 + k)) (nI t))) (-1, 1000000) t).2)), (3, .int ((amnF nI (fun t => mal (kpA a (nI k) mn) (fun i => bl (nI i) (a (33 + k)) (nI t))) (-1, 1000000) t).1)), (2, .int (kpA a (nI k) mn)), (0, .ref mo), (1, .int (nI k))]) hx hb dX11_ask_85 hl (by decide) rfl ?_
                  clear hl ls; intro ls hl
                  refine lv_iload hx hb dX11_ask_87 (lv_at hl 0 rfl) ?_
                  refine lv_iload hx hb dX11_ask_89 (lv_at hl 2 rfl) ?_
                  have J_2136 : ∀ (y_2135 : Int32) (_ : y_2135 = (if (mal (kpA a (nI k) mn) (fun i => bl (nI i) (a (33 + k)) (nI t))) < ((amnF nI (fun t => mal (kpA a (nI k) mn) (fun i => bl (nI i) (a (33 + k)) (nI t))) (-1, 1000000) t).2) then nI t else (amnF nI (fun t => mal (kpA a (nI k) mn) (fun i => bl (nI i) (a (33 + k)) (nI t))) (-1, 1000000) t).1)), ∀ (H : Heap) (locs : List Loc) (ls : Array Slot), Wd G A_ s_.heap [(mo, .inr (9, [.ref al, .ref ke, .ref ik, .ref rq, .long mab, .long mbe, .ref so, .ref ha, .ref te, .ref bt, .int bL, .int tA, .int tL, .int tK, .int tV, .ref an, .ref vs])), (al, .inl (G.2.1, 159, .inl a)), (te, .inl (G.2.1, 6, .inl (fun i => if i < 6 then bl (nI i) (a (33 + k)) (nI t) else my i)))] H locs → lv_has ls 7 [(6, .int (mal (kpA a (nI k) mn) (fun i => bl (nI i) (a (33 + k)) (nI t)))), (5, .int (nI t)), (4, .int ((amnF nI (fun t => mal (kpA a (nI k) mn) (fun i => bl (nI i) (a (33 + k)) (nI t))) (-1, 1000000) t).2)), (3, .int ((amnF nI (fun t => mal (kpA a (nI k) mn) (fun i => bl (nI i) (a (33 + k)) (nI t))) (-1, 1000000) t).1)), (2, .int (kpA a (nI k) mn)), (0, .ref mo), (1, .int (nI k))] → W p_ l e_ ({ frames := 2, cells := 0, slots := 0, locals := 50 }) s_ m_ ar_ be_ me_ cd_ H locs 0 0 Q (F0 m_ 100 ls [.int y_2135]) := by
                    intro y_2135 ey_2135 H locs ls hW hl
                    refine lv_istore_n (lv' := [(3, .int y_2135), (6, .int (mal (kpA a (nI k) mn) (fun i => bl (nI i) (a (33 + k)) (nI t)))), (5, .int (nI t)), (4, .int ((amnF nI (fun t => mal (kpA a (nI k) mn) (fun i => bl (nI i) (a (33 + k)) (nI t))) (-1, 1000000) t).2)), (2, .int (kpA a (nI k) mn)), (0, .ref mo), (1, .int (nI k))]) hx hb dX11_ask_100 rfl hl (by decide) rfl ?_
                    clear hl ls; intro ls hl
                    refine lv_iload hx hb dX11_ask_101 (lv_at hl 1 rfl) ?_
                    refine lv_iload hx hb dX11_ask_103 (lv_at hl 3 rfl) ?_
                    have J_2139 : ∀ (y_2138 : Int32) (_ : y_2138 = (if (mal (kpA a (nI k) mn) (fun i => bl (nI i) (a (33 + k)) (nI t))) < ((amnF nI (fun t => mal (kpA a (nI k) mn) (fun i => bl (nI i) (a (33 + k)) (nI t))) (-1, 1000000) t).2) then mal (kpA a (nI k) mn) (fun i => bl (nI i) (a (33 + k)) (nI t)) else (amnF nI (fun t => mal (kpA a (nI k) mn) (fun i => bl (nI i) (a (33 + k)) (nI t))) (-1, 1000000) t).2)), ∀ (H : Heap) (locs : List Loc) (ls : Array Slot), Wd G A_ s_.heap [(mo, .inr (9, [.ref al, .ref ke, .ref ik, .ref rq, .long mab, .long mbe, .ref so, .ref ha, .ref te, .ref bt, .int bL, .int tA, .int tL, .int tK, .int tV, .ref an, .ref vs])), (al, .inl (G.2.1, 159, .inl a)), (te, .inl (G.2.1, 6, .inl (fun i => if i < 6 then bl (nI i) (a (33 + k)) (nI t) else my i)))] H locs → lv_has ls 7 [(3, .int y_2135), (6, .int (mal (kpA a (nI k) mn) (fun i => bl (nI i) (a (33 + k)) (nI t)))), (5, .int (nI t)), (4, .int ((amnF nI (fun t => mal (kpA a (nI k) mn) (fun i => bl (nI i) (a (33 + k)) (nI t))) (-1, 1000000) t).2)), (2, .int (kpA a (nI k) mn)), (0, .ref mo), (1, .int (nI k))] → W p_ l e_ ({ frames := 2, cells := 0, slots := 0, locals := 50 }) s_ m_ ar_ be_ me_ cd_ H locs 0 0 Q (F0 m_ 115 ls [.int y_2138]) := by
                      intro y_2138 ey_2138 H locs ls hW hl
                      refine lv_istore (lv' := [(4, .int y_2138), (3, .int y_2135), (6, .int (mal (kpA a (nI k) mn) (fun i => bl (nI i) (a (33 + k)) (nI t)))), (5, .int (nI t)), (2, .int (kpA a (nI k) mn)), (0, .ref mo), (1, .int (nI k))]) hx hb dX11_ask_115 hl (by decide) rfl ?_
                      clear hl ls; intro ls hl
                      refine lv_iinc (v := (nI t) + 1) (lv' := [(5, .int ((nI t) + 1)), (4, .int y_2138), (3, .int y_2135), (6, .int (mal (kpA a (nI k) mn) (fun i => bl (nI i) (a (33 + k)) (nI t)))), (2, .int (kpA a (nI k) mn)), (0, .ref mo), (1, .int (nI k))]) hx hb dX11_ask_117 hl (k := 3) rfl rfl (by decide) rfl ?_
                      clear hl ls; intro ls hl
                      refine lv_goto (tgt := 30) hx hb dX11_ask_120 (by decide) ?_
                      exact ihK_2122 (t + 1) ((nI t) + 1) y_2138 y_2135 (fun i => if i < 6 then bl (nI i) (a (33 + k)) (nI t) else my i) (by exact nI_1 _) (by (simp only [ey_2135, ey_2138]; exact af_2)) (by (simp only [ey_2135, ey_2138]; exact af_1)) (by first | omega | assumption | (simp; done)) (by exact fun q => absurd hgo q) (by omega) _ _ _ hW (lv_sub hl [0, 1, 2, 4, 5, 6] rfl)
                    refine lv_icmp_ge (tgt := 113) hx hb dX11_ask_105 (by decide) (fun c_2137 => ?_) (fun c_2137 => ?_)
                    · replace c_2137 := Int32.not_lt.mpr c_2137
                      refine lv_iload hx hb dX11_ask_113 (lv_at hl 3 rfl) ?_
                      exact J_2139 ((amnF nI (fun t => mal (kpA a (nI k) mn) (fun i => bl (nI i) (a (33 + k)) (nI t))) (-1, 1000000) t).2) (by first | (simp only [c_2137, if_true, if_false, reduceIte]; done) | (simp [c_2137]; done) | rfl | (rw [if_neg c_2137]; done)) _ _ _ hW (lv_sub hl [0, 1, 2, 3, 4, 5, 6] rfl)
                    · replace c_2137 := Int32.not_le.mp c_2137
                      refine lv_iload hx hb dX11_ask_108 (lv_at hl 1 rfl) ?_
                      refine lv_goto (tgt := 115) hx hb dX11_ask_110 (by decide) ?_
                      exact J_2139 (mal (kpA a (nI k) mn) (fun i => bl (nI i) (a (33 + k)) (nI t))) (by first | (simp only [c_2137, if_true, if_false, reduceIte]; done) | (simp [c_2137]; done) | rfl | (rw [if_pos c_2137]; done)) _ _ _ hW (lv_sub hl [0, 1, 2, 3, 4, 5, 6] rfl)
                  refine lv_icmp_ge (tgt := 99) hx hb dX11_ask_91 (by decide) (fun c_2134 => ?_) (fun c_2134 => ?_)
                  · replace c_2134 := Int32.not_lt.mpr c_2134
                    refine lv_iload_n hx hb dX11_ask_99 rfl (lv_at hl 3 rfl) ?_
                    exact J_2136 ((amnF nI (fun t => mal (kpA a (nI k) mn) (fun i => bl (nI i) (a (33 + k)) (nI t))) (-1, 1000000) t).1) (by first | (simp only [c_2134, if_true, if_false, reduceIte]; done) | (simp [c_2134]; done) | rfl | (rw [if_neg c_2134]; done)) _ _ _ hW (lv_sub hl [0, 1, 2, 3, 4, 5, 6] rfl)
                  · replace c_2134 := Int32.not_le.mp c_2134
                    refine lv_iload hx hb dX11_ask_94 (lv_at hl 1 rfl) ?_
                    refine lv_goto (tgt := 100) hx hb dX11_ask_96 (by decide) ?_
                    exact J_2136 (nI t) (by first | (simp only [c_2134, if_true, if_false, reduceIte]; done) | (simp [c_2134]; done) | rfl | (rw [if_pos c_2134]; done)) _ _ _ hW (lv_sub hl [0, 1, 2, 3, 4, 5, 6] rfl)
                · replace c_2131 := Int32.not_le.mp c_2131
                  have c_2131n : qq < 6 := (nI_ltI (a := qq) (b := 6) (by omega) (by omega)).mp c_2131
                  refine lv_aload_n hx hb dX11_ask_51 rfl (lv_at hl 5 rfl) ?_
                  refine g_get (k := 8) (v := .ref te) C hW 0 rfl rfl jnX11 (by decide) k_fl_X11_33 rfl dX11_ask_52 ?_
                  refine lv_iload hx hb dX11_ask_55 (lv_at hl 0 rfl) ?_
                  refine lv_iload hx hb dX11_ask_57 (lv_at hl 0 rfl) ?_
                  refine lv_aload_n hx hb dX11_ask_59 rfl (lv_at hl 5 rfl) ?_
                  refine g_get (k := 0) (v := .ref al) C hW 0 rfl rfl jnX11 (by decide) k_fl_X11_7 rfl dX11_ask_60 ?_
                  refine lv_bipush (v := 33) hx hb dX11_ask_63 (by decide) ?_
                  refine lv_iload_n hx hb dX11_ask_65 rfl (lv_at hl 6 rfl) ?_
                  refine lv_iadd hx hb dX11_ask_66 ?_
                  refine g_ald C hW 1 rfl (ix_in (show (33 + (nI k)) = nI (33 + k) from (by first | rfl | (simp only [nI_lit, nI_add, pk_mul]; done) | (simp only [nI_lit, nI_add, pk_mul]; congr 1; omega))) (by omega) (by omega)) dX11_ask_67 ?_
                  refine lv_as (y := a (33 + k)) (by rw [show (33 + (nI k)).toNatClampNeg = (33 + k) from ix_cl (show (33 + (nI k)) = nI (33 + k) from (by first | rfl | (simp only [nI_lit, nI_add, pk_mul]; done) | (simp only [nI_lit, nI_add, pk_mul]; congr 1; omega))) (Nat.lt_of_lt_of_le (m := 159) (by omega) (by omega))]) ?_
                  refine lv_iload hx hb dX11_ask_68 (lv_at hl 1 rfl) ?_
                  refine g_fi C hW [] rfl (g_runS (As := [.int (nI qq), .int (a (33 + k)), .int (nI t)]) (rest := [.int (nI qq), .ref te]) (wc := []) C hW hl (c_X11_hitsAs l G (nI qq) (a (33 + k)) (nI t)  _) k_ml_X11_91 q_X11_hitsAs (by decide) [] rfl rfl rfl rfl (Nat.le_of_ble_eq_true rfl) dX11_ask_70 (by decide)) (fun r_2140 er_2140 => ?_)
                  clear hW H locs; intro H locs hW
                  refine lv_as (y := bl (nI qq) (a (33 + k)) (nI t)) er_2140 ?_
                  clear er_2140 r_2140
                  refine g_ast (w' := [(mo, .inr (9, [.ref al, .ref ke, .ref ik, .ref rq, .long mab, .long mbe, .ref so, .ref ha, .ref te, .ref bt, .int bL, .int tA, .int tL, .int tK, .int tV, .ref an, .ref vs])), (al, .inl (G.2.1, 159, .inl a)), (te, .inl (G.2.1, 6, .inl (upd (fun i => if i < qq then bl (nI i) (a (33 + k)) (nI t) else my i) qq (bl (nI qq) (a (33 + k)) (nI t)))))]) C hW 2 rfl (ix_in (show (nI qq) = nI qq from (by first | rfl | (simp only [nI_lit, nI_add, pk_mul]; done) | (simp only [nI_lit, nI_add, pk_mul]; congr 1; omega))) (by omega) (by omega)) (by rw [show (nI qq).toNatClampNeg = qq from nI_clamp (by omega)]; rfl) dX11_ask_73 ?_
                  clear hW H locs; intro H locs hW
                  refine lv_iinc (v := (nI qq) + 1) (lv' := [(6, .int ((nI qq) + 1)), (5, .int (nI t)), (4, .int ((amnF nI (fun t => mal (kpA a (nI k) mn) (fun i => bl (nI i) (a (33 + k)) (nI t))) (-1, 1000000) t).2)), (3, .int ((amnF nI (fun t => mal (kpA a (nI k) mn) (fun i => bl (nI i) (a (33 + k)) (nI t))) (-1, 1000000) t).1)), (2, .int (kpA a (nI k) mn)), (0, .ref mo), (1, .int (nI k))]) hx hb dX11_ask_74 hl (k := 0) rfl rfl (by decide) rfl ?_
                  clear hl ls; intro ls hl
                  refine lv_goto (tgt := 44) hx hb dX11_ask_77 (by decide) ?_
                  exact ihK_2128 (qq + 1) ((nI qq) + 1) (upd (fun i => if i < qq then bl (nI i) (a (33 + k)) (nI t) else my i) qq (bl (nI qq) (a (33 + k)) (nI t))) (by exact nI_1 _) (by exact ms_upd my (fun i => bl (nI i) (a (33 + k)) (nI t)) qq) (by first | omega | assumption | (simp; done)) (by omega) _ _ _ hW (lv_sub hl [0, 1, 2, 3, 4, 5, 6] rfl)
            exact K_2128 _ 0 0 my (by first | exact rfl | (simp; done)) (by exact ms_fill) (by first | omega | assumption | (simp; done)) (Nat.lt_succ_self _) _ _ _ hW (lv_sub hl [0, 1, 2, 3, 4, 5, 6] rfl)
    exact K_2122 _ 0 0 1000000 (-1) tf (by first | exact rfl | (simp; done)) (by exact rfl) (by exact rfl) (by first | omega | assumption | (simp; done)) (by exact fun _ => rfl) (Nat.lt_succ_self _) _ _ _ hW (lv_sub hl [0, 1, 2, 3, 4, 5] rfl)
  · exfalso; exact dd (okp_nI (by omega) (by assumption)) c_2120
set_option maxHeartbeats 4000000 in
set_option maxRecDepth 100000 in
theorem c_X11_ask_bad (l : Launch) (G : gT) (mo al ke ik rq so ha te bt an vs : Nat) (mab mbe : Int64) (bL tA tL tK tV : Int32) (rv : Nat → Int32) (a : Nat → Int32) (n : Nat) (p9 : Int32) (e0 : a 0 = nI n) (hn : n ≤ 7) (hbad : okp n p9 = false) : MI l G yX11_ask cX11_ask 7 .int ({ frames := 2, cells := 0, slots := 0, locals := 46 }) [.ref mo, .int p9] [(mo, .inr (9, [.ref al, .ref ke, .ref ik, .ref rq, .long mab, .long mbe, .ref so, .ref ha, .ref te, .ref bt, .int bL, .int tA, .int tL, .int tK, .int tV, .ref an, .ref vs])), (al, .inl (G.2.1, 159, .inl a)), (rq, .inl (G.2.1, 3, .inl rv))] (fun (r : Int32) w1 => ∃ u_ : Unit, (r = (-2)) ∧ w1 = [(mo, .inr (9, [.ref al, .ref ke, .ref ik, .ref rq, .long mab, .long mbe, .ref so, .ref ha, .ref te, .ref bt, .int bL, .int tA, .int tL, .int tK, .int tV, .ref an, .ref vs])), (al, .inl (G.2.1, 159, .inl a)), (rq, .inl (G.2.1, 3, .inl (upd rv 0 (rv 0 + 1))))]) := by
  refine MI.mk (by decide) (Nat.le_of_ble_eq_true rfl) ?_
  intro p_ e_ s_ m_ ar_ be_ me_ cd_ A_ ls C hrt hW hl
  have hx := C.1; have hb := C.2.1; have hown := C.2.2.2.1; have ht := C.2.2.2.2.1
  replace hl : lv_has ls 7 [(0, .ref mo), (1, .int p9)] := hl
  generalize hQ : MQ be_ _ ar_ s_ 0 0 A_ = Q
  refine lv_aload_n hx hb dX11_ask_0 rfl (lv_at hl 0 rfl) ?_
  refine lv_iload_n hx hb dX11_ask_1 rfl (lv_at hl 1 rfl) ?_
  refine g_fi C hW [0, 1] rfl (g_runV (As := [.int p9]) (rest := []) (wc := [(mo, .inr (9, [.ref al, .ref ke, .ref ik, .ref rq, .long mab, .long mbe, .ref so, .ref ha, .ref te, .ref bt, .int bL, .int tA, .int tL, .int tK, .int tV, .ref an, .ref vs])), (al, .inl (G.2.1, 159, .inl a))]) (q0 := 0) (ci := 9) C hW hl (c_X11_isPlayer l G mo al ke ik rq so ha te bt an vs mab mbe bL tA tL tK tV a n p9 (by first | assumption | omega) (by first | assumption | omega) _) k_ml_X11_118 q_X11_isPlayer (by decide) [0, 1] rfl rfl rfl rfl rfl rfl (Nat.le_of_ble_eq_true rfl) dX11_ask_2 (by decide)) (fun r_2141 er_2141 => ?_)
  clear hW; intro H locs hW
  refine lv_as (y := bI (okp n p9)) er_2141 ?_
  clear er_2141 r_2141
  refine lv_if_ne (tgt := 15) hx hb dX11_ask_5 (by decide) (fun c_2142 => ?_) (fun c_2142 => ?_)
  · exfalso; simp [bI_ne.mp c_2142, if_true, if_false, reduceIte, Bool.false_eq_true] at hbad
  · refine lv_aload_n hx hb dX11_ask_8 rfl (lv_at hl 0 rfl) ?_
    refine lv_bipush (v := (-2)) hx hb dX11_ask_9 (by decide) ?_
    refine g_fiw (wr := [(al, .inl (G.2.1, 159, .inl a))]) (ww := fun (u_ : Unit) => [(mo, .inr (9, [.ref al, .ref ke, .ref ik, .ref rq, .long mab, .long mbe, .ref so, .ref ha, .ref te, .ref bt, .int bL, .int tA, .int tL, .int tK, .int tV, .ref an, .ref vs])), (rq, .inl (G.2.1, 3, .inl (upd rv 0 (rv 0 + 1))))]) (w2 := fun (u_ : Unit) => [(mo, .inr (9, [.ref al, .ref ke, .ref ik, .ref rq, .long mab, .long mbe, .ref so, .ref ha, .ref te, .ref bt, .int bL, .int tA, .int tL, .int tK, .int tV, .ref an, .ref vs])), (al, .inl (G.2.1, 159, .inl a)), (rq, .inl (G.2.1, 3, .inl (upd rv 0 (rv 0 + 1))))]) C hW [0, 2] [1] [1, 0, 2] rfl rfl (by decide) (by decide) (by decide) (fun _ => rfl) (g_runV (As := [.int (-2)]) (rest := []) (wc := [(mo, .inr (9, [.ref al, .ref ke, .ref ik, .ref rq, .long mab, .long mbe, .ref so, .ref ha, .ref te, .ref bt, .int bL, .int tA, .int tL, .int tK, .int tV, .ref an, .ref vs])), (rq, .inl (G.2.1, 3, .inl rv))]) (q0 := 0) (ci := 9) C hW hl (c_X11_bad l G mo al ke ik rq so ha te bt an vs mab mbe bL tA tL tK tV rv (-2)  _) k_ml_X11_67 q_X11_bad (by decide) [0, 2] rfl rfl rfl rfl rfl rfl (Nat.le_of_ble_eq_true rfl) dX11_ask_11 (by decide)) (fun r_2143 _ er_2143 => ?_)
    clear hW H locs; intro H locs hW
    refine lv_as (y := (-2)) er_2143 ?_
    clear er_2143 r_2143
    replace hW : Wd G A_ s_.heap [(mo, .inr (9, [.ref al, .ref ke, .ref ik, .ref rq, .long mab, .long mbe, .ref so, .ref ha, .ref te, .ref bt, .int bL, .int tA, .int tL, .int tK, .int tV, .ref an, .ref vs])), (al, .inl (G.2.1, 159, .inl a)), (rq, .inl (G.2.1, 3, .inl (upd rv 0 (rv 0 + 1))))] H locs := hW
    subst hQ
    exact g_iret (v := (-2)) C hW hrt ⟨(), by rfl, by rfl⟩ dX11_ask_14
set_option maxHeartbeats 4000000 in
set_option maxRecDepth 100000 in
theorem c_X11_getsBy (l : Launch) (G : gT) (own oth ov ot : Int32)  : MI l G yX11_getsBy cX11_getsBy 5 .int ({ frames := 0, cells := 0, slots := 0, locals := 0 }) [.int own, .int oth, .int ov, .int ot] [] (fun (r : Int32) w1 => (r = gn own oth ov ot) ∧ w1 = []) := by
  refine MI.mk (by decide) (Nat.le_of_ble_eq_true rfl) ?_
  intro p_ e_ s_ m_ ar_ be_ me_ cd_ A_ ls C hrt hW hl
  have hx := C.1; have hb := C.2.1; have hown := C.2.2.2.1; have ht := C.2.2.2.2.1
  replace hl : lv_has ls 5 [(0, .int own), (1, .int oth), (2, .int ov), (3, .int ot)] := hl
  generalize hQ : MQ be_ _ ar_ s_ 0 0 A_ = Q
  refine lv_iload_n hx hb dX11_getsBy_0 rfl (lv_at hl 0 rfl) ?_
  refine lv_iload_n hx hb dX11_getsBy_1 rfl (lv_at hl 1 rfl) ?_
  have J_2147 : ∀ (y_2146 : Int32) (_ : y_2146 = (if own = oth then (-1) else (if own = 1 then if ov = 0 then (-2) else 2 else (if ot = 0 then (-2) else 3)))), ∀ (H : Heap) (locs : List Loc) (ls : Array Slot), Wd G A_ s_.heap [] H locs → lv_has ls 5 [(0, .int own), (1, .int oth), (2, .int ov), (3, .int ot)] → W p_ l e_ ({ frames := 0, cells := 0, slots := 0, locals := 0 }) s_ m_ ar_ be_ me_ cd_ H locs 0 0 Q (F0 m_ 37 ls [.int y_2146]) := by
    intro y_2146 ey_2146 H locs ls hW hl
    refine lv_istore (lv' := [(4, .int y_2146), (0, .int own), (1, .int oth), (2, .int ov), (3, .int ot)]) hx hb dX11_getsBy_37 hl (by decide) rfl ?_
    clear hl ls; intro ls hl
    refine lv_iload hx hb dX11_getsBy_39 (lv_at hl 0 rfl) ?_
    refine lv_iload_n hx hb dX11_getsBy_41 rfl (lv_at hl 1 rfl) ?_
    refine lv_isub hx hb dX11_getsBy_42 ?_
    subst hQ
    exact g_iret (v := (y_2146 - own)) C hW hrt ⟨by (simp only [ey_2146]; rfl), rfl⟩ dX11_getsBy_43
  refine lv_icmp_ne (tgt := 9) hx hb dX11_getsBy_2 (by decide) (fun c_2145 => ?_) (fun c_2145 => ?_)
  · refine lv_iload_n hx hb dX11_getsBy_9 rfl (lv_at hl 0 rfl) ?_
    refine lv_iconst (v := 1) hx hb dX11_getsBy_10 (by decide) ?_
    refine lv_icmp_ne (tgt := 27) hx hb dX11_getsBy_11 (by decide) (fun c_2148 => ?_) (fun c_2148 => ?_)
    · refine lv_iload_n hx hb dX11_getsBy_27 rfl (lv_at hl 3 rfl) ?_
      refine lv_if_eq (tgt := 35) hx hb dX11_getsBy_28 (by decide) (fun c_2149 => ?_) (fun c_2149 => ?_)
      · refine lv_bipush (v := (-2)) hx hb dX11_getsBy_35 (by decide) ?_
        exact J_2147 (-2) (by first | (simp only [c_2145, c_2148, c_2149, if_true, if_false, reduceIte]; done) | (simp [c_2145, c_2148, c_2149]; done) | rfl | (rw [if_neg c_2145, if_neg c_2148, if_pos c_2149]; done)) _ _ _ hW (lv_sub hl [0, 1, 2, 3] rfl)
      · refine lv_iconst (v := 3) hx hb dX11_getsBy_31 (by decide) ?_
        refine lv_goto (tgt := 37) hx hb dX11_getsBy_32 (by decide) ?_
        exact J_2147 3 (by first | (simp only [c_2145, c_2148, c_2149, if_true, if_false, reduceIte]; done) | (simp [c_2145, c_2148, c_2149]; done) | rfl | (rw [if_neg c_2145, if_neg c_2148, if_neg c_2149]; done)) _ _ _ hW (lv_sub hl [0, 1, 2, 3] rfl)
    · refine lv_iload_n hx hb dX11_getsBy_14 rfl (lv_at hl 2 rfl) ?_
      refine lv_if_eq (tgt := 22) hx hb dX11_getsBy_15 (by decide) (fun c_2150 => ?_) (fun c_2150 => ?_)
      · refine lv_bipush (v := (-2)) hx hb dX11_getsBy_22 (by decide) ?_
        refine lv_goto (tgt := 37) hx hb dX11_getsBy_24 (by decide) ?_
        exact J_2147 (-2) (by first | (simp only [c_2145, c_2148, c_2150, if_true, if_false, reduceIte]; done) | (simp [c_2145, c_2148, c_2150]; done) | rfl | (rw [if_neg c_2145, if_pos c_2148, if_pos c_2150]; done)) _ _ _ hW (lv_sub hl [0, 1, 2, 3] rfl)
      · refine lv_iconst (v := 2) hx hb dX11_getsBy_18 (by decide) ?_
        refine lv_goto (tgt := 37) hx hb dX11_getsBy_19 (by decide) ?_
        exact J_2147 2 (by first | (simp only [c_2145, c_2148, c_2150, if_true, if_false, reduceIte]; done) | (simp [c_2145, c_2148, c_2150]; done) | rfl | (rw [if_neg c_2145, if_pos c_2148, if_neg c_2150]; done)) _ _ _ hW (lv_sub hl [0, 1, 2, 3] rfl)
  · refine lv_iconst (v := (-1)) hx hb dX11_getsBy_5 (by decide) ?_
    refine lv_goto (tgt := 37) hx hb dX11_getsBy_6 (by decide) ?_
    exact J_2147 (-1) (by first | (simp only [c_2145, if_true, if_false, reduceIte]; done) | (simp [c_2145]; done) | rfl | (rw [if_pos c_2145]; done)) _ _ _ hW (lv_sub hl [0, 1, 2, 3] rfl)
set_option maxHeartbeats 4000000 in
set_option maxRecDepth 100000 in
theorem c_X11_yours_ok (l : Launch) (G : gT) (mo al ke ik rq so ha te bt an vs : Nat) (mab mbe : Int64) (bL tA tL tK tV : Int32) (a : Nat → Int32) (n ka kb hr : Nat) (hka : ka < n) (hkb : kb < n) (hne : ka ≠ kb) (hn : n ≤ 7) (e0 : a 0 = nI n) (e12 : a 12 = nI hr) (hh : hr < 10000) (ho1 : atA a ka = true) (ho2 : atA a kb = true) : MI l G yX11_yours cX11_yours 10 .int ({ frames := 3, cells := 0, slots := 0, locals := 72 }) [.ref mo, .int (nI ka), .int (nI kb)] [(mo, .inr (9, [.ref al, .ref ke, .ref ik, .ref rq, .long mab, .long mbe, .ref so, .ref ha, .ref te, .ref bt, .int bL, .int tA, .int tL, .int tK, .int tV, .ref an, .ref vs])), (al, .inl (G.2.1, 159, .inl a))] (fun (r : Int32) w1 => (r = orF (fun i => rs (nI i &&& (1 : Int32)) (nI i >>> ((1 : Int32) &&& 31)) (bI (crA a ka hr (a 8))) (bI (crA a kb hr (a 8)))) 4) ∧ w1 = [(mo, .inr (9, [.ref al, .ref ke, .ref ik, .ref rq, .long mab, .long mbe, .ref so, .ref ha, .ref te, .ref bt, .int bL, .int tA, .int tL, .int tK, .int tV, .ref an, .ref vs])), (al, .inl (G.2.1, 159, .inl a))]) := by
  refine MI.mk (by decide) (Nat.le_of_ble_eq_true rfl) ?_
  intro p_ e_ s_ m_ ar_ be_ me_ cd_ A_ ls C hrt hW hl
  have hx := C.1; have hb := C.2.1; have hown := C.2.2.2.1; have ht := C.2.2.2.2.1
  replace hl : lv_has ls 10 [(0, .ref mo), (1, .int (nI ka)), (2, .int (nI kb))] := hl
  generalize hQ : MQ be_ _ ar_ s_ 0 0 A_ = Q
  refine lv_aload_n hx hb dX11_yours_0 rfl (lv_at hl 0 rfl) ?_
  refine lv_iload_n hx hb dX11_yours_1 rfl (lv_at hl 1 rfl) ?_
  refine g_fi C hW [0, 1] rfl (g_runV (As := [.int (nI ka)]) (rest := []) (wc := [(mo, .inr (9, [.ref al, .ref ke, .ref ik, .ref rq, .long mab, .long mbe, .ref so, .ref ha, .ref te, .ref bt, .int bL, .int tA, .int tL, .int tK, .int tV, .ref an, .ref vs])), (al, .inl (G.2.1, 159, .inl a))]) (q0 := 0) (ci := 9) C hW hl (c_X11_isPlayer l G mo al ke ik rq so ha te bt an vs mab mbe bL tA tL tK tV a n (nI ka) (by first | assumption | omega) (by first | assumption | omega) _) k_ml_X11_118 q_X11_isPlayer (by decide) [0, 1] rfl rfl rfl rfl rfl rfl (Nat.le_of_ble_eq_true rfl) dX11_yours_2 (by decide)) (fun r_2151 er_2151 => ?_)
  clear hW; intro H locs hW
  refine lv_as (y := bI (okp n (nI ka))) er_2151 ?_
  clear er_2151 r_2151
  refine lv_if_eq (tgt := 21) hx hb dX11_yours_5 (by decide) (fun c_2152 => ?_) (fun c_2152 => ?_)
  · exfalso; exact dd (okp_nI (by omega) hka) c_2152
  · refine lv_aload_n hx hb dX11_yours_8 rfl (lv_at hl 0 rfl) ?_
    refine lv_iload_n hx hb dX11_yours_9 rfl (lv_at hl 2 rfl) ?_
    refine g_fi C hW [0, 1] rfl (g_runV (As := [.int (nI kb)]) (rest := []) (wc := [(mo, .inr (9, [.ref al, .ref ke, .ref ik, .ref rq, .long mab, .long mbe, .ref so, .ref ha, .ref te, .ref bt, .int bL, .int tA, .int tL, .int tK, .int tV, .ref an, .ref vs])), (al, .inl (G.2.1, 159, .inl a))]) (q0 := 0) (ci := 9) C hW hl (c_X11_isPlayer l G mo al ke ik rq so ha te bt an vs mab mbe bL tA tL tK tV a n (nI kb) (by first | assumption | omega) (by first | assumption | omega) _) k_ml_X11_118 q_X11_isPlayer (by decide) [0, 1] rfl rfl rfl rfl rfl rfl (Nat.le_of_ble_eq_true rfl) dX11_yours_10 (by decide)) (fun r_2153 er_2153 => ?_)
    clear hW H locs; intro H locs hW
    refine lv_as (y := bI (okp n (nI kb))) er_2153 ?_
    clear er_2153 r_2153
    refine lv_if_eq (tgt := 21) hx hb dX11_yours_13 (by decide) (fun c_2154 => ?_) (fun c_2154 => ?_)
    · exfalso; exact dd (okp_nI (by omega) hkb) c_2154
    · refine lv_iload_n hx hb dX11_yours_16 rfl (lv_at hl 1 rfl) ?_
      refine lv_iload_n hx hb dX11_yours_17 rfl (lv_at hl 2 rfl) ?_
      refine lv_icmp_ne (tgt := 28) hx hb dX11_yours_18 (by decide) (fun c_2155 => ?_) (fun c_2155 => ?_)
      · have c_2155n : ¬ ka = kb := fun q => c_2155 ((nI_eq (a := ka) (b := kb) (by omega) (by omega)).mpr q)
        refine lv_aload_n hx hb dX11_yours_28 rfl (lv_at hl 0 rfl) ?_
        refine g_get (k := 0) (v := .ref al) C hW 0 rfl rfl jnX11 (by decide) k_fl_X11_7 rfl dX11_yours_29 ?_
        refine lv_iload_n hx hb dX11_yours_32 rfl (lv_at hl 1 rfl) ?_
        refine g_fi C hW [1] rfl (g_runS (As := [.ref al, .int (nI ka)]) (rest := []) (wc := [(al, .inl (G.2.1, 159, .inl a))]) C hW hl (c_X11_isAt l G al 159 a ka (by first | assumption | omega) (by first | assumption | omega) _) k_ml_X11_107 q_X11_isAt (by decide) [1] rfl rfl rfl rfl (Nat.le_of_ble_eq_true rfl) dX11_yours_33 (by decide)) (fun r_2156 er_2156 => ?_)
        clear hW H locs; intro H locs hW
        refine lv_as (y := bI (atA a ka)) er_2156 ?_
        clear er_2156 r_2156
        refine lv_if_eq (tgt := 50) hx hb dX11_yours_36 (by decide) (fun c_2157 => ?_) (fun c_2157 => ?_)
        · exfalso; exact dd (by first | assumption | exact okp_nI (by omega) (by assumption) | exact decide_eq_true (by first | assumption | omega)) c_2157
        · refine lv_aload_n hx hb dX11_yours_39 rfl (lv_at hl 0 rfl) ?_
          refine g_get (k := 0) (v := .ref al) C hW 0 rfl rfl jnX11 (by decide) k_fl_X11_7 rfl dX11_yours_40 ?_
          refine lv_iload_n hx hb dX11_yours_43 rfl (lv_at hl 2 rfl) ?_
          refine g_fi C hW [1] rfl (g_runS (As := [.ref al, .int (nI kb)]) (rest := []) (wc := [(al, .inl (G.2.1, 159, .inl a))]) C hW hl (c_X11_isAt l G al 159 a kb (by first | assumption | omega) (by first | assumption | omega) _) k_ml_X11_107 q_X11_isAt (by decide) [1] rfl rfl rfl rfl (Nat.le_of_ble_eq_true rfl) dX11_yours_44 (by decide)) (fun r_2158 er_2158 => ?_)
          clear hW H locs; intro H locs hW
          refine lv_as (y := bI (atA a kb)) er_2158 ?_
          clear er_2158 r_2158
          refine lv_if_ne (tgt := 55) hx hb dX11_yours_47 (by decide) (fun c_2159 => ?_) (fun c_2159 => ?_)
          · refine lv_aload_n hx hb dX11_yours_55 rfl (lv_at hl 0 rfl) ?_
            refine g_get (k := 0) (v := .ref al) C hW 0 rfl rfl jnX11 (by decide) k_fl_X11_7 rfl dX11_yours_56 ?_
            refine lv_iload_n hx hb dX11_yours_59 rfl (lv_at hl 1 rfl) ?_
            refine lv_aload_n hx hb dX11_yours_60 rfl (lv_at hl 0 rfl) ?_
            refine g_get (k := 0) (v := .ref al) C hW 0 rfl rfl jnX11 (by decide) k_fl_X11_7 rfl dX11_yours_61 ?_
            refine lv_bipush (v := 8) hx hb dX11_yours_64 (by decide) ?_
            refine g_ald C hW 1 rfl (vp_in_nI (n := 8) (by omega) (by omega)) dX11_yours_66 ?_
            refine lv_as (y := a 8) (rfl) ?_
            refine lv_aload_n hx hb dX11_yours_67 rfl (lv_at hl 0 rfl) ?_
            refine g_get (k := 0) (v := .ref al) C hW 0 rfl rfl jnX11 (by decide) k_fl_X11_7 rfl dX11_yours_68 ?_
            refine lv_bipush (v := 12) hx hb dX11_yours_71 (by decide) ?_
            refine g_ald C hW 1 rfl (vp_in_nI (n := 12) (by omega) (by omega)) dX11_yours_73 ?_
            refine lv_as (y := a 12) (rfl) ?_
            refine lv_as (y := nI hr) (e12) ?_
            refine g_fi C hW [1] rfl (g_runS (As := [.ref al, .int (nI ka), .int (a 8), .int (nI hr)]) (rest := []) (wc := [(al, .inl (G.2.1, 159, .inl a))]) C hW hl (c_X11_carries l G al 159 a ka hr (a 8) (by first | assumption | omega) (by first | assumption | omega) (by first | assumption | omega) _) k_ml_X11_111 q_X11_carries (by decide) [1] rfl rfl rfl rfl (Nat.le_of_ble_eq_true rfl) dX11_yours_74 (by decide)) (fun r_2160 er_2160 => ?_)
            clear hW H locs; intro H locs hW
            refine lv_as (y := bI (crA a ka hr (a 8))) er_2160 ?_
            clear er_2160 r_2160
            refine lv_istore_n (lv' := [(3, .int (bI (crA a ka hr (a 8)))), (0, .ref mo), (1, .int (nI ka)), (2, .int (nI kb))]) hx hb dX11_yours_77 rfl hl (by decide) rfl ?_
            clear hl ls; intro ls hl
            refine lv_aload_n hx hb dX11_yours_78 rfl (lv_at hl 1 rfl) ?_
            refine g_get (k := 0) (v := .ref al) C hW 0 rfl rfl jnX11 (by decide) k_fl_X11_7 rfl dX11_yours_79 ?_
            refine lv_iload_n hx hb dX11_yours_82 rfl (lv_at hl 3 rfl) ?_
            refine lv_aload_n hx hb dX11_yours_83 rfl (lv_at hl 1 rfl) ?_
            refine g_get (k := 0) (v := .ref al) C hW 0 rfl rfl jnX11 (by decide) k_fl_X11_7 rfl dX11_yours_84 ?_
            refine lv_bipush (v := 8) hx hb dX11_yours_87 (by decide) ?_
            refine g_ald C hW 1 rfl (vp_in_nI (n := 8) (by omega) (by omega)) dX11_yours_89 ?_
            refine lv_as (y := a 8) (rfl) ?_
            refine lv_aload_n hx hb dX11_yours_90 rfl (lv_at hl 1 rfl) ?_
            refine g_get (k := 0) (v := .ref al) C hW 0 rfl rfl jnX11 (by decide) k_fl_X11_7 rfl dX11_yours_91 ?_
            refine lv_bipush (v := 12) hx hb dX11_yours_94 (by decide) ?_
            refine g_ald C hW 1 rfl (vp_in_nI (n := 12) (by omega) (by omega)) dX11_yours_96 ?_
            refine lv_as (y := a 12) (rfl) ?_
            refine lv_as (y := nI hr) (e12) ?_
            refine g_fi C hW [1] rfl (g_runS (As := [.ref al, .int (nI kb), .int (a 8), .int (nI hr)]) (rest := []) (wc := [(al, .inl (G.2.1, 159, .inl a))]) C hW hl (c_X11_carries l G al 159 a kb hr (a 8) (by first | assumption | omega) (by first | assumption | omega) (by first | assumption | omega) _) k_ml_X11_111 q_X11_carries (by decide) [1] rfl rfl rfl rfl (Nat.le_of_ble_eq_true rfl) dX11_yours_97 (by decide)) (fun r_2161 er_2161 => ?_)
            clear hW H locs; intro H locs hW
            refine lv_as (y := bI (crA a kb hr (a 8))) er_2161 ?_
            clear er_2161 r_2161
            refine lv_istore (lv' := [(4, .int (bI (crA a kb hr (a 8)))), (3, .int (bI (crA a ka hr (a 8)))), (0, .ref mo), (1, .int (nI ka)), (2, .int (nI kb))]) hx hb dX11_yours_100 hl (by decide) rfl ?_
            clear hl ls; intro ls hl
            refine lv_iconst (v := 0) hx hb dX11_yours_102 (by decide) ?_
            refine lv_istore (lv' := [(5, .int 0), (4, .int (bI (crA a kb hr (a 8)))), (3, .int (bI (crA a ka hr (a 8)))), (0, .ref mo), (1, .int (nI ka)), (2, .int (nI kb))]) hx hb dX11_yours_103 hl (by decide) rfl ?_
            clear hl ls; intro ls hl
            refine lv_iconst (v := 0) hx hb dX11_yours_105 (by decide) ?_
            refine lv_istore (lv' := [(6, .int 0), (5, .int 0), (4, .int (bI (crA a kb hr (a 8)))), (3, .int (bI (crA a ka hr (a 8)))), (0, .ref mo), (1, .int (nI ka)), (2, .int (nI kb))]) hx hb dX11_yours_106 hl (by decide) rfl ?_
            clear hl ls; intro ls hl
            have K_2162 : ∀ (n_ : Nat) (j : Nat) (x_2163 : Int32) (x_2164 : Int32) (_ : x_2163 = nI j) (_ : x_2164 = orF (fun i => rs (nI i &&& (1 : Int32)) (nI i >>> ((1 : Int32) &&& 31)) (bI (crA a ka hr (a 8))) (bI (crA a kb hr (a 8)))) j) (_ : j ≤ 4) (_ : 4 - j < n_) (H : Heap) (locs : List Loc) (ls : Array Slot), Wd G A_ s_.heap [(mo, .inr (9, [.ref al, .ref ke, .ref ik, .ref rq, .long mab, .long mbe, .ref so, .ref ha, .ref te, .ref bt, .int bL, .int tA, .int tL, .int tK, .int tV, .ref an, .ref vs])), (al, .inl (G.2.1, 159, .inl a))] H locs → lv_has ls 10 [(6, .int x_2163), (5, .int x_2164), (4, .int (bI (crA a kb hr (a 8)))), (3, .int (bI (crA a ka hr (a 8)))), (0, .ref mo), (1, .int (nI ka)), (2, .int (nI kb))] → W p_ l e_ ({ frames := 3, cells := 0, slots := 0, locals := 72 }) s_ m_ ar_ be_ me_ cd_ H locs 0 0 Q (F0 m_ 108 ls []) := by
              intro n_
              induction n_ with
              | zero => intro j x_2163 x_2164 ex_2163 ex_2164 hj hm_; exact absurd hm_ (Nat.not_lt_zero _)
              | succ n_ ihK_2162 =>
                intro j x_2163 x_2164 ex_2163 ex_2164 hj hm_ H locs ls hW hl
                subst ex_2163
                subst ex_2164
                refine lv_iload hx hb dX11_yours_108 (lv_at hl 0 rfl) ?_
                refine lv_iconst (v := 4) hx hb dX11_yours_110 (by decide) ?_
                refine lv_icmp_ge (tgt := 207) hx hb dX11_yours_111 (by decide) (fun c_2165 => ?_) (fun c_2165 => ?_)
                · replace c_2165 := Int32.not_lt.mpr c_2165
                  have c_2165n : ¬ j < 4 := fun q => c_2165 ((nI_ltI (a := j) (b := 4) (by omega) (by omega)).mpr q)
                  refine lv_iload hx hb dX11_yours_207 (lv_at hl 1 rfl) ?_
                  subst hQ
                  exact g_iret (v := (orF (fun i => rs (nI i &&& (1 : Int32)) (nI i >>> ((1 : Int32) &&& 31)) (bI (crA a ka hr (a 8))) (bI (crA a kb hr (a 8)))) j)) C hW hrt ⟨by (rw [show j = 4 by omega]), rfl⟩ dX11_yours_209
                · replace c_2165 := Int32.not_le.mp c_2165
                  have c_2165n : j < 4 := (nI_ltI (a := j) (b := 4) (by omega) (by omega)).mp c_2165
                  refine lv_iload hx hb dX11_yours_114 (lv_at hl 0 rfl) ?_
                  refine lv_iconst (v := 1) hx hb dX11_yours_116 (by decide) ?_
                  refine lv_iand hx hb dX11_yours_117 ?_
                  refine lv_istore (lv' := [(7, .int ((nI j) &&& (1 : Int32))), (6, .int (nI j)), (5, .int (orF (fun i => rs (nI i &&& (1 : Int32)) (nI i >>> ((1 : Int32) &&& 31)) (bI (crA a ka hr (a 8))) (bI (crA a kb hr (a 8)))) j)), (4, .int (bI (crA a kb hr (a 8)))), (3, .int (bI (crA a ka hr (a 8)))), (0, .ref mo), (1, .int (nI ka)), (2, .int (nI kb))]) hx hb dX11_yours_118 hl (by decide) rfl ?_
                  clear hl ls; intro ls hl
                  refine lv_iload hx hb dX11_yours_120 (lv_at hl 1 rfl) ?_
                  refine lv_iconst (v := 1) hx hb dX11_yours_122 (by decide) ?_
                  refine lv_ishr hx hb dX11_yours_123 ?_
                  refine lv_istore (lv' := [(8, .int ((nI j) >>> ((1 : Int32) &&& 31))), (7, .int ((nI j) &&& (1 : Int32))), (6, .int (nI j)), (5, .int (orF (fun i => rs (nI i &&& (1 : Int32)) (nI i >>> ((1 : Int32) &&& 31)) (bI (crA a ka hr (a 8))) (bI (crA a kb hr (a 8)))) j)), (4, .int (bI (crA a kb hr (a 8)))), (3, .int (bI (crA a ka hr (a 8)))), (0, .ref mo), (1, .int (nI ka)), (2, .int (nI kb))]) hx hb dX11_yours_124 hl (by decide) rfl ?_
                  clear hl ls; intro ls hl
                  refine lv_iload hx hb dX11_yours_126 (lv_at hl 1 rfl) ?_
                  refine lv_iload hx hb dX11_yours_128 (lv_at hl 0 rfl) ?_
                  refine lv_iload_n hx hb dX11_yours_130 rfl (lv_at hl 5 rfl) ?_
                  refine lv_iload hx hb dX11_yours_131 (lv_at hl 4 rfl) ?_
                  refine g_fi C hW [] rfl (g_runS (As := [.int ((nI j) &&& (1 : Int32)), .int ((nI j) >>> ((1 : Int32) &&& 31)), .int (bI (crA a ka hr (a 8))), .int (bI (crA a kb hr (a 8)))]) (rest := []) (wc := []) C hW hl (c_X11_getsBy l G ((nI j) &&& (1 : Int32)) ((nI j) >>> ((1 : Int32) &&& 31)) (bI (crA a ka hr (a 8))) (bI (crA a kb hr (a 8)))  _) k_ml_X11_193 q_X11_getsBy (by decide) [] rfl rfl rfl rfl (Nat.le_of_ble_eq_true rfl) dX11_yours_133 (by decide)) (fun r_2168 er_2168 => ?_)
                  clear hW H locs; intro H locs hW
                  refine lv_as (y := gn ((nI j) &&& (1 : Int32)) ((nI j) >>> ((1 : Int32) &&& 31)) (bI (crA a ka hr (a 8))) (bI (crA a kb hr (a 8)))) er_2168 ?_
                  clear er_2168 r_2168
                  refine lv_iconst (v := 1) hx hb dX11_yours_136 (by decide) ?_
                  refine lv_iload hx hb dX11_yours_137 (lv_at hl 1 rfl) ?_
                  refine lv_isub hx hb dX11_yours_139 ?_
                  refine lv_iload hx hb dX11_yours_140 (lv_at hl 0 rfl) ?_
                  refine lv_iload_n hx hb dX11_yours_142 rfl (lv_at hl 5 rfl) ?_
                  refine lv_iload hx hb dX11_yours_143 (lv_at hl 4 rfl) ?_
                  refine g_fi C hW [] rfl (g_runS (As := [.int (1 - ((nI j) &&& (1 : Int32))), .int ((nI j) >>> ((1 : Int32) &&& 31)), .int (bI (crA a ka hr (a 8))), .int (bI (crA a kb hr (a 8)))]) (rest := [.int (gn ((nI j) &&& (1 : Int32)) ((nI j) >>> ((1 : Int32) &&& 31)) (bI (crA a ka hr (a 8))) (bI (crA a kb hr (a 8))))]) (wc := []) C hW hl (c_X11_getsBy l G (1 - ((nI j) &&& (1 : Int32))) ((nI j) >>> ((1 : Int32) &&& 31)) (bI (crA a ka hr (a 8))) (bI (crA a kb hr (a 8)))  _) k_ml_X11_193 q_X11_getsBy (by decide) [] rfl rfl rfl rfl (Nat.le_of_ble_eq_true rfl) dX11_yours_145 (by decide)) (fun r_2169 er_2169 => ?_)
                  clear hW H locs; intro H locs hW
                  refine lv_as (y := gn (1 - ((nI j) &&& (1 : Int32))) ((nI j) >>> ((1 : Int32) &&& 31)) (bI (crA a ka hr (a 8))) (bI (crA a kb hr (a 8)))) er_2169 ?_
                  clear er_2169 r_2169
                  have J_2176 : ∀ (y_2175 : Int32) (_ : y_2175 = (if (gn (1 - ((nI j) &&& (1 : Int32))) ((nI j) >>> ((1 : Int32) &&& 31)) (bI (crA a ka hr (a 8))) (bI (crA a kb hr (a 8)))) ≤ (gn ((nI j) &&& (1 : Int32)) ((nI j) >>> ((1 : Int32) &&& 31)) (bI (crA a ka hr (a 8))) (bI (crA a kb hr (a 8)))) then if (gn (1 - ((nI j) >>> ((1 : Int32) &&& 31))) ((nI j) &&& (1 : Int32)) (bI (crA a kb hr (a 8))) (bI (crA a ka hr (a 8)))) ≤ (gn ((nI j) >>> ((1 : Int32) &&& 31)) ((nI j) &&& (1 : Int32)) (bI (crA a kb hr (a 8))) (bI (crA a ka hr (a 8)))) then 1 else 0 else 0)), ∀ (H : Heap) (locs : List Loc) (ls : Array Slot), Wd G A_ s_.heap [(mo, .inr (9, [.ref al, .ref ke, .ref ik, .ref rq, .long mab, .long mbe, .ref so, .ref ha, .ref te, .ref bt, .int bL, .int tA, .int tL, .int tK, .int tV, .ref an, .ref vs])), (al, .inl (G.2.1, 159, .inl a))] H locs → lv_has ls 10 [(8, .int ((nI j) >>> ((1 : Int32) &&& 31))), (7, .int ((nI j) &&& (1 : Int32))), (6, .int (nI j)), (5, .int (orF (fun i => rs (nI i &&& (1 : Int32)) (nI i >>> ((1 : Int32) &&& 31)) (bI (crA a ka hr (a 8))) (bI (crA a kb hr (a 8)))) j)), (4, .int (bI (crA a kb hr (a 8)))), (3, .int (bI (crA a ka hr (a 8)))), (0, .ref mo), (1, .int (nI ka)), (2, .int (nI kb))] → W p_ l e_ ({ frames := 3, cells := 0, slots := 0, locals := 72 }) s_ m_ ar_ be_ me_ cd_ H locs 0 0 Q (F0 m_ 181 ls [.int y_2175]) := by
                    intro y_2175 ey_2175 H locs ls hW hl
                    refine lv_as (y := bI (rs (nI j &&& (1 : Int32)) (nI j >>> ((1 : Int32) &&& 31)) (bI (crA a ka hr (a 8))) (bI (crA a kb hr (a 8))))) (by simp only [ey_2175]; exact bI_and) ?_
                    refine lv_istore (lv' := [(9, .int (bI (rs (nI j &&& (1 : Int32)) (nI j >>> ((1 : Int32) &&& 31)) (bI (crA a ka hr (a 8))) (bI (crA a kb hr (a 8)))))), (8, .int ((nI j) >>> ((1 : Int32) &&& 31))), (7, .int ((nI j) &&& (1 : Int32))), (6, .int (nI j)), (5, .int (orF (fun i => rs (nI i &&& (1 : Int32)) (nI i >>> ((1 : Int32) &&& 31)) (bI (crA a ka hr (a 8))) (bI (crA a kb hr (a 8)))) j)), (4, .int (bI (crA a kb hr (a 8)))), (3, .int (bI (crA a ka hr (a 8)))), (0, .ref mo), (1, .int (nI ka)), (2, .int (nI kb))]) hx hb dX11_yours_181 hl (by decide) rfl ?_
                    clear hl ls; intro ls hl
                    refine lv_iload hx hb dX11_yours_183 (lv_at hl 4 rfl) ?_
                    refine lv_iload hx hb dX11_yours_185 (lv_at hl 0 rfl) ?_
                    have J_2179 : ∀ (y_2178 : Int32) (_ : y_2178 = (if (bI (rs (nI j &&& (1 : Int32)) (nI j >>> ((1 : Int32) &&& 31)) (bI (crA a ka hr (a 8))) (bI (crA a kb hr (a 8))))) = 0 then 0 else (1 : Int32) <<< ((nI j) &&& 31))), ∀ (H : Heap) (locs : List Loc) (ls : Array Slot), Wd G A_ s_.heap [(mo, .inr (9, [.ref al, .ref ke, .ref ik, .ref rq, .long mab, .long mbe, .ref so, .ref ha, .ref te, .ref bt, .int bL, .int tA, .int tL, .int tK, .int tV, .ref an, .ref vs])), (al, .inl (G.2.1, 159, .inl a))] H locs → lv_has ls 10 [(9, .int (bI (rs (nI j &&& (1 : Int32)) (nI j >>> ((1 : Int32) &&& 31)) (bI (crA a ka hr (a 8))) (bI (crA a kb hr (a 8)))))), (8, .int ((nI j) >>> ((1 : Int32) &&& 31))), (7, .int ((nI j) &&& (1 : Int32))), (6, .int (nI j)), (5, .int (orF (fun i => rs (nI i &&& (1 : Int32)) (nI i >>> ((1 : Int32) &&& 31)) (bI (crA a ka hr (a 8))) (bI (crA a kb hr (a 8)))) j)), (4, .int (bI (crA a kb hr (a 8)))), (3, .int (bI (crA a ka hr (a 8)))), (0, .ref mo), (1, .int (nI ka)), (2, .int (nI kb))] → W p_ l e_ ({ frames := 3, cells := 0, slots := 0, locals := 72 }) s_ m_ ar_ be_ me_ cd_ H locs 0 0 Q (F0 m_ 198 ls [.int y_2178, .int (orF (fun i => rs (nI i &&& (1 : Int32)) (nI i >>> ((1 : Int32) &&& 31)) (bI (crA a ka hr (a 8))) (bI (crA a kb hr (a 8)))) j)]) := by
                      intro y_2178 ey_2178 H locs ls hW hl
                      refine lv_ior hx hb dX11_yours_198 ?_
                      refine lv_istore (lv' := [(5, .int ((orF (fun i => rs (nI i &&& (1 : Int32)) (nI i >>> ((1 : Int32) &&& 31)) (bI (crA a ka hr (a 8))) (bI (crA a kb hr (a 8)))) j) ||| y_2178)), (9, .int (bI (rs (nI j &&& (1 : Int32)) (nI j >>> ((1 : Int32) &&& 31)) (bI (crA a ka hr (a 8))) (bI (crA a kb hr (a 8)))))), (8, .int ((nI j) >>> ((1 : Int32) &&& 31))), (7, .int ((nI j) &&& (1 : Int32))), (6, .int (nI j)), (4, .int (bI (crA a kb hr (a 8)))), (3, .int (bI (crA a ka hr (a 8)))), (0, .ref mo), (1, .int (nI ka)), (2, .int (nI kb))]) hx hb dX11_yours_199 hl (by decide) rfl ?_
                      clear hl ls; intro ls hl
                      refine lv_iinc (v := (nI j) + 1) (lv' := [(6, .int ((nI j) + 1)), (5, .int ((orF (fun i => rs (nI i &&& (1 : Int32)) (nI i >>> ((1 : Int32) &&& 31)) (bI (crA a ka hr (a 8))) (bI (crA a kb hr (a 8)))) j) ||| y_2178)), (9, .int (bI (rs (nI j &&& (1 : Int32)) (nI j >>> ((1 : Int32) &&& 31)) (bI (crA a ka hr (a 8))) (bI (crA a kb hr (a 8)))))), (8, .int ((nI j) >>> ((1 : Int32) &&& 31))), (7, .int ((nI j) &&& (1 : Int32))), (4, .int (bI (crA a kb hr (a 8)))), (3, .int (bI (crA a ka hr (a 8)))), (0, .ref mo), (1, .int (nI ka)), (2, .int (nI kb))]) hx hb dX11_yours_201 hl (k := 4) rfl rfl (by decide) rfl ?_
                      clear hl ls; intro ls hl
                      refine lv_goto (tgt := 108) hx hb dX11_yours_204 (by decide) ?_
                      exact ihK_2162 (j + 1) ((nI j) + 1) ((orF (fun i => rs (nI i &&& (1 : Int32)) (nI i >>> ((1 : Int32) &&& 31)) (bI (crA a ka hr (a 8))) (bI (crA a kb hr (a 8)))) j) ||| y_2178) (by exact nI_1 _) (by (simp only [ey_2175, ey_2178]; exact or_s rfl rfl)) (by first | omega | assumption | (simp; done)) (by omega) _ _ _ hW (lv_sub hl [0, 1, 5, 6, 7, 8, 9] rfl)
                    refine lv_if_eq (tgt := 197) hx hb dX11_yours_187 (by decide) (fun c_2177 => ?_) (fun c_2177 => ?_)
                    · refine lv_iconst (v := 0) hx hb dX11_yours_197 (by decide) ?_
                      exact J_2179 0 (by first | (simp only [c_2177, if_true, if_false, reduceIte]; done) | (simp [c_2177]; done) | rfl | (rw [if_pos c_2177]; done)) _ _ _ hW (lv_sub hl [0, 1, 2, 3, 4, 5, 6, 7, 8, 9] rfl)
                    · refine lv_iconst (v := 1) hx hb dX11_yours_190 (by decide) ?_
                      refine lv_iload hx hb dX11_yours_191 (lv_at hl 3 rfl) ?_
                      refine lv_ishl hx hb dX11_yours_193 ?_
                      refine lv_goto (tgt := 198) hx hb dX11_yours_194 (by decide) ?_
                      exact J_2179 ((1 : Int32) <<< ((nI j) &&& 31)) (by first | (simp only [c_2177, if_true, if_false, reduceIte]; done) | (simp [c_2177]; done) | rfl | (rw [if_neg c_2177]; done)) _ _ _ hW (lv_sub hl [0, 1, 2, 3, 4, 5, 6, 7, 8, 9] rfl)
                  refine lv_icmp_lt (tgt := 180) hx hb dX11_yours_148 (by decide) (fun c_2170 => ?_) (fun c_2170 => ?_)
                  · replace c_2170 := Int32.not_le.mpr c_2170
                    refine lv_iconst (v := 0) hx hb dX11_yours_180 (by decide) ?_
                    exact J_2176 0 (by first | (simp only [c_2170, if_true, if_false, reduceIte]; done) | (simp [c_2170]; done) | rfl | (rw [if_neg c_2170]; done)) _ _ _ hW (lv_sub hl [0, 1, 2, 3, 4, 5, 6, 7, 8] rfl)
                  · replace c_2170 := Int32.not_lt.mp c_2170
                    refine lv_iload hx hb dX11_yours_151 (lv_at hl 0 rfl) ?_
                    refine lv_iload hx hb dX11_yours_153 (lv_at hl 1 rfl) ?_
                    refine lv_iload hx hb dX11_yours_155 (lv_at hl 4 rfl) ?_
                    refine lv_iload_n hx hb dX11_yours_157 rfl (lv_at hl 5 rfl) ?_
                    refine g_fi C hW [] rfl (g_runS (As := [.int ((nI j) >>> ((1 : Int32) &&& 31)), .int ((nI j) &&& (1 : Int32)), .int (bI (crA a kb hr (a 8))), .int (bI (crA a ka hr (a 8)))]) (rest := []) (wc := []) C hW hl (c_X11_getsBy l G ((nI j) >>> ((1 : Int32) &&& 31)) ((nI j) &&& (1 : Int32)) (bI (crA a kb hr (a 8))) (bI (crA a ka hr (a 8)))  _) k_ml_X11_193 q_X11_getsBy (by decide) [] rfl rfl rfl rfl (Nat.le_of_ble_eq_true rfl) dX11_yours_158 (by decide)) (fun r_2180 er_2180 => ?_)
                    clear hW H locs; intro H locs hW
                    refine lv_as (y := gn ((nI j) >>> ((1 : Int32) &&& 31)) ((nI j) &&& (1 : Int32)) (bI (crA a kb hr (a 8))) (bI (crA a ka hr (a 8)))) er_2180 ?_
                    clear er_2180 r_2180
                    refine lv_iconst (v := 1) hx hb dX11_yours_161 (by decide) ?_
                    refine lv_iload hx hb dX11_yours_162 (lv_at hl 0 rfl) ?_
                    refine lv_isub hx hb dX11_yours_164 ?_
                    refine lv_iload hx hb dX11_yours_165 (lv_at hl 1 rfl) ?_
                    refine lv_iload hx hb dX11_yours_167 (lv_at hl 4 rfl) ?_
                    refine lv_iload_n hx hb dX11_yours_169 rfl (lv_at hl 5 rfl) ?_
                    refine g_fi C hW [] rfl (g_runS (As := [.int (1 - ((nI j) >>> ((1 : Int32) &&& 31))), .int ((nI j) &&& (1 : Int32)), .int (bI (crA a kb hr (a 8))), .int (bI (crA a ka hr (a 8)))]) (rest := [.int (gn ((nI j) >>> ((1 : Int32) &&& 31)) ((nI j) &&& (1 : Int32)) (bI (crA a kb hr (a 8))) (bI (crA a ka hr (a 8))))]) (wc := []) C hW hl (c_X11_getsBy l G (1 - ((nI j) >>> ((1 : Int32) &&& 31))) ((nI j) &&& (1 : Int32)) (bI (crA a kb hr (a 8))) (bI (crA a ka hr (a 8)))  _) k_ml_X11_193 q_X11_getsBy (by decide) [] rfl rfl rfl rfl (Nat.le_of_ble_eq_true rfl) dX11_yours_170 (by decide)) (fun r_2181 er_2181 => ?_)
                    clear hW H locs; intro H locs hW
                    refine lv_as (y := gn (1 - ((nI j) >>> ((1 : Int32) &&& 31))) ((nI j) &&& (1 : Int32)) (bI (crA a kb hr (a 8))) (bI (crA a ka hr (a 8)))) er_2181 ?_
                    clear er_2181 r_2181
                    refine lv_icmp_lt (tgt := 180) hx hb dX11_yours_173 (by decide) (fun c_2182 => ?_) (fun c_2182 => ?_)
                    · replace c_2182 := Int32.not_le.mpr c_2182
                      refine lv_iconst (v := 0) hx hb dX11_yours_180 (by decide) ?_
                      exact J_2176 0 (by first | (simp only [c_2170, c_2182, if_true, if_false, reduceIte]; done) | (simp [c_2170, c_2182]; done) | rfl | (rw [if_pos c_2170, if_neg c_2182]; done)) _ _ _ hW (lv_sub hl [0, 1, 2, 3, 4, 5, 6, 7, 8] rfl)
                    · replace c_2182 := Int32.not_lt.mp c_2182
                      refine lv_iconst (v := 1) hx hb dX11_yours_176 (by decide) ?_
                      refine lv_goto (tgt := 181) hx hb dX11_yours_177 (by decide) ?_
                      exact J_2176 1 (by first | (simp only [c_2170, c_2182, if_true, if_false, reduceIte]; done) | (simp [c_2170, c_2182]; done) | rfl | (rw [if_pos c_2170, if_pos c_2182]; done)) _ _ _ hW (lv_sub hl [0, 1, 2, 3, 4, 5, 6, 7, 8] rfl)
            exact K_2162 _ 0 0 0 (by first | exact rfl | (simp; done)) (by exact rfl) (by first | omega | assumption | (simp; done)) (Nat.lt_succ_self _) _ _ _ hW (lv_sub hl [0, 1, 2, 3, 4, 5, 6] rfl)
          · exfalso; exact dd (by first | assumption | exact okp_nI (by omega) (by assumption) | exact decide_eq_true (by first | assumption | omega)) c_2159
      · have c_2155n : ka = kb := (nI_eq (a := ka) (b := kb) (by omega) (by omega)).mp c_2155
        exfalso; omega
set_option maxHeartbeats 4000000 in
set_option maxRecDepth 100000 in
theorem c_X11_yours_no (l : Launch) (G : gT) (mo al ke ik rq so ha te bt an vs : Nat) (mab mbe : Int64) (bL tA tL tK tV : Int32) (rv : Nat → Int32) (a : Nat → Int32) (n ka kb : Nat) (hka : ka < n) (hkb : kb < n) (hne : ka ≠ kb) (hn : n ≤ 7) (e0 : a 0 = nI n) (hbad : (atA a ka && atA a kb) = false) : MI l G yX11_yours cX11_yours 10 .int ({ frames := 2, cells := 0, slots := 0, locals := 46 }) [.ref mo, .int (nI ka), .int (nI kb)] [(mo, .inr (9, [.ref al, .ref ke, .ref ik, .ref rq, .long mab, .long mbe, .ref so, .ref ha, .ref te, .ref bt, .int bL, .int tA, .int tL, .int tK, .int tV, .ref an, .ref vs])), (al, .inl (G.2.1, 159, .inl a)), (rq, .inl (G.2.1, 3, .inl rv))] (fun (r : Int32) w1 => ∃ u_ : Unit, (r = (-3)) ∧ w1 = [(mo, .inr (9, [.ref al, .ref ke, .ref ik, .ref rq, .long mab, .long mbe, .ref so, .ref ha, .ref te, .ref bt, .int bL, .int tA, .int tL, .int tK, .int tV, .ref an, .ref vs])), (al, .inl (G.2.1, 159, .inl a)), (rq, .inl (G.2.1, 3, .inl (upd rv 1 (rv 1 + 1))))]) := by
  refine MI.mk (by decide) (Nat.le_of_ble_eq_true rfl) ?_
  intro p_ e_ s_ m_ ar_ be_ me_ cd_ A_ ls C hrt hW hl
  have hx := C.1; have hb := C.2.1; have hown := C.2.2.2.1; have ht := C.2.2.2.2.1
  replace hl : lv_has ls 10 [(0, .ref mo), (1, .int (nI ka)), (2, .int (nI kb))] := hl
  generalize hQ : MQ be_ _ ar_ s_ 0 0 A_ = Q
  refine lv_aload_n hx hb dX11_yours_0 rfl (lv_at hl 0 rfl) ?_
  refine lv_iload_n hx hb dX11_yours_1 rfl (lv_at hl 1 rfl) ?_
  refine g_fi C hW [0, 1] rfl (g_runV (As := [.int (nI ka)]) (rest := []) (wc := [(mo, .inr (9, [.ref al, .ref ke, .ref ik, .ref rq, .long mab, .long mbe, .ref so, .ref ha, .ref te, .ref bt, .int bL, .int tA, .int tL, .int tK, .int tV, .ref an, .ref vs])), (al, .inl (G.2.1, 159, .inl a))]) (q0 := 0) (ci := 9) C hW hl (c_X11_isPlayer l G mo al ke ik rq so ha te bt an vs mab mbe bL tA tL tK tV a n (nI ka) (by first | assumption | omega) (by first | assumption | omega) _) k_ml_X11_118 q_X11_isPlayer (by decide) [0, 1] rfl rfl rfl rfl rfl rfl (Nat.le_of_ble_eq_true rfl) dX11_yours_2 (by decide)) (fun r_2183 er_2183 => ?_)
  clear hW; intro H locs hW
  refine lv_as (y := bI (okp n (nI ka))) er_2183 ?_
  clear er_2183 r_2183
  refine lv_if_eq (tgt := 21) hx hb dX11_yours_5 (by decide) (fun c_2184 => ?_) (fun c_2184 => ?_)
  · exfalso; exact dd (okp_nI (by omega) hka) c_2184
  · refine lv_aload_n hx hb dX11_yours_8 rfl (lv_at hl 0 rfl) ?_
    refine lv_iload_n hx hb dX11_yours_9 rfl (lv_at hl 2 rfl) ?_
    refine g_fi C hW [0, 1] rfl (g_runV (As := [.int (nI kb)]) (rest := []) (wc := [(mo, .inr (9, [.ref al, .ref ke, .ref ik, .ref rq, .long mab, .long mbe, .ref so, .ref ha, .ref te, .ref bt, .int bL, .int tA, .int tL, .int tK, .int tV, .ref an, .ref vs])), (al, .inl (G.2.1, 159, .inl a))]) (q0 := 0) (ci := 9) C hW hl (c_X11_isPlayer l G mo al ke ik rq so ha te bt an vs mab mbe bL tA tL tK tV a n (nI kb) (by first | assumption | omega) (by first | assumption | omega) _) k_ml_X11_118 q_X11_isPlayer (by decide) [0, 1] rfl rfl rfl rfl rfl rfl (Nat.le_of_ble_eq_true rfl) dX11_yours_10 (by decide)) (fun r_2185 er_2185 => ?_)
    clear hW H locs; intro H locs hW
    refine lv_as (y := bI (okp n (nI kb))) er_2185 ?_
    clear er_2185 r_2185
    refine lv_if_eq (tgt := 21) hx hb dX11_yours_13 (by decide) (fun c_2186 => ?_) (fun c_2186 => ?_)
    · exfalso; exact dd (okp_nI (by omega) hkb) c_2186
    · refine lv_iload_n hx hb dX11_yours_16 rfl (lv_at hl 1 rfl) ?_
      refine lv_iload_n hx hb dX11_yours_17 rfl (lv_at hl 2 rfl) ?_
      refine lv_icmp_ne (tgt := 28) hx hb dX11_yours_18 (by decide) (fun c_2187 => ?_) (fun c_2187 => ?_)
      · have c_2187n : ¬ ka = kb := fun q => c_2187 ((nI_eq (a := ka) (b := kb) (by omega) (by omega)).mpr q)
        refine lv_aload_n hx hb dX11_yours_28 rfl (lv_at hl 0 rfl) ?_
        refine g_get (k := 0) (v := .ref al) C hW 0 rfl rfl jnX11 (by decide) k_fl_X11_7 rfl dX11_yours_29 ?_
        refine lv_iload_n hx hb dX11_yours_32 rfl (lv_at hl 1 rfl) ?_
        refine g_fi C hW [1] rfl (g_runS (As := [.ref al, .int (nI ka)]) (rest := []) (wc := [(al, .inl (G.2.1, 159, .inl a))]) C hW hl (c_X11_isAt l G al 159 a ka (by first | assumption | omega) (by first | assumption | omega) _) k_ml_X11_107 q_X11_isAt (by decide) [1] rfl rfl rfl rfl (Nat.le_of_ble_eq_true rfl) dX11_yours_33 (by decide)) (fun r_2188 er_2188 => ?_)
        clear hW H locs; intro H locs hW
        refine lv_as (y := bI (atA a ka)) er_2188 ?_
        clear er_2188 r_2188
        have J_2192 : ∀ (H : Heap) (locs : List Loc) (ls : Array Slot), Wd G A_ s_.heap [(mo, .inr (9, [.ref al, .ref ke, .ref ik, .ref rq, .long mab, .long mbe, .ref so, .ref ha, .ref te, .ref bt, .int bL, .int tA, .int tL, .int tK, .int tV, .ref an, .ref vs])), (al, .inl (G.2.1, 159, .inl a)), (rq, .inl (G.2.1, 3, .inl rv))] H locs → lv_has ls 10 [(0, .ref mo), (1, .int (nI ka)), (2, .int (nI kb))] → W p_ l e_ ({ frames := 2, cells := 0, slots := 0, locals := 46 }) s_ m_ ar_ be_ me_ cd_ H locs 0 0 Q (F0 m_ 50 ls []) := by
          intro  H locs ls hW hl
          refine lv_aload_n hx hb dX11_yours_50 rfl (lv_at hl 0 rfl) ?_
          refine g_fiw (wr := [(al, .inl (G.2.1, 159, .inl a))]) (ww := fun (u_ : Unit) => [(mo, .inr (9, [.ref al, .ref ke, .ref ik, .ref rq, .long mab, .long mbe, .ref so, .ref ha, .ref te, .ref bt, .int bL, .int tA, .int tL, .int tK, .int tV, .ref an, .ref vs])), (rq, .inl (G.2.1, 3, .inl (upd rv 1 (rv 1 + 1))))]) (w2 := fun (u_ : Unit) => [(mo, .inr (9, [.ref al, .ref ke, .ref ik, .ref rq, .long mab, .long mbe, .ref so, .ref ha, .ref te, .ref bt, .int bL, .int tA, .int tL, .int tK, .int tV, .ref an, .ref vs])), (al, .inl (G.2.1, 159, .inl a)), (rq, .inl (G.2.1, 3, .inl (upd rv 1 (rv 1 + 1))))]) C hW [0, 2] [1] [1, 0, 2] rfl rfl (by decide) (by decide) (by decide) (fun _ => rfl) (g_runV (As := []) (rest := []) (wc := [(mo, .inr (9, [.ref al, .ref ke, .ref ik, .ref rq, .long mab, .long mbe, .ref so, .ref ha, .ref te, .ref bt, .int bL, .int tA, .int tL, .int tK, .int tV, .ref an, .ref vs])), (rq, .inl (G.2.1, 3, .inl rv))]) (q0 := 0) (ci := 9) C hW hl (c_X11_no l G mo al ke ik rq so ha te bt an vs mab mbe bL tA tL tK tV rv  _) k_ml_X11_124 q_X11_no (by decide) [0, 2] rfl rfl rfl rfl rfl rfl (Nat.le_of_ble_eq_true rfl) dX11_yours_51 (by decide)) (fun r_2193 _ er_2193 => ?_)
          clear hW H locs; intro H locs hW
          refine lv_as (y := (-3)) er_2193 ?_
          clear er_2193 r_2193
          replace hW : Wd G A_ s_.heap [(mo, .inr (9, [.ref al, .ref ke, .ref ik, .ref rq, .long mab, .long mbe, .ref so, .ref ha, .ref te, .ref bt, .int bL, .int tA, .int tL, .int tK, .int tV, .ref an, .ref vs])), (al, .inl (G.2.1, 159, .inl a)), (rq, .inl (G.2.1, 3, .inl (upd rv 1 (rv 1 + 1))))] H locs := hW
          subst hQ
          exact g_iret (v := (-3)) C hW hrt ⟨(), by rfl, by rfl⟩ dX11_yours_54
        refine lv_if_eq (tgt := 50) hx hb dX11_yours_36 (by decide) (fun c_2189 => ?_) (fun c_2189 => ?_)
        · exact J_2192  _ _ _ hW (lv_sub hl [0, 1, 2] rfl)
        · refine lv_aload_n hx hb dX11_yours_39 rfl (lv_at hl 0 rfl) ?_
          refine g_get (k := 0) (v := .ref al) C hW 0 rfl rfl jnX11 (by decide) k_fl_X11_7 rfl dX11_yours_40 ?_
          refine lv_iload_n hx hb dX11_yours_43 rfl (lv_at hl 2 rfl) ?_
          refine g_fi C hW [1] rfl (g_runS (As := [.ref al, .int (nI kb)]) (rest := []) (wc := [(al, .inl (G.2.1, 159, .inl a))]) C hW hl (c_X11_isAt l G al 159 a kb (by first | assumption | omega) (by first | assumption | omega) _) k_ml_X11_107 q_X11_isAt (by decide) [1] rfl rfl rfl rfl (Nat.le_of_ble_eq_true rfl) dX11_yours_44 (by decide)) (fun r_2195 er_2195 => ?_)
          clear hW H locs; intro H locs hW
          refine lv_as (y := bI (atA a kb)) er_2195 ?_
          clear er_2195 r_2195
          refine lv_if_ne (tgt := 55) hx hb dX11_yours_47 (by decide) (fun c_2196 => ?_) (fun c_2196 => ?_)
          · exfalso; simp [bI_ne.mp c_2189, bI_ne.mp c_2196] at hbad
          · exact J_2192  _ _ _ hW (lv_sub hl [0, 1, 2] rfl)
      · have c_2187n : ka = kb := (nI_eq (a := ka) (b := kb) (by omega) (by omega)).mp c_2187
        exfalso; omega
set_option maxHeartbeats 4000000 in
set_option maxRecDepth 100000 in
theorem c_X11_yours_bad (l : Launch) (G : gT) (mo al ke ik rq so ha te bt an vs : Nat) (mab mbe : Int64) (bL tA tL tK tV : Int32) (rv : Nat → Int32) (a : Nat → Int32) (n : Nat) (a9 b9 : Int32) (e0 : a 0 = nI n) (hn : n ≤ 7) (hbad : (okp n a9 && (okp n b9 && !(decide (a9 = b9)))) = false) : MI l G yX11_yours cX11_yours 10 .int ({ frames := 2, cells := 0, slots := 0, locals := 46 }) [.ref mo, .int a9, .int b9] [(mo, .inr (9, [.ref al, .ref ke, .ref ik, .ref rq, .long mab, .long mbe, .ref so, .ref ha, .ref te, .ref bt, .int bL, .int tA, .int tL, .int tK, .int tV, .ref an, .ref vs])), (al, .inl (G.2.1, 159, .inl a)), (rq, .inl (G.2.1, 3, .inl rv))] (fun (r : Int32) w1 => ∃ u_ : Unit, (r = (-2)) ∧ w1 = [(mo, .inr (9, [.ref al, .ref ke, .ref ik, .ref rq, .long mab, .long mbe, .ref so, .ref ha, .ref te, .ref bt, .int bL, .int tA, .int tL, .int tK, .int tV, .ref an, .ref vs])), (al, .inl (G.2.1, 159, .inl a)), (rq, .inl (G.2.1, 3, .inl (upd rv 0 (rv 0 + 1))))]) := by
  refine MI.mk (by decide) (Nat.le_of_ble_eq_true rfl) ?_
  intro p_ e_ s_ m_ ar_ be_ me_ cd_ A_ ls C hrt hW hl
  have hx := C.1; have hb := C.2.1; have hown := C.2.2.2.1; have ht := C.2.2.2.2.1
  replace hl : lv_has ls 10 [(0, .ref mo), (1, .int a9), (2, .int b9)] := hl
  generalize hQ : MQ be_ _ ar_ s_ 0 0 A_ = Q
  refine lv_aload_n hx hb dX11_yours_0 rfl (lv_at hl 0 rfl) ?_
  refine lv_iload_n hx hb dX11_yours_1 rfl (lv_at hl 1 rfl) ?_
  refine g_fi C hW [0, 1] rfl (g_runV (As := [.int a9]) (rest := []) (wc := [(mo, .inr (9, [.ref al, .ref ke, .ref ik, .ref rq, .long mab, .long mbe, .ref so, .ref ha, .ref te, .ref bt, .int bL, .int tA, .int tL, .int tK, .int tV, .ref an, .ref vs])), (al, .inl (G.2.1, 159, .inl a))]) (q0 := 0) (ci := 9) C hW hl (c_X11_isPlayer l G mo al ke ik rq so ha te bt an vs mab mbe bL tA tL tK tV a n a9 (by first | assumption | omega) (by first | assumption | omega) _) k_ml_X11_118 q_X11_isPlayer (by decide) [0, 1] rfl rfl rfl rfl rfl rfl (Nat.le_of_ble_eq_true rfl) dX11_yours_2 (by decide)) (fun r_2197 er_2197 => ?_)
  clear hW; intro H locs hW
  refine lv_as (y := bI (okp n a9)) er_2197 ?_
  clear er_2197 r_2197
  have J_2201 : ∀ (H : Heap) (locs : List Loc) (ls : Array Slot), Wd G A_ s_.heap [(mo, .inr (9, [.ref al, .ref ke, .ref ik, .ref rq, .long mab, .long mbe, .ref so, .ref ha, .ref te, .ref bt, .int bL, .int tA, .int tL, .int tK, .int tV, .ref an, .ref vs])), (al, .inl (G.2.1, 159, .inl a)), (rq, .inl (G.2.1, 3, .inl rv))] H locs → lv_has ls 10 [(0, .ref mo), (1, .int a9), (2, .int b9)] → W p_ l e_ ({ frames := 2, cells := 0, slots := 0, locals := 46 }) s_ m_ ar_ be_ me_ cd_ H locs 0 0 Q (F0 m_ 21 ls []) := by
    intro  H locs ls hW hl
    refine lv_aload_n hx hb dX11_yours_21 rfl (lv_at hl 0 rfl) ?_
    refine lv_bipush (v := (-2)) hx hb dX11_yours_22 (by decide) ?_
    refine g_fiw (wr := [(al, .inl (G.2.1, 159, .inl a))]) (ww := fun (u_ : Unit) => [(mo, .inr (9, [.ref al, .ref ke, .ref ik, .ref rq, .long mab, .long mbe, .ref so, .ref ha, .ref te, .ref bt, .int bL, .int tA, .int tL, .int tK, .int tV, .ref an, .ref vs])), (rq, .inl (G.2.1, 3, .inl (upd rv 0 (rv 0 + 1))))]) (w2 := fun (u_ : Unit) => [(mo, .inr (9, [.ref al, .ref ke, .ref ik, .ref rq, .long mab, .long mbe, .ref so, .ref ha, .ref te, .ref bt, .int bL, .int tA, .int tL, .int tK, .int tV, .ref an, .ref vs])), (al, .inl (G.2.1, 159, .inl a)), (rq, .inl (G.2.1, 3, .inl (upd rv 0 (rv 0 + 1))))]) C hW [0, 2] [1] [1, 0, 2] rfl rfl (by decide) (by decide) (by decide) (fun _ => rfl) (g_runV (As := [.int (-2)]) (rest := []) (wc := [(mo, .inr (9, [.ref al, .ref ke, .ref ik, .ref rq, .long mab, .long mbe, .ref so, .ref ha, .ref te, .ref bt, .int bL, .int tA, .int tL, .int tK, .int tV, .ref an, .ref vs])), (rq, .inl (G.2.1, 3, .inl rv))]) (q0 := 0) (ci := 9) C hW hl (c_X11_bad l G mo al ke ik rq so ha te bt an vs mab mbe bL tA tL tK tV rv (-2)  _) k_ml_X11_67 q_X11_bad (by decide) [0, 2] rfl rfl rfl rfl rfl rfl (Nat.le_of_ble_eq_true rfl) dX11_yours_24 (by decide)) (fun r_2202 _ er_2202 => ?_)
    clear hW H locs; intro H locs hW
    refine lv_as (y := (-2)) er_2202 ?_
    clear er_2202 r_2202
    replace hW : Wd G A_ s_.heap [(mo, .inr (9, [.ref al, .ref ke, .ref ik, .ref rq, .long mab, .long mbe, .ref so, .ref ha, .ref te, .ref bt, .int bL, .int tA, .int tL, .int tK, .int tV, .ref an, .ref vs])), (al, .inl (G.2.1, 159, .inl a)), (rq, .inl (G.2.1, 3, .inl (upd rv 0 (rv 0 + 1))))] H locs := hW
    subst hQ
    exact g_iret (v := (-2)) C hW hrt ⟨(), by rfl, by rfl⟩ dX11_yours_27
  refine lv_if_eq (tgt := 21) hx hb dX11_yours_5 (by decide) (fun c_2198 => ?_) (fun c_2198 => ?_)
  · exact J_2201  _ _ _ hW (lv_sub hl [0, 1, 2] rfl)
  · refine lv_aload_n hx hb dX11_yours_8 rfl (lv_at hl 0 rfl) ?_
    refine lv_iload_n hx hb dX11_yours_9 rfl (lv_at hl 2 rfl) ?_
    refine g_fi C hW [0, 1] rfl (g_runV (As := [.int b9]) (rest := []) (wc := [(mo, .inr (9, [.ref al, .ref ke, .ref ik, .ref rq, .long mab, .long mbe, .ref so, .ref ha, .ref te, .ref bt, .int bL, .int tA, .int tL, .int tK, .int tV, .ref an, .ref vs])), (al, .inl (G.2.1, 159, .inl a))]) (q0 := 0) (ci := 9) C hW hl (c_X11_isPlayer l G mo al ke ik rq so ha te bt an vs mab mbe bL tA tL tK tV a n b9 (by first | assumption | omega) (by first | assumption | omega) _) k_ml_X11_118 q_X11_isPlayer (by decide) [0, 1] rfl rfl rfl rfl rfl rfl (Nat.le_of_ble_eq_true rfl) dX11_yours_10 (by decide)) (fun r_2204 er_2204 => ?_)
    clear hW H locs; intro H locs hW
    refine lv_as (y := bI (okp n b9)) er_2204 ?_
    clear er_2204 r_2204
    refine lv_if_eq (tgt := 21) hx hb dX11_yours_13 (by decide) (fun c_2205 => ?_) (fun c_2205 => ?_)
    · exact J_2201  _ _ _ hW (lv_sub hl [0, 1, 2] rfl)
    · refine lv_iload_n hx hb dX11_yours_16 rfl (lv_at hl 1 rfl) ?_
      refine lv_iload_n hx hb dX11_yours_17 rfl (lv_at hl 2 rfl) ?_
      refine lv_icmp_ne (tgt := 28) hx hb dX11_yours_18 (by decide) (fun c_2206 => ?_) (fun c_2206 => ?_)
      · exfalso; simp [bI_ne.mp c_2198, bI_ne.mp c_2205, c_2206, if_true, if_false, reduceIte, Bool.false_eq_true] at hbad
      · exact J_2201  _ _ _ hW (lv_sub hl [0, 1, 2] rfl)
