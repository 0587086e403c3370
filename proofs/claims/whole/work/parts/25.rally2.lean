set_option maxHeartbeats 4000000 in
set_option maxRecDepth 100000 in
theorem c_X4_workBack (l : Launch) (G : gT) (ra rc rr rf td : Nat) (fst_ : Int32) (car rea fin : Nat → Int32) (hrs : Nat) (htd : td < 128) (hh : hrs ≤ 20) : MV l G yX4_workBack cX4_workBack 4 ({ frames := 2, cells := 0, slots := 0, locals := 48 }) [.ref ra, .int (nI hrs)] [(ra, .inr (2, [.ref rc, .ref rr, .ref rf, .int (nI td), .int fst_])), (rc, .inl (G.2.1, 40, .inl car)), (rr, .inl (G.2.1, 256, .inl rea)), (rf, .inl (G.2.1, 256, .inl fin))] (fun w1 => ∃ u_ : Unit, (True) ∧ w1 = [(ra, .inr (2, [.ref rc, .ref rr, .ref rf, .int (nI td), .int fst_])), (rc, .inl (G.2.1, 40, .inl car)), (rr, .inl (G.2.1, 256, .inl rea)), (rf, .inl (G.2.1, 256, .inl (wbO car rea td hrs (wb0 td hrs fin) hrs)))]) := by
  refine MV.mk (by decide) (Nat.le_of_ble_eq_true rfl) ?_
  intro p_ e_ s_ m_ ar_ be_ me_ cd_ A_ ls C hrt hW hl
  have hx := C.1; have hb := C.2.1; have hown := C.2.2.2.1; have ht := C.2.2.2.2.1
  replace hl : lv_has ls 4 [(0, .ref ra), (1, .int (nI hrs))] := hl
  generalize hQ : MQ be_ _ ar_ s_ 0 0 A_ = Q
  refine lv_aload_n hx hb dX4_workBack_0 rfl (lv_at hl 0 rfl) ?_
  refine g_get (k := 2) (v := .ref rf) C hW 0 rfl rfl jnX4 (by decide) k_fl_X4_18 rfl dX4_workBack_1 ?_
  refine lv_iconst (v := 0) hx hb dX4_workBack_4 (by decide) ?_
  refine g_fvw (wr := [(ra, .inr (2, [.ref rc, .ref rr, .ref rf, .int (nI td), .int fst_])), (rc, .inl (G.2.1, 40, .inl car)), (rr, .inl (G.2.1, 256, .inl rea))]) (ww := fun (u_ : Unit) => [(rf, .inl (G.2.1, 256, .inl (fun i => if i < 256 then 0 else fin i)))]) (w2 := fun (u_ : Unit) => [(ra, .inr (2, [.ref rc, .ref rr, .ref rf, .int (nI td), .int fst_])), (rc, .inl (G.2.1, 40, .inl car)), (rr, .inl (G.2.1, 256, .inl rea)), (rf, .inl (G.2.1, 256, .inl (fun i => if i < 256 then 0 else fin i)))]) C hW [3] [0, 1, 2] [0, 1, 2, 3] rfl rfl (by decide) (by decide) (by decide) (fun _ => rfl) (g_runS (As := [.ref rf, .int 0]) (rest := []) (wc := [(rf, .inl (G.2.1, 256, .inl fin))]) C hW hl (c_J7_fill_53178 l G rf 256 fin 0 (by omega) _) k_ml_X4_38 q_J7_fill_53178 (by decide) [3] rfl rfl rfl rfl (Nat.le_of_ble_eq_true rfl) dX4_workBack_5 (by decide)) (fun _ er_438 => ?_)
  clear hW; intro H locs hW
  replace hW : Wd G A_ s_.heap [(ra, .inr (2, [.ref rc, .ref rr, .ref rf, .int (nI td), .int fst_])), (rc, .inl (G.2.1, 40, .inl car)), (rr, .inl (G.2.1, 256, .inl rea)), (rf, .inl (G.2.1, 256, .inl (fun i => if i < 256 then 0 else fin i)))] H locs := hW
  refine lv_aload_n hx hb dX4_workBack_8 rfl (lv_at hl 0 rfl) ?_
  refine g_get (k := 2) (v := .ref rf) C hW 0 rfl rfl jnX4 (by decide) k_fl_X4_18 rfl dX4_workBack_9 ?_
  refine lv_aload_n hx hb dX4_workBack_12 rfl (lv_at hl 0 rfl) ?_
  refine g_get (k := 3) (v := .int (nI td)) C hW 0 rfl rfl jnX4 (by decide) k_fl_X4_21 rfl dX4_workBack_13 ?_
  refine lv_iconst (v := 1) hx hb dX4_workBack_16 (by decide) ?_
  refine lv_iload_n hx hb dX4_workBack_17 rfl (lv_at hl 1 rfl) ?_
  refine lv_ishl hx hb dX4_workBack_18 ?_
  refine g_ast (w' := [(ra, .inr (2, [.ref rc, .ref rr, .ref rf, .int (nI td), .int fst_])), (rc, .inl (G.2.1, 40, .inl car)), (rr, .inl (G.2.1, 256, .inl rea)), (rf, .inl (G.2.1, 256, .inl (upd (fun i => if i < 256 then 0 else fin i) td ((1 : Int32) <<< ((nI hrs) &&& 31)))))]) C hW 3 rfl (ix_in (show (nI td) = nI td from (by first | rfl | (simp only [nI_lit, nI_add, pk_mul]; done) | (simp only [nI_lit, nI_add, pk_mul]; congr 1; omega))) (by omega) (by omega)) (by rw [show (nI td).toNatClampNeg = td from nI_clamp (by omega)]; rfl) dX4_workBack_19 ?_
  clear hW H locs; intro H locs hW
  refine lv_aload_n hx hb dX4_workBack_20 rfl (lv_at hl 0 rfl) ?_
  refine g_get (k := 2) (v := .ref rf) C hW 0 rfl rfl jnX4 (by decide) k_fl_X4_18 rfl dX4_workBack_21 ?_
  refine lv_aload_n hx hb dX4_workBack_24 rfl (lv_at hl 0 rfl) ?_
  refine g_get (k := 3) (v := .int (nI td)) C hW 0 rfl rfl jnX4 (by decide) k_fl_X4_21 rfl dX4_workBack_25 ?_
  refine lv_sipush (v := 128) hx hb dX4_workBack_28 (by decide) ?_
  refine lv_ior hx hb dX4_workBack_31 ?_
  refine lv_iconst (v := 1) hx hb dX4_workBack_32 (by decide) ?_
  refine lv_iload_n hx hb dX4_workBack_33 rfl (lv_at hl 1 rfl) ?_
  refine lv_ishl hx hb dX4_workBack_34 ?_
  refine g_ast (w' := [(ra, .inr (2, [.ref rc, .ref rr, .ref rf, .int (nI td), .int fst_])), (rc, .inl (G.2.1, 40, .inl car)), (rr, .inl (G.2.1, 256, .inl rea)), (rf, .inl (G.2.1, 256, .inl (upd (upd (fun i => if i < 256 then 0 else fin i) td ((1 : Int32) <<< ((nI hrs) &&& 31))) (td ||| 128) ((1 : Int32) <<< ((nI hrs) &&& 31)))))]) C hW 3 rfl (ix_in (show ((nI td) ||| (128 : Int32)) = nI (td ||| 128) from (by exact (or128 htd).1)) (by exact (or128 htd).2) (by omega)) (by rw [show ((nI td) ||| (128 : Int32)).toNatClampNeg = (td ||| 128) from ix_cl (show ((nI td) ||| (128 : Int32)) = nI (td ||| 128) from (by exact (or128 htd).1)) (Nat.lt_of_lt_of_le (m := 256) (by exact (or128 htd).2) (by omega))]; rfl) dX4_workBack_35 ?_
  clear hW H locs; intro H locs hW
  refine lv_iload_n hx hb dX4_workBack_36 rfl (lv_at hl 1 rfl) ?_
  refine lv_iconst (v := 1) hx hb dX4_workBack_37 (by decide) ?_
  refine lv_isub hx hb dX4_workBack_38 ?_
  refine lv_istore_n (lv' := [(2, .int ((nI hrs) - 1)), (0, .ref ra), (1, .int (nI hrs))]) hx hb dX4_workBack_39 rfl hl (by decide) rfl ?_
  clear hl ls; intro ls hl
  have K_440 : ∀ (n_ : Nat) (tt : Nat) (x_441 : Int32) (g_442 : Nat → Int32) (_ : x_441 = nI tt - 1) (_ : g_442 = (wbO car rea td hrs (wb0 td hrs fin) (hrs - tt))) (_ : tt ≤ hrs) (_ : tt < n_) (H : Heap) (locs : List Loc) (ls : Array Slot), Wd G A_ s_.heap [(ra, .inr (2, [.ref rc, .ref rr, .ref rf, .int (nI td), .int fst_])), (rc, .inl (G.2.1, 40, .inl car)), (rr, .inl (G.2.1, 256, .inl rea)), (rf, .inl (G.2.1, 256, .inl g_442))] H locs → lv_has ls 4 [(2, .int x_441), (0, .ref ra), (1, .int (nI hrs))] → W p_ l e_ ({ frames := 2, cells := 0, slots := 0, locals := 48 }) s_ m_ ar_ be_ me_ cd_ H locs 0 0 Q (F0 m_ 40 ls []) := by
    intro n_
    induction n_ with
    | zero => intro tt x_441 g_442 ex_441 eg_442 htt9 hm_; exact absurd hm_ (Nat.not_lt_zero _)
    | succ n_ ihK_440 =>
      intro tt x_441 g_442 ex_441 eg_442 htt9 hm_ H locs ls hW hl
      subst ex_441
      subst eg_442
      refine lv_iload_n hx hb dX4_workBack_40 rfl (lv_at hl 0 rfl) ?_
      refine lv_if_lt (tgt := 101) hx hb dX4_workBack_41 (by decide) (fun c_443 => ?_) (fun c_443 => ?_)
      · replace c_443 := Int32.not_le.mpr c_443
        have ht0 : ¬ 0 < tt := fun q => c_443 ((m1_ge (by omega)).mpr q)
        subst hQ
        exact g_vret C hW hrt ⟨(), trivial, by rw [show hrs - tt = hrs by omega]⟩ dX4_workBack_101
      · replace c_443 := Int32.not_lt.mp c_443
        have ht1 : 0 < tt := (m1_ge (by omega)).mp c_443
        refine lv_iconst (v := 0) hx hb dX4_workBack_44 (by decide) ?_
        refine lv_istore_n (lv' := [(3, .int 0), (2, .int (nI tt - 1)), (0, .ref ra), (1, .int (nI hrs))]) hx hb dX4_workBack_45 rfl hl (by decide) rfl ?_
        clear hl ls; intro ls hl
        have K_444 : ∀ (n_ : Nat) (sp : Nat) (x_445 : Int32) (g_446 : Nat → Int32) (_ : x_445 = nI sp) (_ : g_446 = (wbI car rea td (tt - 1) (wbO car rea td hrs (wb0 td hrs fin) (hrs - tt)) sp)) (_ : sp ≤ 256) (_ : 256 - sp < n_) (H : Heap) (locs : List Loc) (ls : Array Slot), Wd G A_ s_.heap [(ra, .inr (2, [.ref rc, .ref rr, .ref rf, .int (nI td), .int fst_])), (rc, .inl (G.2.1, 40, .inl car)), (rr, .inl (G.2.1, 256, .inl rea)), (rf, .inl (G.2.1, 256, .inl g_446))] H locs → lv_has ls 4 [(3, .int x_445), (2, .int (nI tt - 1)), (0, .ref ra), (1, .int (nI hrs))] → W p_ l e_ ({ frames := 2, cells := 0, slots := 0, locals := 48 }) s_ m_ ar_ be_ me_ cd_ H locs 0 0 Q (F0 m_ 46 ls []) := by
          intro n_
          induction n_ with
          | zero => intro sp x_445 g_446 ex_445 eg_446 hsp9 hm_; exact absurd hm_ (Nat.not_lt_zero _)
          | succ n_ ihK_444 =>
            intro sp x_445 g_446 ex_445 eg_446 hsp9 hm_ H locs ls hW hl
            subst ex_445
            subst eg_446
            refine lv_iload_n hx hb dX4_workBack_46 rfl (lv_at hl 0 rfl) ?_
            refine lv_sipush (v := 256) hx hb dX4_workBack_47 (by decide) ?_
            refine lv_icmp_ge (tgt := 95) hx hb dX4_workBack_50 (by decide) (fun c_447 => ?_) (fun c_447 => ?_)
            · replace c_447 := Int32.not_lt.mpr c_447
              have c_447n : ¬ sp < 256 := fun q => c_447 ((nI_ltI (a := sp) (b := 256) (by omega) (by omega)).mpr q)
              obtain rfl : sp = 256 := by omega
              refine lv_iinc (v := (nI tt - 1) + (-1)) (lv' := [(2, .int ((nI tt - 1) + (-1))), (3, .int (nI 256)), (0, .ref ra), (1, .int (nI hrs))]) hx hb dX4_workBack_95 hl (k := 1) rfl rfl (by decide) rfl ?_
              clear hl ls; intro ls hl
              refine lv_goto (tgt := 40) hx hb dX4_workBack_98 (by decide) ?_
              exact ihK_440 (tt - 1) ((nI tt - 1) + (-1)) (wbI car rea td (tt - 1) (wbO car rea td hrs (wb0 td hrs fin) (hrs - tt)) 256) (by exact m1_p ht1) (by (rw [show hrs - (tt - 1) = (hrs - tt) + 1 by omega, wbO, show hrs - 1 - (hrs - tt) = tt - 1 by omega])) (by first | omega | assumption | (simp; done)) (by omega) _ _ _ hW (lv_sub hl [0, 2, 3] rfl)
            · replace c_447 := Int32.not_le.mp c_447
              have c_447n : sp < 256 := (nI_ltI (a := sp) (b := 256) (by omega) (by omega)).mp c_447
              refine lv_aload_n hx hb dX4_workBack_53 rfl (lv_at hl 2 rfl) ?_
              refine g_get (k := 1) (v := .ref rr) C hW 0 rfl rfl jnX4 (by decide) k_fl_X4_15 rfl dX4_workBack_54 ?_
              refine lv_iload_n hx hb dX4_workBack_57 rfl (lv_at hl 0 rfl) ?_
              refine g_ald C hW 2 rfl (ix_in (show (nI sp) = nI sp from (by first | rfl | (simp only [nI_lit, nI_add, pk_mul]; done) | (simp only [nI_lit, nI_add, pk_mul]; congr 1; omega))) (by omega) (by omega)) dX4_workBack_58 ?_
              refine lv_as (y := rea sp) (by rw [show (nI sp).toNatClampNeg = sp from nI_clamp (by omega)]) ?_
              refine lv_iload_n hx hb dX4_workBack_59 rfl (lv_at hl 1 rfl) ?_
              refine lv_as (y := nI (tt - 1)) (nI_dec1 ht1) ?_
              refine lv_ishr hx hb dX4_workBack_60 ?_
              refine lv_iconst (v := 1) hx hb dX4_workBack_61 (by decide) ?_
              refine lv_iand hx hb dX4_workBack_62 ?_
              have J_452 : ∀ (g_451 : Nat → Int32) (_ : g_451 = (if (((rea sp) >>> ((nI (tt - 1)) &&& 31)) &&& (1 : Int32)) = 0 then (wbI car rea td (tt - 1) (wbO car rea td hrs (wb0 td hrs fin) (hrs - tt)) sp) else (if (fsV car (wbI car rea td (tt - 1) (wbO car rea td hrs (wb0 td hrs fin) (hrs - tt)) sp) td sp (tt - 1)) = (-9) then (wbI car rea td (tt - 1) (wbO car rea td hrs (wb0 td hrs fin) (hrs - tt)) sp) else upd (wbI car rea td (tt - 1) (wbO car rea td hrs (wb0 td hrs fin) (hrs - tt)) sp) sp (((wbI car rea td (tt - 1) (wbO car rea td hrs (wb0 td hrs fin) (hrs - tt)) sp) sp) ||| ((1 : Int32) <<< ((nI (tt - 1)) &&& 31)))))), ∀ (H : Heap) (locs : List Loc) (ls : Array Slot), Wd G A_ s_.heap [(ra, .inr (2, [.ref rc, .ref rr, .ref rf, .int (nI td), .int fst_])), (rc, .inl (G.2.1, 40, .inl car)), (rr, .inl (G.2.1, 256, .inl rea)), (rf, .inl (G.2.1, 256, .inl g_451))] H locs → lv_has ls 4 [(3, .int (nI sp)), (2, .int (nI tt - 1)), (0, .ref ra), (1, .int (nI hrs))] → W p_ l e_ ({ frames := 2, cells := 0, slots := 0, locals := 48 }) s_ m_ ar_ be_ me_ cd_ H locs 0 0 Q (F0 m_ 89 ls []) := by
                intro g_451 eg_451 H locs ls hW hl
                refine lv_iinc (v := (nI sp) + 1) (lv' := [(3, .int ((nI sp) + 1)), (2, .int (nI tt - 1)), (0, .ref ra), (1, .int (nI hrs))]) hx hb dX4_workBack_89 hl (k := 0) rfl rfl (by decide) rfl ?_
                clear hl ls; intro ls hl
                refine lv_goto (tgt := 46) hx hb dX4_workBack_92 (by decide) ?_
                exact ihK_444 (sp + 1) ((nI sp) + 1) g_451 (by exact nI_1 _) (by (simp only [eg_451, wbI]; exact wb_st)) (by first | omega | assumption | (simp; done)) (by omega) _ _ _ hW (lv_sub hl [0, 1, 2, 3] rfl)
              refine lv_if_eq (tgt := 89) hx hb dX4_workBack_63 (by decide) (fun c_448 => ?_) (fun c_448 => ?_)
              · exact J_452 (wbI car rea td (tt - 1) (wbO car rea td hrs (wb0 td hrs fin) (hrs - tt)) sp) (by first | (simp only [c_448, if_true, if_false, reduceIte]; done) | (simp [c_448]; done) | rfl) _ _ _ hW (lv_sub hl [0, 1, 2, 3] rfl)
              · refine lv_aload_n hx hb dX4_workBack_66 rfl (lv_at hl 2 rfl) ?_
                refine lv_iload_n hx hb dX4_workBack_67 rfl (lv_at hl 0 rfl) ?_
                refine lv_iload_n hx hb dX4_workBack_68 rfl (lv_at hl 1 rfl) ?_
                refine lv_as (y := nI (tt - 1)) (nI_dec1 ht1) ?_
                refine g_fi C hW [0, 1, 3] rfl (g_runV (As := [.int (nI sp), .int (nI (tt - 1))]) (rest := []) (wc := [(ra, .inr (2, [.ref rc, .ref rr, .ref rf, .int (nI td), .int fst_])), (rc, .inl (G.2.1, 40, .inl car)), (rf, .inl (G.2.1, 256, .inl (wbI car rea td (tt - 1) (wbO car rea td hrs (wb0 td hrs fin) (hrs - tt)) sp)))]) (q0 := 0) (ci := 2) C hW hl (c_X4_firstStep l G ra rc rr rf td fst_ car (wbI car rea td (tt - 1) (wbO car rea td hrs (wb0 td hrs fin) (hrs - tt)) sp) sp (tt - 1) (by first | assumption | omega) (by first | assumption | omega) (by first | assumption | omega) _) k_ml_X4_63 q_X4_firstStep (by decide) [0, 1, 3] rfl rfl rfl rfl rfl rfl (Nat.le_of_ble_eq_true rfl) dX4_workBack_69 (by decide)) (fun r_453 er_453 => ?_)
                clear hW H locs; intro H locs hW
                subst er_453
                refine lv_bipush (v := (-9)) hx hb dX4_workBack_72 (by decide) ?_
                refine lv_icmp_eq (tgt := 89) hx hb dX4_workBack_74 (by decide) (fun c_454 => ?_) (fun c_454 => ?_)
                · exact J_452 (wbI car rea td (tt - 1) (wbO car rea td hrs (wb0 td hrs fin) (hrs - tt)) sp) (by first | (simp only [c_448, c_454, if_true, if_false, reduceIte]; done) | (simp [c_448, c_454]; done) | rfl) _ _ _ hW (lv_sub hl [0, 1, 2, 3] rfl)
                · refine lv_aload_n hx hb dX4_workBack_77 rfl (lv_at hl 2 rfl) ?_
                  refine g_get (k := 2) (v := .ref rf) C hW 0 rfl rfl jnX4 (by decide) k_fl_X4_18 rfl dX4_workBack_78 ?_
                  refine lv_iload_n hx hb dX4_workBack_81 rfl (lv_at hl 0 rfl) ?_
                  refine lv_dup2_11 hx hb dX4_workBack_82 rfl rfl ?_
                  refine g_ald C hW 3 rfl (ix_in (show (nI sp) = nI sp from (by first | rfl | (simp only [nI_lit, nI_add, pk_mul]; done) | (simp only [nI_lit, nI_add, pk_mul]; congr 1; omega))) (by omega) (by omega)) dX4_workBack_83 ?_
                  refine lv_as (y := (wbI car rea td (tt - 1) (wbO car rea td hrs (wb0 td hrs fin) (hrs - tt)) sp) sp) (by rw [show (nI sp).toNatClampNeg = sp from nI_clamp (by omega)]) ?_
                  refine lv_iconst (v := 1) hx hb dX4_workBack_84 (by decide) ?_
                  refine lv_iload_n hx hb dX4_workBack_85 rfl (lv_at hl 1 rfl) ?_
                  refine lv_as (y := nI (tt - 1)) (nI_dec1 ht1) ?_
                  refine lv_ishl hx hb dX4_workBack_86 ?_
                  refine lv_ior hx hb dX4_workBack_87 ?_
                  refine g_ast (w' := [(ra, .inr (2, [.ref rc, .ref rr, .ref rf, .int (nI td), .int fst_])), (rc, .inl (G.2.1, 40, .inl car)), (rr, .inl (G.2.1, 256, .inl rea)), (rf, .inl (G.2.1, 256, .inl (upd (wbI car rea td (tt - 1) (wbO car rea td hrs (wb0 td hrs fin) (hrs - tt)) sp) sp (((wbI car rea td (tt - 1) (wbO car rea td hrs (wb0 td hrs fin) (hrs - tt)) sp) sp) ||| ((1 : Int32) <<< ((nI (tt - 1)) &&& 31))))))]) C hW 3 rfl (ix_in (show (nI sp) = nI sp from (by first | rfl | (simp only [nI_lit, nI_add, pk_mul]; done) | (simp only [nI_lit, nI_add, pk_mul]; congr 1; omega))) (by omega) (by omega)) (by rw [show (nI sp).toNatClampNeg = sp from nI_clamp (by omega)]; rfl) dX4_workBack_88 ?_
                  clear hW H locs; intro H locs hW
                  exact J_452 (upd (wbI car rea td (tt - 1) (wbO car rea td hrs (wb0 td hrs fin) (hrs - tt)) sp) sp (((wbI car rea td (tt - 1) (wbO car rea td hrs (wb0 td hrs fin) (hrs - tt)) sp) sp) ||| ((1 : Int32) <<< ((nI (tt - 1)) &&& 31)))) (by first | (simp only [c_448, c_454, if_true, if_false, reduceIte]; done) | (simp [c_448, c_454]; done) | rfl) _ _ _ hW (lv_sub hl [0, 1, 2, 3] rfl)
        exact K_444 _ 0 0 (wbO car rea td hrs (wb0 td hrs fin) (hrs - tt)) (by first | exact rfl | (simp; done)) (by exact rfl) (by first | omega | assumption | (simp; done)) (Nat.lt_succ_self _) _ _ _ hW (lv_sub hl [0, 1, 2, 3] rfl)
  exact K_440 _ hrs ((nI hrs) - 1) (upd (upd (fun i => if i < 256 then 0 else fin i) td ((1 : Int32) <<< ((nI hrs) &&& 31))) (td ||| 128) ((1 : Int32) <<< ((nI hrs) &&& 31))) (by rfl) (by (rw [Nat.sub_self]; rfl)) (by first | omega | assumption | (simp; done)) (Nat.lt_succ_self _) _ _ _ hW (lv_sub hl [0, 1, 2] rfl)
set_option maxHeartbeats 4000000 in
set_option maxRecDepth 100000 in
theorem c_X4_fewestHours (l : Launch) (G : gT) (ra rc rr rf : Nat) (td0 f0 : Int32) (car rea : Nat → Int32) (v vw vc vp vs vn vm vu : Nat) (wide : Int32) (vpc n : Nat) (pf : Nat → Int32) (ck wd : Nat → Int32) (hr fh pl : Nat) (hn : n ≤ 7) (eh : ck 6 = nI hr) (hh : hr < 10000) (eh2 : ck 2 = nI fh) (hf : fh < 2) (hpl : pl < 128) (hP : okP n pf) (hWd : okW wd) (hg : Rg (ck 1) 1 9) : MI l G yX4_fewestHours cX4_fewestHours 4 .int ({ frames := 5, cells := 0, slots := 0, locals := 117 }) [.ref ra, .ref v, .int (nI pl)] [(ra, .inr (2, [.ref rc, .ref rr, .ref rf, .int td0, .int f0])), (rc, .inl (G.2.1, 40, .inl car)), (rr, .inl (G.2.1, 256, .inl rea)), (v, .inr (7, [.int wide, .ref vw, .ref vc, .ref vp, .ref vs, .ref vn, .ref vm, .ref vu])), (vp, .inr (4, [.int 7, .int 3, .ref vpc, .int (nI n)])), (vpc, .inl (G.2.1, 21, .inl pf)), (vc, .inl (G.2.1, 7, .inl ck)), (vw, .inl (G.2.1, 6, .inl wd))] (fun (r : Int32) w1 => ∃ u_ : Unit, (r = if pl = 0 then 0 else if ck 3 = 1 then frV (cof wide ck wd pf n hr) car pl (r00 fh rea) else -1) ∧ w1 = [(ra, .inr (2, [.ref rc, .ref rr, .ref rf, .int (nI pl), .int (nI (fh * 128))])), (rc, .inl (G.2.1, 40, .inl (if pl = 0 then car else if ck 3 = 1 then frC (cof wide ck wd pf n hr) car (frM (cof wide ck wd pf n hr) car pl (r00 fh rea)) else car))), (rr, .inl (G.2.1, 256, .inl (if pl = 0 then rea else if ck 3 = 1 then frR (cof wide ck wd pf n hr) car pl (r00 fh rea) (frM (cof wide ck wd pf n hr) car pl (r00 fh rea)) else rea))), (v, .inr (7, [.int wide, .ref vw, .ref vc, .ref vp, .ref vs, .ref vn, .ref vm, .ref vu])), (vp, .inr (4, [.int 7, .int 3, .ref vpc, .int (nI n)])), (vpc, .inl (G.2.1, 21, .inl pf)), (vc, .inl (G.2.1, 7, .inl ck)), (vw, .inl (G.2.1, 6, .inl wd))]) := by
  refine MI.mk (by decide) (Nat.le_of_ble_eq_true rfl) ?_
  intro p_ e_ s_ m_ ar_ be_ me_ cd_ A_ ls C hrt hW hl
  have hx := C.1; have hb := C.2.1; have hown := C.2.2.2.1; have ht := C.2.2.2.2.1
  replace hl : lv_has ls 4 [(0, .ref ra), (1, .ref v), (2, .int (nI pl))] := hl
  generalize hQ : MQ be_ _ ar_ s_ 0 0 A_ = Q
  refine lv_aload_n hx hb dX4_fewestHours_0 rfl (lv_at hl 0 rfl) ?_
  refine lv_iload_n hx hb dX4_fewestHours_1 rfl (lv_at hl 2 rfl) ?_
  refine lv_bipush (v := 127) hx hb dX4_fewestHours_2 (by decide) ?_
  refine lv_iand hx hb dX4_fewestHours_4 ?_
  refine lv_as (y := nI pl) (mask7 hpl) ?_
  refine g_put (k := 3) (ty := .int) (w' := [(ra, .inr (2, [.ref rc, .ref rr, .ref rf, .int (nI pl), .int f0])), (rc, .inl (G.2.1, 40, .inl car)), (rr, .inl (G.2.1, 256, .inl rea)), (v, .inr (7, [.int wide, .ref vw, .ref vc, .ref vp, .ref vs, .ref vn, .ref vm, .ref vu])), (vp, .inr (4, [.int 7, .int 3, .ref vpc, .int (nI n)])), (vpc, .inl (G.2.1, 21, .inl pf)), (vc, .inl (G.2.1, 7, .inl ck)), (vw, .inl (G.2.1, 6, .inl wd))]) C hW 0 rfl rfl jnX4 tyX4_ok nmX4 (by decide) k_fl_X4_21 rfl rfl rfl rfl (Nat.le_of_ble_eq_true rfl) rfl dX4_fewestHours_5 ?_
  clear hW; intro H locs hW
  refine lv_aload_n hx hb dX4_fewestHours_8 rfl (lv_at hl 0 rfl) ?_
  refine lv_aload_n hx hb dX4_fewestHours_9 rfl (lv_at hl 1 rfl) ?_
  refine g_fi C hW [3, 6] rfl (g_runV (As := []) (rest := [.ref ra]) (wc := [(v, .inr (7, [.int wide, .ref vw, .ref vc, .ref vp, .ref vs, .ref vn, .ref vm, .ref vu])), (vc, .inl (G.2.1, 7, .inl ck))]) (q0 := 0) (ci := 7) C hW hl (c_X9_hill l G v vw vc vp vs vn vm vu wide ck  _) k_ml_X4_28 q_X9_hill (by decide) [3, 6] rfl rfl rfl rfl rfl rfl (Nat.le_of_ble_eq_true rfl) dX4_fewestHours_10 (by decide)) (fun r_455 er_455 => ?_)
  clear hW H locs; intro H locs hW
  subst er_455
  refine lv_iconst (v := 1) hx hb dX4_fewestHours_13 (by decide) ?_
  have J_458 : ∀ (y_457 : Int32) (_ : y_457 = (if (ck 2) = 1 then 128 else 0)), ∀ (H : Heap) (locs : List Loc) (ls : Array Slot), Wd G A_ s_.heap [(ra, .inr (2, [.ref rc, .ref rr, .ref rf, .int (nI pl), .int f0])), (rc, .inl (G.2.1, 40, .inl car)), (rr, .inl (G.2.1, 256, .inl rea)), (v, .inr (7, [.int wide, .ref vw, .ref vc, .ref vp, .ref vs, .ref vn, .ref vm, .ref vu])), (vp, .inr (4, [.int 7, .int 3, .ref vpc, .int (nI n)])), (vpc, .inl (G.2.1, 21, .inl pf)), (vc, .inl (G.2.1, 7, .inl ck)), (vw, .inl (G.2.1, 6, .inl wd))] H locs → lv_has ls 4 [(0, .ref ra), (1, .ref v), (2, .int (nI pl))] → W p_ l e_ ({ frames := 5, cells := 0, slots := 0, locals := 117 }) s_ m_ ar_ be_ me_ cd_ H locs 0 0 Q (F0 m_ 24 ls [.int y_457, .ref ra]) := by
    intro y_457 ey_457 H locs ls hW hl
    refine lv_as (y := nI (fh * 128)) (by simp only [ey_457]; exact fst_eq hf eh2) ?_
    refine g_put (k := 4) (ty := .int) (w' := [(ra, .inr (2, [.ref rc, .ref rr, .ref rf, .int (nI pl), .int (nI (fh * 128))])), (rc, .inl (G.2.1, 40, .inl car)), (rr, .inl (G.2.1, 256, .inl rea)), (v, .inr (7, [.int wide, .ref vw, .ref vc, .ref vp, .ref vs, .ref vn, .ref vm, .ref vu])), (vp, .inr (4, [.int 7, .int 3, .ref vpc, .int (nI n)])), (vpc, .inl (G.2.1, 21, .inl pf)), (vc, .inl (G.2.1, 7, .inl ck)), (vw, .inl (G.2.1, 6, .inl wd))]) C hW 0 rfl rfl jnX4 tyX4_ok nmX4 (by decide) k_fl_X4_25 rfl rfl rfl rfl (Nat.le_of_ble_eq_true rfl) rfl dX4_fewestHours_24 ?_
    clear hW H locs; intro H locs hW
    refine lv_aload_n hx hb dX4_fewestHours_27 rfl (lv_at hl 0 rfl) ?_
    refine g_get (k := 3) (v := .int (nI pl)) C hW 0 rfl rfl jnX4 (by decide) k_fl_X4_21 rfl dX4_fewestHours_28 ?_
    refine lv_if_ne (tgt := 36) hx hb dX4_fewestHours_31 (by decide) (fun c_459 => ?_) (fun c_459 => ?_)
    · have c_459n : ¬ pl = 0 := fun q => c_459 ((nI_eq (a := pl) (b := 0) (by omega) (by omega)).mpr q)
      refine lv_aload_n hx hb dX4_fewestHours_36 rfl (lv_at hl 1 rfl) ?_
      refine g_fi C hW [3, 6] rfl (g_runV (As := []) (rest := []) (wc := [(v, .inr (7, [.int wide, .ref vw, .ref vc, .ref vp, .ref vs, .ref vn, .ref vm, .ref vu])), (vc, .inl (G.2.1, 7, .inl ck))]) (q0 := 0) (ci := 7) C hW hl (c_X9_isUp l G v vw vc vp vs vn vm vu wide ck  _) k_ml_X4_34 q_X9_isUp (by decide) [3, 6] rfl rfl rfl rfl rfl rfl (Nat.le_of_ble_eq_true rfl) dX4_fewestHours_37 (by decide)) (fun r_460 er_460 => ?_)
      clear hW H locs; intro H locs hW
      subst er_460
      refine lv_if_ne (tgt := 45) hx hb dX4_fewestHours_40 (by decide) (fun c_461 => ?_) (fun c_461 => ?_)
      · have hup := of_decide_eq_true (bI_ne.mp c_461)
        have hp0 : ¬ pl = 0 := c_459n
        refine lv_aload_n hx hb dX4_fewestHours_45 rfl (lv_at hl 0 rfl) ?_
        refine g_get (k := 1) (v := .ref rr) C hW 0 rfl rfl jnX4 (by decide) k_fl_X4_15 rfl dX4_fewestHours_46 ?_
        refine lv_iconst (v := 0) hx hb dX4_fewestHours_49 (by decide) ?_
        refine g_fvw (wr := [(ra, .inr (2, [.ref rc, .ref rr, .ref rf, .int (nI pl), .int (nI (fh * 128))])), (rc, .inl (G.2.1, 40, .inl car)), (v, .inr (7, [.int wide, .ref vw, .ref vc, .ref vp, .ref vs, .ref vn, .ref vm, .ref vu])), (vp, .inr (4, [.int 7, .int 3, .ref vpc, .int (nI n)])), (vpc, .inl (G.2.1, 21, .inl pf)), (vc, .inl (G.2.1, 7, .inl ck)), (vw, .inl (G.2.1, 6, .inl wd))]) (ww := fun (u_ : Unit) => [(rr, .inl (G.2.1, 256, .inl (fun i => if i < 256 then 0 else rea i)))]) (w2 := fun (u_ : Unit) => [(ra, .inr (2, [.ref rc, .ref rr, .ref rf, .int (nI pl), .int (nI (fh * 128))])), (rc, .inl (G.2.1, 40, .inl car)), (rr, .inl (G.2.1, 256, .inl (fun i => if i < 256 then 0 else rea i))), (v, .inr (7, [.int wide, .ref vw, .ref vc, .ref vp, .ref vs, .ref vn, .ref vm, .ref vu])), (vp, .inr (4, [.int 7, .int 3, .ref vpc, .int (nI n)])), (vpc, .inl (G.2.1, 21, .inl pf)), (vc, .inl (G.2.1, 7, .inl ck)), (vw, .inl (G.2.1, 6, .inl wd))]) C hW [2] [0, 1, 3, 4, 5, 6, 7] [0, 1, 7, 2, 3, 4, 5, 6] rfl rfl (by decide) (by decide) (by decide) (fun _ => rfl) (g_runS (As := [.ref rr, .int 0]) (rest := []) (wc := [(rr, .inl (G.2.1, 256, .inl rea))]) C hW hl (c_J7_fill_53178 l G rr 256 rea 0 (by omega) _) k_ml_X4_38 q_J7_fill_53178 (by decide) [2] rfl rfl rfl rfl (Nat.le_of_ble_eq_true rfl) dX4_fewestHours_50 (by decide)) (fun _ er_462 => ?_)
        clear hW H locs; intro H locs hW
        replace hW : Wd G A_ s_.heap [(ra, .inr (2, [.ref rc, .ref rr, .ref rf, .int (nI pl), .int (nI (fh * 128))])), (rc, .inl (G.2.1, 40, .inl car)), (rr, .inl (G.2.1, 256, .inl (fun i => if i < 256 then 0 else rea i))), (v, .inr (7, [.int wide, .ref vw, .ref vc, .ref vp, .ref vs, .ref vn, .ref vm, .ref vu])), (vp, .inr (4, [.int 7, .int 3, .ref vpc, .int (nI n)])), (vpc, .inl (G.2.1, 21, .inl pf)), (vc, .inl (G.2.1, 7, .inl ck)), (vw, .inl (G.2.1, 6, .inl wd))] H locs := hW
        refine lv_aload_n hx hb dX4_fewestHours_53 rfl (lv_at hl 0 rfl) ?_
        refine g_get (k := 1) (v := .ref rr) C hW 0 rfl rfl jnX4 (by decide) k_fl_X4_15 rfl dX4_fewestHours_54 ?_
        refine lv_aload_n hx hb dX4_fewestHours_57 rfl (lv_at hl 0 rfl) ?_
        refine g_get (k := 4) (v := .int (nI (fh * 128))) C hW 0 rfl rfl jnX4 (by decide) k_fl_X4_25 rfl dX4_fewestHours_58 ?_
        refine lv_iconst (v := 1) hx hb dX4_fewestHours_61 (by decide) ?_
        refine g_ast (w' := [(ra, .inr (2, [.ref rc, .ref rr, .ref rf, .int (nI pl), .int (nI (fh * 128))])), (rc, .inl (G.2.1, 40, .inl car)), (rr, .inl (G.2.1, 256, .inl (upd (fun i => if i < 256 then 0 else rea i) (fh * 128) 1))), (v, .inr (7, [.int wide, .ref vw, .ref vc, .ref vp, .ref vs, .ref vn, .ref vm, .ref vu])), (vp, .inr (4, [.int 7, .int 3, .ref vpc, .int (nI n)])), (vpc, .inl (G.2.1, 21, .inl pf)), (vc, .inl (G.2.1, 7, .inl ck)), (vw, .inl (G.2.1, 6, .inl wd))]) C hW 2 rfl (ix_in (show (nI (fh * 128)) = nI (fh * 128) from (by first | rfl | (simp only [nI_lit, nI_add, pk_mul]; done) | (simp only [nI_lit, nI_add, pk_mul]; congr 1; omega))) (by omega) (by omega)) (by rw [show (nI (fh * 128)).toNatClampNeg = (fh * 128) from ix_cl (show (nI (fh * 128)) = nI (fh * 128) from (by first | rfl | (simp only [nI_lit, nI_add, pk_mul]; done) | (simp only [nI_lit, nI_add, pk_mul]; congr 1; omega))) (Nat.lt_of_lt_of_le (m := 256) (by omega) (by omega))]; rfl) dX4_fewestHours_62 ?_
        clear hW H locs; intro H locs hW
        refine lv_iconst (v := 0) hx hb dX4_fewestHours_63 (by decide) ?_
        refine lv_istore_n (lv' := [(3, .int 0), (0, .ref ra), (1, .ref v), (2, .int (nI pl))]) hx hb dX4_fewestHours_64 rfl hl (by decide) rfl ?_
        clear hl ls; intro ls hl
        have K_464 : ∀ (n_ : Nat) (t : Nat) (x_465 : Int32) (g_466 : Nat → Int32) (g_467 : Nat → Int32) (_ : x_465 = nI t) (_ : g_466 = frC (cof wide ck wd pf n hr) car t) (_ : g_467 = frR (cof wide ck wd pf n hr) car pl (r00 fh rea) t) (_ : t ≤ 20) (_ : ∀ i, i < t → frD (cof wide ck wd pf n hr) car pl (r00 fh rea) i = false) (_ : 20 - t < n_) (H : Heap) (locs : List Loc) (ls : Array Slot), Wd G A_ s_.heap [(ra, .inr (2, [.ref rc, .ref rr, .ref rf, .int (nI pl), .int (nI (fh * 128))])), (rc, .inl (G.2.1, 40, .inl g_466)), (rr, .inl (G.2.1, 256, .inl g_467)), (v, .inr (7, [.int wide, .ref vw, .ref vc, .ref vp, .ref vs, .ref vn, .ref vm, .ref vu])), (vp, .inr (4, [.int 7, .int 3, .ref vpc, .int (nI n)])), (vpc, .inl (G.2.1, 21, .inl pf)), (vc, .inl (G.2.1, 7, .inl ck)), (vw, .inl (G.2.1, 6, .inl wd))] H locs → lv_has ls 4 [(3, .int x_465), (0, .ref ra), (1, .ref v), (2, .int (nI pl))] → W p_ l e_ ({ frames := 5, cells := 0, slots := 0, locals := 117 }) s_ m_ ar_ be_ me_ cd_ H locs 0 0 Q (F0 m_ 65 ls []) := by
          intro n_
          induction n_ with
          | zero => intro t x_465 g_466 g_467 ex_465 eg_466 eg_467 ht20 hz hm_; exact absurd hm_ (Nat.not_lt_zero _)
          | succ n_ ihK_464 =>
            intro t x_465 g_466 g_467 ex_465 eg_466 eg_467 ht20 hz hm_ H locs ls hW hl
            subst ex_465
            subst eg_466
            subst eg_467
            refine lv_iload_n hx hb dX4_fewestHours_65 rfl (lv_at hl 0 rfl) ?_
            refine lv_bipush (v := 20) hx hb dX4_fewestHours_66 (by decide) ?_
            refine lv_icmp_ge (tgt := 158) hx hb dX4_fewestHours_68 (by decide) (fun c_468 => ?_) (fun c_468 => ?_)
            · replace c_468 := Int32.not_lt.mpr c_468
              have c_468n : ¬ t < 20 := fun q => c_468 ((nI_ltI (a := t) (b := 20) (by omega) (by omega)).mpr q)
              refine lv_iconst (v := (-1)) hx hb dX4_fewestHours_158 (by decide) ?_
              subst hQ
              exact g_iret (v := (-1)) C hW hrt ⟨(), by (rw [if_neg hp0, if_pos hup]; exact frv_20 (show t = 20 by omega) hz), by first | (simp only [if_pos c_468n]; done) | (have e := frm_j (show t < 20 by omega) hz (by rw [frD]; exact tbt c_468); simp only [if_neg hp0, if_pos hup, e]; rfl) | (have e := frm_20 (show t = 20 by omega) hz; simp only [if_neg hp0, if_pos hup, e]; rw [show t = 20 by omega]; done) | (simp only [if_neg c_461n, if_neg (of_decide_eq_false (bI_0.mp c_468))]; done)⟩ dX4_fewestHours_159
            · replace c_468 := Int32.not_le.mp c_468
              have c_468n : t < 20 := (nI_ltI (a := t) (b := 20) (by omega) (by omega)).mp c_468
              refine lv_aload_n hx hb dX4_fewestHours_71 rfl (lv_at hl 1 rfl) ?_
              refine g_get (k := 0) (v := .ref rc) C hW 0 rfl rfl jnX4 (by decide) k_fl_X4_11 rfl dX4_fewestHours_72 ?_
              refine lv_iconst (v := 2) hx hb dX4_fewestHours_75 (by decide) ?_
              refine lv_iload_n hx hb dX4_fewestHours_76 rfl (lv_at hl 0 rfl) ?_
              refine lv_imul hx hb dX4_fewestHours_77 ?_
              refine lv_aload_n hx hb dX4_fewestHours_78 rfl (lv_at hl 2 rfl) ?_
              refine lv_iconst (v := 0) hx hb dX4_fewestHours_79 (by decide) ?_
              refine lv_aload_n hx hb dX4_fewestHours_80 rfl (lv_at hl 2 rfl) ?_
              refine g_fi C hW [3, 6] rfl (g_runV (As := []) (rest := [.int 0, .ref v, .int (2 * (nI t)), .ref rc]) (wc := [(v, .inr (7, [.int wide, .ref vw, .ref vc, .ref vp, .ref vs, .ref vn, .ref vm, .ref vu])), (vc, .inl (G.2.1, 7, .inl ck))]) (q0 := 0) (ci := 7) C hW hl (c_X9_hour l G v vw vc vp vs vn vm vu wide ck  _) k_ml_X4_44 q_X9_hour (by decide) [3, 6] rfl rfl rfl rfl rfl rfl (Nat.le_of_ble_eq_true rfl) dX4_fewestHours_81 (by decide)) (fun r_469 er_469 => ?_)
              clear hW H locs; intro H locs hW
              subst er_469
              refine lv_as (y := nI hr) (eh) ?_
              refine lv_iload_n hx hb dX4_fewestHours_84 rfl (lv_at hl 0 rfl) ?_
              refine lv_iadd hx hb dX4_fewestHours_85 ?_
              refine lv_as (y := nI (hr + t)) (nI_add _ _) ?_
              refine g_fi C hW [3, 4, 5, 6, 7] rfl (g_runV (As := [.int 0, .int (nI (hr + t))]) (rest := [.int (2 * (nI t)), .ref rc]) (wc := [(v, .inr (7, [.int wide, .ref vw, .ref vc, .ref vp, .ref vs, .ref vn, .ref vm, .ref vu])), (vp, .inr (4, [.int 7, .int 3, .ref vpc, .int (nI n)])), (vpc, .inl (G.2.1, 21, .inl pf)), (vc, .inl (G.2.1, 7, .inl ck)), (vw, .inl (G.2.1, 6, .inl wd))]) (q0 := 0) (ci := 7) C hW hl (c_X9_carriersOn l G v vw vc vp vs vn vm vu wide vpc n pf ck wd 0 (hr + t) (by first | assumption | omega) (by omega) (by assumption) (by assumption) (by assumption) _) k_ml_X4_47 q_X9_carriersOn (by decide) [3, 4, 5, 6, 7] rfl rfl rfl rfl rfl rfl (Nat.le_of_ble_eq_true rfl) dX4_fewestHours_86 (by decide)) (fun r_470 er_470 => ?_)
              clear hW H locs; intro H locs hW
              subst er_470
              refine lv_as (y := cof wide ck wd pf n hr t 0) (rfl) ?_
              refine g_ast (w' := [(ra, .inr (2, [.ref rc, .ref rr, .ref rf, .int (nI pl), .int (nI (fh * 128))])), (rc, .inl (G.2.1, 40, .inl (upd (frC (cof wide ck wd pf n hr) car t) (2 * t) (cof wide ck wd pf n hr t 0)))), (rr, .inl (G.2.1, 256, .inl (frR (cof wide ck wd pf n hr) car pl (r00 fh rea) t))), (v, .inr (7, [.int wide, .ref vw, .ref vc, .ref vp, .ref vs, .ref vn, .ref vm, .ref vu])), (vp, .inr (4, [.int 7, .int 3, .ref vpc, .int (nI n)])), (vpc, .inl (G.2.1, 21, .inl pf)), (vc, .inl (G.2.1, 7, .inl ck)), (vw, .inl (G.2.1, 6, .inl wd))]) C hW 1 rfl (ix_in (show (2 * (nI t)) = nI (2 * t) from (by first | rfl | (simp only [nI_lit, nI_add, pk_mul]; done) | (simp only [nI_lit, nI_add, pk_mul]; congr 1; omega))) (by omega) (by omega)) (by rw [show (2 * (nI t)).toNatClampNeg = (2 * t) from ix_cl (show (2 * (nI t)) = nI (2 * t) from (by first | rfl | (simp only [nI_lit, nI_add, pk_mul]; done) | (simp only [nI_lit, nI_add, pk_mul]; congr 1; omega))) (Nat.lt_of_lt_of_le (m := 40) (by omega) (by omega))]; rfl) dX4_fewestHours_89 ?_
              clear hW H locs; intro H locs hW
              refine lv_aload_n hx hb dX4_fewestHours_90 rfl (lv_at hl 1 rfl) ?_
              refine g_get (k := 0) (v := .ref rc) C hW 0 rfl rfl jnX4 (by decide) k_fl_X4_11 rfl dX4_fewestHours_91 ?_
              refine lv_iconst (v := 2) hx hb dX4_fewestHours_94 (by decide) ?_
              refine lv_iload_n hx hb dX4_fewestHours_95 rfl (lv_at hl 0 rfl) ?_
              refine lv_imul hx hb dX4_fewestHours_96 ?_
              refine lv_iconst (v := 1) hx hb dX4_fewestHours_97 (by decide) ?_
              refine lv_iadd hx hb dX4_fewestHours_98 ?_
              refine lv_aload_n hx hb dX4_fewestHours_99 rfl (lv_at hl 2 rfl) ?_
              refine lv_iconst (v := 1) hx hb dX4_fewestHours_100 (by decide) ?_
              refine lv_aload_n hx hb dX4_fewestHours_101 rfl (lv_at hl 2 rfl) ?_
              refine g_fi C hW [3, 6] rfl (g_runV (As := []) (rest := [.int 1, .ref v, .int ((2 * (nI t)) + 1), .ref rc]) (wc := [(v, .inr (7, [.int wide, .ref vw, .ref vc, .ref vp, .ref vs, .ref vn, .ref vm, .ref vu])), (vc, .inl (G.2.1, 7, .inl ck))]) (q0 := 0) (ci := 7) C hW hl (c_X9_hour l G v vw vc vp vs vn vm vu wide ck  _) k_ml_X4_44 q_X9_hour (by decide) [3, 6] rfl rfl rfl rfl rfl rfl (Nat.le_of_ble_eq_true rfl) dX4_fewestHours_102 (by decide)) (fun r_471 er_471 => ?_)
              clear hW H locs; intro H locs hW
              subst er_471
              refine lv_as (y := nI hr) (eh) ?_
              refine lv_iload_n hx hb dX4_fewestHours_105 rfl (lv_at hl 0 rfl) ?_
              refine lv_iadd hx hb dX4_fewestHours_106 ?_
              refine lv_as (y := nI (hr + t)) (nI_add _ _) ?_
              refine g_fi C hW [3, 4, 5, 6, 7] rfl (g_runV (As := [.int 1, .int (nI (hr + t))]) (rest := [.int ((2 * (nI t)) + 1), .ref rc]) (wc := [(v, .inr (7, [.int wide, .ref vw, .ref vc, .ref vp, .ref vs, .ref vn, .ref vm, .ref vu])), (vp, .inr (4, [.int 7, .int 3, .ref vpc, .int (nI n)])), (vpc, .inl (G.2.1, 21, .inl pf)), (vc, .inl (G.2.1, 7, .inl ck)), (vw, .inl (G.2.1, 6, .inl wd))]) (q0 := 0) (ci := 7) C hW hl (c_X9_carriersOn l G v vw vc vp vs vn vm vu wide vpc n pf ck wd 1 (hr + t) (by first | assumption | omega) (by omega) (by assumption) (by assumption) (by assumption) _) k_ml_X4_47 q_X9_carriersOn (by decide) [3, 4, 5, 6, 7] rfl rfl rfl rfl rfl rfl (Nat.le_of_ble_eq_true rfl) dX4_fewestHours_107 (by decide)) (fun r_472 er_472 => ?_)
              clear hW H locs; intro H locs hW
              subst er_472
              refine lv_as (y := cof wide ck wd pf n hr t 1) (rfl) ?_
              refine g_ast (w' := [(ra, .inr (2, [.ref rc, .ref rr, .ref rf, .int (nI pl), .int (nI (fh * 128))])), (rc, .inl (G.2.1, 40, .inl (upd (upd (frC (cof wide ck wd pf n hr) car t) (2 * t) (cof wide ck wd pf n hr t 0)) (2 * t + 1) (cof wide ck wd pf n hr t 1)))), (rr, .inl (G.2.1, 256, .inl (frR (cof wide ck wd pf n hr) car pl (r00 fh rea) t))), (v, .inr (7, [.int wide, .ref vw, .ref vc, .ref vp, .ref vs, .ref vn, .ref vm, .ref vu])), (vp, .inr (4, [.int 7, .int 3, .ref vpc, .int (nI n)])), (vpc, .inl (G.2.1, 21, .inl pf)), (vc, .inl (G.2.1, 7, .inl ck)), (vw, .inl (G.2.1, 6, .inl wd))]) C hW 1 rfl (ix_in (show ((2 * (nI t)) + 1) = nI (2 * t + 1) from (by first | rfl | (simp only [nI_lit, nI_add, pk_mul]; done) | (simp only [nI_lit, nI_add, pk_mul]; congr 1; omega))) (by omega) (by omega)) (by rw [show ((2 * (nI t)) + 1).toNatClampNeg = (2 * t + 1) from ix_cl (show ((2 * (nI t)) + 1) = nI (2 * t + 1) from (by first | rfl | (simp only [nI_lit, nI_add, pk_mul]; done) | (simp only [nI_lit, nI_add, pk_mul]; congr 1; omega))) (Nat.lt_of_lt_of_le (m := 40) (by omega) (by omega))]; rfl) dX4_fewestHours_110 ?_
              clear hW H locs; intro H locs hW
              refine lv_aload_n hx hb dX4_fewestHours_111 rfl (lv_at hl 1 rfl) ?_
              refine lv_iload_n hx hb dX4_fewestHours_112 rfl (lv_at hl 0 rfl) ?_
              refine g_fvw (wr := [(v, .inr (7, [.int wide, .ref vw, .ref vc, .ref vp, .ref vs, .ref vn, .ref vm, .ref vu])), (vp, .inr (4, [.int 7, .int 3, .ref vpc, .int (nI n)])), (vpc, .inl (G.2.1, 21, .inl pf)), (vc, .inl (G.2.1, 7, .inl ck)), (vw, .inl (G.2.1, 6, .inl wd))]) (ww := fun (u_ : Unit) => [(ra, .inr (2, [.ref rc, .ref rr, .ref rf, .int (nI pl), .int (nI (fh * 128))])), (rc, .inl (G.2.1, 40, .inl (upd (upd (frC (cof wide ck wd pf n hr) car t) (2 * t) (cof wide ck wd pf n hr t 0)) (2 * t + 1) (cof wide ck wd pf n hr t 1)))), (rr, .inl (G.2.1, 256, .inl (sprO (upd (upd (frC (cof wide ck wd pf n hr) car t) (2 * t) (cof wide ck wd pf n hr t 0)) (2 * t + 1) (cof wide ck wd pf n hr t 1)) pl t (frR (cof wide ck wd pf n hr) car pl (r00 fh rea) t) 256)))]) (w2 := fun (u_ : Unit) => [(ra, .inr (2, [.ref rc, .ref rr, .ref rf, .int (nI pl), .int (nI (fh * 128))])), (rc, .inl (G.2.1, 40, .inl (upd (upd (frC (cof wide ck wd pf n hr) car t) (2 * t) (cof wide ck wd pf n hr t 0)) (2 * t + 1) (cof wide ck wd pf n hr t 1)))), (rr, .inl (G.2.1, 256, .inl (sprO (upd (upd (frC (cof wide ck wd pf n hr) car t) (2 * t) (cof wide ck wd pf n hr t 0)) (2 * t + 1) (cof wide ck wd pf n hr t 1)) pl t (frR (cof wide ck wd pf n hr) car pl (r00 fh rea) t) 256))), (v, .inr (7, [.int wide, .ref vw, .ref vc, .ref vp, .ref vs, .ref vn, .ref vm, .ref vu])), (vp, .inr (4, [.int 7, .int 3, .ref vpc, .int (nI n)])), (vpc, .inl (G.2.1, 21, .inl pf)), (vc, .inl (G.2.1, 7, .inl ck)), (vw, .inl (G.2.1, 6, .inl wd))]) C hW [0, 1, 2] [3, 4, 5, 6, 7] [5, 6, 7, 0, 1, 2, 3, 4] rfl rfl (by decide) (by decide) (by decide) (fun _ => rfl) (g_runV (As := [.int (nI t)]) (rest := []) (wc := [(ra, .inr (2, [.ref rc, .ref rr, .ref rf, .int (nI pl), .int (nI (fh * 128))])), (rc, .inl (G.2.1, 40, .inl (upd (upd (frC (cof wide ck wd pf n hr) car t) (2 * t) (cof wide ck wd pf n hr t 0)) (2 * t + 1) (cof wide ck wd pf n hr t 1)))), (rr, .inl (G.2.1, 256, .inl (frR (cof wide ck wd pf n hr) car pl (r00 fh rea) t)))]) (q0 := 0) (ci := 2) C hW hl (c_X4_spread l G ra rc rr rf pl (nI (fh * 128)) (upd (upd (frC (cof wide ck wd pf n hr) car t) (2 * t) (cof wide ck wd pf n hr t 0)) (2 * t + 1) (cof wide ck wd pf n hr t 1)) (frR (cof wide ck wd pf n hr) car pl (r00 fh rea) t) t (by first | assumption | omega) (by first | assumption | omega) _) k_ml_X4_51 q_X4_spread (by decide) [0, 1, 2] rfl rfl rfl rfl rfl rfl (Nat.le_of_ble_eq_true rfl) dX4_fewestHours_113 (by decide)) (fun _ er_473 => ?_)
              clear hW H locs; intro H locs hW
              replace hW : Wd G A_ s_.heap [(ra, .inr (2, [.ref rc, .ref rr, .ref rf, .int (nI pl), .int (nI (fh * 128))])), (rc, .inl (G.2.1, 40, .inl (upd (upd (frC (cof wide ck wd pf n hr) car t) (2 * t) (cof wide ck wd pf n hr t 0)) (2 * t + 1) (cof wide ck wd pf n hr t 1)))), (rr, .inl (G.2.1, 256, .inl (sprO (upd (upd (frC (cof wide ck wd pf n hr) car t) (2 * t) (cof wide ck wd pf n hr t 0)) (2 * t + 1) (cof wide ck wd pf n hr t 1)) pl t (frR (cof wide ck wd pf n hr) car pl (r00 fh rea) t) 256))), (v, .inr (7, [.int wide, .ref vw, .ref vc, .ref vp, .ref vs, .ref vn, .ref vm, .ref vu])), (vp, .inr (4, [.int 7, .int 3, .ref vpc, .int (nI n)])), (vpc, .inl (G.2.1, 21, .inl pf)), (vc, .inl (G.2.1, 7, .inl ck)), (vw, .inl (G.2.1, 6, .inl wd))] H locs := hW
              refine lv_aload_n hx hb dX4_fewestHours_116 rfl (lv_at hl 1 rfl) ?_
              refine g_get (k := 1) (v := .ref rr) C hW 0 rfl rfl jnX4 (by decide) k_fl_X4_15 rfl dX4_fewestHours_117 ?_
              refine lv_aload_n hx hb dX4_fewestHours_120 rfl (lv_at hl 1 rfl) ?_
              refine g_get (k := 3) (v := .int (nI pl)) C hW 0 rfl rfl jnX4 (by decide) k_fl_X4_21 rfl dX4_fewestHours_121 ?_
              refine g_ald C hW 2 rfl (ix_in (show (nI pl) = nI pl from (by first | rfl | (simp only [nI_lit, nI_add, pk_mul]; done) | (simp only [nI_lit, nI_add, pk_mul]; congr 1; omega))) (by omega) (by omega)) dX4_fewestHours_124 ?_
              refine lv_as (y := (sprO (upd (upd (frC (cof wide ck wd pf n hr) car t) (2 * t) (cof wide ck wd pf n hr t 0)) (2 * t + 1) (cof wide ck wd pf n hr t 1)) pl t (frR (cof wide ck wd pf n hr) car pl (r00 fh rea) t) 256) pl) (by rw [show (nI pl).toNatClampNeg = pl from nI_clamp (by omega)]) ?_
              refine lv_aload_n hx hb dX4_fewestHours_125 rfl (lv_at hl 1 rfl) ?_
              refine g_get (k := 1) (v := .ref rr) C hW 0 rfl rfl jnX4 (by decide) k_fl_X4_15 rfl dX4_fewestHours_126 ?_
              refine lv_aload_n hx hb dX4_fewestHours_129 rfl (lv_at hl 1 rfl) ?_
              refine g_get (k := 3) (v := .int (nI pl)) C hW 0 rfl rfl jnX4 (by decide) k_fl_X4_21 rfl dX4_fewestHours_130 ?_
              refine lv_sipush (v := 128) hx hb dX4_fewestHours_133 (by decide) ?_
              refine lv_ior hx hb dX4_fewestHours_136 ?_
              refine g_ald C hW 2 rfl (ix_in (show ((nI pl) ||| (128 : Int32)) = nI (pl ||| 128) from (by exact (or128 hpl).1)) (by exact (or128 hpl).2) (by omega)) dX4_fewestHours_137 ?_
              refine lv_as (y := (sprO (upd (upd (frC (cof wide ck wd pf n hr) car t) (2 * t) (cof wide ck wd pf n hr t 0)) (2 * t + 1) (cof wide ck wd pf n hr t 1)) pl t (frR (cof wide ck wd pf n hr) car pl (r00 fh rea) t) 256) (pl ||| 128)) (by rw [show ((nI pl) ||| (128 : Int32)).toNatClampNeg = (pl ||| 128) from ix_cl (show ((nI pl) ||| (128 : Int32)) = nI (pl ||| 128) from (by exact (or128 hpl).1)) (Nat.lt_of_lt_of_le (m := 256) (by exact (or128 hpl).2) (by omega))]) ?_
              refine lv_ior hx hb dX4_fewestHours_138 ?_
              refine lv_iload_n hx hb dX4_fewestHours_139 rfl (lv_at hl 0 rfl) ?_
              refine lv_iconst (v := 1) hx hb dX4_fewestHours_140 (by decide) ?_
              refine lv_iadd hx hb dX4_fewestHours_141 ?_
              refine lv_as (y := nI (t + 1)) (nI_1 t) ?_
              refine lv_ishr hx hb dX4_fewestHours_142 ?_
              refine lv_iconst (v := 1) hx hb dX4_fewestHours_143 (by decide) ?_
              refine lv_iand hx hb dX4_fewestHours_144 ?_
              refine lv_if_eq (tgt := 152) hx hb dX4_fewestHours_145 (by decide) (fun c_475 => ?_) (fun c_475 => ?_)
              · refine lv_iinc (v := (nI t) + 1) (lv' := [(3, .int ((nI t) + 1)), (0, .ref ra), (1, .ref v), (2, .int (nI pl))]) hx hb dX4_fewestHours_152 hl (k := 0) rfl rfl (by decide) rfl ?_
                clear hl ls; intro ls hl
                refine lv_goto (tgt := 65) hx hb dX4_fewestHours_155 (by decide) ?_
                exact ihK_464 (t + 1) ((nI t) + 1) (upd (upd (frC (cof wide ck wd pf n hr) car t) (2 * t) (cof wide ck wd pf n hr t 0)) (2 * t + 1) (cof wide ck wd pf n hr t 1)) (sprO (upd (upd (frC (cof wide ck wd pf n hr) car t) (2 * t) (cof wide ck wd pf n hr t 0)) (2 * t + 1) (cof wide ck wd pf n hr t 1)) pl t (frR (cof wide ck wd pf n hr) car pl (r00 fh rea) t) 256) (by exact nI_1 _) (by exact rfl) (by exact rfl) (by first | omega | assumption | (simp; done)) (by exact lt_s hz (by rw [frD]; exact tbf c_475)) (by omega) _ _ _ hW (lv_sub hl [0, 1, 2, 3] rfl)
              · refine lv_iload_n hx hb dX4_fewestHours_148 rfl (lv_at hl 0 rfl) ?_
                refine lv_iconst (v := 1) hx hb dX4_fewestHours_149 (by decide) ?_
                refine lv_iadd hx hb dX4_fewestHours_150 ?_
                subst hQ
                exact g_iret (v := ((nI t) + 1)) C hW hrt ⟨(), by (rw [if_neg hp0, if_pos hup]; exact frv_j (show t < 20 by omega) hz (by rw [frD]; exact tbt c_475)), by first | (simp only [if_pos c_468n]; done) | (have e := frm_j (show t < 20 by omega) hz (by rw [frD]; exact tbt c_475); simp only [if_neg hp0, if_pos hup, e]; rfl) | (have e := frm_20 (show t = 20 by omega) hz; simp only [if_neg hp0, if_pos hup, e]; rw [show t = 20 by omega]; done) | (simp only [if_neg c_468n, if_neg (of_decide_eq_false (bI_0.mp c_475))]; done)⟩ dX4_fewestHours_151
        exact K_464 _ 0 0 car (upd (fun i => if i < 256 then 0 else rea i) (fh * 128) 1) (by first | exact rfl | (simp; done)) (by exact rfl) (by exact rfl) (by first | omega | assumption | (simp; done)) (by exact lt_0) (Nat.lt_succ_self _) _ _ _ hW (lv_sub hl [0, 1, 2, 3] rfl)
      · refine lv_iconst (v := (-1)) hx hb dX4_fewestHours_43 (by decide) ?_
        subst hQ
        exact g_iret (v := (-1)) C hW hrt ⟨(), by rw [if_neg c_459n, if_neg (of_decide_eq_false (bI_0.mp c_461))], by first | (simp only [if_pos c_459n]; done) | (have e := frm_j (show t < 20 by omega) hz (by rw [frD]; exact tbt c_461); simp only [if_neg hp0, if_pos hup, e]; rfl) | (have e := frm_20 (show t = 20 by omega) hz; simp only [if_neg hp0, if_pos hup, e]; rw [show t = 20 by omega]; done) | (simp only [if_neg c_459n, if_neg (of_decide_eq_false (bI_0.mp c_461))]; done)⟩ dX4_fewestHours_44
    · have c_459n : pl = 0 := (nI_eq (a := pl) (b := 0) (by omega) (by omega)).mp c_459
      refine lv_iconst (v := 0) hx hb dX4_fewestHours_34 (by decide) ?_
      subst hQ
      exact g_iret (v := 0) C hW hrt ⟨(), by rw [if_pos c_459n], by first | (simp only [if_pos c_459n]; done) | (have e := frm_j (show t < 20 by omega) hz (by rw [frD]; exact tbt c_459); simp only [if_neg hp0, if_pos hup, e]; rfl) | (have e := frm_20 (show t = 20 by omega) hz; simp only [if_neg hp0, if_pos hup, e]; rw [show t = 20 by omega]; done) | (simp only [if_neg noCn, if_neg (of_decide_eq_false (bI_0.mp c_459))]; done)⟩ dX4_fewestHours_35
  refine lv_icmp_ne (tgt := 23) hx hb dX4_fewestHours_14 (by decide) (fun c_456 => ?_) (fun c_456 => ?_)
  · refine lv_iconst (v := 0) hx hb dX4_fewestHours_23 (by decide) ?_
    exact J_458 0 (by first | (simp only [c_456, if_true, if_false, reduceIte]; done) | (simp [c_456]; done) | rfl) _ _ _ hW (lv_sub hl [0, 1, 2] rfl)
  · refine lv_sipush (v := 128) hx hb dX4_fewestHours_17 (by decide) ?_
    refine lv_goto (tgt := 24) hx hb dX4_fewestHours_20 (by decide) ?_
    exact J_458 128 (by first | (simp only [c_456, if_true, if_false, reduceIte]; done) | (simp [c_456]; done) | rfl) _ _ _ hW (lv_sub hl [0, 1, 2] rfl)
set_option maxHeartbeats 4000000 in
set_option maxRecDepth 100000 in
theorem c_X4_strikerIn (l : Launch) (G : gT) (ra rc rr rf td f0 : Nat) (car rea fin : Nat → Int32) (k hrs : Nat) (htd : td < 128) (hf0 : f0 < 256) (hk : k < hrs ∧ hrs ≤ 20) (hok : ∀ t, t ≤ k → fsN car (wbO car rea td hrs (wb0 td hrs fin) hrs) td (spS car (wbO car rea td hrs (wb0 td hrs fin) hrs) td f0 t) t < 8) : MI l G yX4_strikerIn cX4_strikerIn 6 .int ({ frames := 3, cells := 0, slots := 0, locals := 71 }) [.ref ra, .int (nI k), .int (nI hrs)] [(ra, .inr (2, [.ref rc, .ref rr, .ref rf, .int (nI td), .int (nI f0)])), (rc, .inl (G.2.1, 40, .inl car)), (rr, .inl (G.2.1, 256, .inl rea)), (rf, .inl (G.2.1, 256, .inl fin))] (fun (r : Int32) w1 => ∃ u_ : Unit, (r = skV car (wbO car rea td hrs (wb0 td hrs fin) hrs) td f0 (k + 1)) ∧ w1 = [(ra, .inr (2, [.ref rc, .ref rr, .ref rf, .int (nI td), .int (nI f0)])), (rc, .inl (G.2.1, 40, .inl car)), (rr, .inl (G.2.1, 256, .inl rea)), (rf, .inl (G.2.1, 256, .inl (wbO car rea td hrs (wb0 td hrs fin) hrs)))]) := by
  refine MI.mk (by decide) (Nat.le_of_ble_eq_true rfl) ?_
  intro p_ e_ s_ m_ ar_ be_ me_ cd_ A_ ls C hrt hW hl
  have hx := C.1; have hb := C.2.1; have hown := C.2.2.2.1; have ht := C.2.2.2.2.1
  replace hl : lv_has ls 6 [(0, .ref ra), (1, .int (nI k)), (2, .int (nI hrs))] := hl
  generalize hQ : MQ be_ _ ar_ s_ 0 0 A_ = Q
  refine lv_aload_n hx hb dX4_strikerIn_0 rfl (lv_at hl 0 rfl) ?_
  refine lv_iload_n hx hb dX4_strikerIn_1 rfl (lv_at hl 2 rfl) ?_
  refine lv_bipush (v := 20) hx hb dX4_strikerIn_2 (by decide) ?_
  refine g_min C hl k_ml_X4_55 ⟨Nat.le_of_ble_eq_true rfl, Nat.le_of_ble_eq_true rfl⟩ (by decide) dX4_strikerIn_4 ?_
  refine lv_as (y := nI hrs) (if_neg (by rw [show (20 : Int32) = nI 20 from rfl, nI_ltI (by omega) (by omega)]; omega)) ?_
  refine g_fvw (wr := []) (ww := fun (u_ : Unit) => [(ra, .inr (2, [.ref rc, .ref rr, .ref rf, .int (nI td), .int (nI f0)])), (rc, .inl (G.2.1, 40, .inl car)), (rr, .inl (G.2.1, 256, .inl rea)), (rf, .inl (G.2.1, 256, .inl (wbO car rea td hrs (wb0 td hrs fin) hrs)))]) (w2 := fun (u_ : Unit) => [(ra, .inr (2, [.ref rc, .ref rr, .ref rf, .int (nI td), .int (nI f0)])), (rc, .inl (G.2.1, 40, .inl car)), (rr, .inl (G.2.1, 256, .inl rea)), (rf, .inl (G.2.1, 256, .inl (wbO car rea td hrs (wb0 td hrs fin) hrs)))]) C hW [0, 1, 2, 3] [] [0, 1, 2, 3] rfl rfl (by decide) (by decide) (by decide) (fun _ => rfl) (g_runV (As := [.int (nI hrs)]) (rest := []) (wc := [(ra, .inr (2, [.ref rc, .ref rr, .ref rf, .int (nI td), .int (nI f0)])), (rc, .inl (G.2.1, 40, .inl car)), (rr, .inl (G.2.1, 256, .inl rea)), (rf, .inl (G.2.1, 256, .inl fin))]) (q0 := 0) (ci := 2) C hW hl (c_X4_workBack l G ra rc rr rf td (nI f0) car rea fin hrs (by first | assumption | omega) (by first | assumption | omega) _) k_ml_X4_60 q_X4_workBack (by decide) [0, 1, 2, 3] rfl rfl rfl rfl rfl rfl (Nat.le_of_ble_eq_true rfl) dX4_strikerIn_7 (by decide)) (fun _ er_476 => ?_)
  clear hW; intro H locs hW
  replace hW : Wd G A_ s_.heap [(ra, .inr (2, [.ref rc, .ref rr, .ref rf, .int (nI td), .int (nI f0)])), (rc, .inl (G.2.1, 40, .inl car)), (rr, .inl (G.2.1, 256, .inl rea)), (rf, .inl (G.2.1, 256, .inl (wbO car rea td hrs (wb0 td hrs fin) hrs)))] H locs := hW
  refine lv_aload_n hx hb dX4_strikerIn_10 rfl (lv_at hl 0 rfl) ?_
  refine g_get (k := 4) (v := .int (nI f0)) C hW 0 rfl rfl jnX4 (by decide) k_fl_X4_25 rfl dX4_strikerIn_11 ?_
  refine lv_istore_n (lv' := [(3, .int (nI f0)), (0, .ref ra), (1, .int (nI k)), (2, .int (nI hrs))]) hx hb dX4_strikerIn_14 rfl hl (by decide) rfl ?_
  clear hl ls; intro ls hl
  refine lv_iconst (v := (-1)) hx hb dX4_strikerIn_15 (by decide) ?_
  refine lv_istore (lv' := [(4, .int (-1)), (3, .int (nI f0)), (0, .ref ra), (1, .int (nI k)), (2, .int (nI hrs))]) hx hb dX4_strikerIn_16 hl (by decide) rfl ?_
  clear hl ls; intro ls hl
  refine lv_iconst (v := 0) hx hb dX4_strikerIn_18 (by decide) ?_
  refine lv_istore (lv' := [(5, .int 0), (4, .int (-1)), (3, .int (nI f0)), (0, .ref ra), (1, .int (nI k)), (2, .int (nI hrs))]) hx hb dX4_strikerIn_19 hl (by decide) rfl ?_
  clear hl ls; intro ls hl
  have K_478 : ∀ (n_ : Nat) (t : Nat) (x_479 : Int32) (x_480 : Int32) (x_481 : Int32) (_ : x_479 = nI t) (_ : x_480 = skV car (wbO car rea td hrs (wb0 td hrs fin) hrs) td f0 t) (_ : x_481 = nI (spS car (wbO car rea td hrs (wb0 td hrs fin) hrs) td f0 t)) (_ : t ≤ k + 1) (_ : k + 1 - t < n_) (H : Heap) (locs : List Loc) (ls : Array Slot), Wd G A_ s_.heap [(ra, .inr (2, [.ref rc, .ref rr, .ref rf, .int (nI td), .int (nI f0)])), (rc, .inl (G.2.1, 40, .inl car)), (rr, .inl (G.2.1, 256, .inl rea)), (rf, .inl (G.2.1, 256, .inl (wbO car rea td hrs (wb0 td hrs fin) hrs)))] H locs → lv_has ls 6 [(5, .int x_479), (4, .int x_480), (3, .int x_481), (0, .ref ra), (1, .int (nI k)), (2, .int (nI hrs))] → W p_ l e_ ({ frames := 3, cells := 0, slots := 0, locals := 71 }) s_ m_ ar_ be_ me_ cd_ H locs 0 0 Q (F0 m_ 21 ls []) := by
    intro n_
    induction n_ with
    | zero => intro t x_479 x_480 x_481 ex_479 ex_480 ex_481 ht9 hm_; exact absurd hm_ (Nat.not_lt_zero _)
    | succ n_ ihK_478 =>
      intro t x_479 x_480 x_481 ex_479 ex_480 ex_481 ht9 hm_ H locs ls hW hl
      subst ex_479
      subst ex_480
      subst ex_481
      refine lv_iload hx hb dX4_strikerIn_21 (lv_at hl 0 rfl) ?_
      refine lv_iload_n hx hb dX4_strikerIn_23 rfl (lv_at hl 4 rfl) ?_
      refine lv_icmp_gt (tgt := 66) hx hb dX4_strikerIn_24 (by decide) (fun c_482 => ?_) (fun c_482 => ?_)
      · replace c_482 := Int32.not_le.mpr c_482
        have c_482n : ¬ t ≤ k := fun q => c_482 ((nI_leI (a := t) (b := k) (by omega) (by omega)).mpr q)
        refine lv_iload hx hb dX4_strikerIn_66 (lv_at hl 1 rfl) ?_
        subst hQ
        exact g_iret (v := (skV car (wbO car rea td hrs (wb0 td hrs fin) hrs) td f0 t)) C hW hrt ⟨(), by rw [show t = k + 1 by omega], by rfl⟩ dX4_strikerIn_68
      · replace c_482 := Int32.not_lt.mp c_482
        have c_482n : t ≤ k := (nI_leI (a := t) (b := k) (by omega) (by omega)).mp c_482
        refine lv_iload hx hb dX4_strikerIn_27 (lv_at hl 0 rfl) ?_
        refine lv_bipush (v := 20) hx hb dX4_strikerIn_29 (by decide) ?_
        refine lv_icmp_ge (tgt := 66) hx hb dX4_strikerIn_31 (by decide) (fun c_485 => ?_) (fun c_485 => ?_)
        · replace c_485 := Int32.not_lt.mpr c_485
          have c_485n : ¬ t < 20 := fun q => c_485 ((nI_ltI (a := t) (b := 20) (by omega) (by omega)).mpr q)
          exfalso; omega
        · replace c_485 := Int32.not_le.mp c_485
          have c_485n : t < 20 := (nI_ltI (a := t) (b := 20) (by omega) (by omega)).mp c_485
          refine lv_aload_n hx hb dX4_strikerIn_34 rfl (lv_at hl 3 rfl) ?_
          refine lv_iload_n hx hb dX4_strikerIn_35 rfl (lv_at hl 2 rfl) ?_
          refine lv_iload hx hb dX4_strikerIn_36 (lv_at hl 0 rfl) ?_
          refine g_fi C hW [0, 1, 3] rfl (g_runV (As := [.int (nI (spS car (wbO car rea td hrs (wb0 td hrs fin) hrs) td f0 t)), .int (nI t)]) (rest := []) (wc := [(ra, .inr (2, [.ref rc, .ref rr, .ref rf, .int (nI td), .int (nI f0)])), (rc, .inl (G.2.1, 40, .inl car)), (rf, .inl (G.2.1, 256, .inl (wbO car rea td hrs (wb0 td hrs fin) hrs)))]) (q0 := 0) (ci := 2) C hW hl (c_X4_firstStep l G ra rc rr rf td (nI f0) car (wbO car rea td hrs (wb0 td hrs fin) hrs) (spS car (wbO car rea td hrs (wb0 td hrs fin) hrs) td f0 t) t (by first | assumption | omega) (by exact spS_lt hf0 t) (by first | assumption | omega) _) k_ml_X4_63 q_X4_firstStep (by decide) [0, 1, 3] rfl rfl rfl rfl rfl rfl (Nat.le_of_ble_eq_true rfl) dX4_strikerIn_38 (by decide)) (fun r_486 er_486 => ?_)
          clear hW H locs; intro H locs hW
          subst er_486
          refine lv_istore (lv' := [(4, .int (fsV car (wbO car rea td hrs (wb0 td hrs fin) hrs) td (spS car (wbO car rea td hrs (wb0 td hrs fin) hrs) td f0 t) t)), (5, .int (nI t)), (3, .int (nI (spS car (wbO car rea td hrs (wb0 td hrs fin) hrs) td f0 t))), (0, .ref ra), (1, .int (nI k)), (2, .int (nI hrs))]) hx hb dX4_strikerIn_41 hl (by decide) rfl ?_
          clear hl ls; intro ls hl
          refine lv_iload hx hb dX4_strikerIn_43 (lv_at hl 0 rfl) ?_
          refine lv_bipush (v := (-9)) hx hb dX4_strikerIn_45 (by decide) ?_
          refine lv_icmp_ne (tgt := 52) hx hb dX4_strikerIn_47 (by decide) (fun c_487 => ?_) (fun c_487 => ?_)
          · refine lv_aload_n hx hb dX4_strikerIn_52 rfl (lv_at hl 3 rfl) ?_
            refine lv_iload_n hx hb dX4_strikerIn_53 rfl (lv_at hl 2 rfl) ?_
            refine lv_iload hx hb dX4_strikerIn_54 (lv_at hl 0 rfl) ?_
            refine lv_as (y := nI (fsN car (wbO car rea td hrs (wb0 td hrs fin) hrs) td (spS car (wbO car rea td hrs (wb0 td hrs fin) hrs) td f0 t) t) - 1) (fsV_ne (hok t (by omega))) ?_
            refine g_fi C hW [0] rfl (g_runV (As := [.int (nI (spS car (wbO car rea td hrs (wb0 td hrs fin) hrs) td f0 t)), .int (nI (fsN car (wbO car rea td hrs (wb0 td hrs fin) hrs) td (spS car (wbO car rea td hrs (wb0 td hrs fin) hrs) td f0 t) t) - 1)]) (rest := []) (wc := [(ra, .inr (2, [.ref rc, .ref rr, .ref rf, .int (nI td), .int (nI f0)]))]) (q0 := 0) (ci := 2) C hW hl (c_X4_after l G ra rc rr rf td (nI f0) (spS car (wbO car rea td hrs (wb0 td hrs fin) hrs) td f0 t) (fsN car (wbO car rea td hrs (wb0 td hrs fin) hrs) td (spS car (wbO car rea td hrs (wb0 td hrs fin) hrs) td f0 t) t) (by first | assumption | omega) (by exact spS_lt hf0 t) (by exact hok t (by omega)) _) k_ml_X4_66 q_X4_after (by decide) [0] rfl rfl rfl rfl rfl rfl (Nat.le_of_ble_eq_true rfl) dX4_strikerIn_56 (by decide)) (fun r_488 er_488 => ?_)
            clear hW H locs; intro H locs hW
            subst er_488
            refine lv_istore_n (lv' := [(3, .int (nI (afN td (spS car (wbO car rea td hrs (wb0 td hrs fin) hrs) td f0 t) (fsN car (wbO car rea td hrs (wb0 td hrs fin) hrs) td (spS car (wbO car rea td hrs (wb0 td hrs fin) hrs) td f0 t) t)))), (4, .int (fsV car (wbO car rea td hrs (wb0 td hrs fin) hrs) td (spS car (wbO car rea td hrs (wb0 td hrs fin) hrs) td f0 t) t)), (5, .int (nI t)), (0, .ref ra), (1, .int (nI k)), (2, .int (nI hrs))]) hx hb dX4_strikerIn_59 rfl hl (by decide) rfl ?_
            clear hl ls; intro ls hl
            refine lv_iinc (v := (nI t) + 1) (lv' := [(5, .int ((nI t) + 1)), (3, .int (nI (afN td (spS car (wbO car rea td hrs (wb0 td hrs fin) hrs) td f0 t) (fsN car (wbO car rea td hrs (wb0 td hrs fin) hrs) td (spS car (wbO car rea td hrs (wb0 td hrs fin) hrs) td f0 t) t)))), (4, .int (fsV car (wbO car rea td hrs (wb0 td hrs fin) hrs) td (spS car (wbO car rea td hrs (wb0 td hrs fin) hrs) td f0 t) t)), (0, .ref ra), (1, .int (nI k)), (2, .int (nI hrs))]) hx hb dX4_strikerIn_60 hl (k := 2) rfl rfl (by decide) rfl ?_
            clear hl ls; intro ls hl
            refine lv_goto (tgt := 21) hx hb dX4_strikerIn_63 (by decide) ?_
            exact ihK_478 (t + 1) ((nI t) + 1) (fsV car (wbO car rea td hrs (wb0 td hrs fin) hrs) td (spS car (wbO car rea td hrs (wb0 td hrs fin) hrs) td f0 t) t) (nI (afN td (spS car (wbO car rea td hrs (wb0 td hrs fin) hrs) td f0 t) (fsN car (wbO car rea td hrs (wb0 td hrs fin) hrs) td (spS car (wbO car rea td hrs (wb0 td hrs fin) hrs) td f0 t) t))) (by exact nI_1 _) (by exact fsV_ne (hok t (by omega))) (by first | exact rfl | (simp; done)) (by first | omega | assumption | (simp; done)) (by omega) _ _ _ hW (lv_sub hl [0, 2, 1, 3, 4, 5] rfl)
          · exfalso; exact absurd (fsV_9.mp c_487) (by have := hok t (by omega); omega)
  exact K_478 _ 0 0 (-1) (nI f0) (by first | exact rfl | (simp; done)) (by first | exact rfl | (simp; done)) (by first | exact rfl | (simp; done)) (by first | omega | assumption | (simp; done)) (Nat.lt_succ_self _) _ _ _ hW (lv_sub hl [0, 1, 2, 3, 4, 5] rfl)
