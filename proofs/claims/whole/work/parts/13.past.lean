set_option maxHeartbeats 4000000 in
set_option maxRecDepth 100000 in
theorem c_J6_bitCount_0f7a4 (l : Launch) (G : gT) (x0 : Int32)  : MI l G yJ6_bitCount_0f7a4 cJ6_bitCount_0f7a4 1 .int ({ frames := 0, cells := 0, slots := 0, locals := 0 }) [.int x0] [] (fun (r : Int32) w1 => (r = bc x0) ∧ w1 = []) := by
  refine MI.mk (by decide) (Nat.le_of_ble_eq_true rfl) ?_
  intro p_ e_ s_ m_ ar_ be_ me_ cd_ A_ ls C hr hW hl
  have hx := C.1; have hb := C.2.1; have hown := C.2.2.2.1; have ht := C.2.2.2.2.1
  replace hl : lv_has ls 1 [(0, .int x0)] := hl
  generalize hQ : MQ be_ _ ar_ s_ 0 0 A_ = Q
  refine lv_iload_n hx hb dJ6_bitCount_0f7a4_0 rfl (lv_at hl 0 rfl) ?_
  refine lv_iload_n hx hb dJ6_bitCount_0f7a4_1 rfl (lv_at hl 0 rfl) ?_
  refine lv_iconst (v := 1) hx hb dJ6_bitCount_0f7a4_2 (by decide) ?_
  refine lv_iushr hx hb dJ6_bitCount_0f7a4_3 rfl ?_
  refine lv_ldcw (v := 1431655765) hx hb hown (ht _ k_ct_J6_265) dJ6_bitCount_0f7a4_4 ?_
  refine lv_iand hx hb dJ6_bitCount_0f7a4_7 ?_
  refine lv_isub hx hb dJ6_bitCount_0f7a4_8 ?_
  refine lv_topi (fun x1 ex1 => ?_)
  refine lv_istore_n (lv' := [(0, .int x1)]) hx hb dJ6_bitCount_0f7a4_9 rfl hl (by decide) rfl ?_
  clear hl ls; intro ls hl
  refine lv_iload_n hx hb dJ6_bitCount_0f7a4_10 rfl (lv_at hl 0 rfl) ?_
  refine lv_ldcw (v := 858993459) hx hb hown (ht _ k_ct_J6_266) dJ6_bitCount_0f7a4_11 ?_
  refine lv_iand hx hb dJ6_bitCount_0f7a4_14 ?_
  refine lv_iload_n hx hb dJ6_bitCount_0f7a4_15 rfl (lv_at hl 0 rfl) ?_
  refine lv_iconst (v := 2) hx hb dJ6_bitCount_0f7a4_16 (by decide) ?_
  refine lv_iushr hx hb dJ6_bitCount_0f7a4_17 rfl ?_
  refine lv_ldcw (v := 858993459) hx hb hown (ht _ k_ct_J6_266) dJ6_bitCount_0f7a4_18 ?_
  refine lv_iand hx hb dJ6_bitCount_0f7a4_21 ?_
  refine lv_iadd hx hb dJ6_bitCount_0f7a4_22 ?_
  refine lv_topi (fun x2 ex2 => ?_)
  refine lv_istore_n (lv' := [(0, .int x2)]) hx hb dJ6_bitCount_0f7a4_23 rfl hl (by decide) rfl ?_
  clear hl ls; intro ls hl
  refine lv_iload_n hx hb dJ6_bitCount_0f7a4_24 rfl (lv_at hl 0 rfl) ?_
  refine lv_iload_n hx hb dJ6_bitCount_0f7a4_25 rfl (lv_at hl 0 rfl) ?_
  refine lv_iconst (v := 4) hx hb dJ6_bitCount_0f7a4_26 (by decide) ?_
  refine lv_iushr hx hb dJ6_bitCount_0f7a4_27 rfl ?_
  refine lv_iadd hx hb dJ6_bitCount_0f7a4_28 ?_
  refine lv_ldcw (v := 252645135) hx hb hown (ht _ k_ct_J6_267) dJ6_bitCount_0f7a4_29 ?_
  refine lv_iand hx hb dJ6_bitCount_0f7a4_32 ?_
  refine lv_topi (fun x3 ex3 => ?_)
  refine lv_istore_n (lv' := [(0, .int x3)]) hx hb dJ6_bitCount_0f7a4_33 rfl hl (by decide) rfl ?_
  clear hl ls; intro ls hl
  refine lv_iload_n hx hb dJ6_bitCount_0f7a4_34 rfl (lv_at hl 0 rfl) ?_
  refine lv_iload_n hx hb dJ6_bitCount_0f7a4_35 rfl (lv_at hl 0 rfl) ?_
  refine lv_bipush (v := 8) hx hb dJ6_bitCount_0f7a4_36 (by decide) ?_
  refine lv_iushr hx hb dJ6_bitCount_0f7a4_38 rfl ?_
  refine lv_iadd hx hb dJ6_bitCount_0f7a4_39 ?_
  refine lv_topi (fun x4 ex4 => ?_)
  refine lv_istore_n (lv' := [(0, .int x4)]) hx hb dJ6_bitCount_0f7a4_40 rfl hl (by decide) rfl ?_
  clear hl ls; intro ls hl
  refine lv_iload_n hx hb dJ6_bitCount_0f7a4_41 rfl (lv_at hl 0 rfl) ?_
  refine lv_iload_n hx hb dJ6_bitCount_0f7a4_42 rfl (lv_at hl 0 rfl) ?_
  refine lv_bipush (v := 16) hx hb dJ6_bitCount_0f7a4_43 (by decide) ?_
  refine lv_iushr hx hb dJ6_bitCount_0f7a4_45 rfl ?_
  refine lv_iadd hx hb dJ6_bitCount_0f7a4_46 ?_
  refine lv_topi (fun x5 ex5 => ?_)
  refine lv_istore_n (lv' := [(0, .int x5)]) hx hb dJ6_bitCount_0f7a4_47 rfl hl (by decide) rfl ?_
  clear hl ls; intro ls hl
  refine lv_iload_n hx hb dJ6_bitCount_0f7a4_48 rfl (lv_at hl 0 rfl) ?_
  refine lv_bipush (v := 63) hx hb dJ6_bitCount_0f7a4_49 (by decide) ?_
  refine lv_iand hx hb dJ6_bitCount_0f7a4_51 ?_
  subst hQ
  exact g_iret (v := (x5 &&& 63)) C hW hr ⟨by (subst ex5 ex4 ex3 ex2 ex1; rfl), rfl⟩ dJ6_bitCount_0f7a4_52
set_option maxHeartbeats 4000000 in
set_option maxRecDepth 100000 in
theorem c_J9_floorMod_7cf53 (l : Launch) (G : gT) (a b : Nat) (ha : a < 100000) (hb_ : 0 < b ∧ b < 100) : MI l G yJ9_floorMod_7cf53 cJ9_floorMod_7cf53 3 .int ({ frames := 0, cells := 0, slots := 0, locals := 0 }) [.int (nI a), .int (nI b)] [] (fun (r : Int32) w1 => (r = nI (a % b)) ∧ w1 = []) := by
  refine MI.mkF (by decide +kernel) (Nat.le_of_ble_eq_true rfl) ?_
  intro p_ e_ s_ m_ ar_ be_ me_ cd_ A_ ls C hr hW hl
  have hx := C.1; have hb := C.2.1; have hown := C.2.2.2.1; have ht := C.2.2.2.2.1
  replace hl : lv_has ls 3 [(0, .int (nI a)), (1, .int (nI b))] := hl
  generalize hQ : MQ be_ _ ar_ s_ 0 0 A_ = Q
  refine lv_iload_n hx hb dJ9_floorMod_7cf53_0 rfl (lv_at hl 0 rfl) ?_
  refine lv_iload_n hx hb dJ9_floorMod_7cf53_1 rfl (lv_at hl 1 rfl) ?_
  refine lv_irem hx hb dJ9_floorMod_7cf53_2 (by exact nI_ne0 (by omega) (by omega)) ?_
  refine lv_as (y := nI (a % b)) (pk_rem (by omega) (by omega) (by omega)) ?_
  refine lv_istore_n (lv' := [(2, .int (nI (a % b))), (0, .int (nI a)), (1, .int (nI b))]) hx hb dJ9_floorMod_7cf53_3 rfl hl (by decide) rfl ?_
  clear hl ls; intro ls hl
  refine lv_iload_n hx hb dJ9_floorMod_7cf53_4 rfl (lv_at hl 1 rfl) ?_
  refine lv_iload_n hx hb dJ9_floorMod_7cf53_5 rfl (lv_at hl 2 rfl) ?_
  refine lv_ixor hx hb dJ9_floorMod_7cf53_6 ?_
  refine lv_if_ge (tgt := 18) hx hb dJ9_floorMod_7cf53_7 (by decide) (fun c_72 => ?_) (fun c_72 => ?_)
  · replace c_72 := Int32.not_lt.mpr c_72
    refine lv_iload_n hx hb dJ9_floorMod_7cf53_18 rfl (lv_at hl 0 rfl) ?_
    subst hQ
    exact g_iret (v := (nI (a % b))) C hW hr ⟨by first | rfl | (simp only [c_72, if_true, if_false, reduceIte]; done) | (simp [c_72]; done) | (simp_all []; done) | (simp only [c_72]; (repeat' split) <;> first | rfl | (simp_all; done)), rfl⟩ dJ9_floorMod_7cf53_19
  · replace c_72 := Int32.not_le.mp c_72
    exfalso; exact xor_nn (by have := Nat.mod_lt a hb_.1; omega) (by omega) c_72
set_option maxHeartbeats 4000000 in
set_option maxRecDepth 100000 in
theorem c_J7_fill_53178 (l : Launch) (G : gT) (q N : Nat) (f : Nat → Int32) (v : Int32) (hN : N < 1000) : MV l G yJ7_fill_53178 cJ7_fill_53178 4 ({ frames := 0, cells := 0, slots := 0, locals := 0 }) [.ref q, .int v] [(q, .inl (G.2.1, N, .inl f))] (fun w1 => ∃ u_ : Unit, (True) ∧ w1 = [(q, .inl (G.2.1, N, .inl (fun i => if i < N then v else f i)))]) := by
  refine MV.mk (by decide) (Nat.le_of_ble_eq_true rfl) ?_
  intro p_ e_ s_ m_ ar_ be_ me_ cd_ A_ ls C hr hW hl
  have hx := C.1; have hb := C.2.1; have hown := C.2.2.2.1; have ht := C.2.2.2.2.1
  replace hl : lv_has ls 4 [(0, .ref q), (1, .int v)] := hl
  generalize hQ : MQ be_ _ ar_ s_ 0 0 A_ = Q
  refine lv_iconst (v := 0) hx hb dJ7_fill_53178_0 (by decide) ?_
  refine lv_istore_n (lv' := [(2, .int 0), (0, .ref q), (1, .int v)]) hx hb dJ7_fill_53178_1 rfl hl (by decide) rfl ?_
  clear hl ls; intro ls hl
  refine lv_aload_n hx hb dJ7_fill_53178_2 rfl (lv_at hl 1 rfl) ?_
  refine g_alen (v := (nI N)) C hW 0 rfl rfl dJ7_fill_53178_3 ?_
  refine lv_istore_n (lv' := [(3, .int (nI N)), (2, .int 0), (0, .ref q), (1, .int v)]) hx hb dJ7_fill_53178_4 rfl hl (by decide) rfl ?_
  clear hl ls; intro ls hl
  have K_73 : ∀ (n_ : Nat) (k : Nat) (x_74 : Int32) (g_75 : Nat → Int32) (_ : x_74 = nI k) (_ : g_75 = (fun i => if i < k then v else f i)) (_ : k ≤ N) (_ : N - k < n_) (H : Heap) (locs : List Loc) (ls : Array Slot), Wd G A_ s_.heap [(q, .inl (G.2.1, N, .inl g_75))] H locs → lv_has ls 4 [(3, .int (nI N)), (2, .int x_74), (0, .ref q), (1, .int v)] → W p_ l e_ ({ frames := 0, cells := 0, slots := 0, locals := 0 }) s_ m_ ar_ be_ me_ cd_ H locs 0 0 Q (F0 m_ 5 ls []) := by
    intro n_
    induction n_ with
    | zero => intro k x_74 g_75 ex_74 eg_75 hk hm_; exact absurd hm_ (Nat.not_lt_zero _)
    | succ n_ ih_ =>
      intro k x_74 g_75 ex_74 eg_75 hk hm_ H locs ls hW hl
      subst ex_74
      subst eg_75
      refine lv_iload_n hx hb dJ7_fill_53178_5 rfl (lv_at hl 1 rfl) ?_
      refine lv_iload_n hx hb dJ7_fill_53178_6 rfl (lv_at hl 0 rfl) ?_
      refine lv_icmp_ge (tgt := 20) hx hb dJ7_fill_53178_7 (by decide) (fun c_76 => ?_) (fun c_76 => ?_)
      · replace c_76 := Int32.not_lt.mpr c_76
        have c_76n : ¬ k < N := fun q => c_76 ((nI_ltI (a := k) (b := N) (by omega) (by omega)).mpr q)
        subst hQ
        exact g_vret C hW hr ⟨(), trivial, by rw [show k = N by omega]⟩ dJ7_fill_53178_20
      · replace c_76 := Int32.not_le.mp c_76
        have c_76n : k < N := (nI_ltI (a := k) (b := N) (by omega) (by omega)).mp c_76
        refine lv_aload_n hx hb dJ7_fill_53178_10 rfl (lv_at hl 2 rfl) ?_
        refine lv_iload_n hx hb dJ7_fill_53178_11 rfl (lv_at hl 1 rfl) ?_
        refine lv_iload_n hx hb dJ7_fill_53178_12 rfl (lv_at hl 3 rfl) ?_
        refine g_ast (w' := [(q, .inl (G.2.1, N, .inl (upd (fun i => if i < k then v else f i) k v)))]) C hW 0 rfl (ix_in (show (nI k) = nI k from (by first | rfl | (simp only [nI_lit, nI_add, pk_mul]; done) | (simp only [nI_lit, nI_add, pk_mul]; congr 1; omega))) (by omega) (by omega)) (by rw [show (nI k).toNatClampNeg = k from nI_clamp (by omega)]; rfl) dJ7_fill_53178_13 ?_
        clear hW H locs; intro H locs hW
        refine lv_iinc (v := (nI k) + 1) (lv' := [(2, .int ((nI k) + 1)), (3, .int (nI N)), (0, .ref q), (1, .int v)]) hx hb dJ7_fill_53178_14 hl (k := 1) rfl rfl (by decide) rfl ?_
        clear hl ls; intro ls hl
        refine lv_goto (tgt := 5) hx hb dJ7_fill_53178_17 (by decide) ?_
        exact ih_ (k + 1) ((nI k) + 1) (upd (fun i => if i < k then v else f i) k v) (by first | rfl | assumption | omega | exact nI_1 _ | (simp; done)) (by exact fill_upd f v k) (by first | rfl | assumption | omega | exact nI_1 _ | (simp; done)) (by omega) _ _ _ hW (lv_sub hl [1, 0, 2, 3] rfl)
  exact K_73 _ 0 0 f (by first | rfl | assumption | omega | exact nI_1 _ | (simp; done)) (by (funext i; rw [if_neg (Nat.not_lt_zero _)])) (by first | rfl | assumption | omega | exact nI_1 _ | (simp; done)) (Nat.lt_succ_self _) _ _ _ hW (lv_sub hl [0, 1, 2, 3] rfl)
set_option maxHeartbeats 4000000 in
set_option maxRecDepth 100000 in
theorem c_X3_size (l : Launch) (G : gT) (h q u : Nat)  : MI l G yX3_size cX3_size 1 .int ({ frames := 0, cells := 0, slots := 0, locals := 0 }) [.ref h] [(h, .inr (1, [.ref q, .int (nI u)]))] (fun (r : Int32) w1 => (r = nI u) ∧ w1 = [(h, .inr (1, [.ref q, .int (nI u)]))]) := by
  refine MI.mk (by decide) (Nat.le_of_ble_eq_true rfl) ?_
  intro p_ e_ s_ m_ ar_ be_ me_ cd_ A_ ls C hr hW hl
  have hx := C.1; have hb := C.2.1; have hown := C.2.2.2.1; have ht := C.2.2.2.2.1
  replace hl : lv_has ls 1 [(0, .ref h)] := hl
  generalize hQ : MQ be_ _ ar_ s_ 0 0 A_ = Q
  refine lv_aload_n hx hb dX3_size_0 rfl (lv_at hl 0 rfl) ?_
  refine g_get (k := 1) (v := .int (nI u)) C hW 0 rfl rfl jnX3 (by decide) k_fl_X3_15 rfl dX3_size_1 ?_
  subst hQ
  exact g_iret (v := (nI u)) C hW hr ⟨by first | rfl | (simp only [if_true, if_false, reduceIte]; done) | (simp []; done) | (simp_all []; done) | (simp only []; (repeat' split) <;> first | rfl | (simp_all; done)), rfl⟩ dX3_size_4
set_option maxHeartbeats 4000000 in
set_option maxRecDepth 100000 in
theorem c_X3_forgetAll (l : Launch) (G : gT) (h q u : Nat)  : MV l G yX3_forgetAll cX3_forgetAll 1 ({ frames := 0, cells := 0, slots := 0, locals := 0 }) [.ref h] [(h, .inr (1, [.ref q, .int (nI u)]))] (fun w1 => ∃ u_ : Unit, (True) ∧ w1 = [(h, .inr (1, [.ref q, .int (nI 0)]))]) := by
  refine MV.mk (by decide) (Nat.le_of_ble_eq_true rfl) ?_
  intro p_ e_ s_ m_ ar_ be_ me_ cd_ A_ ls C hr hW hl
  have hx := C.1; have hb := C.2.1; have hown := C.2.2.2.1; have ht := C.2.2.2.2.1
  replace hl : lv_has ls 1 [(0, .ref h)] := hl
  generalize hQ : MQ be_ _ ar_ s_ 0 0 A_ = Q
  refine lv_aload_n hx hb dX3_forgetAll_0 rfl (lv_at hl 0 rfl) ?_
  refine lv_iconst (v := 0) hx hb dX3_forgetAll_1 (by decide) ?_
  refine g_put (k := 1) (ty := .int) (w' := [(h, .inr (1, [.ref q, .int 0]))]) C hW 0 rfl rfl jnX3 tyX3_ok nmX3 (by decide) k_fl_X3_15 rfl rfl rfl rfl (Nat.le_of_ble_eq_true rfl) rfl dX3_forgetAll_2 ?_
  clear hW; intro H locs hW
  subst hQ
  exact g_vret C hW hr ⟨(), trivial, by rfl⟩ dX3_forgetAll_5
set_option maxHeartbeats 4000000 in
set_option maxRecDepth 100000 in
theorem c_X3_push (l : Launch) (G : gT) (h q u : Nat) (f : Nat → Int32) (kk : Nat) (ck : Nat → Int32) (hu : u ≤ 8) : MV l G yX3_push cX3_push 2 ({ frames := 1, cells := 0, slots := 0, locals := 40 }) [.ref h, .ref kk] [(h, .inr (1, [.ref q, .int (nI u)])), (q, .inl (G.2.1, 56, .inl f)), (kk, .inl (G.2.1, 7, .inl ck))] (fun w1 => ∃ u_ : Unit, (True) ∧ w1 = [(h, .inr (1, [.ref q, .int (nI (pun u))])), (q, .inl (G.2.1, 56, .inl (pu u f ck))), (kk, .inl (G.2.1, 7, .inl ck))]) := by
  refine MV.mk (by decide) (Nat.le_of_ble_eq_true rfl) ?_
  intro p_ e_ s_ m_ ar_ be_ me_ cd_ A_ ls C hr hW hl
  have hx := C.1; have hb := C.2.1; have hown := C.2.2.2.1; have ht := C.2.2.2.2.1
  replace hl : lv_has ls 2 [(0, .ref h), (1, .ref kk)] := hl
  generalize hQ : MQ be_ _ ar_ s_ 0 0 A_ = Q
  refine lv_aload_n hx hb dX3_push_0 rfl (lv_at hl 0 rfl) ?_
  refine g_get (k := 1) (v := .int (nI u)) C hW 0 rfl rfl jnX3 (by decide) k_fl_X3_15 rfl dX3_push_1 ?_
  refine lv_bipush (v := 8) hx hb dX3_push_4 (by decide) ?_
  refine lv_icmp_lt (tgt := 31) hx hb dX3_push_6 (by decide) (fun c_77 => ?_) (fun c_77 => ?_)
  · replace c_77 := Int32.not_le.mpr c_77
    have c_77n : ¬ 8 ≤ u := fun q => c_77 ((nI_leI (a := 8) (b := u) (by omega) (by omega)).mpr q)
    refine lv_aload_n hx hb dX3_push_31 rfl (lv_at hl 1 rfl) ?_
    refine lv_iconst (v := 0) hx hb dX3_push_32 (by decide) ?_
    refine lv_aload_n hx hb dX3_push_33 rfl (lv_at hl 0 rfl) ?_
    refine g_get (k := 0) (v := .ref q) C hW 0 rfl rfl jnX3 (by decide) k_fl_X3_11 rfl dX3_push_34 ?_
    refine lv_aload_n hx hb dX3_push_37 rfl (lv_at hl 0 rfl) ?_
    refine g_get (k := 1) (v := .int (nI u)) C hW 0 rfl rfl jnX3 (by decide) k_fl_X3_15 rfl dX3_push_38 ?_
    refine lv_bipush (v := 7) hx hb dX3_push_41 (by decide) ?_
    refine lv_imul hx hb dX3_push_43 ?_
    refine lv_bipush (v := 7) hx hb dX3_push_44 (by decide) ?_
    refine g_cpy (sn := 0) (dn := u * 7) (nn := 7) (w' := [(h, .inr (1, [.ref q, .int (nI u)])), (q, .inl (G.2.1, 56, .inl (va_cpy ck f 0 (u * 7) 7))), (kk, .inl (G.2.1, 7, .inl ck))]) C hW hl k_ml_X3_19 2 1 rfl rfl (by first | rfl | (simp only [nI_lit, pk_mul]; done) | omega) (by first | rfl | (simp only [nI_lit, pk_mul]; done) | omega) (by first | rfl | (simp only [nI_lit, pk_mul]; done) | omega) (by first | rfl | (simp only [nI_lit, pk_mul]; done) | omega) (by first | rfl | (simp only [nI_lit, pk_mul]; done) | omega) rfl ⟨Nat.le_of_ble_eq_true rfl, Nat.le_of_ble_eq_true rfl⟩ dX3_push_46 ?_
    clear hW; intro H locs hW
    refine lv_aload_n hx hb dX3_push_49 rfl (lv_at hl 0 rfl) ?_
    refine lv_dup hx hb dX3_push_50 rfl ?_
    refine g_get (k := 1) (v := .int (nI u)) C hW 0 rfl rfl jnX3 (by decide) k_fl_X3_15 rfl dX3_push_51 ?_
    refine lv_iconst (v := 1) hx hb dX3_push_54 (by decide) ?_
    refine lv_iadd hx hb dX3_push_55 ?_
    refine g_put (k := 1) (ty := .int) (w' := [(h, .inr (1, [.ref q, .int ((nI u) + 1)])), (q, .inl (G.2.1, 56, .inl (va_cpy ck f 0 (u * 7) 7))), (kk, .inl (G.2.1, 7, .inl ck))]) C hW 0 rfl rfl jnX3 tyX3_ok nmX3 (by decide) k_fl_X3_15 rfl rfl rfl rfl (Nat.le_of_ble_eq_true rfl) rfl dX3_push_56 ?_
    clear hW H locs; intro H locs hW
    subst hQ
    exact g_vret C hW hr ⟨(), trivial, by (simp only [pun, pu, c_77, c_77n, if_true, if_false, reduceIte, nI_1]; try rfl)⟩ dX3_push_59
  · replace c_77 := Int32.not_lt.mp c_77
    have c_77n : 8 ≤ u := (nI_leI (a := 8) (b := u) (by omega) (by omega)).mp c_77
    refine lv_aload_n hx hb dX3_push_9 rfl (lv_at hl 0 rfl) ?_
    refine g_get (k := 0) (v := .ref q) C hW 0 rfl rfl jnX3 (by decide) k_fl_X3_11 rfl dX3_push_10 ?_
    refine lv_bipush (v := 7) hx hb dX3_push_13 (by decide) ?_
    refine lv_aload_n hx hb dX3_push_15 rfl (lv_at hl 0 rfl) ?_
    refine g_get (k := 0) (v := .ref q) C hW 0 rfl rfl jnX3 (by decide) k_fl_X3_11 rfl dX3_push_16 ?_
    refine lv_iconst (v := 0) hx hb dX3_push_19 (by decide) ?_
    refine lv_bipush (v := 49) hx hb dX3_push_20 (by decide) ?_
    refine g_cpy (sn := 7) (dn := 0) (nn := 49) (w' := [(h, .inr (1, [.ref q, .int (nI u)])), (q, .inl (G.2.1, 56, .inl (va_cpy f f 7 0 49))), (kk, .inl (G.2.1, 7, .inl ck))]) C hW hl k_ml_X3_19 1 1 rfl rfl (by first | rfl | omega) (by first | rfl | omega) (by first | rfl | omega) (by first | rfl | omega) (by first | rfl | omega) rfl ⟨Nat.le_of_ble_eq_true rfl, Nat.le_of_ble_eq_true rfl⟩ dX3_push_22 ?_
    clear hW; intro H locs hW
    refine lv_aload_n hx hb dX3_push_25 rfl (lv_at hl 0 rfl) ?_
    refine lv_bipush (v := 7) hx hb dX3_push_26 (by decide) ?_
    refine g_put (k := 1) (ty := .int) (w' := [(h, .inr (1, [.ref q, .int 7])), (q, .inl (G.2.1, 56, .inl (va_cpy f f 7 0 49))), (kk, .inl (G.2.1, 7, .inl ck))]) C hW 0 rfl rfl jnX3 tyX3_ok nmX3 (by decide) k_fl_X3_15 rfl rfl rfl rfl (Nat.le_of_ble_eq_true rfl) rfl dX3_push_28 ?_
    clear hW H locs; intro H locs hW
    refine lv_aload_n hx hb dX3_push_31 rfl (lv_at hl 1 rfl) ?_
    refine lv_iconst (v := 0) hx hb dX3_push_32 (by decide) ?_
    refine lv_aload_n hx hb dX3_push_33 rfl (lv_at hl 0 rfl) ?_
    refine g_get (k := 0) (v := .ref q) C hW 0 rfl rfl jnX3 (by decide) k_fl_X3_11 rfl dX3_push_34 ?_
    refine lv_aload_n hx hb dX3_push_37 rfl (lv_at hl 0 rfl) ?_
    refine g_get (k := 1) (v := .int 7) C hW 0 rfl rfl jnX3 (by decide) k_fl_X3_15 rfl dX3_push_38 ?_
    refine lv_bipush (v := 7) hx hb dX3_push_41 (by decide) ?_
    refine lv_imul hx hb dX3_push_43 ?_
    refine lv_bipush (v := 7) hx hb dX3_push_44 (by decide) ?_
    refine g_cpy (sn := 0) (dn := 49) (nn := 7) (w' := [(h, .inr (1, [.ref q, .int 7])), (q, .inl (G.2.1, 56, .inl (va_cpy ck (va_cpy f f 7 0 49) 0 49 7))), (kk, .inl (G.2.1, 7, .inl ck))]) C hW hl k_ml_X3_19 2 1 rfl rfl (by first | rfl | (simp only [nI_lit, pk_mul]; done) | omega) (by first | rfl | (simp only [nI_lit, pk_mul]; done) | omega) (by first | rfl | (simp only [nI_lit, pk_mul]; done) | omega) (by first | rfl | (simp only [nI_lit, pk_mul]; done) | omega) (by first | rfl | (simp only [nI_lit, pk_mul]; done) | omega) rfl ⟨Nat.le_of_ble_eq_true rfl, Nat.le_of_ble_eq_true rfl⟩ dX3_push_46 ?_
    clear hW H locs; intro H locs hW
    refine lv_aload_n hx hb dX3_push_49 rfl (lv_at hl 0 rfl) ?_
    refine lv_dup hx hb dX3_push_50 rfl ?_
    refine g_get (k := 1) (v := .int 7) C hW 0 rfl rfl jnX3 (by decide) k_fl_X3_15 rfl dX3_push_51 ?_
    refine lv_iconst (v := 1) hx hb dX3_push_54 (by decide) ?_
    refine lv_iadd hx hb dX3_push_55 ?_
    refine g_put (k := 1) (ty := .int) (w' := [(h, .inr (1, [.ref q, .int (7 + 1)])), (q, .inl (G.2.1, 56, .inl (va_cpy ck (va_cpy f f 7 0 49) 0 49 7))), (kk, .inl (G.2.1, 7, .inl ck))]) C hW 0 rfl rfl jnX3 tyX3_ok nmX3 (by decide) k_fl_X3_15 rfl rfl rfl rfl (Nat.le_of_ble_eq_true rfl) rfl dX3_push_56 ?_
    clear hW H locs; intro H locs hW
    subst hQ
    exact g_vret C hW hr ⟨(), trivial, by (simp only [pun, pu, c_77, c_77n, if_true, if_false, reduceIte, nI_1]; try rfl)⟩ dX3_push_59
set_option maxHeartbeats 4000000 in
set_option maxRecDepth 100000 in
theorem c_X3_pop (l : Launch) (G : gT) (h q u : Nat) (f : Nat → Int32) (kk : Nat) (ck : Nat → Int32) (hu : 0 < u ∧ u ≤ 8) : MV l G yX3_pop cX3_pop 2 ({ frames := 1, cells := 0, slots := 0, locals := 40 }) [.ref h, .ref kk] [(h, .inr (1, [.ref q, .int (nI u)])), (q, .inl (G.2.1, 56, .inl f)), (kk, .inl (G.2.1, 7, .inl ck))] (fun w1 => ∃ u_ : Unit, (True) ∧ w1 = [(h, .inr (1, [.ref q, .int (nI (u - 1))])), (q, .inl (G.2.1, 56, .inl f)), (kk, .inl (G.2.1, 7, .inl (va_cpy f ck ((u - 1) * 7) 0 7)))]) := by
  refine MV.mk (by decide) (Nat.le_of_ble_eq_true rfl) ?_
  intro p_ e_ s_ m_ ar_ be_ me_ cd_ A_ ls C hr hW hl
  have hx := C.1; have hb := C.2.1; have hown := C.2.2.2.1; have ht := C.2.2.2.2.1
  replace hl : lv_has ls 2 [(0, .ref h), (1, .ref kk)] := hl
  generalize hQ : MQ be_ _ ar_ s_ 0 0 A_ = Q
  refine lv_aload_n hx hb dX3_pop_0 rfl (lv_at hl 0 rfl) ?_
  refine g_get (k := 1) (v := .int (nI u)) C hW 0 rfl rfl jnX3 (by decide) k_fl_X3_15 rfl dX3_pop_1 ?_
  refine lv_if_le (tgt := 35) hx hb dX3_pop_4 (by decide) (fun c_78 => ?_) (fun c_78 => ?_)
  · replace c_78 := Int32.not_lt.mpr c_78
    have c_78n : ¬ 0 < u := fun q => c_78 ((nI_ltI (a := 0) (b := u) (by omega) (by omega)).mpr q)
    exfalso; omega
  · replace c_78 := Int32.not_le.mp c_78
    have c_78n : 0 < u := (nI_ltI (a := 0) (b := u) (by omega) (by omega)).mp c_78
    refine lv_aload_n hx hb dX3_pop_7 rfl (lv_at hl 0 rfl) ?_
    refine lv_dup hx hb dX3_pop_8 rfl ?_
    refine g_get (k := 1) (v := .int (nI u)) C hW 0 rfl rfl jnX3 (by decide) k_fl_X3_15 rfl dX3_pop_9 ?_
    refine lv_iconst (v := 1) hx hb dX3_pop_12 (by decide) ?_
    refine lv_isub hx hb dX3_pop_13 ?_
    refine lv_as (y := nI (u - 1)) (nI_dec1 hu.1) ?_
    refine g_put (k := 1) (ty := .int) (w' := [(h, .inr (1, [.ref q, .int (nI (u - 1))])), (q, .inl (G.2.1, 56, .inl f)), (kk, .inl (G.2.1, 7, .inl ck))]) C hW 0 rfl rfl jnX3 tyX3_ok nmX3 (by decide) k_fl_X3_15 rfl rfl rfl rfl (Nat.le_of_ble_eq_true rfl) rfl dX3_pop_14 ?_
    clear hW; intro H locs hW
    refine lv_aload_n hx hb dX3_pop_17 rfl (lv_at hl 0 rfl) ?_
    refine g_get (k := 0) (v := .ref q) C hW 0 rfl rfl jnX3 (by decide) k_fl_X3_11 rfl dX3_pop_18 ?_
    refine lv_aload_n hx hb dX3_pop_21 rfl (lv_at hl 0 rfl) ?_
    refine g_get (k := 1) (v := .int (nI (u - 1))) C hW 0 rfl rfl jnX3 (by decide) k_fl_X3_15 rfl dX3_pop_22 ?_
    refine lv_bipush (v := 7) hx hb dX3_pop_25 (by decide) ?_
    refine lv_imul hx hb dX3_pop_27 ?_
    refine lv_aload_n hx hb dX3_pop_28 rfl (lv_at hl 1 rfl) ?_
    refine lv_iconst (v := 0) hx hb dX3_pop_29 (by decide) ?_
    refine lv_bipush (v := 7) hx hb dX3_pop_30 (by decide) ?_
    refine g_cpy (sn := (u - 1) * 7) (dn := 0) (nn := 7) (w' := [(h, .inr (1, [.ref q, .int (nI (u - 1))])), (q, .inl (G.2.1, 56, .inl f)), (kk, .inl (G.2.1, 7, .inl (va_cpy f ck ((u - 1) * 7) 0 7)))]) C hW hl k_ml_X3_19 1 2 rfl rfl (by first | rfl | (simp only [nI_lit, pk_mul]; done) | omega) (by first | rfl | (simp only [nI_lit, pk_mul]; done) | omega) (by first | rfl | (simp only [nI_lit, pk_mul]; done) | omega) (by first | rfl | (simp only [nI_lit, pk_mul]; done) | omega) (by first | rfl | (simp only [nI_lit, pk_mul]; done) | omega) rfl ⟨Nat.le_of_ble_eq_true rfl, Nat.le_of_ble_eq_true rfl⟩ dX3_pop_32 ?_
    clear hW H locs; intro H locs hW
    subst hQ
    exact g_vret C hW hr ⟨(), trivial, by rfl⟩ dX3_pop_35
set_option maxHeartbeats 4000000 in
set_option maxRecDepth 100000 in
theorem c_X3_copyFrom (l : Launch) (G : gT) (h q u : Nat) (f : Nat → Int32) (h2 q2 u2 : Nat) (f2 : Nat → Int32) (hu : u2 ≤ 8) : MV l G yX3_copyFrom cX3_copyFrom 2 ({ frames := 1, cells := 0, slots := 0, locals := 40 }) [.ref h, .ref h2] [(h, .inr (1, [.ref q, .int (nI u)])), (q, .inl (G.2.1, 56, .inl f)), (h2, .inr (1, [.ref q2, .int (nI u2)])), (q2, .inl (G.2.1, 56, .inl f2))] (fun w1 => ∃ u_ : Unit, (True) ∧ w1 = [(h, .inr (1, [.ref q, .int (nI u2)])), (q, .inl (G.2.1, 56, .inl (va_cpy f2 f 0 0 (u2 * 7)))), (h2, .inr (1, [.ref q2, .int (nI u2)])), (q2, .inl (G.2.1, 56, .inl f2))]) := by
  refine MV.mk (by decide) (Nat.le_of_ble_eq_true rfl) ?_
  intro p_ e_ s_ m_ ar_ be_ me_ cd_ A_ ls C hr hW hl
  have hx := C.1; have hb := C.2.1; have hown := C.2.2.2.1; have ht := C.2.2.2.2.1
  replace hl : lv_has ls 2 [(0, .ref h), (1, .ref h2)] := hl
  generalize hQ : MQ be_ _ ar_ s_ 0 0 A_ = Q
  refine lv_aload_n hx hb dX3_copyFrom_0 rfl (lv_at hl 0 rfl) ?_
  refine lv_aload_n hx hb dX3_copyFrom_1 rfl (lv_at hl 1 rfl) ?_
  refine g_get (k := 1) (v := .int (nI u2)) C hW 2 rfl rfl jnX3 (by decide) k_fl_X3_15 rfl dX3_copyFrom_2 ?_
  refine g_put (k := 1) (ty := .int) (w' := [(h, .inr (1, [.ref q, .int (nI u2)])), (q, .inl (G.2.1, 56, .inl f)), (h2, .inr (1, [.ref q2, .int (nI u2)])), (q2, .inl (G.2.1, 56, .inl f2))]) C hW 0 rfl rfl jnX3 tyX3_ok nmX3 (by decide) k_fl_X3_15 rfl rfl rfl rfl (Nat.le_of_ble_eq_true rfl) rfl dX3_copyFrom_5 ?_
  clear hW; intro H locs hW
  refine lv_aload_n hx hb dX3_copyFrom_8 rfl (lv_at hl 1 rfl) ?_
  refine g_get (k := 0) (v := .ref q2) C hW 2 rfl rfl jnX3 (by decide) k_fl_X3_11 rfl dX3_copyFrom_9 ?_
  refine lv_iconst (v := 0) hx hb dX3_copyFrom_12 (by decide) ?_
  refine lv_aload_n hx hb dX3_copyFrom_13 rfl (lv_at hl 0 rfl) ?_
  refine g_get (k := 0) (v := .ref q) C hW 0 rfl rfl jnX3 (by decide) k_fl_X3_11 rfl dX3_copyFrom_14 ?_
  refine lv_iconst (v := 0) hx hb dX3_copyFrom_17 (by decide) ?_
  refine lv_aload_n hx hb dX3_copyFrom_18 rfl (lv_at hl 0 rfl) ?_
  refine g_get (k := 1) (v := .int (nI u2)) C hW 0 rfl rfl jnX3 (by decide) k_fl_X3_15 rfl dX3_copyFrom_19 ?_
  refine lv_bipush (v := 7) hx hb dX3_copyFrom_22 (by decide) ?_
  refine lv_imul hx hb dX3_copyFrom_24 ?_
  refine g_cpy (sn := 0) (dn := 0) (nn := u2 * 7) (w' := [(h, .inr (1, [.ref q, .int (nI u2)])), (q, .inl (G.2.1, 56, .inl (va_cpy f2 f 0 0 (u2 * 7)))), (h2, .inr (1, [.ref q2, .int (nI u2)])), (q2, .inl (G.2.1, 56, .inl f2))]) C hW hl k_ml_X3_19 3 1 rfl rfl (by first | rfl | (simp only [nI_lit, pk_mul]; done) | omega) (by first | rfl | (simp only [nI_lit, pk_mul]; done) | omega) (by first | rfl | (simp only [nI_lit, pk_mul]; done) | omega) (by first | rfl | (simp only [nI_lit, pk_mul]; done) | omega) (by first | rfl | (simp only [nI_lit, pk_mul]; done) | omega) rfl ⟨Nat.le_of_ble_eq_true rfl, Nat.le_of_ble_eq_true rfl⟩ dX3_copyFrom_25 ?_
  clear hW H locs; intro H locs hW
  subst hQ
  exact g_vret C hW hr ⟨(), trivial, by rfl⟩ dX3_copyFrom_28
