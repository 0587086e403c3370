set_option maxHeartbeats 4000000 in
set_option maxRecDepth 100000 in
theorem c_X6_size (l : Launch) (G : gT) (h q M V n : Nat)  : MI l G yX6_size cX6_size 1 .int ({ frames := 0, cells := 0, slots := 0, locals := 0 }) [.ref h] [(h, .inr (4, [.int (nI M), .int (nI V), .ref q, .int (nI n)]))] (fun (r : Int32) w1 => (r = nI n) ∧ w1 = [(h, .inr (4, [.int (nI M), .int (nI V), .ref q, .int (nI n)]))]) := by
  refine MI.mk (by decide) (Nat.le_of_ble_eq_true rfl) ?_
  intro p_ e_ s_ m_ ar_ be_ me_ cd_ A_ ls C hr hW hl
  have hx := C.1; have hb := C.2.1; have hown := C.2.2.2.1; have ht := C.2.2.2.2.1
  replace hl : lv_has ls 1 [(0, .ref h)] := hl
  generalize hQ : MQ be_ _ ar_ s_ 0 0 A_ = Q
  refine lv_aload_n hx hb dX6_size_0 rfl (lv_at hl 0 rfl) ?_
  refine g_get (k := 3) (v := .int (nI n)) C hW 0 rfl rfl jnX6 (by decide) k_fl_X6_7 rfl dX6_size_1 ?_
  subst hQ
  exact g_iret (v := (nI n)) C hW hr ⟨by first | rfl | (simp only [if_true, if_false, reduceIte]; done) | (simp []; done) | (simp_all []; done) | (simp only []; (repeat' split) <;> first | rfl | (simp_all; done)), rfl⟩ dX6_size_4
set_option maxHeartbeats 4000000 in
set_option maxRecDepth 100000 in
theorem c_X6_isFull (l : Launch) (G : gT) (h q M V n : Nat) (hM : M < 1000) (hn : n < 1000) : MI l G yX6_isFull cX6_isFull 1 .boolean ({ frames := 0, cells := 0, slots := 0, locals := 0 }) [.ref h] [(h, .inr (4, [.int (nI M), .int (nI V), .ref q, .int (nI n)]))] (fun (r : Int32) w1 => (r = bI (decide (M ≤ n))) ∧ w1 = [(h, .inr (4, [.int (nI M), .int (nI V), .ref q, .int (nI n)]))]) := by
  refine MI.mk (by decide) (Nat.le_of_ble_eq_true rfl) ?_
  intro p_ e_ s_ m_ ar_ be_ me_ cd_ A_ ls C hr hW hl
  have hx := C.1; have hb := C.2.1; have hown := C.2.2.2.1; have ht := C.2.2.2.2.1
  replace hl : lv_has ls 1 [(0, .ref h)] := hl
  generalize hQ : MQ be_ _ ar_ s_ 0 0 A_ = Q
  refine lv_aload_n hx hb dX6_isFull_0 rfl (lv_at hl 0 rfl) ?_
  refine g_get (k := 3) (v := .int (nI n)) C hW 0 rfl rfl jnX6 (by decide) k_fl_X6_7 rfl dX6_isFull_1 ?_
  refine lv_aload_n hx hb dX6_isFull_4 rfl (lv_at hl 0 rfl) ?_
  refine g_get (k := 0) (v := .int (nI M)) C hW 0 rfl rfl jnX6 (by decide) k_fl_X6_19 rfl dX6_isFull_5 ?_
  have J_45 : ∀ (y_44 : Int32) (_ : y_44 = (if (nI M) ≤ (nI n) then 1 else 0)), ∀ (H : Heap) (locs : List Loc) (ls : Array Slot), Wd G A_ s_.heap [(h, .inr (4, [.int (nI M), .int (nI V), .ref q, .int (nI n)]))] H locs → lv_has ls 1 [(0, .ref h)] → W p_ l e_ ({ frames := 0, cells := 0, slots := 0, locals := 0 }) s_ m_ ar_ be_ me_ cd_ H locs 0 0 Q (F0 m_ 16 ls [.int y_44]) := by
    intro y_44 ey_44 H locs ls hW hl
    subst hQ
    exact g_zret (v := y_44) C hW hr (by first | rfl | exact bI_nar _ | (simp only [ey_44]; (repeat' split) <;> rfl)) ⟨by (simp (disch := omega) only [ey_44, nI_leI]; exact bI_if), rfl⟩ dX6_isFull_16
  refine lv_icmp_lt (tgt := 15) hx hb dX6_isFull_8 (by decide) (fun c_43 => ?_) (fun c_43 => ?_)
  · replace c_43 := Int32.not_le.mpr c_43
    have c_43n : ¬ M ≤ n := fun q => c_43 ((nI_leI (a := M) (b := n) (by omega) (by omega)).mpr q)
    refine lv_iconst (v := 0) hx hb dX6_isFull_15 (by decide) ?_
    exact J_45 0 (by first | rfl | (simp only [c_43, if_true, if_false, reduceIte]; done) | (simp [c_43]; done)) _ _ _ hW (lv_sub hl [0] rfl)
  · replace c_43 := Int32.not_lt.mp c_43
    have c_43n : M ≤ n := (nI_leI (a := M) (b := n) (by omega) (by omega)).mp c_43
    refine lv_iconst (v := 1) hx hb dX6_isFull_11 (by decide) ?_
    refine lv_goto (tgt := 16) hx hb dX6_isFull_12 (by decide) ?_
    exact J_45 1 (by first | rfl | (simp only [c_43, if_true, if_false, reduceIte]; done) | (simp [c_43]; done)) _ _ _ hW (lv_sub hl [0] rfl)
set_option maxHeartbeats 4000000 in
set_option maxRecDepth 100000 in
theorem c_X6_has (l : Launch) (G : gT) (h q M V n : Nat) (p : Int32)  : MI l G yX6_has cX6_has 2 .boolean ({ frames := 0, cells := 0, slots := 0, locals := 0 }) [.ref h, .int p] [(h, .inr (4, [.int (nI M), .int (nI V), .ref q, .int (nI n)]))] (fun (r : Int32) w1 => (r = bI (okp n p)) ∧ w1 = [(h, .inr (4, [.int (nI M), .int (nI V), .ref q, .int (nI n)]))]) := by
  refine MI.mk (by decide) (Nat.le_of_ble_eq_true rfl) ?_
  intro p_ e_ s_ m_ ar_ be_ me_ cd_ A_ ls C hr hW hl
  have hx := C.1; have hb := C.2.1; have hown := C.2.2.2.1; have ht := C.2.2.2.2.1
  replace hl : lv_has ls 2 [(0, .ref h), (1, .int p)] := hl
  generalize hQ : MQ be_ _ ar_ s_ 0 0 A_ = Q
  refine lv_iload_n hx hb dX6_has_0 rfl (lv_at hl 1 rfl) ?_
  have J_48 : ∀ (y_47 : Int32) (_ : y_47 = (if 0 ≤ p then if p < (nI n) then 1 else 0 else 0)), ∀ (H : Heap) (locs : List Loc) (ls : Array Slot), Wd G A_ s_.heap [(h, .inr (4, [.int (nI M), .int (nI V), .ref q, .int (nI n)]))] H locs → lv_has ls 2 [(0, .ref h), (1, .int p)] → W p_ l e_ ({ frames := 0, cells := 0, slots := 0, locals := 0 }) s_ m_ ar_ be_ me_ cd_ H locs 0 0 Q (F0 m_ 17 ls [.int y_47]) := by
    intro y_47 ey_47 H locs ls hW hl
    subst hQ
    exact g_zret (v := y_47) C hW hr (by first | rfl | exact bI_nar _ | (simp only [ey_47]; (repeat' split) <;> rfl)) ⟨by (simp only [ey_47]; exact bI_and), rfl⟩ dX6_has_17
  refine lv_if_lt (tgt := 16) hx hb dX6_has_1 (by decide) (fun c_46 => ?_) (fun c_46 => ?_)
  · replace c_46 := Int32.not_le.mpr c_46
    refine lv_iconst (v := 0) hx hb dX6_has_16 (by decide) ?_
    exact J_48 0 (by first | rfl | (simp only [c_46, if_true, if_false, reduceIte]; done) | (simp [c_46]; done)) _ _ _ hW (lv_sub hl [0, 1] rfl)
  · replace c_46 := Int32.not_lt.mp c_46
    refine lv_iload_n hx hb dX6_has_4 rfl (lv_at hl 1 rfl) ?_
    refine lv_aload_n hx hb dX6_has_5 rfl (lv_at hl 0 rfl) ?_
    refine g_get (k := 3) (v := .int (nI n)) C hW 0 rfl rfl jnX6 (by decide) k_fl_X6_7 rfl dX6_has_6 ?_
    refine lv_icmp_ge (tgt := 16) hx hb dX6_has_9 (by decide) (fun c_49 => ?_) (fun c_49 => ?_)
    · replace c_49 := Int32.not_lt.mpr c_49
      refine lv_iconst (v := 0) hx hb dX6_has_16 (by decide) ?_
      exact J_48 0 (by first | rfl | (simp only [c_46, c_49, if_true, if_false, reduceIte]; done) | (simp [c_46, c_49]; done)) _ _ _ hW (lv_sub hl [0, 1] rfl)
    · replace c_49 := Int32.not_le.mp c_49
      refine lv_iconst (v := 1) hx hb dX6_has_12 (by decide) ?_
      refine lv_goto (tgt := 17) hx hb dX6_has_13 (by decide) ?_
      exact J_48 1 (by first | rfl | (simp only [c_46, c_49, if_true, if_false, reduceIte]; done) | (simp [c_46, c_49]; done)) _ _ _ hW (lv_sub hl [0, 1] rfl)
set_option maxHeartbeats 4000000 in
set_option maxRecDepth 100000 in
theorem c_X6_cell (l : Launch) (G : gT) (h q M V n : Nat) (f : Nat → Int32) (k j : Nat) (hk : k < n) (hn : n ≤ M) (hj : j < V) (hB : M * V < 1000 ∧ M < 1000 ∧ V < 1000) : MI l G yX6_cell cX6_cell 3 .int ({ frames := 0, cells := 0, slots := 0, locals := 0 }) [.ref h, .int (nI k), .int (nI j)] [(h, .inr (4, [.int (nI M), .int (nI V), .ref q, .int (nI n)])), (q, .inl (G.2.1, (M * V), .inl f))] (fun (r : Int32) w1 => (r = f (k * V + j)) ∧ w1 = [(h, .inr (4, [.int (nI M), .int (nI V), .ref q, .int (nI n)])), (q, .inl (G.2.1, (M * V), .inl f))]) := by
  refine MI.mk (by decide) (Nat.le_of_ble_eq_true rfl) ?_
  intro p_ e_ s_ m_ ar_ be_ me_ cd_ A_ ls C hr hW hl
  have hx := C.1; have hb := C.2.1; have hown := C.2.2.2.1; have ht := C.2.2.2.2.1
  replace hl : lv_has ls 3 [(0, .ref h), (1, .int (nI k)), (2, .int (nI j))] := hl
  generalize hQ : MQ be_ _ ar_ s_ 0 0 A_ = Q
  refine lv_iload_n hx hb dX6_cell_0 rfl (lv_at hl 1 rfl) ?_
  refine lv_if_lt (tgt := 24) hx hb dX6_cell_1 (by decide) (fun c_50 => ?_) (fun c_50 => ?_)
  · replace c_50 := Int32.not_le.mpr c_50
    have c_50n : ¬ 0 ≤ k := fun q => c_50 ((nI_leI (a := 0) (b := k) (by omega) (by omega)).mpr q)
    exfalso; omega
  · replace c_50 := Int32.not_lt.mp c_50
    have c_50n : 0 ≤ k := (nI_leI (a := 0) (b := k) (by omega) (by omega)).mp c_50
    refine lv_iload_n hx hb dX6_cell_4 rfl (lv_at hl 1 rfl) ?_
    refine lv_aload_n hx hb dX6_cell_5 rfl (lv_at hl 0 rfl) ?_
    refine g_get (k := 3) (v := .int (nI n)) C hW 0 rfl rfl jnX6 (by decide) k_fl_X6_7 rfl dX6_cell_6 ?_
    refine lv_icmp_ge (tgt := 24) hx hb dX6_cell_9 (by decide) (fun c_51 => ?_) (fun c_51 => ?_)
    · replace c_51 := Int32.not_lt.mpr c_51
      have c_51n : ¬ k < n := fun q => c_51 ((nI_ltI (a := k) (b := n) (by omega) (by omega)).mpr q)
      exfalso; omega
    · replace c_51 := Int32.not_le.mp c_51
      have c_51n : k < n := (nI_ltI (a := k) (b := n) (by omega) (by omega)).mp c_51
      refine lv_iload_n hx hb dX6_cell_12 rfl (lv_at hl 2 rfl) ?_
      refine lv_if_lt (tgt := 24) hx hb dX6_cell_13 (by decide) (fun c_52 => ?_) (fun c_52 => ?_)
      · replace c_52 := Int32.not_le.mpr c_52
        have c_52n : ¬ 0 ≤ j := fun q => c_52 ((nI_leI (a := 0) (b := j) (by omega) (by omega)).mpr q)
        exfalso; omega
      · replace c_52 := Int32.not_lt.mp c_52
        have c_52n : 0 ≤ j := (nI_leI (a := 0) (b := j) (by omega) (by omega)).mp c_52
        refine lv_iload_n hx hb dX6_cell_16 rfl (lv_at hl 2 rfl) ?_
        refine lv_aload_n hx hb dX6_cell_17 rfl (lv_at hl 0 rfl) ?_
        refine g_get (k := 1) (v := .int (nI V)) C hW 0 rfl rfl jnX6 (by decide) k_fl_X6_22 rfl dX6_cell_18 ?_
        refine lv_icmp_lt (tgt := 26) hx hb dX6_cell_21 (by decide) (fun c_53 => ?_) (fun c_53 => ?_)
        · replace c_53 := Int32.not_le.mpr c_53
          have c_53n : ¬ V ≤ j := fun q => c_53 ((nI_leI (a := V) (b := j) (by omega) (by omega)).mpr q)
          refine lv_aload_n hx hb dX6_cell_26 rfl (lv_at hl 0 rfl) ?_
          refine g_get (k := 2) (v := .ref q) C hW 0 rfl rfl jnX6 (by decide) k_fl_X6_25 rfl dX6_cell_27 ?_
          refine lv_iload_n hx hb dX6_cell_30 rfl (lv_at hl 1 rfl) ?_
          refine lv_aload_n hx hb dX6_cell_31 rfl (lv_at hl 0 rfl) ?_
          refine g_get (k := 1) (v := .int (nI V)) C hW 0 rfl rfl jnX6 (by decide) k_fl_X6_22 rfl dX6_cell_32 ?_
          refine lv_imul hx hb dX6_cell_35 ?_
          refine lv_iload_n hx hb dX6_cell_36 rfl (lv_at hl 2 rfl) ?_
          refine lv_iadd hx hb dX6_cell_37 ?_
          refine g_ald C hW 1 rfl (ix_in (show (((nI k) * (nI V)) + (nI j)) = nI (k * V + j) from (by first | rfl | (simp only [nI_lit, nI_add, pk_mul]; done) | (simp only [nI_lit, nI_add, pk_mul]; congr 1; omega))) (by exact row_lt hk hn hj) (by omega)) dX6_cell_38 ?_
          refine lv_as (y := f (k * V + j)) (by rw [show (((nI k) * (nI V)) + (nI j)).toNatClampNeg = (k * V + j) from ix_cl (show (((nI k) * (nI V)) + (nI j)) = nI (k * V + j) from (by first | rfl | (simp only [nI_lit, nI_add, pk_mul]; done) | (simp only [nI_lit, nI_add, pk_mul]; congr 1; omega))) (Nat.lt_of_lt_of_le (m := (M * V)) (by exact row_lt hk hn hj) (by omega))]) ?_
          subst hQ
          exact g_iret (v := (f (k * V + j))) C hW hr ⟨by first | rfl | (simp only [c_50, c_51, c_52, c_53, if_true, if_false, reduceIte]; done) | (simp [c_50, c_51, c_52, c_53]; done) | (simp_all []; done) | (simp only [c_50, c_51, c_52, c_53]; (repeat' split) <;> first | rfl | (simp_all; done)), rfl⟩ dX6_cell_39
        · replace c_53 := Int32.not_lt.mp c_53
          have c_53n : V ≤ j := (nI_leI (a := V) (b := j) (by omega) (by omega)).mp c_53
          exfalso; omega
set_option maxHeartbeats 4000000 in
set_option maxRecDepth 100000 in
theorem c_X6_put (l : Launch) (G : gT) (h q M V n : Nat) (f : Nat → Int32) (j : Nat) (v : Int32) (hn0 : 0 < n) (hn : n ≤ M) (hB : M * V < 1000 ∧ M < 1000 ∧ V < 1000 ∧ j < 1000) : MV l G yX6_put cX6_put 3 ({ frames := 0, cells := 0, slots := 0, locals := 0 }) [.ref h, .int (nI j), .int v] [(h, .inr (4, [.int (nI M), .int (nI V), .ref q, .int (nI n)])), (q, .inl (G.2.1, (M * V), .inl f))] (fun w1 => ∃ u : Unit, (True) ∧ w1 = [(h, .inr (4, [.int (nI M), .int (nI V), .ref q, .int (nI n)])), (q, .inl (G.2.1, (M * V), .inl (if j < V then upd f ((n - 1) * V + j) v else f)))]) := by
  refine MV.mk (by decide) (Nat.le_of_ble_eq_true rfl) ?_
  intro p_ e_ s_ m_ ar_ be_ me_ cd_ A_ ls C hr hW hl
  have hx := C.1; have hb := C.2.1; have hown := C.2.2.2.1; have ht := C.2.2.2.2.1
  replace hl : lv_has ls 3 [(0, .ref h), (1, .int (nI j)), (2, .int v)] := hl
  generalize hQ : MQ be_ _ ar_ s_ 0 0 A_ = Q
  refine lv_aload_n hx hb dX6_put_0 rfl (lv_at hl 0 rfl) ?_
  refine g_get (k := 3) (v := .int (nI n)) C hW 0 rfl rfl jnX6 (by decide) k_fl_X6_7 rfl dX6_put_1 ?_
  refine lv_if_le (tgt := 34) hx hb dX6_put_4 (by decide) (fun c_54 => ?_) (fun c_54 => ?_)
  · replace c_54 := Int32.not_lt.mpr c_54
    have c_54n : ¬ 0 < n := fun q => c_54 ((nI_ltI (a := 0) (b := n) (by omega) (by omega)).mpr q)
    exfalso; omega
  · replace c_54 := Int32.not_le.mp c_54
    have c_54n : 0 < n := (nI_ltI (a := 0) (b := n) (by omega) (by omega)).mp c_54
    refine lv_iload_n hx hb dX6_put_7 rfl (lv_at hl 1 rfl) ?_
    refine lv_aload_n hx hb dX6_put_8 rfl (lv_at hl 0 rfl) ?_
    refine g_get (k := 1) (v := .int (nI V)) C hW 0 rfl rfl jnX6 (by decide) k_fl_X6_22 rfl dX6_put_9 ?_
    have J_57 : ∀ (g_56 : Nat → Int32) (_ : g_56 = (if (nI j) < (nI V) then upd f ((n - 1) * V + j) v else f)), ∀ (H : Heap) (locs : List Loc) (ls : Array Slot), Wd G A_ s_.heap [(h, .inr (4, [.int (nI M), .int (nI V), .ref q, .int (nI n)])), (q, .inl (G.2.1, (M * V), .inl g_56))] H locs → lv_has ls 3 [(0, .ref h), (1, .int (nI j)), (2, .int v)] → W p_ l e_ ({ frames := 0, cells := 0, slots := 0, locals := 0 }) s_ m_ ar_ be_ me_ cd_ H locs 0 0 Q (F0 m_ 34 ls []) := by
      intro g_56 eg_56 H locs ls hW hl
      subst hQ
      exact g_vret C hW hr ⟨(), trivial, by simp (disch := omega) only [c_54, eg_56, nI_ltI]⟩ dX6_put_34
    refine lv_icmp_ge (tgt := 34) hx hb dX6_put_12 (by decide) (fun c_55 => ?_) (fun c_55 => ?_)
    · replace c_55 := Int32.not_lt.mpr c_55
      have c_55n : ¬ j < V := fun q => c_55 ((nI_ltI (a := j) (b := V) (by omega) (by omega)).mpr q)
      exact J_57 f (by first | rfl | (simp only [c_55, if_true, if_false, reduceIte]; done) | (simp [c_55]; done)) _ _ _ hW (lv_sub hl [0, 1, 2] rfl)
    · replace c_55 := Int32.not_le.mp c_55
      have c_55n : j < V := (nI_ltI (a := j) (b := V) (by omega) (by omega)).mp c_55
      refine lv_aload_n hx hb dX6_put_15 rfl (lv_at hl 0 rfl) ?_
      refine g_get (k := 2) (v := .ref q) C hW 0 rfl rfl jnX6 (by decide) k_fl_X6_25 rfl dX6_put_16 ?_
      refine lv_aload_n hx hb dX6_put_19 rfl (lv_at hl 0 rfl) ?_
      refine g_get (k := 3) (v := .int (nI n)) C hW 0 rfl rfl jnX6 (by decide) k_fl_X6_7 rfl dX6_put_20 ?_
      refine lv_iconst (v := 1) hx hb dX6_put_23 (by decide) ?_
      refine lv_isub hx hb dX6_put_24 ?_
      refine lv_aload_n hx hb dX6_put_25 rfl (lv_at hl 0 rfl) ?_
      refine g_get (k := 1) (v := .int (nI V)) C hW 0 rfl rfl jnX6 (by decide) k_fl_X6_22 rfl dX6_put_26 ?_
      refine lv_imul hx hb dX6_put_29 ?_
      refine lv_iload_n hx hb dX6_put_30 rfl (lv_at hl 1 rfl) ?_
      refine lv_iadd hx hb dX6_put_31 ?_
      refine lv_iload_n hx hb dX6_put_32 rfl (lv_at hl 2 rfl) ?_
      refine g_ast (w' := [(h, .inr (4, [.int (nI M), .int (nI V), .ref q, .int (nI n)])), (q, .inl (G.2.1, (M * V), .inl (upd f ((n - 1) * V + j) v)))]) C hW 1 rfl (ix_in (show ((((nI n) - 1) * (nI V)) + (nI j)) = nI ((n - 1) * V + j) from (by rw [nI_dec1 hn0, pk_mul, nI_add])) (by exact row_lt (Nat.sub_lt hn0 (by decide)) hn (by omega)) (by omega)) (by rw [show ((((nI n) - 1) * (nI V)) + (nI j)).toNatClampNeg = ((n - 1) * V + j) from ix_cl (show ((((nI n) - 1) * (nI V)) + (nI j)) = nI ((n - 1) * V + j) from (by rw [nI_dec1 hn0, pk_mul, nI_add])) (Nat.lt_of_lt_of_le (m := (M * V)) (by exact row_lt (Nat.sub_lt hn0 (by decide)) hn (by omega)) (by omega))]; rfl) dX6_put_33 ?_
      clear hW; intro H locs hW
      exact J_57 (upd f ((n - 1) * V + j) v) (by first | rfl | (simp only [c_55, if_true, if_false, reduceIte]; done) | (simp [c_55]; done)) _ _ _ hW (lv_sub hl [0, 1, 2] rfl)
set_option maxHeartbeats 4000000 in
set_option maxRecDepth 100000 in
theorem c_X6_add (l : Launch) (G : gT) (h q M V n : Nat) (f : Nat → Int32) (a b c_ d : Int32) (hn : n < M) (hB : M * V < 1000 ∧ M < 1000 ∧ V < 1000) : MI l G yX6_add cX6_add 5 .int ({ frames := 1, cells := 0, slots := 0, locals := 22 }) [.ref h, .int a, .int b, .int c_, .int d] [(h, .inr (4, [.int (nI M), .int (nI V), .ref q, .int (nI n)])), (q, .inl (G.2.1, (M * V), .inl f))] (fun (r : Int32) w1 => ∃ u : Unit, (r = nI (n + 1)) ∧ w1 = [(h, .inr (4, [.int (nI M), .int (nI V), .ref q, .int (nI (n + 1))])), (q, .inl (G.2.1, (M * V), .inl (if 3 < V then upd (if 2 < V then upd (if 1 < V then upd (if 0 < V then upd f (n * V + 0) a else f) (n * V + 1) b else (if 0 < V then upd f (n * V + 0) a else f)) (n * V + 2) c_ else (if 1 < V then upd (if 0 < V then upd f (n * V + 0) a else f) (n * V + 1) b else (if 0 < V then upd f (n * V + 0) a else f))) (n * V + 3) d else (if 2 < V then upd (if 1 < V then upd (if 0 < V then upd f (n * V + 0) a else f) (n * V + 1) b else (if 0 < V then upd f (n * V + 0) a else f)) (n * V + 2) c_ else (if 1 < V then upd (if 0 < V then upd f (n * V + 0) a else f) (n * V + 1) b else (if 0 < V then upd f (n * V + 0) a else f))))))]) := by
  refine MI.mk (by decide) (Nat.le_of_ble_eq_true rfl) ?_
  intro p_ e_ s_ m_ ar_ be_ me_ cd_ A_ ls C hr hW hl
  have hx := C.1; have hb := C.2.1; have hown := C.2.2.2.1; have ht := C.2.2.2.2.1
  replace hl : lv_has ls 5 [(0, .ref h), (1, .int a), (2, .int b), (3, .int c_), (4, .int d)] := hl
  generalize hQ : MQ be_ _ ar_ s_ 0 0 A_ = Q
  refine lv_aload_n hx hb dX6_add_0 rfl (lv_at hl 0 rfl) ?_
  refine g_fi C hW [0] rfl (g_runV (As := []) (rest := []) (wc := [(h, .inr (4, [.int (nI M), .int (nI V), .ref q, .int (nI n)]))]) (q0 := 0) (ci := 4) C hW hl (c_X6_isFull l G h q M V n (by omega) (by omega) _) k_ml_X6_29 q_X6_isFull (by decide) [0] rfl rfl rfl rfl rfl rfl (Nat.le_of_ble_eq_true rfl) dX6_add_1 (by decide)) (fun r_58 er_58 => ?_)
  clear hW; intro H locs hW
  subst er_58
  refine lv_if_ne (tgt := 42) hx hb dX6_add_4 (by decide) (fun c_59 => ?_) (fun c_59 => ?_)
  · exfalso; exact c_59 (by rw [bI_0]; exact decide_eq_false (by omega))
  · refine lv_aload_n hx hb dX6_add_7 rfl (lv_at hl 0 rfl) ?_
    refine lv_dup hx hb dX6_add_8 rfl ?_
    refine g_get (k := 3) (v := .int (nI n)) C hW 0 rfl rfl jnX6 (by decide) k_fl_X6_7 rfl dX6_add_9 ?_
    refine lv_iconst (v := 1) hx hb dX6_add_12 (by decide) ?_
    refine lv_iadd hx hb dX6_add_13 ?_
    refine lv_as (y := nI (n + 1)) (nI_1 n) ?_
    refine g_put (k := 3) (ty := .int) (w' := [(h, .inr (4, [.int (nI M), .int (nI V), .ref q, .int (nI (n + 1))])), (q, .inl (G.2.1, (M * V), .inl f))]) C hW 0 rfl rfl jnX6 tyX6_ok nmX6 (by decide) k_fl_X6_7 rfl rfl rfl rfl (Nat.le_of_ble_eq_true rfl) rfl dX6_add_14 ?_
    clear hW H locs; intro H locs hW
    refine lv_aload_n hx hb dX6_add_17 rfl (lv_at hl 0 rfl) ?_
    refine lv_iconst (v := 0) hx hb dX6_add_18 (by decide) ?_
    refine lv_iload_n hx hb dX6_add_19 rfl (lv_at hl 1 rfl) ?_
    refine g_fvw (wr := []) (ww := fun (u : Unit) => [(h, .inr (4, [.int (nI M), .int (nI V), .ref q, .int (nI (n + 1))])), (q, .inl (G.2.1, (M * V), .inl (if 0 < V then upd f (((n + 1) - 1) * V + 0) a else f)))]) (w2 := fun (u : Unit) => [(h, .inr (4, [.int (nI M), .int (nI V), .ref q, .int (nI (n + 1))])), (q, .inl (G.2.1, (M * V), .inl (if 0 < V then upd f (((n + 1) - 1) * V + 0) a else f)))]) C hW [0, 1] [] [0, 1] rfl rfl (by decide) (by decide) (by decide) (fun _ => rfl) (g_runV (As := [.int 0, .int a]) (rest := []) (wc := [(h, .inr (4, [.int (nI M), .int (nI V), .ref q, .int (nI (n + 1))])), (q, .inl (G.2.1, (M * V), .inl f))]) (q0 := 0) (ci := 4) C hW hl (c_X6_put l G h q M V (n + 1) f 0 a (by omega) (by omega) (by omega) _) k_ml_X6_33 q_X6_put (by decide) [0, 1] rfl rfl rfl rfl rfl rfl (Nat.le_of_ble_eq_true rfl) dX6_add_20 (by decide)) (fun _ er_60 => ?_)
    clear hW H locs; intro H locs hW
    replace hW : Wd G A_ s_.heap [(h, .inr (4, [.int (nI M), .int (nI V), .ref q, .int (nI (n + 1))])), (q, .inl (G.2.1, (M * V), .inl (if 0 < V then upd f (((n + 1) - 1) * V + 0) a else f)))] H locs := hW
    refine lv_aload_n hx hb dX6_add_23 rfl (lv_at hl 0 rfl) ?_
    refine lv_iconst (v := 1) hx hb dX6_add_24 (by decide) ?_
    refine lv_iload_n hx hb dX6_add_25 rfl (lv_at hl 2 rfl) ?_
    refine g_fvw (wr := []) (ww := fun (u : Unit) => [(h, .inr (4, [.int (nI M), .int (nI V), .ref q, .int (nI (n + 1))])), (q, .inl (G.2.1, (M * V), .inl (if 1 < V then upd (if 0 < V then upd f (((n + 1) - 1) * V + 0) a else f) (((n + 1) - 1) * V + 1) b else (if 0 < V then upd f (((n + 1) - 1) * V + 0) a else f))))]) (w2 := fun (u : Unit) => [(h, .inr (4, [.int (nI M), .int (nI V), .ref q, .int (nI (n + 1))])), (q, .inl (G.2.1, (M * V), .inl (if 1 < V then upd (if 0 < V then upd f (((n + 1) - 1) * V + 0) a else f) (((n + 1) - 1) * V + 1) b else (if 0 < V then upd f (((n + 1) - 1) * V + 0) a else f))))]) C hW [0, 1] [] [0, 1] rfl rfl (by decide) (by decide) (by decide) (fun _ => rfl) (g_runV (As := [.int 1, .int b]) (rest := []) (wc := [(h, .inr (4, [.int (nI M), .int (nI V), .ref q, .int (nI (n + 1))])), (q, .inl (G.2.1, (M * V), .inl (if 0 < V then upd f (((n + 1) - 1) * V + 0) a else f)))]) (q0 := 0) (ci := 4) C hW hl (c_X6_put l G h q M V (n + 1) (if 0 < V then upd f (((n + 1) - 1) * V + 0) a else f) 1 b (by omega) (by omega) (by omega) _) k_ml_X6_33 q_X6_put (by decide) [0, 1] rfl rfl rfl rfl rfl rfl (Nat.le_of_ble_eq_true rfl) dX6_add_26 (by decide)) (fun _ er_62 => ?_)
    clear hW H locs; intro H locs hW
    replace hW : Wd G A_ s_.heap [(h, .inr (4, [.int (nI M), .int (nI V), .ref q, .int (nI (n + 1))])), (q, .inl (G.2.1, (M * V), .inl (if 1 < V then upd (if 0 < V then upd f (((n + 1) - 1) * V + 0) a else f) (((n + 1) - 1) * V + 1) b else (if 0 < V then upd f (((n + 1) - 1) * V + 0) a else f))))] H locs := hW
    refine lv_aload_n hx hb dX6_add_29 rfl (lv_at hl 0 rfl) ?_
    refine lv_iconst (v := 2) hx hb dX6_add_30 (by decide) ?_
    refine lv_iload_n hx hb dX6_add_31 rfl (lv_at hl 3 rfl) ?_
    refine g_fvw (wr := []) (ww := fun (u : Unit) => [(h, .inr (4, [.int (nI M), .int (nI V), .ref q, .int (nI (n + 1))])), (q, .inl (G.2.1, (M * V), .inl (if 2 < V then upd (if 1 < V then upd (if 0 < V then upd f (((n + 1) - 1) * V + 0) a else f) (((n + 1) - 1) * V + 1) b else (if 0 < V then upd f (((n + 1) - 1) * V + 0) a else f)) (((n + 1) - 1) * V + 2) c_ else (if 1 < V then upd (if 0 < V then upd f (((n + 1) - 1) * V + 0) a else f) (((n + 1) - 1) * V + 1) b else (if 0 < V then upd f (((n + 1) - 1) * V + 0) a else f)))))]) (w2 := fun (u : Unit) => [(h, .inr (4, [.int (nI M), .int (nI V), .ref q, .int (nI (n + 1))])), (q, .inl (G.2.1, (M * V), .inl (if 2 < V then upd (if 1 < V then upd (if 0 < V then upd f (((n + 1) - 1) * V + 0) a else f) (((n + 1) - 1) * V + 1) b else (if 0 < V then upd f (((n + 1) - 1) * V + 0) a else f)) (((n + 1) - 1) * V + 2) c_ else (if 1 < V then upd (if 0 < V then upd f (((n + 1) - 1) * V + 0) a else f) (((n + 1) - 1) * V + 1) b else (if 0 < V then upd f (((n + 1) - 1) * V + 0) a else f)))))]) C hW [0, 1] [] [0, 1] rfl rfl (by decide) (by decide) (by decide) (fun _ => rfl) (g_runV (As := [.int 2, .int c_]) (rest := []) (wc := [(h, .inr (4, [.int (nI M), .int (nI V), .ref q, .int (nI (n + 1))])), (q, .inl (G.2.1, (M * V), .inl (if 1 < V then upd (if 0 < V then upd f (((n + 1) - 1) * V + 0) a else f) (((n + 1) - 1) * V + 1) b else (if 0 < V then upd f (((n + 1) - 1) * V + 0) a else f))))]) (q0 := 0) (ci := 4) C hW hl (c_X6_put l G h q M V (n + 1) (if 1 < V then upd (if 0 < V then upd f (((n + 1) - 1) * V + 0) a else f) (((n + 1) - 1) * V + 1) b else (if 0 < V then upd f (((n + 1) - 1) * V + 0) a else f)) 2 c_ (by omega) (by omega) (by omega) _) k_ml_X6_33 q_X6_put (by decide) [0, 1] rfl rfl rfl rfl rfl rfl (Nat.le_of_ble_eq_true rfl) dX6_add_32 (by decide)) (fun _ er_64 => ?_)
    clear hW H locs; intro H locs hW
    replace hW : Wd G A_ s_.heap [(h, .inr (4, [.int (nI M), .int (nI V), .ref q, .int (nI (n + 1))])), (q, .inl (G.2.1, (M * V), .inl (if 2 < V then upd (if 1 < V then upd (if 0 < V then upd f (((n + 1) - 1) * V + 0) a else f) (((n + 1) - 1) * V + 1) b else (if 0 < V then upd f (((n + 1) - 1) * V + 0) a else f)) (((n + 1) - 1) * V + 2) c_ else (if 1 < V then upd (if 0 < V then upd f (((n + 1) - 1) * V + 0) a else f) (((n + 1) - 1) * V + 1) b else (if 0 < V then upd f (((n + 1) - 1) * V + 0) a else f)))))] H locs := hW
    refine lv_aload_n hx hb dX6_add_35 rfl (lv_at hl 0 rfl) ?_
    refine lv_iconst (v := 3) hx hb dX6_add_36 (by decide) ?_
    refine lv_iload hx hb dX6_add_37 (lv_at hl 4 rfl) ?_
    refine g_fvw (wr := []) (ww := fun (u : Unit) => [(h, .inr (4, [.int (nI M), .int (nI V), .ref q, .int (nI (n + 1))])), (q, .inl (G.2.1, (M * V), .inl (if 3 < V then upd (if 2 < V then upd (if 1 < V then upd (if 0 < V then upd f (((n + 1) - 1) * V + 0) a else f) (((n + 1) - 1) * V + 1) b else (if 0 < V then upd f (((n + 1) - 1) * V + 0) a else f)) (((n + 1) - 1) * V + 2) c_ else (if 1 < V then upd (if 0 < V then upd f (((n + 1) - 1) * V + 0) a else f) (((n + 1) - 1) * V + 1) b else (if 0 < V then upd f (((n + 1) - 1) * V + 0) a else f))) (((n + 1) - 1) * V + 3) d else (if 2 < V then upd (if 1 < V then upd (if 0 < V then upd f (((n + 1) - 1) * V + 0) a else f) (((n + 1) - 1) * V + 1) b else (if 0 < V then upd f (((n + 1) - 1) * V + 0) a else f)) (((n + 1) - 1) * V + 2) c_ else (if 1 < V then upd (if 0 < V then upd f (((n + 1) - 1) * V + 0) a else f) (((n + 1) - 1) * V + 1) b else (if 0 < V then upd f (((n + 1) - 1) * V + 0) a else f))))))]) (w2 := fun (u : Unit) => [(h, .inr (4, [.int (nI M), .int (nI V), .ref q, .int (nI (n + 1))])), (q, .inl (G.2.1, (M * V), .inl (if 3 < V then upd (if 2 < V then upd (if 1 < V then upd (if 0 < V then upd f (((n + 1) - 1) * V + 0) a else f) (((n + 1) - 1) * V + 1) b else (if 0 < V then upd f (((n + 1) - 1) * V + 0) a else f)) (((n + 1) - 1) * V + 2) c_ else (if 1 < V then upd (if 0 < V then upd f (((n + 1) - 1) * V + 0) a else f) (((n + 1) - 1) * V + 1) b else (if 0 < V then upd f (((n + 1) - 1) * V + 0) a else f))) (((n + 1) - 1) * V + 3) d else (if 2 < V then upd (if 1 < V then upd (if 0 < V then upd f (((n + 1) - 1) * V + 0) a else f) (((n + 1) - 1) * V + 1) b else (if 0 < V then upd f (((n + 1) - 1) * V + 0) a else f)) (((n + 1) - 1) * V + 2) c_ else (if 1 < V then upd (if 0 < V then upd f (((n + 1) - 1) * V + 0) a else f) (((n + 1) - 1) * V + 1) b else (if 0 < V then upd f (((n + 1) - 1) * V + 0) a else f))))))]) C hW [0, 1] [] [0, 1] rfl rfl (by decide) (by decide) (by decide) (fun _ => rfl) (g_runV (As := [.int 3, .int d]) (rest := []) (wc := [(h, .inr (4, [.int (nI M), .int (nI V), .ref q, .int (nI (n + 1))])), (q, .inl (G.2.1, (M * V), .inl (if 2 < V then upd (if 1 < V then upd (if 0 < V then upd f (((n + 1) - 1) * V + 0) a else f) (((n + 1) - 1) * V + 1) b else (if 0 < V then upd f (((n + 1) - 1) * V + 0) a else f)) (((n + 1) - 1) * V + 2) c_ else (if 1 < V then upd (if 0 < V then upd f (((n + 1) - 1) * V + 0) a else f) (((n + 1) - 1) * V + 1) b else (if 0 < V then upd f (((n + 1) - 1) * V + 0) a else f)))))]) (q0 := 0) (ci := 4) C hW hl (c_X6_put l G h q M V (n + 1) (if 2 < V then upd (if 1 < V then upd (if 0 < V then upd f (((n + 1) - 1) * V + 0) a else f) (((n + 1) - 1) * V + 1) b else (if 0 < V then upd f (((n + 1) - 1) * V + 0) a else f)) (((n + 1) - 1) * V + 2) c_ else (if 1 < V then upd (if 0 < V then upd f (((n + 1) - 1) * V + 0) a else f) (((n + 1) - 1) * V + 1) b else (if 0 < V then upd f (((n + 1) - 1) * V + 0) a else f))) 3 d (by omega) (by omega) (by omega) _) k_ml_X6_33 q_X6_put (by decide) [0, 1] rfl rfl rfl rfl rfl rfl (Nat.le_of_ble_eq_true rfl) dX6_add_39 (by decide)) (fun _ er_66 => ?_)
    clear hW H locs; intro H locs hW
    replace hW : Wd G A_ s_.heap [(h, .inr (4, [.int (nI M), .int (nI V), .ref q, .int (nI (n + 1))])), (q, .inl (G.2.1, (M * V), .inl (if 3 < V then upd (if 2 < V then upd (if 1 < V then upd (if 0 < V then upd f (((n + 1) - 1) * V + 0) a else f) (((n + 1) - 1) * V + 1) b else (if 0 < V then upd f (((n + 1) - 1) * V + 0) a else f)) (((n + 1) - 1) * V + 2) c_ else (if 1 < V then upd (if 0 < V then upd f (((n + 1) - 1) * V + 0) a else f) (((n + 1) - 1) * V + 1) b else (if 0 < V then upd f (((n + 1) - 1) * V + 0) a else f))) (((n + 1) - 1) * V + 3) d else (if 2 < V then upd (if 1 < V then upd (if 0 < V then upd f (((n + 1) - 1) * V + 0) a else f) (((n + 1) - 1) * V + 1) b else (if 0 < V then upd f (((n + 1) - 1) * V + 0) a else f)) (((n + 1) - 1) * V + 2) c_ else (if 1 < V then upd (if 0 < V then upd f (((n + 1) - 1) * V + 0) a else f) (((n + 1) - 1) * V + 1) b else (if 0 < V then upd f (((n + 1) - 1) * V + 0) a else f))))))] H locs := hW
    refine lv_aload_n hx hb dX6_add_42 rfl (lv_at hl 0 rfl) ?_
    refine g_get (k := 3) (v := .int (nI (n + 1))) C hW 0 rfl rfl jnX6 (by decide) k_fl_X6_7 rfl dX6_add_43 ?_
    subst hQ
    exact g_iret (v := (nI (n + 1))) C hW hr ⟨(), by first | rfl | (simp only [c_59, if_true, if_false, reduceIte]; done) | (simp [c_59]; done) | (simp_all []; done) | (simp only [c_59]; (repeat' split) <;> first | rfl | (simp_all; done)), by rfl⟩ dX6_add_46
set_option maxHeartbeats 4000000 in
set_option maxRecDepth 100000 in
theorem c_X6_empty (l : Launch) (G : gT) (h q M V n : Nat)  : MI l G yX6_empty cX6_empty 2 .int ({ frames := 0, cells := 0, slots := 0, locals := 0 }) [.ref h] [(h, .inr (4, [.int (nI M), .int (nI V), .ref q, .int (nI n)]))] (fun (r : Int32) w1 => ∃ u : Unit, (r = nI n) ∧ w1 = [(h, .inr (4, [.int (nI M), .int (nI V), .ref q, .int (nI 0)]))]) := by
  refine MI.mk (by decide) (Nat.le_of_ble_eq_true rfl) ?_
  intro p_ e_ s_ m_ ar_ be_ me_ cd_ A_ ls C hr hW hl
  have hx := C.1; have hb := C.2.1; have hown := C.2.2.2.1; have ht := C.2.2.2.2.1
  replace hl : lv_has ls 2 [(0, .ref h)] := hl
  generalize hQ : MQ be_ _ ar_ s_ 0 0 A_ = Q
  refine lv_aload_n hx hb dX6_empty_0 rfl (lv_at hl 0 rfl) ?_
  refine g_get (k := 3) (v := .int (nI n)) C hW 0 rfl rfl jnX6 (by decide) k_fl_X6_7 rfl dX6_empty_1 ?_
  refine lv_istore_n (lv' := [(1, .int (nI n)), (0, .ref h)]) hx hb dX6_empty_4 rfl hl (by decide) rfl ?_
  clear hl ls; intro ls hl
  refine lv_aload_n hx hb dX6_empty_5 rfl (lv_at hl 1 rfl) ?_
  refine lv_iconst (v := 0) hx hb dX6_empty_6 (by decide) ?_
  refine g_put (k := 3) (ty := .int) (w' := [(h, .inr (4, [.int (nI M), .int (nI V), .ref q, .int 0]))]) C hW 0 rfl rfl jnX6 tyX6_ok nmX6 (by decide) k_fl_X6_7 rfl rfl rfl rfl (Nat.le_of_ble_eq_true rfl) rfl dX6_empty_7 ?_
  clear hW; intro H locs hW
  refine lv_iload_n hx hb dX6_empty_10 rfl (lv_at hl 0 rfl) ?_
  subst hQ
  exact g_iret (v := (nI n)) C hW hr ⟨(), by first | rfl | (simp only [if_true, if_false, reduceIte]; done) | (simp []; done) | (simp_all []; done) | (simp only []; (repeat' split) <;> first | rfl | (simp_all; done)), by rfl⟩ dX6_empty_11
set_option maxHeartbeats 4000000 in
set_option maxRecDepth 100000 in
theorem c_X6_copyFrom (l : Launch) (G : gT) (h q M V n : Nat) (f : Nat → Int32) (h2 q2 n2 : Nat) (f2 : Nat → Int32) (hn : n2 ≤ M) (hB : M * V < 1000 ∧ M < 1000 ∧ V < 1000) : MV l G yX6_copyFrom cX6_copyFrom 3 ({ frames := 1, cells := 0, slots := 0, locals := 40 }) [.ref h, .ref h2] [(h, .inr (4, [.int (nI M), .int (nI V), .ref q, .int (nI n)])), (q, .inl (G.2.1, (M * V), .inl f)), (h2, .inr (4, [.int (nI M), .int (nI V), .ref q2, .int (nI n2)])), (q2, .inl (G.2.1, (M * V), .inl f2))] (fun w1 => ∃ u : Unit, (True) ∧ w1 = [(h, .inr (4, [.int (nI M), .int (nI V), .ref q, .int (nI n2)])), (q, .inl (G.2.1, (M * V), .inl (va_cpy f2 f 0 0 (n2 * V)))), (h2, .inr (4, [.int (nI M), .int (nI V), .ref q2, .int (nI n2)])), (q2, .inl (G.2.1, (M * V), .inl f2))]) := by
  refine MV.mk (by decide) (Nat.le_of_ble_eq_true rfl) ?_
  intro p_ e_ s_ m_ ar_ be_ me_ cd_ A_ ls C hr hW hl
  have hx := C.1; have hb := C.2.1; have hown := C.2.2.2.1; have ht := C.2.2.2.2.1
  replace hl : lv_has ls 3 [(0, .ref h), (1, .ref h2)] := hl
  generalize hQ : MQ be_ _ ar_ s_ 0 0 A_ = Q
  refine lv_aload_n hx hb dX6_copyFrom_0 rfl (lv_at hl 0 rfl) ?_
  refine lv_aload_n hx hb dX6_copyFrom_1 rfl (lv_at hl 1 rfl) ?_
  refine g_get (k := 3) (v := .int (nI n2)) C hW 2 rfl rfl jnX6 (by decide) k_fl_X6_7 rfl dX6_copyFrom_2 ?_
  refine lv_aload_n hx hb dX6_copyFrom_5 rfl (lv_at hl 0 rfl) ?_
  refine g_get (k := 0) (v := .int (nI M)) C hW 0 rfl rfl jnX6 (by decide) k_fl_X6_19 rfl dX6_copyFrom_6 ?_
  refine g_min C hl k_ml_X6_37 ⟨Nat.le_of_ble_eq_true rfl, Nat.le_of_ble_eq_true rfl⟩ (by decide) dX6_copyFrom_9 ?_
  refine lv_as (y := nI n2) (if_neg (by rw [nI_ltI (by omega) (by omega)]; omega)) ?_
  refine g_put (k := 3) (ty := .int) (w' := [(h, .inr (4, [.int (nI M), .int (nI V), .ref q, .int (nI n2)])), (q, .inl (G.2.1, (M * V), .inl f)), (h2, .inr (4, [.int (nI M), .int (nI V), .ref q2, .int (nI n2)])), (q2, .inl (G.2.1, (M * V), .inl f2))]) C hW 0 rfl rfl jnX6 tyX6_ok nmX6 (by decide) k_fl_X6_7 rfl rfl rfl rfl (Nat.le_of_ble_eq_true rfl) rfl dX6_copyFrom_12 ?_
  clear hW; intro H locs hW
  refine lv_aload_n hx hb dX6_copyFrom_15 rfl (lv_at hl 0 rfl) ?_
  refine g_get (k := 3) (v := .int (nI n2)) C hW 0 rfl rfl jnX6 (by decide) k_fl_X6_7 rfl dX6_copyFrom_16 ?_
  refine lv_aload_n hx hb dX6_copyFrom_19 rfl (lv_at hl 0 rfl) ?_
  refine g_get (k := 1) (v := .int (nI V)) C hW 0 rfl rfl jnX6 (by decide) k_fl_X6_22 rfl dX6_copyFrom_20 ?_
  refine lv_imul hx hb dX6_copyFrom_23 ?_
  refine lv_aload_n hx hb dX6_copyFrom_24 rfl (lv_at hl 1 rfl) ?_
  refine g_get (k := 2) (v := .ref q2) C hW 2 rfl rfl jnX6 (by decide) k_fl_X6_25 rfl dX6_copyFrom_25 ?_
  refine g_alen (v := (nI (M * V))) C hW 3 rfl rfl dX6_copyFrom_28 ?_
  refine g_min C hl k_ml_X6_37 ⟨Nat.le_of_ble_eq_true rfl, Nat.le_of_ble_eq_true rfl⟩ (by decide) dX6_copyFrom_29 ?_
  refine lv_as (y := nI (n2 * V)) (by have hz := Nat.mul_le_mul_right V hn; rw [pk_mul]; exact if_neg (by rw [nI_ltI (by omega) (by omega)]; omega)) ?_
  refine lv_istore_n (lv' := [(2, .int (nI (n2 * V))), (0, .ref h), (1, .ref h2)]) hx hb dX6_copyFrom_32 rfl hl (by decide) rfl ?_
  clear hl ls; intro ls hl
  refine lv_aload_n hx hb dX6_copyFrom_33 rfl (lv_at hl 2 rfl) ?_
  refine g_get (k := 2) (v := .ref q2) C hW 2 rfl rfl jnX6 (by decide) k_fl_X6_25 rfl dX6_copyFrom_34 ?_
  refine lv_iconst (v := 0) hx hb dX6_copyFrom_37 (by decide) ?_
  refine lv_aload_n hx hb dX6_copyFrom_38 rfl (lv_at hl 1 rfl) ?_
  refine g_get (k := 2) (v := .ref q) C hW 0 rfl rfl jnX6 (by decide) k_fl_X6_25 rfl dX6_copyFrom_39 ?_
  refine lv_iconst (v := 0) hx hb dX6_copyFrom_42 (by decide) ?_
  refine lv_iload_n hx hb dX6_copyFrom_43 rfl (lv_at hl 0 rfl) ?_
  refine g_cpy (sn := 0) (dn := 0) (nn := n2 * V) (w' := [(h, .inr (4, [.int (nI M), .int (nI V), .ref q, .int (nI n2)])), (q, .inl (G.2.1, (M * V), .inl (va_cpy f2 f 0 0 (n2 * V)))), (h2, .inr (4, [.int (nI M), .int (nI V), .ref q2, .int (nI n2)])), (q2, .inl (G.2.1, (M * V), .inl f2))]) C hW hl k_ml_X6_40 3 1 rfl rfl (by first | rfl | (have hz := Nat.mul_le_mul_right V hn; omega)) (by first | rfl | (have hz := Nat.mul_le_mul_right V hn; omega)) (by first | rfl | (have hz := Nat.mul_le_mul_right V hn; omega)) (by first | rfl | (have hz := Nat.mul_le_mul_right V hn; omega)) (by first | rfl | (have hz := Nat.mul_le_mul_right V hn; omega)) rfl ⟨Nat.le_of_ble_eq_true rfl, Nat.le_of_ble_eq_true rfl⟩ dX6_copyFrom_44 ?_
  clear hW H locs; intro H locs hW
  subst hQ
  exact g_vret C hW hr ⟨(), trivial, by rfl⟩ dX6_copyFrom_47
set_option maxHeartbeats 4000000 in
set_option maxRecDepth 100000 in
theorem c_X6_foldInto (l : Launch) (G : gT) (h q M V n : Nat) (f : Nat → Int32) (h0 : Int64) (hn : n ≤ M) (hB : M * V < 1000 ∧ M < 1000 ∧ V < 1000) : ML l G yX6_foldInto cX6_foldInto 6 ({ frames := 0, cells := 0, slots := 0, locals := 0 }) [.ref h, .long h0] [(h, .inr (4, [.int (nI M), .int (nI V), .ref q, .int (nI n)])), (q, .inl (G.2.1, (M * V), .inl f))] (fun (r : Int64) w1 => (r = fd h0 f (n * V)) ∧ w1 = [(h, .inr (4, [.int (nI M), .int (nI V), .ref q, .int (nI n)])), (q, .inl (G.2.1, (M * V), .inl f))]) := by
  refine ML.mk (by decide) (Nat.le_of_ble_eq_true rfl) ?_
  intro p_ e_ s_ m_ ar_ be_ me_ cd_ A_ ls C hr hW hl
  have hx := C.1; have hb := C.2.1; have hown := C.2.2.2.1; have ht := C.2.2.2.2.1
  replace hl : lv_has ls 6 [(0, .ref h), (1, .long h0)] := hl
  generalize hQ : MQ be_ _ ar_ s_ 0 0 A_ = Q
  refine lv_lload_n hx hb dX6_foldInto_0 rfl (lv_at hl 1 rfl) ?_
  refine lv_lstore_n (lv' := [(3, .long h0), (0, .ref h), (1, .long h0)]) hx hb dX6_foldInto_1 rfl hl (by decide) rfl ?_
  clear hl ls; intro ls hl
  refine lv_iconst (v := 0) hx hb dX6_foldInto_2 (by decide) ?_
  refine lv_istore (lv' := [(5, .int 0), (3, .long h0), (0, .ref h), (1, .long h0)]) hx hb dX6_foldInto_3 hl (by decide) rfl ?_
  clear hl ls; intro ls hl
  have K_68 : ∀ (n_ : Nat) (k : Nat) (x_69 : Int32) (x_70 : Int64) (_ : x_69 = nI k) (_ : x_70 = fd h0 f k) (_ : k ≤ n * V) (_ : n * V - k < n_) (H : Heap) (locs : List Loc) (ls : Array Slot), Wd G A_ s_.heap [(h, .inr (4, [.int (nI M), .int (nI V), .ref q, .int (nI n)])), (q, .inl (G.2.1, (M * V), .inl f))] H locs → lv_has ls 6 [(5, .int x_69), (3, .long x_70), (0, .ref h), (1, .long h0)] → W p_ l e_ ({ frames := 0, cells := 0, slots := 0, locals := 0 }) s_ m_ ar_ be_ me_ cd_ H locs 0 0 Q (F0 m_ 5 ls []) := by
    intro n_
    induction n_ with
    | zero => intro k x_69 x_70 ex_69 ex_70 hk hm_; exact absurd hm_ (Nat.not_lt_zero _)
    | succ n_ ih_ =>
      intro k x_69 x_70 ex_69 ex_70 hk hm_ H locs ls hW hl
      subst ex_69
      subst ex_70
      have hz := Nat.mul_le_mul_right V hn
      refine lv_iload hx hb dX6_foldInto_5 (lv_at hl 0 rfl) ?_
      refine lv_aload_n hx hb dX6_foldInto_7 rfl (lv_at hl 2 rfl) ?_
      refine g_get (k := 3) (v := .int (nI n)) C hW 0 rfl rfl jnX6 (by decide) k_fl_X6_7 rfl dX6_foldInto_8 ?_
      refine lv_aload_n hx hb dX6_foldInto_11 rfl (lv_at hl 2 rfl) ?_
      refine g_get (k := 1) (v := .int (nI V)) C hW 0 rfl rfl jnX6 (by decide) k_fl_X6_22 rfl dX6_foldInto_12 ?_
      refine lv_imul hx hb dX6_foldInto_15 ?_
      refine lv_as (y := nI (n * V)) (pk_mul _ _) ?_
      refine lv_icmp_ge (tgt := 40) hx hb dX6_foldInto_16 (by decide) (fun c_71 => ?_) (fun c_71 => ?_)
      · replace c_71 := Int32.not_lt.mpr c_71
        have c_71n : ¬ k < (n * V) := fun q => c_71 ((nI_ltI (a := k) (b := (n * V)) (by omega) (by omega)).mpr q)
        refine lv_lload_n hx hb dX6_foldInto_40 rfl (lv_at hl 1 rfl) ?_
        subst hQ
        exact g_lret (v := (fd h0 f k)) C hW hr ⟨by rw [show k = n * V by omega], rfl⟩ dX6_foldInto_41
      · replace c_71 := Int32.not_le.mp c_71
        have c_71n : k < (n * V) := (nI_ltI (a := k) (b := (n * V)) (by omega) (by omega)).mp c_71
        refine lv_ldc2 (v := 31) hx hb hown (ht _ k_cg_X6_46) dX6_foldInto_19 ?_
        refine lv_lload_n hx hb dX6_foldInto_22 rfl (lv_at hl 1 rfl) ?_
        refine lv_lmul hx hb dX6_foldInto_23 ?_
        refine lv_aload_n hx hb dX6_foldInto_24 rfl (lv_at hl 2 rfl) ?_
        refine g_get (k := 2) (v := .ref q) C hW 0 rfl rfl jnX6 (by decide) k_fl_X6_25 rfl dX6_foldInto_25 ?_
        refine lv_iload hx hb dX6_foldInto_28 (lv_at hl 0 rfl) ?_
        refine g_ald C hW 1 rfl (ix_in (show (nI k) = nI k from (by first | rfl | (simp only [nI_lit, nI_add, pk_mul]; done) | (simp only [nI_lit, nI_add, pk_mul]; congr 1; omega))) (by omega) (by omega)) dX6_foldInto_30 ?_
        refine lv_as (y := f k) (by rw [show (nI k).toNatClampNeg = k from nI_clamp (by omega)]) ?_
        refine lv_i2l hx hb dX6_foldInto_31 rfl ?_
        refine lv_ladd hx hb dX6_foldInto_32 ?_
        refine lv_lstore_n (lv' := [(3, .long ((31 * (fd h0 f k)) + ((f k).toInt64))), (5, .int (nI k)), (0, .ref h), (1, .long h0)]) hx hb dX6_foldInto_33 rfl hl (by decide) rfl ?_
        clear hl ls; intro ls hl
        refine lv_iinc (v := (nI k) + 1) (lv' := [(5, .int ((nI k) + 1)), (3, .long ((31 * (fd h0 f k)) + ((f k).toInt64))), (0, .ref h), (1, .long h0)]) hx hb dX6_foldInto_34 hl (k := 1) rfl rfl (by decide) rfl ?_
        clear hl ls; intro ls hl
        refine lv_goto (tgt := 5) hx hb dX6_foldInto_37 (by decide) ?_
        exact ih_ (k + 1) ((nI k) + 1) ((31 * (fd h0 f k)) + ((f k).toInt64)) (by first | rfl | assumption | omega | exact nI_1 _ | (simp; done)) (by first | rfl | assumption | omega | exact nI_1 _ | (simp; done)) (by first | rfl | assumption | omega | exact nI_1 _ | (simp; done)) (by omega) _ _ _ hW (lv_sub hl [0, 1, 2, 3] rfl)
  exact K_68 _ 0 0 h0 (by first | rfl | assumption | omega | exact nI_1 _ | (simp; done)) (by first | rfl | assumption | omega | exact nI_1 _ | (simp; done)) (by first | rfl | assumption | omega | exact nI_1 _ | (simp; done)) (Nat.lt_succ_self _) _ _ _ hW (lv_sub hl [0, 1, 2, 3] rfl)
