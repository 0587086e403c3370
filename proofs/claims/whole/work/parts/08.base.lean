/-! base: one word list for all methods; the state bundle; rows over it; calls -/
abbrev wU (y : MethodName) (cc : ByteArray) (n : Nat) (r : Option FieldType) : List Cond := Cond.code y cc n r :: lw_g
theorem gU {y : MethodName} {cc : ByteArray} {n : Nat} {r : Option FieldType} (h : Cond.code y cc n r ∈ lw_g) : GoodIn lw_g (wU y cc n r) := fun w hw => (List.mem_cons.mp hw).elim (fun e => by rw [e]; exact ⟨h, lg_good h⟩) (fun h' => ⟨h', lg_good h'⟩)
abbrev gT : Type := va_G × ClassId × ClassId × (Nat → Nat) × (Nat → Nat)
abbrev gK (G : gT) (U : State) : Prop := va_K G.1 vwCl [(G.2.1, .int), (G.2.2.1, .boolean)] U
/-- what is so of the launch: nest mates' links, the String constants, a static of String's -/
def gE (G : gT) (A : Nat → Prop) (U : State) (H : Heap) : Prop :=
  (∀ q ∈ ns_F, va_Nw (.fieldLinkNest q.1 q.2.1 q.2.2.1 q.2.2.2.1 q.2.2.2.2.1 q.2.2.2.2.2) U) ∧ (∀ q ∈ ns_M, va_Nw (.methodLinkNest q.1 q.2.1 q.2.2.1 q.2.2.2) U) ∧ (∀ i : Nat, i < 7 → vk_R RX5 (sk_i.getD i 0) (sk_t.getD i "") (G.2.2.2.1 i) U) ∧ vk_S 7 sk_n sk_b G.2.2.2.1 G.2.2.2.2 A U H ∧ va_Z "java/lang/String" "COMPACT_STRINGS" "Z" (.int 1) A U H ∧ va_Zq "jdk/internal/util/Preconditions" "SIOOBE_FORMATTER" "Ljava/util/function/BiFunction;" A U H
theorem gE.call {G : gT} {A B : Nat → Prop} {s U : State} {H0 H : Heap} {w : va_W} {locs : List Loc} (h : gE G A s H0) (hS : va_S A H0 H locs) (hF : ∀ q, B q → A q) (hW : s.WarmedH U.vm) (hU : U.heap = H) : gE G B U U.heap := by
  obtain ⟨h1, h2, h3, h4, h5, h6⟩ := h
  rw [hU]
  exact ⟨fun q hq => (h1 q hq).warmF hW, fun q hq => (h2 q hq).warmM hW, fun i hi => (h3 i hi).warm hW, ((h4.kept hS.2.1).narrow hF).moved hW.alike, ((h5.kept hS.2.1).narrow hF).moved hW.alike, ((h6.kept hS.2.1).narrow hF).moved hW.alike⟩
theorem gE.blind {G : gT} {A : Nat → Prop} {U V : State} (hv : V.vm = U.vm) (hh : V.heap = U.heap) (h : gE G A U U.heap) : gE G A V V.heap := by
  obtain ⟨h1, h2, h3, h4, h5, h6⟩ := h
  have ha : U.vm.Alike V.vm := by rw [hv]; exact Vm.Alike.refl _
  rw [hh]
  exact ⟨fun q hq => (h1 q hq).same rfl hv.symm, fun q hq => (h2 q hq).same rfl hv.symm, fun i hi => vk_R.same hv (h3 i hi), h4.moved ha, h5.moved ha, h6.moved ha⟩
def Wd (G : gT) (A : Nat → Prop) (H0 : Heap) (w : va_W) (H : Heap) (locs : List Loc) : Prop := va_P G.1 vwCl w H ∧ va_D A w ∧ va_S A H0 H locs
/-- what stays the same through a method's body -/
def Cx (p : Program) (s : State) (m : MethodId) (args : Array Value) (meth : Method) (c : Code) (cc : ByteArray) (nL : Nat) (own : String) (G : gT) (H0 : Heap) (A : Nat → Prop) : Prop :=
  p.tables.exec = Jvm.exec ∧ c.code = cc ∧ c.maxLocals = nL ∧ s.vm.findClass own = some m.cls ∧ (∀ w ∈ lw_g, w.before args s = true) ∧ gK G s ∧ (∀ q, H0.size ≤ q → A q) ∧ meth.locks = false ∧ gE G A s H0
def cB0 (G : gT) (w0 : va_W) (sz : Nat) : State → Prop := fun U => U.heap.size = sz ∧ va_P G.1 vwCl w0 U.heap ∧ gK G U ∧ va_D (fun _ => True) w0 ∧ gE G (va_A w0 sz) U U.heap
def cB1 (G : gT) (A : Nat → Prop) : va_W → State → Prop := fun w t => va_P G.1 vwCl w t.heap ∧ va_D A w
/-- contracts of methods that make nothing: from the world w0, an answer and a world as 'post' says -/
def MI (l : Launch) (G : gT) (y : MethodName) (cc : ByteArray) (n : Nat) (rt : FieldType) (rm : Room) (av : List Value) (w0 : va_W) (post : Int32 → va_W → Prop) : Prop :=
  ∀ sz : Nat, Met l y (wU y cc n (some rt)) rm (va_Pc av (cB0 G w0 sz)) (va_Qi post (cB1 G (va_A w0 sz)) (va_A w0 sz)) 0 0 (va_A w0 sz)
def ML (l : Launch) (G : gT) (y : MethodName) (cc : ByteArray) (n : Nat) (rm : Room) (av : List Value) (w0 : va_W) (post : Int64 → va_W → Prop) : Prop :=
  ∀ sz : Nat, Met l y (wU y cc n (some .long)) rm (va_Pc av (cB0 G w0 sz)) (va_Ql post (cB1 G (va_A w0 sz)) (va_A w0 sz)) 0 0 (va_A w0 sz)
def MV (l : Launch) (G : gT) (y : MethodName) (cc : ByteArray) (n : Nat) (rm : Room) (av : List Value) (w0 : va_W) (post : va_W → Prop) : Prop :=
  ∀ sz : Nat, Met l y (wU y cc n none) rm (va_Pc av (cB0 G w0 sz)) (va_Qv post (cB1 G (va_A w0 sz)) (va_A w0 sz)) 0 0 (va_A w0 sz)
theorem mt_in {l : Launch} {G : gT} {y : MethodName} {cc : ByteArray} {n : Nat} {r : Option FieldType} {rm : Room} {av : List Value} {w0 : va_W} {sz : Nat} {Qc : (Nat → Prop) → Array Value → State → Outcome → State → Prop}
    (hy : plainName y.cls = true) (hn : (lg_sl av).length ≤ n)
    (body : ∀ p e s m args below meth c A ls, Cx p s m args meth c cc n y.cls G s.heap A → meth.sig.returnType = r → Wd G A s.heap w0 s.heap [] → lv_has ls n (lv_args 0 av) →
      W p l e rm s m args below meth c s.heap [] 0 0 (MQ below (Qc A) args s 0 0 A) (F0 m 0 ls [])) :
    Met l y (wU y cc n r) rm (va_Pc av (cB0 G w0 sz)) (Qc (va_A w0 sz)) 0 0 (va_A w0 sz) := by
  refine Met.ofW (cc := cc) (maxL := n) (ret := r) hy rfl ?_
  intro p e s m args below meth c s₁ B hml hv
  obtain ⟨rfl, hsz, hP, hK, hD0, hE⟩ := hv
  subst hsz
  have hD := hD0.self (sz := s.heap.size)
  have hts := atoms_spec (ws := wU y cc n r) B.pre
  have hown : s.vm.findClass y.cls = some m.cls := findClass_of_methodNamed B.named
  rw [lg_entry_eq]
  exact body p e s m av.toArray below meth c (va_A w0 s.heap.size) _ ⟨B.exec, B.bytes, hml, hown, fun w h => hts w (List.mem_cons_of_mem _ h), hK, fun q h => Or.inr h, B.notSynchronized, hE⟩ B.returns ⟨hP, hD, va_S.rf⟩ (lv_entry av hn)
theorem MI.mk {l : Launch} {G : gT} {y : MethodName} {cc : ByteArray} {n : Nat} {rt : FieldType} {rm : Room} {av : List Value} {w0 : va_W} {post : Int32 → va_W → Prop}
    (hy : plainName y.cls = true) (hn : (lg_sl av).length ≤ n)
    (body : ∀ p e s m args below meth c A ls, Cx p s m args meth c cc n y.cls G s.heap A → meth.sig.returnType = some rt → Wd G A s.heap w0 s.heap [] → lv_has ls n (lv_args 0 av) →
      W p l e rm s m args below meth c s.heap [] 0 0 (MQ below (va_Qi post (cB1 G A) A) args s 0 0 A) (F0 m 0 ls [])) : MI l G y cc n rt rm av w0 post :=
  fun _ => mt_in (Qc := fun A => va_Qi post (cB1 G A) A) hy hn body
theorem ML.mk {l : Launch} {G : gT} {y : MethodName} {cc : ByteArray} {n : Nat} {rm : Room} {av : List Value} {w0 : va_W} {post : Int64 → va_W → Prop}
    (hy : plainName y.cls = true) (hn : (lg_sl av).length ≤ n)
    (body : ∀ p e s m args below meth c A ls, Cx p s m args meth c cc n y.cls G s.heap A → meth.sig.returnType = some .long → Wd G A s.heap w0 s.heap [] → lv_has ls n (lv_args 0 av) →
      W p l e rm s m args below meth c s.heap [] 0 0 (MQ below (va_Ql post (cB1 G A) A) args s 0 0 A) (F0 m 0 ls [])) : ML l G y cc n rm av w0 post :=
  fun _ => mt_in (Qc := fun A => va_Ql post (cB1 G A) A) hy hn body
theorem MV.mk {l : Launch} {G : gT} {y : MethodName} {cc : ByteArray} {n : Nat} {rm : Room} {av : List Value} {w0 : va_W} {post : va_W → Prop}
    (hy : plainName y.cls = true) (hn : (lg_sl av).length ≤ n)
    (body : ∀ p e s m args below meth c A ls, Cx p s m args meth c cc n y.cls G s.heap A → meth.sig.returnType = none → Wd G A s.heap w0 s.heap [] → lv_has ls n (lv_args 0 av) →
      W p l e rm s m args below meth c s.heap [] 0 0 (MQ below (va_Qv post (cB1 G A) A) args s 0 0 A) (F0 m 0 ls [])) : MV l G y cc n rm av w0 post :=
  fun _ => mt_in (Qc := fun A => va_Qv post (cB1 G A) A) hy hn body
/-- a callee that left its world as it was: the caller's world is as it was -/
theorem Wd.ro {G : gT} {A : Nat → Prop} {H0 : Heap} {w wc : va_W} {H H1 : Heap} {locs locs1 : List Loc} (h : Wd G A H0 w H locs) (isC : List Nat) (hC : isC.map (fun i => w[i]?) = wc.map some)
    (hk : ∀ q : Nat, q < H.size → ¬ va_A wc H.size q → H1[q]? = H[q]?) (hP1 : va_P G.1 vwCl wc H1) (hS : va_S A H0 H1 locs1) : Wd G A H0 w H1 locs1 := by
  refine ⟨fun k q hq => ?_, h.2.1, hS⟩
  have hlt := (h.1 k q hq).lt
  by_cases hA : va_A wc H.size q.1
  · rcases hA with ⟨k', e, he⟩ | hge
    · have h1 : (isC.map (fun i => w[i]?))[k']? = some (some (q.1, e)) := by rw [hC, List.getElem?_map, he]; rfl
      rw [List.getElem?_map] at h1
      cases hi : isC[k']? with
      | none => rw [hi] at h1; cases h1
      | some i =>
        rw [hi] at h1
        have h2 : w[i]? = some (q.1, e) := Option.some.inj h1
        have h3 : i = k := h.2.1.1 i k _ _ h2 hq rfl
        subst h3
        have h4 : (q.1, e) = q := Option.some.inj (h2.symm.trans hq)
        rw [h4] at he
        exact hP1 k' q he
    · exact absurd hlt (Nat.not_lt.mpr hge)
  · exact (h.1 k q hq).kept (hk q.1 hlt hA)
theorem fm_of_map {is : List Nat} {ws w' : va_W} (hs : is.map (fun i => ws[i]?) = w'.map some) : is.filterMap (fun i => ws[i]?) = w' := by
  induction is generalizing w' with
  | nil => cases w' with
    | nil => rfl
    | cons a b => cases hs
  | cons i is ih => cases w' with
    | nil => cases hs
    | cons a b =>
      simp only [List.map_cons, List.cons.injEq] at hs
      rw [List.filterMap_cons, hs.1, ih hs.2]
/-- a callee's world put back, in the caller's order -/
theorem Wd.rw {G : gT} {A : Nat → Prop} {H0 : Heap} {w wc wr w1 w' : va_W} {H H1 : Heap} {locs locs1 : List Loc} (h : Wd G A H0 w H locs) (hA : ∀ q, H0.size ≤ q → A q) (isC isR perm : List Nat) (hC : isC.map (fun i => w[i]?) = wc.map some) (hR : isR.map (fun i => w[i]?) = wr.map some) (hn : va_nd isR = true) (hdis : ∀ i ∈ isR, i ∉ isC)
    (hp : perm.map (fun i => (wr ++ w1)[i]?) = w'.map some) (hnp : va_nd perm = true)
    (hk : ∀ q : Nat, q < H.size → ¬ va_A wc H.size q → H1[q]? = H[q]?) (hP1 : va_P G.1 vwCl w1 H1) (hD1 : va_D (va_A wc H.size) w1) (hS : va_S A H0 H1 locs1) : Wd G A H0 w' H1 locs1 := by
  obtain ⟨hP, hD⟩ := va_join (wr := wr) (w1 := w1) h.1 h.2.1 isC isR hC hR hn hdis hk (va_free h.2.1 h.2.2 hA isC hC) hP1 hD1
  exact ⟨hP.sub perm (fm_of_map hp), hD.sub perm hnp hp, hS⟩
section Rows8
variable {p : Program} {l : Launch} {e : Env} {R : Room} {s : State} {m : MethodId} {args : Array Value} {below : List Frame} {meth : Method} {c : Code} {H : Heap} {locs : List Loc} {cells slots : Nat} {Q : State → Prop}
variable {cc : ByteArray} {nL : Nat} {own : String} {G : gT} {H0 : Heap} {A : Nat → Prop} {w w' wc wr w1 : va_W} {pc : Nat} {ls : Array Slot} {rest st0 : List Value} {lv : List (Nat × Value)}
theorem g_get (C : Cx p s m args meth c cc nL own G H0 A) (h : Wd G A H0 w H locs) (q0 : Nat) {a ci k idx N : Nat} {CN : String} {T : u_T} {fs : List Value} {v : Value} (he : w[q0]? = some (a, .inr (ci, fs))) (hc : vwCl[ci]? = some (CN, T, N)) (hin : ∀ w ∈ u_ws CN T N, w ∈ lw_g) (hk : k < N) (hl : Cond.fieldLink own idx (T k).1 (T k).2.1 (T k).2.2.1 ∈ lw_g) (hv : fs[k]? = some v) (hdg : decode cc pc = .ok (.getfield idx, 3))
    (kk : W p l e R s m args below meth c H locs cells slots Q (F0 m (pc + 3) ls (v :: rest))) : W p l e R s m args below meth c H locs cells slots Q (F0 m pc ls (.ref a :: rest)) :=
  va_get C.1 C.2.1 C.2.2.2.2.1 hin C.2.2.2.1 C.2.2.2.2.2.1 h.1 q0 he hc k hk (C.2.2.2.2.1 _ hl) (fun _ h9 => h9) hv hdg kk
theorem g_getN (C : Cx p s m args meth c cc nL own G H0 A) (h : Wd G A H0 w H locs) (q0 : Nat) {a ci k idx N : Nat} {CN host : String} {T : u_T} {fs : List Value} {v : Value} (he : w[q0]? = some (a, .inr (ci, fs))) (hc : vwCl[ci]? = some (CN, T, N)) (hin : ∀ w ∈ u_ws CN T N, w ∈ lw_g) (hk : k < N) (hl : (own, idx, (T k).1, (T k).2.1, (T k).2.2.1, host) ∈ ns_F) (hv : fs[k]? = some v) (hdg : decode cc pc = .ok (.getfield idx, 3))
    (kk : W p l e R s m args below meth c H locs cells slots Q (F0 m (pc + 3) ls (v :: rest))) : W p l e R s m args below meth c H locs cells slots Q (F0 m pc ls (.ref a :: rest)) :=
  va_getN C.1 C.2.1 C.2.2.2.2.1 hin C.2.2.2.1 C.2.2.2.2.2.1 h.1 q0 he hc k hk ((C.2.2.2.2.2.2.2.2.1 _ hl).use rfl) (fun _ h9 => h9) hv hdg kk
theorem g_put (C : Cx p s m args meth c cc nL own G H0 A) (h : Wd G A H0 w H locs) (q0 : Nat) {a ci k idx N : Nat} {CN : String} {T : u_T} {fs : List Value} {v : Value} {ty : FieldType} (he : w[q0]? = some (a, .inr (ci, fs))) (hc : vwCl[ci]? = some (CN, T, N)) (hin : ∀ w ∈ u_ws CN T N, w ∈ lw_g) {ty0 : Nat → FieldType} (hty : ∀ k, k < N → parseFieldDescriptor (T k).2.2.1 = some (ty0 k)) (hnm : ∀ a, a < N → ∀ b, b < N → a ≠ b → (T a).2.1 ≠ (T b).2.1) (hk : k < N) (hl : Cond.fieldLink own idx (T k).1 (T k).2.1 (T k).2.2.1 ∈ lw_g) (hfin : (T k).2.2.2 = false) (hd : ty0 k = ty) (hn : narrow ty v = v) (hfit : fits ty v = true) (hlen : k < fs.length) (hw : w.set q0 (a, .inr (ci, fs.set k v)) = w') (hdg : decode cc pc = .ok (.putfield idx, 3))
    (kk : ∀ (H1 : Heap) (locs1 : List Loc), Wd G A H0 w' H1 locs1 → W p l e R s m args below meth c H1 locs1 cells slots Q (F0 m (pc + 3) ls rest)) : W p l e R s m args below meth c H locs cells slots Q (F0 m pc ls (v :: .ref a :: rest)) :=
  va_put C.1 C.2.1 C.2.2.2.2.1 hin ty0 hty hnm C.2.2.2.1 C.2.2.2.2.2.1 h.1 h.2.1 h.2.2 q0 he hc k hk (C.2.2.2.2.1 _ hl) (fun _ h9 => h9) hfin ((hty k hk).trans (congrArg some hd)) hn hfit hlen hdg (fun H1 locs1 a b d => kk H1 locs1 (by rw [← hw]; exact ⟨a, b, d⟩))
theorem g_putN (C : Cx p s m args meth c cc nL own G H0 A) (h : Wd G A H0 w H locs) (q0 : Nat) {a ci k idx N : Nat} {CN host : String} {T : u_T} {fs : List Value} {v : Value} {ty : FieldType} (he : w[q0]? = some (a, .inr (ci, fs))) (hc : vwCl[ci]? = some (CN, T, N)) (hin : ∀ w ∈ u_ws CN T N, w ∈ lw_g) {ty0 : Nat → FieldType} (hty : ∀ k, k < N → parseFieldDescriptor (T k).2.2.1 = some (ty0 k)) (hnm : ∀ a, a < N → ∀ b, b < N → a ≠ b → (T a).2.1 ≠ (T b).2.1) (hk : k < N) (hl : (own, idx, (T k).1, (T k).2.1, (T k).2.2.1, host) ∈ ns_F) (hfin : (T k).2.2.2 = false) (hd : ty0 k = ty) (hn : narrow ty v = v) (hfit : fits ty v = true) (hlen : k < fs.length) (hw : w.set q0 (a, .inr (ci, fs.set k v)) = w') (hdg : decode cc pc = .ok (.putfield idx, 3))
    (kk : ∀ (H1 : Heap) (locs1 : List Loc), Wd G A H0 w' H1 locs1 → W p l e R s m args below meth c H1 locs1 cells slots Q (F0 m (pc + 3) ls rest)) : W p l e R s m args below meth c H locs cells slots Q (F0 m pc ls (v :: .ref a :: rest)) :=
  va_putN C.1 C.2.1 C.2.2.2.2.1 hin ty0 hty hnm C.2.2.2.1 C.2.2.2.2.2.1 h.1 h.2.1 h.2.2 q0 he hc k hk ((C.2.2.2.2.2.2.2.2.1 _ hl).use rfl) (fun _ h9 => h9) hfin ((hty k hk).trans (congrArg some hd)) hn hfit hlen hdg (fun H1 locs1 a b d => kk H1 locs1 (by rw [← hw]; exact ⟨a, b, d⟩))
theorem g_ald (C : Cx p s m args meth c cc nL own G H0 A) (h : Wd G A H0 w H locs) (q0 : Nat) {a n : Nat} {f : Nat → Int32} (ha : w[q0]? = some (a, .inl (G.2.1, n, .inl f))) {i : Int32} (hin : vp_in i n) (hdg : decode cc pc = .ok (.iaload, 1))
    (kk : W p l e R s m args below meth c H locs cells slots Q (F0 m (pc + 1) ls (.int (f i.toNatClampNeg) :: rest))) : W p l e R s m args below meth c H locs cells slots Q (F0 m pc ls (.int i :: .ref a :: rest)) :=
  va_iald C.1 C.2.1 C.2.2.2.2.2.1 h.1 q0 0 ha rfl hin hdg kk
theorem g_zald (C : Cx p s m args meth c cc nL own G H0 A) (h : Wd G A H0 w H locs) (q0 : Nat) {a n : Nat} {f : Nat → Int32} (ha : w[q0]? = some (a, .inl (G.2.2.1, n, .inl f))) {i : Int32} (hin : vp_in i n) (hdg : decode cc pc = .ok (.baload, 1))
    (kk : W p l e R s m args below meth c H locs cells slots Q (F0 m (pc + 1) ls (.int (f i.toNatClampNeg) :: rest))) : W p l e R s m args below meth c H locs cells slots Q (F0 m pc ls (.int i :: .ref a :: rest)) :=
  va_zald C.1 C.2.1 C.2.2.2.2.2.1 h.1 q0 1 ha rfl hin hdg kk
theorem g_ast (C : Cx p s m args meth c cc nL own G H0 A) (h : Wd G A H0 w H locs) (q0 : Nat) {a n : Nat} {f : Nat → Int32} (ha : w[q0]? = some (a, .inl (G.2.1, n, .inl f))) {i x : Int32} (hin : vp_in i n) (hw : w.set q0 (a, .inl (G.2.1, n, .inl (upd f i.toNatClampNeg x))) = w') (hdg : decode cc pc = .ok (.iastore, 1))
    (kk : ∀ (H1 : Heap) (locs1 : List Loc), Wd G A H0 w' H1 locs1 → W p l e R s m args below meth c H1 locs1 cells slots Q (F0 m (pc + 1) ls rest)) : W p l e R s m args below meth c H locs cells slots Q (F0 m pc ls (.int x :: .int i :: .ref a :: rest)) :=
  va_iast C.1 C.2.1 C.2.2.2.2.2.1 h.1 h.2.1 h.2.2 q0 0 ha rfl hin hdg (fun H1 locs1 a b d => kk H1 locs1 (by rw [← hw]; exact ⟨a, b, d⟩))
theorem g_alen (C : Cx p s m args meth c cc nL own G H0 A) (h : Wd G A H0 w H locs) (q0 : Nat) {a n : Nat} {f : Nat → Int32} (ha : w[q0]? = some (a, .inl (G.2.1, n, .inl f))) {v : Int32} (hv : Int32.ofNat n = v) (hdg : decode cc pc = .ok (.arraylength, 1))
    (kk : W p l e R s m args below meth c H locs cells slots Q (F0 m (pc + 1) ls (.int v :: rest))) : W p l e R s m args below meth c H locs cells slots Q (F0 m pc ls (.ref a :: rest)) :=
  va_alen C.1 C.2.1 C.2.2.2.2.2.1 h.1 q0 0 ha rfl hv hdg kk
theorem g_max (C : Cx p s m args meth c cc nL own G H0 A) (hls : lv_has ls nL lv) {idx : Nat} (hl : Cond.methodLink own idx Lib.Math.max.name ∈ lw_g) (hf : 1 ≤ R.frames ∧ (rest.map fun v => v.category).sum + 13 ≤ R.locals) (hc : cells ≤ R.cells ∧ slots ≤ R.slots) {x y : Int32} (hdg : decode cc pc = .ok (.invokestatic idx, 3))
    (kk : W p l e R s m args below meth c H locs cells slots Q (F0 m (pc + 3) ls (.int (if x < y then y else x) :: rest))) : W p l e R s m args below meth c H locs cells slots Q (F0 m pc ls (.int y :: .int x :: rest)) :=
  va_mmax C.1 C.2.1 (C.2.2.1.trans hls.1.symm) C.2.2.2.1 (C.2.2.2.2.1 _ hl) (C.2.2.2.2.1 _ k_st_Math_max) (C.2.2.2.2.1 _ k_ii_J9) (C.2.2.2.2.1 _ k_co_Math_max) hf.1 hf.2 hc.1 hc.2 hdg kk
theorem g_min (C : Cx p s m args meth c cc nL own G H0 A) (hls : lv_has ls nL lv) {idx : Nat} (hl : Cond.methodLink own idx Lib.Math.min.name ∈ lw_g) (hf : 1 ≤ R.frames ∧ (rest.map fun v => v.category).sum + 13 ≤ R.locals) (hc : cells ≤ R.cells ∧ slots ≤ R.slots) {x y : Int32} (hdg : decode cc pc = .ok (.invokestatic idx, 3))
    (kk : W p l e R s m args below meth c H locs cells slots Q (F0 m (pc + 3) ls (.int (if y < x then y else x) :: rest))) : W p l e R s m args below meth c H locs cells slots Q (F0 m pc ls (.int y :: .int x :: rest)) :=
  va_mmin C.1 C.2.1 (C.2.2.1.trans hls.1.symm) C.2.2.2.1 (C.2.2.2.2.1 _ hl) (C.2.2.2.2.1 _ k_st_Math_min) (C.2.2.2.2.1 _ k_ii_J9) (C.2.2.2.2.1 _ k_co_Math_min) hf.1 hf.2 hc.1 hc.2 hdg kk
theorem cB0_blind {av : List Value} {w0 : va_W} {sz : Nat} : FrameBlind (va_Pc av (cB0 G w0 sz)) := fun a U g mk q => by
  obtain ⟨q0, q1, qP, qK, qD, qE⟩ := q
  exact ⟨q0, q1, qP, va_K.moved (u := U) (U := U.calling g mk a) (Vm.Alike.refl U.vm) qK, qD, gE.blind (U := U) rfl rfl qE⟩
/-- the run of a call, whatever it answers -/
theorem g_runV (C : Cx p s m args meth c cc nL own G H0 A) (h : Wd G A H0 w H locs) (hls : lv_has ls nL lv) {y : MethodName} {yc : ByteArray} {yn n idx b ci q0 : Nat} {yr : Option FieldType} {rm : Room} {As : List Value} {CN : String} {T : u_T} {N : Nat} {fs : List Value} {Qc : Array Value → State → Outcome → State → Prop} {free : Addr → Prop}
    (hM : Met l y (wU y yc yn yr) rm (va_Pc (.ref b :: As) (cB0 G wc H.size)) Qc 0 0 free) (hl : Cond.methodLink own idx y ∈ lw_g) (hq : (Cond.code y yc yn yr ∈ lw_g ∧ Cond.instanceMethod y ∈ lw_g ∧ Cond.selects CN y y ∈ lw_g ∧ Cond.initialized CN ∈ lw_g) ∧ y.cls = CN ∧ y.cls ≠ "java/lang/invoke/MethodHandle" ∧ y.cls ≠ "java/lang/invoke/VarHandle" ∧ (parseMethodDescriptor y.desc).map (fun d => d.parameters.length) = some n)
    (hR : (rm.cells = 0 ∧ rm.slots = 0) ∧ rm.frames + 1 ≤ R.frames ∧ 8 + (yn + 11) + rm.locals ≤ R.locals) (isC : List Nat) (hnd : va_nd isC = true) (hC : isC.map (fun i => w[i]?) = wc.map some) (hc : vwCl[ci]? = some (CN, T, N)) (he : wc[q0]? = some (b, .inr (ci, fs)))
    (hn : As.length = n) (hst : st0 = As.reverse ++ .ref b :: rest) (hW : (rest.map fun v => v.category).sum ≤ 8) (hdg : decode cc pc = .ok (.invokevirtual idx, 3)) (hf : cells ≤ R.cells ∧ slots ≤ R.slots) :
    va_Run p l e R s m args below meth c H locs cells slots 0 0 (F0 m pc ls st0) rest (Qc (Value.ref b :: As).toArray) free := by
  have ht := C.2.2.2.2.1
  have hK := C.2.2.2.2.2.1
  have hPc : va_P G.1 vwCl wc H := h.1.sub isC (fm_of_map hC)
  have hDc : va_D (fun _ => True) wc := (h.2.1.sub isC hnd hC).weaken (fun _ _ _ _ => trivial)
  exact va_runV (As := As) (rest := rest) (C := CN) ⟨C.1, C.2.1, C.2.2.1, C.2.2.2.1, ht⟩ hM ⟨callB_of n ht (gU hq.1.1) rfl hR.1.1 hR.1.2 (by rw [hq.2.1]; exact ht _ hq.1.2.2.2) (ht _ hl) hq.2.2 hR.2, ht _ hq.1.2.1, ht _ hq.1.2.2.1⟩ ⟨cB0_blind, va_recv hK hPc hc he, fun U hU hW => ⟨rfl, by rw [hU], by rw [hU]; exact hPc, va_K.moved hW.alike hK, hDc, C.2.2.2.2.2.2.2.2.call (w := w) h.2.2 (va_free h.2.1 h.2.2 C.2.2.2.2.2.2.1 isC hC) hW hU⟩⟩ rfl hn hls.1 hst (by show 2 * 0 + _ ≤ 8; omega) hdg hf
theorem g_runS (C : Cx p s m args meth c cc nL own G H0 A) (h : Wd G A H0 w H locs) (hls : lv_has ls nL lv) {y : MethodName} {yc : ByteArray} {yn n idx : Nat} {yr : Option FieldType} {rm : Room} {As : List Value} {CN : String} {Qc : Array Value → State → Outcome → State → Prop} {free : Addr → Prop}
    (hM : Met l y (wU y yc yn yr) rm (va_Pc As (cB0 G wc H.size)) Qc 0 0 free) (hl : Cond.methodLink own idx y ∈ lw_g) (hq : (Cond.code y yc yn yr ∈ lw_g ∧ Cond.static y ∈ lw_g ∧ Cond.initialized CN ∈ lw_g) ∧ y.cls = CN ∧ y.cls ≠ "java/lang/invoke/MethodHandle" ∧ y.cls ≠ "java/lang/invoke/VarHandle" ∧ (parseMethodDescriptor y.desc).map (fun d => d.parameters.length) = some n)
    (hR : (rm.cells = 0 ∧ rm.slots = 0) ∧ rm.frames + 1 ≤ R.frames ∧ 8 + (yn + 11) + rm.locals ≤ R.locals) (isC : List Nat) (hnd : va_nd isC = true) (hC : isC.map (fun i => w[i]?) = wc.map some)
    (hn : As.length = n) (hst : st0 = As.reverse ++ rest) (hW : (rest.map fun v => v.category).sum ≤ 8) (hdg : decode cc pc = .ok (.invokestatic idx, 3)) (hf : cells ≤ R.cells ∧ slots ≤ R.slots) :
    va_Run p l e R s m args below meth c H locs cells slots 0 0 (F0 m pc ls st0) rest (Qc As.toArray) free := by
  have ht := C.2.2.2.2.1
  have hK := C.2.2.2.2.2.1
  have hPc : va_P G.1 vwCl wc H := h.1.sub isC (fm_of_map hC)
  have hDc : va_D (fun _ => True) wc := (h.2.1.sub isC hnd hC).weaken (fun _ _ _ _ => trivial)
  exact va_runS (As := As) (rest := rest) ⟨C.1, C.2.1, C.2.2.1, C.2.2.2.1, ht⟩ hM ⟨callB_of n ht (gU hq.1.1) rfl hR.1.1 hR.1.2 (by rw [hq.2.1]; exact ht _ hq.1.2.2) (ht _ hl) hq.2.2 hR.2, ht _ hq.1.2.1⟩ ⟨cB0_blind, fun U hU hW => ⟨rfl, by rw [hU], by rw [hU]; exact hPc, va_K.moved hW.alike hK, hDc, C.2.2.2.2.2.2.2.2.call (w := w) h.2.2 (va_free h.2.1 h.2.2 C.2.2.2.2.2.2.1 isC hC) hW hU⟩⟩ rfl hn hls.1 hst (by show 2 * 0 + _ ≤ 8; omega) hdg hf
/-- a nest mate's private static method -/
theorem g_runSN (C : Cx p s m args meth c cc nL own G H0 A) (h : Wd G A H0 w H locs) (hls : lv_has ls nL lv) {y : MethodName} {yc : ByteArray} {yn n idx : Nat} {yr : Option FieldType} {rm : Room} {As : List Value} {CN host : String} {Qc : Array Value → State → Outcome → State → Prop} {free : Addr → Prop}
    (hM : Met l y (wU y yc yn yr) rm (va_Pc As (cB0 G wc H.size)) Qc 0 0 free) (hl : (own, idx, y, host) ∈ ns_M) (hq : (Cond.code y yc yn yr ∈ lw_g ∧ Cond.static y ∈ lw_g ∧ Cond.initialized CN ∈ lw_g) ∧ y.cls = CN ∧ y.cls ≠ "java/lang/invoke/MethodHandle" ∧ y.cls ≠ "java/lang/invoke/VarHandle" ∧ (parseMethodDescriptor y.desc).map (fun d => d.parameters.length) = some n)
    (hR : (rm.cells = 0 ∧ rm.slots = 0) ∧ rm.frames + 1 ≤ R.frames ∧ 8 + (yn + 11) + rm.locals ≤ R.locals) (isC : List Nat) (hnd : va_nd isC = true) (hC : isC.map (fun i => w[i]?) = wc.map some)
    (hn : As.length = n) (hst : st0 = As.reverse ++ rest) (hW : (rest.map fun v => v.category).sum ≤ 8) (hdg : decode cc pc = .ok (.invokestatic idx, 3)) (hf : cells ≤ R.cells ∧ slots ≤ R.slots) :
    va_Run p l e R s m args below meth c H locs cells slots 0 0 (F0 m pc ls st0) rest (Qc As.toArray) free := by
  have ht := C.2.2.2.2.1
  have hK := C.2.2.2.2.2.1
  have hPc : va_P G.1 vwCl wc H := h.1.sub isC (fm_of_map hC)
  have hDc : va_D (fun _ => True) wc := (h.2.1.sub isC hnd hC).weaken (fun _ _ _ _ => trivial)
  exact va_runSN (As := As) (rest := rest) ⟨C.1, C.2.1, C.2.2.1, C.2.2.2.1, ht⟩ hM ⟨va_cnB n ht (gU hq.1.1) rfl hR.1.1 hR.1.2 (C.2.2.2.2.2.2.2.2.2.1 _ hl) (by rw [hq.2.1]; exact ht _ hq.1.2.2) hq.2.2 hR.2, ht _ hq.1.2.1, trivial⟩ ⟨cB0_blind, fun U hU hW => ⟨rfl, by rw [hU], by rw [hU]; exact hPc, va_K.moved hW.alike hK, hDc, C.2.2.2.2.2.2.2.2.call (w := w) h.2.2 (va_free h.2.1 h.2.2 C.2.2.2.2.2.2.1 isC hC) hW hU⟩⟩ rfl hn hls.1 hst (by show 2 * 0 + _ ≤ 8; omega) hdg hf
variable {ar : Array Value}
theorem g_fi (C : Cx p s m args meth c cc nL own G H0 A) (h : Wd G A H0 w H locs) (isC : List Nat) (hC : isC.map (fun i => w[i]?) = wc.map some) {P : Int32 → Prop}
    (hr : va_Run p l e R s m args below meth c H locs cells slots 0 0 (F0 m pc ls st0) rest (va_Qi (fun r w1 => P r ∧ w1 = wc) (cB1 G (va_A wc H.size)) (va_A wc H.size) ar) (va_A wc H.size))
    (kk : ∀ r : Int32, P r → ∀ (H1 : Heap) (locs1 : List Loc), Wd G A H0 w H1 locs1 → W p l e R s m args below meth c H1 locs1 cells slots Q (F0 m (pc + 3) ls (.int r :: rest))) : W p l e R s m args below meth c H locs cells slots Q (F0 m pc ls st0) := by
  have hF := va_free h.2.1 h.2.2 C.2.2.2.2.2.2.1 isC hC
  refine va_calli hr h.2.2 (fun q _ h9 => hF q h9) hF (fun r u t H1 locs1 ht hvm hw hB hz hk hS => ?_)
  obtain ⟨hp, rfl⟩ := hw
  obtain ⟨hP1, -⟩ := hB
  rw [ht] at hP1
  exact kk r hp H1 locs1 (h.ro isC hC hk hP1 hS)
theorem g_fl (C : Cx p s m args meth c cc nL own G H0 A) (h : Wd G A H0 w H locs) (isC : List Nat) (hC : isC.map (fun i => w[i]?) = wc.map some) {P : Int64 → Prop}
    (hr : va_Run p l e R s m args below meth c H locs cells slots 0 0 (F0 m pc ls st0) rest (va_Ql (fun r w1 => P r ∧ w1 = wc) (cB1 G (va_A wc H.size)) (va_A wc H.size) ar) (va_A wc H.size))
    (kk : ∀ r : Int64, P r → ∀ (H1 : Heap) (locs1 : List Loc), Wd G A H0 w H1 locs1 → W p l e R s m args below meth c H1 locs1 cells slots Q (F0 m (pc + 3) ls (.long r :: rest))) : W p l e R s m args below meth c H locs cells slots Q (F0 m pc ls st0) := by
  have hF := va_free h.2.1 h.2.2 C.2.2.2.2.2.2.1 isC hC
  refine va_calll hr h.2.2 (fun q _ h9 => hF q h9) hF (fun r u t H1 locs1 ht hvm hw hB hz hk hS => ?_)
  obtain ⟨hp, rfl⟩ := hw
  obtain ⟨hP1, -⟩ := hB
  rw [ht] at hP1
  exact kk r hp H1 locs1 (h.ro isC hC hk hP1 hS)
theorem g_fiw (C : Cx p s m args meth c cc nL own G H0 A) (h : Wd G A H0 w H locs) (isC isR perm : List Nat) (hC : isC.map (fun i => w[i]?) = wc.map some) (hR : isR.map (fun i => w[i]?) = wr.map some) (hn : va_nd isR = true) (hdis : ∀ i ∈ isR, i ∉ isC) (hnp : va_nd perm = true) {S : Type} {P : Int32 → S → Prop} {ww w2 : S → va_W} (hp : ∀ u, perm.map (fun i => (wr ++ ww u)[i]?) = (w2 u).map some)
    (hr : va_Run p l e R s m args below meth c H locs cells slots 0 0 (F0 m pc ls st0) rest (va_Qi (fun r w1 => ∃ u : S, P r u ∧ w1 = ww u) (cB1 G (va_A wc H.size)) (va_A wc H.size) ar) (va_A wc H.size))
    (kk : ∀ (r : Int32) (u : S), P r u → ∀ (H1 : Heap) (locs1 : List Loc), Wd G A H0 (w2 u) H1 locs1 → W p l e R s m args below meth c H1 locs1 cells slots Q (F0 m (pc + 3) ls (.int r :: rest))) : W p l e R s m args below meth c H locs cells slots Q (F0 m pc ls st0) := by
  have hF := va_free h.2.1 h.2.2 C.2.2.2.2.2.2.1 isC hC
  refine va_calli hr h.2.2 (fun q _ h9 => hF q h9) hF (fun r u t H1 locs1 ht hvm hw hB hz hk hS => ?_)
  obtain ⟨u, hp1, rfl⟩ := hw
  obtain ⟨hP1, hD1⟩ := hB
  rw [ht] at hP1
  exact kk r u hp1 H1 locs1 (h.rw C.2.2.2.2.2.2.1 isC isR perm hC hR hn hdis (hp u) hnp hk hP1 hD1 hS)
theorem g_fvw (C : Cx p s m args meth c cc nL own G H0 A) (h : Wd G A H0 w H locs) (isC isR perm : List Nat) (hC : isC.map (fun i => w[i]?) = wc.map some) (hR : isR.map (fun i => w[i]?) = wr.map some) (hn : va_nd isR = true) (hdis : ∀ i ∈ isR, i ∉ isC) (hnp : va_nd perm = true) {S : Type} {P : S → Prop} {ww w2 : S → va_W} (hp : ∀ u, perm.map (fun i => (wr ++ ww u)[i]?) = (w2 u).map some)
    (hr : va_Run p l e R s m args below meth c H locs cells slots 0 0 (F0 m pc ls st0) rest (va_Qv (fun w1 => ∃ u : S, P u ∧ w1 = ww u) (cB1 G (va_A wc H.size)) (va_A wc H.size) ar) (va_A wc H.size))
    (kk : ∀ (u : S), P u → ∀ (H1 : Heap) (locs1 : List Loc), Wd G A H0 (w2 u) H1 locs1 → W p l e R s m args below meth c H1 locs1 cells slots Q (F0 m (pc + 3) ls rest)) : W p l e R s m args below meth c H locs cells slots Q (F0 m pc ls st0) := by
  have hF := va_free h.2.1 h.2.2 C.2.2.2.2.2.2.1 isC hC
  refine va_callv hr h.2.2 (fun q _ h9 => hF q h9) hF (fun u t H1 locs1 ht hvm hw hB hz hk hS => ?_)
  obtain ⟨u, hp1, rfl⟩ := hw
  obtain ⟨hP1, hD1⟩ := hB
  rw [ht] at hP1
  exact kk u hp1 H1 locs1 (h.rw C.2.2.2.2.2.2.1 isC isR perm hC hR hn hdis (hp u) hnp hk hP1 hD1 hS)
theorem g_iret {post : Int32 → va_W → Prop} (C : Cx p s m args meth c cc nL own G s.heap A) (h : Wd G A s.heap w H locs) (hr : meth.sig.returnType = some .int) {v : Int32} (hp : post v w) (hdg : decode cc pc = .ok (.ireturn, 1)) : W p l e R s m args below meth c H locs 0 0 (MQ below (va_Qi post (cB1 G A) A) args s 0 0 A) (F0 m pc ls [.int v]) :=
  W.iret C.1 C.2.1 hr (fun t ht hW => ⟨⟨v, w, rfl, hp, by rw [ht]; exact h.1, h.2.1⟩, h.2.2.F ht⟩) h.2.2.2.2 hdg C.2.2.2.2.2.2.2.1
theorem g_zret {post : Int32 → va_W → Prop} (C : Cx p s m args meth c cc nL own G s.heap A) (h : Wd G A s.heap w H locs) {ty : FieldType} (hr : meth.sig.returnType = some ty) {v : Int32} (hn : narrow ty (.int v) = .int v) (hp : post v w) (hdg : decode cc pc = .ok (.ireturn, 1)) : W p l e R s m args below meth c H locs 0 0 (MQ below (va_Qi post (cB1 G A) A) args s 0 0 A) (F0 m pc ls [.int v]) :=
  W.zret C.1 C.2.1 hr hn (fun t ht hW => ⟨⟨v, w, rfl, hp, by rw [ht]; exact h.1, h.2.1⟩, h.2.2.F ht⟩) h.2.2.2.2 hdg C.2.2.2.2.2.2.2.1
theorem g_lret {post : Int64 → va_W → Prop} (C : Cx p s m args meth c cc nL own G s.heap A) (h : Wd G A s.heap w H locs) (hr : meth.sig.returnType = some .long) {v : Int64} (hp : post v w) (hdg : decode cc pc = .ok (.lreturn, 1)) : W p l e R s m args below meth c H locs 0 0 (MQ below (va_Ql post (cB1 G A) A) args s 0 0 A) (F0 m pc ls [.long v]) :=
  W.lret C.1 C.2.1 hr (fun t ht hW => ⟨⟨v, w, rfl, hp, by rw [ht]; exact h.1, h.2.1⟩, h.2.2.F ht⟩) h.2.2.2.2 hdg C.2.2.2.2.2.2.2.1
theorem g_vret {post : va_W → Prop} (C : Cx p s m args meth c cc nL own G s.heap A) (h : Wd G A s.heap w H locs) (hr : meth.sig.returnType = none) (hp : post w) (hdg : decode cc pc = .ok (.return_, 1)) : W p l e R s m args below meth c H locs 0 0 (MQ below (va_Qv post (cB1 G A) A) args s 0 0 A) (F0 m pc ls []) :=
  W.vret C.1 C.2.1 hr (fun t ht hW => ⟨⟨w, rfl, hp, by rw [ht]; exact h.1, h.2.1⟩, h.2.2.F ht⟩) h.2.2.2.2 hdg C.2.2.2.2.2.2.2.1
end Rows8
