/-! what makes: constructors -/
/-- contracts of constructors: mc new cells of ms slots -/
def MN (l : Launch) (G : gT) (y : MethodName) (cc : ByteArray) (n : Nat) (rm : Room) (av : List Value) (w0 : va_W) (post : va_W → Prop) (mc ms : Nat) : Prop :=
  ∀ sz : Nat, Met l y (wU y cc n none) rm (va_Pc av (cB0 G w0 sz)) (va_Qv post (cB1 G (va_A w0 sz)) (va_A w0 sz)) mc ms (va_A w0 sz)
theorem MN.mk {l : Launch} {G : gT} {y : MethodName} {cc : ByteArray} {n : Nat} {rm : Room} {av : List Value} {w0 : va_W} {post : va_W → Prop} {mc ms : Nat}
    (hy : plainName y.cls = true) (hnm : y.name = "<init>") (hn : (lg_sl av).length ≤ n)
    (body : ∀ p e s m args below meth c A ls, Cx p s m args meth c cc n y.cls G s.heap A → meth.sig.returnType = none → meth.name = "<init>" → Wd G A s.heap w0 s.heap [] → lv_has ls n (lv_args 0 av) →
      W p l e rm s m args below meth c s.heap [] 0 0 (MQ below (va_Qv post (cB1 G A) A) args s mc ms A) (F0 m 0 ls [])) : MN l G y cc n rm av w0 post mc ms := by
  intro sz
  refine Met.ofW (cc := cc) (maxL := n) (ret := none) hy rfl ?_
  intro p e s m args below meth c s₁ B hml hv
  obtain ⟨rfl, hsz, hP, hK, hD0, hE⟩ := hv
  subst hsz
  have hD := hD0.self (sz := s.heap.size)
  have hts := atoms_spec (ws := wU y cc n none) B.pre
  have hown : s.vm.findClass y.cls = some m.cls := findClass_of_methodNamed B.named
  have hin : meth.name = "<init>" := (name_of_methodNamed B.named B.method).1.trans hnm
  rw [lg_entry_eq]
  exact body p e s m av.toArray below meth c (va_A w0 s.heap.size) _ ⟨B.exec, B.bytes, hml, hown, fun w h => hts w (List.mem_cons_of_mem _ h), hK, fun q h => Or.inr h, B.notSynchronized, hE⟩ B.returns hin ⟨hP, hD, va_S.rf⟩ (lv_entry av hn)
section Rows11
variable {p : Program} {l : Launch} {e : Env} {R : Room} {s : State} {m : MethodId} {args : Array Value} {below : List Frame} {meth : Method} {c : Code} {H : Heap} {locs : List Loc} {cells slots mc ms : Nat} {Q : State → Prop}
variable {cc : ByteArray} {nL : Nat} {own : String} {G : gT} {H0 : Heap} {A : Nat → Prop} {w w' wc wr : va_W} {pc : Nat} {ls : Array Slot} {rest st0 : List Value} {lv : List (Nat × Value)}
theorem g_obj (C : Cx p s m args meth c cc nL own G H0 A) (hls : lv_has ls nL lv) {idx : Nat} (hl : Cond.methodLink own idx objectInit ∈ lw_g) {a : Nat} (hf : 1 ≤ R.frames ∧ (rest.map fun v => v.category).sum + 12 ≤ R.locals) (hdg : decode cc pc = .ok (.invokespecial idx, 3))
    (kk : W p l e R s m args below meth c H locs cells slots Q (F0 m (pc + 3) ls rest)) : W p l e R s m args below meth c H locs cells slots Q (F0 m pc ls (.ref a :: rest)) :=
  W.objInit C.1 C.2.1 C.2.2.2.1 (C.2.2.2.2.1 _ hl) (C.2.2.2.2.1 _ k_in_objectInit) (C.2.2.2.2.1 _ k_co_objectInit) rfl (hls.1.trans C.2.2.1.symm) rfl hdg hf.1 (by show 2 * 0 + _ + 12 ≤ _; omega) kk
theorem g_newc (C : Cx p s m args meth c cc nL own G H0 A) (h : Wd G A H0 w H locs) {ci idx N : Nat} {CN : String} {T : u_T} (hin : ∀ w ∈ u_ws CN T N, w ∈ lw_g) {ty : Nat → FieldType} (hty : ∀ k, k < N → parseFieldDescriptor (T k).2.2.1 = some (ty k)) (hcl : Cond.classLink own idx CN ∈ lw_g) (hit : Cond.instantiable CN N ∈ lw_g) (hii : Cond.initialized CN ∈ lw_g) (hc : vwCl[ci]? = some (CN, T, N)) {fs : List Value} (hfs : ∀ j, j < N → defaultValue (ty j) = vp_V fs j) (hcs : cells + 1 ≤ R.cells ∧ slots + N ≤ R.slots) (hdg : decode cc pc = .ok (.new idx, 3))
    (kk : ∀ (q : Nat) (H1 : Heap), Wd G A H0 (w ++ [(q, .inr (ci, fs))]) H1 locs → W p l e R s m args below meth c H1 locs (cells + 1) (slots + N) Q (F0 m (pc + 3) ls (.ref q :: rest))) : W p l e R s m args below meth c H locs cells slots Q (F0 m pc ls rest) :=
  va_new C.1 C.2.1 C.2.2.2.2.1 hin ty hty C.2.2.2.1 (C.2.2.2.2.1 _ hcl) (C.2.2.2.2.1 _ hit) (C.2.2.2.2.1 _ hii) C.2.2.2.2.2.1 h.1 h.2.1 h.2.2 C.2.2.2.2.2.2.1 hc hfs hcs.1 hcs.2 hdg (fun q H1 a b d => kk q H1 ⟨a, b, d⟩)
theorem g_newI (C : Cx p s m args meth c cc nL own G H0 A) (h : Wd G A H0 w H locs) {n : Int32} {N : Nat} (hn : ¬ n < 0) (hN : n.toNatClampNeg = N) (hb : N ≤ 100000) (hcs : cells + 1 ≤ R.cells ∧ slots + N ≤ R.slots) (hdg : decode cc pc = .ok (.newarray .int, 2))
    (kk : ∀ (q : Nat) (H1 : Heap), Wd G A H0 (w ++ [(q, .inl (G.2.1, N, .inl (fun _ => 0)))]) H1 locs → W p l e R s m args below meth c H1 locs (cells + 1) (slots + N) Q (F0 m (pc + 2) ls (.ref q :: rest))) : W p l e R s m args below meth c H locs cells slots Q (F0 m pc ls (.int n :: rest)) := by
  have hK := C.2.2.2.2.2.1
  refine va_newa (atype := .int) (a0 := (N, .inl (fun _ => 0))) C.1 C.2.1 (C.2.2.2.2.1 _ k_ac_int) rfl hK h.1 h.2.1 h.2.2 C.2.2.2.2.2.2.1 (fun cA => by rw [vp_cell_i]; rfl) hn hN (by show N * 4 ≤ _; omega) hcs.1 hcs.2 hdg (fun q cA H1 hK2 a b d => ?_)
  have e1 : s.vm.findClass ("[" ++ FieldType.int.toString) = some cA := (hK2.2 2 (cA, .int) rfl).2
  have e0 : s.vm.findClass ("[" ++ FieldType.int.toString) = some G.2.1 := (hK.2 0 (G.2.1, .int) rfl).2
  obtain rfl : G.2.1 = cA := Option.some.inj (e0.symm.trans e1)
  exact kk q H1 ⟨a, b, d⟩
theorem g_newZ (C : Cx p s m args meth c cc nL own G H0 A) (h : Wd G A H0 w H locs) {n : Int32} {N : Nat} (hn : ¬ n < 0) (hN : n.toNatClampNeg = N) (hb : N ≤ 100000) (hcs : cells + 1 ≤ R.cells ∧ slots + N ≤ R.slots) (hdg : decode cc pc = .ok (.newarray .boolean, 2))
    (kk : ∀ (q : Nat) (H1 : Heap), Wd G A H0 (w ++ [(q, .inl (G.2.2.1, N, .inl (fun _ => 0)))]) H1 locs → W p l e R s m args below meth c H1 locs (cells + 1) (slots + N) Q (F0 m (pc + 2) ls (.ref q :: rest))) : W p l e R s m args below meth c H locs cells slots Q (F0 m pc ls (.int n :: rest)) := by
  have hK := C.2.2.2.2.2.1
  refine va_newa (atype := .boolean) (a0 := (N, .inl (fun _ => 0))) C.1 C.2.1 (C.2.2.2.2.1 _ k_ac_boolean) rfl hK h.1 h.2.1 h.2.2 C.2.2.2.2.2.2.1 (fun cA => by rw [vp_cell_i]; rfl) hn hN (by show N * 1 ≤ _; omega) hcs.1 hcs.2 hdg (fun q cA H1 hK2 a b d => ?_)
  have e1 : s.vm.findClass ("[" ++ FieldType.boolean.toString) = some cA := (hK2.2 2 (cA, .boolean) rfl).2
  have e0 : s.vm.findClass ("[" ++ FieldType.boolean.toString) = some G.2.2.1 := (hK.2 1 (G.2.2.1, .boolean) rfl).2
  obtain rfl : G.2.2.1 = cA := Option.some.inj (e0.symm.trans e1)
  exact kk q H1 ⟨a, b, d⟩
theorem g_putF (C : Cx p s m args meth c cc nL own G H0 A) (hnm0 : meth.name = "<init>") (h : Wd G A H0 w H locs) (q0 : Nat) {a ci k idx N : Nat} {CN : String} {T : u_T} {fs : List Value} {v : Value} {ty : FieldType} (he : w[q0]? = some (a, .inr (ci, fs))) (hc : vwCl[ci]? = some (CN, T, N)) (hin : ∀ w ∈ u_ws CN T N, w ∈ lw_g) {ty0 : Nat → FieldType} (hty : ∀ k, k < N → parseFieldDescriptor (T k).2.2.1 = some (ty0 k)) (hnm : ∀ a, a < N → ∀ b, b < N → a ≠ b → (T a).2.1 ≠ (T b).2.1) (hk : k < N) (hl : Cond.fieldLink own idx (T k).1 (T k).2.1 (T k).2.2.1 ∈ lw_g) (hfin : (T k).2.2.2 = true) (hdecl : (T k).1 = own) (hd : ty0 k = ty) (hn : narrow ty v = v) (hfit : fits ty v = true) (hlen : k < fs.length) (hw : w.set q0 (a, .inr (ci, fs.set k v)) = w') (hdg : decode cc pc = .ok (.putfield idx, 3))
    (kk : ∀ (H1 : Heap) (locs1 : List Loc), Wd G A H0 w' H1 locs1 → W p l e R s m args below meth c H1 locs1 cells slots Q (F0 m (pc + 3) ls rest)) : W p l e R s m args below meth c H locs cells slots Q (F0 m pc ls (v :: .ref a :: rest)) :=
  va_putF C.1 C.2.1 C.2.2.2.2.1 hin ty0 hty hnm C.2.2.2.1 C.2.2.2.2.2.1 h.1 h.2.1 h.2.2 q0 he hc k hk (C.2.2.2.2.1 _ hl) (fun _ h9 => h9) hfin hnm0 hdecl ((hty k hk).trans (congrArg some hd)) hn hfit hlen hdg (fun H1 locs1 a b d => kk H1 locs1 (by rw [← hw]; exact ⟨a, b, d⟩))
theorem g_runI (C : Cx p s m args meth c cc nL own G H0 A) (h : Wd G A H0 w H locs) (hls : lv_has ls nL lv) {y : MethodName} {yc : ByteArray} {yn n idx b : Nat} {rm : Room} {As : List Value} {CN : String} {Qc : Array Value → State → Outcome → State → Prop} {free : Addr → Prop}
    (hM : Met l y (wU y yc yn none) rm (va_Pc (.ref b :: As) (cB0 G wc H.size)) Qc mc ms free) (hl : Cond.methodLink own idx y ∈ lw_g) (hq : (Cond.code y yc yn none ∈ lw_g ∧ Cond.instanceMethod y ∈ lw_g ∧ Cond.initialized CN ∈ lw_g) ∧ y.cls = CN ∧ y.name = "<init>" ∧ y.cls ≠ "java/lang/invoke/MethodHandle" ∧ y.cls ≠ "java/lang/invoke/VarHandle" ∧ (parseMethodDescriptor y.desc).map (fun d => d.parameters.length) = some n)
    (hR : (rm.cells = mc ∧ rm.slots = ms) ∧ rm.frames + 1 ≤ R.frames ∧ 8 + (yn + 11) + rm.locals ≤ R.locals) (isC : List Nat) (hnd : va_nd isC = true) (hC : isC.map (fun i => w[i]?) = wc.map some)
    (hn : As.length = n) (hst : st0 = As.reverse ++ .ref b :: rest) (hW : (rest.map fun v => v.category).sum ≤ 8) (hdg : decode cc pc = .ok (.invokespecial idx, 3)) (hf : cells + mc ≤ R.cells ∧ slots + ms ≤ R.slots) :
    va_Run p l e R s m args below meth c H locs cells slots mc ms (F0 m pc ls st0) rest (Qc (Value.ref b :: As).toArray) free := by
  have ht := C.2.2.2.2.1
  have hK := C.2.2.2.2.2.1
  have hPc : va_P G.1 vwCl wc H := h.1.sub isC (fm_of_map hC)
  have hDc : va_D (fun _ => True) wc := (h.2.1.sub isC hnd hC).weaken (fun _ _ _ _ => trivial)
  exact va_runI (As := As) (rest := rest) ⟨C.1, C.2.1, C.2.2.1, C.2.2.2.1, ht⟩ hM (cwI n ht (gU hq.1.1) rfl hR.1.1 hR.1.2 (by rw [hq.2.1]; exact ht _ hq.1.2.2) (ht _ hl) (ht _ hq.1.2.1) hq.2.2.1 hq.2.2.2 hR.2) ⟨cB0_blind, fun U hU hW => ⟨rfl, by rw [hU], by rw [hU]; exact hPc, va_K.moved hW.alike hK, hDc, C.2.2.2.2.2.2.2.2.call (w := w) h.2.2 (va_free h.2.1 h.2.2 C.2.2.2.2.2.2.1 isC hC) hW hU⟩⟩ rfl hn hls.1 hst (by show 2 * 0 + _ ≤ 8; omega) hdg hf
theorem g_runIN (C : Cx p s m args meth c cc nL own G H0 A) (h : Wd G A H0 w H locs) (hls : lv_has ls nL lv) {y : MethodName} {yc : ByteArray} {yn n idx b : Nat} {rm : Room} {As : List Value} {CN host : String} {Qc : Array Value → State → Outcome → State → Prop} {free : Addr → Prop}
    (hM : Met l y (wU y yc yn none) rm (va_Pc (.ref b :: As) (cB0 G wc H.size)) Qc mc ms free) (hl : (own, idx, y, host) ∈ ns_M) (hq : (Cond.code y yc yn none ∈ lw_g ∧ Cond.instanceMethod y ∈ lw_g ∧ Cond.initialized CN ∈ lw_g) ∧ y.cls = CN ∧ y.name = "<init>" ∧ y.cls ≠ "java/lang/invoke/MethodHandle" ∧ y.cls ≠ "java/lang/invoke/VarHandle" ∧ (parseMethodDescriptor y.desc).map (fun d => d.parameters.length) = some n)
    (hR : (rm.cells = mc ∧ rm.slots = ms) ∧ rm.frames + 1 ≤ R.frames ∧ 8 + (yn + 11) + rm.locals ≤ R.locals) (isC : List Nat) (hnd : va_nd isC = true) (hC : isC.map (fun i => w[i]?) = wc.map some)
    (hn : As.length = n) (hst : st0 = As.reverse ++ .ref b :: rest) (hW : (rest.map fun v => v.category).sum ≤ 8) (hdg : decode cc pc = .ok (.invokespecial idx, 3)) (hf : cells + mc ≤ R.cells ∧ slots + ms ≤ R.slots) :
    va_Run p l e R s m args below meth c H locs cells slots mc ms (F0 m pc ls st0) rest (Qc (Value.ref b :: As).toArray) free := by
  have ht := C.2.2.2.2.1
  have hK := C.2.2.2.2.2.1
  have hPc : va_P G.1 vwCl wc H := h.1.sub isC (fm_of_map hC)
  have hDc : va_D (fun _ => True) wc := (h.2.1.sub isC hnd hC).weaken (fun _ _ _ _ => trivial)
  exact va_runIN (As := As) (rest := rest) ⟨C.1, C.2.1, C.2.2.1, C.2.2.2.1, ht⟩ hM ⟨va_cnB n ht (gU hq.1.1) rfl hR.1.1 hR.1.2 (C.2.2.2.2.2.2.2.2.2.1 _ hl) (by rw [hq.2.1]; exact ht _ hq.1.2.2) hq.2.2.2 hR.2, hq.2.2.1, ht _ hq.1.2.1⟩ ⟨cB0_blind, fun U hU hW => ⟨rfl, by rw [hU], by rw [hU]; exact hPc, va_K.moved hW.alike hK, hDc, C.2.2.2.2.2.2.2.2.call (w := w) h.2.2 (va_free h.2.1 h.2.2 C.2.2.2.2.2.2.1 isC hC) hW hU⟩⟩ rfl hn hls.1 hst (by show 2 * 0 + _ ≤ 8; omega) hdg hf
variable {ar : Array Value}
theorem g_fvN (C : Cx p s m args meth c cc nL own G H0 A) (h : Wd G A H0 w H locs) (isC isR perm : List Nat) (hC : isC.map (fun i => w[i]?) = wc.map some) (hR : isR.map (fun i => w[i]?) = wr.map some) (hn : va_nd isR = true) (hdis : ∀ i ∈ isR, i ∉ isC) (hnp : va_nd perm = true) {S : Type} {ww w2 : S → va_W} (hp : ∀ u, perm.map (fun i => (wr ++ ww u)[i]?) = (w2 u).map some)
    (hr : va_Run p l e R s m args below meth c H locs cells slots mc ms (F0 m pc ls st0) rest (va_Qv (fun w1 => ∃ u : S, w1 = ww u) (cB1 G (va_A wc H.size)) (va_A wc H.size) ar) (va_A wc H.size))
    (kk : ∀ (u : S) (H1 : Heap) (locs1 : List Loc), Wd G A H0 (w2 u) H1 locs1 → W p l e R s m args below meth c H1 locs1 (cells + mc) (slots + ms) Q (F0 m (pc + 3) ls rest)) : W p l e R s m args below meth c H locs cells slots Q (F0 m pc ls st0) := by
  have hF := va_free h.2.1 h.2.2 C.2.2.2.2.2.2.1 isC hC
  refine va_callv hr h.2.2 (fun q _ h9 => hF q h9) hF (fun u t H1 locs1 ht hvm hw hB hz hk hS => ?_)
  obtain ⟨u, rfl⟩ := hw
  obtain ⟨hP1, hD1⟩ := hB
  rw [ht] at hP1
  exact kk u H1 locs1 (h.rw C.2.2.2.2.2.2.1 isC isR perm hC hR hn hdis (hp u) hnp hk hP1 hD1 hS)
theorem g_vretN {post : va_W → Prop} (C : Cx p s m args meth c cc nL own G s.heap A) (h : Wd G A s.heap w H locs) (hr : meth.sig.returnType = none) (hp : post w) (hdg : decode cc pc = .ok (.return_, 1)) : W p l e R s m args below meth c H locs cells slots (MQ below (va_Qv post (cB1 G A) A) args s cells slots A) (F0 m pc ls []) :=
  W.vret C.1 C.2.1 hr (fun t ht hW => ⟨⟨w, rfl, hp, by rw [ht]; exact h.1, h.2.1⟩, h.2.2.F ht⟩) h.2.2.2.2 hdg C.2.2.2.2.2.2.2.1
end Rows11
