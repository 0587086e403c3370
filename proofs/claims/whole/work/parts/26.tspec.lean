/-! a text's tokens -/
def scn (P : Int32 → Bool) (f : Nat → Int32) (n : Nat) : Nat → Nat → Nat
  | 0, i => i
  | d + 1, i => if i < n ∧ P (f i) = true then scn P f n d (i + 1) else i
def scan (P : Int32 → Bool) (f : Nat → Int32) (n i : Nat) : Nat := scn P f n (n - i) i
def isSp (c : Int32) : Bool := decide (c = 32)
def isLe (c : Int32) : Bool := decide (97 ≤ c) && decide (c ≤ 122)
def isFi (c : Int32) : Bool := decide (48 ≤ c) && decide (c ≤ 57)
def tkT (f : Nat → Int32) (n s : Nat) : Int32 := if n ≤ s then 0 else if isLe (f s) then 1 else if isFi (f s) then (if scan isFi f n s - s ≤ 2 then 2 else 4) else if f s = 59 then 3 else 4
def tkE (f : Nat → Int32) (n s : Nat) : Nat := if n ≤ s then s else if isLe (f s) then scan isLe f n s else if isFi (f s) then scan isFi f n s else s + 1
def numF (f : Nat → Int32) (s : Nat) : Nat → Int32
  | 0 => 0
  | k + 1 => 10 * numF f s k + f (s + k) - 48
theorem scan_step {P : Int32 → Bool} {f : Nat → Int32} {n i : Nat} (h : i < n) (hp : P (f i) = true) : scan P f n i = scan P f n (i + 1) := by
  unfold scan
  rw [show n - i = (n - (i + 1)) + 1 by omega, scn, if_pos ⟨h, hp⟩]
theorem scan_stop {P : Int32 → Bool} {f : Nat → Int32} {n i : Nat} (h : ¬ (i < n ∧ P (f i) = true)) : scan P f n i = i := by
  unfold scan
  cases n - i with
  | zero => rfl
  | succ d => rw [scn, if_neg h]
theorem scn_b {P : Int32 → Bool} {f : Nat → Int32} {n : Nat} (d : Nat) : ∀ i, d ≤ n - i → i ≤ n → i ≤ scn P f n d i ∧ scn P f n d i ≤ n := by
  induction d with
  | zero => intro i _ h; exact ⟨Nat.le_refl _, h⟩
  | succ d ih =>
    intro i hd h
    rw [scn]
    split
    · next q =>
      have q1 : i < n := q.1
      have z := ih (i + 1) (by omega) (by omega)
      exact ⟨Nat.le_trans (Nat.le_succ i) z.1, z.2⟩
    · exact ⟨Nat.le_refl _, h⟩
theorem scan_b {P : Int32 → Bool} {f : Nat → Int32} {n i : Nat} (h : i ≤ n) : i ≤ scan P f n i ∧ scan P f n i ≤ n := scn_b (n - i) i (Nat.le_refl _) h
theorem tk_end {f : Nat → Int32} {n s : Nat} (h : n ≤ s) : tkT f n s = 0 ∧ tkE f n s = s := by simp [tkT, tkE, h]
theorem tk_le {f : Nat → Int32} {n s : Nat} (h : s < n) (hl : isLe (f s) = true) : tkT f n s = 1 ∧ tkE f n s = scan isLe f n s := by
  simp [tkT, tkE, Nat.not_le.mpr h, hl]
theorem tk_fi {f : Nat → Int32} {n s : Nat} (h : s < n) (hl : isLe (f s) = false) (hf : isFi (f s) = true) : tkT f n s = (if scan isFi f n s - s ≤ 2 then 2 else 4) ∧ tkE f n s = scan isFi f n s := by
  simp [tkT, tkE, Nat.not_le.mpr h, hl, hf]
theorem tk_ot {f : Nat → Int32} {n s : Nat} (h : s < n) (hl : isLe (f s) = false) (hf : isFi (f s) = false) : tkT f n s = (if f s = 59 then 3 else 4) ∧ tkE f n s = s + 1 := by
  simp [tkT, tkE, Nat.not_le.mpr h, hl, hf]
theorem tkE_b {f : Nat → Int32} {n s : Nat} (h : s ≤ n) : s ≤ tkE f n s ∧ tkE f n s ≤ n := by
  unfold tkE
  have h1 := scan_b (P := isLe) (f := f) h
  have h2 := scan_b (P := isFi) (f := f) h
  (repeat' split) <;> omega
theorem sp_t {c : Int32} (h : c = 32) : isSp c = true := decide_eq_true h
theorem sp_f {c : Int32} (h : ¬ c = 32) : isSp c = false := decide_eq_false h
theorem len_eq {e s : Nat} (h : s ≤ e) : nI e - nI s = nI (e - s) := pk_sub h
section VS
variable {p : Program} {l : Launch} {e : Env} {R : Room} {s : State} {m : MethodId} {args : Array Value} {below : List Frame} {meth : Method} {c : Code} {H : Heap} {locs : List Loc} {cells slots : Nat}
variable {cc : ByteArray} {nL : Nat} {own : String} {G : gT} {A : Nat → Prop} {w wc : va_W} {pc : Nat} {ls : Array Slot} {rest st0 : List Value} {lv : List (Nat × Value)}
/-- a call on one of the String constants -/
theorem g_runVS (C : Cx p s m args meth c cc nL own G s.heap A) (h : Wd G A s.heap w H locs) (hls : lv_has ls nL lv) {y : MethodName} {yc : ByteArray} {yn n idx i : Nat} {yr : Option FieldType} {rm : Room} {As : List Value} {Qc : Array Value → State → Outcome → State → Prop} {free : Addr → Prop}
    (hM : Met l y (wU y yc yn yr) rm (va_Pc (.ref (G.2.2.2.1 i) :: As) (cB0 G wc H.size)) Qc 0 0 free) (hl : Cond.methodLink own idx y ∈ lw_g) (hq : (Cond.code y yc yn yr ∈ lw_g ∧ Cond.instanceMethod y ∈ lw_g ∧ Cond.selects RJ0 y y ∈ lw_g ∧ Cond.initialized RJ0 ∈ lw_g) ∧ y.cls = RJ0 ∧ y.cls ≠ "java/lang/invoke/MethodHandle" ∧ y.cls ≠ "java/lang/invoke/VarHandle" ∧ (parseMethodDescriptor y.desc).map (fun d => d.parameters.length) = some n)
    (hR : (rm.cells = 0 ∧ rm.slots = 0) ∧ rm.frames + 1 ≤ R.frames ∧ 8 + (yn + 11) + rm.locals ≤ R.locals) (isC : List Nat) (hnd : va_nd isC = true) (hC : isC.map (fun i => w[i]?) = wc.map some) (hi : i < 7)
    (hn : As.length = n) (hst : st0 = As.reverse ++ .ref (G.2.2.2.1 i) :: rest) (hW : (rest.map fun v => v.category).sum ≤ 8) (hdg : decode cc pc = .ok (.invokevirtual idx, 3)) (hf : cells ≤ R.cells ∧ slots ≤ R.slots) :
    va_Run p l e R s m args below meth c H locs cells slots 0 0 (F0 m pc ls st0) rest (Qc (Value.ref (G.2.2.2.1 i) :: As).toArray) free := by
  have ht := C.2.2.2.2.1
  have hK := C.2.2.2.2.2.1
  have hPc : va_P G.1 vwCl wc H := h.1.sub isC (fm_of_map hC)
  have hDc : va_D (fun _ => True) wc := (h.2.1.sub isC hnd hC).weaken (fun _ _ _ _ => trivial)
  have hE := C.2.2.2.2.2.2.2.2.2.2.2.1
  exact va_runV (As := As) (rest := rest) (C := RJ0) ⟨C.1, C.2.1, C.2.2.1, C.2.2.2.1, ht⟩ hM ⟨callB_of n ht (gU hq.1.1) rfl hR.1.1 hR.1.2 (by rw [hq.2.1]; exact ht _ hq.1.2.2.2) (ht _ hl) hq.2.2 hR.2, ht _ hq.1.2.1, ht _ hq.1.2.2.1⟩ ⟨cB0_blind, vk_recv hE hi h.2.2, fun U hU hW => ⟨rfl, by rw [hU], by rw [hU]; exact hPc, va_K.moved hW.alike hK, hDc, C.2.2.2.2.2.2.2.2.call (w := w) h.2.2 (va_free h.2.1 h.2.2 C.2.2.2.2.2.2.1 isC hC) hW hU⟩⟩ rfl hn hls.1 hst (by show 2 * 0 + _ ≤ 8; omega) hdg hf
end VS
/-- the char at k of the i-th word -/
def chS (i k : Nat) : Int32 := (sk_b.getD i []).getD k 0
theorem ch_ok : ∀ i, i < 7 → ∀ k, k < 7 → (((sk_b.getD i []).getD k 0 &&& 255).toUInt32 % 65536).toInt32 = chS i k := by decide +kernel
theorem sk_len : ∀ i, i < 7 → sk_n.getD i 0 < 7 := by decide +kernel
/-- the token is the i-th word -/
def wrd (f : Nat → Int32) (tok : Int32) (s e i : Nat) : Bool := decide (tok = 1) && (decide (e - s = sk_n.getD i 0) && allB (fun k => decide (f (s + k) = chS i k)) (sk_n.getD i 0))
theorem nI_shr0 {n : Nat} (h : n < 2 ^ 31) : nI n >>> ((0 : Int32) &&& 31) = nI n := sc_shr0 h
theorem num_if {x : Nat} (h : x < 1000) {a b : Int32} : (if nI x ≤ 2 then a else b) = if x ≤ 2 then a else b := by
  have e : nI x ≤ 2 ↔ x ≤ 2 := nI_leI (a := x) (b := 2) (by omega) (by omega)
  by_cases q : x ≤ 2
  · rw [if_pos q, if_pos (e.mpr q)]
  · rw [if_neg q, if_neg (fun z => q (e.mp z))]
theorem ch_rg : ∀ i, i < 7 → ∀ k, k < 7 → chS i k = nI (chS i k).toNatClampNeg ∧ (chS i k).toNatClampNeg < 65536 := by decide +kernel
theorem ch_nar {i k : Nat} (hi : i < 7) (hk : k < 7) : narrow .char (.int (chS i k)) = .int (chS i k) := by
  obtain ⟨h1, h2⟩ := ch_rg i hi k hk
  rw [h1]; exact (pk_charN h2).1
def nx (f : Nat → Int32) (n s : Nat) : Nat := scan isSp f n (tkE f n s)
theorem nx_b {f : Nat → Int32} {n s : Nat} (h : s ≤ n) : nx f n s ≤ n := (scan_b (tkE_b h).2).2
def nmb (f : Nat → Int32) (n s : Nat) : Int32 := if tkT f n s = 2 then numF f s (tkE f n s - s) else -1
def iw (x lo hi : Int32) : Bool := decide (lo ≤ x) && decide (x ≤ hi)
