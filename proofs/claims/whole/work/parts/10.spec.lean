/-! the words of the document over ints, as the reference spells them -/
/-- how far a cock of this kind and weight flies -/
def fl (kind g x w : Int32) : Int32 :=
  if kind = 1 then (if g < x + w then x + w - g else 0) + 2
  else if kind = 2 then ((if g < x + w then x + w - g else 0) + 1) / 2
  else if kind = 3 then (if g ≤ 2 then (if g < x + w then x + w - g else 0) + 2 + 3 else (if g < x + w then x + w - g else 0) + 2)
  else if kind = 4 then (if (if g < x + w then x + w - g else 0) < x / 2 then x / 2 else (if g < x + w then x + w - g else 0))
  else if kind = 5 then (if g < 2 * ((if g < x + w then x + w - g else 0) + 2) then 2 * ((if g < x + w then x + w - g else 0) + 2) - g else 0)
  else (if g < x + w then x + w - g else 0)
/-- how hard a player of this kind and arm hits at hour t of a day -/
def bl (kind b t : Int32) : Int32 :=
  if kind = 1 then (b + 6 + 1) / 2
  else if kind = 2 then b + 6 + 5
  else if kind = 3 then (if t < 6 then 0 else (b + 6 + 1) / 2)
  else if kind = 4 then (if t - t / 7 * 7 = 0 then 1 else b + 6)
  else if kind = 5 then (if 18 ≤ t then b + 6 + 9 else b + 6 + 5)
  else b + 6
/-- a number in a range -/
def Rg (x : Int32) (lo hi : Int) : Prop := lo ≤ x.toInt ∧ x.toInt ≤ hi
theorem Rg.w {x : Int32} {a b lo hi : Int} (h : Rg x a b) (h1 : lo ≤ a) (h2 : b ≤ hi) : Rg x lo hi := ⟨Int.le_trans h1 h.1, Int.le_trans h.2 h2⟩
theorem Rg.add {x y : Int32} {a b a' b' : Int} (h : Rg x a b) (h' : Rg y a' b') (h1 : -2147483648 ≤ a + a') (h2 : b + b' < 2147483648) : (x + y).toInt = x.toInt + y.toInt ∧ Rg (x + y) (a + a') (b + b') := by
  obtain ⟨p, q⟩ := h; obtain ⟨p', q'⟩ := h'
  have e := fb_addI (x := x) (y := y) (by omega) (by omega)
  exact ⟨e, by rw [Rg, e]; omega⟩
theorem Rg.sub {x y : Int32} {a b a' b' : Int} (h : Rg x a b) (h' : Rg y a' b') (h1 : -2147483648 ≤ a - b') (h2 : b - a' < 2147483648) : (x - y).toInt = x.toInt - y.toInt ∧ Rg (x - y) (a - b') (b - a') := by
  obtain ⟨p, q⟩ := h; obtain ⟨p', q'⟩ := h'
  have e := fb_subI (x := x) (y := y) (by omega) (by omega)
  exact ⟨e, by rw [Rg, e]; omega⟩
/-- the two ways to spell FEATHER -/
theorem fl_feather {g x w : Int32} (hg : Rg g 1 9) (hx : Rg x 0 30) (hw : Rg w (-4) 4) : (if 0 < x + w - g then x + w - g else 0) = (if g < x + w then x + w - g else 0) := by
  obtain ⟨e1, r1⟩ := hx.add hw (by decide) (by decide)
  obtain ⟨e2, r2⟩ := r1.sub hg (by decide) (by decide)
  have h : (0 < x + w - g) ↔ (g < x + w) := by
    rw [fa_lt, fa_lt, e2]
    show (0 : Int) < _ ↔ _
    omega
  by_cases h9 : g < x + w
  · rw [if_pos h9, if_pos (h.mpr h9)]
  · rw [if_neg h9, if_neg (fun q => h9 (h.mp q))]
theorem fl_fe_rg {g x w : Int32} (hg : Rg g 1 9) (hx : Rg x 0 30) (hw : Rg w (-4) 4) : Rg (if g < x + w then x + w - g else 0) 0 33 := by
  obtain ⟨e1, r1⟩ := hx.add hw (by decide) (by decide)
  obtain ⟨e2, r2⟩ := r1.sub hg (by decide) (by decide)
  split
  · next h9 =>
    rw [fa_lt] at h9
    refine ⟨?_, ?_⟩
    · rw [e2]; omega
    · have := r2.2; omega
  · exact ⟨by decide, by decide⟩
theorem fl_oath {f y : Int32} : (if f < y then y else f) = (if f < y then y else f) := rfl
theorem fl_cork {g f : Int32} (hg : Rg g 1 9) (hf : Rg f 0 33) : (if 0 < 2 * (f + 2) - g then 2 * (f + 2) - g else 0) = (if g < 2 * (f + 2) then 2 * (f + 2) - g else 0) := by
  have r0 : Rg 2 2 2 := ⟨by decide, by decide⟩
  obtain ⟨e1, r1⟩ := hf.add r0 (by decide) (by decide)
  have h2 : (2 : Int32).toInt = 2 := by decide
  have e2 : (2 * (f + 2)).toInt = 2 * (f + 2).toInt := by
    have := fb_mulI (x := 2) (y := f + 2) (by rw [h2]; have := r1.1; omega) (by rw [h2]; have := r1.2; omega)
    rw [this, h2]
  have r2 : Rg (2 * (f + 2)) 0 70 := by rw [Rg, e2]; have a := r1.1; have b := r1.2; omega
  obtain ⟨e3, -⟩ := r2.sub hg (by decide) (by decide)
  have h : (0 < 2 * (f + 2) - g) ↔ (g < 2 * (f + 2)) := by
    rw [fa_lt, fa_lt, e3]
    show (0 : Int) < _ ↔ _
    omega
  by_cases h9 : g < 2 * (f + 2)
  · rw [if_pos h9, if_pos (h.mpr h9)]
  · rw [if_neg h9, if_neg (fun q => h9 (h.mp q))]
/-- what one gets who calls or not -/
def gn (own other over others : Int32) : Int32 := (if own = other then -1 else if own = 1 then (if over = 0 then -2 else 2) else (if others = 0 then -2 else 3)) - own
def rs (a b oa ob : Int32) : Bool := decide (gn (1 - a) b oa ob ≤ gn a b oa ob) && decide (gn (1 - b) a ob oa ≤ gn b a ob oa)
theorem z1 {a : Int32} (h : a = 0 ∨ a = 1) : 1 - a = 0 ∨ 1 - a = 1 := by rcases h with rfl | rfl <;> decide
theorem bI_and {P Q : Prop} [Decidable P] [Decidable Q] : (if P then (if Q then (1 : Int32) else 0) else 0) = bI (decide P && decide Q) := by by_cases h : P <;> by_cases h2 : Q <;> simp [h, h2, bI]
theorem bI_or {P Q : Prop} [Decidable P] [Decidable Q] : (if P then (1 : Int32) else if Q then 1 else 0) = bI (decide P || decide Q) := by by_cases h : P <;> by_cases h2 : Q <;> simp [h, h2, bI]
/-- a player's number -/
def okp (n : Nat) (p : Int32) : Bool := decide (0 ≤ p) && decide (p < nI n)
/-- 31 h + v, over a row -/
def fd (h : Int64) (f : Nat → Int32) : Nat → Int64
  | 0 => h
  | k + 1 => 31 * fd h f k + (f k).toInt64
/-- what may be undone: a step comes -/
def pu (u : Nat) (f ck : Nat → Int32) : Nat → Int32 := if 8 ≤ u then va_cpy ck (va_cpy f f 7 0 49) 0 49 7 else va_cpy ck f 0 (u * 7) 7
def pun (u : Nat) : Nat := if 8 ≤ u then 8 else u + 1
theorem nI_dec1 {n : Nat} (h : 0 < n) : nI n - 1 = nI (n - 1) := pk_sub (a := n) (b := 1) h
theorem nI_lit (n : Nat) : (OfNat.ofNat n : Int32) = nI n := rfl
theorem ix_row {k w j L : Nat} (h : k * w + j < L) (hL : L < 2 ^ 31) : vp_in (nI k * nI w + nI j) L ∧ (nI k * nI w + nI j).toNatClampNeg = k * w + j := by
  rw [pk_mul, nI_add]; exact ⟨vp_in_nI h hL, nI_clamp (by omega)⟩
theorem row_lt {k n w j M : Nat} (hk : k < n) (hn : n ≤ M) (hj : j < w) : k * w + j < M * w := by
  have h1 : (k + 1) * w ≤ M * w := Nat.mul_le_mul_right w (by omega)
  rw [Nat.succ_mul] at h1; omega
theorem ix_in {i : Int32} {t L : Nat} (e : i = nI t) (h : t < L) (hL : L < 2 ^ 31) : vp_in i L := by rw [e]; exact vp_in_nI h hL
theorem ix_cl {i : Int32} {t : Nat} (e : i = nI t) (h : t < 2 ^ 31) : i.toNatClampNeg = t := by rw [e]; exact nI_clamp h
theorem fill_upd (f : Nat → Int32) (v : Int32) (k : Nat) : upd (fun i => if i < k then v else f i) k v = fun i => if i < k + 1 then v else f i := by
  funext i
  by_cases h : i = k
  · subst h; rw [pk_us, if_pos (Nat.lt_succ_self _)]
  · rw [pk_un h]; by_cases h2 : i < k
    · rw [if_pos h2, if_pos (by omega)]
    · rw [if_neg h2, if_neg (by omega)]
theorem xor_nn {a b : Nat} (ha : a < 2 ^ 31) (hb : b < 2 ^ 31) : ¬ nI a ^^^ nI b < 0 := by rw [fb_xorI]; exact nI_pos (Nat.xor_lt_two_pow ha hb)
/-- the bits of an int, as Integer.bitCount counts them -/
def bc (x0 : Int32) : Int32 :=
  (fun x1 : Int32 => (fun x2 : Int32 => (fun x3 : Int32 => (fun x4 : Int32 => (fun x5 : Int32 => x5 &&& 63) ((x4) + ((x4).toUInt32 >>> ((16 : Int32).toUInt32 &&& Int32.toUInt32 31)).toInt32)) ((x3) + ((x3).toUInt32 >>> ((8 : Int32).toUInt32 &&& Int32.toUInt32 31)).toInt32)) (((x2) + ((x2).toUInt32 >>> ((4 : Int32).toUInt32 &&& Int32.toUInt32 31)).toInt32) &&& 252645135)) (((x1) &&& 858993459) + (((x1).toUInt32 >>> ((2 : Int32).toUInt32 &&& Int32.toUInt32 31)).toInt32 &&& 858993459))) (x0 - (((x0).toUInt32 >>> ((1 : Int32).toUInt32 &&& Int32.toUInt32 31)).toInt32 &&& 1431655765))
theorem MI.mkF {l : Launch} {G : gT} {y : MethodName} {cc : ByteArray} {n : Nat} {rt : FieldType} {rm : Room} {av : List Value} {w0 : va_W} {post : Int32 → va_W → Prop}
    (hy : plainFor y = true) (hn : (lg_sl av).length ≤ n)
    (body : ∀ p e s m args below meth c A ls, Cx p s m args meth c cc n y.cls G s.heap A → meth.sig.returnType = some rt → Wd G A s.heap w0 s.heap [] → lv_has ls n (lv_args 0 av) →
      W p l e rm s m args below meth c s.heap [] 0 0 (MQ below (va_Qi post (cB1 G A) A) args s 0 0 A) (F0 m 0 ls [])) : MI l G y cc n rt rm av w0 post := by
  intro sz
  refine va_MetF (cc := cc) (maxL := n) (ret := some rt) hy rfl ?_
  intro p e s m args below meth c s₁ B hml hv
  obtain ⟨rfl, hsz, hP, hK, hD0, hE⟩ := hv
  subst hsz
  have hD := hD0.self (sz := s.heap.size)
  have hts := atoms_spec (ws := wU y cc n (some rt)) B.pre
  have hown : s.vm.findClass y.cls = some m.cls := findClass_of_methodNamed B.named
  rw [lg_entry_eq]
  exact body p e s m av.toArray below meth c (va_A w0 s.heap.size) _ ⟨B.exec, B.bytes, hml, hown, fun w h => hts w (List.mem_cons_of_mem _ h), hK, fun q h => Or.inr h, B.notSynchronized, hE⟩ B.returns ⟨hP, hD, va_S.rf⟩ (lv_entry av hn)
