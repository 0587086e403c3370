/-! the reference: odds, centuries, tokens -/
def frS (t : Nat) : Nat → Int64 × Int64
  | 0 => ((nI t).toInt64, 10)
  | k + 1 => if (frS t k).2 = 0 then frS t k else ((frS t k).2, (frS t k).1 - (frS t k).1 / (frS t k).2 * (frS t k).2)
theorem fr_k : ∀ t, t < 11 → ∀ k, k < 7 → (¬ (frS t k).2 = 0 → k < 6) ∧ ((frS t k).2 = 0 → ¬ (frS t k).1 = 0 ∧ (nI t).toInt64 / (frS t k).1 = (ktF (nI t) 9).1.toInt64 ∧ (10 : Int64) / (frS t k).1 = (ktF (nI t) 9).2.toInt64) := by decide +kernel
theorem gs_1 : ∀ c, c < 11 → ∀ b : Bool, (if bI b = 0 then (0 : Int64) else (10 - nI c).toInt64) = (nI (if b = true then 10 - c else 0)).toInt64 := by decide +kernel
theorem gs_2 : ∀ c, c < 11 → ∀ b : Bool, (if bI b = 0 then (0 : Int64) else (nI c).toInt64) = (nI (if b = true then c else 0)).toInt64 := by decide +kernel
theorem gs_3 : ∀ c, c < 11 → ∀ b d : Bool, (nI (if b = true then 10 - c else 0)).toInt64 + (nI (if d = true then c else 0)).toInt64 = (nI ((if b = true then 10 - c else 0) + (if d = true then c else 0))).toInt64 := by decide +kernel
theorem gs_4 {c : Nat} (h : c < 11) {b d : Bool} : (if b = true then 10 - c else 0) + (if d = true then c else 0) < 11 := by cases b <;> cases d <;> simp <;> omega
def guW (w : Int32) : Int32 := if w < 0 then -4 else w - 4
/-- centuries, as the reference goes through them -/
def ctH (h : Nat → Int32) (x : Int64) : Nat → Int32 := if h 9 = 0 then upd (upd h 9 1) 8 (cpH x) else h
def ctN (n t : Nat) (x : Int64) (P : (Nat → Int32) × Int32) : (Nat → Int32) × Int32 :=
  if (okp n (cpP x) && atA (ctH P.1 x) (cpP x).toNatClampNeg) = true
  then (ghA (ctH P.1 x) (crA (ctH P.1 x) (cpP x).toNatClampNeg t (ctH P.1 x 8)), P.2 + bI (crA (ctH P.1 x) (cpP x).toNatClampNeg t (ctH P.1 x 8)))
  else (upd (ctH P.1 x) 12 (ctH P.1 x 12 + 1), P.2)
def ctS (a0 : Nat → Int32) (n hr : Nat) (sd : Int32) : Nat → (Nat → Int32) × Int32
  | 0 => (a0, 0)
  | i + 1 => ctN n (hr + i) (ceX sd (i + 1)) (ctS a0 n hr sd i)
theorem ctH_12 {h : Nat → Int32} {x : Int64} {v : Int32} (e : h 12 = v) : ctH h x 12 = v := by
  unfold ctH; split
  · rw [pk_un (by decide), pk_un (by decide)]; exact e
  · exact e
theorem gh_12 (h : Nat → Int32) (o : Bool) : ghA h o 12 = h 12 + 1 := by unfold ghA; rw [pk_us]
section CT
variable {P : (Nat → Int32) × Int32} {n t k : Nat} {x : Int64}
theorem ctN_t (ho : okp n (cpP x) = true) (hk : k < 1000) (ek : cpP x = nI k) (ha : atA (ctH P.1 x) k = true) :
    ctN n t x P = (ghA (ctH P.1 x) (crA (ctH P.1 x) k t (ctH P.1 x 8)), P.2 + bI (crA (ctH P.1 x) k t (ctH P.1 x 8))) := by
  unfold ctN
  rw [cl_eq ek hk, ho, ha]; rfl
theorem ctN_f (h : okp n (cpP x) = false ∨ (k < 1000 ∧ cpP x = nI k ∧ atA (ctH P.1 x) k = false)) : ctN n t x P = (upd (ctH P.1 x) 12 (ctH P.1 x 12 + 1), P.2) := by
  unfold ctN
  rcases h with h | ⟨hk, ek, ha⟩
  · rw [h]; rfl
  · rw [cl_eq ek hk, ha, Bool.and_false]; rfl
theorem ctN_12 {v : Int32} (e : P.1 12 = v) : (ctN n t x P).1 12 = v + 1 := by
  have e2 := ctH_12 (x := x) e
  unfold ctN
  cases (okp n (cpP x) && atA (ctH P.1 x) (cpP x).toNatClampNeg)
  · rw [if_neg (by decide)]; show upd (ctH P.1 x) 12 (ctH P.1 x 12 + 1) 12 = _
    rw [pk_us, e2]
  · rw [if_pos rfl]; dsimp only; rw [gh_12, e2]
end CT
theorem ct_a (hr i : Nat) : nI (hr + i) + 1 = nI (hr + (i + 1)) := nI_1 (hr + i)
theorem ct_b {a0 : Nat → Int32} {n hr i : Nat} {sd : Int32} : ctS a0 n hr sd (i + 1) = ctN n (hr + i) (ceX sd (i + 1)) (ctS a0 n hr sd i) := rfl
theorem ct_c {n t : Nat} {v : Int32} {x : Int64} {P P2 : (Nat → Int32) × Int32} (h : P2 = ctN n t x P) (e : P.1 12 = v) : P2.1 12 = v + 1 := by rw [h]; exact ctN_12 e
theorem ct_12 {a0 : Nat → Int32} {n hr i : Nat} {sd : Int32} (e : (ctS a0 n hr sd i).1 12 = nI (hr + i)) : (ctS a0 n hr sd (i + 1)).1 12 = nI (hr + (i + 1)) :=
  (ct_c ct_b e).trans (ct_a hr i)
/-- a token's kind by its first byte -/
def tk0 (f : Nat → Int32) (s : Nat) : Int32 := if isLe (f s) = true then 1 else if isFi (f s) = true then 2 else if f s = 59 then 3 else 4
/-- what goes on in it -/
def tkP (f : Nat → Int32) (s : Nat) : Int32 → Bool := if isLe (f s) = true then isLe else isFi
/-- its number, of two figures at most -/
def vlA (f : Nat → Int32) (n s : Nat) : Int32 := if n ≤ s then 0 else if isLe (f s) = true then 0 else if isFi (f s) = true then numF f s (if tkE f n s - s ≤ 2 then tkE f n s - s else 2) else 0
theorem tk_a {f : Nat → Int32} {s : Nat} : (if bI (isLe (f s)) = 0 then (if bI (isFi (f s)) = 0 then (if f s = 59 then (3 : Int32) else 4) else 2) else 1) = tk0 f s := by
  unfold tk0; cases isLe (f s) <;> cases isFi (f s) <;> simp [bI]
theorem tk_3 {f : Nat → Int32} {s : Nat} : decide (tk0 f s < 3) = (isLe (f s) || isFi (f s)) := by
  unfold tk0; cases isLe (f s) <;> cases isFi (f s) <;> by_cases h : f s = 59 <;> simp [h] <;> decide
theorem tk_1 {f : Nat → Int32} {s : Nat} {x y : Int32} : (if tk0 f s = 1 then x else y) = if isLe (f s) = true then x else y := by
  unfold tk0; cases isLe (f s) <;> cases isFi (f s) <;> by_cases h : f s = 59 <;> simp [h]
theorem tk_2 {f : Nat → Int32} {s : Nat} : tk0 f s = 2 ↔ isLe (f s) = false ∧ isFi (f s) = true := by
  unfold tk0; cases isLe (f s) <;> cases isFi (f s) <;> by_cases h : f s = 59 <;> simp [h]
theorem tk_g {f : Nat → Int32} {s : Nat} {d : Int32} : (if tk0 f s = 1 then bI (isLe d) else bI (isFi d)) = bI (tkP f s d) := by
  rw [tk_1, tkP]; cases isLe (f s) <;> rfl
theorem tk_n {tl : Nat} {b : Bool} : nI tl + (if bI b = 0 then 0 else 1) = nI (if b = true then tl + 1 else tl) := ls_n
theorem tk_go {f : Nat → Int32} {n s : Nat} (hs : s < n) (h : (isLe (f s) || isFi (f s)) = true) : tkE f n s = scan (tkP f s) f n (s + 1) := by
  cases h1 : isLe (f s)
  · have h2 : isFi (f s) = true := by rw [h1] at h; exact h
    rw [(tk_fi hs h1 h2).2, tkP, h1, if_neg (by decide), ← scan_step hs h2]
  · rw [(tk_le hs h1).2, tkP, h1, if_pos rfl, ← scan_step hs h1]
theorem tk_no {f : Nat → Int32} {n s : Nat} (hs : s < n) (h : (isLe (f s) || isFi (f s)) = false) : tkE f n s = s + 1 := by
  rw [Bool.or_eq_false_iff] at h
  exact (tk_ot hs h.1 h.2).2
theorem tk_in {f : Nat → Int32} {n s : Nat} (hs : s < n) : (decide (tk0 f s < 3) = true ∧ scan (tkP f s) f n (s + 1) = tkE f n s) ∨ (decide (tk0 f s < 3) = false ∧ s + 1 = tkE f n s) := by
  rw [tk_3]
  cases h : (isLe (f s) || isFi (f s))
  · exact Or.inr ⟨rfl, (tk_no hs h).symm⟩
  · exact Or.inl ⟨rfl, (tk_go hs h).symm⟩
theorem tk_bk {f : Nat → Int32} {n s tl : Nat} (h : s + tl < n) (hd : scan (tkP f s) f n (s + tl) = tkE f n s) :
    (tkP f s (f (s + tl)) = true ∧ scan (tkP f s) f n (s + (if tkP f s (f (s + tl)) = true then tl + 1 else tl)) = tkE f n s) ∨ (tkP f s (f (s + tl)) = false ∧ s + (if tkP f s (f (s + tl)) = true then tl + 1 else tl) = tkE f n s) := by
  cases hp : tkP f s (f (s + tl))
  · refine Or.inr ⟨rfl, ?_⟩
    rw [if_neg (by decide), ← hd, scan_stop (fun q => by rw [hp] at q; exact absurd q.2 (by decide))]
  · refine Or.inl ⟨rfl, ?_⟩
    rw [if_pos rfl, ← hd, scan_step h hp, Nat.add_assoc]
theorem tk_x {f : Nat → Int32} {n s tl : Nat} {b : Bool} (hd : (b = true ∧ scan (tkP f s) f n (s + tl) = tkE f n s) ∨ (b = false ∧ s + tl = tkE f n s)) (h : b = false ∨ ¬ s + tl < n) : s + tl = tkE f n s := by
  rcases hd with ⟨h1, h2⟩ | ⟨h1, h2⟩
  · rw [← h2]
    rcases h with h | h
    · rw [h] at h1; cases h1
    · exact (scan_stop (fun q => h q.1)).symm
  · exact h2
theorem vl_e {f : Nat → Int32} {n s tl k : Nat} (hs : s < n) (ht : s + tl = tkE f n s) (h1 : 1 ≤ tl) (hk : k ≤ tl ∧ k ≤ 2) (h0 : ¬ tk0 f s = 2 → k = 0) (he : (¬ k < tl ∨ ¬ k < 2) ∨ ¬ tk0 f s = 2) : numF f s k = vlA f n s := by
  unfold vlA
  rw [if_neg (by omega)]
  by_cases h2 : tk0 f s = 2
  · obtain ⟨ha, hb⟩ := tk_2.mp h2
    rw [ha, hb, if_neg (by decide), if_pos rfl]
    have e : k = if tkE f n s - s ≤ 2 then tkE f n s - s else 2 := by
      rcases he with he | he
      · split <;> omega
      · exact absurd h2 he
    rw [← e]
  · rw [h0 h2]
    have h3 : ¬ (isLe (f s) = false ∧ isFi (f s) = true) := fun q => h2 (tk_2.mpr q)
    cases ha : isLe (f s)
    · cases hb : isFi (f s)
      · rfl
      · exact absurd ⟨ha, hb⟩ h3
    · rfl
theorem tk_f {f : Nat → Int32} {n s tl : Nat} (hs : s < n) (ht : s + tl = tkE f n s) (hn : n ≤ 150) : (if tk0 f s = 2 then (if 2 < nI tl then (4 : Int32) else tk0 f s) else tk0 f s) = tkT f n s := by
  have hb := (tkE_b (f := f) (Nat.le_of_lt hs)).2
  have e2 : (2 < nI tl) ↔ 2 < tl := nI_ltI (a := 2) (b := tl) (by omega) (by omega)
  cases ha : isLe (f s)
  · cases hf : isFi (f s)
    · rw [(tk_ot hs ha hf).1]
      have : ¬ tk0 f s = 2 := fun q => by have := (tk_2.mp q).2; rw [hf] at this; cases this
      rw [if_neg this]; unfold tk0; rw [ha, hf]; rfl
    · have h2 := tk_2.mpr ⟨ha, hf⟩
      rw [(tk_fi hs ha hf).1, if_pos h2, h2]
      have e3 := (tk_fi hs ha hf).2
      rw [← e3, ← ht]
      by_cases q : 2 < tl
      · rw [if_pos (e2.mpr q), if_neg (by omega)]
      · rw [if_neg (fun z => q (e2.mp z)), if_pos (by omega)]
  · rw [(tk_le hs ha).1]
    have : ¬ tk0 f s = 2 := fun q => by have := (tk_2.mp q).1; rw [ha] at this; cases this
    rw [if_neg this]; unfold tk0; rw [ha]; rfl
/-- the token spells a word -/
def chC (c0 c1 c2 c3 c4 c5 : Int32) (k : Nat) : Int32 := if k = 0 then c0 else if k = 1 then c1 else if k = 2 then c2 else if k = 3 then c3 else if k = 4 then c4 else c5
def spB (f : Nat → Int32) (tok : Int32) (s tl z : Nat) (c : Nat → Int32) (j : Nat) : Bool := (decide (tok = 1) && decide (tl = z)) && allB (fun k => decide (f (s + k) = c k)) j
theorem spw_0 {tok : Int32} {tl z : Nat} (h1 : tl < 1000) (h2 : z < 1000) {f : Nat → Int32} {s : Nat} {c : Nat → Int32} : (if tok = 1 then (if nI tl = nI z then (1 : Int32) else 0) else 0) = bI (spB f tok s tl z c 0) := by
  have e : (nI tl = nI z) ↔ tl = z := nI_eq (by omega) (by omega)
  by_cases q : tok = 1 <;> by_cases q2 : tl = z <;> simp [spB, allB, q, q2, e, bI]
theorem spw_f {f : Nat → Int32} {tok : Int32} {s tl z : Nat} {c : Nat → Int32} {j : Nat} (h : spB f tok s tl z c j = false) : ∀ d, spB f tok s tl z c (j + d) = false
  | 0 => h
  | d + 1 => by
    have := spw_f h d
    rw [spB, Bool.and_eq_false_iff] at this
    rw [spB, ← Nat.add_assoc, allB]
    rcases this with q | q
    · rw [q]; rfl
    · rw [q, Bool.false_and, Bool.and_false]
theorem spw_s {f : Nat → Int32} {tok : Int32} {s tl z : Nat} {c : Nat → Int32} {j : Nat} (h : spB f tok s tl z c j = true) {x : Int32} (e : x = c j) : (if f (s + j) = x then (1 : Int32) else 0) = bI (spB f tok s tl z c (j + 1)) := by
  have h1 := h
  rw [spB, Bool.and_eq_true] at h
  rw [spB, h.1, allB, h.2, e, Bool.true_and, Bool.true_and]; exact bI_if
theorem ch_e {c0 c1 c2 c3 c4 c5 : Int32} {j : Nat} (h : j < 1000) : (if nI j = 0 then c0 else if nI j = 1 then c1 else if nI j = 2 then c2 else if nI j = 3 then c3 else if nI j = 4 then c4 else c5) = chC c0 c1 c2 c3 c4 c5 j := by
  have e (q : Nat) (hq : q < 1000) : (nI j = nI q) ↔ j = q := nI_eq (by omega) (by omega)
  have e0 := e 0 (by decide); have e1 := e 1 (by decide); have e2 := e 2 (by decide); have e3 := e 3 (by decide); have e4 := e 4 (by decide)
  unfold chC
  simp only [show (0 : Int32) = nI 0 from rfl, show (1 : Int32) = nI 1 from rfl, show (2 : Int32) = nI 2 from rfl, show (3 : Int32) = nI 3 from rfl, show (4 : Int32) = nI 4 from rfl, e0, e1, e2, e3, e4]
theorem spw_w {f : Nat → Int32} {tok : Int32} {s e z i : Nat} {c : Nat → Int32} (hz : sk_n.getD i 0 = z) (hc : ∀ k, k < z → c k = chS i k) : spB f tok s (e - s) z c z = wrd f tok s e i := by
  unfold spB wrd
  rw [hz, allB_cong (n := z) (Q := fun k => decide (f (s + k) = chS i k)) (fun k hk => by rw [hc k hk]), Bool.and_assoc]
theorem nm_v {f : Nat → Int32} {n s : Nat} (h : tkT f n s = 2) : vlA f n s = nmb f n s := by
  rw [nmb, if_pos h]
  by_cases hs : n ≤ s
  · rw [(tk_end hs).1] at h; exact absurd h (by decide)
  · have hs' : s < n := by omega
    unfold vlA
    rw [if_neg hs]
    cases ha : isLe (f s)
    · cases hf : isFi (f s)
      · rw [(tk_ot hs' ha hf).1] at h
        by_cases q : f s = 59
        · rw [if_pos q] at h; exact absurd h (by decide)
        · rw [if_neg q] at h; exact absurd h (by decide)
      · rw [(tk_fi hs' ha hf).1] at h
        have e3 := (tk_fi hs' ha hf).2
        rw [if_neg (by decide), if_pos rfl, e3]
        by_cases q : scan isFi f n s - s ≤ 2
        · rw [if_pos q]
        · rw [if_neg q] at h; exact absurd h (by decide)
    · rw [(tk_le hs' ha).1] at h; exact absurd h (by decide)
theorem iw_m1 {lo hi : Int32} (h : 0 ≤ lo) : iw (-1) lo hi = false := by
  have : ¬ lo ≤ -1 := fun q => by
    rw [fa_le] at h q
    rw [show (0 : Int32).toInt = 0 from by decide] at h
    rw [show (-1 : Int32).toInt = -1 from by decide] at q; omega
  simp [iw, this]
theorem nm_f {f : Nat → Int32} {n s : Nat} {lo hi : Int32} (hl : 0 ≤ lo) (h : ¬ tkT f n s = 2) : iw (nmb f n s) lo hi = false := by
  rw [nmb, if_neg h]; exact iw_m1 hl
def gvV (f : Nat → Int32) (n : Nat) (lo hi : Int32) (s kk : Nat) (vf : Nat → Int32) : Nat → Int32 := if iw (nmb f n s) lo hi = true then upd vf kk (nmb f n s) else vf
theorem gvV_t {f vf : Nat → Int32} {n s kk : Nat} {lo hi : Int32} (h : iw (nmb f n s) lo hi = true) : gvV f n lo hi s kk vf = upd vf kk (nmb f n s) := if_pos h
theorem gvV_f {f vf : Nat → Int32} {n s kk : Nat} {lo hi : Int32} (h : iw (nmb f n s) lo hi = false) : gvV f n lo hi s kk vf = vf := if_neg (by rw [h]; decide)
section ZA
variable {p : Program} {l : Launch} {e : Env} {R : Room} {s : State} {m : MethodId} {args : Array Value} {below : List Frame} {meth : Method} {c : Code} {H : Heap} {locs : List Loc} {cells slots : Nat} {Q : State → Prop}
variable {cc : ByteArray} {nL : Nat} {own : String} {G : gT} {H0 : Heap} {A : Nat → Prop} {w w' : va_W} {pc : Nat} {ls : Array Slot} {rest : List Value}
theorem g_zast (C : Cx p s m args meth c cc nL own G H0 A) (h : Wd G A H0 w H locs) (q0 : Nat) {a n : Nat} {f : Nat → Int32} (ha : w[q0]? = some (a, .inl (G.2.2.1, n, .inl f))) {i x : Int32} (hin : vp_in i n) (hw : w.set q0 (a, .inl (G.2.2.1, n, .inl (upd f i.toNatClampNeg (vp_nar .boolean x)))) = w') (hdg : decode cc pc = .ok (.bastore, 1))
    (kk : ∀ (H1 : Heap) (locs1 : List Loc), Wd G A H0 w' H1 locs1 → W p l e R s m args below meth c H1 locs1 cells slots Q (F0 m (pc + 1) ls rest)) : W p l e R s m args below meth c H locs cells slots Q (F0 m pc ls (.int x :: .int i :: .ref a :: rest)) :=
  va_zast C.1 C.2.1 C.2.2.2.2.2.1 h.1 h.2.1 h.2.2 q0 1 ha rfl hin hdg (fun H1 locs1 a b d => kk H1 locs1 (by rw [← hw]; exact ⟨a, b, d⟩))
end ZA
