/-! how the class's valley and the reference's row of numbers belong together -/
/-- a cock as it may be, not kept up or dropped more than B times -/
def ckO (B : Nat) (ck : Nat → Int32) : Prop := (∃ hr : Nat, ck 6 = nI hr ∧ hr < 10000) ∧ (∃ fh : Nat, ck 2 = nI fh ∧ fh < 2) ∧ (ck 3 = 0 ∨ ck 3 = 1) ∧ Rg (ck 1) 1 9 ∧ (∃ x : Nat, ck 4 = nI x ∧ x ≤ B) ∧ (∃ x : Nat, ck 5 = nI x ∧ x ≤ B)
def okH (n : Nat) (pf : Nat → Int32) : Prop := ∀ k, k < n → (pf (k * 3 + 1) = 0 ∨ pf (k * 3 + 1) = 1)
/-- what holds of a valley, and of the row that tells it -/
def VR (B : Nat) (wide : Int32) (wd ck : Nat → Int32) (n : Nat) (pf : Nat → Int32) (sn : Nat) (sf : Nat → Int32) (nn : Nat) (nf : Nat → Int32) (mn : Nat) (mf : Nat → Int32) (u : Nat) (uf : Nat → Int32) (a : Nat → Int32) : Prop :=
  (n ≤ 7 ∧ sn ≤ 5 ∧ nn ≤ 6 ∧ mn ≤ 6 ∧ u ≤ 8) ∧ (okW wd ∧ okP n pf ∧ okH n pf ∧ okS n sn sf ∧ okN nn nf) ∧ (ckO B ck ∧ ∀ j, j < u → ckO B (fun i => uf (7 * j + i))) ∧
  (a 0 = nI n ∧ a 1 = nI sn ∧ a 2 = nI nn ∧ a 3 = nI mn ∧ a 4 = nI u ∧ a 5 = wide) ∧
  ((∀ i, i < 7 → a (6 + i) = ck i) ∧ (∀ i, i < 6 → a (13 + i) = wd i) ∧ (∀ k, k < n → a (19 + k) = pf (k * 3 + 0) ∧ a (26 + k) = pf (k * 3 + 1) ∧ a (33 + k) = pf (k * 3 + 2))) ∧
  ((∀ i, i < sn * 3 → a (40 + i) = sf i) ∧ (∀ i, i < nn * 4 → a (55 + i) = nf i) ∧ (∀ i, i < mn * 4 → a (79 + i) = mf i) ∧ (∀ i, i < u * 7 → a (103 + i) = uf i))
theorem ckO.mono {B B' : Nat} {ck : Nat → Int32} (h : ckO B ck) (hb : B ≤ B') : ckO B' ck := by
  obtain ⟨h1, h2, h3, h4, ⟨x, e, hx⟩, ⟨y, e2, hy⟩⟩ := h
  exact ⟨h1, h2, h3, h4, ⟨x, e, by omega⟩, ⟨y, e2, by omega⟩⟩
theorem ckO.cong {B : Nat} {ck ck' : Nat → Int32} (h : ckO B ck) (e : ∀ i, i < 7 → ck' i = ck i) : ckO B ck' := by
  unfold ckO
  rw [e 6 (by decide), e 2 (by decide), e 3 (by decide), e 1 (by decide), e 4 (by decide), e 5 (by decide)]
  exact h
section VRs
variable {B : Nat} {wide : Int32} {wd ck : Nat → Int32} {n : Nat} {pf : Nat → Int32} {sn : Nat} {sf : Nat → Int32} {nn : Nat} {nf : Nat → Int32} {mn : Nat} {mf : Nat → Int32} {u : Nat} {uf a : Nat → Int32}
theorem VR.mono {B' : Nat} (h : VR B wide wd ck n pf sn sf nn nf mn mf u uf a) (hb : B ≤ B') : VR B' wide wd ck n pf sn sf nn nf mn mf u uf a := by
  obtain ⟨h1, h2, ⟨h3, h4⟩, h5⟩ := h
  exact ⟨h1, h2, ⟨h3.mono hb, fun j hj => (h4 j hj).mono hb⟩, h5⟩
end VRs
/-- an image: if it is kept it is one -/
def IR (B : Nat) (k j : Int32) (wide : Int32) (wd ck : Nat → Int32) (n : Nat) (pf : Nat → Int32) (sn : Nat) (sf : Nat → Int32) (nn : Nat) (nf : Nat → Int32) (mn : Nat) (mf : Nat → Int32) (u : Nat) (uf : Nat → Int32) (a : Nat → Int32) : Prop :=
  j = k ∧ (k = 0 ∨ (k = 1 ∧ VR B wide wd ck n pf sn sf nn nf mn mf u uf a))
/-- the text, the last odds, the refusals -/
def TR_ (tn : Nat) (bL : Int32) (tf tg : Nat → Int32) : Prop := tn ≤ 150 ∧ bL = nI tn ∧ tf = tg
def PR_ (ab be : Int32) (mab mbe : Int64) : Prop := ab.toInt64 = mab ∧ be.toInt64 = mbe
def CR_ (bds nos fls : Int32) (rv : Nat → Int32) : Prop := rv 0 = bds ∧ rv 1 = nos ∧ rv 2 = fls
theorem CR_bad {bds nos fls : Int32} {rv : Nat → Int32} (h : CR_ bds nos fls rv) : CR_ (bds + 1) nos fls (upd rv 0 (rv 0 + 1)) := ⟨by rw [pk_us, h.1], by rw [pk_un (by decide)]; exact h.2.1, by rw [pk_un (by decide)]; exact h.2.2⟩
theorem CR_no {bds nos fls : Int32} {rv : Nat → Int32} (h : CR_ bds nos fls rv) : CR_ bds (nos + 1) fls (upd rv 1 (rv 1 + 1)) := ⟨by rw [pk_un (by decide)]; exact h.1, by rw [pk_us, h.2.1], by rw [pk_un (by decide)]; exact h.2.2⟩
theorem CR_full {bds nos fls : Int32} {rv : Nat → Int32} (h : CR_ bds nos fls rv) : CR_ bds nos (fls + 1) (upd rv 2 (rv 2 + 1)) := ⟨by rw [pk_un (by decide)]; exact h.1, by rw [pk_un (by decide)]; exact h.2.1, by rw [pk_us, h.2.2]⟩
