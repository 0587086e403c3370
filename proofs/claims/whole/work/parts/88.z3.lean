def bt (x : Int32) (i : Nat) : Bool := x.toBitVec.getLsbD i
theorem b_ext {x y : Int32} (h : ∀ i, i < 32 → bt x i = bt y i) : x = y := Int32.toBitVec_inj.mp (BitVec.eq_of_getLsbD_eq (fun i hi => h i hi))
theorem b_or (x y : Int32) (i : Nat) : bt (x ||| y) i = (bt x i || bt y i) := by unfold bt; rw [Int32.toBitVec_or, BitVec.getLsbD_or]
theorem b_and (x y : Int32) (i : Nat) : bt (x &&& y) i = (bt x i && bt y i) := by unfold bt; rw [Int32.toBitVec_and, BitVec.getLsbD_and]
theorem b_xor (x y : Int32) (i : Nat) : bt (x ^^^ y) i = (bt x i ^^ bt y i) := by unfold bt; rw [Int32.toBitVec_xor, BitVec.getLsbD_xor]
theorem b_big {x : Int32} {i : Nat} (h : 32 ≤ i) : bt x i = false := BitVec.getLsbD_of_ge _ _ h
theorem b_m1 : ∀ i, i < 32 → bt (-1) i = true := by decide +kernel
theorem b_0 (i : Nat) : bt 0 i = false := BitVec.getLsbD_zero
theorem s_l : ∀ n, n < 32 → ((nI n &&& 31).toBitVec.smod 32).toNat = n := by decide +kernel
theorem s_u : ∀ n, n < 32 → (((nI n).toUInt32 &&& Int32.toUInt32 31).toBitVec % 32).toNat = n := by decide +kernel
theorem b_shl (n : Nat) (hn : n < 32) (x : Int32) {i : Nat} (hi : i < 32) : bt (x <<< (nI n &&& 31)) i = (decide (n ≤ i) && bt x (i - n)) := by
  unfold bt
  rw [Int32.toBitVec_shiftLeft]
  show (x.toBitVec <<< ((nI n &&& 31).toBitVec.smod 32).toNat).getLsbD i = _
  rw [s_l n hn, BitVec.getLsbD_shiftLeft]
  rcases Nat.lt_or_ge i n with h | h
  · simp [h, Nat.not_le.mpr h]
  · simp [hi, h, Nat.not_lt.mpr h]
theorem b_ushr (n : Nat) (hn : n < 32) (x : Int32) (i : Nat) : bt ((x.toUInt32 >>> ((nI n).toUInt32 &&& Int32.toUInt32 31)).toInt32) i = bt x (n + i) := by
  show (x.toUInt32 >>> ((nI n).toUInt32 &&& Int32.toUInt32 31)).toBitVec.getLsbD i = x.toUInt32.toBitVec.getLsbD (n + i)
  rw [UInt32.toBitVec_shiftRight]
  show (x.toUInt32.toBitVec >>> (((nI n).toUInt32 &&& Int32.toUInt32 31).toBitVec % 32).toNat).getLsbD i = _
  rw [s_u n hn, BitVec.getLsbD_ushiftRight]
theorem b_sshr (n : Nat) (hn : n < 32) (x : Int32) {i : Nat} (hi : i < 32) : bt (x >>> (nI n &&& 31)) i = if n + i < 32 then bt x (n + i) else bt x 31 := by
  unfold bt
  rw [Int32.toBitVec_shiftRight]
  show (x.toBitVec.sshiftRight ((nI n &&& 31).toBitVec.smod 32).toNat).getLsbD i = _
  rw [s_l n hn, BitVec.getLsbD_sshiftRight, BitVec.msb_eq_getLsbD_last]
  simp [hi]
theorem b_1 : ∀ i, i < 32 → bt 1 i = decide (i = 0) := by decide +kernel
theorem b_a1 {y : Int32} : y &&& 1 = bI (bt y 0) := by
  have e : (y &&& 1).toBitVec = BitVec.setWidth 32 (BitVec.ofBool (y.toBitVec.getLsbD 0)) := BitVec.and_one_eq_setWidth_ofBool_getLsbD
  unfold bt
  cases h : y.toBitVec.getLsbD 0 with
  | false => rw [h] at e; exact Int32.toBitVec_inj.mp (e.trans (by decide))
  | true => rw [h] at e; exact Int32.toBitVec_inj.mp (e.trans (by decide))
theorem b_sh0 {x : Int32} {j : Nat} (hj : j < 32) : (x >>> (nI j &&& 31)) &&& 1 = bI (bt x j) := by
  rw [b_a1, b_sshr j hj x (by decide), Nat.add_zero, if_pos hj]
theorem tb_bt {x : Int32} {j : Nat} (hj : j < 32) : tb x j = bt x j := by
  unfold tb; rw [b_sh0 hj]
  cases bt x j <;> rfl
theorem b_orF {P : Nat → Bool} : ∀ n, n ≤ 31 → ∀ i, i < 32 → bt (orF P n) i = (decide (i < n) && P i)
  | 0, _, i, hi => by rw [orF, b_0]; simp
  | n + 1, hn, i, hi => by
    have ih := b_orF (P := P) n (by omega) i hi
    rw [orF]
    cases hp : P n
    · rw [if_neg (by decide), ih]
      by_cases e : i = n
      · subst e; rw [hp, Bool.and_false, Bool.and_false]
      · rw [show decide (i < n + 1) = decide (i < n) from decide_eq_decide.mpr (by omega)]
    · rw [if_pos rfl, b_or, ih, b_shl n (by omega) 1 hi, b_1 _ (by omega)]
      by_cases e : i = n
      · subst e; rw [hp]; simp
      · by_cases q : i < n
        · simp [q, show i < n + 1 by omega, show ¬ n ≤ i by omega]
        · simp [q, show ¬ i < n + 1 by omega, show ¬ i - n = 0 by omega]
theorem orF_and {P : Nat → Bool} {n : Nat} (hn : n ≤ 31) {M : Int32} : orF P n &&& M = 0 ↔ ∀ p, p < n → P p = true → bt M p = false := by
  constructor
  · intro h p hp hP
    have e := b_and (orF P n) M p
    rw [h, b_0, b_orF n hn p (by omega), hP, decide_eq_true hp] at e
    simpa using e.symm
  · intro h
    refine b_ext (fun i hi => ?_)
    rw [b_and, b_0, b_orF n hn i hi]
    by_cases q : i < n
    · cases hP : P i
      · simp
      · rw [h i q hP]; simp
    · simp [q]
theorem ls_key {P : Nat → Bool} {S : Nat → Int32} {n x : Nat} (hn : n ≤ 7) (hS : ∀ p, p < n → (S p = 0 ∨ S p = 1)) : decide (orF P n &&& (if x % 2 = 1 then orF (fun p => decide (S p = 1)) n else orF (fun p => decide (S p = 1)) n ^^^ (-1)) = 0) = !(exB (fun p => decide (S p = nI (x % 2)) && P p) n) := by
  have hb : ∀ p, p < n → bt (if x % 2 = 1 then orF (fun p => decide (S p = 1)) n else orF (fun p => decide (S p = 1)) n ^^^ (-1)) p = decide (S p = nI (x % 2)) := by
    intro p hp
    rcases (show x % 2 = 0 ∨ x % 2 = 1 by omega) with e | e
    · rw [e, if_neg (by decide), b_xor, b_m1 p (by omega), b_orF n (by omega) p (by omega), decide_eq_true hp]
      rcases hS p hp with q | q <;> rw [q] <;> rfl
    · rw [e, if_pos rfl, b_orF n (by omega) p (by omega), decide_eq_true hp]
      rcases hS p hp with q | q <;> rw [q] <;> rfl
  generalize (if x % 2 = 1 then orF (fun p => decide (S p = 1)) n else orF (fun p => decide (S p = 1)) n ^^^ (-1)) = M at *
  cases hex : exB (fun p => decide (S p = nI (x % 2)) && P p) n
  · refine decide_eq_true (((orF_and (by omega)).mpr (fun p hp hP => ?_)))
    rw [hb p hp]
    cases hd : decide (S p = nI (x % 2))
    · rfl
    · have : exB (fun p => decide (S p = nI (x % 2)) && P p) n = true := exB_iff.mpr ⟨p, hp, by rw [hd, hP]; rfl⟩
      rw [hex] at this; cases this
  · refine decide_eq_false (fun h => ?_)
    obtain ⟨p, hp, h2⟩ := exB_iff.mp hex
    rw [Bool.and_eq_true] at h2
    have h3 := (orF_and (by omega)).mp h p hp h2.2
    rw [hb p hp, h2.1] at h3; cases h3
theorem crA_c3 {b d : Nat → Int32} {k hr : Nat} {hill : Int32} (hk : k < 7) (h : ∀ i, i < 40 → (i < 26 ∨ 33 ≤ i) → b i = d i) : crA b k hr hill = crA d k hr hill := by
  have hm : hr % 6 < 6 := Nat.mod_lt _ (by decide)
  unfold crA
  rw [← rcA_eq, ← rcA_eq, h 5 (by decide) (by omega), h 6 (by decide) (by omega), h 7 (by decide) (by omega), h (19 + k) (by omega) (by omega), h (33 + k) (by omega) (by omega), h (13 + hr % 6) (by omega) (by omega)]
section LS
variable {B B' : Nat} {wide : Int32} {wd ck : Nat → Int32} {n : Nat} {pf : Nat → Int32} {sn : Nat} {sf : Nat → Int32} {nn : Nat} {nf : Nat → Int32} {mn : Nat} {mf : Nat → Int32} {u : Nat} {uf a hf : Nat → Int32}
theorem ls_eq (h : VR B wide wd ck n pf sn sf nn nf mn mf u uf a) {hr fh : Nat} {b S : Nat → Int32} (hS : ∀ p, p < n → (S p = 0 ∨ S p = 1)) (hb : ∀ p, p < n → b (26 + p) = S p) (hb2 : ∀ i, i < 40 → (i < 26 ∨ 33 ≤ i) → b i = a i) :
    lsN b n hr fh = stq (cfS wide ck wd pf n hr fh) fh (orF (fun p => decide (S p = 1)) n) := by
  have hn := h.1.1
  unfold lsN stq
  refine first_cong (fun i _ => ?_)
  rw [cfS, ls_key hn hS, fnA]
  congr 1
  refine exB_cong (fun p hp => ?_)
  rw [hb p hp, crA_c3 (by omega) hb2, cr_eq h hp]
theorem lasts_eq (h : VR B wide wd ck n pf sn sf nn nf mn mf u uf a) {hr fh : Nat} : nI (lsN (fa_fill a hf 40) n hr fh) = nI (stq (cfS wide ck wd pf n hr fh) fh (orF (fun i => decide (pf (i * 3 + 1) = 1)) n)) := by
  have hn := h.1.1
  rw [ls_eq h (S := fun p => pf (p * 3 + 1)) h.2.1.2.2.1 (fun p hp => by rw [fa_fill_in (by omega)]; exact (h.2.2.2.2.1.2.2 p hp).2.1) (fun i hi _ => fa_fill_in hi)]
/-- the side of player p in the way of that number -/
def syS (n c p : Nat) : Int32 := (nI c >>> ((nI n - 1 - nI p) &&& 31)) &&& 1
theorem sy_01 {n c p : Nat} : syS n c p = 0 ∨ syS n c p = 1 := by
  unfold syS; exact and1 _
theorem mir_eq {n c : Nat} : ∀ p, p ≤ 31 → mirF (nI c) n p = orF (fun q => decide (syS n c q = 1)) p
  | 0, _ => rfl
  | p + 1, hp => by
    rw [mirF, orF, mir_eq p (by omega)]
    show _ ||| (syS n c p <<< (nI p &&& 31)) = _
    rcases sy_01 (n := n) (c := c) (p := p) with e | e
    · rw [e, decide_eq_false (by decide), if_neg (by decide)]
      have z : (0 : Int32) <<< (nI p &&& 31) = 0 := by
        refine b_ext (fun i hi => ?_)
        rw [b_shl p (by omega) 0 hi, b_0, b_0, Bool.and_false]
      rw [z, Int32.or_zero]
    · rw [e, decide_eq_true rfl, if_pos rfl]
theorem wy_side {n c : Nat} : ∀ k, k ≤ 7 → ∀ p, p < k → wyA a hf n c k (26 + p) = syS n c p
  | 0, _, p, hp => absurd hp (Nat.not_lt_zero _)
  | k + 1, hk, p, hp => by
    rw [wyA]
    by_cases e : p = k
    · subst e; rw [pk_us]; rfl
    · rw [pk_un (by omega)]; exact wy_side k (by omega) p (by omega)
theorem wy_out {n c : Nat} : ∀ k, k ≤ 7 → ∀ i, i < 40 → (i < 26 ∨ 33 ≤ i) → wyA a hf n c k i = a i
  | 0, _, i, hi, _ => by rw [wyA, fa_fill_in hi]
  | k + 1, hk, i, hi, h2 => by rw [wyA, pk_un (by omega)]; exact wy_out k (by omega) i hi h2
theorem lw_up (h : VR B wide wd ck n pf sn sf nn nf mn mf u uf a) (hup : a 9 = 1) {hr fh c : Nat} : lwA a n hr fh c = nI (stq (cfS wide ck wd pf n hr fh) fh (mirF (nI c) n n)) := by
  have hn := h.1.1
  rw [lwA, if_pos hup, ls_eq h (S := syS n c) (fun p _ => sy_01) (fun p hp => wy_side n hn p hp) (fun i hi h2 => wy_out n hn i hi h2), mir_eq n (by omega)]
theorem stq_le {cr : Nat → Int32} {fh : Nat} {on : Int32} : stq cr fh on ≤ 60 := fa_first_le _ 60
theorem bw_pl {cr : Nat → Int32} {fh n : Nat} {f : Nat → Int32} (hf : ∀ c, f c = nI (stq cr fh (mirF (nI c) n n))) (hn : n ≤ 31) : ∀ o, (∃ c : Nat, (plA f o).1 = nI c ∧ (bwG cr fh n o).1 = mirF (nI c) n n) ∧ (bwG cr fh n o).2 = (plA f o).2 ∧ (1 ≤ o → (plA f o).2 = nI (stq cr fh (bwG cr fh n o).1))
  | 0 => ⟨⟨0, rfl, by
      rw [mir_eq n hn]
      refine (orF_0 (fun q _ => ?_)).symm
      have : syS n 0 q = 0 := by
        unfold syS
        rw [b_a1]
        have z : ∀ y : Int32, bt ((nI 0 : Int32) >>> y) 0 = false := fun y => by
          show bt ((0 : Int32) >>> y) 0 = false
          rw [show (0 : Int32) >>> y = 0 from Int32.zero_shiftRight]; exact b_0 0
        rw [z]; rfl
      rw [this]; rfl⟩, rfl, fun h => absurd h (by decide)⟩
  | o + 1 => by
    obtain ⟨⟨c, e1, e2⟩, e3, e4⟩ := bw_pl hf hn o
    have hst := stq_le (cr := cr) (fh := fh) (on := mirF (nI o) n n)
    rw [bwG, plA, hf o, e3]
    by_cases q : (plA f o).2 < nI (stq cr fh (mirF (nI o) n n))
    · have q6 : (plA f o).2 < 60 := by
        rw [fa_lt] at q ⊢
        rw [nI_toInt (by omega)] at q
        rw [show (60 : Int32).toInt = 60 from by decide]; omega
      rw [if_pos q6, if_pos q, if_pos q]
      refine ⟨⟨o, ?_, ?_⟩, ?_, fun _ => ?_⟩ <;> first | (dsimp only; done) | rfl
    · rw [if_neg q, if_neg q]
      have : (if (plA f o).2 < 60 then bwG cr fh n o else bwG cr fh n o) = bwG cr fh n o := by split <;> rfl
      rw [this]
      refine ⟨⟨c, e1, e2⟩, e3, fun _ => ?_⟩
      rcases Nat.eq_zero_or_pos o with z | z
      · subst z
        exfalso; apply q
        show (-1 : Int32) < nI _
        rw [fa_lt, nI_toInt (by omega), show (-1 : Int32).toInt = -1 from by decide]; omega
      · exact e4 z
theorem place_all (h : VR B wide wd ck n pf sn sf nn nf mn mf u uf a) (hup : a 9 = 1) {hr fh N : Nat} (hN : N = 2 ^ n) : (plA (lwA a n hr fh) N).2 = nI (stq (cfS wide ck wd pf n hr fh) fh (bwG (cfS wide ck wd pf n hr fh) fh n N).1) := by
  have hn := h.1.1
  have hp := pw7 hn
  exact (bw_pl (fun c => lw_up h hup) (by omega) N).2.2 (by omega)
theorem place_one (h : VR B wide wd ck n pf sn sf nn nf mn mf u uf a) (hup : a 9 = 1) {hr fh N k : Nat} (hk : k < n) : ((plA (lwA a n hr fh) N).1 >>> ((nI n - 1 - nI k) &&& 31)) &&& 1 = ((bwG (cfS wide ck wd pf n hr fh) fh n N).1 >>> (nI k &&& 31)) &&& 1 := by
  have hn := h.1.1
  obtain ⟨⟨c, e1, e2⟩, -, -⟩ := bw_pl (f := lwA a n hr fh) (cr := cfS wide ck wd pf n hr fh) (fh := fh) (n := n) (fun c => lw_up h hup) (by omega) N
  rw [e1, e2, b_sh0 (by omega), mir_eq n (by omega), b_orF n (by omega) k (by omega), decide_eq_true hk]
  show syS n c k = _
  rcases sy_01 (n := n) (c := c) (p := k) with e | e <;> rw [e] <;> rfl
theorem pl_dn {f : Nat → Int32} (hf : ∀ c, f c = 0) : ∀ o, plA f (o + 1) = (nI 0, 0)
  | 0 => by rw [plA, plA, hf 0]; rfl
  | o + 1 => by rw [plA, pl_dn hf o, hf (o + 1)]; rfl
theorem place_dn (hup : ¬ a 9 = 1) {hr fh N : Nat} (hn : n ≤ 7) (hN : N = 2 ^ n) : plA (lwA a n hr fh) N = (nI 0, 0) := by
  have hp := pw7 hn
  rw [show N = (N - 1) + 1 by omega]
  exact pl_dn (fun c => if_neg hup) _
theorem zsh {y : Int32} : ((nI 0 : Int32) >>> y) &&& 1 = 0 := by
  show ((0 : Int32) >>> y) &&& 1 = 0
  rw [show (0 : Int32) >>> y = 0 from Int32.zero_shiftRight]; decide
end LS
