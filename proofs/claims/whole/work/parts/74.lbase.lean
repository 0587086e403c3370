/-! the law's own rows: calls on parts of one large world -/
def putAt : va_W → List Nat → va_W → va_W
  | w, i :: is, c :: cs => putAt (w.set i c) is cs
  | w, _, _ => w
theorem putAt_in : ∀ (is : List Nat) (cs w : va_W) (k : Nat) (q : Nat × va_E), is.length = cs.length → (putAt w is cs)[k]? = some q → (∃ j : Nat, cs[j]? = some q) ∨ (k ∉ is ∧ w[k]? = some q)
  | [], cs, w, k, q, hl, h => by
    cases cs with
    | nil => exact Or.inr ⟨List.not_mem_nil, h⟩
    | cons a b => cases hl
  | i :: is, [], w, k, q, hl, h => by cases hl
  | i :: is, c :: cs, w, k, q, hl, h => by
    have ih := putAt_in is cs (w.set i c) k q (Nat.succ.inj hl) h
    rcases ih with ⟨j, hj⟩ | ⟨h1, h2⟩
    · exact Or.inl ⟨j + 1, hj⟩
    · rw [List.getElem?_set] at h2
      by_cases e : i = k
      · subst e
        rw [if_pos rfl] at h2
        by_cases hlt : i < w.length
        · rw [if_pos hlt] at h2
          exact Or.inl ⟨0, h2⟩
        · rw [if_neg hlt] at h2; cases h2
      · rw [if_neg e] at h2
        exact Or.inr ⟨fun z => (List.mem_cons.mp z).elim (fun z => e z.symm) h1, h2⟩
theorem va_D.ofmap {A : Nat → Prop} {w w' : va_W} (h : va_D A w) (hm : w'.map Prod.fst = w.map Prod.fst) : va_D A w' := by
  have key : ∀ (k : Nat) (q : Nat × va_E), w'[k]? = some q → ∃ z : va_E, w[k]? = some (q.1, z) := fun k q hq => by
    have h1 : (w'.map Prod.fst)[k]? = some q.1 := by rw [List.getElem?_map, hq]; rfl
    rw [hm, List.getElem?_map] at h1
    cases h2 : w[k]? with
    | none => rw [h2] at h1; cases h1
    | some x => rw [h2] at h1; exact ⟨x.2, by rw [← Option.some.inj h1]⟩
  refine ⟨fun i j p q hp hq e => ?_, fun k q hq => ?_⟩
  · obtain ⟨z1, h1⟩ := key i p hp
    obtain ⟨z2, h2⟩ := key j q hq
    exact h.1 i j _ _ h1 h2 e
  · obtain ⟨z1, h1⟩ := key k q hq
    exact h.2 k (q.1, z1) h1
/-- a callee's world put back in its places -/
theorem Wd.put {G : gT} {A : Nat → Prop} {H0 : Heap} {w wc w1 w' : va_W} {H H1 : Heap} {locs locs1 : List Loc} (h : Wd G A H0 w H locs) (isC : List Nat) (hC : isC.map (fun i => w[i]?) = wc.map some) (hl : isC.length = w1.length) (hw : putAt w isC w1 = w') (hm : w'.map Prod.fst = w.map Prod.fst)
    (hk : ∀ q : Nat, q < H.size → ¬ va_A wc H.size q → H1[q]? = H[q]?) (hP1 : va_P G.1 vwCl w1 H1) (hS : va_S A H0 H1 locs1) : Wd G A H0 w' H1 locs1 := by
  refine ⟨fun k q hq => ?_, h.2.1.ofmap hm, hS⟩
  rw [← hw] at hq
  rcases putAt_in isC w1 w k q hl hq with ⟨j, hj⟩ | ⟨h1, h2⟩
  · exact hP1 j q hj
  · have hlt := (h.1 k q h2).lt
    refine (h.1 k q h2).kept (hk q.1 hlt ?_)
    rintro (⟨k', e, he⟩ | hge)
    · have h3 : (isC.map (fun i => w[i]?))[k']? = some (some (q.1, e)) := by rw [hC, List.getElem?_map, he]; rfl
      rw [List.getElem?_map] at h3
      cases hi : isC[k']? with
      | none => rw [hi] at h3; cases h3
      | some i =>
        rw [hi] at h3
        have h4 : w[i]? = some (q.1, e) := Option.some.inj h3
        have h5 : i = k := h.2.1.1 i k _ _ h4 h2 rfl
        exact h1 (h5 ▸ List.mem_of_getElem? hi)
    · exact absurd hlt (Nat.not_lt.mpr hge)
section Rows12
variable {p : Program} {l : Launch} {e : Env} {R : Room} {s : State} {m : MethodId} {args : Array Value} {below : List Frame} {meth : Method} {c : Code} {H : Heap} {locs : List Loc} {cells slots : Nat} {Q : State → Prop}
variable {cc : ByteArray} {nL : Nat} {own : String} {G : gT} {H0 : Heap} {A : Nat → Prop} {w wc : va_W} {pc : Nat} {ls : Array Slot} {rest st0 : List Value} {ar : Array Value}
theorem g_fiS (C : Cx p s m args meth c cc nL own G H0 A) (h : Wd G A H0 w H locs) (isC : List Nat) (hC : isC.map (fun i => w[i]?) = wc.map some) {S : Type} {P : Int32 → S → Prop} {ww w2 : S → va_W} (hl : ∀ u, isC.length = (ww u).length) (hp : ∀ u, putAt w isC (ww u) = w2 u) (hm : ∀ u, (w2 u).map Prod.fst = w.map Prod.fst)
    (hr : va_Run p l e R s m args below meth c H locs cells slots 0 0 (F0 m pc ls st0) rest (va_Qi (fun r w1 => ∃ u : S, P r u ∧ w1 = ww u) (cB1 G (va_A wc H.size)) (va_A wc H.size) ar) (va_A wc H.size))
    (kk : ∀ (r : Int32) (u : S), P r u → ∀ (H1 : Heap) (locs1 : List Loc), Wd G A H0 (w2 u) H1 locs1 → W p l e R s m args below meth c H1 locs1 cells slots Q (F0 m (pc + 3) ls (.int r :: rest))) : W p l e R s m args below meth c H locs cells slots Q (F0 m pc ls st0) := by
  have hF := va_free h.2.1 h.2.2 C.2.2.2.2.2.2.1 isC hC
  refine va_calli hr h.2.2 (fun q _ h9 => hF q h9) hF (fun r u t H1 locs1 ht hvm hw hB hz hk hS => ?_)
  obtain ⟨u, hp1, rfl⟩ := hw
  obtain ⟨hP1, hD1⟩ := hB
  rw [ht] at hP1
  exact kk r u hp1 H1 locs1 (h.put isC hC (hl u) (hp u) (hm u) hk hP1 hS)
theorem g_flS (C : Cx p s m args meth c cc nL own G H0 A) (h : Wd G A H0 w H locs) (isC : List Nat) (hC : isC.map (fun i => w[i]?) = wc.map some) {S : Type} {P : Int64 → S → Prop} {ww w2 : S → va_W} (hl : ∀ u, isC.length = (ww u).length) (hp : ∀ u, putAt w isC (ww u) = w2 u) (hm : ∀ u, (w2 u).map Prod.fst = w.map Prod.fst)
    (hr : va_Run p l e R s m args below meth c H locs cells slots 0 0 (F0 m pc ls st0) rest (va_Ql (fun r w1 => ∃ u : S, P r u ∧ w1 = ww u) (cB1 G (va_A wc H.size)) (va_A wc H.size) ar) (va_A wc H.size))
    (kk : ∀ (r : Int64) (u : S), P r u → ∀ (H1 : Heap) (locs1 : List Loc), Wd G A H0 (w2 u) H1 locs1 → W p l e R s m args below meth c H1 locs1 cells slots Q (F0 m (pc + 3) ls (.long r :: rest))) : W p l e R s m args below meth c H locs cells slots Q (F0 m pc ls st0) := by
  have hF := va_free h.2.1 h.2.2 C.2.2.2.2.2.2.1 isC hC
  refine va_calll hr h.2.2 (fun q _ h9 => hF q h9) hF (fun r u t H1 locs1 ht hvm hw hB hz hk hS => ?_)
  obtain ⟨u, hp1, rfl⟩ := hw
  obtain ⟨hP1, hD1⟩ := hB
  rw [ht] at hP1
  exact kk r u hp1 H1 locs1 (h.put isC hC (hl u) (hp u) (hm u) hk hP1 hS)
end Rows12
