/-! calls on many cells of one large world -/
def mrg : va_W → List (Option (Nat × va_E)) → va_W
  | a :: as, none :: os => a :: mrg as os
  | _ :: as, some c :: os => c :: mrg as os
  | w, _ => w
theorem mrg_in : ∀ (w : va_W) (os : List (Option (Nat × va_E))) (k : Nat) (q : Nat × va_E), (mrg w os)[k]? = some q → os[k]? = some (some q) ∨ ((∀ c, os[k]? ≠ some (some c)) ∧ w[k]? = some q)
  | [], os, k, q, h => by rw [mrg.eq_def] at h; cases h
  | a :: as, [], k, q, h => Or.inr ⟨fun c e => by simp at e, h⟩
  | a :: as, none :: os, 0, q, h => Or.inr ⟨fun c e => by simp at e, h⟩
  | a :: as, some c :: os, 0, q, h => Or.inl (by
    have : some c = some q := h
    rw [← this]; rfl)
  | a :: as, none :: os, k + 1, q, h => by
    have h2 : (mrg as os)[k]? = some q := h
    exact mrg_in as os k q h2
  | a :: as, some c :: os, k + 1, q, h => by
    have h2 : (mrg as os)[k]? = some q := h
    exact mrg_in as os k q h2
theorem Wd.mrg {G : gT} {A : Nat → Prop} {H0 : Heap} {w wc w1 w' : va_W} {H H1 : Heap} {locs locs1 : List Loc} (h : Wd G A H0 w H locs) (isC : List Nat) (os : List (Option (Nat × va_E))) (perm : List Nat) (hC : isC.map (fun i => w[i]?) = wc.map some) (hq : os.filterMap id = perm.filterMap (fun i => w1[i]?)) (h2 : isC.all (fun i => (os.getD i none).isSome) = true) (hw : mrg w os = w') (hm : w'.map Prod.fst = w.map Prod.fst)
    (hk : ∀ q : Nat, q < H.size → ¬ va_A wc H.size q → H1[q]? = H[q]?) (hP1 : va_P G.1 vwCl w1 H1) (hS : va_S A H0 H1 locs1) : Wd G A H0 w' H1 locs1 := by
  refine ⟨fun k q hq9 => ?_, h.2.1.ofmap hm, hS⟩
  rw [← hw] at hq9
  rcases mrg_in w os k q hq9 with h3 | ⟨h3, h4⟩
  · have h5 : q ∈ os.filterMap id := List.mem_filterMap.mpr ⟨some q, List.mem_of_getElem? h3, rfl⟩
    rw [hq] at h5
    obtain ⟨i, -, hi⟩ := List.mem_filterMap.mp h5
    exact hP1 i q hi
  · have hlt := (h.1 k q h4).lt
    refine (h.1 k q h4).kept (hk q.1 hlt ?_)
    rintro (⟨k', e, he⟩ | hge)
    · have h5 : (isC.map (fun i => w[i]?))[k']? = some (some (q.1, e)) := by rw [hC, List.getElem?_map, he]; rfl
      rw [List.getElem?_map] at h5
      cases hi : isC[k']? with
      | none => rw [hi] at h5; cases h5
      | some i =>
        rw [hi] at h5
        have h6 : w[i]? = some (q.1, e) := Option.some.inj h5
        have h7 : i = k := h.2.1.1 i k _ _ h6 h4 rfl
        have h8 := List.all_eq_true.mp h2 i (List.mem_of_getElem? hi)
        rw [List.getD_eq_getElem?_getD, h7] at h8
        cases h9 : os[k]? with
        | none => rw [h9] at h8; cases h8
        | some x =>
          rw [h9] at h8
          cases x with
          | none => cases h8
          | some c => exact h3 c h9
    · exact absurd hlt (Nat.not_lt.mpr hge)
section Rows13
variable {p : Program} {l : Launch} {e : Env} {R : Room} {s : State} {m : MethodId} {args : Array Value} {below : List Frame} {meth : Method} {c : Code} {H : Heap} {locs : List Loc} {cells slots : Nat} {Q : State → Prop}
variable {cc : ByteArray} {nL : Nat} {own : String} {G : gT} {H0 : Heap} {A : Nat → Prop} {w wc : va_W} {pc : Nat} {ls : Array Slot} {rest st0 : List Value} {ar : Array Value}
theorem g_fiM (C : Cx p s m args meth c cc nL own G H0 A) (h : Wd G A H0 w H locs) (isC perm : List Nat) (hC : isC.map (fun i => w[i]?) = wc.map some) {S : Type} {P : Int32 → S → Prop} {ww w2 : S → va_W} {os : S → List (Option (Nat × va_E))} (hq : ∀ u, (os u).filterMap id = perm.filterMap (fun i => (ww u)[i]?)) (h2 : ∀ u, isC.all (fun i => ((os u).getD i none).isSome) = true) (hp : ∀ u, mrg w (os u) = w2 u) (hm : ∀ u, (w2 u).map Prod.fst = w.map Prod.fst)
    (hr : va_Run p l e R s m args below meth c H locs cells slots 0 0 (F0 m pc ls st0) rest (va_Qi (fun r w1 => ∃ u : S, P r u ∧ w1 = ww u) (cB1 G (va_A wc H.size)) (va_A wc H.size) ar) (va_A wc H.size))
    (kk : ∀ (r : Int32) (u : S), P r u → ∀ (H1 : Heap) (locs1 : List Loc), Wd G A H0 (w2 u) H1 locs1 → W p l e R s m args below meth c H1 locs1 cells slots Q (F0 m (pc + 3) ls (.int r :: rest))) : W p l e R s m args below meth c H locs cells slots Q (F0 m pc ls st0) := by
  have hF := va_free h.2.1 h.2.2 C.2.2.2.2.2.2.1 isC hC
  refine va_calli hr h.2.2 (fun q _ h9 => hF q h9) hF (fun r u t H1 locs1 ht hvm hw hB hz hk hS => ?_)
  obtain ⟨u, hp1, rfl⟩ := hw
  obtain ⟨hP1, hD1⟩ := hB
  rw [ht] at hP1
  exact kk r u hp1 H1 locs1 (h.mrg isC (os u) perm hC (hq u) (h2 u) (hp u) (hm u) hk hP1 hS)
end Rows13
