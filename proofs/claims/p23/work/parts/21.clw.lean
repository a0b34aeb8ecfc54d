/-! the class's own cells: one is written at a time -/
section CLW
variable {g : GG} {A : Nat → Nat → Nat} {σ ρ : ST} {x : XT} {M : Mem}
theorem f2_ni {α : Type} {f : Nat → Nat → α} {a i b : Nat} {v : α} (h : b ≠ a) (j : Nat) : f2 f a i v b j = f b j := if_neg fun q => h q.1

theorem W2.ccp (h : W2 g A σ ρ x M) (u s : Nat) (hu : u < σ.un) (b : Bool) : W2 g A (σ.sc u s b) ρ (x) (mset M (A 14 u) (aI .boolean 4 (upd (fun s => bI (σ.cp u s)) s (bI b &&& 1)))) := by
  refine h.put 14 u (hu) ?_ (fun _ _ h => h) ?_
  · show aI .boolean 4 (fun t => bI (f2 σ.cp u s b u t)) = _
    rw [upd_b, f2_u]
  · skip
    intro k' i' hd hne
    match k', hd, hne with
    | 0, hd, hne => exact rfl
    | 1, hd, hne => exact rfl
    | 2, hd, hne => exact rfl
    | 3, hd, hne => exact rfl
    | 4, hd, hne => exact rfl
    | 5, hd, hne => exact rfl
    | 6, hd, hne => exact rfl
    | 7, hd, hne => exact rfl
    | 8, hd, hne => exact rfl
    | 9, hd, hne => exact rfl
    | 10, hd, hne => exact rfl
    | 11, hd, hne => exact rfl
    | 12, hd, hne => exact rfl
    | 13, hd, hne => exact rfl
    | 14, hd, hne => exact congrArg (aI .boolean 4) (funext fun t => congrArg bI (f2_ni (fun e => hne ⟨rfl, e⟩) t))
    | 15, hd, hne => exact rfl
    | 16, hd, hne => exact rfl
    | 17, hd, hne => exact rfl
    | 18, hd, hne => exact rfl
    | 19, hd, hne => exact rfl
    | 20, hd, hne => exact rfl
    | 21, hd, hne => exact rfl
    | 22, hd, hne => exact rfl
    | n + 23, hd, hne => exact rfl

theorem W2.chs (h : W2 g A σ ρ x M) (u s : Nat) (hu : u < σ.un) (v : Int32) : W2 g A (σ.sh u s v) ρ (x) (mset M (A 15 u) (aI .int 4 (upd (σ.hs u) s v))) := by
  refine h.put 15 u (hu) ?_ (fun _ _ h => h) ?_
  · show aI .int 4 (f2 σ.hs u s v u) = _
    rw [upd_i, f2_u]
  · skip
    intro k' i' hd hne
    match k', hd, hne with
    | 0, hd, hne => exact rfl
    | 1, hd, hne => exact rfl
    | 2, hd, hne => exact rfl
    | 3, hd, hne => exact rfl
    | 4, hd, hne => exact rfl
    | 5, hd, hne => exact rfl
    | 6, hd, hne => exact rfl
    | 7, hd, hne => exact rfl
    | 8, hd, hne => exact rfl
    | 9, hd, hne => exact rfl
    | 10, hd, hne => exact rfl
    | 11, hd, hne => exact rfl
    | 12, hd, hne => exact rfl
    | 13, hd, hne => exact rfl
    | 14, hd, hne => exact rfl
    | 15, hd, hne => exact congrArg (aI .int 4) (f2_a (fun e => hne ⟨rfl, e⟩))
    | 16, hd, hne => exact rfl
    | 17, hd, hne => exact rfl
    | 18, hd, hne => exact rfl
    | 19, hd, hne => exact rfl
    | 20, hd, hne => exact rfl
    | 21, hd, hne => exact rfl
    | 22, hd, hne => exact rfl
    | n + 23, hd, hne => exact rfl

theorem W2.cneeds (h : W2 g A σ ρ x M) (u : Nat) (hu : u < σ.un) (v : Nat) : W2 g A (σ.sa 6 u v) ρ (x) (mset M (A 13 u) (ob 4 [.int (nI u), .int (bI (σ.b 2 u)), .int (σ.i 2 u), .int (dig (σ.i 2 u)), .ref (A 14 u), .ref (A 15 u), .int (nI (σ.a 5 u)), .int (nI v)])) := by
  refine h.put 13 u (hu) ?_ (fun _ _ h => h) ?_
  · show ob 4 [_, _, _, _, _, _, _, .int (nI (f2 σ.2.1 6 u v 6 u))] = _
    rw [f2_s]
    rfl
  · skip
    intro k' i' hd hne
    match k', hd, hne with
    | 0, hd, hne => exact rfl
    | 1, hd, hne => exact rfl
    | 2, hd, hne => exact rfl
    | 3, hd, hne => exact rfl
    | 4, hd, hne => exact rfl
    | 5, hd, hne => exact rfl
    | 6, hd, hne => exact rfl
    | 7, hd, hne => exact rfl
    | 8, hd, hne => exact rfl
    | 9, hd, hne => exact rfl
    | 10, hd, hne => exact rfl
    | 11, hd, hne => exact rfl
    | 12, hd, hne => exact rfl
    | 13, hd, hne => exact congrArg (fun z => ob 4 [.int (nI i'), .int (bI (σ.b 2 i')), .int (σ.i 2 i'), .int (dig (σ.i 2 i')), .ref (A 14 i'), .ref (A 15 i'), .int (nI (σ.a 5 i')), .int (nI z)]) (f2_n (f := σ.2.1) (fun e => hne ⟨rfl, e.2⟩))
    | 14, hd, hne => exact rfl
    | 15, hd, hne => exact rfl
    | 16, hd, hne => exact rfl
    | 17, hd, hne => exact rfl
    | 18, hd, hne => exact rfl
    | 19, hd, hne => exact rfl
    | 20, hd, hne => exact rfl
    | 21, hd, hne => exact rfl
    | 22, hd, hne => exact rfl
    | n + 23, hd, hne => exact rfl

theorem W2.cshould (h : W2 g A σ ρ x M) (u : Nat) (hu : u < σ.un) (v : Nat) : W2 g A (σ.sa 5 u v) ρ (x) (mset M (A 13 u) (ob 4 [.int (nI u), .int (bI (σ.b 2 u)), .int (σ.i 2 u), .int (dig (σ.i 2 u)), .ref (A 14 u), .ref (A 15 u), .int (nI v), .int (nI (σ.a 6 u))])) := by
  refine h.put 13 u (hu) ?_ (fun _ _ h => h) ?_
  · show ob 4 [_, _, _, _, _, _, .int (nI (f2 σ.2.1 5 u v 5 u)), _] = _
    rw [f2_s]
    rfl
  · skip
    intro k' i' hd hne
    match k', hd, hne with
    | 0, hd, hne => exact rfl
    | 1, hd, hne => exact rfl
    | 2, hd, hne => exact rfl
    | 3, hd, hne => exact rfl
    | 4, hd, hne => exact rfl
    | 5, hd, hne => exact rfl
    | 6, hd, hne => exact rfl
    | 7, hd, hne => exact rfl
    | 8, hd, hne => exact rfl
    | 9, hd, hne => exact rfl
    | 10, hd, hne => exact rfl
    | 11, hd, hne => exact rfl
    | 12, hd, hne => exact rfl
    | 13, hd, hne => exact congrArg (fun z => ob 4 [.int (nI i'), .int (bI (σ.b 2 i')), .int (σ.i 2 i'), .int (dig (σ.i 2 i')), .ref (A 14 i'), .ref (A 15 i'), .int (nI z), .int (nI (σ.a 6 i'))]) (f2_n (f := σ.2.1) (fun e => hne ⟨rfl, e.2⟩))
    | 14, hd, hne => exact rfl
    | 15, hd, hne => exact rfl
    | 16, hd, hne => exact rfl
    | 17, hd, hne => exact rfl
    | 18, hd, hne => exact rfl
    | 19, hd, hne => exact rfl
    | 20, hd, hne => exact rfl
    | 21, hd, hne => exact rfl
    | 22, hd, hne => exact rfl
    | n + 23, hd, hne => exact rfl

theorem W2.cloads (h : W2 g A σ ρ x M) (s v : Nat) : W2 g A (σ.sa 7 s v) ρ (x) (mset M (A 10 0) (aI .int 4 (upd (fun s => nI (σ.a 7 s)) s (nI v)))) := by
  refine h.put 10 0 (⟨by decide, rfl⟩) ?_ (fun _ _ h => h) ?_
  · show aI .int 4 (fun t => nI (f2 σ.2.1 7 s v 7 t)) = _
    rw [upd_n, f2_u]
    rfl
  · skip
    intro k' i' hd hne
    match k', hd, hne with
    | 0, hd, hne => exact rfl
    | 1, hd, hne => exact rfl
    | 2, hd, hne => exact rfl
    | 3, hd, hne => exact rfl
    | 4, hd, hne => exact rfl
    | 5, hd, hne => exact rfl
    | 6, hd, hne => exact rfl
    | 7, hd, hne => exact rfl
    | 8, hd, hne => exact rfl
    | 9, hd, hne => exact rfl
    | 10, hd, hne => exact absurd ⟨rfl, hd.2⟩ hne
    | 11, hd, hne => exact rfl
    | 12, hd, hne => exact rfl
    | 13, hd, hne => exact rfl
    | 14, hd, hne => exact rfl
    | 15, hd, hne => exact rfl
    | 16, hd, hne => exact rfl
    | 17, hd, hne => exact rfl
    | 18, hd, hne => exact rfl
    | 19, hd, hne => exact rfl
    | 20, hd, hne => exact rfl
    | 21, hd, hne => exact rfl
    | 22, hd, hne => exact rfl
    | n + 23, hd, hne => exact rfl

theorem W2.cclosed (h : W2 g A σ ρ x M) (s : Nat) (b : Bool) : W2 g A (σ.sb 4 s b) ρ (x) (mset M (A 9 0) (aI .boolean 4 (upd (fun s => bI (σ.b 4 s)) s (bI b &&& 1)))) := by
  refine h.put 9 0 (⟨by decide, rfl⟩) ?_ (fun _ _ h => h) ?_
  · show aI .boolean 4 (fun t => bI (f2 σ.2.2.2.1 4 s b 4 t)) = _
    rw [upd_b, f2_u]
    rfl
  · skip
    intro k' i' hd hne
    match k', hd, hne with
    | 0, hd, hne => exact rfl
    | 1, hd, hne => exact rfl
    | 2, hd, hne => exact rfl
    | 3, hd, hne => exact rfl
    | 4, hd, hne => exact rfl
    | 5, hd, hne => exact rfl
    | 6, hd, hne => exact rfl
    | 7, hd, hne => exact rfl
    | 8, hd, hne => exact rfl
    | 9, hd, hne => exact absurd ⟨rfl, hd.2⟩ hne
    | 10, hd, hne => exact rfl
    | 11, hd, hne => exact rfl
    | 12, hd, hne => exact rfl
    | 13, hd, hne => exact rfl
    | 14, hd, hne => exact rfl
    | 15, hd, hne => exact rfl
    | 16, hd, hne => exact rfl
    | 17, hd, hne => exact rfl
    | 18, hd, hne => exact rfl
    | 19, hd, hne => exact rfl
    | 20, hd, hne => exact rfl
    | 21, hd, hne => exact rfl
    | 22, hd, hne => exact rfl
    | n + 23, hd, hne => exact rfl

theorem W2.clast (h : W2 g A σ ρ x M) (v : Nat) : W2 g A (σ.sn 3 v) ρ (x) (mset M (A 6 0) (ob 3 [.ref (A 7 0), .ref (A 9 0), .ref (A 10 0), .int (nI v - 1)])) := by
  refine h.put 6 0 (⟨by decide, rfl⟩) ?_ (fun _ _ h => h) ?_
  · rfl
  · skip
    intro k' i' hd hne
    match k', hd, hne with
    | 0, hd, hne => exact rfl
    | 1, hd, hne => exact rfl
    | 2, hd, hne => exact rfl
    | 3, hd, hne => exact rfl
    | 4, hd, hne => exact rfl
    | 5, hd, hne => exact rfl
    | 6, hd, hne => exact absurd ⟨rfl, hd.2⟩ hne
    | 7, hd, hne => exact rfl
    | 8, hd, hne => exact rfl
    | 9, hd, hne => exact rfl
    | 10, hd, hne => exact rfl
    | 11, hd, hne => exact rfl
    | 12, hd, hne => exact rfl
    | 13, hd, hne => exact rfl
    | 14, hd, hne => exact rfl
    | 15, hd, hne => exact rfl
    | 16, hd, hne => exact rfl
    | 17, hd, hne => exact rfl
    | 18, hd, hne => exact rfl
    | 19, hd, hne => exact rfl
    | 20, hd, hne => exact rfl
    | 21, hd, hne => exact rfl
    | 22, hd, hne => exact rfl
    | n + 23, hd, hne => exact rfl

theorem W2.crisk (h : W2 g A σ ρ x M) (j : Nat) (v : Int32) : W2 g A (σ.si 0 j v) ρ (x) (mset M (A 2 0) (aI .int 8 (upd (σ.i 0) j v))) := by
  refine h.put 2 0 (⟨by decide, rfl⟩) ?_ (fun _ _ h => h) ?_
  · show aI .int 8 (f2 σ.2.2.1 0 j v 0) = _
    rw [upd_i, f2_u]
    rfl
  · skip
    intro k' i' hd hne
    match k', hd, hne with
    | 0, hd, hne => exact rfl
    | 1, hd, hne => exact rfl
    | 2, hd, hne => exact absurd ⟨rfl, hd.2⟩ hne
    | 3, hd, hne => exact rfl
    | 4, hd, hne => exact rfl
    | 5, hd, hne => exact rfl
    | 6, hd, hne => exact rfl
    | 7, hd, hne => exact rfl
    | 8, hd, hne => exact rfl
    | 9, hd, hne => exact rfl
    | 10, hd, hne => exact rfl
    | 11, hd, hne => exact rfl
    | 12, hd, hne => exact rfl
    | 13, hd, hne => exact rfl
    | 14, hd, hne => exact rfl
    | 15, hd, hne => exact rfl
    | 16, hd, hne => exact rfl
    | 17, hd, hne => exact rfl
    | 18, hd, hne => exact rfl
    | 19, hd, hne => exact rfl
    | 20, hd, hne => exact rfl
    | 21, hd, hne => exact rfl
    | 22, hd, hne => exact rfl
    | n + 23, hd, hne => exact rfl

theorem W2.crch (h : W2 g A σ ρ x M) (f : Nat → Int32) : W2 g A (σ) ρ (x.srch f) (mset M (A 4 0) (aI .int 8 f)) := by
  refine h.put 4 0 (⟨by decide, rfl⟩) ?_ (fun _ _ h => h) ?_
  · rfl
  · skip
    intro k' i' hd hne
    match k', hd, hne with
    | 0, hd, hne => exact rfl
    | 1, hd, hne => exact rfl
    | 2, hd, hne => exact rfl
    | 3, hd, hne => exact rfl
    | 4, hd, hne => exact absurd ⟨rfl, hd.2⟩ hne
    | 5, hd, hne => exact rfl
    | 6, hd, hne => exact rfl
    | 7, hd, hne => exact rfl
    | 8, hd, hne => exact rfl
    | 9, hd, hne => exact rfl
    | 10, hd, hne => exact rfl
    | 11, hd, hne => exact rfl
    | 12, hd, hne => exact rfl
    | 13, hd, hne => exact rfl
    | 14, hd, hne => exact rfl
    | 15, hd, hne => exact rfl
    | 16, hd, hne => exact rfl
    | 17, hd, hne => exact rfl
    | 18, hd, hne => exact rfl
    | 19, hd, hne => exact rfl
    | 20, hd, hne => exact rfl
    | 21, hd, hne => exact rfl
    | 22, hd, hne => exact rfl
    | n + 23, hd, hne => exact rfl

theorem W2.cfo (h : W2 g A σ ρ x M) (v : Nat) : W2 g A (σ.sn 0 v) ρ (x) (mset M (A 1 0) (ob 2 [.ref (A 2 0), .ref (A 3 0), .ref (A 4 0), .int (nI v)])) := by
  refine h.put 1 0 (⟨by decide, rfl⟩) ?_ (fun _ _ h => h) ?_
  · rfl
  · skip
    intro k' i' hd hne
    match k', hd, hne with
    | 0, hd, hne => exact rfl
    | 1, hd, hne => exact absurd ⟨rfl, hd.2⟩ hne
    | 2, hd, hne => exact rfl
    | 3, hd, hne => exact rfl
    | 4, hd, hne => exact rfl
    | 5, hd, hne => exact rfl
    | 6, hd, hne => exact rfl
    | 7, hd, hne => exact rfl
    | 8, hd, hne => exact rfl
    | 9, hd, hne => exact rfl
    | 10, hd, hne => exact rfl
    | 11, hd, hne => exact rfl
    | 12, hd, hne => exact rfl
    | 13, hd, hne => exact rfl
    | 14, hd, hne => exact rfl
    | 15, hd, hne => exact rfl
    | 16, hd, hne => exact rfl
    | 17, hd, hne => exact rfl
    | 18, hd, hne => exact rfl
    | 19, hd, hne => exact rfl
    | 20, hd, hne => exact rfl
    | 21, hd, hne => exact rfl
    | 22, hd, hne => exact rfl
    | n + 23, hd, hne => exact rfl

theorem W2.crow (h : W2 g A σ ρ x M) (i j : Nat) (hi : i < 8) (v : Int32) : W2 g A (σ.sl i j v) ρ (x) (mset M (A 5 i) (aI .int 8 (upd (fun j => costOf (σ.lo i j)) j (costOf v)))) := by
  refine h.put 5 i (hi) ?_ (fun _ _ h => h) ?_
  · show aI .int 8 (fun t => costOf (f2 σ.lo i j v i t)) = _
    refine congrArg (aI .int 8) (funext fun t => ?_)
    unfold f2 upd
    by_cases ht : t = j
    · simp [ht]
    · simp [ht]
  · skip
    intro k' i' hd hne
    match k', hd, hne with
    | 0, hd, hne => exact rfl
    | 1, hd, hne => exact rfl
    | 2, hd, hne => exact rfl
    | 3, hd, hne => exact rfl
    | 4, hd, hne => exact rfl
    | 5, hd, hne => exact congrArg (aI .int 8) (funext fun t => congrArg costOf (f2_ni (fun e => hne ⟨rfl, e⟩) t))
    | 6, hd, hne => exact rfl
    | 7, hd, hne => exact rfl
    | 8, hd, hne => exact rfl
    | 9, hd, hne => exact rfl
    | 10, hd, hne => exact rfl
    | 11, hd, hne => exact rfl
    | 12, hd, hne => exact rfl
    | 13, hd, hne => exact rfl
    | 14, hd, hne => exact rfl
    | 15, hd, hne => exact rfl
    | 16, hd, hne => exact rfl
    | 17, hd, hne => exact rfl
    | 18, hd, hne => exact rfl
    | 19, hd, hne => exact rfl
    | 20, hd, hne => exact rfl
    | 21, hd, hne => exact rfl
    | 22, hd, hne => exact rfl
    | n + 23, hd, hne => exact rfl

theorem W2.cthere (h : W2 g A σ ρ x M) (v : Nat) (hv : vok σ v) (b : Bool) : W2 g A (σ.sb 0 v b) ρ (x) (mset M (A 19 v) (ob 5 [.ref (A 13 (σ.a 3 v)), if σ.b 2 (σ.a 3 v) = true then .ref (A 19 (σ.a 4 v)) else .null, .int (nI (σ.a 2 v)), .int (σ.i 4 v), .int (bI b)])) := by
  refine h.put 19 v (hv) ?_ (fun _ _ h => h) ?_
  · show ob 5 [_, _, _, _, .int (bI (f2 σ.2.2.2.1 0 v b 0 v))] = _
    rw [f2_s]
    rfl
  · skip
    intro k' i' hd hne
    match k', hd, hne with
    | 0, hd, hne => exact rfl
    | 1, hd, hne => exact rfl
    | 2, hd, hne => exact rfl
    | 3, hd, hne => exact rfl
    | 4, hd, hne => exact rfl
    | 5, hd, hne => exact rfl
    | 6, hd, hne => exact rfl
    | 7, hd, hne => exact rfl
    | 8, hd, hne => exact rfl
    | 9, hd, hne => exact rfl
    | 10, hd, hne => exact rfl
    | 11, hd, hne => exact rfl
    | 12, hd, hne => exact rfl
    | 13, hd, hne => exact rfl
    | 14, hd, hne => exact rfl
    | 15, hd, hne => exact rfl
    | 16, hd, hne => exact rfl
    | 17, hd, hne => exact rfl
    | 18, hd, hne => exact rfl
    | 19, hd, hne => exact congrArg (fun z => ob 5 [.ref (A 13 (σ.a 3 i')), if σ.b 2 (σ.a 3 i') = true then .ref (A 19 (σ.a 4 i')) else .null, .int (nI (σ.a 2 i')), .int (σ.i 4 i'), .int (bI z)]) (f2_n (f := σ.2.2.2.1) (fun e => hne ⟨rfl, e.2⟩))
    | 20, hd, hne => exact rfl
    | 21, hd, hne => exact rfl
    | 22, hd, hne => exact rfl
    | n + 23, hd, hne => exact rfl

end CLW
