/-! a version is purged: what holds still -/
theorem relS_f {σ : ST} : ∀ (l : List Nat) (τ : ST), agr σ τ → (∀ u, cnL σ u l ≤ τ.a 6 u) → (∀ w, w ∈ l → σ.a 3 w < 100) → LD τ → agr σ (relS l τ) ∧ (∀ u, (relS l τ).a 6 u = τ.a 6 u - cnL σ u l) ∧ LD (relS l τ) ∧ ∀ u s, (relS l τ).cp u s = if (0 < cnL σ u l ∧ τ.a 6 u = cnL σ u l) ∧ s < 4 then false else τ.cp u s
  | [], τ, ha, _, _, hL => ⟨ha, fun _ => rfl, hL, fun u s => by
    rw [if_neg (fun q => absurd q.1.1 (Nat.lt_irrefl 0))]
    rfl⟩
  | w :: l, τ, ha, hg, hN, hL => by
    have hu0 := hN w List.mem_cons_self
    have e6 := sa6_at τ (σ.a 3 w) (τ.a 6 (σ.a 3 w) - 1)
    have hc0 : cnL σ (σ.a 3 w) (w :: l) = cnL σ (σ.a 3 w) l + 1 := by
      show _ + _ = _
      rw [if_pos rfl]
    have hcn : ∀ u, u ≠ σ.a 3 w → cnL σ u (w :: l) = cnL σ u l := fun u hu => by
      show _ + _ = _
      rw [if_neg (fun e => hu e.symm), Nat.add_zero]
    have h0 := hg (σ.a 3 w)
    rw [hc0] at h0
    have ha2 := ha.trans (agr.sa6 τ (σ.a 3 w) (τ.a 6 (σ.a 3 w) - 1))
    have hg2 : ∀ u, cnL σ u l ≤ (τ.sa 6 (σ.a 3 w) (τ.a 6 (σ.a 3 w) - 1)).a 6 u := fun u => by
      rw [e6]
      by_cases hq : u = σ.a 3 w
      · rw [if_pos hq, hq]
        omega
      · rw [if_neg hq, ← hcn u hq]
        exact hg u
    have hN2 : ∀ w', w' ∈ l → σ.a 3 w' < 100 := fun w' h => hN w' (List.mem_cons_of_mem _ h)
    have hL2 : LD (τ.sa 6 (σ.a 3 w) (τ.a 6 (σ.a 3 w) - 1)) := fun t ht => (hL t ht).trans (ldn_cp (σ := τ) (τ := τ.sa 6 (σ.a 3 w) (τ.a 6 (σ.a 3 w) - 1)) 100 (fun _ _ => rfl)).symm
    have en : relS (w :: l) τ = if τ.a 6 (σ.a 3 w) - 1 = 0 then relS l (drA (τ.sa 6 (σ.a 3 w) (τ.a 6 (σ.a 3 w) - 1)) (σ.a 3 w) 4) else relS l (τ.sa 6 (σ.a 3 w) (τ.a 6 (σ.a 3 w) - 1)) := by rw [← ha.a3 w]; rfl
    rw [en]
    by_cases hz : τ.a 6 (σ.a 3 w) - 1 = 0
    · rw [if_pos hz]
      have hd := drA_same (τ.sa 6 (σ.a 3 w) (τ.a 6 (σ.a 3 w) - 1)) (σ.a 3 w) 4
      have e63 : ∀ u, (drA (τ.sa 6 (σ.a 3 w) (τ.a 6 (σ.a 3 w) - 1)) (σ.a 3 w) 4).a 6 u = (τ.sa 6 (σ.a 3 w) (τ.a 6 (σ.a 3 w) - 1)).a 6 u := congrFun (hd.2.1 6 (by decide))
      obtain ⟨k1, k2, k3, k4⟩ := relS_f l _ (ha2.trans (agr.drA _ (σ.a 3 w) 4)) (fun u => by rw [e63]; exact hg2 u) hN2 (hL2.drA hu0 4 (Nat.le_refl _))
      refine ⟨k1, fun u => ?_, k3, fun u s => ?_⟩
      · rw [k2, e63, e6]
        by_cases hq : u = σ.a 3 w
        · rw [if_pos hq, hq, hc0]
          omega
        · rw [if_neg hq, hcn u hq]
      · rw [k4, e63, e6, hd.2.2.2.2.2.2 u s]
        by_cases hq : u = σ.a 3 w
        · rw [if_pos hq, hq, hc0]
          have k5 : ¬ ((0 < cnL σ (σ.a 3 w) l ∧ τ.a 6 (σ.a 3 w) - 1 = cnL σ (σ.a 3 w) l) ∧ s < 4) := by omega
          rw [if_neg k5]
          by_cases hs : s < 4
          · rw [if_pos ⟨rfl, hs⟩, if_pos ⟨⟨by omega, by omega⟩, hs⟩]
          · rw [if_neg (fun z => hs z.2), if_neg (fun z => hs z.2)]
            rfl
        · rw [if_neg hq, hcn u hq, if_neg (fun z => hq z.1) (c := u = σ.a 3 w ∧ s < 4)]
          rfl
    · rw [if_neg hz]
      obtain ⟨k1, k2, k3, k4⟩ := relS_f l _ ha2 hg2 hN2 hL2
      refine ⟨k1, fun u => ?_, k3, fun u s => ?_⟩
      · rw [k2, e6]
        by_cases hq : u = σ.a 3 w
        · rw [if_pos hq, hq, hc0]
          omega
        · rw [if_neg hq, hcn u hq]
      · rw [k4, e6]
        by_cases hq : u = σ.a 3 w
        · rw [if_pos hq, hq, hc0]
          by_cases hx : (0 < cnL σ (σ.a 3 w) l ∧ τ.a 6 (σ.a 3 w) - 1 = cnL σ (σ.a 3 w) l) ∧ s < 4
          · rw [if_pos hx, if_pos ⟨⟨by omega, by omega⟩, hx.2⟩]
          · rw [if_neg hx, if_neg (by omega)]
            rfl
        · rw [if_neg hq, hcn u hq]
          rfl
theorem clC_cp (u : Nat) (σ : ST) : ∀ (n w t : Nat), (clC u n σ).cp w t = if w = u ∧ t < n then false else σ.cp w t
  | 0, w, t => by
    rw [if_neg (fun z => Nat.not_lt_zero t z.2)]
    rfl
  | n + 1, w, t => by
    show f2 (clC u n σ).cp u n false w t = _
    by_cases hq : w = u ∧ t = n
    · rw [hq.1, hq.2, f2_s, if_pos ⟨rfl, Nat.lt_succ_self n⟩]
    · rw [f2_n hq, clC_cp u σ n w t]
      by_cases hl : w = u ∧ t < n
      · rw [if_pos hl, if_pos ⟨hl.1, by omega⟩]
      · rw [if_neg hl, if_neg (fun z => by
          have : t = n ∨ t < n := by omega
          rcases this with k | k
          · exact hq ⟨z.1, k⟩
          · exact hl ⟨z.1, k⟩)]
theorem pgS_s (σ : ST) (n : Nat) : pgS σ (n + 1) = if (pgS σ n).b 1 n = true ∧ ndd σ n 100 = false then clU (pgS σ n) n else pgS σ n := rfl
theorem pgS_b (σ : ST) : ∀ n u, (pgS σ n).b 1 u = if u < n then (σ.b 1 u && ndd σ u 100) else σ.b 1 u
  | 0, u => by
    rw [if_neg (Nat.not_lt_zero u)]
    rfl
  | n + 1, u => by
    rw [pgS_s, pgS_b1 n n (Nat.le_refl n)]
    have ih := pgS_b σ n u
    by_cases hc : σ.b 1 n = true ∧ ndd σ n 100 = false
    · rw [if_pos hc]
      have e : (clU (pgS σ n) n).b 1 u = ((pgS σ n).sb 1 n false).b 1 u := congrFun (congrFun (clC_same n 4 ((pgS σ n).sb 1 n false)).2.2.2.1 1) u
      rw [e]
      show f2 (pgS σ n).2.2.2.1 1 n false 1 u = _
      by_cases hu : u = n
      · rw [hu, f2_s, if_pos (Nat.lt_succ_self n), hc.2, Bool.and_false]
      · rw [f2_n (fun z => hu z.2)]
        refine Eq.trans ih ?_
        by_cases hl : u < n
        · rw [if_pos hl, if_pos (by omega)]
        · rw [if_neg hl, if_neg (by omega)]
    · rw [if_neg hc, ih]
      by_cases hu : u = n
      · rw [hu, if_neg (Nat.lt_irrefl n), if_pos (Nat.lt_succ_self n)]
        cases h1 : σ.b 1 n with
        | false => rfl
        | true =>
          cases h2 : ndd σ n 100 with
          | true => rfl
          | false => exact absurd ⟨h1, h2⟩ hc
      · by_cases hl : u < n
        · rw [if_pos hl, if_pos (by omega)]
        · rw [if_neg hl, if_neg (by omega)]
theorem pgS_cp (σ : ST) : ∀ n u s, (pgS σ n).cp u s = if (u < n ∧ σ.b 1 u = true ∧ ndd σ u 100 = false) ∧ s < 4 then false else σ.cp u s
  | 0, u, s => by
    rw [if_neg (fun z => Nat.not_lt_zero u z.1.1)]
    rfl
  | n + 1, u, s => by
    rw [pgS_s, pgS_b1 n n (Nat.le_refl n)]
    have ih := pgS_cp σ n u s
    by_cases hc : σ.b 1 n = true ∧ ndd σ n 100 = false
    · rw [if_pos hc]
      have e : (clU (pgS σ n) n).cp u s = if u = n ∧ s < 4 then false else (pgS σ n).cp u s := clC_cp n ((pgS σ n).sb 1 n false) 4 u s
      rw [e, ih]
      by_cases hu : u = n
      · by_cases hs : s < 4
        · rw [if_pos ⟨hu, hs⟩, if_pos ⟨⟨by omega, by rw [hu]; exact hc⟩, hs⟩]
        · rw [if_neg (fun z => hs z.2), if_neg (fun z => hs z.2), if_neg (fun z => hs z.2)]
      · rw [if_neg (fun z => hu z.1) (c := u = n ∧ s < 4)]
        by_cases hx : (u < n ∧ σ.b 1 u = true ∧ ndd σ u 100 = false) ∧ s < 4
        · rw [if_pos hx, if_pos ⟨⟨by omega, hx.1.2⟩, hx.2⟩]
        · rw [if_neg hx, if_neg (fun z => hx ⟨⟨by have := z.1.1; omega, z.1.2⟩, z.2⟩)]
    · rw [if_neg hc, ih]
      by_cases hx : (u < n ∧ σ.b 1 u = true ∧ ndd σ u 100 = false) ∧ s < 4
      · rw [if_pos hx, if_pos ⟨⟨by omega, hx.1.2⟩, hx.2⟩]
      · rw [if_neg hx, if_neg (fun z => ?_)]
        by_cases hu : u = n
        · rw [hu] at z
          exact hc z.1.2
        · exact hx ⟨⟨by have := z.1.1; omega, z.1.2⟩, z.2⟩
theorem many_ex {σ : ST} {o k0 : Nat} : ∀ n, (if k0 < n then 1 else 0) < many σ o n → ∃ k, k < n ∧ k ≠ k0 ∧ σ.b 0 (10 * o + k) = true
  | 0, h => absurd h (Nat.not_lt_zero _)
  | n + 1, h => by
    unfold many at h
    by_cases hb : n ≠ k0 ∧ σ.b 0 (10 * o + n) = true
    · exact ⟨n, Nat.lt_succ_self n, hb.1, hb.2⟩
    · have key : (if k0 < n then 1 else 0) < many σ o n := by
        by_cases hn : n = k0
        · rw [if_pos (by omega)] at h
          rw [if_neg (by omega)]
          split at h <;> omega
        · have hf : ¬ σ.b 0 (10 * o + n) = true := fun q => hb ⟨hn, q⟩
          rw [if_neg hf] at h
          by_cases hl : k0 < n
          · rw [if_pos (by omega)] at h
            rw [if_pos hl]
            exact h
          · rw [if_neg (by omega)] at h
            rw [if_neg hl]
            exact h
      obtain ⟨k, k1, k2, k3⟩ := many_ex n key
      exact ⟨k, by omega, k2, k3⟩
/-- a state, its rows of booleans exchanged -/
def puF (τ : ST) (b : Nat → Nat → Bool) : ST := (τ.1, τ.2.1, τ.2.2.1, b, τ.2.2.2.2)
theorem W2.b1s {g : GG} {A : Nat → Nat → Nat} {σ ρ : ST} {x : XT} {M : Mem} (h : W2 g A σ ρ x M) {b : Nat → Nat → Bool} (hb : ∀ k, k ≠ 1 → b k = σ.b k) : W2 g A (puF σ b) ρ x M := by
  have key : ∀ k' i', wdom σ k' i' → True → wcell g A σ ρ x k' i' = wcell g A (puF σ b) ρ x k' i' := by
    intro k' i' hd hne
    match k', hd, hne with
    | 0, hd, hne => exact rfl
    | 1, hd, hne => exact rfl
    | 2, hd, hne => exact rfl
    | 3, hd, hne => exact rfl
    | 4, hd, hne => exact rfl
    | 5, hd, hne => exact rfl
    | 6, hd, hne => exact rfl
    | 7, hd, hne => exact rfl
    | 8, hd, hne => exact rfl
    | 9, hd, hne => exact (by show aI .boolean 4 (fun s => bI (σ.b 4 s)) = aI .boolean 4 (fun s => bI (b 4 s)); rw [hb 4 (by decide)])
    | 10, hd, hne => exact rfl
    | 11, hd, hne => exact rfl
    | 12, hd, hne => exact rfl
    | 13, hd, hne => exact (by show ob 4 [.int (nI i'), .int (bI (σ.b 2 i')), .int (σ.i 2 i'), .int (dig (σ.i 2 i')), .ref (A 14 i'), .ref (A 15 i'), .int (nI (σ.a 5 i')), .int (nI (σ.a 6 i'))] = ob 4 [.int (nI i'), .int (bI (b 2 i')), .int (σ.i 2 i'), .int (dig (σ.i 2 i')), .ref (A 14 i'), .ref (A 15 i'), .int (nI (σ.a 5 i')), .int (nI (σ.a 6 i'))]; rw [hb 2 (by decide)])
    | 14, hd, hne => exact rfl
    | 15, hd, hne => exact rfl
    | 16, hd, hne => exact rfl
    | 17, hd, hne => exact rfl
    | 18, hd, hne => exact rfl
    | 19, hd, hne => exact (by show ob 5 [.ref (A 13 (σ.a 3 i')), if σ.b 2 (σ.a 3 i') = true then .ref (A 19 (σ.a 4 i')) else .null, .int (nI (σ.a 2 i')), .int (σ.i 4 i'), .int (bI (σ.b 0 i'))] = ob 5 [.ref (A 13 (σ.a 3 i')), if b 2 (σ.a 3 i') = true then .ref (A 19 (σ.a 4 i')) else .null, .int (nI (σ.a 2 i')), .int (σ.i 4 i'), .int (bI (b 0 i'))]; rw [hb 2 (by decide), hb 0 (by decide)])
    | 20, hd, hne => exact rfl
    | 21, hd, hne => exact rfl
    | 22, hd, hne => exact rfl
    | n + 23, hd, hne => exact rfl
  exact ⟨fun k i hd => (h.1 k i hd).trans (congrArg some (key k i hd trivial)), h.2⟩
/-- what a purge leaves in the class: the units that are there told anew -/
def puT (σ : ST) (p : Nat) : ST := puF (relS (chL (σ.sb 0 p false) p) (σ.sb 0 p false)) (pgS (σ.sb 0 p false) σ.un).2.2.2.1
theorem INV.purge {B : Nat} {σ : ST} (h : INV B σ) {p : Nat} (hb0 : σ.b 0 p = true) (hmn : ∃ k, k < 10 ∧ 10 * (p / 10) + k ≠ p ∧ σ.b 0 (10 * (p / 10) + k) = true) :
    INV B (puT σ p) ∧ sim (pgS (σ.sb 0 p false) σ.un) (puT σ p) ∧ (∀ k, k ≠ 1 → (pgS (σ.sb 0 p false) σ.un).2.2.2.1 k = (relS (chL (σ.sb 0 p false) p) (σ.sb 0 p false)).b k) ∧ (∀ u, cnL σ u (chL σ p) ≤ σ.a 6 u) ∧ relN (chL (σ.sb 0 p false) p) (σ.sb 0 p false) = pgN (σ.sb 0 p false) σ.un := by
  have hw := h.wf
  have hpk := hw.2.2.2 p hb0
  have hp100 := hw.lt hpk
  obtain ⟨g1, g2, g3, g4, g5, g6, g7, g8⟩ := h.gh
  have eP : ∀ j, (σ.sb 0 p false).b 0 j = if j = p then false else σ.b 0 j := fun j => by
    show f2 σ.2.2.2.1 0 p false 0 j = _
    by_cases hq : j = p
    · rw [hq, f2_s, if_pos rfl]
    · rw [f2_n (fun z => hq z.2), if_neg hq]
      rfl
  have eb2 : (σ.sb 0 p false).b 2 = σ.b 2 := (show f2 σ.2.2.2.1 0 p false 2 = σ.2.2.2.1 2 from f2_a (by decide))
  have eb1 : (σ.sb 0 p false).b 1 = σ.b 1 := (show f2 σ.2.2.2.1 0 p false 1 = σ.2.2.2.1 1 from f2_a (by decide))
  have ech : ∀ v, chL (σ.sb 0 p false) v = chL σ v := fun v => chf_congr (σ := σ) (τ := σ.sb 0 p false) rfl eb2 _ _
  have ecn : ∀ u l, cnL (σ.sb 0 p false) u l = cnL σ u l := fun u l => cnL_at l (fun _ _ => rfl)
  have hl3 : ∀ w, w ∈ chL (σ.sb 0 p false) p → (σ.sb 0 p false).a 3 w < σ.un := fun w hx => by
    rw [ech] at hx
    exact (hw.2.2.1 w (chL_vok hw hpk hx)).1
  have hcz : ∀ u, σ.un ≤ u → cnL σ u (chL σ p) = 0 := fun u hu => cnL_0 _ (fun x hx => by have := (hw.2.2.1 x (chL_vok hw hpk hx)).1; omega)
  have hX : ∀ u, ndt σ u p = ndt (σ.sb 0 p false) u p + cnL σ u (chL σ p) := fun u => by
    unfold ndt
    rw [eP, if_pos rfl, if_pos hb0, if_neg (by decide), Nat.zero_add]
  have hO : ∀ u v, v ≠ p → ndt σ u v = ndt (σ.sb 0 p false) u v := fun u v hv => by
    unfold ndt
    rw [eP, if_neg hv, ech, ecn]
  have hN : ∀ u, ndc σ u 100 = ndc (σ.sb 0 p false) u 100 + cnL σ u (chL σ p) := fun u => by
    rw [ndc_one (hX u) (hO u) 100, if_pos hp100]
  have hge : ∀ u, cnL σ u (chL σ p) ≤ σ.a 6 u := fun u => by
    by_cases hu : u < σ.un
    · rw [g5 u hu, hN]
      omega
    · rw [hcz u (by omega)]
      exact Nat.zero_le _
  have hLp : LD (σ.sb 0 p false) := fun t ht => (h.ld t ht).trans (ldn_cp (σ := σ) (τ := σ.sb 0 p false) 100 (fun _ _ => rfl)).symm
  have hge2 : ∀ u, cnL (σ.sb 0 p false) u (chL (σ.sb 0 p false) p) ≤ (σ.sb 0 p false).a 6 u := fun u => by rw [ecn, ech]; exact hge u
  have hun := hw.1.2
  obtain ⟨r1, r2, r3, r4⟩ := relS_f (σ := σ.sb 0 p false) (chL (σ.sb 0 p false) p) (σ.sb 0 p false) (agr.refl _) hge2 (fun w hx => by have := hl3 w hx; omega) hLp
  obtain ⟨s1, s2, s3, s4, s5, s6⟩ := pgS_same (σ.sb 0 p false) σ.un
  have hndd : ∀ u, ndd (σ.sb 0 p false) u 100 = decide (0 < ndc (σ.sb 0 p false) u 100) := fun u => ndd_ndc _ u 100
  have hbk : ∀ k, k ≠ 1 → (pgS (σ.sb 0 p false) σ.un).2.2.2.1 k = (relS (chL (σ.sb 0 p false) p) (σ.sb 0 p false)).b k := fun k hk => (s4 k hk).trans (congrFun r1.2.2.2.1 k).symm
  have hcond : ∀ u, (u < σ.un ∧ (σ.sb 0 p false).b 1 u = true ∧ ndd (σ.sb 0 p false) u 100 = false) ↔ (0 < cnL (σ.sb 0 p false) u (chL (σ.sb 0 p false) p) ∧ (σ.sb 0 p false).a 6 u = cnL (σ.sb 0 p false) u (chL (σ.sb 0 p false) p)) := fun u => by
    rw [ecn, ech, eb1, hndd, show (σ.sb 0 p false).a 6 u = σ.a 6 u from rfl]
    have hNu := hN u
    by_cases hu : u < σ.un
    · rw [g5 u hu, g6 u hu]
      constructor
      · intro ⟨_, k1, k2⟩
        have k1' := of_decide_eq_true k1
        have k2' := of_decide_eq_false k2
        omega
      · intro ⟨k1, k2⟩
        exact ⟨hu, decide_eq_true (by omega), decide_eq_false (by omega)⟩
    · have := hcz u (by omega)
      omega
  have hsim : sim (pgS (σ.sb 0 p false) σ.un) (puT σ p) := by
    refine ⟨s1.trans r1.1.symm, fun k hk => ?_, fun k hk => ?_, ?_⟩
    · rw [s2]
      exact (r1.2.1 k (by omega) (by omega)).symm
    · rw [s3]
      exact (congrFun r1.2.2.1 k).symm
    · refine Prod.ext rfl (Prod.ext (s5.trans r1.2.2.2.2.1.symm) (Prod.ext (s6.trans r1.2.2.2.2.2.symm) ?_))
      funext u s
      refine Eq.trans (pgS_cp (σ.sb 0 p false) σ.un u s) (Eq.trans ?_ (r4 u s).symm)
      by_cases hq : (u < σ.un ∧ (σ.sb 0 p false).b 1 u = true ∧ ndd (σ.sb 0 p false) u 100 = false) ∧ s < 4
      · rw [if_pos hq, if_pos ⟨(hcond u).mp hq.1, hq.2⟩]
      · rw [if_neg hq, if_neg (fun z => hq ⟨(hcond u).mpr z.1, z.2⟩)]
  refine ⟨?_, hsim, hbk, hge, ?_⟩
  · have eob : (puT σ p).ob = σ.ob := congrFun r1.1 1
    have eun : (puT σ p).un = σ.un := congrFun r1.1 2
    have ea : ∀ k, k ≠ 6 → k ≠ 7 → ∀ j, (puT σ p).a k j = σ.a k j := fun k h6 h7 j => congrFun (r1.2.1 k h6 h7) j
    have ei : ∀ k j, (puT σ p).i k j = σ.i k j := fun k j => congrFun (congrFun r1.2.2.1 k) j
    have eB0 : ∀ j, (puT σ p).b 0 j = if j = p then false else σ.b 0 j := fun j => (congrFun (s4 0 (by decide)) j).trans (eP j)
    have eB2 : ∀ j, (puT σ p).b 2 j = σ.b 2 j := fun j => (congrFun (s4 2 (by decide)) j).trans (congrFun eb2 j)
    have eB1 : ∀ u, u < σ.un → (puT σ p).b 1 u = (σ.b 1 u && ndd (σ.sb 0 p false) u 100) := fun u hu => (pgS_b (σ.sb 0 p false) σ.un u).trans (by rw [if_pos hu, eb1])
    have eh : ∀ u s, (puT σ p).hs u s = σ.hs u s := fun u s => congrFun (congrFun r1.2.2.2.2.1 u) s
    have ec : ∀ u s, (puT σ p).cp u s = true → σ.cp u s = true := fun u s hq => by
      have k : (relS (chL (σ.sb 0 p false) p) (σ.sb 0 p false)).cp u s = true := hq
      rw [r4] at k
      split at k
      · cases k
      · exact k
    have hv : ∀ v, vok (puT σ p) v ↔ vok σ v := fun v => by
      unfold vok
      rw [eob, ea 1 (by decide) (by decide)]
    have hch : ∀ v, chL (puT σ p) v = chL σ v := fun v => by
      have key : ∀ n v, chf (puT σ p) n v = chf σ n v := by
        intro n
        induction n with
        | zero => exact fun _ => rfl
        | succ n ih =>
          intro v
          unfold chf
          rw [ea 3 (by decide) (by decide), ea 4 (by decide) (by decide), eB2, ih]
      exact key _ v
    have hndt : ∀ u v, ndt (puT σ p) u v = ndt (σ.sb 0 p false) u v := fun u v => by
      unfold ndt
      rw [eB0, eP, hch, ech, ecn, cnL_at (σ := σ) (τ := puT σ p) _ (fun w _ => ea 3 (by decide) (by decide) w)]
    have hndc : ∀ u, ndc (puT σ p) u 100 = ndc (σ.sb 0 p false) u 100 := fun u => ndc_eq (hndt u) 100
    refine ⟨⟨⟨by rw [eob]; exact hw.1.1, by rw [eun]; exact hw.1.2⟩, fun o ho => ?_, fun v hv' => ?_, fun v hv' => ?_⟩, h.li.eq (congrFun r1.1 0) r1.2.2.2.2.2, CAP.eq1 h.cap eob eun (ea 1 (by decide) (by decide)) (ea 8 (by decide) (by decide)), ?_, r3.eq rfl rfl, fun u s hq => ?_, fun o ho => ?_, fun v hv' => ?_, ⟨fun u => ?_, fun o => ?_, ?_⟩, fun u s hu => ?_, fun u hu => ?_, fun v hv' => ?_, fun v hv' => ?_, fun u hu => ?_, fun u hu => ?_, ?_, fun o ho => ?_⟩
    · rw [ea 1 (by decide) (by decide)]
      exact hw.2.1 o (by rw [← eob]; exact ho)
    · rw [ea 3 (by decide) (by decide), ea 4 (by decide) (by decide), eB2, eun]
      exact hw.2.2.1 v ((hv v).mp hv')
    · rw [eB0] at hv'
      split at hv'
      · cases hv'
      · exact (hv v).mpr (hw.2.2.2 v hv')
    · intro u w hu hw' k1 k2 k3 k4
      rw [eun] at hu hw'
      rw [eB1 u hu, Bool.and_eq_true] at k1
      rw [eB1 w hw', Bool.and_eq_true] at k2
      rw [eB2, eB2] at k3
      rw [ei, ei] at k4
      exact h.uq u w hu hw' k1.1 k2.1 k3 k4
    · rw [eh]
      exact h.hb u s (ec u s hq)
    · rw [eob] at ho
      by_cases hq : o = p / 10
      · obtain ⟨k, k1, k2, k3⟩ := hmn
        exact ⟨k, k1, by rw [hq, eB0, if_neg k2]; exact k3⟩
      · obtain ⟨k, k1, k2⟩ := h.hv o ho
        exact ⟨k, k1, by rw [eB0, if_neg (by omega)]; exact k2⟩
    · rw [ea 2 (by decide) (by decide), show (puT σ p).fo = σ.fo from congrFun r1.1 0]
      exact h.fm v ((hv v).mp hv')
    · rw [ea 5 (by decide) (by decide)]
      exact h.sm.1 u
    · rw [ea 0 (by decide) (by decide)]
      exact h.sm.2.1 o
    · rw [show (puT σ p).la = σ.la from congrFun r1.1 3]
      exact h.sm.2.2
    · rw [eun] at hu
      obtain ⟨k1, k2⟩ := g1 u s hu
      rw [eh]
      refine ⟨Bool.eq_false_iff.mpr (fun q => ?_), k2⟩
      rw [ec u s q] at k1
      cases k1
    · rw [ea 5 (by decide) (by decide)]
      exact g2 u (by rw [← eun]; exact hu)
    · rw [ei]
      refine (g3 v ((hv v).mp hv')).trans ?_
      unfold cont
      rw [hch]
      exact isum_ext _ _ (fun w _ => by rw [ei, ea 3 (by decide) (by decide)])
    · rw [ei]
      exact g4 v ((hv v).mp hv')
    · rw [eun] at hu
      rw [hndc]
      refine (r2 u).trans ?_
      rw [ecn, ech, show (σ.sb 0 p false).a 6 u = σ.a 6 u from rfl, g5 u hu, hN]
      omega
    · rw [eun] at hu
      rw [eB1 u hu, hndc, hndd, g6 u hu, hN]
      by_cases hq : 0 < ndc (σ.sb 0 p false) u 100
      · rw [decide_eq_true hq, Bool.and_true]
        exact decide_eq_true (by omega)
      · rw [decide_eq_false hq, Bool.and_false]
    · rw [eun, eob, hadT_eq σ.ob (fun o _ => ea 1 (by decide) (by decide) o)]
      exact g7
    · rw [ea 1 (by decide) (by decide)]
      exact g8 o (by rw [← eob]; exact ho)
  · rw [relN_cnt (σ := σ.sb 0 p false) (N := σ.un) _ _ (agr.refl _) hge2 hl3, pgN_cnt]
    refine cntB_eq σ.un (fun u hu => ?_)
    have k := hcond u
    by_cases hq : 0 < cnL (σ.sb 0 p false) u (chL (σ.sb 0 p false) p) ∧ (σ.sb 0 p false).a 6 u = cnL (σ.sb 0 p false) u (chL (σ.sb 0 p false) p)
    · rw [decide_eq_true hq]
      obtain ⟨-, k1, k2⟩ := k.mpr hq
      rw [k1, k2]
      rfl
    · rw [decide_eq_false hq]
      cases h1 : (σ.sb 0 p false).b 1 u with
      | false => rfl
      | true =>
        cases h2 : ndd (σ.sb 0 p false) u 100 with
        | true => rfl
        | false => exact absurd (k.mp ⟨hu, h1, h2⟩) hq
