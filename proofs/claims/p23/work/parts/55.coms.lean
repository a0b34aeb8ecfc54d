/-! the class's new version and the reference's -/
/-- the same, as far as placing looks -/
def co5 (σ τ : ST) : Prop := σ.1 = τ.1 ∧ σ.2.1 5 = τ.2.1 5 ∧ σ.2.2.1 2 = τ.2.2.1 2 ∧ σ.2.2.2 = τ.2.2.2
section CO5
variable {σ τ : ST}
theorem co5.refl (σ : ST) : co5 σ σ := ⟨rfl, rfl, rfl, rfl⟩
theorem co5.cp (h : co5 σ τ) : σ.cp = τ.cp := congrArg (fun z => z.2.2.2) h.2.2.2
theorem co5.hs (h : co5 σ τ) : σ.hs = τ.hs := congrArg (fun z => z.2.1) h.2.2.2
theorem co5.b (h : co5 σ τ) (k : Nat) : σ.b k = τ.b k := congrArg (fun z => z.1 k) h.2.2.2
theorem co5.i2 (h : co5 σ τ) : σ.i 2 = τ.i 2 := h.2.2.1
theorem co5.sn (h : co5 σ τ) (i v : Nat) : co5 (σ.sn i v) (τ.sn i v) := ⟨congrArg (fun f => f1 f i v) h.1, h.2.1, h.2.2.1, h.2.2.2⟩
theorem co5.sb (h : co5 σ τ) (i k : Nat) (v : Bool) : co5 (σ.sb i k v) (τ.sb i k v) := ⟨h.1, h.2.1, h.2.2.1, by
  show (f2 σ.2.2.2.1 i k v, σ.2.2.2.2) = (f2 τ.2.2.2.1 i k v, τ.2.2.2.2)
  rw [h.2.2.2]⟩
theorem co5.si2 (h : co5 σ τ) (k : Nat) (v : Int32) : co5 (σ.si 2 k v) (τ.si 2 k v) := ⟨h.1, h.2.1, by
  show f2 σ.2.2.1 2 k v 2 = f2 τ.2.2.1 2 k v 2
  rw [f2_u, f2_u, h.2.2.1], h.2.2.2⟩
theorem co5.sa5 (h : co5 σ τ) (k v : Nat) : co5 (σ.sa 5 k v) (τ.sa 5 k v) := ⟨h.1, by
  show f2 σ.2.1 5 k v 5 = f2 τ.2.1 5 k v 5
  rw [f2_u, f2_u, h.2.1], h.2.2⟩
theorem co5.ra (h : co5 σ τ) {k : Nat} (hk : 5 ≠ k) (j v : Nat) : co5 σ (τ.sa k j v) := ⟨h.1, h.2.1.trans (f2_a hk).symm, h.2.2⟩
theorem co5.la (h : co5 σ τ) {k : Nat} (hk : 5 ≠ k) (j v : Nat) : co5 (σ.sa k j v) τ := ⟨h.1, (f2_a hk).trans h.2.1, h.2.2⟩
theorem plc_c (hc : σ.cp = τ.cp) (hb : σ.b 4 = τ.b 4) (u : Nat) : ∀ n, plc σ u n = plc τ u n
  | 0 => rfl
  | n + 1 => by
    have hl : ∀ s, ldn σ s 100 = ldn τ s 100 := fun s => ldn_cp (σ := τ) (τ := σ) 100 (fun k _ => by rw [hc])
    have hp : ∀ o, pok σ n o = pok τ n o := fun o => by
      cases o with
      | none => rfl
      | some f =>
        show decide (ldn σ n 100 < ldn σ f 100) = decide (ldn τ n 100 < ldn τ f 100)
        rw [hl, hl]
    unfold plc
    rw [hc, hb, plc_c hc hb u n, hp]
theorem co5.pl1 (h : co5 σ τ) (u s : Nat) (v : Int32) : co5 (plS σ u s v) (plS τ u s v) := ⟨h.1, by
  show f2 σ.2.1 7 s (σ.a 7 s + 1) 5 = f2 τ.2.1 7 s (τ.a 7 s + 1) 5
  rw [f2_a (by decide), f2_a (by decide), h.2.1], h.2.2.1, by
  show (σ.2.2.2.1, f2 σ.2.2.2.2.1 u s v, σ.2.2.2.2.2.1, f2 σ.2.2.2.2.2.2 u s true) = (τ.2.2.2.1, f2 τ.2.2.2.2.1 u s v, τ.2.2.2.2.2.1, f2 τ.2.2.2.2.2.2 u s true)
  rw [h.2.2.2]⟩
theorem co5.plcs (u : Nat) (v : Int32) : ∀ (k : Nat) {σ τ : ST}, co5 σ τ → co5 (plcs u v k σ) (plcs u v k τ)
  | 0, _, _, h => h
  | k + 1, σ, τ, h => by
    cases hp : plc τ u 4 with
    | none =>
      rw [(plcs_none v hp (k + 1)).1, (plcs_none v ((plc_c h.cp (h.b 4) u 4).trans hp) (k + 1)).1]
      exact h
    | some s =>
      rw [(plcs_some hp k).1, (plcs_some ((plc_c h.cp (h.b 4) u 4).trans hp) k).1]
      exact co5.plcs u v k (h.pl1 u s v)
theorem co5.snd (h : co5 σ τ) (u s : Nat) : snd σ u s = snd τ u s := by
  unfold Jvm.Pilot.CFixityhallLaw_law_r7320_c6f90e.snd
  rw [h.cp, h.hs, h.i2]
theorem co5.alk (h : co5 σ τ) (u s : Nat) : ∀ n, alk σ u s n = alk τ u s n
  | 0 => rfl
  | n + 1 => by
    unfold Jvm.Pilot.CFixityhallLaw_law_r7320_c6f90e.alk
    rw [co5.alk h u s n, h.snd, h.snd, h.hs]
theorem co5.gdn (h : co5 σ τ) (u : Nat) : ∀ n, gdn σ u n = gdn τ u n
  | 0 => rfl
  | n + 1 => by
    have hg : ∀ o, gal σ u o = gal τ u o := fun o => by
      cases o with
      | none => rfl
      | some f => exact h.alk u f 4
    unfold Jvm.Pilot.CFixityhallLaw_law_r7320_c6f90e.gdn
    rw [co5.gdn h u n, h.alk, hg]
theorem co5.cpc (h : co5 σ τ) (u : Nat) : ∀ n, cpc σ u n = cpc τ u n
  | 0 => rfl
  | n + 1 => by
    unfold Jvm.Pilot.CFixityhallLaw_law_r7320_c6f90e.cpc
    rw [co5.cpc h u n, h.cp]
theorem co5.plK (h : co5 σ τ) (u : Nat) (v : Int32) : co5 (plK σ u v) (plK τ u v) := by
  unfold Jvm.Pilot.CFixityhallLaw_law_r7320_c6f90e.plK
  rw [show σ.a 5 u = τ.a 5 u from congrFun h.2.1 u, h.cpc]
  exact h.plcs u v _
theorem co5.plG (h : co5 σ τ) (u : Nat) : co5 (plG σ u) (plG τ u) := by
  unfold Jvm.Pilot.CFixityhallLaw_law_r7320_c6f90e.plG
  rw [show good σ u = good τ u from h.gdn u 4]
  cases good τ u with
  | none => exact h
  | some s =>
    show co5 (Jvm.Pilot.CFixityhallLaw_law_r7320_c6f90e.plK σ u (σ.hs u s)) (Jvm.Pilot.CFixityhallLaw_law_r7320_c6f90e.plK τ u (τ.hs u s))
    rw [h.hs]
    exact h.plK u _
theorem co5.ufn (h : co5 σ τ) (d : Bool) (v : Int32) : ∀ n, ufn σ d v n = ufn τ d v n
  | 0 => rfl
  | n + 1 => by
    unfold Jvm.Pilot.CFixityhallLaw_law_r7320_c6f90e.ufn
    rw [co5.ufn h d v n, h.b 1, h.b 2, h.i2]
theorem co5.un (h : co5 σ τ) : σ.un = τ.un := congrFun h.1 2
theorem co5.adF (h : co5 σ τ) (d : Bool) (v : Int32) : adF σ d v = adF τ d v := by
  unfold Jvm.Pilot.CFixityhallLaw_law_r7320_c6f90e.adF
  rw [h.un, h.ufn]
end CO5
theorem adP_co5 {σ σ' : ST} (h : co5 σ' σ) (h0 : σ.a 5 σ.un = 0) (w : Nat) (d : Bool) (v : Int32) (cap : Nat) : co5 (adP σ' w d v) (obS σ w d v cap) := by
  have eu := h.un
  have eF := h.adF d v
  have ef : ufn σ' d v σ'.un = ufn σ d v σ.un := by rw [eu, h.ufn]
  unfold adP obS adS
  rw [ef, eF]
  cases hu : ufn σ d v σ.un with
  | none =>
    have e1 : adU σ' d v = (((σ'.sb 1 σ'.un true).sb 2 σ'.un d).si 2 σ'.un v).sn 2 (σ'.un + 1) := by unfold adU; rw [ef, hu]
    have e2 : adF σ d v = σ.un := by unfold adF; rw [hu]
    have e3 : (adU σ' d v).a 5 σ.un = 0 := by
      rw [e1]
      show σ'.2.1 5 σ.un = 0
      rw [h.2.1]
      exact h0
    show co5 (plK ((adU σ' d v).sa 5 (adF σ d v) (if w < (adU σ' d v).a 5 (adF σ d v) then (adU σ' d v).a 5 (adF σ d v) else w)) (adF σ d v) v) (plK (nuS σ d v w cap) σ.un v)
    rw [e2, e3, if_neg (Nat.not_lt_zero w), e1, eu]
    refine co5.plK ?_ _ _
    unfold nuS
    exact ((((((((h.sb 1 σ.un true).sb 2 σ.un d).si2 σ.un v).sn 2 (σ.un + 1)).sa5 σ.un w).ra (by decide) _ _).ra (by decide) _ _).ra (by decide) _ _)
  | some f =>
    have e1 : adU σ' d v = σ' := by unfold adU; rw [ef, hu]
    have e2 : adF σ d v = f := by unfold adF; rw [hu]
    show co5 (plG ((adU σ' d v).sa 5 (adF σ d v) (if w < (adU σ' d v).a 5 (adF σ d v) then (adU σ' d v).a 5 (adF σ d v) else w)) (adF σ d v)) (plG (σ.sa 5 f (if w < σ.a 5 f then σ.a 5 f else w)) f)
    rw [e2, e1, show σ'.a 5 f = σ.a 5 f from congrFun h.2.1 f]
    exact (h.sa5 f _).plG f
theorem adP_a (σ : ST) (w : Nat) (d : Bool) (v : Int32) {k : Nat} (h5 : k ≠ 5) (h7 : k ≠ 7) : (adP σ w d v).2.1 k = σ.2.1 k := by
  have hS : (adS σ w d v).2.1 k = σ.2.1 k := by
    unfold adS
    refine (f2_a h5).trans ?_
    rw [(adU_same σ d v).2]
  unfold adP
  cases ufn σ d v σ.un with
  | none => exact ((plcs_same _ _ _ _).2.1 k h7).trans hS
  | some f => exact ((plG_same _ _).2.1 k h7).trans hS
theorem adP_i (σ : ST) (w : Nat) (d : Bool) (v : Int32) {k : Nat} (h2 : k ≠ 2) : (adP σ w d v).2.2.1 k = σ.2.2.1 k := by
  have hU : (adU σ d v).2.2.1 k = σ.2.2.1 k := by
    unfold adU
    cases ufn σ d v σ.un with
    | none => exact f2_a h2
    | some f => rfl
  unfold adP
  cases ufn σ d v σ.un with
  | none => exact (congrFun (plcs_same _ _ _ _).2.2.1 k).trans hU
  | some f => exact (congrFun (plG_same _ _).2.2.1 k).trans hU
theorem obS_i (σ : ST) (w : Nat) (d : Bool) (v : Int32) (cap : Nat) {k : Nat} (h2 : k ≠ 2) : (obS σ w d v cap).2.2.1 k = σ.2.2.1 k := by
  unfold obS
  cases ufn σ d v σ.un with
  | none => exact (congrFun (plcs_same _ _ _ _).2.2.1 k).trans (f2_a h2)
  | some f => exact congrFun (plG_same _ _).2.2.1 k
theorem clm_s6 : ∀ (l : List Nat) (τ : ST), (clm l τ).1 = τ.1 ∧ (∀ k, k ≠ 6 → (clm l τ).2.1 k = τ.2.1 k) ∧ (clm l τ).2.2 = τ.2.2
  | [], _ => ⟨rfl, fun _ _ => rfl, rfl⟩
  | w :: l, τ => by
    obtain ⟨h1, h2, h3⟩ := clm_s6 l (τ.sa 6 (τ.a 3 w) (τ.a 6 (τ.a 3 w) + 1))
    exact ⟨h1, fun k hk => (h2 k hk).trans (f2_a hk), h3⟩
theorem clm_a6 (u : Nat) : ∀ (l : List Nat) (τ : ST), (clm l τ).a 6 u = τ.a 6 u + cnL τ u l
  | [], _ => rfl
  | w :: l, τ => by
    show (clm l (τ.sa 6 (τ.a 3 w) (τ.a 6 (τ.a 3 w) + 1))).a 6 u = _
    have e : cnL (τ.sa 6 (τ.a 3 w) (τ.a 6 (τ.a 3 w) + 1)) u l = cnL τ u l := cnL_at l (fun _ _ => rfl)
    rw [clm_a6 u l, sa6_at, e, cnL_c]
    by_cases hq : u = τ.a 3 w
    · rw [if_pos hq, if_pos hq.symm, hq]
      omega
    · rw [if_neg hq, if_neg (fun e => hq e.symm)]
      omega
theorem mkS_s6 (σ : ST) (w : Nat) (o : Option Nat) (c : Int32) (cap : Nat) : (mkS σ w o c cap).1 = (obS σ w o.isSome (bsV σ o c) cap).1 ∧ (∀ k, k ≠ 6 → (mkS σ w o c cap).2.1 k = (obS σ w o.isSome (bsV σ o c) cap).2.1 k) ∧ (mkS σ w o c cap).2.2 = (obS σ w o.isSome (bsV σ o c) cap).2.2 := by
  unfold mkS
  obtain ⟨h1, h2, h3⟩ := clm_s6 (bsL σ o) ((obS σ w o.isSome (bsV σ o c) cap).sa 6 (adF σ o.isSome (bsV σ o c)) ((obS σ w o.isSome (bsV σ o c) cap).a 6 (adF σ o.isSome (bsV σ o c)) + 1))
  exact ⟨h1, fun k hk => (h2 k hk).trans (f2_a hk), h3⟩
section SIMS
variable {σ τ : ST}
theorem sim.sb (h : sim σ τ) (i k : Nat) (v : Bool) : sim (σ.sb i k v) (τ.sb i k v) := ⟨h.1, h.2.1, h.2.2.1, by
  show (f2 σ.2.2.2.1 i k v, σ.2.2.2.2) = (f2 τ.2.2.2.1 i k v, τ.2.2.2.2)
  rw [h.2.2.2]⟩
theorem sim.sn (h : sim σ τ) (i v : Nat) : sim (σ.sn i v) (τ.sn i v) := ⟨congrArg (fun f => f1 f i v) h.1, h.2⟩
theorem sim.sa (h : sim σ τ) (i k v : Nat) : sim (σ.sa i k v) (τ.sa i k v) := ⟨h.1, fun j hj => by
  show f2 σ.2.1 i k v j = f2 τ.2.1 i k v j
  by_cases hq : j = i
  · rw [hq, f2_u, f2_u, h.2.1 i (by omega)]
  · rw [f2_a hq, f2_a hq, h.2.1 j hj], h.2.2⟩
theorem sim.ra (h : sim σ τ) {i : Nat} (hi : 6 ≤ i) (k v : Nat) : sim σ (τ.sa i k v) := ⟨h.1, fun j hj => (h.2.1 j hj).trans (f2_a (by omega)).symm, h.2.2⟩
theorem sim.ri4 (h : sim σ τ) (k : Nat) (v : Int32) : sim σ (τ.si 4 k v) := ⟨h.1, h.2.1, fun j hj => (h.2.2.1 j hj).trans (f2_a hj).symm, h.2.2.2⟩
end SIMS
theorem sim_mk {σ σ' T : ST} {w : Nat} {d : Bool} {v : Int32} {cap : Nat} (h : co5 σ' σ) (h0 : σ.a 5 σ.un = 0) (hi : ∀ k, k ≠ 2 → σ'.2.2.1 k = σ.2.2.1 k) (t1 : T.1 = (obS σ w d v cap).1) (ta : ∀ k, k < 5 → T.2.1 k = σ'.2.1 k) (t5 : T.2.1 5 = (obS σ w d v cap).2.1 5) (ti : T.2.2 = (obS σ w d v cap).2.2) : sim (adP σ' w d v) T := by
  obtain ⟨c1, c2, c3, c4⟩ := adP_co5 h h0 w d v cap
  refine ⟨c1.trans t1.symm, fun k hk => ?_, fun k hk => ?_, ?_⟩
  · by_cases h5 : k = 5
    · rw [h5, c2, t5]
    · rw [ta k (by omega)]
      exact adP_a σ' w d v h5 (by omega)
  · rw [ti]
    by_cases h2 : k = 2
    · rw [h2]
      exact c3
    · rw [adP_i σ' w d v h2, obS_i σ w d v cap h2, hi k h2]
  · rw [ti]
    exact c4
theorem sim_nv {σ : ST} {w : Nat} {bo : Option Nat} {c : Int32} {cap : Nat} (h0 : σ.a 5 σ.un = 0) (o fm f b cap2 : Nat) : sim (adV (adP σ w bo.isSome (bsV σ bo c)) o fm f b) (nvS (mkS σ w bo c cap) o fm f b c cap2) := by
  obtain ⟨m1, m2, m3⟩ := mkS_s6 σ w bo c cap
  have hs : sim (adP σ w bo.isSome (bsV σ bo c)) (mkS σ w bo c cap) := sim_mk (co5.refl σ) h0 (fun _ _ => rfl) m1 (fun k hk => (m2 k (by omega)).trans ((obS_old σ w bo.isSome (bsV σ bo c) cap).2.1 k hk)) (m2 5 (by decide)) m3
  have e1 : (adP σ w bo.isSome (bsV σ bo c)).a 1 o = (mkS σ w bo c cap).a 1 o := congrFun (hs.2.1 1 (by decide)) o
  unfold adV nvS
  rw [e1]
  exact (((((((hs.sb 0 _ true).sa 2 _ fm).sa 3 _ f).sa 4 _ b).sa 1 o _).ri4 _ c).ra (by decide) _ _).ra (by decide) _ _
theorem sim_no {σ : ST} {w : Nat} {c : Int32} {cap : Nat} (h0 : σ.a 5 σ.un = 0) {n : Nat} (hn : σ.a 1 n = 0) (fm f b cap2 cap3 : Nat) : sim ((adV (adP (σ.sa 0 n w) w false c) n fm f b).sn 1 (n + 1)) (noS (mkS σ w none c cap) n w fm f b c cap2 cap3) := by
  obtain ⟨m1, m2, m3⟩ := mkS_s6 σ w none c cap
  have hs : sim (adP (σ.sa 0 n w) w false c) ((mkS σ w none c cap).sa 0 n w) := sim_mk ((co5.refl σ).la (k := 0) (by decide) n w) h0 (fun _ _ => rfl) m1 (fun k hk => by
    show f2 (mkS σ w none c cap).2.1 0 n w k = f2 σ.2.1 0 n w k
    have e := (m2 k (by omega)).trans ((obS_old σ w none.isSome (bsV σ none c) cap).2.1 k hk)
    by_cases hq : k = 0
    · rw [hq] at e ⊢
      rw [f2_u, f2_u, e]
      rfl
    · rw [f2_a hq, f2_a hq, e]
      rfl) (show f2 (mkS σ w none c cap).2.1 0 n w 5 = (obS σ w false c cap).2.1 5 from (f2_a (by decide)).trans (m2 5 (by decide))) m3
  have e1 : (adP (σ.sa 0 n w) w false c).a 1 n = 0 := (congrFun (adP_a (σ.sa 0 n w) w false c (k := 1) (by decide) (by decide)) n).trans (show f2 σ.2.1 0 n w 1 n = 0 from (f2_n (fun z => absurd z.1 (by decide))).trans hn)
  unfold adV noS
  rw [e1, Nat.add_zero]
  exact ((((((((((hs.sb 0 _ true).sa 2 _ fm).sa 3 _ f).sa 4 _ b).sa 1 n _).sn 1 _).ri4 _ c).ra (by decide) _ _).ra (by decide) _ _).ra (by decide) _ _).ra (by decide) _ _
