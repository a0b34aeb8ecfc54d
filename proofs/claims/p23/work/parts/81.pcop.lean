/-! copies: what the law asks of replication, damage, closing, audits -/
theorem cpc_pl (u : Nat) (v : Int32) : ∀ (k : Nat) (σ : ST), cpc (plcs u v k σ) u 4 = cpc σ u 4 + plcn u v k σ ∧ plcn u v k σ ≤ k ∧ ((∀ s, s < 4 → σ.b 4 s = true ∨ (plcs u v k σ).cp u s = true) ∨ plcn u v k σ = k)
  | 0, σ => ⟨rfl, Nat.le_refl _, Or.inr rfl⟩
  | k + 1, σ => by
    cases hp : plc σ u 4 with
    | none =>
      obtain ⟨e1, e2⟩ := plcs_none v hp (k + 1)
      rw [e1, e2]
      refine ⟨rfl, Nat.zero_le _, Or.inl (fun s hs => ?_)⟩
      cases h4 : σ.b 4 s with
      | true => exact Or.inl rfl
      | false =>
        cases hc : σ.cp u s with
        | true => exact Or.inr rfl
        | false =>
          obtain ⟨f, hf⟩ := plc_ex h4 hc 4 hs
          rw [hp] at hf
          cases hf
    | some s =>
      obtain ⟨e1, e2⟩ := plcs_some (v := v) hp k
      rw [e1, e2]
      obtain ⟨i1, i2, i3⟩ := cpc_pl u v k (plS σ u s v)
      have ec : cpc (plS σ u s v) u 4 = cpc σ u 4 + 1 := (cpc_set σ u s (plc_some σ u 4 s hp).1 4).trans (by rw [if_pos (plc_lt σ u 4 s hp)])
      refine ⟨by omega, by omega, ?_⟩
      rcases i3 with q | q
      · exact Or.inl q
      · exact Or.inr (by omega)
theorem cpc_at {σ τ : ST} {u : Nat} (h : τ.cp u = σ.cp u) : ∀ n, cpc τ u n = cpc σ u n
  | 0 => rfl
  | n + 1 => by
    unfold cpc
    rw [cpc_at h n, h]
theorem snd_at {σ τ : ST} {u : Nat} (hc : τ.cp u = σ.cp u) (hh : τ.hs u = σ.hs u) (hi : τ.i 2 u = σ.i 2 u) (s : Nat) : snd τ u s = snd σ u s := by
  unfold snd
  rw [hc, hh, hi]
theorem alk_at {σ τ : ST} {u : Nat} (hc : τ.cp u = σ.cp u) (hh : τ.hs u = σ.hs u) (hi : τ.i 2 u = σ.i 2 u) (s : Nat) : ∀ n, alk τ u s n = alk σ u s n
  | 0 => rfl
  | n + 1 => by
    unfold alk
    rw [alk_at hc hh hi s n, snd_at hc hh hi, snd_at hc hh hi, hh]
theorem gdn_at {σ τ : ST} {u : Nat} (hc : τ.cp u = σ.cp u) (hh : τ.hs u = σ.hs u) (hi : τ.i 2 u = σ.i 2 u) : ∀ n, gdn τ u n = gdn σ u n
  | 0 => rfl
  | n + 1 => by
    unfold gdn
    rw [gdn_at hc hh hi n, alk_at hc hh hi]
    have e : gal τ u (gdn σ u n) = gal σ u (gdn σ u n) := by
      unfold gal
      cases gdn σ u n with
      | none => rfl
      | some f => exact alk_at hc hh hi f 4
    rw [e]
/-- a unit's copies are placed: what is lacking then -/
theorem plG_lk (σ : ST) (u : Nat) : cpc (plG σ u) u 4 = cpc σ u 4 + plGn σ u ∧ plGn σ u ≤ σ.a 5 u - cpc σ u 4 := by
  unfold plG plGn
  cases hg : good σ u with
  | none => exact ⟨rfl, Nat.zero_le _⟩
  | some s =>
    obtain ⟨h1, h2, -⟩ := cpc_pl u (σ.hs u s) (σ.a 5 u - cpc σ u 4) σ
    exact ⟨h1, h2⟩
theorem lkn_one {σ τ : ST} {u p : Nat} (hb : ∀ w, τ.b 1 w = σ.b 1 w) (ha : ∀ w, τ.a 5 w = σ.a 5 w) (hw : ∀ w, w ≠ u → cpc τ w 4 = cpc σ w 4) (hu : cpc τ u 4 = cpc σ u 4 + p) (hp : p ≤ σ.a 5 u - cpc σ u 4) (hbu : σ.b 1 u = true) : ∀ m, lkn τ m + (if u < m then p else 0) = lkn σ m
  | 0 => rfl
  | m + 1 => by
    have ih := lkn_one hb ha hw hu hp hbu m
    unfold lkn
    rw [hb, ha]
    by_cases h : m = u
    · rw [h] at ih ⊢
      rw [if_neg (Nat.lt_irrefl _)] at ih
      rw [if_pos (Nat.lt_succ_self _), if_pos hbu, if_pos hbu, hu]
      omega
    · rw [hw m h]
      by_cases h2 : u < m
      · rw [if_pos h2] at ih
        rw [if_pos (show u < m + 1 by omega)]
        omega
      · rw [if_neg h2] at ih
        rw [if_neg (show ¬ u < m + 1 by omega)]
        omega
theorem rpS_lk (σ : ST) (m : Nat) : ∀ n, n ≤ m → lkn (rpS σ n) m + rpN σ n = lkn σ m
  | 0, _ => rfl
  | n + 1, hn => by
    have ih := rpS_lk σ m n (by omega)
    rw [rpS_s]
    unfold rpN
    by_cases hb : (rpS σ n).b 1 n = true
    · rw [if_pos hb, if_pos hb]
      obtain ⟨e1, e2⟩ := plG_lk (rpS σ n) n
      obtain ⟨-, s2, -, s4, -⟩ := plG_same (rpS σ n) n
      have k := lkn_one (σ := rpS σ n) (τ := plG (rpS σ n) n) (u := n) (p := plGn (rpS σ n) n) (fun w => congrFun (congrFun s4 1) w) (fun w => congrFun (s2 5 (by decide)) w) (fun w hw => cpc_at (plG_off (rpS σ n) n hw).1 4) e1 e2 hb m
      rw [if_pos (by omega)] at k
      omega
    · rw [if_neg hb, if_neg hb]
      exact ih
/-- nothing can be placed of a unit -/
def DN (σ : ST) (u : Nat) : Prop := good σ u = none ∨ (∀ s, s < 4 → σ.b 4 s = true ∨ σ.cp u s = true) ∨ σ.a 5 u ≤ cpc σ u 4
theorem DN_plG (σ : ST) (u : Nat) : DN (plG σ u) u := by
  obtain ⟨-, s2, -, s4, -⟩ := plG_same σ u
  have e5 : (plG σ u).a 5 u = σ.a 5 u := congrFun (s2 5 (by decide)) u
  have e4 : ∀ s, (plG σ u).b 4 s = σ.b 4 s := fun s => congrFun (congrFun s4 4) s
  cases hg : good σ u with
  | none =>
    have e : plG σ u = σ := by
      unfold plG
      rw [hg]
    rw [e]
    exact Or.inl hg
  | some s =>
    have e : plG σ u = plcs u (σ.hs u s) (σ.a 5 u - cpc σ u 4) σ := by
      unfold plG
      rw [hg]
      rfl
    obtain ⟨h1, h2, h3⟩ := cpc_pl u (σ.hs u s) (σ.a 5 u - cpc σ u 4) σ
    rw [← e] at h1 h3
    rcases h3 with q | q
    · exact Or.inr (Or.inl (fun t ht => by rw [e4]; exact q t ht))
    · exact Or.inr (Or.inr (by rw [e5, h1, q]; omega))
theorem DN_off {σ : ST} {u w : Nat} (h : DN σ u) (hw : u ≠ w) : DN (plG σ w) u := by
  obtain ⟨-, s2, s3, s4, -⟩ := plG_same σ w
  obtain ⟨c1, c2⟩ := plG_off σ w hw
  have e5 : (plG σ w).a 5 u = σ.a 5 u := congrFun (s2 5 (by decide)) u
  have e4 : ∀ s, (plG σ w).b 4 s = σ.b 4 s := fun s => congrFun (congrFun s4 4) s
  have ei : (plG σ w).i 2 u = σ.i 2 u := congrFun (congrFun s3 2) u
  rcases h with q | q | q
  · exact Or.inl ((gdn_at c1 c2 ei 4).trans q)
  · exact Or.inr (Or.inl (fun s hs => by rw [e4, c1]; exact q s hs))
  · exact Or.inr (Or.inr (by rw [e5, cpc_at c1 4]; exact q))
theorem DN_rpS (σ : ST) : ∀ n u, u < n → σ.b 1 u = true → DN (rpS σ n) u
  | 0, u, hu, _ => absurd hu (Nat.not_lt_zero u)
  | n + 1, u, hu, hb => by
    have eb : ∀ w, (rpS σ n).b 1 w = σ.b 1 w := fun w => congrFun (congrFun (rpS_same σ n).2.2.2.1 1) w
    rw [rpS_s]
    by_cases hun : u = n
    · rw [hun] at hb ⊢
      rw [if_pos (by rw [eb]; exact hb)]
      exact DN_plG _ n
    · have ih := DN_rpS σ n u (by omega) hb
      by_cases hq : (rpS σ n).b 1 n = true
      · rw [if_pos hq]
        exact DN_off ih hun
      · rw [if_neg hq]
        exact ih
theorem DN_stay {σ : ST} {u : Nat} (h : DN σ u) : plG σ u = σ ∧ plGn σ u = 0 := by
  unfold plG plGn
  cases hg : good σ u with
  | none => exact ⟨rfl, rfl⟩
  | some s =>
    show plcs u (σ.hs u s) (σ.a 5 u - cpc σ u 4) σ = σ ∧ plcn u (σ.hs u s) (σ.a 5 u - cpc σ u 4) σ = 0
    rcases h with q | q | q
    · rw [hg] at q
      cases q
    · have hp : plc σ u 4 = none := by
        cases e : plc σ u 4 with
        | none => rfl
        | some f =>
          obtain ⟨c1, c2⟩ := plc_some σ u 4 f e
          rcases q f (plc_lt σ u 4 f e) with z | z
          · rw [c2] at z
            cases z
          · rw [c1] at z
            cases z
      exact plcs_none _ hp _
    · rw [show σ.a 5 u - cpc σ u 4 = 0 by omega]
      exact ⟨rfl, rfl⟩
theorem rp_stay {σ : ST} : ∀ n, (∀ u, u < n → σ.b 1 u = true → DN σ u) → rpS σ n = σ ∧ rpN σ n = 0
  | 0, _ => ⟨rfl, rfl⟩
  | n + 1, h => by
    obtain ⟨i1, i2⟩ := rp_stay n (fun u hu => h u (by omega))
    rw [rpS_s]
    unfold rpN
    rw [i1, i2]
    by_cases hb : σ.b 1 n = true
    · rw [if_pos hb, if_pos hb]
      obtain ⟨k1, k2⟩ := DN_stay (h n (Nat.lt_succ_self n) hb)
      rw [k1, k2]
      exact ⟨rfl, rfl⟩
    · rw [if_neg hb, if_neg hb]
      exact ⟨rfl, rfl⟩
/-- a second replication places nothing -/
theorem rp_twice (σ : ST) : rpN (rpS σ σ.un) (rpS σ σ.un).un = 0 := by
  have s := rpS_same σ σ.un
  have eu : (rpS σ σ.un).un = σ.un := congrFun s.1 2
  rw [eu]
  exact (rp_stay σ.un (fun u hu hb => DN_rpS σ σ.un u hu (by
    have e : (rpS σ σ.un).b 1 u = σ.b 1 u := congrFun (congrFun s.2.2.2.1 1) u
    rw [← e]
    exact hb))).2
theorem rp_lk (σ : ST) : lkn (rpS σ σ.un) (rpS σ σ.un).un + rpN σ σ.un = lkn σ σ.un := by
  have eu : (rpS σ σ.un).un = σ.un := congrFun (rpS_same σ σ.un).1 2
  rw [eu]
  exact rpS_lk σ σ.un σ.un (Nat.le_refl _)
/-- one copy becomes other -/
theorem snn_d {σ τ : ST} {u s : Nat} (h : ∀ t, t ≠ s → snd τ u t = snd σ u t) : ∀ n, snn τ u n ≤ snn σ u n + (if s < n then 1 else 0) ∧ snn σ u n ≤ snn τ u n + (if s < n then 1 else 0)
  | 0 => ⟨Nat.zero_le _, Nat.zero_le _⟩
  | n + 1 => by
    obtain ⟨i1, i2⟩ := snn_d h n
    unfold snn
    by_cases hn : n = s
    · rw [hn] at i1 i2 ⊢
      rw [if_neg (Nat.lt_irrefl _)] at i1 i2
      rw [if_pos (Nat.lt_succ_self _)]
      refine ⟨?_, ?_⟩
      · split <;> split <;> omega
      · split <;> split <;> omega
    · rw [h n hn]
      by_cases h2 : s < n
      · rw [if_pos h2] at i1 i2
        rw [if_pos (show s < n + 1 by omega)]
        omega
      · rw [if_neg h2] at i1 i2
        rw [if_neg (show ¬ s < n + 1 by omega)]
        omega
theorem snn_pos {σ : ST} {u s : Nat} (h : snd σ u s = true) : ∀ n, s < n → 1 ≤ snn σ u n
  | 0, hs => absurd hs (Nat.not_lt_zero s)
  | n + 1, hs => by
    unfold snn
    by_cases hn : s = n
    · rw [← hn, if_pos h]
      omega
    · have := snn_pos h n (by omega)
      omega
/-- copies at a site, as the law counts them -/
def tA (σ : ST) (s k : Nat) : Nat := cntB (fun u => decide (s < 4) && (isU σ (nI u) && σ.cp u s)) k
theorem clN_cnt (σ : ST) (s : Nat) : ∀ n, clN σ s n = cntB (fun u => σ.cp u s) n
  | 0 => rfl
  | n + 1 => by
    unfold clN cntB
    rw [clN_cnt σ s n]
theorem tA_64 {B : Nat} {σ : ST} {dm tg : Bool} (hI : INV B σ) (hP : PI σ dm tg) (h6 : σ.ob ≤ 6) {s : Nat} (hs : s < 4) : tA σ s 64 = clN σ s σ.un := by
  have hu := un_60 hI h6
  unfold tA
  rw [clN_cnt]
  have e := cntB_z (f := fun u => decide (s < 4) && (isU σ (nI u) && σ.cp u s)) (m := σ.un) (64 - σ.un) (fun k h1 h2 => by
    show (decide (s < 4) && (isU σ (nI k) && σ.cp k s)) = false
    rw [isU_n (by omega) (by omega), decide_eq_false (show ¬ k < σ.un by omega), Bool.false_and, Bool.false_and, Bool.and_false])
  rw [show σ.un + (64 - σ.un) = 64 by omega] at e
  rw [e]
  refine cntB_ext _ (fun k hk => ?_)
  show (decide (s < 4) && (isU σ (nI k) && σ.cp k s)) = σ.cp k s
  rw [decide_eq_true hs, Bool.true_and, isU_n (by omega) (by omega), decide_eq_true hk, Bool.true_and]
  cases hb : σ.b 1 k with
  | true => rw [Bool.true_and]
  | false => rw [Bool.false_and, hP.2.2.2.1 k s hs hb]
theorem tA_le (σ : ST) (s k : Nat) : tA σ s k ≤ k := cntB_le _ k
theorem auS_same : ∀ (k : Nat) (σ : ST), (∀ i, i ≠ 3 → (auS k σ).n i = σ.n i) ∧ (auS k σ).2.1 = σ.2.1 ∧ (auS k σ).2.2.1 = σ.2.2.1 ∧ (auS k σ).2.2.2.1 = σ.2.2.2.1 ∧ (auS k σ).lo = σ.lo ∧ (auS k σ).cp = σ.cp
  | 0, _ => ⟨fun _ _ => rfl, rfl, rfl, rfl, rfl, rfl⟩
  | k + 1, σ => by
    obtain ⟨a1, a2, a3, a4, a5, a6⟩ := au1_same σ
    obtain ⟨b1, b2, b3, b4, b5, b6⟩ := auS_same k (au1 σ)
    exact ⟨fun i hi => (b1 i hi).trans (a1 i hi), b2.trans a2, b3.trans a3, b4.trans a4, b5.trans a5, b6.trans a6⟩
