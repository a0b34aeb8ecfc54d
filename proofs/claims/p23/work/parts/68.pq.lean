/-! what calls answer, in the law's words -/
/-- what a helper of the law tells: the answer, or the number of the exception that it caught -/
def tl (o : OP) (a b c : Int32) : Int32 := if o.1 = 0 then o.2.1 else if o.1 = 1 then a else if o.1 = 2 then b else c
section TELL
variable (σ : ST) (a b c : Int32)
theorem t_sites (u : Int32) : tl (o_sites σ u) a b c = if isU σ u = true then bset (σ.cp (tN u)) 4 else a := by
  unfold tl o_sites
  by_cases h : isU σ u = true
  · rw [if_pos h, if_pos h]; rfl
  · rw [if_neg h, if_neg h]; rfl
theorem t_sound (u : Int32) : tl (o_sound σ u) a b c = if isU σ u = true then nI (snn σ (tN u) 4) else a := by
  unfold tl o_sound
  by_cases h : isU σ u = true
  · rw [if_pos h, if_pos h]; rfl
  · rw [if_neg h, if_neg h]; rfl
theorem t_versions (o : Int32) : tl (o_versions σ o) a b c = if inR σ.ob o = true then bset (fun k => σ.b 0 (10 * tN o + k)) 10 else a := by
  unfold tl o_versions
  by_cases h : inR σ.ob o = true
  · rw [if_pos h, if_pos h]; rfl
  · rw [if_neg h, if_neg h]; rfl
theorem t_unitOf (o v : Int32) : tl (o_unitOf σ o v) a b c = if isV σ o v = true then nI (σ.a 3 (10 * tN o + tN v)) else a := by
  unfold tl o_unitOf
  by_cases h : isV σ o v = true
  · rw [if_pos h, if_pos h]; rfl
  · rw [if_neg h, if_neg h]; rfl
theorem t_read (o v : Int32) : tl (o_read σ o v) a b c = if isV σ o v = true then (if allG σ (chL σ (10 * tN o + tN v)) = true then rdv σ (10 * tN o + tN v) else b) else a := by
  unfold tl o_read
  by_cases h : isV σ o v = true
  · rw [if_pos h, if_pos h]
    by_cases h2 : allG σ (chL σ (10 * tN o + tN v)) = true
    · rw [if_pos h2, if_pos h2]; rfl
    · rw [if_neg h2, if_neg h2]; rfl
  · rw [if_neg h, if_neg h]; rfl
theorem t_atRisk (r : Int32) : tl (o_atRisk σ r) a b c = if inK 0 100 r = true then bset (riskB σ r) σ.ob else a := by
  unfold tl o_atRisk
  by_cases h : inK 0 100 r = true
  · rw [if_pos h, if_pos h]; rfl
  · rw [if_neg h, if_neg h]; rfl
theorem t_bestWay (x y : Int32) : tl (o_bestWay σ x y) a b c = if inR σ.fo x = true ∧ inR σ.fo y = true then way σ (tN x) (tN y) else a := by
  unfold tl o_bestWay
  by_cases h : inR σ.fo x = true ∧ inR σ.fo y = true
  · rw [if_pos h, if_pos h]; rfl
  · rw [if_neg h, if_neg h]; rfl
end TELL
theorem inR_no {n k : Nat} (hn : n < 2 ^ 31) (hk : k < 2 ^ 31) (h : n ≤ k) : inR n (nI k) = false := by
  cases e : inR n (nI k) with
  | false => rfl
  | true =>
    have h1 := (inR_of hn e).2
    have h2 : tN (nI k) = k := nI_clamp hk
    omega
theorem inR_m1 (n : Nat) : inR n (-1) = false := decide_eq_false (fun q => absurd q.1 (by decide))
theorem isU_n {σ : ST} {k : Nat} (hu : σ.un < 2 ^ 31) (hk : k < 2 ^ 31) : isU σ (nI k) = (decide (k < σ.un) && σ.b 1 k) := by
  unfold isU
  rw [show tN (nI k) = k from nI_clamp hk]
  by_cases h : k < σ.un
  · rw [inR_nI hu h, decide_eq_true h]
  · rw [inR_no hu hk (by omega), decide_eq_false h]
theorem isU_m1 (σ : ST) : isU σ (-1) = false := by
  unfold isU
  rw [inR_m1, Bool.false_and]
theorem isV_n {σ : ST} {o v : Nat} (hb : σ.ob ≤ 10) (ho : o < σ.ob) (hv : v < 10) : isV σ (nI o) (nI v) = σ.b 0 (10 * o + v) := by
  unfold isV
  rw [inR_nI (by omega) ho, inR_nI (by decide) hv, Bool.true_and, Bool.true_and, show tN (nI o) = o from nI_clamp (by omega), show tN (nI v) = v from nI_clamp (by omega)]
theorem un_60 {B : Nat} {σ : ST} (hI : INV B σ) (h6 : σ.ob ≤ 6) : σ.un ≤ 60 := by
  have k1 := hI.gh.2.2.2.2.2.2.1
  have k2 := hadT_le σ.ob hI.wf.2.1
  omega
-- counts of units and copies
theorem unn_cnt (σ : ST) : ∀ n, unn σ n = cntB (σ.b 1) n
  | 0 => rfl
  | n + 1 => by
    unfold unn cntB
    rw [unn_cnt σ n]
/-- how many units there are, of the first k numbers -/
def uA (σ : ST) (k : Nat) : Nat := cntB (fun u => isU σ (nI u)) k
theorem uA_s (σ : ST) (k : Nat) : uA σ (k + 1) = uA σ k + (if isU σ (nI k) = true then 1 else 0) := rfl
theorem uA_le (σ : ST) (k : Nat) : uA σ k ≤ k := cntB_le _ k
theorem uA_64 {σ : ST} (hu : σ.un ≤ 60) : uA σ 64 = unn σ σ.un := by
  unfold uA
  rw [unn_cnt]
  have e := cntB_z (f := fun u => isU σ (nI u)) (m := σ.un) (64 - σ.un) (fun k h1 h2 => by
    show isU σ (nI k) = false
    rw [isU_n (by omega) (by omega), decide_eq_false (by omega), Bool.false_and])
  rw [show σ.un + (64 - σ.un) = 64 by omega] at e
  rw [e]
  refine cntB_ext _ (fun k hk => ?_)
  show isU σ (nI k) = σ.b 1 k
  rw [isU_n (by omega) (by omega), decide_eq_true hk, Bool.true_and]
/-- how many copies there are, of the first k units -/
def cA (σ : ST) : Nat → Nat
  | 0 => 0
  | k + 1 => cA σ k + (if isU σ (nI k) = true then cpc σ k 4 else 0)
theorem cA_le (σ : ST) : ∀ k, cA σ k ≤ 4 * k
  | 0 => Nat.le_refl _
  | k + 1 => by
    have h1 := cA_le σ k
    have h2 := cpc_le σ k 4
    unfold cA
    split <;> omega
theorem cA_0 {σ : ST} : ∀ k, cA σ k = 0 → ∀ u, u < k → isU σ (nI u) = true → cpc σ u 4 = 0
  | 0, _, u, hu, _ => absurd hu (Nat.not_lt_zero u)
  | k + 1, h, u, hu, hq => by
    unfold cA at h
    by_cases hk : u = k
    · rw [hk] at hq ⊢
      rw [if_pos hq] at h
      omega
    · exact cA_0 k (by omega) u (by omega) hq
theorem cpc_0 {σ : ST} {u : Nat} : ∀ n, cpc σ u n = 0 → ∀ s, s < n → σ.cp u s = false
  | 0, _, s, hs => absurd hs (Nat.not_lt_zero s)
  | n + 1, h, s, hs => by
    unfold cpc at h
    by_cases hk : s = n
    · rw [hk]
      cases e : σ.cp u n with
      | false => rfl
      | true =>
        rw [if_pos e] at h
        omega
    · exact cpc_0 n (by omega) s (by omega)
/-- no copy is there, none is audited next -/
theorem nxt_no {B : Nat} {σ : ST} {dm tg : Bool} (hI : INV B σ) (hP : PI σ dm tg) (h6 : σ.ob ≤ 6) (h : cA σ 64 = 0) : nxt σ = none := by
  cases hn : nxt σ with
  | none => rfl
  | some m =>
    exfalso
    have hu := un_60 hI h6
    obtain ⟨hm, hc⟩ := nxf_some σ 400 0 m hn
    have hs : m % 4 < 4 := Nat.mod_lt _ (by decide)
    have hf : σ.cp (m / 4) (m % 4) = false := by
      by_cases hl : m / 4 < σ.un
      · cases hb : σ.b 1 (m / 4) with
        | false => exact hP.2.2.2.1 _ _ hs hb
        | true => exact cpc_0 4 (cA_0 64 h (m / 4) (by omega) (by rw [isU_n (by omega) (by omega), decide_eq_true hl, hb]; rfl)) _ hs
      · exact (hI.gh.1 (m / 4) (m % 4) (by omega)).1
    rw [hf] at hc
    cases hc
theorem lkn_3 {σ : ST} (h : ∀ u, σ.a 5 u ≤ 3) : ∀ n, lkn σ n ≤ 3 * unn σ n
  | 0 => Nat.le_refl _
  | n + 1 => by
    have h1 := lkn_3 h n
    have h2 := h n
    unfold lkn unn
    split <;> omega
theorem snn_le (σ : ST) (u : Nat) : ∀ n, snn σ u n ≤ cpc σ u n
  | 0 => Nat.le_refl _
  | n + 1 => by
    have h := snn_le σ u n
    unfold snn cpc
    by_cases h1 : snd σ u n = true
    · have h2 : σ.cp u n = true := by
        unfold snd at h1
        rw [Bool.and_eq_true] at h1
        exact h1.1
      rw [if_pos h1, if_pos h2]
      omega
    · rw [if_neg h1]
      omega
theorem snn_nd {σ : ST} {tg : Bool} (hP : PI σ false tg) (u : Nat) : ∀ n, n ≤ 4 → snn σ u n = cpc σ u n
  | 0, _ => rfl
  | n + 1, hn => by
    unfold snn cpc
    rw [snn_nd hP u n (by omega)]
    have e : snd σ u n = σ.cp u n := by
      unfold snd
      cases hc : σ.cp u n with
      | false => rfl
      | true =>
        rw [hP.2.2.2.2.1 rfl u n (by omega) hc, decide_eq_true rfl]
        rfl
    rw [e]
-- reading
theorem alk_pos {σ : ST} {u s : Nat} (h : snd σ u s = true) : ∀ n, s < n → 1 ≤ alk σ u s n
  | 0, hs => absurd hs (Nat.not_lt_zero s)
  | n + 1, hs => by
    unfold alk
    by_cases hk : s = n
    · rw [← hk, if_pos ⟨h, h, rfl⟩]
      omega
    · have := alk_pos h n (by omega)
      omega
theorem gdn_ex {σ : ST} {u s : Nat} (h : snd σ u s = true) (h4 : s < 4) : ∀ n, s < n → ∃ f, gdn σ u n = some f
  | 0, hs => absurd hs (Nat.not_lt_zero s)
  | n + 1, hs => by
    unfold gdn
    by_cases hq : gal σ u (gdn σ u n) < alk σ u n 4
    · exact ⟨n, if_pos hq⟩
    · rw [if_neg hq]
      by_cases hk : s = n
      · cases hg : gdn σ u n with
        | some f => exact ⟨f, rfl⟩
        | none =>
          rw [hg, ← hk] at hq
          have := alk_pos h 4 h4
          exact absurd (show 0 < alk σ u s 4 by omega) hq
      · exact gdn_ex h h4 n (by omega)
theorem cnL_pos {σ : ST} {u w : Nat} (he : σ.a 3 w = u) : ∀ l, w ∈ l → 0 < cnL σ u l
  | [], h => absurd h List.not_mem_nil
  | x :: l, h => by
    rw [cnL_c]
    rcases List.mem_cons.mp h with q | q
    · rw [← q, if_pos he]
      omega
    · have := cnL_pos he l q
      omega
theorem chL_self (σ : ST) (v : Nat) : v ∈ chL σ v := by
  unfold chL chf
  exact List.mem_cons_self
/-- the units that a version needs are there -/
theorem b1_ch {B : Nat} {σ : ST} (hI : INV B σ) {v w : Nat} (hv : σ.b 0 v = true) (hw : w ∈ chL σ v) : σ.a 3 w < σ.un ∧ σ.b 1 (σ.a 3 w) = true := by
  have hk := vok_of hI hv
  have hl := (hI.wf.2.2.1 w (chL_vok hI.wf hk hw)).1
  refine ⟨hl, ?_⟩
  rw [hI.gh.2.2.2.2.2.1 _ hl]
  have h1 := ndc_ge σ (σ.a 3 w) v 100 (hI.wf.lt hk)
  have h2 : ndt σ (σ.a 3 w) v = cnL σ (σ.a 3 w) (chL σ v) := if_pos hv
  have h3 := cnL_pos (σ := σ) (u := σ.a 3 w) rfl _ hw
  exact decide_eq_true (by omega)
/-- nothing was damaged: what is read is the content -/
theorem rd_cont {σ : ST} {tg : Bool} (hP : PI σ false tg) {v : Nat} (h : allG σ (chL σ v) = true) : rdv σ v = cont σ v := by
  unfold rdv cont
  refine isum_ext _ _ (fun w hw => ?_)
  have h1 := List.all_eq_true.mp h w hw
  show gval σ (σ.a 3 w) = σ.i 2 (σ.a 3 w)
  unfold gval
  cases hg : good σ (σ.a 3 w) with
  | none =>
    rw [hg] at h1
    cases h1
  | some s => exact hP.2.2.2.2.1 rfl _ _ (good_lt 4 s hg) (good_cp 4 s hg)
/-- and no site was closed: all can be read -/
theorem rd_all {B : Nat} {σ : ST} (hI : INV B σ) (hP : PI σ false false) {v : Nat} (hv : σ.b 0 v = true) : allG σ (chL σ v) = true := by
  unfold allG
  refine List.all_eq_true.mpr (fun w hw => ?_)
  obtain ⟨h1, h2⟩ := b1_ch hI hv hw
  obtain ⟨s, k1, k2⟩ := (hP.2.2.2.2.2 rfl).2 _ h1 h2
  have hs : snd σ (σ.a 3 w) s = true := by
    unfold snd
    rw [k2, hP.2.2.2.2.1 rfl _ s k1 k2, decide_eq_true rfl]
    rfl
  obtain ⟨f, hf⟩ := gdn_ex hs k1 4 k1
  show (good σ (σ.a 3 w)).isSome = true
  rw [show good σ (σ.a 3 w) = some f from hf]
  rfl
theorem chL_len {σ : ST} (hw : WF σ) : ∀ n v, v % 10 < n → vok σ v → (chL σ v).length ≤ n
  | 0, v, h, _ => absurd h (Nat.not_lt_zero _)
  | n + 1, v, h, hv => by
    cases hd : σ.b 2 (σ.a 3 v) with
    | true =>
      rw [chL_d hw hv hd, List.length_cons]
      obtain ⟨h1, h2⟩ := hw.bas hv hd
      have h3 := ((hw.2.2.1 v hv).2 hd).2
      have := chL_len hw n (σ.a 4 v) (by omega) h2
      omega
    | false =>
      rw [chL_w hd]
      show 0 + 1 ≤ n + 1
      omega
theorem isum_bd {f : Nat → Int32} {B : Nat} : ∀ (l : List Nat) (a : Int32) (K : Nat), (∀ w, w ∈ l → -(B : Int) ≤ (f w).toInt ∧ (f w).toInt ≤ B) → (-(K : Int) ≤ a.toInt ∧ a.toInt ≤ K) → K + B * l.length < 2147483648 → -((K + B * l.length : Nat) : Int) ≤ (isum f a l).toInt ∧ (isum f a l).toInt ≤ ((K + B * l.length : Nat) : Int)
  | [], a, K, _, ha, _ => by
    show -((K + B * 0 : Nat) : Int) ≤ a.toInt ∧ a.toInt ≤ ((K + B * 0 : Nat) : Int)
    rw [Nat.mul_zero]
    exact ha
  | v :: l, a, K, hf, ha, hK => by
    have h1 := hf v List.mem_cons_self
    rw [List.length_cons] at hK ⊢
    have e : K + B * (l.length + 1) = K + B + B * l.length := by rw [Nat.mul_add, Nat.mul_one]; omega
    rw [e] at hK ⊢
    refine isum_bd l (a + f v) (K + B) (fun w hw => hf w (List.mem_cons_of_mem _ hw)) ?_ hK
    rw [Int32.toInt_add, Int.bmod_eq_of_le (by omega) (by omega)]
    omega
theorem rd_bd {B : Nat} {σ : ST} (hI : INV B σ) (hB : B ≤ 9000000) {v : Nat} (hv : vok σ v) : -100000000 < (rdv σ v).toInt := by
  have hl := chL_len hI.wf 10 v (Nat.mod_lt _ (by decide)) hv
  have hm : B * (chL σ v).length ≤ B * 10 := Nat.mul_le_mul_left B hl
  have h := isum_bd (f := fun w => gval σ (σ.a 3 w)) (B := B) (chL σ v) 0 0 (fun w hw => by
    show -(B : Int) ≤ (gval σ (σ.a 3 w)).toInt ∧ (gval σ (σ.a 3 w)).toInt ≤ B
    unfold gval
    cases hg : good σ (σ.a 3 w) with
    | none =>
      show -(B : Int) ≤ (0 : Int32).toInt ∧ (0 : Int32).toInt ≤ B
      rw [show (0 : Int32).toInt = 0 from rfl]
      omega
    | some s => exact hI.hb _ _ (good_cp 4 s hg)) (by rw [show (0 : Int32).toInt = 0 from rfl]; omega) (by omega)
  have h1 := h.1
  show -100000000 < (isum (fun w => gval σ (σ.a 3 w)) 0 (chL σ v)).toInt
  omega
-- the same objects
def SO (σ τ : ST) : Prop := τ.ob = σ.ob ∧ (∀ j, τ.a 1 j = σ.a 1 j ∧ τ.a 2 j = σ.a 2 j ∧ τ.a 3 j = σ.a 3 j ∧ τ.a 4 j = σ.a 4 j) ∧ (∀ j, τ.b 0 j = σ.b 0 j ∧ τ.b 2 j = σ.b 2 j) ∧ ∀ j, τ.i 2 j = σ.i 2 j
theorem SO_st8 {σ τ : ST} (h : st8 σ τ) : SO σ τ := ⟨h.1.1, fun j => ⟨congrFun (h.2.1 1 (by decide)) j, congrFun (h.2.1 2 (by decide)) j, congrFun (h.2.1 3 (by decide)) j, congrFun (h.2.1 4 (by decide)) j⟩, fun j => ⟨congrFun h.2.2.2.1 j, congrFun h.2.2.2.2.2 j⟩, fun j => congrFun h.2.2.1.1 j⟩
theorem SO_sim {σ τ υ : ST} (h : SO σ τ) (hs : sim τ υ) : SO σ υ := by
  obtain ⟨a1, a2, a3, a4, -, -, -⟩ := sim_u hs
  exact ⟨(a4 1).trans h.1, fun j => ⟨(a1 1 (by decide) j).trans (h.2.1 j).1, (a1 2 (by decide) j).trans (h.2.1 j).2.1, (a1 3 (by decide) j).trans (h.2.1 j).2.2.1, (a1 4 (by decide) j).trans (h.2.1 j).2.2.2⟩, fun j => ⟨(a2 0 j).trans (h.2.2.1 j).1, (a2 2 j).trans (h.2.2.1 j).2⟩, fun j => (a3 2 (by decide) j).trans (h.2.2.2 j)⟩
theorem chf_c {σ τ : ST} (h3 : ∀ k, τ.a 3 k = σ.a 3 k) (h4 : ∀ k, τ.a 4 k = σ.a 4 k) (h2 : ∀ u, τ.b 2 u = σ.b 2 u) : ∀ n v, chf τ n v = chf σ n v
  | 0, _ => rfl
  | n + 1, v => by
    unfold chf
    rw [h3, h4, h2, chf_c h3 h4 h2 n]
theorem cont_c {σ τ : ST} (h3 : ∀ k, τ.a 3 k = σ.a 3 k) (h4 : ∀ k, τ.a 4 k = σ.a 4 k) (h2 : ∀ u, τ.b 2 u = σ.b 2 u) (hi : ∀ u, τ.i 2 u = σ.i 2 u) (v : Nat) : cont τ v = cont σ v := by
  unfold cont
  rw [show chL τ v = chL σ v from chf_c h3 h4 h2 (v + 1) v]
  exact isum_ext _ _ (fun w _ => by rw [hi, h3])
theorem SO_cont {σ τ : ST} (h : SO σ τ) (v : Nat) : cont τ v = cont σ v := cont_c (fun k => (h.2.1 k).2.2.1) (fun k => (h.2.1 k).2.2.2) (fun u => (h.2.2.1 u).2) h.2.2.2 v
theorem SO_vok {σ τ : ST} (h : SO σ τ) {v : Nat} : vok τ v ↔ vok σ v := by
  unfold vok
  rw [h.1, (h.2.1 (v / 10)).1]
theorem LR_so {σ τ : ST} {ar ar' : Nat → Nat → Int32} {dm tg dm' tg' : Bool} (h : LR σ ar dm tg) (hs : SO σ τ) (e3 : ar' 3 0 = nI τ.fo ∧ ar' 3 1 = ar 3 1 ∧ ar' 3 2 = bset (τ.b 4) 4 ∧ ar' 3 3 = bI dm' ∧ ar' 3 4 = bI tg') (ef : ∀ f, f < τ.fo → ar' 1 (6 + f) = τ.i 0 f ∧ inK 0 100 (τ.i 0 f) = true) (ej : ∀ j, j < 6 → ar' 1 j = ar 1 j ∧ ar' 2 j = ar 2 j ∧ ar' 2 (6 + j) = ar 2 (6 + j)) (e0 : ∀ w, ar' 0 w = ar 0 w) : LR τ ar' dm' tg' := by
  obtain ⟨g1, ⟨g2, g3, g4, g5, g6⟩, g7, g8, g9⟩ := h
  refine ⟨by rw [hs.1]; exact g1, ⟨e3.1, by rw [e3.2.1, g3, hs.1], e3.2.2.1, e3.2.2.2.1, e3.2.2.2.2⟩, ef, fun j hj => ?_, fun w hw => ?_⟩
  · rw [hs.1] at hj
    obtain ⟨k1, k2, k3⟩ := g8 j hj
    obtain ⟨m1, m2, m3⟩ := ej j (by omega)
    rw [m1, m2, m3, (hs.2.1 j).1, latn_eq (σ := σ) 10 (fun k _ => (hs.2.2.1 _).1), (hs.2.1 _).2.1]
    refine ⟨k1, ?_, k3⟩
    rw [k2]
    exact bset_ext 10 (fun k _ => (hs.2.2.1 _).1.symm)
  · rw [e0, SO_cont hs]
    exact g9 w ((SO_vok hs).mp hw)
theorem LE_so {σ τ : ST} {ar ar' : Nat → Nat → Int32} {x : Nat} (h : LE σ ar x) (hs : SO σ τ) (e4 : ∀ w, ar' 4 w = ar 4 w) : LE τ ar' x := fun w hw hne => by
  rw [(hs.2.2.1 w).1] at hw
  rw [e4, (hs.2.1 w).2.1]
  exact h w hw hne
