/-! the class's calls, from invariant to invariant: the last four -/
theorem rem_bd (x : Int32) {y : Int32} (hy : 0 < y.toInt) : -y.toInt < (x - x / y * y).toInt ∧ (x - x / y * y).toInt < y.toInt := by
  rw [rem_toInt]
  have h1 := Int.tmod_lt_of_pos x.toInt hy
  have h2 := Int.tmod_lt_of_pos (-x.toInt) hy
  rw [Int.neg_tmod] at h2
  omega
theorem rem1k_bd (s : Int32) : 0 ≤ (rem1k s).toInt ∧ (rem1k s).toInt < 1000 := by
  have hk : (nI 1000).toInt = 1000 := by decide
  obtain ⟨h1, h2⟩ := rem_bd s (y := nI 1000) (by rw [hk]; decide)
  rw [hk] at h1 h2
  unfold rem1k
  split
  · rename_i h
    have h3 := Int32.lt_iff_toInt_lt.mp h
    rw [show (0 : Int32).toInt = 0 from rfl] at h3
    rw [Int32.toInt_add, hk, Int.bmod_eq_of_le (by omega) (by omega)]
    omega
  · rename_i h
    have h3 : ¬ (s - s / nI 1000 * nI 1000).toInt < (0 : Int32).toInt := fun q => h (Int32.lt_iff_toInt_lt.mpr q)
    rw [show (0 : Int32).toInt = 0 from rfl] at h3
    omega
theorem cvC_bd (s w : Int32) : -999999 ≤ (cvC s w).toInt ∧ (cvC s w).toInt ≤ 999999 := by
  have hk : (nI 1000).toInt = 1000 := by decide
  obtain ⟨h1, h2⟩ := rem1k_bd s
  obtain ⟨h3, h4⟩ := rem_bd (w / nI 100) (y := nI 1000) (by rw [hk]; decide)
  rw [hk] at h3 h4
  unfold cvC
  have h5 : (nI 1000 * rem1k s).toInt = 1000 * (rem1k s).toInt := by
    rw [Int32.toInt_mul, hk, Int.bmod_eq_of_le (by omega) (by omega)]
  rw [Int32.toInt_add, h5, Int.bmod_eq_of_le (by omega) (by omega)]
  omega
theorem inC_bd {c : Int32} (h : inC c = true) : -999999 ≤ c.toInt ∧ c.toInt ≤ 999999 := by
  have h1 := of_decide_eq_true h
  have h2 := Int32.le_iff_toInt_le.mp h1.1
  have h3 := Int32.le_iff_toInt_le.mp h1.2
  rw [show (nI 0).toInt = 0 by decide] at h2
  rw [show ((999999 : Int32)).toInt = 999999 by decide] at h3
  omega
section KOPS3
variable (g : GG) {A : Nat → Nat → Nat} {B : Nat} {σ ρ : ST} {x : XT} {M : Mem}
/-- the row of bases behind a version of an object -/
def NV (o : OP) (σ : ST) (ob' : Nat) : (Nat → Int32) → Nat → Int32 := fun rb => if o.1 = 0 then f1 rb (10 * ob' + σ.a 1 ob') (nI (latn σ ob' 10)) else rb
def ND0 (o : OP) (σ : ST) : (Nat → Int32) → Nat → Int32 := fun rb => if o.1 = 0 then f1 rb (10 * σ.ob + σ.a 1 σ.ob) (-1) else rb
theorem INV.zc (h : INV B σ) : (∀ s, σ.cp σ.un s = false) ∧ ∀ s, σ.hs σ.un s = 0 := ⟨fun s => (h.gh.1 σ.un s (Nat.le_refl _)).1, fun s => (h.gh.1 σ.un s (Nat.le_refl _)).2⟩
theorem INV.lat (h : INV B σ) {o : Nat} (ho : o < σ.ob) : vok σ (latn σ o 10) ∧ latn σ o 10 / 10 = o ∧ σ.b 0 (latn σ o 10) = true := by
  obtain ⟨l1, l2, l3⟩ := latn_lt 10 (h.hv o ho)
  exact ⟨h.wf.2.2.2 _ l3, by omega, l3⟩
theorem k_revise (hI : INV B σ) (hB : 2000000 ≤ B ∧ B < 2147483648) (hW : W2 g A σ ρ x M) (o c : Int32) (d : Bool) : con g mX5_revise 9 339 [.ref (A 0 0), .int o, .int c, .int (bI d)] M (rO (o_revise σ o c d) (eX xIA xIO xIS) (KQ g A B σ ρ x (o_revise σ o c d) (NV (o_revise σ o c d) σ (tN o)))) := by
  refine (c_X5_revise g hW hI.wf hI.cap hI.nd hI.uq hI.ld hI.hb hB.2 (fun u _ => hI.sm.1 u) (fun o _ => hI.sm.2.1 o) (fun _ h1 h2 => hI.room h1 h2) hI.zc.1 hI.zc.2 o c d).mono (fun q M' h => h.imp (fun M' hW' => ?_))
  obtain ⟨A2, cap, cap2, h1, h2, h3, h4, hW'⟩ := hW'
  by_cases hc : inC c = true ∧ inR σ.ob o = true ∧ ¬ σ.a 1 (tN o) = 10
  · have h10 := hI.wf.1.1
    have lo := (inR_of (by omega) hc.2.1).2
    have hlt : σ.a 1 (tN o) < 10 := by
      have := hI.wf.2.1 (tN o) lo
      have := hc.2.2
      omega
    obtain ⟨k1, k2, k3⟩ := hI.lat lo
    have eo : o_revise σ o c d = (0, nI (σ.a 1 (tN o)), adR σ (tN o) (σ.a 2 (latn σ (tN o) 10)) (latn σ (tN o) 10) d (rvV σ (latn σ (tN o) 10) c d)) := by unfold o_revise; rw [if_pos hc.1, if_pos hc.2.1, if_neg hc.2.2]
    have ed : (rvB σ o d).isSome = d := by unfold rvB; cases d <;> rfl
    have ev : bsV σ (rvB σ o d) c = rvV σ (latn σ (tN o) 10) c d := by
      unfold rvB rvV
      cases d with
      | false => rfl
      | true =>
        show c - σ.i 4 (latn σ (tN o) 10) = c - cont σ (latn σ (tN o) 10)
        rw [hI.gh.2.2.1 _ k1]
    have hcp2 : σ.a 1 (tN o) + 1 ≤ cap2 := by
      rcases h2 with h2 | h2
      · exact h2
      · exact absurd hc.2.1 h2
    obtain ⟨i1, i2⟩ := hI.nv hB.1 (o := tN o) (fm := σ.a 2 (latn σ (tN o) 10)) (cap := cap) (cap2 := cap2) (b := latn σ (tN o) 10) (bo := rvB σ o d) (c := c) lo hlt (hI.fm _ k1) (inC_bd hc.1) (fun b' hb' => by
      unfold rvB at hb'
      split at hb'
      · cases hb'
        exact ⟨rfl, k1, k2, k3⟩
      · cases hb') h1 ⟨hcp2, h3⟩
    have hs := sim_nv (σ := σ) (w := σ.a 0 (tN o)) (bo := rvB σ o d) (c := c) (cap := cap) (hI.gh.2.1 _ (Nat.le_refl _)) (tN o) (σ.a 2 (latn σ (tN o) 10)) (adF σ (rvB σ o d).isSome (bsV σ (rvB σ o d) c)) (latn σ (tN o) 10) cap2
    unfold rvS at hW'
    rw [if_pos hc] at hW'
    refine ⟨A2, _, x.rch, h4, ⟨i1.up (Nat.le_add_right _ _), ?_, fun rb hrb => ?_⟩, hW'⟩
    · rw [eo]
      show sim (adR σ (tN o) (σ.a 2 (latn σ (tN o) 10)) (latn σ (tN o) 10) d (rvV σ (latn σ (tN o) 10) c d)) _
      unfold adR
      rw [← ev]
      rw [ed] at hs ⊢
      exact hs
    · unfold NV
      rw [eo, if_pos rfl]
      exact i2 rb _ (fun _ => rfl) hrb
  · have e : (o_revise σ o c d).2.2 = σ ∧ (o_revise σ o c d).1 ≠ 0 := by
      unfold o_revise
      by_cases a1 : inC c = true
      · rw [if_pos a1]
        by_cases a2 : inR σ.ob o = true
        · rw [if_pos a2, if_pos (Classical.byContradiction fun q => hc ⟨a1, a2, q⟩)]
          exact ⟨rfl, Nat.succ_ne_zero _⟩
        · rw [if_neg a2]
          exact ⟨rfl, Nat.succ_ne_zero _⟩
      · rw [if_neg a1]
        exact ⟨rfl, Nat.succ_ne_zero _⟩
    unfold rvS at hW'
    rw [if_neg hc] at hW'
    refine ⟨A2, σ, x.rch, h4, ⟨hI.up (Nat.le_add_right _ _), by rw [e.1]; exact sim.refl σ, fun rb hrb => ?_⟩, hW'⟩
    unfold NV
    rw [if_neg e.2]
    exact hrb
theorem k_convert (hI : INV B σ) (hB : 2000000 ≤ B ∧ B < 2147483648) (hW : W2 g A σ ρ x M) (o f : Int32) : con g mX5_convert 10 345 [.ref (A 0 0), .int o, .int f] M (rO (o_convert σ o f) (eX xIO xIS xIS) (KQ g A B σ ρ x (o_convert σ o f) (NV (o_convert σ o f) σ (tN o)))) := by
  refine (c_X5_convert g hW hI.wf hI.li hI.cap hI.nd hI.uq hI.ld hI.hb hB.2 (fun u _ => hI.sm.1 u) (fun o _ => hI.sm.2.1 o) hI.fm (fun _ h1 h2 => hI.room h1 h2) hI.zc.1 hI.zc.2 o f).mono (fun q M' h => h.imp (fun M' hW' => ?_))
  obtain ⟨A2, cap, cap2, rc, h1, h3, h2, h4, hW'⟩ := hW'
  by_cases hc : cvK σ o f = true
  · have hc2 := hc
    unfold cvK at hc2
    rw [Bool.and_eq_true] at hc2
    have hin := hc2.1
    rw [Bool.and_eq_true] at hin
    have hok := hc2.2
    unfold cvOk at hok
    rw [Bool.and_eq_true, Bool.and_eq_true, Bool.and_eq_true] at hok
    have h10 := hI.wf.1.1
    have hf8 := hI.li.1
    have lo := (inR_of (by omega) hin.1).2
    have lf := (inR_of (by omega) hin.2).2
    have hlt : σ.a 1 (tN o) < 10 := of_decide_eq_true hok.2.2.2
    have eo : o_convert σ o f = (0, nI (σ.a 1 (tN o)), adR σ (tN o) (tN f) (latn σ (tN o) 10) false (cvC (rdv σ (latn σ (tN o) 10)) (way σ (σ.a 2 (latn σ (tN o) 10)) (tN f)))) := by unfold o_convert; rw [if_pos hc2.1, if_pos hc2.2]
    obtain ⟨i1, i2⟩ := hI.nv hB.1 (o := tN o) (fm := tN f) (cap := cap) (cap2 := cap2) (b := latn σ (tN o) 10) (bo := none) (c := cvN σ o f) lo hlt lf (cvC_bd _ _) (fun b' hb' => by cases hb') h1 ⟨h2 hc, h3⟩
    have hs := sim_nv (σ := σ) (w := σ.a 0 (tN o)) (bo := none) (c := cvN σ o f) (cap := cap) (hI.gh.2.1 _ (Nat.le_refl _)) (tN o) (tN f) (adF σ false (cvN σ o f)) (latn σ (tN o) 10) cap2
    unfold cvS at hW'
    rw [if_pos hc] at hW'
    refine ⟨A2, _, rc, h4, ⟨i1.up (Nat.le_add_right _ _), ?_, fun rb hrb => ?_⟩, hW'⟩
    · rw [eo]
      exact hs
    · unfold NV
      rw [eo, if_pos rfl]
      exact i2 rb _ (fun q => by cases q) hrb
  · have e : (o_convert σ o f).2.2 = σ ∧ (o_convert σ o f).1 ≠ 0 := by
      unfold o_convert
      by_cases a1 : (inR σ.ob o && inR σ.fo f) = true
      · rw [if_pos a1]
        by_cases a2 : cvOk σ (tN o) (tN f) (latn σ (tN o) 10) = true
        · exact absurd (by unfold cvK; rw [a1, a2]; rfl) hc
        · rw [if_neg a2]
          exact ⟨rfl, Nat.succ_ne_zero _⟩
      · rw [if_neg a1]
        exact ⟨rfl, Nat.succ_ne_zero _⟩
    unfold cvS at hW'
    rw [if_neg hc] at hW'
    refine ⟨A2, σ, rc, h4, ⟨hI.up (Nat.le_add_right _ _), by rw [e.1]; exact sim.refl σ, fun rb hrb => ?_⟩, hW'⟩
    unfold NV
    rw [if_neg e.2]
    exact hrb
theorem k_deposit (hI : INV B σ) (hB : 2000000 ≤ B ∧ B < 2147483648) (hW : W2 g A σ ρ x M) (f c k : Int32) : con g mX5_deposit 11 500 [.ref (A 0 0), .int f, .int c, .int k] M (rO (o_deposit σ f c k) (eX xIA xIO xIS) (KQ g A B σ ρ x (o_deposit σ f c k) (ND0 (o_deposit σ f c k) σ))) := by
  refine (c_X5_deposit g hW hI.wf hI.li.1 hI.cap hI.nd hI.uq hI.ld hI.hb hB.2 (fun u _ => hI.sm.1 u) (fun h => (hI.room0 h).1) hI.zc.1 hI.zc.2 f c k).mono (fun q M' h => h.imp (fun M' hW' => ?_))
  obtain ⟨A2, cap, cap2, cap3, h1, h2, h3, h4, hW'⟩ := hW'
  by_cases hc : dpK σ f c k = true
  · have hc2 := hc
    unfold dpK at hc2
    rw [Bool.and_eq_true, Bool.and_eq_true (inR σ.fo f)] at hc2
    obtain ⟨a1, a2, a3⟩ := hc2
    have a4 := a1
    rw [Bool.and_eq_true] at a4
    have hf8 := hI.li.1
    have h10 := hI.wf.1.1
    have lf := (inR_of (by omega) a2).2
    have hne : ¬ σ.ob = 10 := by simpa using a3
    have hob : σ.ob < 10 := by omega
    obtain ⟨hun, hz⟩ := hI.room0 hob
    have hk3 : tN k ≤ 100 := by
      have h9 := of_decide_eq_true (a4.2 : decide (nI 1 ≤ k ∧ k ≤ nI 3) = true)
      have := (inK_3 (l := k) (decide_eq_true ⟨Int32.le_trans (by decide) h9.1, h9.2⟩)).2
      omega
    have eo : o_deposit σ f c k = (0, nI σ.ob, (adR (σ.sa 0 σ.ob (tN k)) σ.ob (tN f) 0 false c).sn 1 (σ.ob + 1)) := by
      unfold o_deposit
      rw [if_pos a1, if_pos a2, if_neg hne]
    obtain ⟨i1, i2⟩ := hI.no hB.1 (fm := tN f) (cap := cap) (cap2 := cap2) (cap3 := cap3) (w := tN k) (c := c) hob (by omega) lf (inC_bd a4.1) h1 h2 h3
    have hs := sim_no (σ := σ) (w := tN k) (c := c) (cap := cap) (hI.gh.2.1 _ (Nat.le_refl _)) (n := σ.ob) hz (tN f) (adF σ false c) 0 cap2 cap3
    unfold dpS at hW'
    rw [if_pos hc] at hW'
    refine ⟨A2, _, x.rch, h4, ⟨i1.up (Nat.le_add_right _ _), ?_, fun rb hrb => ?_⟩, hW'⟩
    · rw [eo]
      show sim ((adR (σ.sa 0 σ.ob (tN k)) σ.ob (tN f) 0 false c).sn 1 (σ.ob + 1)) _
      unfold adR
      rw [show (σ.sa 0 σ.ob (tN k)).a 0 σ.ob = tN k from f2_s, ((co5.refl σ).la (k := 0) (by decide) σ.ob (tN k)).adF false c]
      exact hs
    · unfold ND0
      rw [eo, if_pos rfl]
      exact i2 rb _ hrb
  · have e : (o_deposit σ f c k).2.2 = σ ∧ (o_deposit σ f c k).1 ≠ 0 := by
      unfold o_deposit
      by_cases a1 : (inC c && inK 1 3 k) = true
      · rw [if_pos a1]
        by_cases a2 : inR σ.fo f = true
        · rw [if_pos a2]
          by_cases a3 : σ.ob = 10
          · rw [if_pos a3]
            exact ⟨rfl, Nat.succ_ne_zero _⟩
          · exact absurd (by unfold dpK; rw [a1, a2, decide_eq_false a3]; rfl) hc
        · rw [if_neg a2]
          exact ⟨rfl, Nat.succ_ne_zero _⟩
      · rw [if_neg a1]
        exact ⟨rfl, Nat.succ_ne_zero _⟩
    unfold dpS at hW'
    rw [if_neg hc] at hW'
    refine ⟨A2, σ, x.rch, h4, ⟨hI.up (Nat.le_add_right _ _), by rw [e.1]; exact sim.refl σ, fun rb hrb => ?_⟩, hW'⟩
    unfold ND0
    rw [if_neg e.2]
    exact hrb
theorem puT_rbk {p : Nat} (h : sim (pgS (σ.sb 0 p false) σ.un) (puT σ p)) {rb : Nat → Int32} (hrb : rbk σ rb) : rbk (puT σ p) rb := by
  obtain ⟨s1, s2, s3, s4, s5, s6⟩ := pgS_same (σ.sb 0 p false) σ.un
  have ea : ∀ k, k < 6 → ∀ j, (puT σ p).a k j = σ.a k j := fun k hk j => (congrFun (h.2.1 k hk).symm j).trans (congrFun (congrFun s2 k) j)
  have eob : (puT σ p).ob = σ.ob := (congrFun h.1.symm 1).trans (congrFun s1 1)
  have eb : ∀ j, (puT σ p).b 2 j = σ.b 2 j := fun j => (congrArg (fun z => z.1 2 j) h.2.2.2.symm).trans ((congrFun (s4 2 (by decide)) j).trans (congrFun (show f2 σ.2.2.2.1 0 p false 2 = σ.2.2.2.1 2 from f2_a (by decide)) j))
  intro v hv hd
  have hv' : vok σ v := by
    unfold vok at hv ⊢
    rw [← eob, ← ea 1 (by decide)]
    exact hv
  rw [ea 3 (by decide), eb] at hd
  rw [ea 4 (by decide)]
  exact hrb v hv' hd
theorem k_purge (hI : INV B σ) (hW : W2 g A σ ρ x M) (o v : Int32) : con g mX5_purge 3 18 [.ref (A 0 0), .int o, .int v] M (rO (o_purge σ o v) (eX xIO xIS xIS) (KQ g A B σ ρ x (o_purge σ o v) NN)) := by
  have hgo : isV σ o v = true → (∃ k, k < 10 ∧ 10 * ((10 * tN o + tN v) / 10) + k ≠ 10 * tN o + tN v ∧ σ.b 0 (10 * ((10 * tN o + tN v) / 10) + k) = true) → INV B (puT σ (10 * tN o + tN v)) ∧ _ := fun hV hm => hI.purge (isV_of hI.wf hV).2.2.1 hm
  have hmn : isV σ o v = true → ¬ many σ (tN o) 10 = 1 → ∃ k, k < 10 ∧ 10 * ((10 * tN o + tN v) / 10) + k ≠ 10 * tN o + tN v ∧ σ.b 0 (10 * ((10 * tN o + tN v) / 10) + k) = true := fun hV hm => by
    obtain ⟨-, ⟨-, lv⟩, hb0, -⟩ := isV_of hI.wf hV
    have hp := many_pos hb0 10 lv
    obtain ⟨k, k1, k2, k3⟩ := many_ex (σ := σ) (o := tN o) (k0 := tN v) 10 (by rw [if_pos lv]; omega)
    have e : (10 * tN o + tN v) / 10 = tN o := by omega
    rw [e]
    exact ⟨k, k1, by omega, k3⟩
  have hge : isV σ o v = true → ∀ u, cnL σ u (chL σ (10 * tN o + tN v)) ≤ σ.a 6 u := fun hV u => by
    obtain ⟨-, -, hb0, hvk⟩ := isV_of hI.wf hV
    by_cases hu : u < σ.un
    · rw [hI.gh.2.2.2.2.1 u hu]
      have hg := ndc_ge σ u _ 100 (hI.wf.lt hvk)
      unfold ndt at hg
      rw [if_pos hb0] at hg
      exact hg
    · rw [cnL_0 _ (fun x hx => by have := (hI.wf.2.2.1 x (chL_vok hI.wf hvk hx)).1; omega)]
      exact Nat.zero_le _
  refine (c_X5_purge g hW hI.wf hI.cap hI.ld (fun u hu => (hI.nd u hu).1) o v hge (fun hV hm => (hgo hV (hmn hV hm)).2.2.2.2)).mono (fun q M' h => h.imp (fun M' hW' => ?_))
  have hW' : W2 g A (puS σ o v) ρ (x.srch x.rch) M' := hW'
  by_cases hc : isV σ o v = true ∧ ¬ many σ (tN o) 10 = 1
  · obtain ⟨i1, i2, i3, -, -⟩ := hgo hc.1 (hmn hc.1 hc.2)
    have eo : o_purge σ o v = (0, nI (pgN (σ.sb 0 (10 * tN o + tN v) false) σ.un), pgS (σ.sb 0 (10 * tN o + tN v) false) σ.un) := by unfold o_purge; rw [if_pos hc.1, if_neg hc.2]
    unfold puS at hW'
    rw [if_pos hc] at hW'
    refine ⟨A, puT σ (10 * tN o + tN v), x.rch, AK.refl A, ⟨i1.up (Nat.le_add_right _ _), by rw [eo]; exact i2, fun rb hrb => puT_rbk i2 hrb⟩, hW'.b1s i3⟩
  · have e : (o_purge σ o v).2.2 = σ := by
      unfold o_purge
      by_cases a1 : isV σ o v = true
      · rw [if_pos a1, if_pos (Classical.byContradiction fun q => hc ⟨a1, q⟩)]
      · rw [if_neg a1]
    unfold puS at hW'
    rw [if_neg hc] at hW'
    exact KQ.same hI e hW'
end KOPS3
