/-! the class's calls, from invariant to invariant -/
theorem con.mono {g : GG} {d : MD} {bk bn : Nat} {as : List Value} {M : Mem} {P P' : PO} (h : con g d bk bn as M P) (hP : ∀ r M', P r M' → P' r M') : con g d bk bn as M P' := by
  intro p e ha hc hk s m args below hf happ hp hK
  obtain ⟨n, o, h1, h2, h3, hq⟩ := h p e ha hc hk s m args below hf happ hp hK
  refine ⟨n, o, h1, h2, h3, ?_⟩
  rcases hq with ⟨⟨v, M', k1, k2, k3⟩, h5⟩ | ⟨q, h5, E, ce, L, ⟨M', k1, k2⟩, h6⟩
  · exact Or.inl ⟨⟨v, M', k1, hP _ _ k2, k3⟩, h5⟩
  · exact Or.inr ⟨q, h5, E, ce, L, ⟨M', hP _ _ k1, k2⟩, h6⟩
theorem rO.imp {o : OP} {E : Nat → String} {Q Q' : Mem → Prop} {r : RV} {M : Mem} (h : rO o E Q r M) (hq : ∀ M, Q M → Q' M) : rO o E Q' r M := ⟨hq _ h.1, h.2⟩
/-- behind a call of the class -/
def KQ (g : GG) (A : Nat → Nat → Nat) (B : Nat) (σ ρ : ST) (x : XT) (o : OP) (N : (Nat → Int32) → Nat → Int32) : Mem → Prop := fun M' => ∃ A2 τ rc, AK A A2 ∧ (INV (B + 1000) τ ∧ sim o.2.2 τ ∧ ∀ rb, rbk σ rb → rbk τ (N rb)) ∧ W2 g A2 τ ρ (x.srch rc) M'
abbrev NN : (Nat → Int32) → Nat → Int32 := fun rb => rb
theorem AK.refl (A : Nat → Nat → Nat) : AK A A := fun _ _ _ => rfl
theorem HB.up {B B' : Nat} {σ : ST} (h : HB B σ) (hB : B ≤ B') : HB B' σ := fun u s hq => by
  have k := h u s hq
  omega
theorem INV.up {B B' : Nat} {σ : ST} (h : INV B σ) (hB : B ≤ B') : INV B' σ := ⟨h.wf, h.li, h.cap, h.uq, h.ld, h.hb.up hB, h.hv, h.fm, h.sm, h.gh⟩
theorem st8.rbk {σ τ : ST} (h : st8 σ τ) {rb : Nat → Int32} (hb : rbk σ rb) : rbk τ rb := fun v hv hd => by
  have e3 : τ.a 3 v = σ.a 3 v := congrFun (h.2.1 3 (by decide)) v
  have e4 : τ.a 4 v = σ.a 4 v := congrFun (h.2.1 4 (by decide)) v
  have b2 : ∀ o, τ.b 2 o = σ.b 2 o := congrFun h.2.2.2.2.2
  rw [e3, b2] at hd
  rw [e4]
  exact hb v (h.vok.mp hv) hd
theorem st8.refl (σ : ST) : st8 σ σ := ⟨⟨rfl, rfl⟩, fun _ _ => rfl, ⟨rfl, rfl⟩, ⟨rfl, rfl, rfl⟩⟩
section KOPS
variable (g : GG) {A : Nat → Nat → Nat} {B : Nat} {σ ρ : ST} {x : XT} {M : Mem}
theorem KQ.of {g : GG} {o : OP} {τ : ST} {M : Mem} (h : INV (B + 1000) τ) (hs : sim o.2.2 τ) (h8 : st8 σ τ) {rc : Nat → Int32} (hW : W2 g A τ ρ (x.srch rc) M) : KQ g A B σ ρ x o NN M := ⟨A, τ, rc, AK.refl A, ⟨h, hs, fun _ hb => h8.rbk hb⟩, hW⟩
theorem KQ.same {g : GG} {o : OP} {M : Mem} (h : INV B σ) (he : o.2.2 = σ) {rc : Nat → Int32} (hW : W2 g A σ ρ (x.srch rc) M) : KQ g A B σ ρ x o NN M := KQ.of (h.up (Nat.le_add_right _ _)) (by rw [he]; exact sim.refl σ) (st8.refl σ) hW
theorem k_addFormat (hI : INV B σ) (hW : W2 g A σ ρ x M) (r : Int32) : con g mX5_addFormat 2 12 [.ref (A 0 0), .int r] M (rO (o_addFormat σ r) (eX xIA xIS xIS) (KQ g A B σ ρ x (o_addFormat σ r) NN)) := by
  refine (c_X5_addFormat g hW hI.li.1 r).mono (fun q M' h => h.imp (fun M' hW' => ?_))
  have hW' : W2 g A (o_addFormat σ r).2.2 ρ (x.srch x.rch) M' := hW'
  by_cases h1 : inK 0 100 r = true ∧ ¬ σ.fo = 8
  · have e : o_addFormat σ r = (0, nI σ.fo, (σ.si 0 σ.fo r).sn 0 (σ.fo + 1)) := by unfold o_addFormat; rw [if_pos h1.1, if_neg h1.2]
    rw [e] at hW' ⊢
    have h8 : st8 σ ((σ.si 0 σ.fo r).sn 0 (σ.fo + 1)) := ⟨⟨rfl, rfl⟩, fun _ _ => rfl, ⟨rfl, rfl⟩, ⟨rfl, rfl, rfl⟩⟩
    have hfo : ((σ.si 0 σ.fo r).sn 0 (σ.fo + 1)).fo = σ.fo + 1 := rfl
    have hf := hI.li.1
    refine KQ.of (hI.st8 h8 ⟨by rw [hfo]; omega, fun i j hi hj => ?_⟩ (hI.ld.eq rfl rfl) ((hI.hb.eq rfl rfl).up (Nat.le_add_right _ _)) hI.gh.1 (by rw [hfo]; omega) hI.sm.2.2) (sim.refl _) h8 hW'
    rw [hfo]
    rcases hI.li.2 i j hi hj with k | ⟨k1, k2, k3⟩
    · exact Or.inl k
    · exact Or.inr ⟨by omega, by omega, k3⟩
  · have e : (o_addFormat σ r).2.2 = σ := by
      unfold o_addFormat
      by_cases h2 : inK 0 100 r = true
      · rw [if_pos h2, if_pos (Classical.byContradiction fun q => h1 ⟨h2, q⟩)]
      · rw [if_neg h2]
    exact KQ.same hI e (by rw [e] at hW'; exact hW')
theorem k_setRisk (hI : INV B σ) (hW : W2 g A σ ρ x M) (f r : Int32) : con g mX5_setRisk 2 12 [.ref (A 0 0), .int f, .int r] M (rO (o_setRisk σ f r) (eX xIA xIO xIO) (KQ g A B σ ρ x (o_setRisk σ f r) NN)) := by
  refine (c_X5_setRisk g hW hI.li.1 f r).mono (fun q M' h => h.imp (fun M' hW' => ?_))
  have hW' : W2 g A (o_setRisk σ f r).2.2 ρ (x.srch x.rch) M' := hW'
  by_cases h1 : inK 0 100 r = true ∧ inR σ.fo f = true
  · have e : o_setRisk σ f r = (0, σ.i 0 (tN f), σ.si 0 (tN f) r) := by unfold o_setRisk; rw [if_pos h1.1, if_pos h1.2]
    rw [e] at hW' ⊢
    have h8 : st8 σ (σ.si 0 (tN f) r) := ⟨⟨rfl, rfl⟩, fun _ _ => rfl, ⟨rfl, rfl⟩, ⟨rfl, rfl, rfl⟩⟩
    exact KQ.of (hI.st8 h8 (hI.li.eq rfl rfl) (hI.ld.eq rfl rfl) ((hI.hb.eq rfl rfl).up (Nat.le_add_right _ _)) hI.gh.1 (Nat.le_refl _) hI.sm.2.2) (sim.refl _) h8 hW'
  · have e : (o_setRisk σ f r).2.2 = σ := by
      unfold o_setRisk
      by_cases h2 : inK 0 100 r = true
      · rw [if_pos h2, if_neg (fun q => h1 ⟨h2, q⟩)]
      · rw [if_neg h2]
    exact KQ.same hI e (by rw [e] at hW'; exact hW')
theorem k_addConversion (hI : INV B σ) (hW : W2 g A σ ρ x M) (a b l : Int32) : con g mX5_addConversion 3 18 [.ref (A 0 0), .int a, .int b, .int l] M (rO (o_addConversion σ a b l) (eX xIA xIO xIO) (KQ g A B σ ρ x (o_addConversion σ a b l) NN)) := by
  refine (c_X5_addConversion g hW hI.li a b l).mono (fun q M' h => h.imp (fun M' hW' => ?_))
  obtain ⟨rc, hW'⟩ := hW'
  by_cases h1 : (inK 0 100 l = true ∧ ¬ a = b) ∧ (inR σ.fo a = true ∧ inR σ.fo b = true)
  · have hf := hI.li.1
    have e : o_addConversion σ a b l = (0, way (σ.sl (tN a) (tN b) l) (tN a) (tN b) / nI 100, σ.sl (tN a) (tN b) l) := by unfold o_addConversion; rw [if_pos h1.1, if_pos h1.2]
    rw [e] at hW' ⊢
    have h8 : st8 σ (σ.sl (tN a) (tN b) l) := ⟨⟨rfl, rfl⟩, fun _ _ => rfl, ⟨rfl, rfl⟩, ⟨rfl, rfl, rfl⟩⟩
    obtain ⟨el, ll⟩ := inK_100 h1.1.1
    have hL2 := hI.li.sl (inR_of (by omega) h1.2.1).2 (inR_of (by omega) h1.2.2).2 ll
    rw [← el] at hL2
    exact KQ.of (hI.st8 h8 hL2 (hI.ld.eq rfl rfl) ((hI.hb.eq rfl rfl).up (Nat.le_add_right _ _)) hI.gh.1 (Nat.le_refl _) hI.sm.2.2) (sim.refl _) h8 hW'
  · have e : (o_addConversion σ a b l).2.2 = σ := by
      unfold o_addConversion
      by_cases h2 : inK 0 100 l = true ∧ ¬ a = b
      · rw [if_pos h2, if_neg (fun q => h1 ⟨h2, q⟩)]
      · rw [if_neg h2]
    exact KQ.same hI e (by rw [e] at hW'; exact hW')
theorem k_bestWay (hI : INV B σ) (hW : W2 g A σ ρ x M) (a b : Int32) : con g mX5_bestWay 2 12 [.ref (A 0 0), .int a, .int b] M (rO (o_bestWay σ a b) (eX xIO xIO xIO) (KQ g A B σ ρ x (o_bestWay σ a b) NN)) := by
  refine (c_X5_bestWay g hW hI.li a b).mono (fun q M' h => h.imp (fun M' hW' => ?_))
  obtain ⟨rc, hW'⟩ := hW'
  have e : (o_bestWay σ a b).2.2 = σ := by unfold o_bestWay; split <;> rfl
  exact KQ.same hI e (by rw [e] at hW'; exact hW')
theorem k_sites (hI : INV B σ) (hW : W2 g A σ ρ x M) (u : Int32) : con g mX5_sites 1 6 [.ref (A 0 0), .int u] M (rO (o_sites σ u) (eX xIO xIO xIO) (KQ g A B σ ρ x (o_sites σ u) NN)) := by
  refine (c_X5_sites g hW hI.wf hI.cap hI.nd u).mono (fun q M' h => h.imp (fun M' hW' => ?_))
  have e : (o_sites σ u).2.2 = σ := by unfold o_sites; split <;> rfl
  exact KQ.same hI e (rc := x.rch) (by rw [e] at hW'; exact hW')
theorem k_sound (hI : INV B σ) (hW : W2 g A σ ρ x M) (u : Int32) : con g mX5_sound 1 6 [.ref (A 0 0), .int u] M (rO (o_sound σ u) (eX xIO xIO xIO) (KQ g A B σ ρ x (o_sound σ u) NN)) := by
  refine (c_X5_sound g hW hI.wf hI.cap hI.nd u).mono (fun q M' h => h.imp (fun M' hW' => ?_))
  have e : (o_sound σ u).2.2 = σ := by unfold o_sound; split <;> rfl
  exact KQ.same hI e (rc := x.rch) (by rw [e] at hW'; exact hW')
theorem k_versions (hI : INV B σ) (hW : W2 g A σ ρ x M) (o : Int32) : con g mX5_versions 1 6 [.ref (A 0 0), .int o] M (rO (o_versions σ o) (eX xIO xIO xIO) (KQ g A B σ ρ x (o_versions σ o) NN)) := by
  refine (c_X5_versions g hW hI.wf hI.cap o).mono (fun q M' h => h.imp (fun M' hW' => ?_))
  have e : (o_versions σ o).2.2 = σ := by unfold o_versions; split <;> rfl
  exact KQ.same hI e (rc := x.rch) (by rw [e] at hW'; exact hW')
theorem k_unitOf (hI : INV B σ) (hW : W2 g A σ ρ x M) (o v : Int32) : con g mX5_unitOf 2 12 [.ref (A 0 0), .int o, .int v] M (rO (o_unitOf σ o v) (eX xIO xIO xIO) (KQ g A B σ ρ x (o_unitOf σ o v) NN)) := by
  refine (c_X5_unitOf g hW hI.wf hI.cap o v).mono (fun q M' h => h.imp (fun M' hW' => ?_))
  have e : (o_unitOf σ o v).2.2 = σ := by unfold o_unitOf; split <;> rfl
  exact KQ.same hI e (rc := x.rch) (by rw [e] at hW'; exact hW')
theorem k_read (hI : INV B σ) (hB : B < 2147483648) (hW : W2 g A σ ρ x M) (o v : Int32) : con g mX5_read 3 18 [.ref (A 0 0), .int o, .int v] M (rO (o_read σ o v) (eX xIO xIS xIS) (KQ g A B σ ρ x (o_read σ o v) NN)) := by
  refine (c_X5_read g hW hI.wf hI.cap o v).mono (fun q M' h => h.imp (fun M' hW' => ?_))
  have e : (o_read σ o v).2.2 = σ := by
    unfold o_read
    split
    · split <;> rfl
    · rfl
  exact KQ.same hI e (rc := x.rch) (by rw [e] at hW'; exact hW')
theorem k_atRisk (hI : INV B σ) (hW : W2 g A σ ρ x M) (r : Int32) : con g mX5_atRisk 1 6 [.ref (A 0 0), .int r] M (rO (o_atRisk σ r) (eX xIA xIA xIA) (KQ g A B σ ρ x (o_atRisk σ r) NN)) := by
  refine (c_X5_atRisk g hW hI.wf hI.cap hI.li.1 hI.fm r).mono (fun q M' h => h.imp (fun M' hW' => ?_))
  have e : (o_atRisk σ r).2.2 = σ := by unfold o_atRisk; split <;> rfl
  exact KQ.same hI e (rc := x.rch) (by rw [e] at hW'; exact hW')
theorem HB.dam {σ : ST} (h : HB B σ) (hB : B + 1000 < 2147483648) {u s : Nat} {c : Int32} (hc : -1000 ≤ c.toInt ∧ c.toInt ≤ 1000) (hcp : σ.cp u s = true) : HB (B + 1000) (σ.sh u s (σ.hs u s + c)) := by
  intro k t hk
  show -((B + 1000 : Nat) : Int) ≤ (f2 σ.hs u s (σ.hs u s + c) k t).toInt ∧ (f2 σ.hs u s (σ.hs u s + c) k t).toInt ≤ ((B + 1000 : Nat) : Int)
  by_cases hq : k = u ∧ t = s
  · have h1 := h u s hcp
    rw [hq.1, hq.2, f2_s, Int32.toInt_add, Int.bmod_eq_of_le (by omega) (by omega)]
    omega
  · rw [f2_n hq]
    have h1 := h k t hk
    omega
theorem k_damage (hI : INV B σ) (hB : B + 1000 < 2147483648) (hW : W2 g A σ ρ x M) (s u c : Int32) : con g mX5_damage 3 18 [.ref (A 0 0), .int s, .int u, .int c] M (rO (o_damage σ s u c) (eX xIA xIO xIO) (KQ g A B σ ρ x (o_damage σ s u c) NN)) := by
  refine (c_X5_damage g hW hI.wf hI.cap hI.nd s u c).mono (fun q M' h => h.imp (fun M' hW' => ?_))
  have hW' : W2 g A (o_damage σ s u c).2.2 ρ (x.srch x.rch) M' := hW'
  by_cases h1 : dmOk s u c = true ∧ (isU σ u && σ.cp (tN u) (tN s)) = true
  · have e : o_damage σ s u c = (0, bI (snd (σ.sh (tN u) (tN s) (σ.hs (tN u) (tN s) + c)) (tN u) (tN s)), σ.sh (tN u) (tN s) (σ.hs (tN u) (tN s) + c)) := by unfold o_damage; rw [if_pos h1.1, if_pos h1.2]
    rw [e] at hW' ⊢
    have h8 : st8 σ (σ.sh (tN u) (tN s) (σ.hs (tN u) (tN s) + c)) := ⟨⟨rfl, rfl⟩, fun _ _ => rfl, ⟨rfl, rfl⟩, ⟨rfl, rfl, rfl⟩⟩
    have h2 := h1.2
    have h3 := h1.1
    unfold isU at h2
    unfold dmOk at h3
    rw [Bool.and_eq_true, Bool.and_eq_true] at h2 h3
    obtain ⟨eu, lu⟩ := inR_of (by have := hI.wf.1.2; omega) h2.1.1
    have hc := of_decide_eq_true h3.2.1
    have hc1 := Int32.le_iff_toInt_le.mp hc.1
    have hc2 := Int32.le_iff_toInt_le.mp hc.2
    rw [show ((-1000 : Int32)).toInt = -1000 by decide] at hc1
    rw [show (nI 1000).toInt = 1000 by decide] at hc2
    refine KQ.of (hI.st8 h8 (hI.li.eq rfl rfl) (hI.ld.eq rfl rfl) (hI.hb.dam hB ⟨hc1, hc2⟩ h2.2) (fun v t hv => ?_) (Nat.le_refl _) hI.sm.2.2) (sim.refl _) h8 hW'
    obtain ⟨k1, k2⟩ := hI.gh.1 v t hv
    refine ⟨k1, ?_⟩
    show f2 σ.hs (tN u) (tN s) (σ.hs (tN u) (tN s) + c) v t = 0
    rw [f2_n (fun z => by have hv : σ.un ≤ v := hv; have := z.1; omega)]
    exact k2
  · have e : (o_damage σ s u c).2.2 = σ := by
      unfold o_damage
      by_cases h2 : dmOk s u c = true
      · rw [if_pos h2, if_neg (fun q => h1 ⟨h2, q⟩)]
      · rw [if_neg h2]
    exact KQ.same hI e (by rw [e] at hW'; exact hW')
theorem sim_dc (s : Nat) (σ : ST) : ∀ n, sim (clS s n σ) (dcS s n σ) := fun n => by
  obtain ⟨k1, k2, k3, k4, k5, k6⟩ := clS_same s n σ
  obtain ⟨d1, d2, d3, d4, d5, d6, d7⟩ := dcS_same s σ n
  refine ⟨k1.trans d1.symm, fun k hk => (congrFun k2 k).trans (d2 k (by omega)).symm, fun k _ => congrFun (k3.trans d3.symm) k, Prod.ext (k4.trans d4.symm) (Prod.ext (k5.trans d5.symm) (Prod.ext (k6.trans d6.symm) ?_))⟩
  funext u t
  exact (clS_cp s σ n u t).trans (d7 u t).symm
theorem k_toggleSite (hI : INV B σ) (hW : W2 g A σ ρ x M) (s : Int32) : con g mX5_toggleSite 1 6 [.ref (A 0 0), .int s] M (rO (o_toggleSite σ s) (eX xIA xIA xIA) (KQ g A B σ ρ x (o_toggleSite σ s) NN)) := by
  refine (c_X5_toggleSite g hW hI.wf hI.cap hI.ld s).mono (fun q M' h => h.imp (fun M' hW' => ?_))
  have hW' : W2 g A (tgS σ s) ρ (x.srch x.rch) M' := hW'
  by_cases h1 : inK 0 3 s = true
  · have e : o_toggleSite σ s = (0, nI (clN σ (tN s) σ.un), clS (tN s) σ.un (σ.sb 4 (tN s) (!σ.b 4 (tN s)))) := by unfold o_toggleSite; rw [if_pos h1]
    have e2 : tgS σ s = dcS (tN s) σ.un (σ.sb 4 (tN s) (!σ.b 4 (tN s))) := by unfold tgS; rw [if_pos h1]
    rw [e2] at hW'
    rw [e]
    obtain ⟨d1, d2, d3, d4, d5, d6, d7⟩ := dcS_same (tN s) (σ.sb 4 (tN s) (!σ.b 4 (tN s))) σ.un
    have ls := (inK_3 h1).2
    have hLb : LD (σ.sb 4 (tN s) (!σ.b 4 (tN s))) := hI.ld.eq rfl rfl
    have hb : ∀ k, k ≠ 4 → (dcS (tN s) σ.un (σ.sb 4 (tN s) (!σ.b 4 (tN s)))).b k = σ.b k := fun k hk => (congrFun d4 k).trans (f2_a hk)
    have h8 : st8 σ (dcS (tN s) σ.un (σ.sb 4 (tN s) (!σ.b 4 (tN s)))) := ⟨⟨congrFun d1 1, congrFun d1 2⟩, fun k hk => d2 k hk, ⟨congrFun d3 2, congrFun d3 4⟩, ⟨hb 0 (by decide), hb 1 (by decide), hb 2 (by decide)⟩⟩
    have hc : ∀ u t, (dcS (tN s) σ.un (σ.sb 4 (tN s) (!σ.b 4 (tN s)))).cp u t = true → σ.cp u t = true := fun u t hq => by
      rw [d7] at hq
      split at hq
      · cases hq
      · exact hq
    have hhs : ∀ u t, (dcS (tN s) σ.un (σ.sb 4 (tN s) (!σ.b 4 (tN s)))).hs u t = σ.hs u t := fun u t => congrFun (congrFun d5 u) t
    refine KQ.of (hI.st8 h8 (hI.li.eq (congrFun d1 0) d6) (hLb.dcS ls σ.un hI.wf.1.2) (fun u t hq => ?_) (fun u t hu => ?_) (Nat.le_of_eq (congrFun d1 0).symm) (Nat.le_trans (Nat.le_of_eq (congrFun d1 3)) hI.sm.2.2)) (sim_dc (tN s) _ σ.un) h8 hW'
    · rw [hhs]
      have := hI.hb u t (hc u t hq)
      omega
    · obtain ⟨k1, k2⟩ := hI.gh.1 u t (Nat.le_trans (Nat.le_of_eq (congrFun d1 2).symm) hu)
      rw [hhs]
      refine ⟨Bool.eq_false_iff.mpr (fun q => ?_), k2⟩
      rw [hc u t q] at k1
      cases k1
  · have e : (o_toggleSite σ s).2.2 = σ := by unfold o_toggleSite; rw [if_neg h1]
    have e2 : tgS σ s = σ := by unfold tgS; rw [if_neg h1]
    exact KQ.same hI e (by rw [e2] at hW'; exact hW')
theorem auS_f : ∀ (n : Nat) {σ : ST}, σ.la ≤ 400 → HB B σ → (∀ u s, σ.un ≤ u → σ.cp u s = false ∧ σ.hs u s = 0) → (auS n σ).la ≤ 400 ∧ HB B (auS n σ) ∧ (∀ i, i ≠ 3 → (auS n σ).n i = σ.n i) ∧ (auS n σ).2.1 = σ.2.1 ∧ (auS n σ).2.2.1 = σ.2.2.1 ∧ (auS n σ).2.2.2.1 = σ.2.2.2.1 ∧ (auS n σ).lo = σ.lo ∧ (auS n σ).cp = σ.cp ∧ ∀ u s, σ.un ≤ u → (auS n σ).hs u s = 0
  | 0, _, hl, hb, hz => ⟨hl, hb, fun _ _ => rfl, rfl, rfl, rfl, rfl, rfl, fun u s hu => (hz u s hu).2⟩
  | n + 1, σ, hl, hb, hz => by
    obtain ⟨s1, s2, s3, s4, s5, s6⟩ := au1_same σ
    have hz1 : ∀ u s, (au1 σ).un ≤ u → (au1 σ).cp u s = false ∧ (au1 σ).hs u s = 0 := fun u s hu => by
      have hu : σ.un ≤ u := Nat.le_trans (Nat.le_of_eq (s1 2 (by decide)).symm) hu
      obtain ⟨k1, k2⟩ := hz u s hu
      rw [s6]
      refine ⟨k1, ?_⟩
      unfold au1
      cases hn : nxt σ with
      | none => exact k2
      | some m =>
        show (match good (σ.sn 3 (m + 1)) (m / 4) with | none => σ.sn 3 (m + 1) | some f => if σ.hs (m / 4) (m % 4) = σ.hs (m / 4) f then σ.sn 3 (m + 1) else (σ.sn 3 (m + 1)).sh (m / 4) (m % 4) (σ.hs (m / 4) f)).hs u s = 0
        have hm := (nxf_some σ 400 0 m hn).2
        cases good (σ.sn 3 (m + 1)) (m / 4) with
        | none => exact k2
        | some f =>
          show (if σ.hs (m / 4) (m % 4) = σ.hs (m / 4) f then σ.sn 3 (m + 1) else (σ.sn 3 (m + 1)).sh (m / 4) (m % 4) (σ.hs (m / 4) f)).hs u s = 0
          split
          · exact k2
          · show f2 σ.hs (m / 4) (m % 4) (σ.hs (m / 4) f) u s = 0
            rw [f2_n (fun z => by rw [z.1, z.2, hm] at k1; cases k1)]
            exact k2
    obtain ⟨r1, r2, r3, r4, r5, r6, r7, r8, r9⟩ := auS_f n (au1_la hl) hb.au1 hz1
    exact ⟨r1, r2, fun i hi => (r3 i hi).trans (s1 i hi), r4.trans s2, r5.trans s3, r6.trans s4, r7.trans s5, r8.trans s6, fun u s hu => r9 u s (Nat.le_trans (Nat.le_of_eq (s1 2 (by decide))) hu)⟩
theorem k_audit (hI : INV B σ) (hB : B < 2147483648) (hW : W2 g A σ ρ x M) (k : Int32) : con g mX5_audit 1 6 [.ref (A 0 0), .int k] M (rO (o_audit σ k) (eX xIA xIS xIS) (KQ g A B σ ρ x (o_audit σ k) NN)) := by
  refine (c_X5_audit g hW hI.wf hI.cap hI.ld hI.hb hB hI.sm.2.2 (fun u s hu => (hI.gh.1 u s hu).1) k).mono (fun q M' h => h.imp (fun M' hW' => ?_))
  have hW' : W2 g A (o_audit σ k).2.2 ρ (x.srch x.rch) M' := hW'
  by_cases h1 : inK 1 100 k = true ∧ (nxt σ).isSome = true
  · have e : o_audit σ k = (0, nI (auN (tN k) σ), auS (tN k) σ) := by unfold o_audit; rw [if_pos h1.1, if_pos h1.2]
    rw [e] at hW' ⊢
    obtain ⟨r1, r2, r3, r4, r5, r6, r7, r8, r9⟩ := auS_f (tN k) hI.sm.2.2 hI.hb hI.gh.1
    have h8 : st8 σ (auS (tN k) σ) := ⟨⟨r3 1 (by decide), r3 2 (by decide)⟩, fun k _ => congrFun r4 k, ⟨congrFun r5 2, congrFun r5 4⟩, ⟨congrFun r6 0, congrFun r6 1, congrFun r6 2⟩⟩
    refine KQ.of (hI.st8 h8 (hI.li.eq (r3 0 (by decide)) r7) (hI.ld.eq (congrFun r4 7) r8) (r2.up (Nat.le_add_right _ _)) (fun u s hu => ?_) (Nat.le_of_eq (r3 0 (by decide)).symm) r1) (sim.refl _) h8 hW'
    have hu : σ.un ≤ u := Nat.le_trans (Nat.le_of_eq (r3 2 (by decide)).symm) hu
    rw [r8]
    exact ⟨(hI.gh.1 u s hu).1, r9 u s hu⟩
  · have e : (o_audit σ k).2.2 = σ := by
      unfold o_audit
      by_cases h2 : inK 1 100 k = true
      · rw [if_pos h2, if_neg (fun q => h1 ⟨h2, q⟩)]
      · rw [if_neg h2]
    exact KQ.same hI e (by rw [e] at hW'; exact hW')
end KOPS
