/-! the class: an object's version is added behind makeVersion -/
/-- class, reference and answer stand where they stood -/
def AK (A A2 : Nat → Nat → Nat) : Prop := ∀ kk i, (kk = 0 ∧ i = 0) ∨ (kk = 20 ∧ i < 5) → A2 kk i = A kk i
theorem AK.of {A A' A2 : Nat → Nat → Nat} {σ : ST} (h1 : ∀ k i, wdom σ k i → k ≠ 8 → A' k i = A k i) (h2 : ∀ kk i, (kk = 0 ∧ i = 0) ∨ (kk = 20 ∧ i < 5) → A2 kk i = A' kk i) : AK A A2 := fun kk i h => (h2 kk i h).trans (by
  rcases h with ⟨rfl, rfl⟩ | ⟨rfl, hi⟩
  · exact h1 0 0 ⟨by decide, rfl⟩ (by decide)
  · exact h1 20 i hi (by decide))
theorem addv_pre (g : GG) {A' : Nat → Nat → Nat} {σ ρ : ST} {x : XT} {M1 : Mem} {w cap fm q : Nat} {o : Option Nat} {c : Int32} (hw : WF σ) (hun : σ.un < 100) (hC : CAP σ) {n ob' b : Nat} (hob : ob' < σ.ob) (hn : σ.a 1 ob' = n) (hn10 : n < 10) (hbo : ∀ y, o = some y → vok σ y ∧ b = y)
    (hcap : σ.un + 1 ≤ cap ∧ cap ≤ 150) (hW1 : W2 g A' (mkS σ w o c cap) ρ x M1) (hq : M1 q = some (ob 5 [.ref (A' 13 (adF σ o.isSome (bsV σ o c))), vB A' o, .int (nI fm), .int c, .int (bI true)])) (hdq : ∀ k i, wdom (mkS σ w o c cap) k i → A' k i ≠ q) : con g mX0_add 1 150 [.ref (A' 16 ob'), .ref q] M1 (rQ (some (.int (nI n))) (LAd M1 (A' 17 ob') (A' 18 ob') n (nI ((mkS σ w o c cap).a 9 (2 + ob')) + nI 1) (fun j => A' 19 (10 * ob' + j)) q)) := by
  have hag := mkS_agr σ w o c cap
  obtain ⟨t1, t2, t3, t4, t5, t6, t7, t8⟩ := obS_old σ w o.isSome (bsV σ o c) cap
  have hwm : WF (mkS σ w o c cap) := hag.WF (obS_WF hw hun w o.isSome (bsV σ o c) cap)
  have hCm : CAP (mkS σ w o c cap) := hag.CAP (obS_CAP hC w o.isSome (bsV σ o c) hcap.1 hcap.2)
  have eo : (mkS σ w o c cap).ob = σ.ob := hag.ob.trans (t1 1 (by decide))
  have e1 : (mkS σ w o c cap).a 1 ob' = n := ((congrFun (hag.2.1 1 (by decide) (by decide)) ob').trans (congrFun (t2 1 (by decide)) ob')).trans hn
  have hom : ob' < (mkS σ w o c cap).ob := by rw [eo]; exact hob
  have hlv := hW1.vlist hom
  have hvd := hW1.vdata hom
  rw [e1] at hlv hvd
  have hcc := hCm.2.2.2.2 ob' hom
  rw [e1] at hcc
  have hI : LIn g M1 (A' 18 ob') n ((mkS σ w o c cap).a 8 (2 + ob')) (fun j => A' 19 (10 * ob' + j)) 5 := Or.inr ⟨hvd, hcc.1, hcc.2.1, hcc.2.2, fun j hj => ⟨_, hW1.ver (vok_at hom (by rw [e1]; exact hj) (hwm.2.1 ob' hom))⟩⟩
  exact c_X0_add g (hW1.dob hom) hlv hq (by omega) hI
theorem addv_W2 (g : GG) {A' : Nat → Nat → Nat} {σ ρ : ST} {x : XT} {M1 : Mem} {w cap fm q : Nat} {o : Option Nat} {c : Int32} (hw : WF σ) (hun : σ.un < 100) (hC : CAP σ) {n ob' b : Nat} (hob : ob' < σ.ob) (hn : σ.a 1 ob' = n) (hn10 : n < 10) (hbo : ∀ y, o = some y → vok σ y ∧ b = y)
    (hcap : σ.un + 1 ≤ cap ∧ cap ≤ 150) (hW1 : W2 g A' (mkS σ w o c cap) ρ x M1) (hq : M1 q = some (ob 5 [.ref (A' 13 (adF σ o.isSome (bsV σ o c))), vB A' o, .int (nI fm), .int c, .int (bI true)])) (hdq : ∀ k i, wdom (mkS σ w o c cap) k i → A' k i ≠ q) {M2 : Mem} (hA : LAd M1 (A' 17 ob') (A' 18 ob') n (nI ((mkS σ w o c cap).a 9 (2 + ob')) + nI 1) (fun j => A' 19 (10 * ob' + j)) q M2) : ∃ A2 cap2, (n + 1 ≤ cap2 ∧ cap2 ≤ 150) ∧ (∀ kk i, kk ≠ 18 → kk ≠ 19 → A2 kk i = A' kk i) ∧ W2 g A2 (nvS (mkS σ w o c cap) ob' fm (adF σ o.isSome (bsV σ o c)) b c cap2) ρ x M2 := by
  have hag := mkS_agr σ w o c cap
  obtain ⟨t1, t2, t3, t4, t5, t6, t7, t8⟩ := obS_old σ w o.isSome (bsV σ o c) cap
  have hwm : WF (mkS σ w o c cap) := hag.WF (obS_WF hw hun w o.isSome (bsV σ o c) cap)
  have hCm : CAP (mkS σ w o c cap) := hag.CAP (obS_CAP hC w o.isSome (bsV σ o c) hcap.1 hcap.2)
  have eo : (mkS σ w o c cap).ob = σ.ob := hag.ob.trans (t1 1 (by decide))
  have e1 : (mkS σ w o c cap).a 1 ob' = n := ((congrFun (hag.2.1 1 (by decide) (by decide)) ob').trans (congrFun (t2 1 (by decide)) ob')).trans hn
  have hom : ob' < (mkS σ w o c cap).ob := by rw [eo]; exact hob
  have hlv := hW1.vlist hom
  have hvd := hW1.vdata hom
  rw [e1] at hlv hvd
  have hcc := hCm.2.2.2.2 ob' hom
  rw [e1] at hcc
  have hI : LIn g M1 (A' 18 ob') n ((mkS σ w o c cap).a 8 (2 + ob')) (fun j => A' 19 (10 * ob' + j)) 5 := Or.inr ⟨hvd, hcc.1, hcc.2.1, hcc.2.2, fun j hj => ⟨_, hW1.ver (vok_at hom (by rw [e1]; exact hj) (hwm.2.1 ob' hom))⟩⟩
  obtain ⟨r, cap2, g1, g2, g3, g4, g5, g6, g7⟩ := hA
  have hb2 : (mkS σ w o c cap).b 2 (adF σ o.isSome (bsV σ o c)) = o.isSome := (congrFun (congrFun hag.2.2.2.1 2) _).trans t8
  have hvB : vB A' o = if (mkS σ w o c cap).b 2 (adF σ o.isSome (bsV σ o c)) = true then .ref (A' 19 b) else .null := by
    rw [hb2]
    cases o with
    | none => rfl
    | some y => rw [(hbo y rfl).2]; rfl
  have hqr : r ≠ q := fun e => by
    rcases g1 with g1 | ⟨g1, -⟩
    · rw [e, hq] at g1; cases g1
    · exact hdq 18 ob' hom (g1.symm.trans e)
  have hW0 := hW1.cut
  refine ⟨nvA A' ob' (10 * ob' + n) q r, cap2, ⟨g3, g4⟩, (fun kk i h1 h2 => by unfold nvA; rw [if_neg (fun z => h1 z.1), if_neg (fun z => h2 z.1)]), hW0.newVersion hwm hom e1 hcc.1 hn10 rfl (by rw [hag.un]; exact t3.2.2) (fun hd => ?_) (cutM_out hdq) ?_ hqr (by rw [g5, nI_add]) (by rw [g6]) ?_ (fun z e hz z1 z2 z3 => ?_)⟩
  · rw [hb2] at hd
    obtain ⟨y, hy⟩ := Option.isSome_iff_exists.mp hd
    have hv := (hbo y hy).1
    rw [← (hbo y hy).2] at hv
    exact hag.vok (obS_vok.mpr hv)
  · rcases g1 with g1 | ⟨g1, -⟩
    · exact Or.inl (cutM_none g1)
    · exact Or.inr g1
  · rw [g7 q (Ne.symm (hdq 17 ob' hom)) (Ne.symm hqr), hq, hvB]
  · rw [g7 z z1 z2]
    exact cutM_some hz
