/-! the world of the law: the class's cells and the law's own rows, wherever they stand by now; the class's calls in it -/
def WA (g : GG) (A0 : Nat → Nat → Nat) (σ : ST) (ar : Nat → Nat → Int32) (M : Mem) : Prop := ∃ (A : Nat → Nat → Nat) (ρ : ST) (rc : Nat → Int32), AK A0 A ∧ W2 g A σ ρ (rc, ar) M
theorem AK_trans {A A1 A2 : Nat → Nat → Nat} (h : AK A A1) (k : AK A1 A2) : AK A A2 := fun kk i hk => (k kk i hk).trans (h kk i hk)
section WAS
variable {g : GG} {A0 : Nat → Nat → Nat} {σ : ST} {ar : Nat → Nat → Int32} {M : Mem}
theorem WA_hall (h : WA g A0 σ ar M) : ∃ fs, M (A0 0 0) = some (ob 6 fs) := by
  obtain ⟨A, ρ, rc, hA, hW⟩ := h
  exact ⟨_, by rw [← hA 0 0 (Or.inl ⟨rfl, rfl⟩)]; exact hW.hall⟩
theorem WA_arr (h : WA g A0 σ ar M) {i : Nat} (hi : i < 5) : M (A0 20 i) = some (aI .int (asz i) (ar i)) := by
  obtain ⟨A, ρ, rc, hA, hW⟩ := h
  rw [← hA 20 i (Or.inr ⟨rfl, hi⟩)]
  exact hW.arr hi
theorem WA_0 (h : WA g A0 σ ar M) : M (A0 20 0) = some (aI .int 60 (ar 0)) := WA_arr h (by decide)
theorem WA_1 (h : WA g A0 σ ar M) : M (A0 20 1) = some (aI .int 14 (ar 1)) := WA_arr h (by decide)
theorem WA_2 (h : WA g A0 σ ar M) : M (A0 20 2) = some (aI .int 12 (ar 2)) := WA_arr h (by decide)
theorem WA_3 (h : WA g A0 σ ar M) : M (A0 20 3) = some (aI .int 5 (ar 3)) := WA_arr h (by decide)
theorem WA_4 (h : WA g A0 σ ar M) : M (A0 20 4) = some (aI .int 60 (ar 4)) := WA_arr h (by decide)
theorem WA_put (h : WA g A0 σ ar M) {i : Nat} (hi : i < 5) (k : Nat) (v : Int32) : WA g A0 σ (f2 ar i k v) (mset M (A0 20 i) (aI .int (asz i) (upd (ar i) k v))) := by
  obtain ⟨A, ρ, rc, hA, hW⟩ := h
  rw [← hA 20 i (Or.inr ⟨rfl, hi⟩)]
  exact ⟨A, ρ, rc, hA, hW.parr hi k v⟩
theorem WA_p0 (h : WA g A0 σ ar M) (k : Nat) (v : Int32) : WA g A0 σ (f2 ar 0 k v) (mset M (A0 20 0) (aI .int 60 (upd (ar 0) k v))) := WA_put h (by decide) k v
theorem WA_p1 (h : WA g A0 σ ar M) (k : Nat) (v : Int32) : WA g A0 σ (f2 ar 1 k v) (mset M (A0 20 1) (aI .int 14 (upd (ar 1) k v))) := WA_put h (by decide) k v
theorem WA_p2 (h : WA g A0 σ ar M) (k : Nat) (v : Int32) : WA g A0 σ (f2 ar 2 k v) (mset M (A0 20 2) (aI .int 12 (upd (ar 2) k v))) := WA_put h (by decide) k v
theorem WA_p3 (h : WA g A0 σ ar M) (k : Nat) (v : Int32) : WA g A0 σ (f2 ar 3 k v) (mset M (A0 20 3) (aI .int 5 (upd (ar 3) k v))) := WA_put h (by decide) k v
theorem WA_p4 (h : WA g A0 σ ar M) (k : Nat) (v : Int32) : WA g A0 σ (f2 ar 4 k v) (mset M (A0 20 4) (aI .int 60 (upd (ar 4) k v))) := WA_put h (by decide) k v
end WAS
/-- a call of the class -/
theorem z_ivW {g : GG} {d : MD} {bk bn : Nat} {P : PO} {M : Mem} {pc : Nat} {ls : List (Nat × Value)} {st : List Value} {index n bk1 bn1 : Nat} {dd : MD} {as rest : List Value} {v : Option Value} {Q : Mem → Prop} {A0 : Nat → Nat → Nat} {σ : ST} {ar : Nat → Nat → Int32} (hd : decode d.cc pc = .ok (.invokevirtual index, 3)) (hv : vlk d.y.cls index 6 dd n) (hW : WA g A0 σ ar M) (hcon : con g dd bk1 bn1 (.ref (A0 0 0) :: as) M (rQ v Q)) (hC : clk d dd bk1 bn1 bk bn) (hn : as.length = n) (hst : st = as.reverse ++ .ref (A0 0 0) :: rest) (hw : (rest.map fun v => v.category).sum ≤ 8)
    (kk : ∀ M', Q M' → tri g d (bk - bk1) (bn - bn1) P M' (pc + 3) ls (v.toList ++ rest)) : tri g d bk bn P M pc ls st := by
  obtain ⟨fs, hM⟩ := WA_hall hW
  exact z_ivQ hd hv hM hcon hC hn hst hw kk
theorem rO_q {o : OP} {E : Nat → String} {Q : Mem → Prop} {g : GG} {d : MD} {bk bn : Nat} {as : List Value} {M : Mem} (h : con g d bk bn as M (rO o E Q)) (h0 : o.1 = 0) {v : Int32} (hv : o.2.1 = v) : con g d bk bn as M (rQ (some (.int v)) Q) := h.mono (fun r M' q => by
  obtain ⟨q1, ⟨-, q2⟩ | ⟨q2, -⟩⟩ := q
  · exact ⟨by rw [q2, hv], q1⟩
  · exact absurd h0 q2)
/-- behind a call that changes -/
def MA (g : GG) (A0 : Nat → Nat → Nat) (B : Nat) (o : OP) (ar : Nat → Nat → Int32) : Mem → Prop := fun M' => ∃ τ, INV (B + 1000) τ ∧ sim o.2.2 τ ∧ WA g A0 τ ar M'
theorem KQ_ma {g : GG} {A0 A : Nat → Nat → Nat} {B : Nat} {σ ρ : ST} {rc : Nat → Int32} {ar : Nat → Nat → Int32} {o : OP} {N : (Nat → Int32) → Nat → Int32} {M : Mem} (hA : AK A0 A) (h : KQ g A B σ ρ (rc, ar) o N M) : MA g A0 B o ar M := by
  obtain ⟨A2, τ, rc2, hA2, ⟨h1, h2, -⟩, hW⟩ := h
  exact ⟨τ, h1, h2, A2, ρ, rc2, AK_trans hA hA2, hW⟩
section WAC
variable (g : GG) {A0 : Nat → Nat → Nat} {B : Nat} {σ : ST} {ar : Nat → Nat → Int32} {M : Mem}
theorem a_sites (hI : INV B σ) (h : WA g A0 σ ar M) (u : Int32) : con g mX5_sites 1 6 [.ref (A0 0 0), .int u] M (rO (o_sites σ u) (eX xIO xIO xIO) (WA g A0 σ ar)) := by
  obtain ⟨A, ρ, rc, hA, hW⟩ := h
  have k := c_X5_sites g hW hI.wf hI.cap hI.nd u
  rw [hA 0 0 (Or.inl ⟨rfl, rfl⟩)] at k
  have e : (o_sites σ u).2.2 = σ := by unfold o_sites; split <;> rfl
  exact k.mono (fun q M' h => h.imp (fun M' hW' => ⟨A, ρ, rc, hA, by rw [e] at hW'; exact hW'⟩))
theorem a_sound (hI : INV B σ) (h : WA g A0 σ ar M) (u : Int32) : con g mX5_sound 1 6 [.ref (A0 0 0), .int u] M (rO (o_sound σ u) (eX xIO xIO xIO) (WA g A0 σ ar)) := by
  obtain ⟨A, ρ, rc, hA, hW⟩ := h
  have k := c_X5_sound g hW hI.wf hI.cap hI.nd u
  rw [hA 0 0 (Or.inl ⟨rfl, rfl⟩)] at k
  have e : (o_sound σ u).2.2 = σ := by unfold o_sound; split <;> rfl
  exact k.mono (fun q M' h => h.imp (fun M' hW' => ⟨A, ρ, rc, hA, by rw [e] at hW'; exact hW'⟩))
theorem a_versions (hI : INV B σ) (h : WA g A0 σ ar M) (o : Int32) : con g mX5_versions 1 6 [.ref (A0 0 0), .int o] M (rO (o_versions σ o) (eX xIO xIO xIO) (WA g A0 σ ar)) := by
  obtain ⟨A, ρ, rc, hA, hW⟩ := h
  have k := c_X5_versions g hW hI.wf hI.cap o
  rw [hA 0 0 (Or.inl ⟨rfl, rfl⟩)] at k
  have e : (o_versions σ o).2.2 = σ := by unfold o_versions; split <;> rfl
  exact k.mono (fun q M' h => h.imp (fun M' hW' => ⟨A, ρ, rc, hA, by rw [e] at hW'; exact hW'⟩))
theorem a_unitOf (hI : INV B σ) (h : WA g A0 σ ar M) (o v : Int32) : con g mX5_unitOf 2 12 [.ref (A0 0 0), .int o, .int v] M (rO (o_unitOf σ o v) (eX xIO xIO xIO) (WA g A0 σ ar)) := by
  obtain ⟨A, ρ, rc, hA, hW⟩ := h
  have k := c_X5_unitOf g hW hI.wf hI.cap o v
  rw [hA 0 0 (Or.inl ⟨rfl, rfl⟩)] at k
  have e : (o_unitOf σ o v).2.2 = σ := by unfold o_unitOf; split <;> rfl
  exact k.mono (fun q M' h => h.imp (fun M' hW' => ⟨A, ρ, rc, hA, by rw [e] at hW'; exact hW'⟩))
theorem a_read (hI : INV B σ) (h : WA g A0 σ ar M) (o v : Int32) : con g mX5_read 3 18 [.ref (A0 0 0), .int o, .int v] M (rO (o_read σ o v) (eX xIO xIS xIS) (WA g A0 σ ar)) := by
  obtain ⟨A, ρ, rc, hA, hW⟩ := h
  have k := c_X5_read g hW hI.wf hI.cap o v
  rw [hA 0 0 (Or.inl ⟨rfl, rfl⟩)] at k
  have e : (o_read σ o v).2.2 = σ := by
    unfold o_read
    split
    · split <;> rfl
    · rfl
  exact k.mono (fun q M' h => h.imp (fun M' hW' => ⟨A, ρ, rc, hA, by rw [e] at hW'; exact hW'⟩))
theorem a_atRisk (hI : INV B σ) (h : WA g A0 σ ar M) (r : Int32) : con g mX5_atRisk 1 6 [.ref (A0 0 0), .int r] M (rO (o_atRisk σ r) (eX xIA xIA xIA) (WA g A0 σ ar)) := by
  obtain ⟨A, ρ, rc, hA, hW⟩ := h
  have k := c_X5_atRisk g hW hI.wf hI.cap hI.li.1 hI.fm r
  rw [hA 0 0 (Or.inl ⟨rfl, rfl⟩)] at k
  have e : (o_atRisk σ r).2.2 = σ := by unfold o_atRisk; split <;> rfl
  exact k.mono (fun q M' h => h.imp (fun M' hW' => ⟨A, ρ, rc, hA, by rw [e] at hW'; exact hW'⟩))
theorem a_bestWay (hI : INV B σ) (h : WA g A0 σ ar M) (a b : Int32) : con g mX5_bestWay 2 12 [.ref (A0 0 0), .int a, .int b] M (rO (o_bestWay σ a b) (eX xIO xIO xIO) (WA g A0 σ ar)) := by
  obtain ⟨A, ρ, rc, hA, hW⟩ := h
  have k := c_X5_bestWay g hW hI.li a b
  rw [hA 0 0 (Or.inl ⟨rfl, rfl⟩)] at k
  have e : (o_bestWay σ a b).2.2 = σ := by unfold o_bestWay; split <;> rfl
  refine k.mono (fun q M' h => h.imp (fun M' hW' => ?_))
  obtain ⟨f, hW'⟩ := hW'
  rw [e] at hW'
  exact ⟨A, ρ, f, hA, hW'⟩
theorem a_units (hI : INV B σ) (h : WA g A0 σ ar M) : con g mX5_units 0 0 [.ref (A0 0 0)] M (rQ (some (.int (nI (unn σ σ.un)))) (WA g A0 σ ar)) := by
  obtain ⟨A, ρ, rc, hA, hW⟩ := h
  have k := c_X5_units g hW hI.wf hI.cap hI.nd
  rw [hA 0 0 (Or.inl ⟨rfl, rfl⟩)] at k
  exact k.mono (fun q M' h => ⟨h.1, by rw [h.2]; exact ⟨A, ρ, rc, hA, hW⟩⟩)
theorem a_lacking (hI : INV B σ) (h : WA g A0 σ ar M) : con g mX5_lacking 0 0 [.ref (A0 0 0)] M (rQ (some (.int (nI (lkn σ σ.un)))) (WA g A0 σ ar)) := by
  obtain ⟨A, ρ, rc, hA, hW⟩ := h
  have k := c_X5_lacking g hW hI.wf hI.cap hI.nd (fun u _ => hI.sm.1 u)
  rw [hA 0 0 (Or.inl ⟨rfl, rfl⟩)] at k
  exact k.mono (fun q M' h => ⟨h.1, by rw [h.2]; exact ⟨A, ρ, rc, hA, hW⟩⟩)
theorem a_replicate (hI : INV B σ) (hB : B < 2147483648) (h : WA g A0 σ ar M) : con g mX5_replicate 0 0 [.ref (A0 0 0)] M (rQ (some (.int (nI (rpN σ σ.un)))) (WA g A0 (rpS σ σ.un) ar)) := by
  obtain ⟨A, ρ, rc, hA, hW⟩ := h
  have k := c_X5_replicate g hW hI.wf hI.cap hI.nd hI.ld hI.hb hB (fun u _ => hI.sm.1 u)
  rw [hA 0 0 (Or.inl ⟨rfl, rfl⟩)] at k
  exact k.mono (fun q M' h => ⟨h.1, A, ρ, rc, hA, h.2⟩)
theorem a_addFormat (hI : INV B σ) (h : WA g A0 σ ar M) (r : Int32) : con g mX5_addFormat 2 12 [.ref (A0 0 0), .int r] M (rO (o_addFormat σ r) (eX xIA xIS xIS) (MA g A0 B (o_addFormat σ r) ar)) := by
  obtain ⟨A, ρ, rc, hA, hW⟩ := h
  have k := k_addFormat g hI hW r
  rw [hA 0 0 (Or.inl ⟨rfl, rfl⟩)] at k
  exact k.mono (fun q M' h => h.imp (fun M' hW' => KQ_ma hA hW'))
theorem a_setRisk (hI : INV B σ) (h : WA g A0 σ ar M) (f r : Int32) : con g mX5_setRisk 2 12 [.ref (A0 0 0), .int f, .int r] M (rO (o_setRisk σ f r) (eX xIA xIO xIO) (MA g A0 B (o_setRisk σ f r) ar)) := by
  obtain ⟨A, ρ, rc, hA, hW⟩ := h
  have k := k_setRisk g hI hW f r
  rw [hA 0 0 (Or.inl ⟨rfl, rfl⟩)] at k
  exact k.mono (fun q M' h => h.imp (fun M' hW' => KQ_ma hA hW'))
theorem a_addConversion (hI : INV B σ) (h : WA g A0 σ ar M) (a b l : Int32) : con g mX5_addConversion 3 18 [.ref (A0 0 0), .int a, .int b, .int l] M (rO (o_addConversion σ a b l) (eX xIA xIO xIO) (MA g A0 B (o_addConversion σ a b l) ar)) := by
  obtain ⟨A, ρ, rc, hA, hW⟩ := h
  have k := k_addConversion g hI hW a b l
  rw [hA 0 0 (Or.inl ⟨rfl, rfl⟩)] at k
  exact k.mono (fun q M' h => h.imp (fun M' hW' => KQ_ma hA hW'))
theorem a_deposit (hI : INV B σ) (hB : 2000000 ≤ B ∧ B < 2147483648) (h : WA g A0 σ ar M) (f c k : Int32) : con g mX5_deposit 11 500 [.ref (A0 0 0), .int f, .int c, .int k] M (rO (o_deposit σ f c k) (eX xIA xIO xIS) (MA g A0 B (o_deposit σ f c k) ar)) := by
  obtain ⟨A, ρ, rc, hA, hW⟩ := h
  have k := k_deposit g hI hB hW f c k
  rw [hA 0 0 (Or.inl ⟨rfl, rfl⟩)] at k
  exact k.mono (fun q M' h => h.imp (fun M' hW' => KQ_ma hA hW'))
theorem a_revise (hI : INV B σ) (hB : 2000000 ≤ B ∧ B < 2147483648) (h : WA g A0 σ ar M) (o c : Int32) (d : Bool) : con g mX5_revise 9 339 [.ref (A0 0 0), .int o, .int c, .int (bI d)] M (rO (o_revise σ o c d) (eX xIA xIO xIS) (MA g A0 B (o_revise σ o c d) ar)) := by
  obtain ⟨A, ρ, rc, hA, hW⟩ := h
  have k := k_revise g hI hB hW o c d
  rw [hA 0 0 (Or.inl ⟨rfl, rfl⟩)] at k
  exact k.mono (fun q M' h => h.imp (fun M' hW' => KQ_ma hA hW'))
theorem a_convert (hI : INV B σ) (hB : 2000000 ≤ B ∧ B < 2147483648) (h : WA g A0 σ ar M) (o f : Int32) : con g mX5_convert 10 345 [.ref (A0 0 0), .int o, .int f] M (rO (o_convert σ o f) (eX xIO xIS xIS) (MA g A0 B (o_convert σ o f) ar)) := by
  obtain ⟨A, ρ, rc, hA, hW⟩ := h
  have k := k_convert g hI hB hW o f
  rw [hA 0 0 (Or.inl ⟨rfl, rfl⟩)] at k
  exact k.mono (fun q M' h => h.imp (fun M' hW' => KQ_ma hA hW'))
theorem a_purge (hI : INV B σ) (h : WA g A0 σ ar M) (o v : Int32) : con g mX5_purge 3 18 [.ref (A0 0 0), .int o, .int v] M (rO (o_purge σ o v) (eX xIO xIS xIS) (MA g A0 B (o_purge σ o v) ar)) := by
  obtain ⟨A, ρ, rc, hA, hW⟩ := h
  have k := k_purge g hI hW o v
  rw [hA 0 0 (Or.inl ⟨rfl, rfl⟩)] at k
  exact k.mono (fun q M' h => h.imp (fun M' hW' => KQ_ma hA hW'))
theorem a_damage (hI : INV B σ) (hB : B + 1000 < 2147483648) (h : WA g A0 σ ar M) (s u c : Int32) : con g mX5_damage 3 18 [.ref (A0 0 0), .int s, .int u, .int c] M (rO (o_damage σ s u c) (eX xIA xIO xIO) (MA g A0 B (o_damage σ s u c) ar)) := by
  obtain ⟨A, ρ, rc, hA, hW⟩ := h
  have k := k_damage g hI hB hW s u c
  rw [hA 0 0 (Or.inl ⟨rfl, rfl⟩)] at k
  exact k.mono (fun q M' h => h.imp (fun M' hW' => KQ_ma hA hW'))
theorem a_toggleSite (hI : INV B σ) (h : WA g A0 σ ar M) (s : Int32) : con g mX5_toggleSite 1 6 [.ref (A0 0 0), .int s] M (rO (o_toggleSite σ s) (eX xIA xIA xIA) (MA g A0 B (o_toggleSite σ s) ar)) := by
  obtain ⟨A, ρ, rc, hA, hW⟩ := h
  have k := k_toggleSite g hI hW s
  rw [hA 0 0 (Or.inl ⟨rfl, rfl⟩)] at k
  exact k.mono (fun q M' h => h.imp (fun M' hW' => KQ_ma hA hW'))
theorem a_audit (hI : INV B σ) (hB : B < 2147483648) (h : WA g A0 σ ar M) (n : Int32) : con g mX5_audit 1 6 [.ref (A0 0 0), .int n] M (rO (o_audit σ n) (eX xIA xIS xIS) (MA g A0 B (o_audit σ n) ar)) := by
  obtain ⟨A, ρ, rc, hA, hW⟩ := h
  have k := k_audit g hI hB hW n
  rw [hA 0 0 (Or.inl ⟨rfl, rfl⟩)] at k
  exact k.mono (fun q M' h => h.imp (fun M' hW' => KQ_ma hA hW'))
theorem a_auditW (hI : INV B σ) (hB : B < 2147483648) (h : WA g A0 σ ar M) (n : Int32) : con g mX5_audit 1 6 [.ref (A0 0 0), .int n] M (rO (o_audit σ n) (eX xIA xIS xIS) (WA g A0 (o_audit σ n).2.2 ar)) := by
  obtain ⟨A, ρ, rc, hA, hW⟩ := h
  have k := c_X5_audit g hW hI.wf hI.cap hI.ld hI.hb hB hI.sm.2.2 (fun u s hu => (hI.gh.1 u s hu).1) n
  rw [hA 0 0 (Or.inl ⟨rfl, rfl⟩)] at k
  exact k.mono (fun q M' h => h.imp (fun M' hW' => ⟨A, ρ, rc, hA, hW'⟩))
end WAC
