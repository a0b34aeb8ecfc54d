/-! the reference's calls, in one form; the script, the switch -/
section LAWR
variable {g : GG} {bk bn : Nat} {P : PO} {M : Mem} {pc : Nat} {ls : List (Nat × Value)} {st : List Value}
abbrev mL_law : MD := (yL_law, code, 7, some .boolean, [], 12, 400)
theorem z_sld {d : MD} {j : Nat} {i : Int32} (hd : decode d.cc pc = .ok (.iaload, 1)) (hi : i = nI j) (hj : j < g.L) (hn : g.L ≤ 2048) (kk : tri g d bk bn P M (pc + 1) ls (.int (g.xs j) :: st)) : tri g d bk bn P M pc ls (.int i :: .ref g.b :: st) := by
  intro p e R s m args below meth c H locs cells slots lsA hb hc hS hr hl
  subst hi
  have hG := hb.2.2.2.2.2.2
  have hX := hG.2.2.2.2.2.2
  have hcl : (nI j).toNatClampNeg = j := nI_clamp (by omega)
  refine va_sld hb.1.1 hb.1.2 hX.1 (Nat.lt_of_lt_of_le hX.2 hG.1.1) (Nat.not_le.mpr hX.2) hS (vp_in_nI hj (by omega)) hd ?_
  rw [hcl]
  exact kk p e R s m args below meth c H locs cells slots lsA hb hc hS hr hl
theorem z_slen {d : MD} (hd : decode d.cc pc = .ok (.arraylength, 1)) (kk : tri g d bk bn P M (pc + 1) ls (.int (nI g.L) :: st)) : tri g d bk bn P M pc ls (.ref g.b :: st) := by
  intro p e R s m args below meth c H locs cells slots lsA hb hc hS hr hl
  have hG := hb.2.2.2.2.2.2
  have hX := hG.2.2.2.2.2.2
  exact va_slen hb.1.1 hb.1.2 hX.1 (Nat.lt_of_lt_of_le hX.2 hG.1.1) (Nat.not_le.mpr hX.2) hS hd (kk p e R s m args below meth c H locs cells slots lsA hb hc hS hr hl)
theorem z_tsIn {d : MD} {dflt lo hi : Int} {offs : Array Int} {len : Nat} {x : Int32} {off : Int} {tgt : Nat} (hd : decode d.cc pc = .ok (.tableswitch dflt lo hi offs, len)) (h1 : ¬ x.toInt < lo) (h2 : ¬ hi < x.toInt) (ho : offs[(x.toInt - lo).toNat]? = some off) (ht : (pc : Int) + off = (tgt : Int)) (kk : tri g d bk bn P M tgt ls st) : tri g d bk bn P M pc ls (.int x :: st) := by
  intro p e R s m args below meth c H locs cells slots lsA hb hc hS hr hl
  exact lv_tableIn hb.1.1 hb.1.2 hd h1 h2 ho ht (kk p e R s m args below meth c H locs cells slots lsA hb hc hS hr hl)
theorem z_tsOut {d : MD} {dflt lo hi : Int} {offs : Array Int} {len : Nat} {x : Int32} {tgt : Nat} (hd : decode d.cc pc = .ok (.tableswitch dflt lo hi offs, len)) (h : x.toInt < lo ∨ hi < x.toInt) (ht : (pc : Int) + dflt = (tgt : Int)) (kk : tri g d bk bn P M tgt ls st) : tri g d bk bn P M pc ls (.int x :: st) := by
  intro p e R s m args below meth c H locs cells slots lsA hb hc hS hr hl
  exact lv_tableOut hb.1.1 hb.1.2 hd h ht (kk p e R s m args below meth c H locs cells slots lsA hb hc hS hr hl)
end LAWR
theorem lg_self (x : Int64) : lg_cmp x x = 0 := by
  unfold lg_cmp
  rw [if_neg (fun h => by have := Int64.lt_iff_toInt_lt.mp h; omega), if_pos rfl]
theorem nz0 {n : Nat} (hn : n ≤ 3) (h : nI n = 0) : n = 0 := (nI_eq (a := n) (b := 0) (by omega) (by decide)).mp h
/-- behind a call of the reference -/
def MO_ (g : GG) (A : Nat → Nat → Nat) (σ : ST) (x : XT) (o : OP) (N : (Nat → Int32) → Nat → Int32) : Mem → Prop := fun M' => ∃ x2, W2 g A σ o.2.2 x2 M' ∧ x2.thr = nI o.1 ∧ x2.out = x.out ∧ x2.rb = N x.rb
section MOPS
variable (g : GG) {A : Nat → Nat → Nat} {B : Nat} {σ ρ : ST} {x : XT} {M : Mem}
theorem m_addFormat (hI : INV B ρ) (hb : rbk ρ x.rb) (hW : W2 g A σ ρ x M) (p0 : Int32) : con g mX6_addFormat 0 0 [.ref (A 20 0), .int p0] M (rQ (some (.int (o_addFormat ρ p0).2.1)) (MO_ g A σ x (o_addFormat ρ p0) NN)) := by
  refine (c_X6_addFormat g hW hI.li.1 p0).mono (fun r M' h => ⟨h.1, ?_⟩)
  have h := h.2
  exact ⟨_, h, rfl, rfl, rfl⟩
theorem m_setRisk (hI : INV B ρ) (hb : rbk ρ x.rb) (hW : W2 g A σ ρ x M) (p0 : Int32) (p1 : Int32) : con g mX6_setRisk 0 0 [.ref (A 20 0), .int p0, .int p1] M (rQ (some (.int (o_setRisk ρ p0 p1).2.1)) (MO_ g A σ x (o_setRisk ρ p0 p1) NN)) := by
  refine (c_X6_setRisk g hW hI.li.1 p0 p1).mono (fun r M' h => ⟨h.1, ?_⟩)
  have h := h.2
  exact ⟨_, h, rfl, rfl, rfl⟩
theorem m_addConversion (hI : INV B ρ) (hb : rbk ρ x.rb) (hW : W2 g A σ ρ x M) (p0 : Int32) (p1 : Int32) (p2 : Int32) : con g mX6_addConversion 0 0 [.ref (A 20 0), .int p0, .int p1, .int p2] M (rQ (some (.int (o_addConversion ρ p0 p1 p2).2.1)) (MO_ g A σ x (o_addConversion ρ p0 p1 p2) NN)) := by
  refine (c_X6_addConversion g hW hI.li.1 p0 p1 p2).mono (fun r M' h => ⟨h.1, ?_⟩)
  have h := h.2
  obtain ⟨f, h⟩ := h
  exact ⟨_, h, rfl, rfl, rfl⟩
theorem m_bestWay (hI : INV B ρ) (hb : rbk ρ x.rb) (hW : W2 g A σ ρ x M) (p0 : Int32) (p1 : Int32) : con g mX6_bestWay 0 0 [.ref (A 20 0), .int p0, .int p1] M (rQ (some (.int (o_bestWay ρ p0 p1).2.1)) (MO_ g A σ x (o_bestWay ρ p0 p1) NN)) := by
  refine (c_X6_bestWay g hW hI.li.1 p0 p1).mono (fun r M' h => ⟨h.1, ?_⟩)
  have h := h.2
  obtain ⟨f, h⟩ := h
  exact ⟨_, h, rfl, rfl, rfl⟩
theorem m_deposit (hI : INV B ρ) (hb : rbk ρ x.rb) (hW : W2 g A σ ρ x M) (p0 : Int32) (p1 : Int32) (p2 : Int32) : con g mX6_deposit 0 0 [.ref (A 20 0), .int p0, .int p1, .int p2] M (rQ (some (.int (o_deposit ρ p0 p1 p2).2.1)) (MO_ g A σ x (o_deposit ρ p0 p1 p2) (ND0 (o_deposit ρ p0 p1 p2) ρ))) := by
  refine (c_X6_deposit g hW hI.ri p0 p1 p2).mono (fun r M' h => ⟨h.1, ?_⟩)
  have h := h.2
  obtain ⟨b, h1, h2, h⟩ := h
  refine ⟨_, h, rfl, rfl, ?_⟩
  show b = ND0 (o_deposit ρ p0 p1 p2) ρ x.rb
  unfold ND0
  by_cases hq : (o_deposit ρ p0 p1 p2).1 = 0
  · rw [if_pos hq]
    exact h1 hq
  · rw [if_neg hq]
    exact h2 hq
theorem m_revise (hI : INV B ρ) (hb : rbk ρ x.rb) (hW : W2 g A σ ρ x M) (p0 : Int32) (p1 : Int32) (p2 : Bool) : con g mX6_revise 0 0 [.ref (A 20 0), .int p0, .int p1, .int (bI p2)] M (rQ (some (.int (o_revise ρ p0 p1 p2).2.1)) (MO_ g A σ x (o_revise ρ p0 p1 p2) (NV (o_revise ρ p0 p1 p2) ρ (tN p0)))) := by
  refine (c_X6_revise g hW hI.ri hb p0 p1 p2).mono (fun r M' h => ⟨h.1, ?_⟩)
  have h := h.2
  obtain ⟨b, h1, h2, h⟩ := h
  refine ⟨_, h, rfl, rfl, ?_⟩
  show b = NV (o_revise ρ p0 p1 p2) ρ (tN p0) x.rb
  unfold NV
  by_cases hq : (o_revise ρ p0 p1 p2).1 = 0
  · rw [if_pos hq]
    exact h1 hq
  · rw [if_neg hq]
    exact h2 hq
theorem m_convert (hI : INV B ρ) (hb : rbk ρ x.rb) (hW : W2 g A σ ρ x M) (p0 : Int32) (p1 : Int32) : con g mX6_convert 0 0 [.ref (A 20 0), .int p0, .int p1] M (rQ (some (.int (o_convert ρ p0 p1).2.1)) (MO_ g A σ x (o_convert ρ p0 p1) (NV (o_convert ρ p0 p1) ρ (tN p0)))) := by
  refine (c_X6_convert g hW hI.ri hb p0 p1).mono (fun r M' h => ⟨h.1, ?_⟩)
  have h := h.2
  obtain ⟨b, s, h1, h2, h⟩ := h
  refine ⟨_, h, rfl, rfl, ?_⟩
  show b = NV (o_convert ρ p0 p1) ρ (tN p0) x.rb
  unfold NV
  by_cases hq : (o_convert ρ p0 p1).1 = 0
  · rw [if_pos hq]
    exact h1 hq
  · rw [if_neg hq]
    exact h2 hq
theorem m_purge (hI : INV B ρ) (hb : rbk ρ x.rb) (hW : W2 g A σ ρ x M) (p0 : Int32) (p1 : Int32) : con g mX6_purge 0 0 [.ref (A 20 0), .int p0, .int p1] M (rQ (some (.int (o_purge ρ p0 p1).2.1)) (MO_ g A σ x (o_purge ρ p0 p1) NN)) := by
  refine (c_X6_purge g hW hI.ri hb p0 p1).mono (fun r M' h => ⟨h.1, ?_⟩)
  have h := h.2
  exact ⟨_, h, rfl, rfl, rfl⟩
theorem m_versions (hI : INV B ρ) (hb : rbk ρ x.rb) (hW : W2 g A σ ρ x M) (p0 : Int32) : con g mX6_versions 0 0 [.ref (A 20 0), .int p0] M (rQ (some (.int (o_versions ρ p0).2.1)) (MO_ g A σ x (o_versions ρ p0) NN)) := by
  refine (c_X6_versions g hW hI.wf p0).mono (fun r M' h => ⟨h.1, ?_⟩)
  have h := h.2
  exact ⟨_, h, rfl, rfl, rfl⟩
theorem m_unitOf (hI : INV B ρ) (hb : rbk ρ x.rb) (hW : W2 g A σ ρ x M) (p0 : Int32) (p1 : Int32) : con g mX6_unitOf 0 0 [.ref (A 20 0), .int p0, .int p1] M (rQ (some (.int (o_unitOf ρ p0 p1).2.1)) (MO_ g A σ x (o_unitOf ρ p0 p1) NN)) := by
  refine (c_X6_unitOf g hW hI.wf p0 p1).mono (fun r M' h => ⟨h.1, ?_⟩)
  have h := h.2
  exact ⟨_, h, rfl, rfl, rfl⟩
theorem m_read (hI : INV B ρ) (hb : rbk ρ x.rb) (hW : W2 g A σ ρ x M) (p0 : Int32) (p1 : Int32) : con g mX6_read 0 0 [.ref (A 20 0), .int p0, .int p1] M (rQ (some (.int (o_read ρ p0 p1).2.1)) (MO_ g A σ x (o_read ρ p0 p1) NN)) := by
  refine (c_X6_read g hW hI.wf hb p0 p1).mono (fun r M' h => ⟨h.1, ?_⟩)
  have h := h.2
  exact ⟨_, h, rfl, rfl, rfl⟩
theorem m_atRisk (hI : INV B ρ) (hb : rbk ρ x.rb) (hW : W2 g A σ ρ x M) (p0 : Int32) : con g mX6_atRisk 0 0 [.ref (A 20 0), .int p0] M (rQ (some (.int (o_atRisk ρ p0).2.1)) (MO_ g A σ x (o_atRisk ρ p0) NN)) := by
  refine (c_X6_atRisk g hW hI.ri p0).mono (fun r M' h => ⟨h.1, ?_⟩)
  have h := h.2
  exact ⟨_, h, rfl, rfl, rfl⟩
theorem m_sites (hI : INV B ρ) (hb : rbk ρ x.rb) (hW : W2 g A σ ρ x M) (p0 : Int32) : con g mX6_sites 0 0 [.ref (A 20 0), .int p0] M (rQ (some (.int (o_sites ρ p0).2.1)) (MO_ g A σ x (o_sites ρ p0) NN)) := by
  refine (c_X6_sites g hW hI.wf p0).mono (fun r M' h => ⟨h.1, ?_⟩)
  have h := h.2
  exact ⟨_, h, rfl, rfl, rfl⟩
theorem m_sound (hI : INV B ρ) (hb : rbk ρ x.rb) (hW : W2 g A σ ρ x M) (p0 : Int32) : con g mX6_sound 0 0 [.ref (A 20 0), .int p0] M (rQ (some (.int (o_sound ρ p0).2.1)) (MO_ g A σ x (o_sound ρ p0) NN)) := by
  refine (c_X6_sound g hW hI.wf p0).mono (fun r M' h => ⟨h.1, ?_⟩)
  have h := h.2
  exact ⟨_, h, rfl, rfl, rfl⟩
theorem m_damage (hI : INV B ρ) (hb : rbk ρ x.rb) (hW : W2 g A σ ρ x M) (p0 : Int32) (p1 : Int32) (p2 : Int32) : con g mX6_damage 0 0 [.ref (A 20 0), .int p0, .int p1, .int p2] M (rQ (some (.int (o_damage ρ p0 p1 p2).2.1)) (MO_ g A σ x (o_damage ρ p0 p1 p2) NN)) := by
  refine (c_X6_damage g hW hI.wf p0 p1 p2).mono (fun r M' h => ⟨h.1, ?_⟩)
  have h := h.2
  exact ⟨_, h, rfl, rfl, rfl⟩
theorem m_toggleSite (hI : INV B ρ) (hb : rbk ρ x.rb) (hW : W2 g A σ ρ x M) (p0 : Int32) : con g mX6_toggleSite 0 0 [.ref (A 20 0), .int p0] M (rQ (some (.int (o_toggleSite ρ p0).2.1)) (MO_ g A σ x (o_toggleSite ρ p0) NN)) := by
  refine (c_X6_toggleSite g hW hI.wf p0).mono (fun r M' h => ⟨h.1, ?_⟩)
  have h := h.2
  exact ⟨_, h, rfl, rfl, rfl⟩
theorem m_audit (hI : INV B ρ) (hb : rbk ρ x.rb) (hW : W2 g A σ ρ x M) (p0 : Int32) : con g mX6_audit 0 0 [.ref (A 20 0), .int p0] M (rQ (some (.int (o_audit ρ p0).2.1)) (MO_ g A σ x (o_audit ρ p0) NN)) := by
  refine (c_X6_audit g hW hI.sm.2.2 p0).mono (fun r M' h => ⟨h.1, ?_⟩)
  have h := h.2
  exact ⟨_, h, rfl, rfl, rfl⟩
end MOPS
