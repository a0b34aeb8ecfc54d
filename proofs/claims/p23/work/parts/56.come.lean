/-! a version has come: what holds still -/
theorem plcs_off (u : Nat) (v : Int32) : ∀ (k : Nat) (σ : ST) {w : Nat}, w ≠ u → (plcs u v k σ).cp w = σ.cp w ∧ (plcs u v k σ).hs w = σ.hs w
  | 0, _, _, _ => ⟨rfl, rfl⟩
  | k + 1, σ, w, hw => by
    cases hp : plc σ u 4 with
    | none =>
      rw [(plcs_none v hp (k + 1)).1]
      exact ⟨rfl, rfl⟩
    | some s =>
      rw [(plcs_some hp k).1]
      obtain ⟨h1, h2⟩ := plcs_off u v k (plS σ u s v) hw
      exact ⟨h1.trans (f2_a hw), h2.trans (f2_a hw)⟩
theorem plG_off (σ : ST) (u : Nat) {w : Nat} (hw : w ≠ u) : (plG σ u).cp w = σ.cp w ∧ (plG σ u).hs w = σ.hs w := by
  unfold plG
  cases good σ u with
  | none => exact ⟨rfl, rfl⟩
  | some s => exact plcs_off u _ _ σ hw
theorem ufn_nx {σ : ST} {d : Bool} {v : Int32} : ∀ n, ufn σ d v n = none → ∀ u, u < n → ¬ (σ.b 1 u = true ∧ σ.b 2 u = d ∧ σ.i 2 u = v)
  | 0, _, u, hu => absurd hu (Nat.not_lt_zero u)
  | n + 1, h, u, hu => by
    unfold ufn at h
    by_cases hq : σ.b 1 n = true ∧ σ.b 2 n = d ∧ σ.i 2 n = v
    · rw [if_pos hq] at h
      cases h
    · rw [if_neg hq] at h
      by_cases hun : u = n
      · rw [hun]
        exact hq
      · exact ufn_nx n h u (by omega)
section OBF
variable {σ : ST} {w : Nat} {d : Bool} {v : Int32} {cap : Nat}
theorem obS_n (hu : ufn σ d v σ.un = none) : obS σ w d v cap = plK (nuS σ d v w cap) σ.un v := by unfold obS; rw [hu]
theorem obS_s {f : Nat} (hu : ufn σ d v σ.un = some f) : obS σ w d v cap = plG (σ.sa 5 f (if w < σ.a 5 f then σ.a 5 f else w)) f := by unfold obS; rw [hu]
theorem obS_un : (ufn σ d v σ.un = none ∧ (obS σ w d v cap).un = σ.un + 1 ∧ adF σ d v = σ.un) ∨ ∃ f, ufn σ d v σ.un = some f ∧ (obS σ w d v cap).un = σ.un ∧ adF σ d v = f := by
  cases hu : ufn σ d v σ.un with
  | none => exact Or.inl ⟨rfl, (obS_old σ w d v cap).2.2.2.2.2.2.1 hu⟩
  | some f =>
    refine Or.inr ⟨f, rfl, ?_, by unfold adF; rw [hu]⟩
    rw [obS_s hu]
    exact congrFun (plG_same _ _).1 2
theorem obS_a6 {u : Nat} (hl : u < σ.un) : (obS σ w d v cap).a 6 u = σ.a 6 u := by
  cases hu : ufn σ d v σ.un with
  | none =>
    rw [obS_n hu]
    refine (congrFun ((plcs_same _ _ _ _).2.1 6 (by decide)) u).trans ?_
    have : ¬ u = σ.un := by omega
    simp [nuS, ST.a, ST.sn, ST.sa, ST.sb, ST.si, f2, this]
  | some f =>
    rw [obS_s hu]
    exact (congrFun ((plG_same _ _).2.1 6 (by decide)) u).trans (show f2 σ.2.1 5 f (if w < σ.a 5 f then σ.a 5 f else w) 6 u = σ.2.1 6 u from f2_n (fun z => absurd z.1 (by decide)))
theorem obS_a6n (hu : ufn σ d v σ.un = none) : (obS σ w d v cap).a 6 σ.un = 0 := by
  rw [obS_n hu]
  refine (congrFun ((plcs_same _ _ _ _).2.1 6 (by decide)) σ.un).trans ?_
  simp [nuS, ST.a, ST.sn, ST.sa, ST.sb, ST.si, f2]
theorem obS_b1 {u : Nat} (hl : u < σ.un) : (obS σ w d v cap).b 1 u = σ.b 1 u := by
  cases hu : ufn σ d v σ.un with
  | none =>
    rw [obS_n hu]
    refine (congrFun (congrFun (plcs_same _ _ _ _).2.2.2.1 1) u).trans ?_
    have : ¬ u = σ.un := by omega
    simp [nuS, ST.b, ST.sn, ST.sa, ST.sb, ST.si, f2, this]
  | some f =>
    rw [obS_s hu]
    exact congrFun (congrFun (plG_same _ _).2.2.2.1 1) u
theorem obS_b1n (hu : ufn σ d v σ.un = none) : (obS σ w d v cap).b 1 σ.un = true := by
  rw [obS_n hu]
  refine (congrFun (congrFun (plcs_same _ _ _ _).2.2.2.1 1) σ.un).trans ?_
  simp [nuS, ST.b, ST.sn, ST.sa, ST.sb, ST.si, f2]
theorem obS_i2 {u : Nat} (hl : u < σ.un) : (obS σ w d v cap).i 2 u = σ.i 2 u := by
  cases hu : ufn σ d v σ.un with
  | none =>
    rw [obS_n hu]
    refine (congrFun (congrFun (plcs_same _ _ _ _).2.2.1 2) u).trans ?_
    have : ¬ u = σ.un := by omega
    simp [nuS, ST.i, ST.sn, ST.sa, ST.sb, ST.si, f2, this]
  | some f =>
    rw [obS_s hu]
    exact congrFun (congrFun (plG_same _ _).2.2.1 2) u
theorem obS_i2f : (obS σ w d v cap).i 2 (adF σ d v) = v := by
  cases hu : ufn σ d v σ.un with
  | none =>
    rw [obS_n hu, show adF σ d v = σ.un by unfold adF; rw [hu]]
    refine (congrFun (congrFun (plcs_same _ _ _ _).2.2.1 2) σ.un).trans ?_
    simp [nuS, ST.sn, ST.sa, ST.sb, ST.si, f2]
  | some f =>
    rw [obS_s hu, show adF σ d v = f by unfold adF; rw [hu]]
    exact (congrFun (congrFun (plG_same _ _).2.2.1 2) f).trans (ufn_alk σ d v σ.un f hu).2.2
theorem obS_a5 (h : ∀ u, σ.a 5 u < 2 ^ 30) (hw : w < 2 ^ 30) (u : Nat) : (obS σ w d v cap).a 5 u < 2 ^ 30 := by
  cases hu : ufn σ d v σ.un with
  | none =>
    rw [obS_n hu]
    have e : (plK (nuS σ d v w cap) σ.un v).a 5 u = (nuS σ d v w cap).a 5 u := congrFun ((plcs_same _ _ _ _).2.1 5 (by decide)) u
    have e2 : (nuS σ d v w cap).a 5 u = if u = σ.un then w else σ.a 5 u := by simp [nuS, ST.a, ST.sn, ST.sa, ST.sb, ST.si, f2]
    rw [e, e2]
    split
    · exact hw
    · exact h u
  | some f =>
    rw [obS_s hu]
    have e : (plG (σ.sa 5 f (if w < σ.a 5 f then σ.a 5 f else w)) f).a 5 u = (σ.sa 5 f (if w < σ.a 5 f then σ.a 5 f else w)).a 5 u := congrFun ((plG_same _ _).2.1 5 (by decide)) u
    rw [e]
    show f2 σ.2.1 5 f _ 5 u < _
    by_cases hq : u = f
    · rw [hq, f2_s]
      split
      · exact h f
      · exact hw
    · rw [f2_n (fun z => hq z.2)]
      exact h u
theorem obS_a5z (h : ∀ u, σ.un ≤ u → σ.a 5 u = 0) (u : Nat) (hl : (obS σ w d v cap).un ≤ u) : (obS σ w d v cap).a 5 u = 0 := by
  rcases obS_un (σ := σ) (w := w) (d := d) (v := v) (cap := cap) with ⟨hu, eu, -⟩ | ⟨f, hu, eu, -⟩
  · rw [eu] at hl
    rw [obS_n hu]
    have e : (plK (nuS σ d v w cap) σ.un v).a 5 u = (nuS σ d v w cap).a 5 u := congrFun ((plcs_same _ _ _ _).2.1 5 (by decide)) u
    have e2 : (nuS σ d v w cap).a 5 u = if u = σ.un then w else σ.a 5 u := by simp [nuS, ST.a, ST.sn, ST.sa, ST.sb, ST.si, f2]
    rw [e, e2, if_neg (by omega)]
    exact h u (by omega)
  · rw [eu] at hl
    have hf := ufn_lt σ d v σ.un f hu
    rw [obS_s hu]
    have e : (plG (σ.sa 5 f (if w < σ.a 5 f then σ.a 5 f else w)) f).a 5 u = (σ.sa 5 f (if w < σ.a 5 f then σ.a 5 f else w)).a 5 u := congrFun ((plG_same _ _).2.1 5 (by decide)) u
    rw [e]
    show f2 σ.2.1 5 f _ 5 u = 0
    rw [f2_n (fun z => by have := z.2; omega)]
    exact h u hl
theorem obS_off (h : ∀ u s, σ.un ≤ u → σ.cp u s = false ∧ σ.hs u s = 0) (u s : Nat) (hl : (obS σ w d v cap).un ≤ u) : (obS σ w d v cap).cp u s = false ∧ (obS σ w d v cap).hs u s = 0 := by
  rcases obS_un (σ := σ) (w := w) (d := d) (v := v) (cap := cap) with ⟨hu, eu, -⟩ | ⟨f, hu, eu, -⟩
  · rw [eu] at hl
    rw [obS_n hu]
    obtain ⟨h1, h2⟩ := plcs_off σ.un v ((nuS σ d v w cap).a 5 σ.un - cpc (nuS σ d v w cap) σ.un 4) (nuS σ d v w cap) (w := u) (by omega)
    have h3 := h u s (by omega)
    exact ⟨(congrFun h1 s).trans h3.1, (congrFun h2 s).trans h3.2⟩
  · rw [eu] at hl
    have hf := ufn_lt σ d v σ.un f hu
    rw [obS_s hu]
    obtain ⟨h1, h2⟩ := plG_off (σ.sa 5 f (if w < σ.a 5 f then σ.a 5 f else w)) f (w := u) (by omega)
    have h3 := h u s (by omega)
    exact ⟨(congrFun h1 s).trans h3.1, (congrFun h2 s).trans h3.2⟩
theorem obS_lo : (obS σ w d v cap).lo = σ.lo := by
  cases hu : ufn σ d v σ.un with
  | none =>
    rw [obS_n hu]
    exact (plcs_same _ _ _ _).2.2.2.2
  | some f =>
    rw [obS_s hu]
    exact (plG_same _ _).2.2.2.2
theorem obS_ld (h : LD σ) (hw : WF σ) (hun : σ.un < 100) : LD (obS σ w d v cap) := by
  cases hu : ufn σ d v σ.un with
  | none =>
    rw [obS_n hu]
    exact LD_plcs hun v _ (fun t ht => (h t ht).trans (ldn_cp (σ := σ) (τ := nuS σ d v w cap) 100 (fun _ _ => rfl)).symm)
  | some f =>
    have hf := ufn_lt σ d v σ.un f hu
    rw [obS_s hu]
    exact LD.plG (σ := σ.sa 5 f (if w < σ.a 5 f then σ.a 5 f else w)) (fun t ht => (h t ht).trans (ldn_cp (σ := σ) (τ := σ.sa 5 f (if w < σ.a 5 f then σ.a 5 f else w)) 100 (fun _ _ => rfl)).symm) (by omega)
theorem obS_hb {B : Nat} (h : HB B σ) (hv : -(B : Int) ≤ v.toInt ∧ v.toInt ≤ B) : HB B (obS σ w d v cap) := by
  cases hu : ufn σ d v σ.un with
  | none =>
    rw [obS_n hu]
    exact HB.plcs hv σ.un _ (σ := nuS σ d v w cap) h
  | some f =>
    rw [obS_s hu]
    exact HB.plG (σ := σ.sa 5 f (if w < σ.a 5 f then σ.a 5 f else w)) h f
theorem obS_uq (hq : UQ σ) : UQ (obS σ w d v cap) := by
  rcases obS_un (σ := σ) (w := w) (d := d) (v := v) (cap := cap) with ⟨hu, eu, eF⟩ | ⟨f, hu, eu, -⟩
  · have k2 := (obS_old σ w d v cap).2.2.2.2.1
    have k8 := (obS_old σ w d v cap).2.2.2.2.2.2.2
    have ki := obS_i2f (σ := σ) (w := w) (d := d) (v := v) (cap := cap)
    rw [eF] at k8 ki
    have hx : ∀ t, t < σ.un → (obS σ w d v cap).b 1 t = true → (obS σ w d v cap).b 2 t = d → (obS σ w d v cap).i 2 t = v → False := fun t ht h1 h2 h3 => by
      rw [obS_b1 ht] at h1
      rw [k2 t ht] at h2
      rw [obS_i2 ht] at h3
      exact ufn_nx σ.un hu t ht ⟨h1, h2, h3⟩
    intro a b ha hb h1 h2 h3 h4
    rw [eu] at ha hb
    by_cases qa : a = σ.un
    · by_cases qb : b = σ.un
      · rw [qa, qb]
      · rw [qa, k8] at h3
        rw [qa, ki] at h4
        exact (hx b (by omega) h2 h3.symm h4.symm).elim
    · by_cases qb : b = σ.un
      · rw [qb, k8] at h3
        rw [qb, ki] at h4
        exact (hx a (by omega) h1 h3 h4).elim
      · rw [obS_b1 (by omega)] at h1 h2
        rw [k2 a (by omega), k2 b (by omega)] at h3
        rw [obS_i2 (by omega), obS_i2 (by omega)] at h4
        exact hq a b (by omega) (by omega) h1 h2 h3 h4
  · have k2 := (obS_old σ w d v cap).2.2.2.2.1
    intro a b ha hb h1 h2 h3 h4
    rw [eu] at ha hb
    rw [obS_b1 (by omega)] at h1 h2
    rw [k2 a ha, k2 b hb] at h3
    rw [obS_i2 (by omega), obS_i2 (by omega)] at h4
    exact hq a b ha hb h1 h2 h3 h4
end OBF
theorem LI.eq {σ τ : ST} (h : LI σ) (e0 : τ.fo = σ.fo) (el : τ.lo = σ.lo) : LI τ := by
  unfold LI at h ⊢
  rw [e0, el]
  exact h
theorem UQ.eq {σ τ : ST} (h : UQ σ) (eu : τ.un = σ.un) (h1 : τ.b 1 = σ.b 1) (h2 : τ.b 2 = σ.b 2) (h3 : τ.i 2 = σ.i 2) : UQ τ := by
  unfold UQ at h ⊢
  rw [eu, h1, h2, h3]
  exact h
theorem LD.eq {σ τ : ST} (h : LD σ) (h7 : τ.a 7 = σ.a 7) (hc : τ.cp = σ.cp) : LD τ := fun s hs => by
  rw [h7, h s hs]
  exact (ldn_cp (σ := σ) (τ := τ) 100 (fun _ _ => by rw [hc])).symm
theorem HB.eq {B : Nat} {σ τ : ST} (h : HB B σ) (hh : τ.hs = σ.hs) (hc : τ.cp = σ.cp) : HB B τ := fun u s hq => by
  rw [hh]
  exact h u s (by rw [← hc]; exact hq)
theorem cnL_0 {σ : ST} {u : Nat} : ∀ l, (∀ w, w ∈ l → σ.a 3 w ≠ u) → cnL σ u l = 0
  | [], _ => rfl
  | w :: l, h => by
    rw [cnL_c, cnL_0 l (fun w' h' => h w' (List.mem_cons_of_mem _ h')), if_neg (h w List.mem_cons_self)]
theorem hadT_one {σ τ : ST} {o : Nat} (e1 : ∀ j, τ.a 1 j = if j = o then σ.a 1 o + 1 else σ.a 1 j) : ∀ n, hadT τ n = hadT σ n + (if o < n then 1 else 0)
  | 0 => by
    rw [if_neg (Nat.not_lt_zero o)]
    rfl
  | n + 1 => by
    unfold hadT
    rw [hadT_one e1 n, e1]
    by_cases hv : n = o
    · rw [hv, if_pos rfl, if_neg (Nat.lt_irrefl _), if_pos (Nat.lt_succ_self _)]
      omega
    · rw [if_neg hv]
      by_cases hl : o < n
      · rw [if_pos hl, if_pos (by omega)]
        omega
      · rw [if_neg hl, if_neg (by omega)]
        omega
/-- a row that says where the differences stand on -/
def rbk (σ : ST) (rb : Nat → Int32) : Prop := ∀ v, vok σ v → σ.b 2 (σ.a 3 v) = true → rb v = nI (σ.a 4 v)
theorem INV.come {B : Nat} {σ τ : ST} (h : INV B σ) (hB : 2000000 ≤ B) {w : Nat} {d : Bool} {val c : Int32} {cap o fm f b v0 : Nat} {l : List Nat} (hw30 : w < 2 ^ 30) (hun : σ.un < 100) (h10 : σ.a 1 o < 10) (ev : v0 = 10 * o + σ.a 1 o) (ef : f = adF σ d val)
    (ho : (o < σ.ob ∧ τ.ob = σ.ob) ∨ (o = σ.ob ∧ τ.ob = σ.ob + 1 ∧ σ.ob < 10)) (hfm : fm < σ.fo) (hc : -999999 ≤ c.toInt ∧ c.toInt ≤ 999999) (hval : -(B : Int) ≤ val.toInt ∧ val.toInt ≤ B)
    (hd : (d = true ∧ vok σ b ∧ b / 10 = o ∧ σ.b 0 b = true ∧ val = c - σ.i 4 b ∧ l = chL σ b) ∨ (d = false ∧ val = c ∧ l = []))
    (en : ∀ i, i ≠ 1 → τ.n i = (obS σ w d val cap).n i) (e0 : ∀ j, τ.a 0 j < 2 ^ 30) (e1 : ∀ j, τ.a 1 j = if j = o then σ.a 1 o + 1 else σ.a 1 j) (e2 : ∀ j, τ.a 2 j = if j = v0 then fm else σ.a 2 j) (e3 : ∀ j, τ.a 3 j = if j = v0 then f else σ.a 3 j) (e4 : ∀ j, τ.a 4 j = if j = v0 then b else σ.a 4 j)
    (e5 : τ.a 5 = (obS σ w d val cap).a 5) (e6 : ∀ u, τ.a 6 u = (obS σ w d val cap).a 6 u + (if f = u then 1 else 0) + cnL σ u l) (e7 : τ.a 7 = (obS σ w d val cap).a 7) (hcap : CAP τ) (i2 : τ.i 2 = (obS σ w d val cap).i 2) (i4 : ∀ j, τ.i 4 j = if j = v0 then c else σ.i 4 j)
    (b0 : ∀ j, τ.b 0 j = if j = v0 then true else σ.b 0 j) (b1 : τ.b 1 = (obS σ w d val cap).b 1) (b2 : τ.b 2 = (obS σ w d val cap).b 2) (eh : τ.hs = (obS σ w d val cap).hs) (el : τ.lo = (obS σ w d val cap).lo) (ec : τ.cp = (obS σ w d val cap).cp) : INV B τ ∧ ∀ (rb : Nat → Int32) (y : Int32), (d = true → y = nI b) → rbk σ rb → rbk τ (f1 rb v0 y) := by
  have hw := h.wf
  have hob := hw.1.1
  obtain ⟨g1, g2, g3, g4, g5, g6, g7, g8⟩ := h.gh
  obtain ⟨t1, t2, t3, t4, t5, t6, t7, t8⟩ := obS_old σ w d val cap
  have eun : τ.un = (obS σ w d val cap).un := en 2 (by decide)
  have hfS : f < (obS σ w d val cap).un := by rw [ef]; exact t3.2.2
  have hv0 : v0 / 10 = o ∧ v0 % 10 = σ.a 1 o := by omega
  have hoτ : o < τ.ob := by rcases ho with ⟨a1, a2⟩ | ⟨a1, a2, a3⟩ <;> omega
  have hob10 : τ.ob ≤ 10 := by rcases ho with ⟨a1, a2⟩ | ⟨a1, a2, a3⟩ <;> omega
  have hvk : ∀ v, vok τ v ↔ (vok σ v ∨ v = v0) := fun v => by
    unfold vok
    rw [e1]
    by_cases q : v / 10 = o
    · rw [if_pos q, q]
      rcases ho with ⟨a1, a2⟩ | ⟨a1, a2, a3⟩
      · omega
      · have := g8 o (by omega)
        omega
    · rw [if_neg q]
      rcases ho with ⟨a1, a2⟩ | ⟨a1, a2, a3⟩
      · omega
      · have : v ≠ v0 := fun e => q (by rw [e]; exact hv0.1)
        constructor
        · intro k
          exact Or.inl ⟨by omega, k.2⟩
        · intro k
          rcases k with k | k
          · exact ⟨by omega, k.2⟩
          · exact absurd k this
  have hnv : ¬ vok σ v0 := fun q => by
    have := q.2
    rw [hv0.1, hv0.2] at this
    omega
  have nv : ∀ v, vok σ v → v ≠ v0 := fun v hv e => hnv (by rw [← e]; exact hv)
  have hk0 : vok τ v0 := (hvk v0).mpr (Or.inr rfl)
  have a3o : ∀ v, vok σ v → τ.a 3 v = σ.a 3 v := fun v hv => by rw [e3, if_neg (nv v hv)]
  have a4o : ∀ v, vok σ v → τ.a 4 v = σ.a 4 v := fun v hv => by rw [e4, if_neg (nv v hv)]
  have b2o : ∀ u, u < σ.un → τ.b 2 u = σ.b 2 u := fun u hu => by rw [b2]; exact t5 u hu
  have i2o : ∀ u, u < σ.un → τ.i 2 u = σ.i 2 u := fun u hu => by rw [i2]; exact obS_i2 hu
  have chO : ∀ v, vok σ v → chL τ v = chL σ v := fun v hv => chL_at hw a3o a4o b2o hv
  have b2f : τ.b 2 f = d := by rw [b2, ef]; exact t8
  have i2f : τ.i 2 f = val := by rw [i2, ef]; exact obS_i2f
  have a3n : τ.a 3 v0 = f := by rw [e3, if_pos rfl]
  have a4n : τ.a 4 v0 = b := by rw [e4, if_pos rfl]
  have hwτ : WF τ := by
    refine ⟨⟨hob10, by rw [eun]; omega⟩, fun o' ho' => ?_, fun v hv => ?_, fun v hv => ?_⟩
    · rw [e1]
      by_cases q : o' = o
      · rw [if_pos q]
        omega
      · rw [if_neg q]
        exact hw.2.1 o' (by rcases ho with ⟨a1, a2⟩ | ⟨a1, a2, a3⟩ <;> omega)
    · rcases (hvk v).mp hv with hv | hv
      · obtain ⟨k1, k2⟩ := hw.2.2.1 v hv
        rw [a3o v hv, a4o v hv, b2o _ k1]
        exact ⟨by omega, k2⟩
      · rw [hv, a3n, a4n, b2f]
        refine ⟨by rw [eun]; exact hfS, fun hd' => ?_⟩
        rcases hd with ⟨-, k1, k2, -⟩ | ⟨k1, -⟩
        · have k3 := k1.2
          rw [k2] at k3
          omega
        · rw [k1] at hd'
          cases hd'
    · by_cases q : v = v0
      · rw [q]
        exact hk0
      · rw [b0, if_neg q] at hv
        exact (hvk v).mpr (Or.inl (hw.2.2.2 v hv))
  have hv100 : v0 < 100 := hwτ.lt hk0
  have chN : chL τ v0 = v0 :: l := by
    rcases hd with ⟨k0, k1, k2, k3, k4, k5⟩ | ⟨k0, k1, k2⟩
    · rw [chL_d hwτ hk0 (by rw [a3n, b2f]; exact k0), a4n, chO b k1, k5]
    · rw [chL_w (by rw [a3n, b2f]; exact k0), k2]
  have hlo : ∀ x, x ∈ l → vok σ x := fun x hx => by
    rcases hd with ⟨k0, k1, k2, k3, k4, k5⟩ | ⟨k0, k1, k2⟩
    · rw [k5] at hx
      exact chL_vok hw k1 hx
    · rw [k2] at hx
      cases hx
  have b0n : σ.b 0 v0 = false := Bool.eq_false_iff.mpr (fun q => hnv (hw.2.2.2 v0 q))
  have hX : ∀ u, ndt τ u v0 = ndt σ u v0 + (cnL σ u l + (if f = u then 1 else 0)) := fun u => by
    unfold ndt
    rw [b0, if_pos rfl, if_pos rfl, b0n, if_neg (by decide), chN, Nat.zero_add, cnL_c, a3n, cnL_at l (fun x hx => a3o x (hlo x hx))]
  have hO : ∀ u v, v ≠ v0 → ndt τ u v = ndt σ u v := fun u v hv => by
    unfold ndt
    rw [b0, if_neg hv]
    by_cases hb : σ.b 0 v = true
    · have hvv := hw.2.2.2 v hb
      rw [if_pos hb, if_pos hb, chO v hvv, cnL_at _ (fun x hx => a3o x (chL_vok hw hvv hx))]
    · rw [if_neg hb, if_neg hb]
  have hN : ∀ u, ndc τ u 100 = ndc σ u 100 + (cnL σ u l + (if f = u then 1 else 0)) := fun u => by
    rw [ndc_one (hX u) (hO u) 100, if_pos hv100]
  have hz : ∀ u, σ.un ≤ u → ndc σ u 100 = 0 := fun u hu => ndc_0 (fun v => by
    unfold ndt
    by_cases hb : σ.b 0 v = true
    · rw [if_pos hb]
      exact cnL_0 _ (fun x hx => by have := (hw.2.2.1 x (chL_vok hw (hw.2.2.2 v hb) hx)).1; omega)
    · rw [if_neg hb]) 100
  refine ⟨?_, fun rb y hy hrb v hv hd' => ?_⟩
  case refine_2 =>
    rcases (hvk v).mp hv with hv | hv
    · rw [a3o v hv, b2o _ (hw.2.2.1 v hv).1] at hd'
      rw [f1_n (nv v hv), a4o v hv]
      exact hrb v hv hd'
    · rw [hv, a3n, b2f] at hd'
      rw [hv, f1_s, a4n]
      exact hy hd'
  refine ⟨hwτ, h.li.eq ((en 0 (by decide)).trans (t1 0 (by decide))) (el.trans obS_lo), hcap, (obS_uq h.uq).eq eun b1 b2 i2, (obS_ld h.ld hw hun).eq e7 ec, (obS_hb h.hb hval).eq eh ec, fun o' ho' => ?_, fun v hv => ?_, ⟨fun u => ?_, e0, ?_⟩, fun u s hu => ?_, fun u hu => ?_, fun v hv => ?_, fun v hv => ?_, fun u hu => ?_, fun u hu => ?_, ?_, fun o' ho' => ?_⟩
  · by_cases q : o' = o
    · exact ⟨σ.a 1 o, h10, by rw [b0, q, if_pos ev.symm]⟩
    · obtain ⟨k, k1, k2⟩ := h.hv o' (by rcases ho with ⟨a1, a2⟩ | ⟨a1, a2, a3⟩ <;> omega)
      exact ⟨k, k1, by rw [b0, if_neg (by omega)]; exact k2⟩
  · rw [show τ.fo = σ.fo from (en 0 (by decide)).trans (t1 0 (by decide)), e2]
    by_cases q : v = v0
    · rw [if_pos q]
      exact hfm
    · rw [if_neg q]
      exact h.fm v (((hvk v).mp hv).resolve_right q)
  · rw [e5]
    exact obS_a5 h.sm.1 hw30 u
  · rw [show τ.la = σ.la from (en 3 (by decide)).trans (t1 3 (by decide))]
    exact h.sm.2.2
  · rw [ec, eh]
    exact obS_off g1 u s (by rw [← eun]; exact hu)
  · rw [e5]
    exact obS_a5z g2 u (by rw [← eun]; exact hu)
  · by_cases q : v = v0
    · rw [q, i4, if_pos rfl]
      unfold cont
      rw [chN]
      show c = isum (fun x => τ.i 2 (τ.a 3 x)) (0 + τ.i 2 (τ.a 3 v0)) l
      rw [a3n, i2f, Int32.add_comm, isum_add]
      rcases hd with ⟨k0, k1, k2, k3, k4, k5⟩ | ⟨k0, k1, k2⟩
      · have e9 : isum (fun x => τ.i 2 (τ.a 3 x)) 0 l = σ.i 4 b := by
          rw [k5, g3 b k1]
          refine isum_ext _ _ (fun x hx => ?_)
          have hxk := chL_vok hw k1 hx
          show τ.i 2 (τ.a 3 x) = σ.i 2 (σ.a 3 x)
          rw [a3o x hxk, i2o _ (hw.2.2.1 x hxk).1]
        rw [e9, k4, Int32.sub_add_cancel]
      · rw [k2, k1]
        exact (Int32.add_zero c).symm
    · have hv' := ((hvk v).mp hv).resolve_right q
      rw [i4, if_neg q, cont_at hw a3o a4o b2o i2o hv']
      exact g3 v hv'
  · rw [i4]
    by_cases q : v = v0
    · rw [if_pos q]
      exact hc
    · rw [if_neg q]
      exact g4 v (((hvk v).mp hv).resolve_right q)
  · rw [eun] at hu
    rw [e6, hN]
    have e9 : (obS σ w d val cap).a 6 u = ndc σ u 100 := by
      by_cases q : u < σ.un
      · rw [obS_a6 q]
        exact g5 u q
      · rcases obS_un (σ := σ) (w := w) (d := d) (v := val) (cap := cap) with ⟨k1, k2, k3⟩ | ⟨f', k1, k2, k3⟩
        · have hq : u = σ.un := by omega
          rw [hz u (by omega), hq]
          exact obS_a6n k1
        · omega
    rw [e9]
    omega
  · rw [eun] at hu
    rw [b1, hN]
    rcases obS_un (σ := σ) (w := w) (d := d) (v := val) (cap := cap) with ⟨k1, k2, k3⟩ | ⟨f', k1, k2, k3⟩
    · by_cases q : u < σ.un
      · have hfu : ¬ f = u := by rw [ef, k3]; omega
        rw [obS_b1 q, g6 u q, if_neg hfu, Nat.add_zero]
        refine decide_eq_decide.mpr ⟨fun z => by omega, fun z => ?_⟩
        by_cases hcn : cnL σ u l = 0
        · omega
        · rcases hd with ⟨m0, m1, m2, m3, m4, m5⟩ | ⟨m0, m1, m2⟩
          · have hge := ndc_ge σ u b 100 (hw.lt m1)
            unfold ndt at hge
            rw [if_pos m3, ← m5] at hge
            omega
          · rw [m2] at hcn
            exact absurd rfl hcn
      · have hq : u = σ.un := by omega
        have hfu : f = u := by rw [ef, k3, hq]
        rw [if_pos hfu, hq, obS_b1n k1]
        exact (decide_eq_true (by omega)).symm
    · rw [obS_b1 (by omega), g6 u (by omega)]
      refine decide_eq_decide.mpr ⟨fun z => by omega, fun z => ?_⟩
      by_cases hfu : f = u
      · have hb1 := (ufn_alk σ d val σ.un f' k1).1
        have e9 : f' = u := by rw [← hfu, ef, k3]
        rw [e9, g6 u (by omega)] at hb1
        exact of_decide_eq_true hb1
      · rw [if_neg hfu] at z
        by_cases hcn : cnL σ u l = 0
        · omega
        · rcases hd with ⟨m0, m1, m2, m3, m4, m5⟩ | ⟨m0, m1, m2⟩
          · have hge := ndc_ge σ u b 100 (hw.lt m1)
            unfold ndt at hge
            rw [if_pos m3, ← m5] at hge
            omega
          · rw [m2] at hcn
            exact absurd rfl hcn
  · rw [hadT_one e1, if_pos hoτ, eun]
    have e9 : hadT σ τ.ob = hadT σ σ.ob := by
      rcases ho with ⟨a1, a2⟩ | ⟨a1, a2, a3⟩
      · rw [a2]
      · rw [a2]
        show hadT σ σ.ob + σ.a 1 σ.ob = _
        rw [g8 _ (Nat.le_refl _), Nat.add_zero]
    omega
  · have : ¬ o' = o := by omega
    rw [e1, if_neg this]
    exact g8 o' (by rcases ho with ⟨a1, a2⟩ | ⟨a1, a2, a3⟩ <;> omega)
