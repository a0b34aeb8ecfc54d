/-! what else holds between two calls: copies, sites, damage -/
def PI (σ : ST) (dm tg : Bool) : Prop := (∀ u, σ.a 5 u ≤ 3) ∧ (∀ o, o < σ.ob → 1 ≤ σ.a 0 o ∧ σ.a 0 o ≤ 3) ∧ (∀ u s, s < 4 → σ.b 4 s = true → σ.cp u s = false) ∧ (∀ u s, s < 4 → σ.b 1 u = false → σ.cp u s = false) ∧ (dm = false → ∀ u s, s < 4 → σ.cp u s = true → σ.hs u s = σ.i 2 u) ∧ (tg = false → (∀ s, s < 4 → σ.b 4 s = false) ∧ ∀ u, u < σ.un → σ.b 1 u = true → ∃ s, s < 4 ∧ σ.cp u s = true)
theorem PI_eq {σ τ : ST} {dm tg : Bool} (h : PI σ dm tg) (n1 : τ.ob = σ.ob) (n2 : τ.un = σ.un) (a0 : ∀ o, o < σ.ob → τ.a 0 o = σ.a 0 o) (a5 : ∀ u, τ.a 5 u = σ.a 5 u) (b1 : ∀ u, τ.b 1 u = σ.b 1 u) (b4 : ∀ s, τ.b 4 s = σ.b 4 s) (i2 : ∀ u, τ.i 2 u = σ.i 2 u) (hh : ∀ u s, τ.hs u s = σ.hs u s) (hc : ∀ u s, τ.cp u s = σ.cp u s) : PI τ dm tg := by
  obtain ⟨h1, h2, h3, h4, h5, h6⟩ := h
  refine ⟨fun u => ?_, fun o ho => ?_, fun u s hs hb => ?_, fun u s hs hb => ?_, fun hd u s hs hq => ?_, fun ht => ⟨fun s hs => ?_, fun u hu hb => ?_⟩⟩
  · rw [a5]
    exact h1 u
  · rw [n1] at ho
    rw [a0 o ho]
    exact h2 o ho
  · rw [b4] at hb
    rw [hc]
    exact h3 u s hs hb
  · rw [b1] at hb
    rw [hc]
    exact h4 u s hs hb
  · rw [hc] at hq
    rw [hh, i2]
    exact h5 hd u s hs hq
  · rw [b4]
    exact (h6 ht).1 s hs
  · rw [n2] at hu
    rw [b1] at hb
    obtain ⟨s, k1, k2⟩ := (h6 ht).2 u hu hb
    exact ⟨s, k1, by rw [hc]; exact k2⟩
theorem PI_sim {σ τ : ST} {dm tg : Bool} (h : PI σ dm tg) (hs : sim σ τ) : PI τ dm tg :=
  PI_eq h (congrFun hs.1 1).symm (congrFun hs.1 2).symm (fun o _ => congrFun (hs.2.1 0 (by decide)).symm o) (fun u => congrFun (hs.2.1 5 (by decide)).symm u) (fun u => congrArg (fun z => z.1 1 u) hs.2.2.2.symm) (fun u => congrArg (fun z => z.1 4 u) hs.2.2.2.symm) (fun u => congrFun (hs.2.2.1 2 (by decide)).symm u) (fun u s => congrArg (fun z => z.2.1 u s) hs.2.2.2.symm) (fun u s => congrArg (fun z => z.2.2.2 u s) hs.2.2.2.symm)
theorem PI_dm {σ : ST} {dm tg : Bool} (h : PI σ dm tg) : PI σ true tg := ⟨h.1, h.2.1, h.2.2.1, h.2.2.2.1, (fun q => by cases q), h.2.2.2.2.2⟩
theorem PI_tg {σ : ST} {dm tg : Bool} (h : PI σ dm tg) : PI σ dm true := ⟨h.1, h.2.1, h.2.2.1, h.2.2.2.1, h.2.2.2.2.1, fun q => by cases q⟩
theorem plc_ex {σ : ST} {u s : Nat} (h4 : σ.b 4 s = false) (hc : σ.cp u s = false) : ∀ n, s < n → ∃ f, plc σ u n = some f
  | 0, h => absurd h (Nat.not_lt_zero s)
  | n + 1, h => by
    rw [plc_s]
    by_cases hq : σ.b 4 n = false ∧ σ.cp u n = false ∧ pok σ n (plc σ u n) = true
    · exact ⟨n, if_pos hq⟩
    · rw [if_neg hq]
      by_cases hsn : s = n
      · cases hp : plc σ u n with
        | some f => exact ⟨f, rfl⟩
        | none => exact absurd ⟨by rw [← hsn]; exact h4, by rw [← hsn]; exact hc, by rw [hp]; rfl⟩ hq
      · exact plc_ex h4 hc n (by omega)
theorem plS_hs {σ : ST} {u s : Nat} {v : Int32} (k t : Nat) : (plS σ u s v).hs k t = if k = u ∧ t = s then v else σ.hs k t := rfl
/-- what placing does to the copies -/
theorem plcs_cp (u : Nat) (v : Int32) : ∀ (k : Nat) (σ : ST), (∀ t s, σ.cp t s = true → (plcs u v k σ).cp t s = true ∧ (plcs u v k σ).hs t s = σ.hs t s) ∧ (∀ t s, (plcs u v k σ).cp t s = true → σ.cp t s = false → t = u ∧ (s < 4 ∧ σ.b 4 s = false) ∧ (plcs u v k σ).hs t s = v)
  | 0, σ => ⟨fun t s h => ⟨h, rfl⟩, fun t s h1 h2 => by
      have h1 : σ.cp t s = true := h1
      rw [h2] at h1
      cases h1⟩
  | k + 1, σ => by
    cases hp : plc σ u 4 with
    | none =>
      rw [(plcs_none v hp (k + 1)).1]
      exact ⟨fun t s h => ⟨h, rfl⟩, fun t s h1 h2 => by rw [h2] at h1; cases h1⟩
    | some s0 =>
      rw [(plcs_some hp k).1]
      obtain ⟨a1, a2⟩ := plcs_cp u v k (plS σ u s0 v)
      obtain ⟨c1, c2⟩ := plc_some σ u 4 s0 hp
      have c3 := plc_lt σ u 4 s0 hp
      refine ⟨fun t s h => ?_, fun t s h1 h2 => ?_⟩
      · have hne : ¬ (t = u ∧ s = s0) := fun q => by
          rw [q.1, q.2, c1] at h
          cases h
        have e1 : (plS σ u s0 v).cp t s = true := by rw [plS_cp, if_neg hne]; exact h
        obtain ⟨b1, b2⟩ := a1 t s e1
        exact ⟨b1, b2.trans (by rw [plS_hs, if_neg hne])⟩
      · by_cases hq : t = u ∧ s = s0
        · have e1 : (plS σ u s0 v).cp t s = true := by rw [plS_cp, if_pos hq]
          obtain ⟨b1, b2⟩ := a1 t s e1
          exact ⟨hq.1, ⟨by rw [hq.2]; exact c3, by rw [hq.2]; exact c2⟩, b2.trans (by rw [plS_hs, if_pos hq])⟩
        · have e1 : (plS σ u s0 v).cp t s = false := by rw [plS_cp, if_neg hq]; exact h2
          exact a2 t s h1 e1
theorem PI_plcs {σ : ST} {dm tg : Bool} (h : PI σ dm tg) {u : Nat} {v : Int32} (hb : σ.b 1 u = true) (hv : dm = false → v = σ.i 2 u) (k : Nat) : PI (plcs u v k σ) dm tg := by
  obtain ⟨h1, h2, h3, h4, h5, h6⟩ := h
  obtain ⟨e1, e2, e3, e4, -⟩ := plcs_same u v k σ
  obtain ⟨c1, c2⟩ := plcs_cp u v k σ
  have n1 : (plcs u v k σ).ob = σ.ob := congrFun e1 1
  have n2 : (plcs u v k σ).un = σ.un := congrFun e1 2
  have a0 := e2 0 (by decide)
  have a5 := e2 5 (by decide)
  have b : ∀ i, (plcs u v k σ).b i = σ.b i := fun i => congrFun e4 i
  have i2 : (plcs u v k σ).i 2 = σ.i 2 := congrFun e3 2
  refine ⟨fun t => by rw [a5]; exact h1 t, fun o ho => by rw [n1] at ho; rw [a0]; exact h2 o ho, fun t s hs hq => ?_, fun t s hs hq => ?_, fun hd t s hs hq => ?_, fun ht => ⟨fun s hs => by rw [b]; exact (h6 ht).1 s hs, fun t hu hq => ?_⟩⟩
  · rw [b] at hq
    cases e : (plcs u v k σ).cp t s with
    | false => rfl
    | true =>
      have f := h3 t s hs hq
      have g := (c2 t s e f).2.1.2
      rw [hq] at g
      cases g
  · rw [b] at hq
    cases e : (plcs u v k σ).cp t s with
    | false => rfl
    | true =>
      have f := h4 t s hs hq
      have g := (c2 t s e f).1
      rw [g, hb] at hq
      cases hq
  · rw [i2]
    cases f : σ.cp t s with
    | true =>
      rw [(c1 t s f).2]
      exact h5 hd t s hs f
    | false =>
      obtain ⟨g1, -, g3⟩ := c2 t s hq f
      rw [g3, g1]
      exact hv hd
  · rw [n2] at hu
    rw [b] at hq
    obtain ⟨s, k1, k2⟩ := (h6 ht).2 t hu hq
    exact ⟨s, k1, (c1 t s k2).1⟩
theorem PI_plG {σ : ST} {dm tg : Bool} (h : PI σ dm tg) {u : Nat} (hb : σ.b 1 u = true) : PI (plG σ u) dm tg := by
  unfold plG
  cases hg : good σ u with
  | none => exact h
  | some s => exact PI_plcs h hb (fun hd => h.2.2.2.2.1 hd u s (good_lt 4 s hg) (good_cp 4 s hg)) _
theorem ufn_ok {σ : ST} {d : Bool} {v : Int32} : ∀ n f, ufn σ d v n = some f → σ.b 1 f = true ∧ σ.b 2 f = d ∧ σ.i 2 f = v
  | 0, f, h => by cases h
  | n + 1, f, h => by
    unfold ufn at h
    split at h
    · rename_i hq
      cases h
      exact hq
    · exact ufn_ok n f h
theorem PI_sa5 {σ : ST} {dm tg : Bool} (h : PI σ dm tg) (f : Nat) {w : Nat} (hw : w ≤ 3) : PI (σ.sa 5 f w) dm tg := ⟨fun u => by
  show f2 σ.2.1 5 f w 5 u ≤ 3
  by_cases hu : u = f
  · rw [hu, f2_s]
    exact hw
  · rw [f2_n (fun q => hu q.2)]
    exact h.1 u, h.2⟩
theorem plcs_one {σ : ST} {u s : Nat} {v : Int32} {k : Nat} (hs : s < 4) (h4 : σ.b 4 s = false) (hc : σ.cp u s = false) : ∃ t, t < 4 ∧ (plcs u v (k + 1) σ).cp u t = true := by
  obtain ⟨f, hp⟩ := plc_ex h4 hc 4 hs
  rw [(plcs_some hp k).1]
  exact ⟨f, plc_lt σ u 4 f hp, ((plcs_cp u v k (plS σ u f v)).1 u f (by rw [plS_cp, if_pos ⟨rfl, rfl⟩])).1⟩
theorem cpc_z {σ : ST} {u : Nat} (h : ∀ s, σ.cp u s = false) : ∀ n, cpc σ u n = 0
  | 0 => rfl
  | n + 1 => by
    unfold cpc
    rw [cpc_z h n, h n, if_neg (by decide)]
abbrev nuU (σ : ST) (d : Bool) (v : Int32) (W : Nat) : ST := ((((σ.sb 1 σ.un true).sb 2 σ.un d).si 2 σ.un v).sn 2 (σ.un + 1)).sa 5 σ.un W
theorem adP_some {σ : ST} {w : Nat} {d : Bool} {v : Int32} {f : Nat} (hu : ufn σ d v σ.un = some f) : adP σ w d v = plG (σ.sa 5 f (if w < σ.a 5 f then σ.a 5 f else w)) f := by
  unfold adP adS adU adF
  simp only [hu]
theorem adP_none {σ : ST} {w : Nat} {d : Bool} {v : Int32} (hu : ufn σ d v σ.un = none) : adP σ w d v = plK (nuU σ d v (if w < σ.a 5 σ.un then σ.a 5 σ.un else w)) σ.un v := by
  unfold adP adS adU adF
  simp only [hu]
  rfl
theorem PI_adP {σ : ST} {dm tg : Bool} (h : PI σ dm tg) (hz : ∀ s, σ.cp σ.un s = false) {w : Nat} (hw1 : 1 ≤ w) (hw3 : w ≤ 3) (d : Bool) (v : Int32) : PI (adP σ w d v) dm tg := by
  have hm : ∀ f, (if w < σ.a 5 f then σ.a 5 f else w) ≤ 3 := fun f => by
    split
    · exact h.1 f
    · exact hw3
  cases hu : ufn σ d v σ.un with
  | some f =>
    rw [adP_some hu]
    exact PI_plG (PI_sa5 h f (hm f)) (ufn_ok σ.un f hu).1
  | none =>
    rw [adP_none hu]
    generalize hW : (if w < σ.a 5 σ.un then σ.a 5 σ.un else w) = W
    have hW3 : W ≤ 3 := by
      have := hm σ.un
      omega
    have hW1 : 1 ≤ W := by
      rw [← hW]
      split <;> omega
    obtain ⟨h1, h2, h3, h4, h5, h6⟩ := h
    have eb : ∀ u, (nuU σ d v W).b 1 u = if u = σ.un then true else σ.b 1 u := fun u => by
      show f2 σ.2.2.2.1 1 σ.un true 1 u = _
      unfold f2
      by_cases hq : u = σ.un
      · rw [if_pos ⟨rfl, hq⟩, if_pos hq]
      · rw [if_neg (fun q => hq q.2), if_neg hq]
        rfl
    have ei : ∀ u, u ≠ σ.un → (nuU σ d v W).i 2 u = σ.i 2 u := fun u hq => f2_n (fun q => hq q.2)
    have ein : (nuU σ d v W).i 2 σ.un = v := f2_s
    have ea5 : (nuU σ d v W).a 5 σ.un = W := f2_s
    have P1 : PI (nuU σ d v W) dm true := by
      refine ⟨fun u => ?_, h2, h3, fun u s hs hq => ?_, fun hd u s hs hq => ?_, fun q => by cases q⟩
      · show f2 σ.2.1 5 σ.un W 5 u ≤ 3
        by_cases hq : u = σ.un
        · rw [hq, f2_s]
          exact hW3
        · rw [f2_n (fun q => hq q.2)]
          exact h1 u
      · rw [eb] at hq
        by_cases hq2 : u = σ.un
        · rw [if_pos hq2] at hq
          cases hq
        · rw [if_neg hq2] at hq
          exact h4 u s hs hq
      · have hq : σ.cp u s = true := hq
        have hne : u ≠ σ.un := fun e => by
          rw [e, hz] at hq
          cases hq
        rw [ei u hne]
        exact h5 hd u s hs hq
    have hcz : cpc (nuU σ d v W) σ.un 4 = 0 := cpc_z (σ := nuU σ d v W) hz 4
    obtain ⟨k, hk⟩ : ∃ k, (nuU σ d v W).a 5 σ.un - cpc (nuU σ d v W) σ.un 4 = k + 1 := ⟨W - 1, by rw [ea5, hcz]; omega⟩
    show PI (plcs σ.un v ((nuU σ d v W).a 5 σ.un - cpc (nuU σ d v W) σ.un 4) (nuU σ d v W)) dm tg
    rw [hk]
    have P2 := PI_plcs P1 (u := σ.un) (v := v) (by rw [eb, if_pos rfl]) (fun _ => ein.symm) (k + 1)
    obtain ⟨g1, g2, g3, g4, g5, -⟩ := P2
    obtain ⟨e1, e2, e3, e4, -⟩ := plcs_same σ.un v (k + 1) (nuU σ d v W)
    obtain ⟨c1, -⟩ := plcs_cp σ.un v (k + 1) (nuU σ d v W)
    refine ⟨g1, g2, g3, g4, g5, fun ht => ⟨fun s hs => ?_, fun u hu' hq => ?_⟩⟩
    · have e : (plcs σ.un v (k + 1) (nuU σ d v W)).b 4 s = (nuU σ d v W).b 4 s := congrFun (congrFun e4 4) s
      rw [e]
      exact (h6 ht).1 s hs
    · have e : (plcs σ.un v (k + 1) (nuU σ d v W)).b 1 u = (nuU σ d v W).b 1 u := congrFun (congrFun e4 1) u
      have en : (plcs σ.un v (k + 1) (nuU σ d v W)).un = σ.un + 1 := congrFun e1 2
      rw [e, eb] at hq
      by_cases hq2 : u = σ.un
      · rw [hq2]
        exact plcs_one (σ := nuU σ d v W) (s := 0) (by decide) ((h6 ht).1 0 (by decide)) (hz 0)
      · rw [if_neg hq2] at hq
        obtain ⟨s, k1, k2⟩ := (h6 ht).2 u (by omega) hq
        exact ⟨s, k1, (c1 u s k2).1⟩
theorem PI_adV {σ : ST} {dm tg : Bool} (h : PI σ dm tg) (o of f b : Nat) : PI (adV σ o of f b) dm tg := PI_eq h rfl rfl (fun _ _ => rfl) (fun _ => rfl) (fun _ => rfl) (fun _ => rfl) (fun _ => rfl) (fun _ _ => rfl) (fun _ _ => rfl)
theorem PI_adR {σ : ST} {dm tg : Bool} (h : PI σ dm tg) (hz : ∀ s, σ.cp σ.un s = false) {o : Nat} (hw1 : 1 ≤ σ.a 0 o) (hw3 : σ.a 0 o ≤ 3) (of b : Nat) (d : Bool) (v : Int32) : PI (adR σ o of b d v) dm tg := PI_adV (PI_adP h hz hw1 hw3 d v) o of _ b
theorem PI_dep {σ : ST} {dm tg : Bool} (h : PI σ dm tg) (hz : ∀ s, σ.cp σ.un s = false) {w : Nat} (hw1 : 1 ≤ w) (hw3 : w ≤ 3) (of b : Nat) (d : Bool) (v : Int32) : PI ((adR (σ.sa 0 σ.ob w) σ.ob of b d v).sn 1 (σ.ob + 1)) dm tg := by
  have h0 : PI (σ.sa 0 σ.ob w) dm tg := PI_eq h rfl rfl (fun o ho => f2_n (fun q => by have := q.2; omega)) (fun _ => rfl) (fun _ => rfl) (fun _ => rfl) (fun _ => rfl) (fun _ _ => rfl) (fun _ _ => rfl)
  have e0 : (σ.sa 0 σ.ob w).a 0 σ.ob = w := f2_s
  have h1 := PI_adR h0 hz (o := σ.ob) (by rw [e0]; exact hw1) (by rw [e0]; exact hw3) of b d v
  refine ⟨h1.1, fun o ho => ?_, h1.2.2.1, h1.2.2.2.1, h1.2.2.2.2.1, h1.2.2.2.2.2⟩
  have ho : o < σ.ob + 1 := by
    have e : ((adR (σ.sa 0 σ.ob w) σ.ob of b d v).sn 1 (σ.ob + 1)).ob = σ.ob + 1 := by
      show f1 (adR (σ.sa 0 σ.ob w) σ.ob of b d v).1 1 (σ.ob + 1) 1 = σ.ob + 1
      exact f1_s
    rw [e] at ho
    exact ho
  have ea : ((adR (σ.sa 0 σ.ob w) σ.ob of b d v).sn 1 (σ.ob + 1)).a 0 o = (σ.sa 0 σ.ob w).a 0 o := congrFun (adP_a (σ.sa 0 σ.ob w) _ d v (k := 0) (by decide) (by decide)) o
  rw [ea]
  by_cases hq : o = σ.ob
  · rw [hq, e0]
    exact ⟨hw1, hw3⟩
  · have e : (σ.sa 0 σ.ob w).a 0 o = σ.a 0 o := f2_n (fun q => hq q.2)
    rw [e]
    exact h.2.1 o (by omega)
theorem PI_pgS {σ : ST} {dm tg : Bool} (h : PI σ dm tg) (n : Nat) : PI (pgS σ n) dm tg := by
  obtain ⟨h1, h2, h3, h4, h5, h6⟩ := h
  obtain ⟨e1, e2, e3, e4, e5, -⟩ := pgS_same σ n
  have n1 : (pgS σ n).ob = σ.ob := congrFun e1 1
  have n2 : (pgS σ n).un = σ.un := congrFun e1 2
  have a : ∀ i u, (pgS σ n).a i u = σ.a i u := fun i u => congrFun (congrFun e2 i) u
  have i2 : ∀ u, (pgS σ n).i 2 u = σ.i 2 u := fun u => congrFun (congrFun e3 2) u
  have b4 : ∀ s, (pgS σ n).b 4 s = σ.b 4 s := fun s => congrFun (e4 4 (by decide)) s
  have hh : ∀ u s, (pgS σ n).hs u s = σ.hs u s := fun u s => congrFun (congrFun e5 u) s
  have hc := pgS_cp σ n
  have hb := pgS_b σ n
  have hce : ∀ u s, (pgS σ n).cp u s = true → σ.cp u s = true := fun u s q => by
    rw [hc] at q
    split at q
    · cases q
    · exact q
  refine ⟨fun u => by rw [a]; exact h1 u, fun o ho => by rw [n1] at ho; rw [a]; exact h2 o ho, fun u s hs hq => ?_, fun u s hs hq => ?_, fun hd u s hs hq => ?_, fun ht => ⟨fun s hs => by rw [b4]; exact (h6 ht).1 s hs, fun u hu hq => ?_⟩⟩
  · rw [b4] at hq
    cases e : (pgS σ n).cp u s with
    | false => rfl
    | true =>
      have k := h3 u s hs hq
      rw [hce u s e] at k
      cases k
  · rw [hb] at hq
    rw [hc]
    cases e : σ.b 1 u with
    | false =>
      rw [if_neg (fun q => by cases q.1.2.1)]
      exact h4 u s hs e
    | true =>
      rw [e] at hq
      by_cases hl : u < n
      · rw [if_pos hl, Bool.true_and] at hq
        rw [if_pos ⟨⟨hl, rfl, hq⟩, hs⟩]
      · rw [if_neg hl] at hq
        cases hq
  · rw [hh, i2]
    exact h5 hd u s hs (hce u s hq)
  · rw [n2] at hu
    rw [hb] at hq
    have hq1 : σ.b 1 u = true ∧ (u < n → ndd σ u 100 = true) := by
      by_cases hl : u < n
      · rw [if_pos hl, Bool.and_eq_true] at hq
        exact ⟨hq.1, fun _ => hq.2⟩
      · rw [if_neg hl] at hq
        exact ⟨hq, fun q => absurd q hl⟩
    obtain ⟨s, k1, k2⟩ := (h6 ht).2 u hu hq1.1
    refine ⟨s, k1, ?_⟩
    rw [hc, if_neg (fun q => by rw [hq1.2 q.1.1] at q; cases q.1.2.2)]
    exact k2
theorem PI_tog {σ : ST} {dm tg : Bool} (h : PI σ dm tg) (hz : ∀ u s, σ.un ≤ u → σ.cp u s = false) (s0 : Nat) : PI (clS s0 σ.un (σ.sb 4 s0 (!σ.b 4 s0))) dm true := by
  obtain ⟨h1, h2, h3, h4, h5, h6⟩ := h
  generalize hS : σ.sb 4 s0 (!σ.b 4 s0) = S
  have en : S.1 = σ.1 := by rw [← hS]; rfl
  have ea : S.2.1 = σ.2.1 := by rw [← hS]; rfl
  have ei : S.2.2.1 = σ.2.2.1 := by rw [← hS]; rfl
  have ecp : S.cp = σ.cp := by rw [← hS]; rfl
  have ehs : S.hs = σ.hs := by rw [← hS]; rfl
  have eb1 : ∀ u, S.b 1 u = σ.b 1 u := fun u => by rw [← hS]; rfl
  have eb4 : ∀ t, t ≠ s0 → S.b 4 t = σ.b 4 t := fun t ht => by rw [← hS]; exact f2_n (fun q => ht q.2)
  obtain ⟨e1, e2, e3, e4, e5, -⟩ := clS_same s0 σ.un S
  have hc := clS_cp s0 S σ.un
  have b : ∀ i u, (clS s0 σ.un S).b i u = S.b i u := fun i u => congrFun (congrFun e4 i) u
  have a : ∀ i u, (clS s0 σ.un S).a i u = σ.a i u := fun i u => (congrFun (congrFun e2 i) u).trans (congrFun (congrFun ea i) u)
  have i2 : ∀ u, (clS s0 σ.un S).i 2 u = σ.i 2 u := fun u => (congrFun (congrFun e3 2) u).trans (congrFun (congrFun ei 2) u)
  have hh : ∀ u s, (clS s0 σ.un S).hs u s = σ.hs u s := fun u s => (congrFun (congrFun e5 u) s).trans (congrFun (congrFun ehs u) s)
  have n1 : (clS s0 σ.un S).ob = σ.ob := (congrFun e1 1).trans (congrFun en 1)
  have hce : ∀ u s, (clS s0 σ.un S).cp u s = true → σ.cp u s = true := fun u s q => by
    rw [hc, ecp] at q
    split at q
    · cases q
    · exact q
  have hcf : ∀ u s, σ.cp u s = false → (clS s0 σ.un S).cp u s = false := fun u s q => by
    cases e : (clS s0 σ.un S).cp u s with
    | false => rfl
    | true =>
      rw [hce u s e] at q
      cases q
  refine ⟨fun u => by rw [a]; exact h1 u, fun o ho => by rw [n1] at ho; rw [a]; exact h2 o ho, fun u s hs hq => ?_, fun u s hs hq => ?_, fun hd u s hs hq => ?_, fun q => by cases q⟩
  · rw [b] at hq
    by_cases hst : s = s0
    · by_cases hu : u < σ.un
      · rw [hc, if_pos ⟨hu, hst⟩]
      · exact hcf u s (hz u s (by omega))
    · rw [eb4 s hst] at hq
      exact hcf u s (h3 u s hs hq)
  · rw [b, eb1] at hq
    exact hcf u s (h4 u s hs hq)
  · rw [hh, i2]
    exact h5 hd u s hs (hce u s hq)
theorem PI_dam {σ : ST} {dm tg : Bool} (h : PI σ dm tg) (u s : Nat) (v : Int32) : PI (σ.sh u s v) true tg := ⟨h.1, h.2.1, h.2.2.1, h.2.2.2.1, (fun q => by cases q), h.2.2.2.2.2⟩
/-- one audit -/
theorem au1_PI {σ : ST} {dm tg : Bool} (h : PI σ dm tg) : PI (au1 σ) dm tg ∧ au1n σ ≤ 1 ∧ (dm = false → au1n σ = 0) := by
  have hn : ∀ y, PI (σ.sn 3 y) dm tg := fun y => PI_eq h rfl rfl (fun _ _ => rfl) (fun _ => rfl) (fun _ => rfl) (fun _ => rfl) (fun _ => rfl) (fun _ _ => rfl) (fun _ _ => rfl)
  unfold au1 au1n
  cases hm : nxt σ with
  | none => exact ⟨h, Nat.zero_le _, fun _ => rfl⟩
  | some m =>
    obtain ⟨hm4, hmc⟩ := nxf_some σ 400 0 m hm
    simp only []
    cases hg : good (σ.sn 3 (m + 1)) (m / 4) with
    | none => exact ⟨hn _, Nat.zero_le _, fun _ => rfl⟩
    | some f =>
      simp only []
      have hf4 := good_lt 4 f hg
      have hcf : σ.cp (m / 4) f = true := good_cp (σ := σ.sn 3 (m + 1)) 4 f hg
      by_cases hq : σ.hs (m / 4) (m % 4) = σ.hs (m / 4) f
      · rw [if_pos hq, if_pos hq]
        exact ⟨hn _, Nat.zero_le _, fun _ => rfl⟩
      · rw [if_neg hq, if_neg hq]
        cases dm with
        | true => exact ⟨PI_dam (hn (m + 1)) _ _ _, Nat.le_refl _, fun q => by cases q⟩
        | false => exact absurd ((h.2.2.2.2.1 rfl _ _ (Nat.mod_lt _ (by decide)) hmc).trans (h.2.2.2.2.1 rfl _ _ hf4 hcf).symm) hq
theorem auS_PI {dm tg : Bool} : ∀ (n : Nat) {σ : ST}, PI σ dm tg → PI (auS n σ) dm tg ∧ auN n σ ≤ n ∧ (dm = false → auN n σ = 0)
  | 0, _, h => ⟨h, Nat.le_refl _, fun _ => rfl⟩
  | n + 1, σ, h => by
    obtain ⟨k1, k2, k3⟩ := au1_PI h
    obtain ⟨l1, l2, l3⟩ := auS_PI n k1
    refine ⟨l1, ?_, fun hd => ?_⟩
    · show au1n σ + auN n (au1 σ) ≤ n + 1
      omega
    · show au1n σ + auN n (au1 σ) = 0
      rw [k3 hd, l3 hd]
theorem PI_rpS {σ : ST} {dm tg : Bool} (h : PI σ dm tg) : ∀ n, PI (rpS σ n) dm tg
  | 0 => h
  | n + 1 => by
    rw [rpS_s]
    by_cases hq : (rpS σ n).b 1 n = true
    · rw [if_pos hq]
      exact PI_plG (PI_rpS h n) hq
    · rw [if_neg hq]
      exact PI_rpS h n
