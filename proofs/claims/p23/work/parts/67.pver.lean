/-! versions come and go: what the law asks of them -/
theorem latn_s (σ : ST) (o n : Nat) : latn σ o (n + 1) = if σ.b 0 (10 * o + n) = true then 10 * o + n else latn σ o n := rfl
theorem latn_is {σ : ST} {o k : Nat} (hk : σ.b 0 (10 * o + k) = true) : ∀ n, k < n → (∀ j, k < j → j < n → σ.b 0 (10 * o + j) = false) → latn σ o n = 10 * o + k
  | 0, h, _ => absurd h (Nat.not_lt_zero k)
  | n + 1, h, q => by
    rw [latn_s]
    by_cases hkn : k = n
    · rw [← hkn, if_pos hk]
    · rw [q n (by omega) (Nat.lt_succ_self n), if_neg (by decide)]
      exact latn_is hk n (by omega) (fun j h1 h2 => q j h1 (by omega))
theorem latn_eq {σ τ : ST} {o : Nat} : ∀ n, (∀ k, k < n → τ.b 0 (10 * o + k) = σ.b 0 (10 * o + k)) → latn τ o n = latn σ o n
  | 0, _ => rfl
  | n + 1, q => by
    rw [latn_s, latn_s, q n (Nat.lt_succ_self n), latn_eq n (fun k hk => q k (by omega))]
theorem adP_b (σ : ST) (w : Nat) (d : Bool) (v : Int32) {k : Nat} (h1 : k ≠ 1) (h2 : k ≠ 2) : (adP σ w d v).b k = σ.b k := by
  cases hu : ufn σ d v σ.un with
  | some f =>
    rw [adP_some hu]
    obtain ⟨-, -, -, e, -⟩ := plG_same (σ.sa 5 f (if w < σ.a 5 f then σ.a 5 f else w)) f
    exact congrFun e k
  | none =>
    rw [adP_none hu]
    generalize (if w < σ.a 5 σ.un then σ.a 5 σ.un else w) = W
    obtain ⟨-, -, -, e, -⟩ := plcs_same σ.un v ((nuU σ d v W).a 5 σ.un - cpc (nuU σ d v W) σ.un 4) (nuU σ d v W)
    refine (congrFun e k).trans ?_
    show f2 (f2 σ.2.2.2.1 1 σ.un true) 2 σ.un d k = _
    rw [f2_a h2, f2_a h1]
    rfl
theorem adP_lo (σ : ST) (w : Nat) (d : Bool) (v : Int32) : (adP σ w d v).lo = σ.lo := by
  cases hu : ufn σ d v σ.un with
  | some f =>
    rw [adP_some hu]
    exact (plG_same (σ.sa 5 f (if w < σ.a 5 f then σ.a 5 f else w)) f).2.2.2.2
  | none =>
    rw [adP_none hu]
    generalize (if w < σ.a 5 σ.un then σ.a 5 σ.un else w) = W
    exact (plcs_same σ.un v ((nuU σ d v W).a 5 σ.un - cpc (nuU σ d v W) σ.un 4) (nuU σ d v W)).2.2.2.2
/-- kinds and values of units: the old ones', the one that the version comes to have -/
theorem adP_u (σ : ST) (w : Nat) (d : Bool) (v : Int32) : (∀ u, u < σ.un → (adP σ w d v).b 2 u = σ.b 2 u ∧ (adP σ w d v).i 2 u = σ.i 2 u) ∧ (adP σ w d v).b 2 (adF σ d v) = d ∧ (adP σ w d v).i 2 (adF σ d v) = v := by
  cases hu : ufn σ d v σ.un with
  | some f =>
    rw [adP_some hu]
    obtain ⟨-, -, e3, e4, -⟩ := plG_same (σ.sa 5 f (if w < σ.a 5 f then σ.a 5 f else w)) f
    have eb : ∀ u, (plG (σ.sa 5 f (if w < σ.a 5 f then σ.a 5 f else w)) f).b 2 u = σ.b 2 u := fun u => congrFun (congrFun e4 2) u
    have ei : ∀ u, (plG (σ.sa 5 f (if w < σ.a 5 f then σ.a 5 f else w)) f).i 2 u = σ.i 2 u := fun u => congrFun (congrFun e3 2) u
    have hF : adF σ d v = f := by unfold adF; rw [hu]
    obtain ⟨-, k2, k3⟩ := ufn_ok σ.un f hu
    refine ⟨fun u _ => ⟨eb u, ei u⟩, ?_, ?_⟩
    · rw [hF, eb, k2]
    · rw [hF, ei, k3]
  | none =>
    rw [adP_none hu]
    generalize (if w < σ.a 5 σ.un then σ.a 5 σ.un else w) = W
    obtain ⟨-, -, e3, e4, -⟩ := plcs_same σ.un v ((nuU σ d v W).a 5 σ.un - cpc (nuU σ d v W) σ.un 4) (nuU σ d v W)
    have eb : ∀ u, (plK (nuU σ d v W) σ.un v).b 2 u = (nuU σ d v W).b 2 u := fun u => congrFun (congrFun e4 2) u
    have ei : ∀ u, (plK (nuU σ d v W) σ.un v).i 2 u = (nuU σ d v W).i 2 u := fun u => congrFun (congrFun e3 2) u
    have hF : adF σ d v = σ.un := by unfold adF; rw [hu]
    refine ⟨fun u hl => ⟨?_, ?_⟩, ?_, ?_⟩
    · rw [eb]
      exact f2_n (fun q => by have := q.2; omega)
    · rw [ei]
      exact f2_n (fun q => by have := q.2; omega)
    · rw [hF, eb]
      exact f2_s
    · rw [hF, ei]
      exact f2_s
/-- a version has come to object o (of n before), of format fm -/
def VC (σ τ : ST) (o n fm : Nat) : Prop := (τ.fo = σ.fo ∧ τ.lo = σ.lo ∧ (∀ f, τ.i 0 f = σ.i 0 f) ∧ ∀ s, τ.b 4 s = σ.b 4 s) ∧ (∀ k, τ.b 0 k = if k = 10 * o + n then true else σ.b 0 k) ∧ (∀ k, τ.a 2 k = if k = 10 * o + n then fm else σ.a 2 k) ∧ ∀ j, τ.a 1 j = if j = o then n + 1 else σ.a 1 j
/-- the rows of what makes a version -/
theorem adR_is {σ : ST} {o n : Nat} (hn : σ.a 1 o = n) (fm b : Nat) (d : Bool) (v : Int32) : VC σ (adR σ o fm b d v) o n fm ∧ (∀ k, (adR σ o fm b d v).a 3 k = if k = 10 * o + n then adF σ d v else σ.a 3 k) ∧ (∀ k, (adR σ o fm b d v).a 4 k = if k = 10 * o + n then b else σ.a 4 k) ∧ ((∀ u, u < σ.un → (adR σ o fm b d v).b 2 u = σ.b 2 u ∧ (adR σ o fm b d v).i 2 u = σ.i 2 u) ∧ (adR σ o fm b d v).b 2 (adF σ d v) = d ∧ (adR σ o fm b d v).i 2 (adF σ d v) = v) := by
  have ea : ∀ k, k ≠ 5 → k ≠ 7 → ∀ j, (adP σ (σ.a 0 o) d v).a k j = σ.a k j := fun k h5 h7 j => congrFun (adP_a σ (σ.a 0 o) d v h5 h7) j
  have eb : ∀ k, k ≠ 1 → k ≠ 2 → ∀ j, (adP σ (σ.a 0 o) d v).b k j = σ.b k j := fun k h1 h2 j => congrFun (adP_b σ (σ.a 0 o) d v h1 h2) j
  have e1 : (adP σ (σ.a 0 o) d v).a 1 o = n := (ea 1 (by decide) (by decide) o).trans hn
  have key : ∀ {α : Type} (f : Nat → Nat → α) (k0 p : Nat) (x : α) (q : Nat), f2 f k0 p x k0 q = if q = p then x else f k0 q := fun f k0 p x q => by
    unfold f2
    by_cases hq : q = p
    · rw [if_pos ⟨rfl, hq⟩, if_pos hq]
    · rw [if_neg (fun z => hq z.2), if_neg hq]
  refine ⟨⟨⟨adP_n σ _ d v 0 (by decide), adP_lo σ _ d v, fun f => congrFun (adP_i σ _ d v (k := 0) (by decide)) f, fun s => eb 4 (by decide) (by decide) s⟩, fun k => ?_, fun k => ?_, fun j => ?_⟩, fun k => ?_, fun k => ?_, adP_u σ _ d v⟩
  · have e : (adR σ o fm b d v).b 0 k = f2 (adP σ (σ.a 0 o) d v).2.2.2.1 0 (10 * o + (adP σ (σ.a 0 o) d v).a 1 o) true 0 k := rfl
    rw [e, key, e1]
    show (if k = 10 * o + n then true else (adP σ (σ.a 0 o) d v).b 0 k) = _
    rw [eb 0 (by decide) (by decide) k]
  · have e : (adR σ o fm b d v).a 2 k = f2 (adP σ (σ.a 0 o) d v).2.1 2 (10 * o + (adP σ (σ.a 0 o) d v).a 1 o) fm 2 k := rfl
    rw [e, key, e1]
    show (if k = 10 * o + n then fm else (adP σ (σ.a 0 o) d v).a 2 k) = _
    rw [ea 2 (by decide) (by decide) k]
  · have e : (adR σ o fm b d v).a 1 j = f2 (adP σ (σ.a 0 o) d v).2.1 1 o ((adP σ (σ.a 0 o) d v).a 1 o + 1) 1 j := rfl
    rw [e, key, e1]
    show (if j = o then n + 1 else (adP σ (σ.a 0 o) d v).a 1 j) = _
    rw [ea 1 (by decide) (by decide) j]
  · have e : (adR σ o fm b d v).a 3 k = f2 (adP σ (σ.a 0 o) d v).2.1 3 (10 * o + (adP σ (σ.a 0 o) d v).a 1 o) (adF σ d v) 3 k := rfl
    rw [e, key, e1]
    show (if k = 10 * o + n then adF σ d v else (adP σ (σ.a 0 o) d v).a 3 k) = _
    rw [ea 3 (by decide) (by decide) k]
  · have e : (adR σ o fm b d v).a 4 k = f2 (adP σ (σ.a 0 o) d v).2.1 4 (10 * o + (adP σ (σ.a 0 o) d v).a 1 o) b 4 k := rfl
    rw [e, key, e1]
    show (if k = 10 * o + n then b else (adP σ (σ.a 0 o) d v).a 4 k) = _
    rw [ea 4 (by decide) (by decide) k]
theorem VC_sim {σ τ υ : ST} {o n fm : Nat} (h : VC σ τ o n fm) (hs : sim τ υ) : VC σ υ o n fm := by
  obtain ⟨⟨h1, h2, h3, h4⟩, h5, h6, h7⟩ := h
  have eb : ∀ i k, υ.b i k = τ.b i k := fun i k => congrArg (fun z => z.1 i k) hs.2.2.2.symm
  refine ⟨⟨(congrFun hs.1 0).symm.trans h1, (congrArg (fun z => z.2.2.1) hs.2.2.2.symm).trans h2, fun f => (congrFun (hs.2.2.1 0 (by decide)).symm f).trans (h3 f), fun s => (eb 4 s).trans (h4 s)⟩, fun k => (eb 0 k).trans (h5 k), fun k => (congrFun (hs.2.1 2 (by decide)).symm k).trans (h6 k), fun j => (congrFun (hs.2.1 1 (by decide)).symm j).trans (h7 j)⟩
theorem cont_new {σ τ : ST} {v0 b : Nat} {d : Bool} {val : Int32} (hw : WF τ) (hv : vok τ v0) (hb2 : τ.b 2 (τ.a 3 v0) = d) (hi2 : τ.i 2 (τ.a 3 v0) = val) (h4 : τ.a 4 v0 = b) (hold : d = true → cont τ b = cont σ b) : cont τ v0 = if d = true then val + cont σ b else val := by
  unfold cont
  cases d with
  | false =>
    rw [chL_w hb2, if_neg (by decide)]
    show 0 + τ.i 2 (τ.a 3 v0) = _
    rw [hi2, Int32.zero_add]
  | true =>
    rw [chL_d hw hv hb2, if_pos rfl]
    show isum (fun w => τ.i 2 (τ.a 3 w)) (0 + τ.i 2 (τ.a 3 v0)) (chL τ (τ.a 4 v0)) = _
    rw [hi2, h4, show (0 : Int32) + val = val + 0 by rw [Int32.zero_add, Int32.add_zero], isum_add]
    exact congrArg (fun z => val + z) (hold rfl)
/-- contents behind a version that has come -/
theorem vc_cont {B B' : Nat} {σ τ : ST} (hI : INV B σ) (hI' : INV B' τ) {o n fm b : Nat} {d : Bool} {v : Int32} {F : Nat} (hV : VC σ τ o n fm) (h3 : ∀ k, τ.a 3 k = if k = 10 * o + n then F else σ.a 3 k) (h4 : ∀ k, τ.a 4 k = if k = 10 * o + n then b else σ.a 4 k) (hu : ∀ u, u < σ.un → τ.b 2 u = σ.b 2 u ∧ τ.i 2 u = σ.i 2 u) (hF : τ.b 2 F = d ∧ τ.i 2 F = v) (hno : ∀ w, vok σ w → w ≠ 10 * o + n) (hb : d = true → vok σ b) : (∀ w, vok σ w → cont τ w = cont σ w) ∧ cont τ (10 * o + n) = if d = true then v + cont σ b else v := by
  have k1 : ∀ w, vok σ w → cont τ w = cont σ w := fun w hw => cont_at hI.wf (fun w hw => by rw [h3, if_neg (hno w hw)]) (fun w hw => by rw [h4, if_neg (hno w hw)]) (fun u hl => (hu u hl).1) (fun u hl => (hu u hl).2) hw
  refine ⟨k1, ?_⟩
  have hv : vok τ (10 * o + n) := hI'.wf.2.2.2 _ (by rw [hV.2.1, if_pos rfl])
  have e3 : τ.a 3 (10 * o + n) = F := by rw [h3, if_pos rfl]
  exact cont_new hI'.wf hv (by rw [e3]; exact hF.1) (by rw [e3]; exact hF.2) (by rw [h4, if_pos rfl]) (fun hd => k1 b (hb hd))
theorem sim_u {σ τ : ST} (h : sim σ τ) : (∀ k, k < 6 → ∀ j, τ.a k j = σ.a k j) ∧ (∀ i j, τ.b i j = σ.b i j) ∧ (∀ i, i ≠ 4 → ∀ j, τ.i i j = σ.i i j) ∧ (∀ i, τ.n i = σ.n i) ∧ τ.lo = σ.lo ∧ (∀ u s, τ.hs u s = σ.hs u s) ∧ ∀ u s, τ.cp u s = σ.cp u s :=
  ⟨fun k hk j => congrFun (h.2.1 k hk).symm j, fun i j => congrArg (fun z => z.1 i j) h.2.2.2.symm, fun i hi j => congrFun (h.2.2.1 i hi).symm j, fun i => (congrFun h.1 i).symm, congrArg (fun z => z.2.2.1) h.2.2.2.symm, fun u s => congrArg (fun z => z.2.1 u s) h.2.2.2.symm, fun u s => congrArg (fun z => z.2.2.2 u s) h.2.2.2.symm⟩
/-- a version has come to an object that is there -/
theorem vc_adR {B B' : Nat} {σ τ : ST} (hI : INV B σ) (hI' : INV B' τ) {o n fm b : Nat} {d : Bool} {v : Int32} (hn : σ.a 1 o = n) (h10 : n < 10) (hs : sim (adR σ o fm b d v) τ) (hb : d = true → vok σ b) : VC σ τ o n fm ∧ (∀ w, vok σ w → cont τ w = cont σ w) ∧ (cont τ (10 * o + n) = if d = true then v + cont σ b else v) ∧ τ.ob = σ.ob := by
  obtain ⟨k1, k2, k3, k4, k5, k6⟩ := adR_is hn fm b d v
  obtain ⟨a1, a2, a3, a4, -, -, -⟩ := sim_u hs
  have hV := VC_sim k1 hs
  obtain ⟨c1, c2⟩ := vc_cont hI hI' (b := b) (d := d) (v := v) (F := adF σ d v) hV (fun k => (a1 3 (by decide) k).trans (k2 k)) (fun k => (a1 4 (by decide) k).trans (k3 k)) (fun u hl => ⟨(a2 2 u).trans (k4 u hl).1, (a3 2 (by decide) u).trans (k4 u hl).2⟩) ⟨(a2 2 _).trans k5, (a3 2 (by decide) _).trans k6⟩ (fun w hw e => by
    have h1 := hw.2
    rw [e, show (10 * o + n) / 10 = o by omega, show (10 * o + n) % 10 = n by omega, hn] at h1
    omega) hb
  exact ⟨hV, c1, c2, (a4 1).trans (adR_ob σ o fm b d v)⟩
/-- a version has come with its object -/
theorem vc_dep {B B' : Nat} {σ τ : ST} (hI : INV B σ) (hI' : INV B' τ) {w fm b : Nat} {v : Int32} (hob : σ.ob < 10) (hs : sim ((adR (σ.sa 0 σ.ob w) σ.ob fm b false v).sn 1 (σ.ob + 1)) τ) : VC σ τ σ.ob 0 fm ∧ (∀ w, vok σ w → cont τ w = cont σ w) ∧ cont τ (10 * σ.ob) = v ∧ τ.ob = σ.ob + 1 := by
  have hn : (σ.sa 0 σ.ob w).a 1 σ.ob = 0 := (hI.room0 hob).2
  obtain ⟨k1, k2, k3, k4, k5, k6⟩ := adR_is hn fm b false v
  obtain ⟨a1, a2, a3, a4, a5, -, -⟩ := sim_u hs
  obtain ⟨⟨h1, h2, h3, h4⟩, h5, h6, h7⟩ := k1
  have hV : VC σ τ σ.ob 0 fm := ⟨⟨(a4 0).trans h1, a5.trans h2, fun f => (a3 0 (by decide) f).trans (h3 f), fun s => (a2 4 s).trans (h4 s)⟩, fun k => (a2 0 k).trans (h5 k), fun k => (a1 2 (by decide) k).trans (h6 k), fun j => (a1 1 (by decide) j).trans (h7 j)⟩
  obtain ⟨c1, c2⟩ := vc_cont hI hI' (b := b) (d := false) (v := v) (F := adF (σ.sa 0 σ.ob w) false v) hV (fun k => (a1 3 (by decide) k).trans (k2 k)) (fun k => (a1 4 (by decide) k).trans (k3 k)) (fun u hl => ⟨(a2 2 u).trans (k4 u hl).1, (a3 2 (by decide) u).trans (k4 u hl).2⟩) ⟨(a2 2 _).trans k5, (a3 2 (by decide) _).trans k6⟩ (fun w hw e => by
    have h1 := hw.1
    rw [e] at h1
    omega) (fun q => by cases q)
  rw [if_neg (by decide)] at c2
  refine ⟨hV, c1, c2, (a4 1).trans ?_⟩
  show f1 (adR (σ.sa 0 σ.ob w) σ.ob fm b false v).1 1 (σ.ob + 1) 1 = σ.ob + 1
  exact f1_s
/-- what the law keeps of objects and versions, and which of its own numbers do so -/
def LR (σ : ST) (ar : Nat → Nat → Int32) (dm tg : Bool) : Prop := σ.ob ≤ 6 ∧ (ar 3 0 = nI σ.fo ∧ ar 3 1 = nI σ.ob ∧ ar 3 2 = bset (σ.b 4) 4 ∧ ar 3 3 = bI dm ∧ ar 3 4 = bI tg) ∧ (∀ f, f < σ.fo → ar 1 (6 + f) = σ.i 0 f ∧ inK 0 100 (σ.i 0 f) = true) ∧ (∀ o, o < σ.ob → ar 1 o = nI (σ.a 1 o) ∧ ar 2 o = bset (fun k => σ.b 0 (10 * o + k)) 10 ∧ ar 2 (6 + o) = nI (σ.a 2 (latn σ o 10))) ∧ ∀ v, vok σ v → ar 0 v = cont σ v
/-- the formats of versions, but for x -/
def LE (σ : ST) (ar : Nat → Nat → Int32) (x : Nat) : Prop := ∀ w, σ.b 0 w = true → w ≠ x → ar 4 w = nI (σ.a 2 w)
theorem vok_of {B : Nat} {σ : ST} (hI : INV B σ) {w : Nat} (h : σ.b 0 w = true) : vok σ w := hI.wf.2.2.2 w h
theorem b0_hi {B : Nat} {σ : ST} (hI : INV B σ) {o k : Nat} (hk : k < 10) (h : σ.a 1 o ≤ k) : σ.b 0 (10 * o + k) = false := by
  cases e : σ.b 0 (10 * o + k) with
  | false => rfl
  | true =>
    have h1 := (vok_of hI e).2
    rw [show (10 * o + k) / 10 = o by omega, show (10 * o + k) % 10 = k by omega] at h1
    omega
theorem VC_lat {B : Nat} {σ τ : ST} (hI : INV B σ) {o n fm : Nat} (hn : σ.a 1 o = n) (h10 : n < 10) (h : VC σ τ o n fm) : latn τ o 10 = 10 * o + n ∧ ∀ j, j ≠ o → latn τ j 10 = latn σ j 10 := by
  refine ⟨latn_is (by rw [h.2.1, if_pos rfl]) 10 h10 (fun j h1 h2 => ?_), fun j hj => latn_eq 10 (fun k hk => by rw [h.2.1, if_neg (by omega)])⟩
  rw [h.2.1, if_neg (by omega)]
  exact b0_hi hI h2 (by omega)
theorem VC_vok {σ τ : ST} {o n fm : Nat} (h : VC σ τ o n fm) (hn : σ.a 1 o = n) (ho : τ.ob = σ.ob ∨ (τ.ob = σ.ob + 1 ∧ o = σ.ob ∧ n = 0)) {w : Nat} (hv : vok τ w) : vok σ w ∨ w = 10 * o + n := by
  obtain ⟨h1, h2⟩ := hv
  rw [h.2.2.2] at h2
  by_cases hq : w / 10 = o
  · rw [if_pos hq] at h2
    by_cases hw : w % 10 = n
    · right
      omega
    · left
      rcases ho with ho | ⟨ho, e1, e2⟩
      · exact ⟨by omega, by rw [hq, hn]; omega⟩
      · omega
  · rw [if_neg hq] at h2
    left
    rcases ho with ho | ⟨ho, e1, e2⟩
    · exact ⟨by omega, h2⟩
    · exact ⟨by omega, h2⟩
/-- the law's rows behind a version -/
theorem LR_new {B : Nat} {σ τ : ST} {ar ar' : Nat → Nat → Int32} {dm tg : Bool} (hI : INV B σ) (h : LR σ ar dm tg) {o n fm : Nat} {c : Int32} (hn : σ.a 1 o = n) (h10 : n < 10) (hV : VC σ τ o n fm) (hc : (∀ w, vok σ w → cont τ w = cont σ w) ∧ cont τ (10 * o + n) = c) (ho : (τ.ob = σ.ob ∧ o < σ.ob) ∨ (τ.ob = σ.ob + 1 ∧ o = σ.ob ∧ n = 0)) (h6 : τ.ob ≤ 6)
    (e3 : ar' 3 0 = ar 3 0 ∧ ar' 3 1 = nI τ.ob ∧ ar' 3 2 = ar 3 2 ∧ ar' 3 3 = ar 3 3 ∧ ar' 3 4 = ar 3 4) (ef : ∀ f, f < 8 → ar' 1 (6 + f) = ar 1 (6 + f)) (ej : ∀ j, j < 6 → j ≠ o → ar' 1 j = ar 1 j ∧ ar' 2 j = ar 2 j ∧ ar' 2 (6 + j) = ar 2 (6 + j)) (eo : ar' 1 o = nI (n + 1) ∧ ar' 2 o = bset (f1 (fun k => σ.b 0 (10 * o + k)) n true) 10 ∧ ar' 2 (6 + o) = nI fm) (e0 : (∀ w, w ≠ 10 * o + n → ar' 0 w = ar 0 w) ∧ ar' 0 (10 * o + n) = c) : LR τ ar' dm tg := by
  obtain ⟨g1, ⟨g2, g3, g4, g5, g6⟩, g7, g8, g9⟩ := h
  obtain ⟨l1, l2⟩ := VC_lat hI hn h10 hV
  have hf8 := hI.li.1
  have hV2 := hV
  obtain ⟨⟨v1, v2, v3, v4⟩, v5, v6, v7⟩ := hV
  have ho2 : τ.ob = σ.ob ∨ (τ.ob = σ.ob + 1 ∧ o = σ.ob ∧ n = 0) := by
    rcases ho with q | q
    · exact Or.inl q.1
    · exact Or.inr q
  refine ⟨h6, ⟨by rw [e3.1, g2, v1], e3.2.1, by rw [e3.2.2.1, g4]; exact bset_ext 4 (fun s _ => (v4 s).symm), by rw [e3.2.2.2.1, g5], by rw [e3.2.2.2.2, g6]⟩, fun f hf => ?_, fun j hj => ?_, fun w hw => ?_⟩
  · rw [v1] at hf
    rw [ef f (by omega), v3]
    exact g7 f hf
  · by_cases hq : j = o
    · rw [hq, l1, v7, if_pos rfl, v6, if_pos rfl]
      refine ⟨eo.1, ?_, eo.2.2⟩
      rw [eo.2.1]
      refine bset_ext 10 (fun k hk => ?_)
      rw [v5]
      unfold f1
      by_cases hk2 : k = n
      · rw [if_pos hk2, if_pos (by omega)]
      · rw [if_neg hk2, if_neg (by omega)]
    · have hj2 : j < σ.ob := by
        rcases ho with q | q <;> omega
      obtain ⟨k1, k2, k3⟩ := g8 j hj2
      obtain ⟨m1, m2, m3⟩ := ej j (by omega) hq
      have hl : latn σ j 10 ≠ 10 * o + n := by
        have := (hI.lat hj2).2.1
        omega
      rw [m1, m2, m3, l2 j hq, v7, if_neg hq, v6, if_neg hl]
      refine ⟨k1, ?_, k3⟩
      rw [k2]
      exact bset_ext 10 (fun k hk => by rw [v5, if_neg (by omega)])
  · rcases VC_vok hV2 hn ho2 hw with q | q
    · have hne : w ≠ 10 * o + n := fun e => by
        have h1 := q.2
        rw [e, show (10 * o + n) / 10 = o by omega, show (10 * o + n) % 10 = n by omega, hn] at h1
        omega
      rw [e0.1 w hne, hc.1 w q]
      exact g9 w q
    · rw [q, e0.2, hc.2]
theorem LE_new {B : Nat} {σ τ : ST} {ar ar' : Nat → Nat → Int32} (hI : INV B σ) (h : LE σ ar 1000) {o n fm : Nat} (hV : VC σ τ o n fm) (e4 : ∀ w, ar' 4 w = ar 4 w) : LE τ ar' (10 * o + n) := fun w hw hne => by
  rw [hV.2.1, if_neg hne] at hw
  rw [e4, hV.2.2.1, if_neg hne]
  have hl := hI.wf.lt (vok_of hI hw)
  exact h w hw (by omega)
