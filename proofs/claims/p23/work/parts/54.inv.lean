/-! what holds between two calls -/
theorem chf_at {σ τ : ST} (hw : WF σ) (h3 : ∀ w, vok σ w → τ.a 3 w = σ.a 3 w) (h4 : ∀ w, vok σ w → τ.a 4 w = σ.a 4 w) (h2 : ∀ u, u < σ.un → τ.b 2 u = σ.b 2 u) : ∀ n v, vok σ v → chf τ n v = chf σ n v
  | 0, _, _ => rfl
  | n + 1, v, hv => by
    unfold chf
    rw [h3 v hv, h4 v hv, h2 _ (hw.2.2.1 v hv).1]
    by_cases hd : σ.b 2 (σ.a 3 v) = true
    · rw [if_pos hd, if_pos hd, chf_at hw h3 h4 h2 n _ (hw.bas hv hd).2]
    · rw [if_neg hd, if_neg hd]
theorem chL_at {σ τ : ST} (hw : WF σ) (h3 : ∀ w, vok σ w → τ.a 3 w = σ.a 3 w) (h4 : ∀ w, vok σ w → τ.a 4 w = σ.a 4 w) (h2 : ∀ u, u < σ.un → τ.b 2 u = σ.b 2 u) {v : Nat} (hv : vok σ v) : chL τ v = chL σ v := chf_at hw h3 h4 h2 (v + 1) v hv
theorem chL_vok {σ : ST} (hw : WF σ) {v w : Nat} (hv : vok σ v) (h : w ∈ chL σ v) : vok σ w := (chL_ok hw (v + 1) v (Nat.lt_succ_self v) hv w h).1
theorem isum_ext {f h : Nat → Int32} : ∀ (l : List Nat) (a : Int32), (∀ w, w ∈ l → f w = h w) → isum f a l = isum h a l
  | [], _, _ => rfl
  | v :: l, a, hq => by
    show isum f (a + f v) l = isum h (a + h v) l
    rw [hq v List.mem_cons_self]
    exact isum_ext l _ (fun w hw => hq w (List.mem_cons_of_mem _ hw))
theorem isum_add (f : Nat → Int32) : ∀ (l : List Nat) (a b : Int32), isum f (a + b) l = a + isum f b l
  | [], _, _ => rfl
  | v :: l, a, b => by
    show isum f (a + b + f v) l = a + isum f (b + f v) l
    rw [Int32.add_assoc]
    exact isum_add f l a (b + f v)
theorem cont_at {σ τ : ST} (hw : WF σ) (h3 : ∀ w, vok σ w → τ.a 3 w = σ.a 3 w) (h4 : ∀ w, vok σ w → τ.a 4 w = σ.a 4 w) (h2 : ∀ u, u < σ.un → τ.b 2 u = σ.b 2 u) (hi : ∀ u, u < σ.un → τ.i 2 u = σ.i 2 u) {v : Nat} (hv : vok σ v) : cont τ v = cont σ v := by
  unfold cont
  rw [chL_at hw h3 h4 h2 hv]
  refine isum_ext _ _ (fun w h => ?_)
  have hk := chL_vok hw hv h
  show τ.i 2 (τ.a 3 w) = σ.i 2 (σ.a 3 w)
  rw [h3 w hk, hi _ (hw.2.2.1 w hk).1]
theorem cnL_at {σ τ : ST} {u : Nat} : ∀ l, (∀ w, w ∈ l → τ.a 3 w = σ.a 3 w) → cnL τ u l = cnL σ u l
  | [], _ => rfl
  | w :: l, h => by
    unfold cnL
    rw [cnL_at l (fun w' h' => h w' (List.mem_cons_of_mem _ h')), h w List.mem_cons_self]
theorem cnL_len (σ : ST) (u : Nat) : ∀ l, cnL σ u l ≤ l.length
  | [] => Nat.le_refl 0
  | w :: l => by
    have h := cnL_len σ u l
    unfold cnL
    rw [List.length_cons]
    split <;> omega
theorem chf_len (σ : ST) : ∀ n v, (chf σ n v).length ≤ n
  | 0, _ => Nat.le_refl 0
  | n + 1, v => by
    unfold chf
    rw [List.length_cons]
    split
    · have := chf_len σ n (σ.a 4 v)
      omega
    · show 0 + 1 ≤ n + 1
      omega
theorem cnL_c (σ : ST) (u w : Nat) (l : List Nat) : cnL σ u (w :: l) = cnL σ u l + (if σ.a 3 w = u then 1 else 0) := rfl
theorem any_cnL (σ : ST) (u : Nat) : ∀ l : List Nat, l.any (fun v => σ.a 3 v == u) = decide (0 < cnL σ u l)
  | [] => rfl
  | w :: l => by
    rw [List.any_cons, any_cnL σ u l, cnL_c]
    by_cases h : σ.a 3 w = u
    · rw [if_pos h, h, beq_self_eq_true, Bool.true_or]
      exact (decide_eq_true (by omega)).symm
    · rw [if_neg h, beq_eq_false_iff_ne.mpr h, Bool.false_or, Nat.add_zero]
/-- how often a unit is needed by one version -/
def ndt (σ : ST) (u v : Nat) : Nat := if σ.b 0 v = true then cnL σ u (chL σ v) else 0
/-- how often a unit is needed, of the first n versions -/
def ndc (σ : ST) (u : Nat) : Nat → Nat
  | 0 => 0
  | n + 1 => ndc σ u n + ndt σ u n
theorem ndt_le (σ : ST) (u v : Nat) : ndt σ u v ≤ v + 1 := by
  unfold ndt
  split
  · exact Nat.le_trans (cnL_len σ u _) (chf_len σ (v + 1) v)
  · exact Nat.zero_le _
theorem ndc_le (σ : ST) (u : Nat) : ∀ n, n ≤ 100 → ndc σ u n ≤ 100 * n
  | 0, _ => Nat.le_refl 0
  | n + 1, hn => by
    have h1 := ndc_le σ u n (by omega)
    have h2 := ndt_le σ u n
    unfold ndc
    omega
theorem ndc_ge (σ : ST) (u v : Nat) : ∀ n, v < n → ndt σ u v ≤ ndc σ u n
  | 0, h => absurd h (Nat.not_lt_zero v)
  | n + 1, h => by
    unfold ndc
    by_cases hv : v = n
    · rw [hv]
      omega
    · have := ndc_ge σ u v n (by omega)
      omega
theorem ndc_0 {σ : ST} {u : Nat} (h : ∀ v, ndt σ u v = 0) : ∀ n, ndc σ u n = 0
  | 0 => rfl
  | n + 1 => by
    unfold ndc
    rw [ndc_0 h n, h n]
theorem ndc_eq {σ τ : ST} {u : Nat} (h : ∀ v, ndt τ u v = ndt σ u v) : ∀ n, ndc τ u n = ndc σ u n
  | 0 => rfl
  | n + 1 => by
    unfold ndc
    rw [ndc_eq h n, h n]
theorem ndc_one {σ τ : ST} {u v0 X : Nat} (h0 : ndt τ u v0 = ndt σ u v0 + X) (h : ∀ v, v ≠ v0 → ndt τ u v = ndt σ u v) : ∀ n, ndc τ u n = ndc σ u n + (if v0 < n then X else 0)
  | 0 => by
    rw [if_neg (Nat.not_lt_zero v0)]
    rfl
  | n + 1 => by
    unfold ndc
    rw [ndc_one h0 h n]
    by_cases hv : n = v0
    · rw [hv, h0, if_neg (Nat.lt_irrefl _), if_pos (Nat.lt_succ_self _)]
      omega
    · rw [h n hv]
      by_cases hl : v0 < n
      · rw [if_pos hl, if_pos (by omega)]
        omega
      · rw [if_neg hl, if_neg (by omega)]
        omega
theorem ndd_ndc (σ : ST) (u : Nat) : ∀ n, ndd σ u n = decide (0 < ndc σ u n)
  | 0 => rfl
  | n + 1 => by
    unfold ndd ndc
    rw [ndd_ndc σ u n, any_cnL]
    unfold ndt
    cases hb : σ.b 0 n with
    | false => rw [Bool.false_and, Bool.or_false, if_neg (by decide), Nat.add_zero]
    | true =>
      rw [Bool.true_and, if_pos rfl, ← Bool.decide_or]
      exact decide_eq_decide.mpr (by omega)
/-- the versions had, of the first n objects -/
def hadT (σ : ST) : Nat → Nat
  | 0 => 0
  | n + 1 => hadT σ n + σ.a 1 n
theorem hadT_le {σ : ST} : ∀ n, (∀ o, o < n → σ.a 1 o ≤ 10) → hadT σ n ≤ 10 * n
  | 0, _ => Nat.le_refl 0
  | n + 1, h => by
    have h1 := hadT_le n (fun o ho => h o (by omega))
    have h2 := h n (by omega)
    unfold hadT
    omega
theorem hadT_lt {σ : ST} {o : Nat} (ho : σ.a 1 o < 10) : ∀ n, o < n → (∀ o, o < n → σ.a 1 o ≤ 10) → hadT σ n < 10 * n
  | 0, h, _ => absurd h (Nat.not_lt_zero o)
  | n + 1, h, hq => by
    unfold hadT
    by_cases hn : o = n
    · have h1 := hadT_le n (fun o ho => hq o (by omega))
      rw [← hn]
      rw [← hn] at h1
      omega
    · have h1 := hadT_lt ho n (by omega) (fun o ho => hq o (by omega))
      have h2 := hq n (by omega)
      omega
theorem hadT_eq {σ τ : ST} : ∀ n, (∀ o, o < n → τ.a 1 o = σ.a 1 o) → hadT τ n = hadT σ n
  | 0, _ => rfl
  | n + 1, h => by
    unfold hadT
    rw [hadT_eq n (fun o ho => h o (by omega)), h n (by omega)]
/-- what is beside: what no call reads, or what follows from the versions -/
def GH (σ : ST) : Prop := (∀ u s, σ.un ≤ u → σ.cp u s = false ∧ σ.hs u s = 0) ∧ (∀ u, σ.un ≤ u → σ.a 5 u = 0) ∧ (∀ v, vok σ v → σ.i 4 v = cont σ v) ∧ (∀ v, vok σ v → -999999 ≤ (σ.i 4 v).toInt ∧ (σ.i 4 v).toInt ≤ 999999) ∧ (∀ u, u < σ.un → σ.a 6 u = ndc σ u 100) ∧ (∀ u, u < σ.un → σ.b 1 u = decide (0 < ndc σ u 100)) ∧ σ.un ≤ hadT σ σ.ob ∧ (∀ o, σ.ob ≤ o → σ.a 1 o = 0)
/-- small rows -/
def SM (σ : ST) : Prop := (∀ u, σ.a 5 u < 2 ^ 30) ∧ (∀ o, σ.a 0 o < 2 ^ 30) ∧ σ.la ≤ 400
def INV (B : Nat) (σ : ST) : Prop := WF σ ∧ LI σ ∧ CAP σ ∧ UQ σ ∧ LD σ ∧ HB B σ ∧ (∀ o, o < σ.ob → hasV σ o) ∧ (∀ v, vok σ v → σ.a 2 v < σ.fo) ∧ SM σ ∧ GH σ
section INVS
variable {B : Nat} {σ : ST}
theorem INV.wf (h : INV B σ) : WF σ := h.1
theorem INV.li (h : INV B σ) : LI σ := h.2.1
theorem INV.cap (h : INV B σ) : CAP σ := h.2.2.1
theorem INV.uq (h : INV B σ) : UQ σ := h.2.2.2.1
theorem INV.ld (h : INV B σ) : LD σ := h.2.2.2.2.1
theorem INV.hb (h : INV B σ) : HB B σ := h.2.2.2.2.2.1
theorem INV.hv (h : INV B σ) : ∀ o, o < σ.ob → hasV σ o := h.2.2.2.2.2.2.1
theorem INV.fm (h : INV B σ) : ∀ v, vok σ v → σ.a 2 v < σ.fo := h.2.2.2.2.2.2.2.1
theorem INV.sm (h : INV B σ) : SM σ := h.2.2.2.2.2.2.2.2.1
theorem INV.gh (h : INV B σ) : GH σ := h.2.2.2.2.2.2.2.2.2
theorem INV.room (h : INV B σ) {o : Nat} (ho : o < σ.ob) (h1 : σ.a 1 o < 10) : σ.un < 100 := by
  have k1 := h.gh.2.2.2.2.2.2.1
  have k2 := hadT_lt h1 σ.ob ho h.wf.2.1
  have k3 := h.wf.1.1
  omega
theorem INV.room0 (h : INV B σ) (ho : σ.ob < 10) : σ.un < 100 ∧ σ.a 1 σ.ob = 0 := by
  have k1 := h.gh.2.2.2.2.2.2.1
  have k2 := hadT_le σ.ob h.wf.2.1
  exact ⟨by omega, h.gh.2.2.2.2.2.2.2 _ (Nat.le_refl _)⟩
theorem INV.ri (h : INV B σ) : RI σ := ⟨h.wf, h.li.1, h.hv, fun u _ => h.sm.1 u, fun o _ => h.sm.2.1 o, h.fm, fun _ ho h1 => h.room ho h1, h.room0, h.sm.2.2⟩
theorem INV.nd (h : INV B σ) : ND σ := fun u hu => by
  have k1 := h.gh.2.2.2.2.1 u hu
  have k2 := h.gh.2.2.2.2.2.1 u hu
  have k3 := ndc_le σ u 100 (Nat.le_refl _)
  rw [k1]
  exact ⟨by omega, k2⟩
end INVS
/-- objects, versions and units are the same -/
def st8 (σ τ : ST) : Prop := (τ.n 1 = σ.n 1 ∧ τ.n 2 = σ.n 2) ∧ (∀ k, k ≠ 7 → τ.a k = σ.a k) ∧ (τ.i 2 = σ.i 2 ∧ τ.i 4 = σ.i 4) ∧ (τ.b 0 = σ.b 0 ∧ τ.b 1 = σ.b 1 ∧ τ.b 2 = σ.b 2)
theorem st8.vok {σ τ : ST} (h : st8 σ τ) {v : Nat} : vok τ v ↔ vok σ v := by
  have e0 : τ.ob = σ.ob := h.1.1
  have e1 : ∀ o, τ.a 1 o = σ.a 1 o := congrFun (h.2.1 1 (by decide))
  unfold Jvm.Pilot.CFixityhallLaw_law_r7320_c6f90e.vok
  rw [e0, e1]
theorem st8.WF {σ τ : ST} (h : st8 σ τ) (hw : WF σ) : WF τ := by
  have e0 : τ.ob = σ.ob := h.1.1
  have eu : τ.un = σ.un := h.1.2
  have e1 : ∀ o, τ.a 1 o = σ.a 1 o := congrFun (h.2.1 1 (by decide))
  have e3 : ∀ o, τ.a 3 o = σ.a 3 o := congrFun (h.2.1 3 (by decide))
  have e4 : ∀ o, τ.a 4 o = σ.a 4 o := congrFun (h.2.1 4 (by decide))
  have b0 : ∀ o, τ.b 0 o = σ.b 0 o := congrFun h.2.2.2.1
  have b2 : ∀ o, τ.b 2 o = σ.b 2 o := congrFun h.2.2.2.2.2
  unfold Jvm.Pilot.CFixityhallLaw_law_r7320_c6f90e.WF Jvm.Pilot.CFixityhallLaw_law_r7320_c6f90e.vok at hw ⊢
  simp only [e0, eu, e1, e3, e4, b0, b2]
  exact hw
theorem CAP.eq1 {σ τ : ST} (h : CAP σ) (e0 : τ.ob = σ.ob) (eu : τ.un = σ.un) (e1 : ∀ o, τ.a 1 o = σ.a 1 o) (e8 : ∀ o, τ.a 8 o = σ.a 8 o) : CAP τ := by
  unfold CAP at h ⊢
  simp only [e0, eu, e1, e8]
  exact h
theorem INV.st8 {B B' : Nat} {σ τ : ST} (hI : INV B σ) (h : st8 σ τ) (hL : LI τ) (hD : LD τ) (hH : HB B' τ) (hz : ∀ u s, τ.un ≤ u → τ.cp u s = false ∧ τ.hs u s = 0) (hf : σ.fo ≤ τ.fo) (hl : τ.la ≤ 400) : INV B' τ := by
  have e0 : τ.ob = σ.ob := h.1.1
  have eu : τ.un = σ.un := h.1.2
  have ea : ∀ k, k ≠ 7 → ∀ o, τ.a k o = σ.a k o := fun k hk => congrFun (h.2.1 k hk)
  have b0 : ∀ o, τ.b 0 o = σ.b 0 o := congrFun h.2.2.2.1
  have b1 : ∀ o, τ.b 1 o = σ.b 1 o := congrFun h.2.2.2.2.1
  have b2 : ∀ o, τ.b 2 o = σ.b 2 o := congrFun h.2.2.2.2.2
  have i2 : ∀ o, τ.i 2 o = σ.i 2 o := congrFun h.2.2.1.1
  have i4 : ∀ o, τ.i 4 o = σ.i 4 o := congrFun h.2.2.1.2
  have hw := hI.wf
  have hch : ∀ v, chL τ v = chL σ v := fun v => by
    have key : ∀ n v, chf τ n v = chf σ n v := by
      intro n
      induction n with
      | zero => exact fun _ => rfl
      | succ n ih =>
        intro v
        unfold chf
        rw [ea 3 (by decide), ea 4 (by decide), b2, ih]
    exact key _ v
  have hndt : ∀ u v, ndt τ u v = ndt σ u v := fun u v => by
    unfold ndt
    rw [b0, hch, cnL_at _ (fun w _ => ea 3 (by decide) w)]
  have hndc : ∀ u n, ndc τ u n = ndc σ u n := fun u n => ndc_eq (hndt u) n
  have hcont : ∀ v, cont τ v = cont σ v := fun v => by
    unfold cont
    rw [hch]
    exact isum_ext _ _ (fun w _ => by rw [i2, ea 3 (by decide)])
  obtain ⟨g1, g2, g3, g4, g5, g6, g7, g8⟩ := hI.gh
  refine ⟨h.WF hw, hL, CAP.eq1 hI.cap e0 eu (fun o => ea 1 (by decide) o) (fun o => ea 8 (by decide) o), ?_, hD, hH, fun o ho => ?_, fun v hv => ?_, ⟨fun u => ?_, fun o => ?_, hl⟩, hz, fun u hu => ?_, fun v hv => ?_, fun v hv => ?_, fun u hu => ?_, fun u hu => ?_, ?_, fun o ho => ?_⟩
  · intro u w hu hw' k1 k2 k3 k4
    rw [eu] at hu hw'
    rw [b1] at k1 k2
    rw [b2, b2] at k3
    rw [i2, i2] at k4
    exact hI.uq u w hu hw' k1 k2 k3 k4
  · rw [e0] at ho
    obtain ⟨k, k1, k2⟩ := hI.hv o ho
    exact ⟨k, k1, (b0 _).trans k2⟩
  · rw [ea 2 (by decide)]
    exact Nat.lt_of_lt_of_le (hI.fm v (h.vok.mp hv)) hf
  · rw [ea 5 (by decide)]
    exact hI.sm.1 u
  · rw [ea 0 (by decide)]
    exact hI.sm.2.1 o
  · rw [ea 5 (by decide)]
    exact g2 u (by rw [← eu]; exact hu)
  · rw [i4, hcont]
    exact g3 v (h.vok.mp hv)
  · rw [i4]
    exact g4 v (h.vok.mp hv)
  · rw [ea 6 (by decide), hndc]
    exact g5 u (by rw [← eu]; exact hu)
  · rw [b1, hndc]
    exact g6 u (by rw [← eu]; exact hu)
  · rw [eu, e0, hadT_eq σ.ob (fun o _ => ea 1 (by decide) o)]
    exact g7
  · rw [ea 1 (by decide)]
    exact g8 o (by rw [← e0]; exact ho)
