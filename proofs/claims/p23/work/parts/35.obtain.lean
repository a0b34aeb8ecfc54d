/-! the class: the unit that a version comes to have -/
/-- other cells are kept -/
def KP (A : Nat → Nat → Nat) (σ : ST) (M M' : Mem) : Prop := ∀ z, M z ≠ none → (∀ k i, wdom σ k i → A k i ≠ z) → M' z = M z
/-- the class's state behind obtain: as the reference's, and ghosts -/
def obS (σ : ST) (w : Nat) (d : Bool) (v : Int32) (cap : Nat) : ST := match ufn σ d v σ.un with
  | none => plK (nuS σ d v w cap) σ.un v
  | some f => plG (σ.sa 5 f (if w < σ.a 5 f then σ.a 5 f else w)) f
theorem W2.udata0 {g : GG} {A : Nat → Nat → Nat} {σ ρ : ST} {x : XT} {M : Mem} (h : W2 g A σ ρ x M) (hi : 0 < σ.un) : M (A 8 0) = some (lrw (fun j => A 13 j) σ.un (σ.a 8 0)) := by
  rw [h.udata hi]
  refine congrArg some (congrArg (aQ tO (σ.a 8 0)) (funext fun j => ?_))
  rw [Nat.zero_add]
/-- addresses outside the old world are outside the new one -/
def OD (A A' : Nat → Nat → Nat) (σ τ : ST) (M : Mem) : Prop := ∀ z, M z ≠ none → (∀ k i, wdom σ k i → A k i ≠ z) → ∀ k i, wdom τ k i → A' k i ≠ z
theorem wdom_nu {σ τ : ST} (hu : τ.un = σ.un + 1) (ho : τ.ob = σ.ob) (h1 : τ.a 1 = σ.a 1) {k i : Nat} (h8 : k ≠ 8) (h13 : ¬ (k = 13 ∧ i = σ.un)) (h14 : ¬ (k = 14 ∧ i = σ.un)) (h15 : ¬ (k = 15 ∧ i = σ.un)) (hd : wdom τ k i) : wdom σ k i := by
  have e1 : ∀ o, τ.a 1 o = σ.a 1 o := congrFun h1
  match k, h8, h13, h14, h15, hd with
  | 0, _, _, _, _, hd => exact hd
  | 1, _, _, _, _, hd => exact hd
  | 2, _, _, _, _, hd => exact hd
  | 3, _, _, _, _, hd => exact hd
  | 4, _, _, _, _, hd => exact hd
  | 5, _, _, _, _, hd => exact hd
  | 6, _, _, _, _, hd => exact hd
  | 7, _, _, _, _, hd => exact hd
  | 8, h8, _, _, _, _ => exact absurd rfl h8
  | 9, _, _, _, _, hd => exact hd
  | 10, _, _, _, _, hd => exact hd
  | 11, _, _, _, _, hd => exact hd
  | 12, _, _, _, _, hd =>
    have hd : i = 0 ∧ 0 < τ.ob := hd
    rw [ho] at hd
    exact hd
  | 13, _, h, _, _, hd =>
    have hd : i < τ.un := hd
    exact show i < σ.un by have : ¬ i = σ.un := fun e => h ⟨rfl, e⟩; omega
  | 14, _, _, h, _, hd =>
    have hd : i < τ.un := hd
    exact show i < σ.un by have : ¬ i = σ.un := fun e => h ⟨rfl, e⟩; omega
  | 15, _, _, _, h, hd =>
    have hd : i < τ.un := hd
    exact show i < σ.un by have : ¬ i = σ.un := fun e => h ⟨rfl, e⟩; omega
  | 16, _, _, _, _, hd => exact show i < σ.ob by rw [← ho]; exact hd
  | 17, _, _, _, _, hd => exact show i < σ.ob by rw [← ho]; exact hd
  | 18, _, _, _, _, hd => exact show i < σ.ob by rw [← ho]; exact hd
  | 19, _, _, _, _, hd =>
    have hd : i / 10 < τ.ob ∧ i % 10 < τ.a 1 (i / 10) := hd
    rw [ho, e1] at hd
    exact hd
  | 20, _, _, _, _, hd => exact hd
  | 21, _, _, _, _, hd => exact hd
  | 22, _, _, _, _, hd => exact hd
  | n + 23, _, _, _, _, hd => exact hd
theorem wdom_id {σ τ : ST} (h : τ.1 = σ.1) (e1 : ∀ o, τ.a 1 o = σ.a 1 o) {k i : Nat} : wdom τ k i ↔ wdom σ k i := by
  have eu : τ.un = σ.un := congrFun h 2
  have eo : τ.ob = σ.ob := congrFun h 1
  match k with
  | 0 => exact Iff.rfl
  | 1 => exact Iff.rfl
  | 2 => exact Iff.rfl
  | 3 => exact Iff.rfl
  | 4 => exact Iff.rfl
  | 5 => exact Iff.rfl
  | 6 => exact Iff.rfl
  | 7 => exact Iff.rfl
  | 8 => show (i = 0 ∧ 0 < τ.un) ↔ (i = 0 ∧ 0 < σ.un); rw [eu]
  | 9 => exact Iff.rfl
  | 10 => exact Iff.rfl
  | 11 => exact Iff.rfl
  | 12 => show (i = 0 ∧ 0 < τ.ob) ↔ (i = 0 ∧ 0 < σ.ob); rw [eo]
  | 13 => show i < τ.un ↔ i < σ.un; rw [eu]
  | 14 => show i < τ.un ↔ i < σ.un; rw [eu]
  | 15 => show i < τ.un ↔ i < σ.un; rw [eu]
  | 16 => show i < τ.ob ↔ i < σ.ob; rw [eo]
  | 17 => show i < τ.ob ↔ i < σ.ob; rw [eo]
  | 18 => show i < τ.ob ↔ i < σ.ob; rw [eo]
  | 19 => show (i / 10 < τ.ob ∧ i % 10 < τ.a 1 (i / 10)) ↔ (i / 10 < σ.ob ∧ i % 10 < σ.a 1 (i / 10)); rw [eo, e1]
  | 20 => exact Iff.rfl
  | 21 => exact Iff.rfl
  | 22 => exact Iff.rfl
  | n + 23 => exact Iff.rfl
section OBTAIN
variable (g : GG) {A : Nat → Nat → Nat} {σ ρ : ST} {x : XT} {M : Mem}
/-- what holds behind obtain -/
def OBT (g : GG) (A : Nat → Nat → Nat) (σ ρ : ST) (x : XT) (M : Mem) (w : Nat) (d : Bool) (v : Int32) (q : Nat) (M' : Mem) : Prop := ∃ A' cap, q = A' 13 (adF σ d v) ∧ (σ.un + 1 ≤ cap ∧ cap ≤ 150) ∧ W2 g A' (obS σ w d v cap) ρ x M' ∧ (∀ k i, wdom σ k i → k ≠ 8 → A' k i = A k i) ∧ KP A σ M M' ∧ OD A A' σ (obS σ w d v cap) M
theorem c_X2_obtain {B : Nat} (hW : W2 g A σ ρ x M) (hw : WF σ) (hC : CAP σ) (hN : ND σ) (hq : UQ σ) (hL : LD σ) (hH : HB B σ) (hB : B < 2147483648) (h5 : ∀ u, u < σ.un → σ.a 5 u < 2 ^ 30) (hun : σ.un < 100) (zc : ∀ s, σ.cp σ.un s = false) (zh : ∀ s, σ.hs σ.un s = 0) {w : Nat} (hwt : w < 2 ^ 30) (d : Bool) (v : Int32) : con g mX2_obtain 4 166 [.ref (A 6 0), .int (bI d), .int v, .int (nI w)] M (rN (OBT g A σ ρ x M w d v)) := by
  refine con_i ?_ (by decide) rfl rfl (by simp [lv_args, Value.category]) (by simp [lv_args, lnd, Value.category])
  have hS := hW.store
  have hfa := c_X2_findAlike g hW hw hC hN hq d v
  cases hu : ufn σ d v σ.un with
  | some f =>
    rw [hu] at hfa
    have hfa : con g mX2_findAlike 0 0 [.ref (A 6 0), .int (bI d), .int v] M (rA (.ref (A 13 f)) M) := hfa
    have hfu := ufn_lt σ d v σ.un f hu
    have hunit := hW.unit hfu
    have eF : adF σ d v = f := by unfold adF; rw [hu]
    have em : (if nI (σ.a 5 f) < nI w then nI w else nI (σ.a 5 f)) = nI (if w < σ.a 5 f then σ.a 5 f else w) := by
      have k5 := h5 f hfu
      by_cases hq : σ.a 5 f < w
      · rw [if_pos ((nI_ltI (by omega) (by omega)).mpr hq), if_neg (by omega)]
      · rw [if_neg (fun z => hq ((nI_ltI (by omega) (by omega)).mp z))]
        by_cases hq2 : w < σ.a 5 f
        · rw [if_pos hq2]
        · rw [if_neg hq2, show σ.a 5 f = w by omega]
    have h2 := hW.cshould f hfu (if w < σ.a 5 f then σ.a 5 f else w)
    have hS2 := h2.store
    have hL2 : LD (σ.sa 5 f (if w < σ.a 5 f then σ.a 5 f else w)) := fun t ht => (hL t ht).trans (ldn_cp (σ := σ) (τ := σ.sa 5 f (if w < σ.a 5 f then σ.a 5 f else w)) 100 (fun _ _ => rfl)).symm
    have hH2 : HB B (σ.sa 5 f (if w < σ.a 5 f then σ.a 5 f else w)) := hH
    have h5f : (σ.sa 5 f (if w < σ.a 5 f then σ.a 5 f else w)).a 5 f < 2 ^ 30 := by
      show f2 σ.2.1 5 f _ 5 f < _
      rw [f2_s]
      have k5 := h5 f hfu
      split <;> omega
    have hdo : ∀ k i, wdom σ k i → wdom (σ.sa 5 f (if w < σ.a 5 f then σ.a 5 f else w)) k i := fun k i h => h
    have hcon := c_X2_placeGoodCopies (F := fun M' => ∀ z, M z ≠ none → (∀ k i, wdom σ k i → A k i ≠ z) → M' z = M z) g h2 hL2 (u := f) (fun M1 e hf => ⟨fun z h1 h3 => by rw [mset_ne (Ne.symm (h3 14 f hfu))]; exact hf z h1 h3, fun z h1 h3 => by rw [mset_ne (Ne.symm (h3 15 f hfu))]; exact hf z h1 h3, fun z h1 h3 => by rw [mset_ne (Ne.symm (h3 10 0 ⟨by decide, rfl⟩))]; exact hf z h1 h3⟩) (fun z h1 h3 => mset_ne (Ne.symm (h3 13 f hfu))) hfu (by omega) h5f
    refine z_aload_n dX2_obtain_0 rfl rfl ?_
    refine z_iload_n dX2_obtain_1 rfl ?_
    refine z_iload_n dX2_obtain_2 rfl ?_
    refine z_ivA dX2_obtain_3 cv_RX2_44 hS (hfa) ⟨⟨by decide, by decide⟩, (by first | exact Nat.zero_le _ | decide | omega), (by first | exact Nat.zero_le _ | decide | omega)⟩ rfl rfl (Nat.le_of_ble_eq_true rfl) ?_
    refine z_astore dX2_obtain_6 (by decide) rfl ?_
    refine z_aload dX2_obtain_8 rfl rfl ?_
    refine z_ifnull (tgt := 37) rfl dX2_obtain_10 (by decide) (fun h10 => ?_) (fun h10 => ?_)
    · cases h10
    · refine z_aload dX2_obtain_13 rfl rfl ?_
      refine z_aload dX2_obtain_15 rfl rfl ?_
      refine z_getfield dX2_obtain_17 fg_RX2_48 (by assumption) rfl ?_
      refine z_iload_n dX2_obtain_20 rfl ?_
      refine z_isI dX2_obtain_21 cs_RX2_51 (c_J9_max g M _ _) ⟨⟨by decide, by decide⟩, (by first | exact Nat.zero_le _ | decide | omega), (by first | exact Nat.zero_le _ | decide | omega)⟩ rfl rfl (Nat.le_of_ble_eq_true rfl) ?_
      rw [em]
      refine z_putfield dX2_obtain_24 (fp_RX2_48 _) hunit (Nat.le_of_ble_eq_true rfl) rfl rfl ?_
      refine z_aload_n dX2_obtain_27 rfl rfl ?_
      refine z_aload dX2_obtain_28 rfl rfl ?_
      refine z_ivQ dX2_obtain_30 cv_RX2_57 hS2 (hcon) ⟨⟨by decide, by decide⟩, (by first | exact Nat.zero_le _ | decide | omega), (by first | exact Nat.zero_le _ | decide | omega)⟩ rfl rfl (Nat.le_of_ble_eq_true rfl) (fun M30 hQ30 => ?_)
      refine z_pop dX2_obtain_33 rfl ?_
      refine z_aload dX2_obtain_34 rfl rfl ?_
      refine z_areturn dX2_obtain_36 rfl rfl (by first | exact Or.inl ⟨_, rfl⟩ | exact Or.inr ⟨_, rfl⟩) ?_
      have hob : obS σ w d v 150 = plG (σ.sa 5 f (if w < σ.a 5 f then σ.a 5 f else w)) f := by unfold obS; rw [hu]
      refine rN_of ⟨A, 150, by rw [eF], ⟨by omega, by omega⟩, by rw [hob]; exact hQ30.1, fun _ _ _ _ => rfl, hQ30.2, fun z h1 h3 k i hd => h3 k i ?_⟩
      rw [hob] at hd
      have hs := plG_same (σ.sa 5 f (if w < σ.a 5 f then σ.a 5 f else w)) f
      have e1 : ∀ o, (plG (σ.sa 5 f (if w < σ.a 5 f then σ.a 5 f else w)) f).a 1 o = σ.a 1 o := congrFun (hs.2.1 1 (by decide))
      exact (wdom_id hs.1 e1).mp hd
  | none =>
    rw [hu] at hfa
    have hfa : con g mX2_findAlike 0 0 [.ref (A 6 0), .int (bI d), .int v] M (rA .null M) := hfa
    have eF : adF σ d v = σ.un := by unfold adF; rw [hu]
    have hl := hW.ulst
    refine z_aload_n dX2_obtain_0 rfl rfl ?_
    refine z_iload_n dX2_obtain_1 rfl ?_
    refine z_iload_n dX2_obtain_2 rfl ?_
    refine z_ivA dX2_obtain_3 cv_RX2_44 hS (hfa) ⟨⟨by decide, by decide⟩, (by first | exact Nat.zero_le _ | decide | omega), (by first | exact Nat.zero_le _ | decide | omega)⟩ rfl rfl (Nat.le_of_ble_eq_true rfl) ?_
    refine z_astore dX2_obtain_6 (by decide) rfl ?_
    refine z_aload dX2_obtain_8 rfl rfl ?_
    refine z_ifnull (tgt := 37) rfl dX2_obtain_10 (by decide) (fun h10 => ?_) (fun h10 => ?_)
    · refine z_new dX2_obtain_37 nw_RX2_38 (by decide) (by decide) (fun a fa => ?_)
      refine z_dup dX2_obtain_40 rfl ?_
      have hWa := hW.out (mset_fresh (e := ob 4 [.int 0, .int 0, .int 0, .int 0, .null, .null, .int 0, .int 0]) fa)
      have hSa := hWa.store
      have hla := hWa.ulst
      have hsz := c_ul_size hWa
      refine z_aload_n dX2_obtain_41 rfl rfl ?_
      refine z_getfield dX2_obtain_42 fg_RX2_12 (by assumption) rfl ?_
      refine z_ivI dX2_obtain_45 cv_RX2_30 hla (hsz) ⟨⟨by decide, by decide⟩, (by first | exact Nat.zero_le _ | decide | omega), (by first | exact Nat.zero_le _ | decide | omega)⟩ rfl rfl (Nat.le_of_ble_eq_true rfl) ?_
      refine z_iload_n dX2_obtain_48 rfl ?_
      refine z_iload_n dX2_obtain_49 rfl ?_
      refine z_ipQ dX2_obtain_50 ci_RX2_61 (c_X3_init g d v mset_eq) ⟨⟨by decide, by decide⟩, (by first | exact Nat.zero_le _ | decide | omega), (by first | exact Nat.zero_le _ | decide | omega)⟩ rfl rfl (Nat.le_of_ble_eq_true rfl) (fun M50 hQ50 => ?_)
      obtain ⟨p, q, ⟨fp', fq', hpq⟩, ha50, hp50, hq50, ho50⟩ := hQ50
      have hap : a ≠ p := fun e => by rw [← e, mset_eq] at fp'; cases fp'
      have haq : a ≠ q := fun e => by rw [← e, mset_eq] at fq'; cases fq'
      have fp : M p = none := by rw [mset_ne (Ne.symm hap)] at fp'; exact fp'
      have fq : M q = none := by rw [mset_ne (Ne.symm haq)] at fq'; exact fq'
      have keep50 : ∀ z e, M z = some e → M50 z = some e := fun z e hz => by
        rw [ho50 z (fun c => by rw [c, fa] at hz; cases hz) (fun c => by rw [c, fp] at hz; cases hz) (fun c => by rw [c, fq] at hz; cases hz)]
        exact mset_fresh fa z e hz
      refine z_astore dX2_obtain_53 (by decide) rfl ?_
      refine z_aload dX2_obtain_55 rfl rfl ?_
      refine z_iload_n dX2_obtain_57 rfl ?_
      refine z_putfield dX2_obtain_58 (fp_RX2_48 _) ha50 (Nat.le_of_ble_eq_true rfl) rfl rfl ?_
      have keep58 : ∀ z e, M z = some e → mset M50 a (ob 4 [.int (nI σ.un), .int (bI d), .int v, .int (dig v), .ref p, .ref q, .int (nI w), .int 0]) z = some e := fun z e hz => by
        rw [mset_ne (fun c => by rw [c, fa] at hz; cases hz)]
        exact keep50 z e hz
      have hW58 := hW.out keep58
      have hS58 := hW58.store
      have hl58 := hW58.ulst
      have hIn : LIn g (mset M50 a (ob 4 [.int (nI σ.un), .int (bI d), .int v, .int (dig v), .ref p, .ref q, .int (nI w), .int 0])) (if σ.un = 0 then g.E else A 8 0) σ.un (σ.a 8 0) (fun j => A 13 j) 4 := by
        by_cases h0 : σ.un = 0
        · exact Or.inl ⟨if_pos h0, h0⟩
        · rw [if_neg h0]
          have hc := hC.1
          exact Or.inr ⟨hW58.udata0 (by omega), by omega, by omega, hC.2.1, fun j hj => ⟨_, hW58.unit hj⟩⟩
      refine z_aload_n dX2_obtain_61 rfl rfl ?_
      refine z_getfield dX2_obtain_62 fg_RX2_12 hS58 rfl ?_
      refine z_aload dX2_obtain_65 rfl rfl ?_
      refine z_ivQ dX2_obtain_67 cv_RX2_64 hl58 (c_L_add g hl58 mset_eq (by decide) (by omega) cvO_4 hIn) ⟨⟨by decide, by decide⟩, (by first | exact Nat.zero_le _ | decide | omega), (by first | exact Nat.zero_le _ | decide | omega)⟩ rfl rfl (Nat.le_of_ble_eq_true rfl) (fun M67 hQ67 => ?_)
      obtain ⟨r, cap, g1, g2, g3, g4, g5, g6, g7⟩ := hQ67
      have fr : M r = none ∨ (r = A 8 0 ∧ 1 ≤ σ.un) := by
        rcases g1 with g1 | ⟨g1, g1'⟩
        · left
          cases hz : M r with
          | none => rfl
          | some e => exact absurd ((keep58 r e hz).symm.trans g1) (fun c => by cases c)
        · right
          rw [if_neg (by omega)] at g1
          exact ⟨g1, g1'⟩
      have hrn : ∀ z, M z = none → mset M50 a (ob 4 [.int (nI σ.un), .int (bI d), .int v, .int (dig v), .ref p, .ref q, .int (nI w), .int 0]) z ≠ none → r ≠ z := fun z hz hn e => by
        rcases g1 with g1 | ⟨g1, g1'⟩
        · exact hn (by rw [← e]; exact g1)
        · rw [if_neg (by omega)] at g1
          have := hW.udata (by omega)
          rw [← g1, e, hz] at this
          cases this
      have hra : r ≠ a := hrn a fa (by rw [mset_eq]; exact fun e => by cases e)
      have hrp : r ≠ p := hrn p fp (by rw [mset_ne (Ne.symm hap), hp50]; exact fun e => by cases e)
      have hrq : r ≠ q := hrn q fq (by rw [mset_ne (Ne.symm haq), hq50]; exact fun e => by cases e)
      have n7 : ∀ z, M z = none → z ≠ A 7 0 := fun z hz e => by
        have := hW.ulist
        rw [← e, hz] at this
        cases this
      have W1 := hW.newUnit (M' := M67) hw (cap := cap) (w := w) (d := d) (v := v) fa fp fq fr hap haq hpq hra hrp hrq (by rw [g5, nI_add]) g6 (by rw [g7 a (n7 a fa) (Ne.symm hra), mset_eq]; rfl) (by rw [g7 p (n7 p fp) (Ne.symm hrp), mset_ne (Ne.symm hap), hp50]) (by rw [g7 q (n7 q fq) (Ne.symm hrq), mset_ne (Ne.symm haq), hq50]) (fun z z7 zr za zp zq => by rw [g7 z z7 zr, mset_ne za, ho50 z za zp zq, mset_ne za]) zc zh
      have e13 : nuA A σ.un a p q r 13 σ.un = a := by simp [nuA]
      have e14 : nuA A σ.un a p q r 14 σ.un = p := by simp [nuA]
      have e15 : nuA A σ.un a p q r 15 σ.un = q := by simp [nuA]
      have eun : (nuS σ d v w cap).un = σ.un + 1 := by simp [nuS, ST.n, ST.sn, ST.sa, ST.sb, ST.si, f1]
      have t5 : (nuS σ d v w cap).a 5 σ.un = w := by simp [nuS, ST.a, ST.sn, ST.sa, ST.sb, ST.si, f2]
      have hS67 := W1.store
      have hL1 : LD (nuS σ d v w cap) := fun t ht => (hL t ht).trans (ldn_cp (σ := σ) (τ := nuS σ d v w cap) 100 (fun _ _ => rfl)).symm
      have kp67 : ∀ z, M z ≠ none → (∀ k i, wdom σ k i → A k i ≠ z) → M67 z = M z := fun z h1 h3 => by
        have za : z ≠ a := fun e => h1 (by rw [e]; exact fa)
        have zp : z ≠ p := fun e => h1 (by rw [e]; exact fp)
        have zq : z ≠ q := fun e => h1 (by rw [e]; exact fq)
        have zr : z ≠ r := fun e => by
          rcases fr with fr | ⟨fr, fu⟩
          · exact h1 (by rw [e]; exact fr)
          · exact h3 8 0 ⟨rfl, fu⟩ (by rw [e]; exact fr.symm)
        rw [g7 z (Ne.symm (h3 7 0 ⟨by decide, rfl⟩)) zr, mset_ne za, ho50 z za zp zq, mset_ne za]
      have hcon := c_X2_placeCopies (F := fun M' => ∀ z, M z ≠ none → (∀ k i, wdom σ k i → A k i ≠ z) → M' z = M z) g W1 hL1 (u := σ.un) (fun M1 e hf => ⟨fun z h1 h3 => by rw [e14, mset_ne (fun c => h1 (by rw [c]; exact fp))]; exact hf z h1 h3, fun z h1 h3 => by rw [e15, mset_ne (fun c => h1 (by rw [c]; exact fq))]; exact hf z h1 h3, fun z h1 h3 => (mset_ne (Ne.symm (h3 10 0 ⟨by decide, rfl⟩))).trans (hf z h1 h3)⟩) kp67 (by rw [eun]; omega) hun (by rw [t5]; exact hwt) v
      rw [e13] at hcon
      refine z_pop dX2_obtain_70 rfl ?_
      refine z_aload_n dX2_obtain_71 rfl rfl ?_
      refine z_aload dX2_obtain_72 rfl rfl ?_
      refine z_iload_n dX2_obtain_74 rfl ?_
      refine z_ivQ dX2_obtain_75 cv_RX2_68 hS67 (hcon) ⟨⟨by decide, by decide⟩, (by first | exact Nat.zero_le _ | decide | omega), (by first | exact Nat.zero_le _ | decide | omega)⟩ rfl rfl (Nat.le_of_ble_eq_true rfl) (fun M75 hQ75 => ?_)
      refine z_pop dX2_obtain_78 rfl ?_
      refine z_aload dX2_obtain_79 rfl rfl ?_
      refine z_areturn dX2_obtain_81 rfl rfl (by first | exact Or.inl ⟨_, rfl⟩ | exact Or.inr ⟨_, rfl⟩) ?_
      have hob : obS σ w d v cap = plK (nuS σ d v w cap) σ.un v := by unfold obS; rw [hu]
      refine rN_of ⟨nuA A σ.un a p q r, cap, by rw [eF, e13], ⟨g3, g4⟩, by rw [hob]; exact hQ75.1, fun k i hd h8 => ?_, hQ75.2, fun z h1 h3 k i hd e => ?_⟩
      · have hlt : k = 13 ∨ k = 14 ∨ k = 15 → i ≠ σ.un := fun hk => by
          rcases hk with rfl | rfl | rfl <;> exact Nat.ne_of_lt hd
        unfold nuA
        rw [if_neg h8, if_neg (fun z => hlt (Or.inl z.1) z.2), if_neg (fun z => hlt (Or.inr (Or.inl z.1)) z.2), if_neg (fun z => hlt (Or.inr (Or.inr z.1)) z.2)]
      · rw [hob] at hd
        have hs := plcs_same σ.un v ((nuS σ d v w cap).a 5 σ.un - cpc (nuS σ d v w cap) σ.un 4) (nuS σ d v w cap)
        have eu : (plK (nuS σ d v w cap) σ.un v).un = σ.un + 1 := (congrFun hs.1 2).trans eun
        have eo : (plK (nuS σ d v w cap) σ.un v).ob = σ.ob := congrFun hs.1 1
        have e1 : (plK (nuS σ d v w cap) σ.un v).a 1 = σ.a 1 := (hs.2.1 1 (by decide)).trans rfl
        unfold nuA at e
        by_cases k8 : k = 8
        · rw [if_pos k8] at e
          rcases fr with fr | ⟨fr, fu⟩
          · exact h1 (by rw [← e]; exact fr)
          · exact h3 8 0 ⟨rfl, fu⟩ (by rw [← e]; exact fr.symm)
        · rw [if_neg k8] at e
          by_cases k13 : k = 13 ∧ i = σ.un
          · rw [if_pos k13] at e
            exact h1 (by rw [← e]; exact fa)
          · rw [if_neg k13] at e
            by_cases k14 : k = 14 ∧ i = σ.un
            · rw [if_pos k14] at e
              exact h1 (by rw [← e]; exact fp)
            · rw [if_neg k14] at e
              by_cases k15 : k = 15 ∧ i = σ.un
              · rw [if_pos k15] at e
                exact h1 (by rw [← e]; exact fq)
              · rw [if_neg k15] at e
                exact h3 k i (wdom_nu eu eo e1 k8 k13 k14 k15 hd) e
    · exact absurd rfl h10
end OBTAIN
