/-! the law's steps: formats -/
/-- behind a step -/
def JQ (g : GG) (A0 : Nat → Nat → Nat) (B : Nat) : Mem → Prop := fun M => ∃ (τ : ST) (ar : Nat → Nat → Int32) (dm tg : Bool), INV (B + 1000) τ ∧ PI τ dm tg ∧ LR τ ar dm tg ∧ LE τ ar 1000 ∧ WA g A0 τ ar M
theorem SO_refl (σ : ST) : SO σ σ := ⟨rfl, fun _ => ⟨rfl, rfl, rfl, rfl⟩, fun _ => ⟨rfl, rfl⟩, fun _ => rfl⟩
theorem LR_sim {σ τ : ST} {ar : Nat → Nat → Int32} {dm tg : Bool} (h : LR σ ar dm tg) (s : sim σ τ) : LR τ ar dm tg := by
  obtain ⟨a1, a2, a3, a4, -, -, -⟩ := sim_u s
  have en : τ.fo = σ.fo := a4 0
  refine LR_so h (SO_sim (SO_refl σ) s) ⟨by rw [en]; exact h.2.1.1, rfl, ?_, h.2.1.2.2.2.1, h.2.1.2.2.2.2⟩ (fun f hf => ?_) (fun _ _ => ⟨rfl, rfl, rfl⟩) (fun _ => rfl)
  · rw [h.2.1.2.2.1]
    exact bset_ext 4 (fun k _ => (a2 4 k).symm)
  · rw [en] at hf
    rw [a3 0 (by decide)]
    exact h.2.2.1 f hf
theorem LE_sim {σ τ : ST} {ar : Nat → Nat → Int32} {x : Nat} (h : LE σ ar x) (s : sim σ τ) : LE τ ar x := LE_so h (SO_sim (SO_refl σ) s) (fun _ => rfl)
theorem f2_id {α : Type} (f : Nat → Nat → α) (a k : Nat) : f2 f a k (f a k) = f := by
  funext b j
  unfold f2
  split
  · rename_i h
    rw [h.1, h.2]
  · rfl
theorem inK_no {q : Nat} (h : 100 < q) (hq : q < 2 ^ 31) : inK 0 100 (nI q) = false := decide_eq_false (fun z => absurd z.2 (nI_ge h hq))
section STEPF
variable (g : GG) {A0 : Nat → Nat → Nat} {B : Nat} {σ : ST} {ar : Nat → Nat → Int32} {dm tg : Bool} {M : Mem}
theorem JQ_same {g : GG} (hP : PI σ dm tg) (hR : LR σ ar dm tg) (hE : LE σ ar 1000) {o : OP} (ho : o.2.2 = σ) (h : MA g A0 B o ar M) : JQ g A0 B M := by
  obtain ⟨τ, i1, s1, w1⟩ := h
  rw [ho] at s1
  exact ⟨τ, ar, dm, tg, i1, PI_sim hP s1, LR_sim hR s1, LE_sim hE s1, w1⟩
theorem JQ_so {g : GG} {ar' : Nat → Nat → Int32} {dm' tg' : Bool} {σ' : ST} (hR : LR σ ar dm tg) (hE : LE σ ar 1000) (hs : SO σ σ') (hP' : PI σ' dm' tg') {o : OP} (ho : o.2.2 = σ') (h : MA g A0 B o ar' M) (e3 : ar' 3 0 = nI σ'.fo ∧ ar' 3 1 = ar 3 1 ∧ ar' 3 2 = bset (σ'.b 4) 4 ∧ ar' 3 3 = bI dm' ∧ ar' 3 4 = bI tg') (ef : ∀ f, f < σ'.fo → ar' 1 (6 + f) = σ'.i 0 f ∧ inK 0 100 (σ'.i 0 f) = true) (ej : ∀ j, j < 6 → ar' 1 j = ar 1 j ∧ ar' 2 j = ar 2 j ∧ ar' 2 (6 + j) = ar 2 (6 + j)) (e0 : ∀ w, ar' 0 w = ar 0 w) (e4 : ∀ w, ar' 4 w = ar 4 w) : JQ g A0 B M := by
  obtain ⟨τ, i1, s1, w1⟩ := h
  rw [ho] at s1
  exact ⟨τ, ar', dm', tg', i1, PI_sim hP' s1, LR_sim (LR_so hR hs e3 ef ej e0) s1, LE_sim (LE_so hE hs e4) s1, w1⟩
theorem c_L_isFormat0 (hI : INV B σ) (hP : PI σ dm tg) (hR : LR σ ar dm tg) (hE : LE σ ar 1000) (h : WA g A0 σ ar M) {one two three : Nat} (h2 : two < 2 ^ 31) : con g mL_isFormat 5 30 [.ref (A0 0 0), .ref (A0 20 1), .ref (A0 20 3), .int (nI 0), .int (nI one), .int (nI two), .int (nI three)] M (rQ (some (.int (nI 1))) (JQ g A0 B)) := by
  refine con_i ?_ (by decide) rfl rfl (by simp [lv_args, Value.category]) (by simp [lv_args, lnd, Value.category])
  have hR2 := hR
  obtain ⟨g1, ⟨g2, g3, g4, g5, g6⟩, g7, g8, g9⟩ := hR2
  have h8 := hI.li.1
  have er : nI two - nI two / nI 103 * nI 103 = nI (two % 103) := pk_rem h2 (by decide) (by decide)
  generalize hr : two % 103 = r at er
  have hr3 : r < 103 := by omega
  by_cases hr1 : r ≤ 100
  · by_cases hf : σ.fo = 8
    · have eo : o_addFormat σ (nI r) = (2, nI 0, σ) := by
        unfold o_addFormat
        rw [if_pos (inK_n hr1), if_pos hf]
      refine z_iload_n dL_isFormat_0 rfl ?_
      refine z_if_ne (tgt := 84) dL_isFormat_1 (by decide) (fun h1 => absurd h1 (by decide)) (fun h1 => ?_)
      refine z_iload dL_isFormat_4 rfl ?_
      refine z_bi kb_103 dL_isFormat_6 ?_
      refine z_irem dL_isFormat_8 (by decide) ?_
      rw [er]
      refine z_bi kb_100 dL_isFormat_9 ?_
      refine z_icmp_le (tgt := 19) dL_isFormat_11 (by decide) (fun h11 => ?_) (fun h11 => absurd (nI_le hr1 (by decide)) h11)
      refine z_aload_n dL_isFormat_19 rfl rfl ?_
      refine z_ic ki_0 dL_isFormat_20 ?_
      refine z_iaload dL_isFormat_21 (WA_3 h) rfl (by decide) (by decide) ?_
      rw [g2, hf]
      refine z_bi kb_8 dL_isFormat_22 ?_
      refine z_icmp_ne (tgt := 32) dL_isFormat_24 (by decide) (fun h24 => absurd h24 (fun q => q rfl)) (fun h24 => ?_)
      refine z_bi kb_m10 dL_isFormat_27 ?_
      refine z_goto (tgt := 35) dL_isFormat_29 (by decide) ?_
      refine z_istore dL_isFormat_35 (by decide) ?_
      refine z_iload dL_isFormat_37 rfl ?_
      refine z_if_lt (tgt := 61) dL_isFormat_39 (by decide) (fun h39 => ?_) (fun h39 => absurd (by decide) h39)
      refine z_aload_n dL_isFormat_61 rfl rfl ?_
      refine z_ic ki_0 dL_isFormat_62 ?_
      refine z_iload dL_isFormat_63 rfl ?_
      refine z_bi kb_103 dL_isFormat_65 ?_
      refine z_irem dL_isFormat_67 (by decide) ?_
      rw [er]
      refine z_ic ki_0 dL_isFormat_68 ?_
      refine z_ic ki_0 dL_isFormat_69 ?_
      refine z_isXQ (dd := mL_formats) dL_isFormat_70 cw_RL_96 rfl ⟨by decide, by decide⟩ (n := 5) (by decide +kernel) (h_addFormat g hI h (nI r) (nI 0) (nI 0)) ⟨⟨by decide, by decide⟩, (by first | exact Nat.zero_le _ | decide | omega), (by first | exact Nat.zero_le _ | decide | omega)⟩ rfl rfl (Nat.le_of_ble_eq_true rfl) (fun M70 hQ70 => ?_)
      refine z_iload dL_isFormat_73 rfl ?_
      refine z_icmp_ne (tgt := 82) dL_isFormat_75 (by decide) (fun h75 => absurd h75 (fun q => q (tl_2 (by rw [eo])))) (fun h75 => ?_)
      refine z_ic ki_1 dL_isFormat_78 ?_
      refine z_goto (tgt := 83) dL_isFormat_79 (by decide) ?_
      refine z_ireturn dL_isFormat_83 rfl (by first | rfl | exact bI_nar _) ?_
      exact rQ_of (JQ_same hP hR hE (by rw [eo]) hQ70)
    · have eo : o_addFormat σ (nI r) = (0, nI σ.fo, (σ.si 0 σ.fo (nI r)).sn 0 (σ.fo + 1)) := by
        unfold o_addFormat
        rw [if_pos (inK_n hr1), if_neg hf]
      have hw1 := WA_p1 h (6 + σ.fo) (nI r)
      have e30 : f2 ar 1 (6 + σ.fo) (nI r) 3 0 = nI σ.fo := (f2_n (fun q => absurd q.1 (by decide))).trans g2
      have hw2 := WA_p3 hw1 0 (nI σ.fo + nI 1)
      refine z_iload_n dL_isFormat_0 rfl ?_
      refine z_if_ne (tgt := 84) dL_isFormat_1 (by decide) (fun h1 => absurd h1 (by decide)) (fun h1 => ?_)
      refine z_iload dL_isFormat_4 rfl ?_
      refine z_bi kb_103 dL_isFormat_6 ?_
      refine z_irem dL_isFormat_8 (by decide) ?_
      rw [er]
      refine z_bi kb_100 dL_isFormat_9 ?_
      refine z_icmp_le (tgt := 19) dL_isFormat_11 (by decide) (fun h11 => ?_) (fun h11 => absurd (nI_le hr1 (by decide)) h11)
      refine z_aload_n dL_isFormat_19 rfl rfl ?_
      refine z_ic ki_0 dL_isFormat_20 ?_
      refine z_iaload dL_isFormat_21 (WA_3 h) rfl (by decide) (by decide) ?_
      rw [g2]
      refine z_bi kb_8 dL_isFormat_22 ?_
      refine z_icmp_ne (tgt := 32) dL_isFormat_24 (by decide) (fun h24 => ?_) (fun h24 => absurd h24 (fun q => hf ((nI_eq (by omega) (by decide)).mp q)))
      refine z_aload_n dL_isFormat_32 rfl rfl ?_
      refine z_ic ki_0 dL_isFormat_33 ?_
      refine z_iaload dL_isFormat_34 (WA_3 h) rfl (by decide) (by decide) ?_
      rw [g2]
      refine z_istore dL_isFormat_35 (by decide) ?_
      refine z_iload dL_isFormat_37 rfl ?_
      refine z_if_lt (tgt := 61) dL_isFormat_39 (by decide) (fun h39 => absurd h39 (nI_pos (by omega))) (fun h39 => ?_)
      refine z_aload_n dL_isFormat_42 rfl rfl ?_
      refine z_bi kb_6 dL_isFormat_43 ?_
      refine z_iload dL_isFormat_45 rfl ?_
      refine z_iadd dL_isFormat_47 ?_
      refine z_iload dL_isFormat_48 rfl ?_
      refine z_bi kb_103 dL_isFormat_50 ?_
      refine z_irem dL_isFormat_52 (by decide) ?_
      rw [er]
      refine z_iastore dL_isFormat_53 (WA_1 h) (nI_add 6 σ.fo) (by omega) (by decide) ?_
      refine z_aload_n dL_isFormat_54 rfl rfl ?_
      refine z_ic ki_0 dL_isFormat_55 ?_
      refine z_dup2 dL_isFormat_56 rfl rfl ?_
      refine z_iaload dL_isFormat_57 (WA_3 hw1) rfl (by decide) (by decide) ?_
      rw [e30]
      refine z_ic ki_1 dL_isFormat_58 ?_
      refine z_iadd dL_isFormat_59 ?_
      refine z_iastore dL_isFormat_60 (WA_3 hw1) rfl (by decide) (by decide) ?_
      refine z_aload_n dL_isFormat_61 rfl rfl ?_
      refine z_ic ki_0 dL_isFormat_62 ?_
      refine z_iload dL_isFormat_63 rfl ?_
      refine z_bi kb_103 dL_isFormat_65 ?_
      refine z_irem dL_isFormat_67 (by decide) ?_
      rw [er]
      refine z_ic ki_0 dL_isFormat_68 ?_
      refine z_ic ki_0 dL_isFormat_69 ?_
      refine z_isXQ (dd := mL_formats) dL_isFormat_70 cw_RL_96 rfl ⟨by decide, by decide⟩ (n := 5) (by decide +kernel) (h_addFormat g hI hw2 (nI r) (nI 0) (nI 0)) ⟨⟨by decide, by decide⟩, (by first | exact Nat.zero_le _ | decide | omega), (by first | exact Nat.zero_le _ | decide | omega)⟩ rfl rfl (Nat.le_of_ble_eq_true rfl) (fun M70 hQ70 => ?_)
      refine z_iload dL_isFormat_73 rfl ?_
      refine z_icmp_ne (tgt := 82) dL_isFormat_75 (by decide) (fun h75 => absurd h75 (fun q => q (by rw [tl_0 (by rw [eo]), eo]))) (fun h75 => ?_)
      refine z_ic ki_1 dL_isFormat_78 ?_
      refine z_goto (tgt := 83) dL_isFormat_79 (by decide) ?_
      refine z_ireturn dL_isFormat_83 rfl (by first | rfl | exact bI_nar _) ?_
      have e0 : ∀ i k, i ≠ 1 → i ≠ 3 → f2 (f2 ar 1 (6 + σ.fo) (nI r)) 3 0 (nI σ.fo + nI 1) i k = ar i k := fun i k q1 q3 => by
        rw [f2_a q3, f2_a q1]
      have e3 : ∀ k, k ≠ 0 → f2 (f2 ar 1 (6 + σ.fo) (nI r)) 3 0 (nI σ.fo + nI 1) 3 k = ar 3 k := fun k q => by
        rw [f2_n (fun z => q z.2)]
        exact f2_n (fun z => absurd z.1 (by decide))
      have e1 : ∀ k, f2 (f2 ar 1 (6 + σ.fo) (nI r)) 3 0 (nI σ.fo + nI 1) 1 k = if k = 6 + σ.fo then nI r else ar 1 k := fun k => by
        rw [f2_a (by decide)]
        unfold f2
        by_cases q : k = 6 + σ.fo
        · rw [if_pos ⟨rfl, q⟩, if_pos q]
        · rw [if_neg (fun z => q z.2), if_neg q]
      have hP' : PI ((σ.si 0 σ.fo (nI r)).sn 0 (σ.fo + 1)) dm tg := PI_eq hP rfl rfl (fun _ _ => rfl) (fun _ => rfl) (fun _ => rfl) (fun _ => rfl) (fun _ => rfl) (fun _ _ => rfl) (fun _ _ => rfl)
      have hs : SO σ ((σ.si 0 σ.fo (nI r)).sn 0 (σ.fo + 1)) := ⟨rfl, fun _ => ⟨rfl, rfl, rfl, rfl⟩, fun _ => ⟨rfl, rfl⟩, fun _ => rfl⟩
      refine rQ_of (JQ_so hR hE hs hP' (by rw [eo]) hQ70 ⟨?_, e3 1 (by decide), ?_, ?_, ?_⟩ (fun f hf2 => ?_) (fun j hj => ⟨?_, e0 2 _ (by decide) (by decide), e0 2 _ (by decide) (by decide)⟩) (fun w => e0 0 _ (by decide) (by decide)) (fun w => e0 4 _ (by decide) (by decide)))
      · rw [f2_s]
        exact nI_add σ.fo 1
      · rw [e3 2 (by decide), g4]
        rfl
      · rw [e3 3 (by decide), g5]
      · rw [e3 4 (by decide), g6]
      · have hf2 : f < σ.fo + 1 := hf2
        rw [e1]
        by_cases q : f = σ.fo
        · rw [q, if_pos rfl]
          have ei : ((σ.si 0 σ.fo (nI r)).sn 0 (σ.fo + 1)).i 0 σ.fo = nI r := f2_s
          rw [ei]
          exact ⟨rfl, inK_n hr1⟩
        · rw [if_neg (by omega)]
          have ei : ((σ.si 0 σ.fo (nI r)).sn 0 (σ.fo + 1)).i 0 f = σ.i 0 f := f2_n (fun z => q z.2)
          rw [ei]
          exact g7 f (by omega)
      · rw [e1, if_neg (by omega)]
  · have eo : o_addFormat σ (nI r) = (1, nI 0, σ) := by
      unfold o_addFormat
      rw [inK_no (by omega) (by omega), if_neg (by decide)]
    refine z_iload_n dL_isFormat_0 rfl ?_
    refine z_if_ne (tgt := 84) dL_isFormat_1 (by decide) (fun h1 => absurd h1 (by decide)) (fun h1 => ?_)
    refine z_iload dL_isFormat_4 rfl ?_
    refine z_bi kb_103 dL_isFormat_6 ?_
    refine z_irem dL_isFormat_8 (by decide) ?_
    rw [er]
    refine z_bi kb_100 dL_isFormat_9 ?_
    refine z_icmp_le (tgt := 19) dL_isFormat_11 (by decide) (fun h11 => absurd h11 (nI_ge (by omega) (by omega))) (fun h11 => ?_)
    refine z_bi kb_m20 dL_isFormat_14 ?_
    refine z_goto (tgt := 35) dL_isFormat_16 (by decide) ?_
    refine z_istore dL_isFormat_35 (by decide) ?_
    refine z_iload dL_isFormat_37 rfl ?_
    refine z_if_lt (tgt := 61) dL_isFormat_39 (by decide) (fun h39 => ?_) (fun h39 => absurd (by decide) h39)
    refine z_aload_n dL_isFormat_61 rfl rfl ?_
    refine z_ic ki_0 dL_isFormat_62 ?_
    refine z_iload dL_isFormat_63 rfl ?_
    refine z_bi kb_103 dL_isFormat_65 ?_
    refine z_irem dL_isFormat_67 (by decide) ?_
    rw [er]
    refine z_ic ki_0 dL_isFormat_68 ?_
    refine z_ic ki_0 dL_isFormat_69 ?_
    refine z_isXQ (dd := mL_formats) dL_isFormat_70 cw_RL_96 rfl ⟨by decide, by decide⟩ (n := 5) (by decide +kernel) (h_addFormat g hI h (nI r) (nI 0) (nI 0)) ⟨⟨by decide, by decide⟩, (by first | exact Nat.zero_le _ | decide | omega), (by first | exact Nat.zero_le _ | decide | omega)⟩ rfl rfl (Nat.le_of_ble_eq_true rfl) (fun M70 hQ70 => ?_)
    refine z_iload dL_isFormat_73 rfl ?_
    refine z_icmp_ne (tgt := 82) dL_isFormat_75 (by decide) (fun h75 => absurd h75 (fun q => q (tl_1 (by rw [eo])))) (fun h75 => ?_)
    refine z_ic ki_1 dL_isFormat_78 ?_
    refine z_goto (tgt := 83) dL_isFormat_79 (by decide) ?_
    refine z_ireturn dL_isFormat_83 rfl (by first | rfl | exact bI_nar _) ?_
    exact rQ_of (JQ_same hP hR hE (by rw [eo]) hQ70)
end STEPF
