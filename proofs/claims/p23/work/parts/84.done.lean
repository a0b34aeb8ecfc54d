/-! the law's step -/
theorem LR_r {σ : ST} {ar ar' : Nat → Nat → Int32} {dm tg : Bool} (h : LR σ ar dm tg) (e : ∀ i, i ≠ 4 → ar' i = ar i) : LR σ ar' dm tg := by
  obtain ⟨g1, g2, g3, g4, g5⟩ := h
  have e0 := e 0 (by decide)
  have e1 := e 1 (by decide)
  have e2 := e 2 (by decide)
  have e3 := e 3 (by decide)
  unfold LR
  rw [e0, e1, e2, e3]
  exact ⟨g1, g2, g3, g4, g5⟩
section STEPX
variable (g : GG) {A0 : Nat → Nat → Nat} {B : Nat} {σ : ST} {ar : Nat → Nat → Int32} {dm tg : Bool} {M : Mem}
/-- the formats of versions are told anew -/
theorem done_loop {a8 a9 a10 a11 at' : Int32} (hj : JA g A0 B M) : tri g mL_isDone 0 0 (rQ (some (.int (nI 1))) (JQ g A0 B)) M 154 [(0, .ref (A0 0 0)), (1, .ref g.b), (2, .int at'), (3, .ref (A0 20 0)), (4, .ref (A0 20 1)), (5, .ref (A0 20 2)), (6, .ref (A0 20 3)), (7, .ref (A0 20 4)), (8, .int a8), (9, .int a9), (10, .int a10), (11, .int a11), (12, .int (nI 1)), (13, .int (nI 0))] [] := by
  obtain ⟨τ, ar, dm, tg, x, hI, hP, hR, hE, hx, hw⟩ := hj
  have hR2 := hR
  obtain ⟨g1, ⟨g2, g3, g4, g5, g6⟩, g7, g8, g9⟩ := hR2
  have h10 := hI.wf.1.1
  have loop : ∀ k, k ≤ τ.ob → ∀ (M' : Mem) (ar' : Nat → Nat → Int32) (y : Nat) x13, WA g A0 τ ar' M' → (∀ i, i ≠ 4 → ar' i = ar i) → LE τ ar' y → (y = 1000 ∨ ∃ o n, k ≤ o ∧ o < τ.ob ∧ τ.a 1 o = n + 1 ∧ y = 10 * o + n) → x13 = nI k → tri g mL_isDone 0 0 (rQ (some (.int (nI 1))) (JQ g A0 B)) M' 154 [(0, .ref (A0 0 0)), (1, .ref g.b), (2, .int at'), (3, .ref (A0 20 0)), (4, .ref (A0 20 1)), (5, .ref (A0 20 2)), (6, .ref (A0 20 3)), (7, .ref (A0 20 4)), (8, .int a8), (9, .int a9), (10, .int a10), (11, .int a11), (12, .int (nI 1)), (13, .int x13)] [] := by
    refine lp_up τ.ob ?_ ?_
    · intro M' ar' y x13 hw he hE hy e13
      subst e13
      have hy2 : y = 1000 := by
        rcases hy with q | ⟨o, n, q1, q2, -⟩
        · exact q
        · omega
      refine z_iload dL_isDone_154 rfl ?_
      refine z_aload dL_isDone_156 rfl rfl ?_
      refine z_ic ki_1 dL_isDone_158 ?_
      refine z_iaload dL_isDone_159 (WA_3 hw) rfl (by decide) (by decide) ?_
      rw [he 3 (by decide), g3]
      refine z_icmp_ge (tgt := 231) dL_isDone_160 (by decide) (fun h160 => ?_) (fun h160 => absurd (nI_le (by omega) (by omega)) h160)
      refine z_iload dL_isDone_231 rfl ?_
      refine z_ireturn dL_isDone_233 rfl (by first | rfl | exact bI_nar _) ?_
      rw [hy2] at hE
      exact rQ_of ⟨τ, ar', dm, tg, hI, hP, LR_r hR he, hE, hw⟩
    · intro k hk ih M' ar' y x13 hw he hE hy e13
      subst e13
      obtain ⟨k1, k2, k3⟩ := g8 k hk
      have hn10 := hI.wf.2.1 k hk
      have hn1 := (hI.cap.2.2.2.2 k hk).1
      obtain ⟨n, hn⟩ : ∃ n, τ.a 1 k = n + 1 := ⟨τ.a 1 k - 1, by omega⟩
      rw [hn] at k1 hn10
      have e189 : nI (n + 1) - nI 1 = nI n := by rw [pk_sub (by omega)]; rfl
      have e177 : nI 10 * nI k + nI (n + 1) - nI 1 = nI (10 * k + n) := by rw [ix10, pk_sub (by omega)]; rfl
      have etb : (bset (fun i => τ.b 0 (10 * k + i)) 10 >>> (nI n &&& 31)) &&& nI 1 = bI (τ.b 0 (10 * k + n)) := tx10 _ (by omega)
      have f1' : ar' 1 k = nI (n + 1) := by rw [he 1 (by decide), k1]
      have f2' : ar' 2 k = bset (fun i => τ.b 0 (10 * k + i)) 10 := by rw [he 2 (by decide), k2]
      have f3' : ar' 2 (6 + k) = nI (τ.a 2 (latn τ k 10)) := by rw [he 2 (by decide), k3]
      have hyn : (if y = 10 * k + n then 1000 else y) = 1000 ∨ ∃ o m, k + 1 ≤ o ∧ o < τ.ob ∧ τ.a 1 o = m + 1 ∧ (if y = 10 * k + n then 1000 else y) = 10 * o + m := by
        by_cases q : y = 10 * k + n
        · rw [if_pos q]
          exact Or.inl rfl
        · rw [if_neg q]
          rcases hy with z | ⟨o, m, z1, z2, z3, z4⟩
          · exact Or.inl z
          · refine Or.inr ⟨o, m, ?_, z2, z3, z4⟩
            by_cases z5 : o = k
            · rw [z5, hn] at z3
              rw [z5] at z4
              omega
            · omega
      cases hb : τ.b 0 (10 * k + n) with
      | true =>
        have hlat : latn τ k 10 = 10 * k + n := latn_is hb 10 (by omega) (fun j h1 h2 => b0_hi hI h2 (by omega))
        have hw2 := WA_p4 hw (10 * k + n) (nI (τ.a 2 (latn τ k 10)))
        have hE2 : LE τ (f2 ar' 4 (10 * k + n) (nI (τ.a 2 (latn τ k 10)))) (if y = 10 * k + n then 1000 else y) := fun w q1 q2 => by
          by_cases z : w = 10 * k + n
          · rw [z, f2_s, hlat]
          · rw [f2_n (fun q => z q.2)]
            refine hE w q1 (fun q => ?_)
            rw [if_neg (by omega)] at q2
            exact q2 q
        have he2 : ∀ i, i ≠ 4 → f2 ar' 4 (10 * k + n) (nI (τ.a 2 (latn τ k 10))) i = ar i := fun i hi => by rw [f2_a hi, he i hi]
        refine z_iload dL_isDone_154 rfl ?_
        refine z_aload dL_isDone_156 rfl rfl ?_
        refine z_ic ki_1 dL_isDone_158 ?_
        refine z_iaload dL_isDone_159 (WA_3 hw) rfl (by decide) (by decide) ?_
        rw [he 3 (by decide), g3]
        refine z_icmp_ge (tgt := 231) dL_isDone_160 (by decide) (fun h160 => absurd h160 (nI_ge hk (by omega))) (fun h160 => ?_)
        refine z_aload dL_isDone_163 rfl rfl ?_
        refine z_bi kb_10 dL_isDone_165 ?_
        refine z_iload dL_isDone_167 rfl ?_
        refine z_imul dL_isDone_169 ?_
        refine z_aload dL_isDone_170 rfl rfl ?_
        refine z_iload dL_isDone_172 rfl ?_
        refine z_iaload dL_isDone_174 (WA_1 hw) rfl (by omega) (by decide) ?_
        rw [f1']
        refine z_iadd dL_isDone_175 ?_
        refine z_ic ki_1 dL_isDone_176 ?_
        refine z_isub dL_isDone_177 ?_
        rw [e177]
        refine z_aload dL_isDone_178 rfl rfl ?_
        refine z_iload dL_isDone_180 rfl ?_
        refine z_iaload dL_isDone_182 (WA_2 hw) rfl (by omega) (by decide) ?_
        rw [f2']
        refine z_aload dL_isDone_183 rfl rfl ?_
        refine z_iload dL_isDone_185 rfl ?_
        refine z_iaload dL_isDone_187 (WA_1 hw) rfl (by omega) (by decide) ?_
        rw [f1']
        refine z_ic ki_1 dL_isDone_188 ?_
        refine z_isub dL_isDone_189 ?_
        rw [e189]
        refine z_ishr dL_isDone_190 ?_
        refine z_ic ki_1 dL_isDone_191 ?_
        refine z_iand dL_isDone_192 ?_
        rw [etb, hb]
        refine z_ic ki_1 dL_isDone_193 ?_
        refine z_icmp_ne (tgt := 208) dL_isDone_194 (by decide) (fun h194 => absurd h194 (fun q => q rfl)) (fun h194 => ?_)
        refine z_aload dL_isDone_197 rfl rfl ?_
        refine z_bi kb_6 dL_isDone_199 ?_
        refine z_iload dL_isDone_201 rfl ?_
        refine z_iadd dL_isDone_203 ?_
        refine z_iaload dL_isDone_204 (WA_2 hw) (nI_add 6 k) (by omega) (by decide) ?_
        rw [f3']
        refine z_goto (tgt := 224) dL_isDone_205 (by decide) ?_
        refine z_iastore dL_isDone_224 (WA_4 hw) rfl (by omega) (by decide) ?_
        refine z_inc ki_1 dL_isDone_225 rfl (by decide) ?_
        refine z_goto (tgt := 154) dL_isDone_228 (by decide) ?_
        exact ih _ _ _ _ hw2 he2 hE2 hyn (nI_add k 1)
      | false =>
        have hw2 := WA_p4 hw (10 * k + n) (ar' 4 (10 * k + n))
        rw [f2_id] at hw2
        have hE2 : LE τ ar' (if y = 10 * k + n then 1000 else y) := fun w q1 q2 => by
          refine hE w q1 (fun q => ?_)
          by_cases z : y = 10 * k + n
          · rw [q, z, hb] at q1
            cases q1
          · rw [if_neg z] at q2
            exact q2 q
        refine z_iload dL_isDone_154 rfl ?_
        refine z_aload dL_isDone_156 rfl rfl ?_
        refine z_ic ki_1 dL_isDone_158 ?_
        refine z_iaload dL_isDone_159 (WA_3 hw) rfl (by decide) (by decide) ?_
        rw [he 3 (by decide), g3]
        refine z_icmp_ge (tgt := 231) dL_isDone_160 (by decide) (fun h160 => absurd h160 (nI_ge hk (by omega))) (fun h160 => ?_)
        refine z_aload dL_isDone_163 rfl rfl ?_
        refine z_bi kb_10 dL_isDone_165 ?_
        refine z_iload dL_isDone_167 rfl ?_
        refine z_imul dL_isDone_169 ?_
        refine z_aload dL_isDone_170 rfl rfl ?_
        refine z_iload dL_isDone_172 rfl ?_
        refine z_iaload dL_isDone_174 (WA_1 hw) rfl (by omega) (by decide) ?_
        rw [f1']
        refine z_iadd dL_isDone_175 ?_
        refine z_ic ki_1 dL_isDone_176 ?_
        refine z_isub dL_isDone_177 ?_
        rw [e177]
        refine z_aload dL_isDone_178 rfl rfl ?_
        refine z_iload dL_isDone_180 rfl ?_
        refine z_iaload dL_isDone_182 (WA_2 hw) rfl (by omega) (by decide) ?_
        rw [f2']
        refine z_aload dL_isDone_183 rfl rfl ?_
        refine z_iload dL_isDone_185 rfl ?_
        refine z_iaload dL_isDone_187 (WA_1 hw) rfl (by omega) (by decide) ?_
        rw [f1']
        refine z_ic ki_1 dL_isDone_188 ?_
        refine z_isub dL_isDone_189 ?_
        rw [e189]
        refine z_ishr dL_isDone_190 ?_
        refine z_ic ki_1 dL_isDone_191 ?_
        refine z_iand dL_isDone_192 ?_
        rw [etb, hb]
        refine z_ic ki_1 dL_isDone_193 ?_
        refine z_icmp_ne (tgt := 208) dL_isDone_194 (by decide) (fun h194 => ?_) (fun h194 => absurd h194 (by decide))
        refine z_aload dL_isDone_208 rfl rfl ?_
        refine z_bi kb_10 dL_isDone_210 ?_
        refine z_iload dL_isDone_212 rfl ?_
        refine z_imul dL_isDone_214 ?_
        refine z_aload dL_isDone_215 rfl rfl ?_
        refine z_iload dL_isDone_217 rfl ?_
        refine z_iaload dL_isDone_219 (WA_1 hw) rfl (by omega) (by decide) ?_
        rw [f1']
        refine z_iadd dL_isDone_220 ?_
        refine z_ic ki_1 dL_isDone_221 ?_
        refine z_isub dL_isDone_222 ?_
        rw [e177]
        refine z_iaload dL_isDone_223 (WA_4 hw) rfl (by omega) (by decide) ?_
        refine z_iastore dL_isDone_224 (WA_4 hw) rfl (by omega) (by decide) ?_
        refine z_inc ki_1 dL_isDone_225 rfl (by decide) ?_
        refine z_goto (tgt := 154) dL_isDone_228 (by decide) ?_
        exact ih _ _ _ _ hw2 he hE2 hyn (nI_add k 1)
  refine loop 0 (Nat.zero_le _) _ _ x _ hw (fun _ _ => rfl) hE ?_ rfl
  rcases hx with q | ⟨o, n, q1, q2, q3⟩
  · exact Or.inl q
  · exact Or.inr ⟨o, n, Nat.zero_le _, q1, q2, q3⟩
theorem c_L_isDone (hL : g.L ≤ 2048) (hI : INV B σ) (hB : 2000000 ≤ B ∧ B ≤ 9000000) (hP : PI σ dm tg) (hR : LR σ ar dm tg) (hE : LE σ ar 1000) (h : WA g A0 σ ar M) {p : Nat} (hp : p < 1000) : con g mL_isDone 65 530 [.ref (A0 0 0), .ref g.b, .int (nI p), .ref (A0 20 0), .ref (A0 20 1), .ref (A0 20 2), .ref (A0 20 3), .ref (A0 20 4)] M (rQ (some (.int (nI 1))) (JQ g A0 B)) := by
  refine con_i ?_ (by decide) rfl rfl (by simp [lv_args, Value.category]) (by simp [lv_args, lnd, Value.category])
  have hR2 := hR
  obtain ⟨g1, ⟨g2, g3, g4, g5, g6⟩, g7, g8, g9⟩ := hR2
  have h8 := hI.li.1
  have p0 : pv g p 30 < 30 := pv_lt g p (by decide)
  have p1 : pv g (p + 1) 6000 < 6000 := pv_lt g _ (by decide)
  have p2 : pv g (p + 2) 7000 < 7000 := pv_lt g _ (by decide)
  have p3 : pv g (p + 3) 8000 < 8000 := pv_lt g _ (by decide)
  have q0 := c_L_part g (M := M) hL (k := p) (n := 30) (by decide) (by decide) (by omega)
  have q1 := c_L_part g (M := M) hL (k := p + 1) (n := 6000) (by decide) (by decide) (by omega)
  have q2 := c_L_part g (M := M) hL (k := p + 2) (n := 7000) (by decide) (by decide) (by omega)
  have q3 := c_L_part g (M := M) hL (k := p + 3) (n := 8000) (by decide) (by decide) (by omega)
  generalize pv g p 30 = w0 at p0 q0
  generalize pv g (p + 1) 6000 = w1 at p1 q1
  generalize pv g (p + 2) 7000 = w2 at p2 q2
  generalize pv g (p + 3) 8000 = w3 at p3 q3
  have hzo : ¬ nI (σ.ob + 1) = 0 := nI_ne0 (by omega) (by omega)
  have ero : nI w1 - nI w1 / nI (σ.ob + 1) * nI (σ.ob + 1) = nI (w1 % (σ.ob + 1)) := pk_rem (by omega) (by omega) (by omega)
  have er10 : nI w2 - nI w2 / nI 10 * nI 10 = nI (w2 % 10) := pk_rem (by omega) (by decide) (by decide)
  have lro : w1 % (σ.ob + 1) < σ.ob + 1 := Nat.mod_lt _ (by omega)
  have go : tri g mL_isDone 65 530 (rQ (some (.int (nI 1))) (JQ g A0 B)) M 45 [(0, .ref (A0 0 0)), (1, .ref g.b), (2, .int (nI p)), (3, .ref (A0 20 0)), (4, .ref (A0 20 1)), (5, .ref (A0 20 2)), (6, .ref (A0 20 3)), (7, .ref (A0 20 4)), (8, .int (nI w0)), (9, .int (nI w1)), (10, .int (nI w2)), (11, .int (nI w3))] [] := by
    by_cases hf0 : σ.fo = 0
    · skip
      refine z_iload dL_isDone_45 rfl ?_
      refine z_bi kb_6 dL_isDone_47 ?_
      refine z_icmp_lt (tgt := 59) dL_isDone_49 (by decide) (fun h49 => ?_) (fun h49 => ?_)
      · refine z_aload_n dL_isDone_59 rfl rfl ?_
        refine z_aload dL_isDone_60 rfl rfl ?_
        refine z_aload dL_isDone_62 rfl rfl ?_
        refine z_aload dL_isDone_64 rfl rfl ?_
        refine z_ic ki_0 dL_isDone_66 ?_
        refine z_iaload dL_isDone_67 (WA_3 h) rfl (by decide) (by decide) ?_
        rw [g2, hf0]
        refine z_if_eq (tgt := 77) dL_isDone_68 (by decide) (fun h68 => ?_) (fun h68 => absurd (by decide) h68)
        refine z_ic ki_0 dL_isDone_77 ?_
        refine z_goto (tgt := 92) dL_isDone_78 (by decide) ?_
        refine z_iload dL_isDone_92 rfl ?_
        refine z_iload dL_isDone_94 rfl ?_
        refine z_iload dL_isDone_96 rfl ?_
        refine z_isQ dL_isDone_98 cs_RL_112 (c_L_isFormat0 g hI hP hR hE h (by omega)) ⟨⟨by decide, by decide⟩, (by first | exact Nat.zero_le _ | decide | omega), (by first | exact Nat.zero_le _ | decide | omega)⟩ rfl rfl (Nat.le_of_ble_eq_true rfl) (fun M98 hQ98 => ?_)
        refine z_ireturn dL_isDone_101 rfl (by first | rfl | exact bI_nar _) ?_
        exact rQ_of hQ98
      · refine z_aload dL_isDone_52 rfl rfl ?_
        refine z_ic ki_0 dL_isDone_54 ?_
        refine z_iaload dL_isDone_55 (WA_3 h) rfl (by decide) (by decide) ?_
        rw [g2, hf0]
        refine z_if_ne (tgt := 102) dL_isDone_56 (by decide) (fun h56 => absurd h56 (by decide)) (fun h56 => ?_)
        refine z_aload_n dL_isDone_59 rfl rfl ?_
        refine z_aload dL_isDone_60 rfl rfl ?_
        refine z_aload dL_isDone_62 rfl rfl ?_
        refine z_aload dL_isDone_64 rfl rfl ?_
        refine z_ic ki_0 dL_isDone_66 ?_
        refine z_iaload dL_isDone_67 (WA_3 h) rfl (by decide) (by decide) ?_
        rw [g2, hf0]
        refine z_if_eq (tgt := 77) dL_isDone_68 (by decide) (fun h68 => ?_) (fun h68 => absurd (by decide) h68)
        refine z_ic ki_0 dL_isDone_77 ?_
        refine z_goto (tgt := 92) dL_isDone_78 (by decide) ?_
        refine z_iload dL_isDone_92 rfl ?_
        refine z_iload dL_isDone_94 rfl ?_
        refine z_iload dL_isDone_96 rfl ?_
        refine z_isQ dL_isDone_98 cs_RL_112 (c_L_isFormat0 g hI hP hR hE h (by omega)) ⟨⟨by decide, by decide⟩, (by first | exact Nat.zero_le _ | decide | omega), (by first | exact Nat.zero_le _ | decide | omega)⟩ rfl rfl (Nat.le_of_ble_eq_true rfl) (fun M98 hQ98 => ?_)
        refine z_ireturn dL_isDone_101 rfl (by first | rfl | exact bI_nar _) ?_
        exact rQ_of hQ98
    · have hfz : ¬ nI σ.fo = 0 := nI_ne0 (by omega) (by omega)
      by_cases c6 : w0 < 6
      · by_cases c2 : w0 < 2
        · skip
          refine z_iload dL_isDone_45 rfl ?_
          refine z_bi kb_6 dL_isDone_47 ?_
          refine z_icmp_lt (tgt := 59) dL_isDone_49 (by decide) (fun h49 => ?_) (fun h49 => absurd (nI_lt c6 (by decide)) h49)
          refine z_aload_n dL_isDone_59 rfl rfl ?_
          refine z_aload dL_isDone_60 rfl rfl ?_
          refine z_aload dL_isDone_62 rfl rfl ?_
          refine z_aload dL_isDone_64 rfl rfl ?_
          refine z_ic ki_0 dL_isDone_66 ?_
          refine z_iaload dL_isDone_67 (WA_3 h) rfl (by decide) (by decide) ?_
          rw [g2]
          refine z_if_eq (tgt := 77) dL_isDone_68 (by decide) (fun h68 => absurd h68 hfz) (fun h68 => ?_)
          refine z_iload dL_isDone_71 rfl ?_
          refine z_ic ki_2 dL_isDone_73 ?_
          refine z_icmp_ge (tgt := 81) dL_isDone_74 (by decide) (fun h74 => absurd h74 (nI_ge c2 (by decide))) (fun h74 => ?_)
          refine z_ic ki_0 dL_isDone_77 ?_
          refine z_goto (tgt := 92) dL_isDone_78 (by decide) ?_
          refine z_iload dL_isDone_92 rfl ?_
          refine z_iload dL_isDone_94 rfl ?_
          refine z_iload dL_isDone_96 rfl ?_
          refine z_isQ dL_isDone_98 cs_RL_112 (c_L_isFormat0 g hI hP hR hE h (by omega)) ⟨⟨by decide, by decide⟩, (by first | exact Nat.zero_le _ | decide | omega), (by first | exact Nat.zero_le _ | decide | omega)⟩ rfl rfl (Nat.le_of_ble_eq_true rfl) (fun M98 hQ98 => ?_)
          refine z_ireturn dL_isDone_101 rfl (by first | rfl | exact bI_nar _) ?_
          exact rQ_of hQ98
        · by_cases c3 : w0 = 2
          · skip
            refine z_iload dL_isDone_45 rfl ?_
            refine z_bi kb_6 dL_isDone_47 ?_
            refine z_icmp_lt (tgt := 59) dL_isDone_49 (by decide) (fun h49 => ?_) (fun h49 => absurd (nI_lt c6 (by decide)) h49)
            refine z_aload_n dL_isDone_59 rfl rfl ?_
            refine z_aload dL_isDone_60 rfl rfl ?_
            refine z_aload dL_isDone_62 rfl rfl ?_
            refine z_aload dL_isDone_64 rfl rfl ?_
            refine z_ic ki_0 dL_isDone_66 ?_
            refine z_iaload dL_isDone_67 (WA_3 h) rfl (by decide) (by decide) ?_
            rw [g2]
            refine z_if_eq (tgt := 77) dL_isDone_68 (by decide) (fun h68 => absurd h68 hfz) (fun h68 => ?_)
            refine z_iload dL_isDone_71 rfl ?_
            refine z_ic ki_2 dL_isDone_73 ?_
            refine z_icmp_ge (tgt := 81) dL_isDone_74 (by decide) (fun h74 => ?_) (fun h74 => absurd (nI_le (by omega) (by omega)) h74)
            refine z_iload dL_isDone_81 rfl ?_
            refine z_ic ki_2 dL_isDone_83 ?_
            refine z_icmp_ne (tgt := 91) dL_isDone_84 (by decide) (fun h84 => absurd h84 (fun q => q (by rw [c3]))) (fun h84 => ?_)
            refine z_ic ki_1 dL_isDone_87 ?_
            refine z_goto (tgt := 92) dL_isDone_88 (by decide) ?_
            refine z_iload dL_isDone_92 rfl ?_
            refine z_iload dL_isDone_94 rfl ?_
            refine z_iload dL_isDone_96 rfl ?_
            refine z_isQ dL_isDone_98 cs_RL_112 (c_L_isFormat1 g hI hP hR hE h (by omega) (by omega) (by omega)) ⟨⟨by decide, by decide⟩, (by first | exact Nat.zero_le _ | decide | omega), (by first | exact Nat.zero_le _ | decide | omega)⟩ rfl rfl (Nat.le_of_ble_eq_true rfl) (fun M98 hQ98 => ?_)
            refine z_ireturn dL_isDone_101 rfl (by first | rfl | exact bI_nar _) ?_
            exact rQ_of hQ98
          · skip
            refine z_iload dL_isDone_45 rfl ?_
            refine z_bi kb_6 dL_isDone_47 ?_
            refine z_icmp_lt (tgt := 59) dL_isDone_49 (by decide) (fun h49 => ?_) (fun h49 => absurd (nI_lt c6 (by decide)) h49)
            refine z_aload_n dL_isDone_59 rfl rfl ?_
            refine z_aload dL_isDone_60 rfl rfl ?_
            refine z_aload dL_isDone_62 rfl rfl ?_
            refine z_aload dL_isDone_64 rfl rfl ?_
            refine z_ic ki_0 dL_isDone_66 ?_
            refine z_iaload dL_isDone_67 (WA_3 h) rfl (by decide) (by decide) ?_
            rw [g2]
            refine z_if_eq (tgt := 77) dL_isDone_68 (by decide) (fun h68 => absurd h68 hfz) (fun h68 => ?_)
            refine z_iload dL_isDone_71 rfl ?_
            refine z_ic ki_2 dL_isDone_73 ?_
            refine z_icmp_ge (tgt := 81) dL_isDone_74 (by decide) (fun h74 => ?_) (fun h74 => absurd (nI_le (by omega) (by omega)) h74)
            refine z_iload dL_isDone_81 rfl ?_
            refine z_ic ki_2 dL_isDone_83 ?_
            refine z_icmp_ne (tgt := 91) dL_isDone_84 (by decide) (fun h84 => ?_) (fun h84 => absurd h84 (fun q => c3 ((nI_eq (by omega) (by decide)).mp q)))
            refine z_ic ki_2 dL_isDone_91 ?_
            refine z_iload dL_isDone_92 rfl ?_
            refine z_iload dL_isDone_94 rfl ?_
            refine z_iload dL_isDone_96 rfl ?_
            refine z_isQ dL_isDone_98 cs_RL_112 (c_L_isFormat2 g hI hP hR hE h (by omega) (by omega) (by omega)) ⟨⟨by decide, by decide⟩, (by first | exact Nat.zero_le _ | decide | omega), (by first | exact Nat.zero_le _ | decide | omega)⟩ rfl rfl (Nat.le_of_ble_eq_true rfl) (fun M98 hQ98 => ?_)
            refine z_ireturn dL_isDone_101 rfl (by first | rfl | exact bI_nar _) ?_
            exact rQ_of hQ98
      · by_cases c18 : w0 < 18
        · by_cases c9 : w0 < 9
          · skip
            refine z_iload dL_isDone_45 rfl ?_
            refine z_bi kb_6 dL_isDone_47 ?_
            refine z_icmp_lt (tgt := 59) dL_isDone_49 (by decide) (fun h49 => absurd h49 (nI_nlt (by omega) (by omega))) (fun h49 => ?_)
            refine z_aload dL_isDone_52 rfl rfl ?_
            refine z_ic ki_0 dL_isDone_54 ?_
            refine z_iaload dL_isDone_55 (WA_3 h) rfl (by decide) (by decide) ?_
            rw [g2]
            refine z_if_ne (tgt := 102) dL_isDone_56 (by decide) (fun h56 => ?_) (fun h56 => absurd h56 hfz)
            refine z_iload dL_isDone_102 rfl ?_
            refine z_bi kb_18 dL_isDone_104 ?_
            refine z_icmp_ge (tgt := 234) dL_isDone_106 (by decide) (fun h106 => absurd h106 (nI_ge c18 (by decide))) (fun h106 => ?_)
            refine z_aload_n dL_isDone_109 rfl rfl ?_
            refine z_aload_n dL_isDone_110 rfl rfl ?_
            refine z_aload dL_isDone_111 rfl rfl ?_
            refine z_aload dL_isDone_113 rfl rfl ?_
            refine z_aload dL_isDone_115 rfl rfl ?_
            refine z_iload dL_isDone_117 rfl ?_
            refine z_bi kb_9 dL_isDone_119 ?_
            refine z_icmp_ge (tgt := 128) dL_isDone_121 (by decide) (fun h121 => absurd h121 (nI_ge c9 (by decide))) (fun h121 => ?_)
            refine z_ic ki_0 dL_isDone_124 ?_
            refine z_goto (tgt := 140) dL_isDone_125 (by decide) ?_
            refine z_iload dL_isDone_140 rfl ?_
            refine z_iload dL_isDone_142 rfl ?_
            refine z_iload dL_isDone_144 rfl ?_
            refine z_isQ dL_isDone_146 cs_RL_116 (c_L_isAdded0 g hI (by omega) hP hR hE h (by omega) p2 (by omega)) ⟨⟨by decide, by decide⟩, (by first | exact Nat.zero_le _ | decide | omega), (by first | exact Nat.zero_le _ | decide | omega)⟩ rfl rfl (Nat.le_of_ble_eq_true rfl) (fun M146 hQ146 => ?_)
            refine z_istore dL_isDone_149 (by decide) ?_
            refine z_ic ki_0 dL_isDone_151 ?_
            refine z_istore dL_isDone_152 (by decide) ?_
            exact (done_loop g hQ146).wk (Nat.zero_le _) (Nat.zero_le _)
          · by_cases c15 : w0 < 15
            · skip
              refine z_iload dL_isDone_45 rfl ?_
              refine z_bi kb_6 dL_isDone_47 ?_
              refine z_icmp_lt (tgt := 59) dL_isDone_49 (by decide) (fun h49 => absurd h49 (nI_nlt (by omega) (by omega))) (fun h49 => ?_)
              refine z_aload dL_isDone_52 rfl rfl ?_
              refine z_ic ki_0 dL_isDone_54 ?_
              refine z_iaload dL_isDone_55 (WA_3 h) rfl (by decide) (by decide) ?_
              rw [g2]
              refine z_if_ne (tgt := 102) dL_isDone_56 (by decide) (fun h56 => ?_) (fun h56 => absurd h56 hfz)
              refine z_iload dL_isDone_102 rfl ?_
              refine z_bi kb_18 dL_isDone_104 ?_
              refine z_icmp_ge (tgt := 234) dL_isDone_106 (by decide) (fun h106 => absurd h106 (nI_ge c18 (by decide))) (fun h106 => ?_)
              refine z_aload_n dL_isDone_109 rfl rfl ?_
              refine z_aload_n dL_isDone_110 rfl rfl ?_
              refine z_aload dL_isDone_111 rfl rfl ?_
              refine z_aload dL_isDone_113 rfl rfl ?_
              refine z_aload dL_isDone_115 rfl rfl ?_
              refine z_iload dL_isDone_117 rfl ?_
              refine z_bi kb_9 dL_isDone_119 ?_
              refine z_icmp_ge (tgt := 128) dL_isDone_121 (by decide) (fun h121 => ?_) (fun h121 => absurd (nI_le (by omega) (by omega)) h121)
              refine z_iload dL_isDone_128 rfl ?_
              refine z_bi kb_15 dL_isDone_130 ?_
              refine z_icmp_ge (tgt := 139) dL_isDone_132 (by decide) (fun h132 => absurd h132 (nI_ge c15 (by decide))) (fun h132 => ?_)
              refine z_ic ki_1 dL_isDone_135 ?_
              refine z_goto (tgt := 140) dL_isDone_136 (by decide) ?_
              refine z_iload dL_isDone_140 rfl ?_
              refine z_iload dL_isDone_142 rfl ?_
              refine z_iload dL_isDone_144 rfl ?_
              refine z_isQ dL_isDone_146 cs_RL_116 (c_L_isAdded1 g hI (by omega) hP hR hE h (by omega) p2 (by omega)) ⟨⟨by decide, by decide⟩, (by first | exact Nat.zero_le _ | decide | omega), (by first | exact Nat.zero_le _ | decide | omega)⟩ rfl rfl (Nat.le_of_ble_eq_true rfl) (fun M146 hQ146 => ?_)
              refine z_istore dL_isDone_149 (by decide) ?_
              refine z_ic ki_0 dL_isDone_151 ?_
              refine z_istore dL_isDone_152 (by decide) ?_
              exact (done_loop g hQ146).wk (Nat.zero_le _) (Nat.zero_le _)
            · skip
              refine z_iload dL_isDone_45 rfl ?_
              refine z_bi kb_6 dL_isDone_47 ?_
              refine z_icmp_lt (tgt := 59) dL_isDone_49 (by decide) (fun h49 => absurd h49 (nI_nlt (by omega) (by omega))) (fun h49 => ?_)
              refine z_aload dL_isDone_52 rfl rfl ?_
              refine z_ic ki_0 dL_isDone_54 ?_
              refine z_iaload dL_isDone_55 (WA_3 h) rfl (by decide) (by decide) ?_
              rw [g2]
              refine z_if_ne (tgt := 102) dL_isDone_56 (by decide) (fun h56 => ?_) (fun h56 => absurd h56 hfz)
              refine z_iload dL_isDone_102 rfl ?_
              refine z_bi kb_18 dL_isDone_104 ?_
              refine z_icmp_ge (tgt := 234) dL_isDone_106 (by decide) (fun h106 => absurd h106 (nI_ge c18 (by decide))) (fun h106 => ?_)
              refine z_aload_n dL_isDone_109 rfl rfl ?_
              refine z_aload_n dL_isDone_110 rfl rfl ?_
              refine z_aload dL_isDone_111 rfl rfl ?_
              refine z_aload dL_isDone_113 rfl rfl ?_
              refine z_aload dL_isDone_115 rfl rfl ?_
              refine z_iload dL_isDone_117 rfl ?_
              refine z_bi kb_9 dL_isDone_119 ?_
              refine z_icmp_ge (tgt := 128) dL_isDone_121 (by decide) (fun h121 => ?_) (fun h121 => absurd (nI_le (by omega) (by omega)) h121)
              refine z_iload dL_isDone_128 rfl ?_
              refine z_bi kb_15 dL_isDone_130 ?_
              refine z_icmp_ge (tgt := 139) dL_isDone_132 (by decide) (fun h132 => ?_) (fun h132 => absurd (nI_le (by omega) (by omega)) h132)
              refine z_ic ki_2 dL_isDone_139 ?_
              refine z_iload dL_isDone_140 rfl ?_
              refine z_iload dL_isDone_142 rfl ?_
              refine z_iload dL_isDone_144 rfl ?_
              refine z_isQ dL_isDone_146 cs_RL_116 (c_L_isAdded2 g hI (by omega) hB.2 hP hR hE h (by omega) p2 (by omega)) ⟨⟨by decide, by decide⟩, (by first | exact Nat.zero_le _ | decide | omega), (by first | exact Nat.zero_le _ | decide | omega)⟩ rfl rfl (Nat.le_of_ble_eq_true rfl) (fun M146 hQ146 => ?_)
              refine z_istore dL_isDone_149 (by decide) ?_
              refine z_ic ki_0 dL_isDone_151 ?_
              refine z_istore dL_isDone_152 (by decide) ?_
              exact (done_loop g hQ146).wk (Nat.zero_le _) (Nat.zero_le _)
        · by_cases c21 : w0 < 21
          · skip
            refine z_iload dL_isDone_45 rfl ?_
            refine z_bi kb_6 dL_isDone_47 ?_
            refine z_icmp_lt (tgt := 59) dL_isDone_49 (by decide) (fun h49 => absurd h49 (nI_nlt (by omega) (by omega))) (fun h49 => ?_)
            refine z_aload dL_isDone_52 rfl rfl ?_
            refine z_ic ki_0 dL_isDone_54 ?_
            refine z_iaload dL_isDone_55 (WA_3 h) rfl (by decide) (by decide) ?_
            rw [g2]
            refine z_if_ne (tgt := 102) dL_isDone_56 (by decide) (fun h56 => ?_) (fun h56 => absurd h56 hfz)
            refine z_iload dL_isDone_102 rfl ?_
            refine z_bi kb_18 dL_isDone_104 ?_
            refine z_icmp_ge (tgt := 234) dL_isDone_106 (by decide) (fun h106 => ?_) (fun h106 => absurd (nI_le (by omega) (by omega)) h106)
            refine z_iload dL_isDone_234 rfl ?_
            refine z_bi kb_21 dL_isDone_236 ?_
            refine z_icmp_ge (tgt := 268) dL_isDone_238 (by decide) (fun h238 => absurd h238 (nI_ge c21 (by decide))) (fun h238 => ?_)
            refine z_aload_n dL_isDone_241 rfl rfl ?_
            refine z_aload dL_isDone_242 rfl rfl ?_
            refine z_aload dL_isDone_244 rfl rfl ?_
            refine z_aload dL_isDone_246 rfl rfl ?_
            refine z_aload dL_isDone_248 rfl rfl ?_
            refine z_iload dL_isDone_250 rfl ?_
            refine z_aload dL_isDone_252 rfl rfl ?_
            refine z_ic ki_1 dL_isDone_254 ?_
            refine z_iaload dL_isDone_255 (WA_3 h) rfl (by decide) (by decide) ?_
            refine z_ic ki_1 dL_isDone_256 ?_
            refine z_iadd dL_isDone_257 ?_
            rw [g3, nI_add]
            refine z_irem dL_isDone_258 hzo ?_
            rw [ero]
            refine z_iload dL_isDone_259 rfl ?_
            refine z_bi kb_10 dL_isDone_261 ?_
            refine z_irem dL_isDone_263 (by decide) ?_
            rw [er10]
            refine z_isQ dL_isDone_264 cs_RL_120 (c_L_isPurged g hI hP hR hE h (by omega) (Nat.mod_lt _ (by decide))) ⟨⟨by decide, by decide⟩, (by first | exact Nat.zero_le _ | decide | omega), (by first | exact Nat.zero_le _ | decide | omega)⟩ rfl rfl (Nat.le_of_ble_eq_true rfl) (fun M264 hQ264 => ?_)
            refine z_ireturn dL_isDone_267 rfl (by first | rfl | exact bI_nar _) ?_
            exact rQ_of hQ264
          · by_cases c24 : w0 < 24
            · skip
              refine z_iload dL_isDone_45 rfl ?_
              refine z_bi kb_6 dL_isDone_47 ?_
              refine z_icmp_lt (tgt := 59) dL_isDone_49 (by decide) (fun h49 => absurd h49 (nI_nlt (by omega) (by omega))) (fun h49 => ?_)
              refine z_aload dL_isDone_52 rfl rfl ?_
              refine z_ic ki_0 dL_isDone_54 ?_
              refine z_iaload dL_isDone_55 (WA_3 h) rfl (by decide) (by decide) ?_
              rw [g2]
              refine z_if_ne (tgt := 102) dL_isDone_56 (by decide) (fun h56 => ?_) (fun h56 => absurd h56 hfz)
              refine z_iload dL_isDone_102 rfl ?_
              refine z_bi kb_18 dL_isDone_104 ?_
              refine z_icmp_ge (tgt := 234) dL_isDone_106 (by decide) (fun h106 => ?_) (fun h106 => absurd (nI_le (by omega) (by omega)) h106)
              refine z_iload dL_isDone_234 rfl ?_
              refine z_bi kb_21 dL_isDone_236 ?_
              refine z_icmp_ge (tgt := 268) dL_isDone_238 (by decide) (fun h238 => ?_) (fun h238 => absurd (nI_le (by omega) (by omega)) h238)
              refine z_aload_n dL_isDone_268 rfl rfl ?_
              refine z_aload dL_isDone_269 rfl rfl ?_
              refine z_iload dL_isDone_271 rfl ?_
              refine z_bi kb_24 dL_isDone_273 ?_
              refine z_icmp_ge (tgt := 282) dL_isDone_275 (by decide) (fun h275 => absurd h275 (nI_ge c24 (by decide))) (fun h275 => ?_)
              refine z_ic ki_0 dL_isDone_278 ?_
              refine z_goto (tgt := 305) dL_isDone_279 (by decide) ?_
              refine z_iload dL_isDone_305 rfl ?_
              refine z_iload dL_isDone_307 rfl ?_
              refine z_iload dL_isDone_309 rfl ?_
              refine z_isQ dL_isDone_311 cs_RL_124 (c_L_isCopy0 g hI (by omega) hP hR hE h (by omega) (by omega) (by omega)) ⟨⟨by decide, by decide⟩, (by first | exact Nat.zero_le _ | decide | omega), (by first | exact Nat.zero_le _ | decide | omega)⟩ rfl rfl (Nat.le_of_ble_eq_true rfl) (fun M311 hQ311 => ?_)
              refine z_ireturn dL_isDone_314 rfl (by first | rfl | exact bI_nar _) ?_
              exact rQ_of hQ311
            · by_cases c24e : w0 = 24
              · skip
                refine z_iload dL_isDone_45 rfl ?_
                refine z_bi kb_6 dL_isDone_47 ?_
                refine z_icmp_lt (tgt := 59) dL_isDone_49 (by decide) (fun h49 => absurd h49 (nI_nlt (by omega) (by omega))) (fun h49 => ?_)
                refine z_aload dL_isDone_52 rfl rfl ?_
                refine z_ic ki_0 dL_isDone_54 ?_
                refine z_iaload dL_isDone_55 (WA_3 h) rfl (by decide) (by decide) ?_
                rw [g2]
                refine z_if_ne (tgt := 102) dL_isDone_56 (by decide) (fun h56 => ?_) (fun h56 => absurd h56 hfz)
                refine z_iload dL_isDone_102 rfl ?_
                refine z_bi kb_18 dL_isDone_104 ?_
                refine z_icmp_ge (tgt := 234) dL_isDone_106 (by decide) (fun h106 => ?_) (fun h106 => absurd (nI_le (by omega) (by omega)) h106)
                refine z_iload dL_isDone_234 rfl ?_
                refine z_bi kb_21 dL_isDone_236 ?_
                refine z_icmp_ge (tgt := 268) dL_isDone_238 (by decide) (fun h238 => ?_) (fun h238 => absurd (nI_le (by omega) (by omega)) h238)
                refine z_aload_n dL_isDone_268 rfl rfl ?_
                refine z_aload dL_isDone_269 rfl rfl ?_
                refine z_iload dL_isDone_271 rfl ?_
                refine z_bi kb_24 dL_isDone_273 ?_
                refine z_icmp_ge (tgt := 282) dL_isDone_275 (by decide) (fun h275 => ?_) (fun h275 => absurd (nI_le (by omega) (by omega)) h275)
                refine z_iload dL_isDone_282 rfl ?_
                refine z_bi kb_24 dL_isDone_284 ?_
                refine z_icmp_ne (tgt := 293) dL_isDone_286 (by decide) (fun h286 => absurd h286 (fun q => q (by rw [c24e]))) (fun h286 => ?_)
                refine z_ic ki_1 dL_isDone_289 ?_
                refine z_goto (tgt := 305) dL_isDone_290 (by decide) ?_
                refine z_iload dL_isDone_305 rfl ?_
                refine z_iload dL_isDone_307 rfl ?_
                refine z_iload dL_isDone_309 rfl ?_
                refine z_isQ dL_isDone_311 cs_RL_124 (c_L_isCopy1 g hI hP hR hE h (by omega)) ⟨⟨by decide, by decide⟩, (by first | exact Nat.zero_le _ | decide | omega), (by first | exact Nat.zero_le _ | decide | omega)⟩ rfl rfl (Nat.le_of_ble_eq_true rfl) (fun M311 hQ311 => ?_)
                refine z_ireturn dL_isDone_314 rfl (by first | rfl | exact bI_nar _) ?_
                exact rQ_of hQ311
              · by_cases c28 : w0 < 28
                · skip
                  refine z_iload dL_isDone_45 rfl ?_
                  refine z_bi kb_6 dL_isDone_47 ?_
                  refine z_icmp_lt (tgt := 59) dL_isDone_49 (by decide) (fun h49 => absurd h49 (nI_nlt (by omega) (by omega))) (fun h49 => ?_)
                  refine z_aload dL_isDone_52 rfl rfl ?_
                  refine z_ic ki_0 dL_isDone_54 ?_
                  refine z_iaload dL_isDone_55 (WA_3 h) rfl (by decide) (by decide) ?_
                  rw [g2]
                  refine z_if_ne (tgt := 102) dL_isDone_56 (by decide) (fun h56 => ?_) (fun h56 => absurd h56 hfz)
                  refine z_iload dL_isDone_102 rfl ?_
                  refine z_bi kb_18 dL_isDone_104 ?_
                  refine z_icmp_ge (tgt := 234) dL_isDone_106 (by decide) (fun h106 => ?_) (fun h106 => absurd (nI_le (by omega) (by omega)) h106)
                  refine z_iload dL_isDone_234 rfl ?_
                  refine z_bi kb_21 dL_isDone_236 ?_
                  refine z_icmp_ge (tgt := 268) dL_isDone_238 (by decide) (fun h238 => ?_) (fun h238 => absurd (nI_le (by omega) (by omega)) h238)
                  refine z_aload_n dL_isDone_268 rfl rfl ?_
                  refine z_aload dL_isDone_269 rfl rfl ?_
                  refine z_iload dL_isDone_271 rfl ?_
                  refine z_bi kb_24 dL_isDone_273 ?_
                  refine z_icmp_ge (tgt := 282) dL_isDone_275 (by decide) (fun h275 => ?_) (fun h275 => absurd (nI_le (by omega) (by omega)) h275)
                  refine z_iload dL_isDone_282 rfl ?_
                  refine z_bi kb_24 dL_isDone_284 ?_
                  refine z_icmp_ne (tgt := 293) dL_isDone_286 (by decide) (fun h286 => ?_) (fun h286 => absurd h286 (fun q => c24e ((nI_eq (by omega) (by decide)).mp q)))
                  refine z_iload dL_isDone_293 rfl ?_
                  refine z_bi kb_28 dL_isDone_295 ?_
                  refine z_icmp_ge (tgt := 304) dL_isDone_297 (by decide) (fun h297 => absurd h297 (nI_ge c28 (by decide))) (fun h297 => ?_)
                  refine z_ic ki_2 dL_isDone_300 ?_
                  refine z_goto (tgt := 305) dL_isDone_301 (by decide) ?_
                  refine z_iload dL_isDone_305 rfl ?_
                  refine z_iload dL_isDone_307 rfl ?_
                  refine z_iload dL_isDone_309 rfl ?_
                  refine z_isQ dL_isDone_311 cs_RL_124 (c_L_isCopy2 g hI (by omega) hP hR hE h (by omega)) ⟨⟨by decide, by decide⟩, (by first | exact Nat.zero_le _ | decide | omega), (by first | exact Nat.zero_le _ | decide | omega)⟩ rfl rfl (Nat.le_of_ble_eq_true rfl) (fun M311 hQ311 => ?_)
                  refine z_ireturn dL_isDone_314 rfl (by first | rfl | exact bI_nar _) ?_
                  exact rQ_of hQ311
                · skip
                  refine z_iload dL_isDone_45 rfl ?_
                  refine z_bi kb_6 dL_isDone_47 ?_
                  refine z_icmp_lt (tgt := 59) dL_isDone_49 (by decide) (fun h49 => absurd h49 (nI_nlt (by omega) (by omega))) (fun h49 => ?_)
                  refine z_aload dL_isDone_52 rfl rfl ?_
                  refine z_ic ki_0 dL_isDone_54 ?_
                  refine z_iaload dL_isDone_55 (WA_3 h) rfl (by decide) (by decide) ?_
                  rw [g2]
                  refine z_if_ne (tgt := 102) dL_isDone_56 (by decide) (fun h56 => ?_) (fun h56 => absurd h56 hfz)
                  refine z_iload dL_isDone_102 rfl ?_
                  refine z_bi kb_18 dL_isDone_104 ?_
                  refine z_icmp_ge (tgt := 234) dL_isDone_106 (by decide) (fun h106 => ?_) (fun h106 => absurd (nI_le (by omega) (by omega)) h106)
                  refine z_iload dL_isDone_234 rfl ?_
                  refine z_bi kb_21 dL_isDone_236 ?_
                  refine z_icmp_ge (tgt := 268) dL_isDone_238 (by decide) (fun h238 => ?_) (fun h238 => absurd (nI_le (by omega) (by omega)) h238)
                  refine z_aload_n dL_isDone_268 rfl rfl ?_
                  refine z_aload dL_isDone_269 rfl rfl ?_
                  refine z_iload dL_isDone_271 rfl ?_
                  refine z_bi kb_24 dL_isDone_273 ?_
                  refine z_icmp_ge (tgt := 282) dL_isDone_275 (by decide) (fun h275 => ?_) (fun h275 => absurd (nI_le (by omega) (by omega)) h275)
                  refine z_iload dL_isDone_282 rfl ?_
                  refine z_bi kb_24 dL_isDone_284 ?_
                  refine z_icmp_ne (tgt := 293) dL_isDone_286 (by decide) (fun h286 => ?_) (fun h286 => absurd h286 (fun q => c24e ((nI_eq (by omega) (by decide)).mp q)))
                  refine z_iload dL_isDone_293 rfl ?_
                  refine z_bi kb_28 dL_isDone_295 ?_
                  refine z_icmp_ge (tgt := 304) dL_isDone_297 (by decide) (fun h297 => ?_) (fun h297 => absurd (nI_le (by omega) (by omega)) h297)
                  refine z_ic ki_3 dL_isDone_304 ?_
                  refine z_iload dL_isDone_305 rfl ?_
                  refine z_iload dL_isDone_307 rfl ?_
                  refine z_iload dL_isDone_309 rfl ?_
                  refine z_isQ dL_isDone_311 cs_RL_124 (c_L_isCopy3 g hI (by omega) hP hR hE h) ⟨⟨by decide, by decide⟩, (by first | exact Nat.zero_le _ | decide | omega), (by first | exact Nat.zero_le _ | decide | omega)⟩ rfl rfl (Nat.le_of_ble_eq_true rfl) (fun M311 hQ311 => ?_)
                  refine z_ireturn dL_isDone_314 rfl (by first | rfl | exact bI_nar _) ?_
                  exact rQ_of hQ311
  refine z_aload_n dL_isDone_0 rfl rfl ?_
  refine z_iload_n dL_isDone_1 rfl ?_
  refine z_bi kb_30 dL_isDone_2 ?_
  refine z_isI dL_isDone_4 cs_RL_108 (q0) ⟨⟨by decide, by decide⟩, (by first | exact Nat.zero_le _ | decide | omega), (by first | exact Nat.zero_le _ | decide | omega)⟩ rfl rfl (Nat.le_of_ble_eq_true rfl) ?_
  refine z_istore dL_isDone_7 (by decide) ?_
  refine z_aload_n dL_isDone_9 rfl rfl ?_
  refine z_iload_n dL_isDone_10 rfl ?_
  refine z_ic ki_1 dL_isDone_11 ?_
  refine z_iadd dL_isDone_12 ?_
  refine z_si ks_6000 dL_isDone_13 ?_
  rw [nI_add]
  refine z_isI dL_isDone_16 cs_RL_108 (q1) ⟨⟨by decide, by decide⟩, (by first | exact Nat.zero_le _ | decide | omega), (by first | exact Nat.zero_le _ | decide | omega)⟩ rfl rfl (Nat.le_of_ble_eq_true rfl) ?_
  refine z_istore dL_isDone_19 (by decide) ?_
  refine z_aload_n dL_isDone_21 rfl rfl ?_
  refine z_iload_n dL_isDone_22 rfl ?_
  refine z_ic ki_2 dL_isDone_23 ?_
  refine z_iadd dL_isDone_24 ?_
  refine z_si ks_7000 dL_isDone_25 ?_
  rw [nI_add]
  refine z_isI dL_isDone_28 cs_RL_108 (q2) ⟨⟨by decide, by decide⟩, (by first | exact Nat.zero_le _ | decide | omega), (by first | exact Nat.zero_le _ | decide | omega)⟩ rfl rfl (Nat.le_of_ble_eq_true rfl) ?_
  refine z_istore dL_isDone_31 (by decide) ?_
  refine z_aload_n dL_isDone_33 rfl rfl ?_
  refine z_iload_n dL_isDone_34 rfl ?_
  refine z_ic ki_3 dL_isDone_35 ?_
  refine z_iadd dL_isDone_36 ?_
  refine z_si ks_8000 dL_isDone_37 ?_
  rw [nI_add]
  refine z_isI dL_isDone_40 cs_RL_108 (q3) ⟨⟨by decide, by decide⟩, (by first | exact Nat.zero_le _ | decide | omega), (by first | exact Nat.zero_le _ | decide | omega)⟩ rfl rfl (Nat.le_of_ble_eq_true rfl) ?_
  refine z_istore dL_isDone_43 (by decide) ?_
  exact go
end STEPX
