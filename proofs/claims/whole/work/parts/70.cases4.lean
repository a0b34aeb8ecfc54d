/-! the law's cases -/
section CASES
variable (g : GG) {A A0 : Nat → Nat → Nat} {B : Nat} {σ : ST} {x : XT} {M : Mem}
theorem case_sites (hI : INV B σ) (hB : 2000000 ≤ B ∧ B + 1000 < 2147483648) (hA : AK A0 A) (hW : W2 g A σ σ x M) (hb : rbk σ x.rb) {bk bn i : Nat} {PL : PO} (hK : LK g A0 B bk bn PL i) (hi : i + 3 < g.L) (hL : g.L ≤ 2048) : tri g mL_law (bk + 16) (bn + 1000) PL M 977 [(0, .ref g.b), (1, .ref (A0 0 0)), (2, .ref (A0 20 0)), (3, .ref (A0 22 0)), (4, .int (nI i))] [] := by
  have hl := l_sites g hI hB hW (g.xs (i + 1))
  rw [hA.c, hA.o] at hl
  have hoc := oc_sites σ (g.xs (i + 1))
  refine z_aload_n dL_law_977 rfl rfl ?_
  refine z_aload_n dL_law_978 rfl rfl ?_
  refine z_iload dL_law_979 rfl ?_
  refine z_ic ki_1 dL_law_981 ?_
  refine z_iadd dL_law_982 ?_
  refine z_sld dL_law_983 (nI_add i 1) (by omega) hL ?_
  refine z_aload_n dL_law_984 rfl rfl ?_
  refine z_isXQ (dd := mL_sites) dL_law_985 cw_RL_125 rfl ⟨by decide, by decide⟩ (n := 3) (by decide +kernel) hl ⟨⟨by decide, by decide⟩, by omega, by omega⟩ rfl rfl (Nat.le_of_ble_eq_true rfl) (fun M985 hQ985 => ?_)
  refine z_istore dL_law_988 (by decide) ?_
  refine z_aload_n dL_law_990 rfl rfl ?_
  refine z_aload_n dL_law_991 rfl rfl ?_
  refine z_iload dL_law_992 rfl ?_
  refine z_ic ki_1 dL_law_994 ?_
  refine z_iadd dL_law_995 ?_
  refine z_sld dL_law_996 (nI_add i 1) (by omega) hL ?_
  obtain ⟨A2, τ, rc, f, hA2, ⟨hI2, hs2, hr2⟩, hf2, hW2⟩ := hQ985
  have hMm := hW2.m
  have hmc := m_sites g (x := (x.srch rc).sout f) hI hb hW2 (g.xs (i + 1))
  rw [hA2.m, hA.m] at hMm hmc
  refine z_ivQ dL_law_997 cv_RL_127 hMm (hmc) ⟨⟨by decide, by decide⟩, (by first | exact Nat.zero_le _ | decide | omega), (by first | exact Nat.zero_le _ | decide | omega)⟩ rfl rfl (Nat.le_of_ble_eq_true rfl) (fun M997 hQ997 => ?_)
  refine z_istore dL_law_1000 (by decide) ?_
  refine z_aload_n dL_law_1002 rfl rfl ?_
  obtain ⟨x2, hW3, ht3, ho3, hr3⟩ := hQ997
  have hM3 := hW3.m
  have hth := c_X6_thrown g hW3
  rw [hA2.m, hA.m] at hM3 hth
  rw [ht3] at hth
  refine z_ivI dL_law_1003 cv_RL_81 hM3 (hth) ⟨⟨by decide, by decide⟩, (by first | exact Nat.zero_le _ | decide | omega), (by first | exact Nat.zero_le _ | decide | omega)⟩ rfl rfl (Nat.le_of_ble_eq_true rfl) ?_
  refine z_iload dL_law_1006 rfl ?_
  refine z_icmp_eq (tgt := 1013) dL_law_1008 (by decide) (fun h1008 => ?_) (fun h1008 => absurd rfl h1008)
  refine z_iload dL_law_1013 rfl ?_
  refine z_if_ne (tgt := 1030) dL_law_1015 (by decide) (fun h1015 => ?_) (fun h1015 => ?_)
  · refine z_goto (tgt := 1314) dL_law_1030 (by decide) ?_
    refine tri.take 5 ?_
    exact hK.go (hA.trans hA2) hI2 hs2 hr2 hb rfl hW3 hr3 (by omega) (by omega)
  · refine z_aload_n dL_law_1018 rfl rfl ?_
    refine z_ic ki_0 dL_law_1019 ?_
    have h0 := nz0 (by omega) h1015
    have hO3 := hW3.out_
    rw [hA2.o, hA.o] at hO3
    have hans := (congrFun ho3 0).trans (hf2 h0)
    refine z_laload dL_law_1020 hO3 rfl (by decide) (by decide) ?_
    refine z_iload dL_law_1021 rfl ?_
    refine z_i2l dL_law_1023 ?_
    refine z_lcmp dL_law_1024 ?_
    refine z_if_eq (tgt := 1030) dL_law_1025 (by decide) (fun h1025 => ?_) (fun h1025 => absurd (by rw [hans]; exact lg_self _) h1025)
    refine z_goto (tgt := 1314) dL_law_1030 (by decide) ?_
    refine tri.take 5 ?_
    exact hK.go (hA.trans hA2) hI2 hs2 hr2 hb rfl hW3 hr3 (by omega) (by omega)
theorem case_sound (hI : INV B σ) (hB : 2000000 ≤ B ∧ B + 1000 < 2147483648) (hA : AK A0 A) (hW : W2 g A σ σ x M) (hb : rbk σ x.rb) {bk bn i : Nat} {PL : PO} (hK : LK g A0 B bk bn PL i) (hi : i + 3 < g.L) (hL : g.L ≤ 2048) : tri g mL_law (bk + 16) (bn + 1000) PL M 1033 [(0, .ref g.b), (1, .ref (A0 0 0)), (2, .ref (A0 20 0)), (3, .ref (A0 22 0)), (4, .int (nI i))] [] := by
  have hl := l_sound g hI hB hW (g.xs (i + 1))
  rw [hA.c, hA.o] at hl
  have hoc := oc_sound σ (g.xs (i + 1))
  refine z_aload_n dL_law_1033 rfl rfl ?_
  refine z_aload_n dL_law_1034 rfl rfl ?_
  refine z_iload dL_law_1035 rfl ?_
  refine z_ic ki_1 dL_law_1037 ?_
  refine z_iadd dL_law_1038 ?_
  refine z_sld dL_law_1039 (nI_add i 1) (by omega) hL ?_
  refine z_aload_n dL_law_1040 rfl rfl ?_
  refine z_isXQ (dd := mL_sound) dL_law_1041 cw_RL_128 rfl ⟨by decide, by decide⟩ (n := 3) (by decide +kernel) hl ⟨⟨by decide, by decide⟩, by omega, by omega⟩ rfl rfl (Nat.le_of_ble_eq_true rfl) (fun M1041 hQ1041 => ?_)
  refine z_istore dL_law_1044 (by decide) ?_
  refine z_aload_n dL_law_1046 rfl rfl ?_
  refine z_aload_n dL_law_1047 rfl rfl ?_
  refine z_iload dL_law_1048 rfl ?_
  refine z_ic ki_1 dL_law_1050 ?_
  refine z_iadd dL_law_1051 ?_
  refine z_sld dL_law_1052 (nI_add i 1) (by omega) hL ?_
  obtain ⟨A2, τ, rc, f, hA2, ⟨hI2, hs2, hr2⟩, hf2, hW2⟩ := hQ1041
  have hMm := hW2.m
  have hmc := m_sound g (x := (x.srch rc).sout f) hI hb hW2 (g.xs (i + 1))
  rw [hA2.m, hA.m] at hMm hmc
  refine z_ivQ dL_law_1053 cv_RL_130 hMm (hmc) ⟨⟨by decide, by decide⟩, (by first | exact Nat.zero_le _ | decide | omega), (by first | exact Nat.zero_le _ | decide | omega)⟩ rfl rfl (Nat.le_of_ble_eq_true rfl) (fun M1053 hQ1053 => ?_)
  refine z_istore dL_law_1056 (by decide) ?_
  refine z_aload_n dL_law_1058 rfl rfl ?_
  obtain ⟨x2, hW3, ht3, ho3, hr3⟩ := hQ1053
  have hM3 := hW3.m
  have hth := c_X6_thrown g hW3
  rw [hA2.m, hA.m] at hM3 hth
  rw [ht3] at hth
  refine z_ivI dL_law_1059 cv_RL_81 hM3 (hth) ⟨⟨by decide, by decide⟩, (by first | exact Nat.zero_le _ | decide | omega), (by first | exact Nat.zero_le _ | decide | omega)⟩ rfl rfl (Nat.le_of_ble_eq_true rfl) ?_
  refine z_iload dL_law_1062 rfl ?_
  refine z_icmp_eq (tgt := 1069) dL_law_1064 (by decide) (fun h1064 => ?_) (fun h1064 => absurd rfl h1064)
  refine z_iload dL_law_1069 rfl ?_
  refine z_if_ne (tgt := 1086) dL_law_1071 (by decide) (fun h1071 => ?_) (fun h1071 => ?_)
  · refine z_goto (tgt := 1314) dL_law_1086 (by decide) ?_
    refine tri.take 5 ?_
    exact hK.go (hA.trans hA2) hI2 hs2 hr2 hb rfl hW3 hr3 (by omega) (by omega)
  · refine z_aload_n dL_law_1074 rfl rfl ?_
    refine z_ic ki_0 dL_law_1075 ?_
    have h0 := nz0 (by omega) h1071
    have hO3 := hW3.out_
    rw [hA2.o, hA.o] at hO3
    have hans := (congrFun ho3 0).trans (hf2 h0)
    refine z_laload dL_law_1076 hO3 rfl (by decide) (by decide) ?_
    refine z_iload dL_law_1077 rfl ?_
    refine z_i2l dL_law_1079 ?_
    refine z_lcmp dL_law_1080 ?_
    refine z_if_eq (tgt := 1086) dL_law_1081 (by decide) (fun h1081 => ?_) (fun h1081 => absurd (by rw [hans]; exact lg_self _) h1081)
    refine z_goto (tgt := 1314) dL_law_1086 (by decide) ?_
    refine tri.take 5 ?_
    exact hK.go (hA.trans hA2) hI2 hs2 hr2 hb rfl hW3 hr3 (by omega) (by omega)
theorem case_damage (hI : INV B σ) (hB : 2000000 ≤ B ∧ B + 1000 < 2147483648) (hA : AK A0 A) (hW : W2 g A σ σ x M) (hb : rbk σ x.rb) {bk bn i : Nat} {PL : PO} (hK : LK g A0 B bk bn PL i) (hi : i + 3 < g.L) (hL : g.L ≤ 2048) : tri g mL_law (bk + 16) (bn + 1000) PL M 1089 [(0, .ref g.b), (1, .ref (A0 0 0)), (2, .ref (A0 20 0)), (3, .ref (A0 22 0)), (4, .int (nI i))] [] := by
  have hl := l_damage g hI hB hW (g.xs (i + 1)) (g.xs (i + 2)) (g.xs (i + 3))
  rw [hA.c, hA.o] at hl
  have hoc := oc_damage σ (g.xs (i + 1)) (g.xs (i + 2)) (g.xs (i + 3))
  refine z_aload_n dL_law_1089 rfl rfl ?_
  refine z_aload_n dL_law_1090 rfl rfl ?_
  refine z_iload dL_law_1091 rfl ?_
  refine z_ic ki_1 dL_law_1093 ?_
  refine z_iadd dL_law_1094 ?_
  refine z_sld dL_law_1095 (nI_add i 1) (by omega) hL ?_
  refine z_aload_n dL_law_1096 rfl rfl ?_
  refine z_iload dL_law_1097 rfl ?_
  refine z_ic ki_2 dL_law_1099 ?_
  refine z_iadd dL_law_1100 ?_
  refine z_sld dL_law_1101 (nI_add i 2) (by omega) hL ?_
  refine z_aload_n dL_law_1102 rfl rfl ?_
  refine z_iload dL_law_1103 rfl ?_
  refine z_ic ki_3 dL_law_1105 ?_
  refine z_iadd dL_law_1106 ?_
  refine z_sld dL_law_1107 (nI_add i 3) (by omega) hL ?_
  refine z_aload_n dL_law_1108 rfl rfl ?_
  refine z_isXQ (dd := mL_damage) dL_law_1109 cw_RL_131 rfl ⟨by decide, by decide⟩ (n := 5) (by decide +kernel) hl ⟨⟨by decide, by decide⟩, by omega, by omega⟩ rfl rfl (Nat.le_of_ble_eq_true rfl) (fun M1109 hQ1109 => ?_)
  refine z_istore dL_law_1112 (by decide) ?_
  refine z_aload_n dL_law_1114 rfl rfl ?_
  refine z_aload_n dL_law_1115 rfl rfl ?_
  refine z_iload dL_law_1116 rfl ?_
  refine z_ic ki_1 dL_law_1118 ?_
  refine z_iadd dL_law_1119 ?_
  refine z_sld dL_law_1120 (nI_add i 1) (by omega) hL ?_
  refine z_aload_n dL_law_1121 rfl rfl ?_
  refine z_iload dL_law_1122 rfl ?_
  refine z_ic ki_2 dL_law_1124 ?_
  refine z_iadd dL_law_1125 ?_
  refine z_sld dL_law_1126 (nI_add i 2) (by omega) hL ?_
  refine z_aload_n dL_law_1127 rfl rfl ?_
  refine z_iload dL_law_1128 rfl ?_
  refine z_ic ki_3 dL_law_1130 ?_
  refine z_iadd dL_law_1131 ?_
  refine z_sld dL_law_1132 (nI_add i 3) (by omega) hL ?_
  obtain ⟨A2, τ, rc, f, hA2, ⟨hI2, hs2, hr2⟩, hf2, hW2⟩ := hQ1109
  have hMm := hW2.m
  have hmc := m_damage g (x := (x.srch rc).sout f) hI hb hW2 (g.xs (i + 1)) (g.xs (i + 2)) (g.xs (i + 3))
  rw [hA2.m, hA.m] at hMm hmc
  refine z_ivQ dL_law_1133 cv_RL_133 hMm (hmc) ⟨⟨by decide, by decide⟩, (by first | exact Nat.zero_le _ | decide | omega), (by first | exact Nat.zero_le _ | decide | omega)⟩ rfl rfl (Nat.le_of_ble_eq_true rfl) (fun M1133 hQ1133 => ?_)
  refine z_istore dL_law_1136 (by decide) ?_
  refine z_aload_n dL_law_1138 rfl rfl ?_
  obtain ⟨x2, hW3, ht3, ho3, hr3⟩ := hQ1133
  have hM3 := hW3.m
  have hth := c_X6_thrown g hW3
  rw [hA2.m, hA.m] at hM3 hth
  rw [ht3] at hth
  refine z_ivI dL_law_1139 cv_RL_81 hM3 (hth) ⟨⟨by decide, by decide⟩, (by first | exact Nat.zero_le _ | decide | omega), (by first | exact Nat.zero_le _ | decide | omega)⟩ rfl rfl (Nat.le_of_ble_eq_true rfl) ?_
  refine z_iload dL_law_1142 rfl ?_
  refine z_icmp_eq (tgt := 1149) dL_law_1144 (by decide) (fun h1144 => ?_) (fun h1144 => absurd rfl h1144)
  refine z_iload dL_law_1149 rfl ?_
  refine z_if_ne (tgt := 1173) dL_law_1151 (by decide) (fun h1151 => ?_) (fun h1151 => ?_)
  · refine z_goto (tgt := 1314) dL_law_1173 (by decide) ?_
    refine tri.take 5 ?_
    exact hK.go (hA.trans hA2) hI2 hs2 hr2 hb rfl hW3 hr3 (by omega) (by omega)
  · refine z_aload_n dL_law_1154 rfl rfl ?_
    refine z_ic ki_0 dL_law_1155 ?_
    have h0 := nz0 (by omega) h1151
    have hO3 := hW3.out_
    rw [hA2.o, hA.o] at hO3
    have hans := (congrFun ho3 0).trans (hf2 h0)
    refine z_laload dL_law_1156 hO3 rfl (by decide) (by decide) ?_
    refine z_iload dL_law_1157 rfl ?_
    refine z_if_eq (tgt := 1166) dL_law_1159 (by decide) (fun h1159 => ?_) (fun h1159 => ?_)
    · refine z_lconst dL_law_1166 ?_
      refine z_lcmp dL_law_1167 ?_
      refine z_if_eq (tgt := 1173) dL_law_1168 (by decide) (fun h1168 => ?_) (fun h1168 => absurd (by rw [hans, h1159]; exact lg_self 0) h1168)
      refine z_goto (tgt := 1314) dL_law_1173 (by decide) ?_
      refine tri.take 5 ?_
      exact hK.go (hA.trans hA2) hI2 hs2 hr2 hb rfl hW3 hr3 (by omega) (by omega)
    · refine z_lconst dL_law_1162 ?_
      refine z_goto (tgt := 1167) dL_law_1163 (by decide) ?_
      refine z_lcmp dL_law_1167 ?_
      refine z_if_eq (tgt := 1173) dL_law_1168 (by decide) (fun h1168 => ?_) (fun h1168 => absurd (by rcases od_damage σ (g.xs (i + 1)) (g.xs (i + 2)) (g.xs (i + 3)) with q | q; exact absurd q h1159; rw [hans, q]; exact lg_self 1) h1168)
      refine z_goto (tgt := 1314) dL_law_1173 (by decide) ?_
      refine tri.take 5 ?_
      exact hK.go (hA.trans hA2) hI2 hs2 hr2 hb rfl hW3 hr3 (by omega) (by omega)
theorem case_toggleSite (hI : INV B σ) (hB : 2000000 ≤ B ∧ B + 1000 < 2147483648) (hA : AK A0 A) (hW : W2 g A σ σ x M) (hb : rbk σ x.rb) {bk bn i : Nat} {PL : PO} (hK : LK g A0 B bk bn PL i) (hi : i + 3 < g.L) (hL : g.L ≤ 2048) : tri g mL_law (bk + 16) (bn + 1000) PL M 1176 [(0, .ref g.b), (1, .ref (A0 0 0)), (2, .ref (A0 20 0)), (3, .ref (A0 22 0)), (4, .int (nI i))] [] := by
  have hl := l_toggleSite g hI hB hW (g.xs (i + 1))
  rw [hA.c, hA.o] at hl
  have hoc := oc_toggleSite σ (g.xs (i + 1))
  refine z_aload_n dL_law_1176 rfl rfl ?_
  refine z_aload_n dL_law_1177 rfl rfl ?_
  refine z_iload dL_law_1178 rfl ?_
  refine z_ic ki_1 dL_law_1180 ?_
  refine z_iadd dL_law_1181 ?_
  refine z_sld dL_law_1182 (nI_add i 1) (by omega) hL ?_
  refine z_aload_n dL_law_1183 rfl rfl ?_
  refine z_isXQ (dd := mL_toggleSite) dL_law_1184 cw_RL_134 rfl ⟨by decide, by decide⟩ (n := 3) (by decide +kernel) hl ⟨⟨by decide, by decide⟩, by omega, by omega⟩ rfl rfl (Nat.le_of_ble_eq_true rfl) (fun M1184 hQ1184 => ?_)
  refine z_istore dL_law_1187 (by decide) ?_
  refine z_aload_n dL_law_1189 rfl rfl ?_
  refine z_aload_n dL_law_1190 rfl rfl ?_
  refine z_iload dL_law_1191 rfl ?_
  refine z_ic ki_1 dL_law_1193 ?_
  refine z_iadd dL_law_1194 ?_
  refine z_sld dL_law_1195 (nI_add i 1) (by omega) hL ?_
  obtain ⟨A2, τ, rc, f, hA2, ⟨hI2, hs2, hr2⟩, hf2, hW2⟩ := hQ1184
  have hMm := hW2.m
  have hmc := m_toggleSite g (x := (x.srch rc).sout f) hI hb hW2 (g.xs (i + 1))
  rw [hA2.m, hA.m] at hMm hmc
  refine z_ivQ dL_law_1196 cv_RL_136 hMm (hmc) ⟨⟨by decide, by decide⟩, (by first | exact Nat.zero_le _ | decide | omega), (by first | exact Nat.zero_le _ | decide | omega)⟩ rfl rfl (Nat.le_of_ble_eq_true rfl) (fun M1196 hQ1196 => ?_)
  refine z_istore dL_law_1199 (by decide) ?_
  refine z_aload_n dL_law_1201 rfl rfl ?_
  obtain ⟨x2, hW3, ht3, ho3, hr3⟩ := hQ1196
  have hM3 := hW3.m
  have hth := c_X6_thrown g hW3
  rw [hA2.m, hA.m] at hM3 hth
  rw [ht3] at hth
  refine z_ivI dL_law_1202 cv_RL_81 hM3 (hth) ⟨⟨by decide, by decide⟩, (by first | exact Nat.zero_le _ | decide | omega), (by first | exact Nat.zero_le _ | decide | omega)⟩ rfl rfl (Nat.le_of_ble_eq_true rfl) ?_
  refine z_iload dL_law_1205 rfl ?_
  refine z_icmp_eq (tgt := 1212) dL_law_1207 (by decide) (fun h1207 => ?_) (fun h1207 => absurd rfl h1207)
  refine z_iload dL_law_1212 rfl ?_
  refine z_if_ne (tgt := 1229) dL_law_1214 (by decide) (fun h1214 => ?_) (fun h1214 => ?_)
  · refine z_goto (tgt := 1314) dL_law_1229 (by decide) ?_
    refine tri.take 5 ?_
    exact hK.go (hA.trans hA2) hI2 hs2 hr2 hb rfl hW3 hr3 (by omega) (by omega)
  · refine z_aload_n dL_law_1217 rfl rfl ?_
    refine z_ic ki_0 dL_law_1218 ?_
    have h0 := nz0 (by omega) h1214
    have hO3 := hW3.out_
    rw [hA2.o, hA.o] at hO3
    have hans := (congrFun ho3 0).trans (hf2 h0)
    refine z_laload dL_law_1219 hO3 rfl (by decide) (by decide) ?_
    refine z_iload dL_law_1220 rfl ?_
    refine z_i2l dL_law_1222 ?_
    refine z_lcmp dL_law_1223 ?_
    refine z_if_eq (tgt := 1229) dL_law_1224 (by decide) (fun h1224 => ?_) (fun h1224 => absurd (by rw [hans]; exact lg_self _) h1224)
    refine z_goto (tgt := 1314) dL_law_1229 (by decide) ?_
    refine tri.take 5 ?_
    exact hK.go (hA.trans hA2) hI2 hs2 hr2 hb rfl hW3 hr3 (by omega) (by omega)
theorem case_audit (hI : INV B σ) (hB : 2000000 ≤ B ∧ B + 1000 < 2147483648) (hA : AK A0 A) (hW : W2 g A σ σ x M) (hb : rbk σ x.rb) {bk bn i : Nat} {PL : PO} (hK : LK g A0 B bk bn PL i) (hi : i + 3 < g.L) (hL : g.L ≤ 2048) : tri g mL_law (bk + 16) (bn + 1000) PL M 1232 [(0, .ref g.b), (1, .ref (A0 0 0)), (2, .ref (A0 20 0)), (3, .ref (A0 22 0)), (4, .int (nI i))] [] := by
  have hl := l_audit g hI hB hW (g.xs (i + 1))
  rw [hA.c, hA.o] at hl
  have hoc := oc_audit σ (g.xs (i + 1))
  refine z_aload_n dL_law_1232 rfl rfl ?_
  refine z_aload_n dL_law_1233 rfl rfl ?_
  refine z_iload dL_law_1234 rfl ?_
  refine z_ic ki_1 dL_law_1236 ?_
  refine z_iadd dL_law_1237 ?_
  refine z_sld dL_law_1238 (nI_add i 1) (by omega) hL ?_
  refine z_aload_n dL_law_1239 rfl rfl ?_
  refine z_isXQ (dd := mL_audit) dL_law_1240 cw_RL_137 rfl ⟨by decide, by decide⟩ (n := 3) (by decide +kernel) hl ⟨⟨by decide, by decide⟩, by omega, by omega⟩ rfl rfl (Nat.le_of_ble_eq_true rfl) (fun M1240 hQ1240 => ?_)
  refine z_istore dL_law_1243 (by decide) ?_
  refine z_aload_n dL_law_1245 rfl rfl ?_
  refine z_aload_n dL_law_1246 rfl rfl ?_
  refine z_iload dL_law_1247 rfl ?_
  refine z_ic ki_1 dL_law_1249 ?_
  refine z_iadd dL_law_1250 ?_
  refine z_sld dL_law_1251 (nI_add i 1) (by omega) hL ?_
  obtain ⟨A2, τ, rc, f, hA2, ⟨hI2, hs2, hr2⟩, hf2, hW2⟩ := hQ1240
  have hMm := hW2.m
  have hmc := m_audit g (x := (x.srch rc).sout f) hI hb hW2 (g.xs (i + 1))
  rw [hA2.m, hA.m] at hMm hmc
  refine z_ivQ dL_law_1252 cv_RL_139 hMm (hmc) ⟨⟨by decide, by decide⟩, (by first | exact Nat.zero_le _ | decide | omega), (by first | exact Nat.zero_le _ | decide | omega)⟩ rfl rfl (Nat.le_of_ble_eq_true rfl) (fun M1252 hQ1252 => ?_)
  refine z_istore dL_law_1255 (by decide) ?_
  refine z_aload_n dL_law_1257 rfl rfl ?_
  obtain ⟨x2, hW3, ht3, ho3, hr3⟩ := hQ1252
  have hM3 := hW3.m
  have hth := c_X6_thrown g hW3
  rw [hA2.m, hA.m] at hM3 hth
  rw [ht3] at hth
  refine z_ivI dL_law_1258 cv_RL_81 hM3 (hth) ⟨⟨by decide, by decide⟩, (by first | exact Nat.zero_le _ | decide | omega), (by first | exact Nat.zero_le _ | decide | omega)⟩ rfl rfl (Nat.le_of_ble_eq_true rfl) ?_
  refine z_iload dL_law_1261 rfl ?_
  refine z_icmp_eq (tgt := 1268) dL_law_1263 (by decide) (fun h1263 => ?_) (fun h1263 => absurd rfl h1263)
  refine z_iload dL_law_1268 rfl ?_
  refine z_if_ne (tgt := 1285) dL_law_1270 (by decide) (fun h1270 => ?_) (fun h1270 => ?_)
  · refine z_goto (tgt := 1314) dL_law_1285 (by decide) ?_
    refine tri.take 5 ?_
    exact hK.go (hA.trans hA2) hI2 hs2 hr2 hb rfl hW3 hr3 (by omega) (by omega)
  · refine z_aload_n dL_law_1273 rfl rfl ?_
    refine z_ic ki_0 dL_law_1274 ?_
    have h0 := nz0 (by omega) h1270
    have hO3 := hW3.out_
    rw [hA2.o, hA.o] at hO3
    have hans := (congrFun ho3 0).trans (hf2 h0)
    refine z_laload dL_law_1275 hO3 rfl (by decide) (by decide) ?_
    refine z_iload dL_law_1276 rfl ?_
    refine z_i2l dL_law_1278 ?_
    refine z_lcmp dL_law_1279 ?_
    refine z_if_eq (tgt := 1285) dL_law_1280 (by decide) (fun h1280 => ?_) (fun h1280 => absurd (by rw [hans]; exact lg_self _) h1280)
    refine z_goto (tgt := 1314) dL_law_1285 (by decide) ?_
    refine tri.take 5 ?_
    exact hK.go (hA.trans hA2) hI2 hs2 hr2 hb rfl hW3 hr3 (by omega) (by omega)
theorem case_replicate (hI : INV B σ) (hB : 2000000 ≤ B ∧ B + 1000 < 2147483648) (hA : AK A0 A) (hW : W2 g A σ σ x M) (hb : rbk σ x.rb) {bk bn i : Nat} {PL : PO} (hK : LK g A0 B bk bn PL i) (hi : i + 3 < g.L) (hL : g.L ≤ 2048) : tri g mL_law (bk + 16) (bn + 1000) PL M 1288 [(0, .ref g.b), (1, .ref (A0 0 0)), (2, .ref (A0 20 0)), (3, .ref (A0 22 0)), (4, .int (nI i))] [] := by
  have hc := c_X5_replicate g hW hI.wf hI.cap hI.nd hI.ld hI.hb (by omega) (fun u _ => hI.sm.1 u)
  have hAl := hW.hall
  have hMo := hW.m
  rw [hA.c] at hc hAl
  rw [hA.m] at hMo
  refine z_aload_n dL_law_1288 rfl rfl ?_
  refine z_ivQ dL_law_1289 cv_RL_140 hAl (hc) ⟨⟨by decide, by decide⟩, (by first | exact Nat.zero_le _ | decide | omega), (by first | exact Nat.zero_le _ | decide | omega)⟩ rfl rfl (Nat.le_of_ble_eq_true rfl) (fun M1289 hQ1289 => ?_)
  refine z_aload_n dL_law_1292 rfl rfl ?_
  have hM2 := hQ1289.m
  have hmc := c_X6_replicate g hQ1289 hI.wf (fun u _ => hI.sm.1 u)
  rw [hA.m] at hM2 hmc
  refine z_ivQ dL_law_1293 cv_RL_143 hM2 (hmc) ⟨⟨by decide, by decide⟩, (by first | exact Nat.zero_le _ | decide | omega), (by first | exact Nat.zero_le _ | decide | omega)⟩ rfl rfl (Nat.le_of_ble_eq_true rfl) (fun M1293 hQ1293 => ?_)
  refine z_icmp_eq (tgt := 1314) dL_law_1296 (by decide) (fun h1296 => ?_) (fun h1296 => absurd rfl h1296)
  obtain ⟨i1, i8⟩ := rp_INV hI
  exact (hK A _ _ _ hA (i1.up (Nat.le_add_right _ _)) hQ1293 (i8.rbk hb)).wk (by omega) (by omega)
theorem case_lacking (hI : INV B σ) (hB : 2000000 ≤ B ∧ B + 1000 < 2147483648) (hA : AK A0 A) (hW : W2 g A σ σ x M) (hb : rbk σ x.rb) {bk bn i : Nat} {PL : PO} (hK : LK g A0 B bk bn PL i) (hi : i + 3 < g.L) (hL : g.L ≤ 2048) : tri g mL_law (bk + 16) (bn + 1000) PL M 1301 [(0, .ref g.b), (1, .ref (A0 0 0)), (2, .ref (A0 20 0)), (3, .ref (A0 22 0)), (4, .int (nI i))] [] := by
  have hc := c_X5_lacking g hW hI.wf hI.cap hI.nd (fun u _ => hI.sm.1 u)
  have hAl := hW.hall
  have hMo := hW.m
  rw [hA.c] at hc hAl
  rw [hA.m] at hMo
  have hmc := c_X6_lacking g hW hI.wf (fun u _ => hI.sm.1 u)
  rw [hA.m] at hmc
  refine z_aload_n dL_law_1301 rfl rfl ?_
  refine z_ivI dL_law_1302 cv_RL_144 hAl (hc) ⟨⟨by decide, by decide⟩, (by first | exact Nat.zero_le _ | decide | omega), (by first | exact Nat.zero_le _ | decide | omega)⟩ rfl rfl (Nat.le_of_ble_eq_true rfl) ?_
  refine z_aload_n dL_law_1305 rfl rfl ?_
  refine z_ivQ dL_law_1306 cv_RL_147 hMo (hmc) ⟨⟨by decide, by decide⟩, (by first | exact Nat.zero_le _ | decide | omega), (by first | exact Nat.zero_le _ | decide | omega)⟩ rfl rfl (Nat.le_of_ble_eq_true rfl) (fun M1306 hQ1306 => ?_)
  refine z_icmp_eq (tgt := 1314) dL_law_1309 (by decide) (fun h1309 => ?_) (fun h1309 => absurd rfl h1309)
  exact (hK A _ _ _ hA (hI.up (Nat.le_add_right _ _)) hQ1306 hb).wk (by omega) (by omega)
end CASES
