set_option maxRecDepth 100000 in
set_option maxHeartbeats 8000000 in
theorem law_11 {X : sx_T} {E : sv_E} {Q : State → Prop} {L : Nat} {xs : Nat → Int32} {u w : Nat} {σ : sv_G} {S : st_T} {i : Int} {tb9 : List ExceptionTableEntry} (C : sx_ok X E (DL tb9)) (hX : sv_X X E L xs) (hL9 : L ≤ 20000) (hu : u + 6 ≤ 601024 ∧ w + 36 ≤ 7293034) (hi : 0 ≤ i ∧ i + 6 ≤ L) (hS : StOK S) (hN : RN σ S) (hO : RO σ S) (kk : ∀ (σ9 : sv_G) (S9 : st_T), StOK S9 → RN σ9 S9 → RO σ9 S9 → SW X E Q (u + 6) (w + 36) 2377 (lsL i) [] σ9) : SW X E Q u w 1068 (lsL i) [] σ := by
  obtain ⟨a1, ha1⟩ : ∃ z : Int, z = (xs (i + 1).toNat).toInt := ⟨_, rfl⟩
  have r1 : -2147483648 ≤ a1 ∧ a1 ≤ 2147483647 := by rw [ha1]; exact i32_rng _
  obtain ⟨a2, ha2⟩ : ∃ z : Int, z = (xs (i + 2).toNat).toInt := ⟨_, rfl⟩
  have r2 : -2147483648 ≤ a2 ∧ a2 ≤ 2147483647 := by rw [ha2]; exact i32_rng _
  obtain ⟨a3, ha3⟩ : ∃ z : Int, z = (xs (i + 3).toNat).toInt := ⟨_, rfl⟩
  have r3 : -2147483648 ≤ a3 ∧ a3 ≤ 2147483647 := by rw [ha3]; exact i32_rng _
  obtain ⟨a4, ha4⟩ : ∃ z : Int, z = (xs (i + 4).toNat).toInt := ⟨_, rfl⟩
  have r4 : -2147483648 ≤ a4 ∧ a4 ≤ 2147483647 := by rw [ha4]; exact i32_rng _
  refine s_aload_n C dL_law_1068 rfl ?_
  refine s_aloadS_n C dL_law_1069 rfl ?_
  refine s_iload C dL_law_1070 rfl ?_
  refine s_iconst C dL_law_1072 ?_
  refine s_iadd C dL_law_1073 ?_
  refine s_sld C hX (by omega) dL_law_1074 (by omega) ?_
  rw [← ha1]
  refine s_aloadS_n C dL_law_1075 rfl ?_
  refine s_iload C dL_law_1076 rfl ?_
  refine s_iconst C dL_law_1078 ?_
  refine s_iadd C dL_law_1079 ?_
  refine s_sld C hX (by omega) dL_law_1080 (by omega) ?_
  rw [← ha2]
  refine s_aloadS_n C dL_law_1081 rfl ?_
  refine s_iload C dL_law_1082 rfl ?_
  refine s_iconst C dL_law_1084 ?_
  refine s_iadd C dL_law_1085 ?_
  refine s_sld C hX (by omega) dL_law_1086 (by omega) ?_
  rw [← ha3]
  refine s_aloadS_n C dL_law_1087 rfl ?_
  refine s_iload C dL_law_1088 rfl ?_
  refine s_iconst C dL_law_1090 ?_
  refine s_iadd C dL_law_1091 ?_
  refine s_sld C hX (by omega) dL_law_1092 (by omega) ?_
  rw [← ha4]
  refine s_aload_n C dL_law_1093 rfl ?_
  refine s_cW6i (u2 := u + 4) (w2 := w + 24) C dL_law_1094 lkL_149 moL_sayFraction mvL_sayFraction (kL_sayFraction hS hN r1 r2 r3 r4) (Nat.le_of_ble_eq_true rfl) (Nat.le_of_ble_eq_true rfl) ⟨rfl, rfl⟩ ⟨(show u + 4 ≤ 601024 by omega), (show w + 24 ≤ 7293034 by omega)⟩ (fun k9 σ1 hp => ?_)
  have hop : 0 ≤ (op_sayFraction S a1 a2 a3 a4).1 ∧ (op_sayFraction S a1 a2 a3 a4).1 ≤ 3 := by unfold op_sayFraction; dsimp only; (repeat' split) <;> omega
  obtain ⟨p1, p2, p3, p4⟩ := hp
  have hO1 := hO.out p4
  refine s_istore (ls2 := [some vS, some (vR 0), some (vR 195), some (vR 228), some (vI i), some (vI k9), none]) C dL_law_1097 (show 5 < 7 by decide) rfl ?_
  refine s_aload_n C dL_law_1099 rfl ?_
  refine s_aloadS_n C dL_law_1100 rfl ?_
  refine s_iload C dL_law_1101 rfl ?_
  refine s_iconst C dL_law_1103 ?_
  refine s_iadd C dL_law_1104 ?_
  refine s_sld C hX (by omega) dL_law_1105 (by omega) ?_
  rw [← ha1]
  refine s_aloadS_n C dL_law_1106 rfl ?_
  refine s_iload C dL_law_1107 rfl ?_
  refine s_iconst C dL_law_1109 ?_
  refine s_iadd C dL_law_1110 ?_
  refine s_sld C hX (by omega) dL_law_1111 (by omega) ?_
  rw [← ha2]
  refine s_aloadS_n C dL_law_1112 rfl ?_
  refine s_iload C dL_law_1113 rfl ?_
  refine s_iconst C dL_law_1115 ?_
  refine s_iadd C dL_law_1116 ?_
  refine s_sld C hX (by omega) dL_law_1117 (by omega) ?_
  rw [← ha3]
  refine s_aloadS_n C dL_law_1118 rfl ?_
  refine s_iload C dL_law_1119 rfl ?_
  refine s_iconst C dL_law_1121 ?_
  refine s_iadd C dL_law_1122 ?_
  refine s_sld C hX (by omega) dL_law_1123 (by omega) ?_
  rw [← ha4]
  refine s_cV4i C dL_law_1124 lkL_151 moX8_sayFraction mvX8_sayFraction (kX8_sayFraction hS hO1 r1 r2 r3 r4) sh_195 ⟨_, _, rfl⟩ (Nat.le_of_ble_eq_true rfl) (Nat.le_of_ble_eq_true rfl) rfl ⟨(show u + 4 ≤ 601024 by omega), (show w + 24 ≤ 7293034 by omega)⟩ (fun b9 σ2 hm => ?_)
  obtain ⟨m1, m2, m3, m4⟩ := hm
  refine s_istore (ls2 := [some vS, some (vR 0), some (vR 195), some (vR 228), some (vI i), some (vI k9), some (vI b9)]) C dL_law_1127 (show 6 < 7 by decide) rfl ?_
  refine s_aload_n C dL_law_1129 rfl ?_
  refine s_cV0i C dL_law_1130 lkL_111 moX8_thrown mvX8_thrown kX8_thrown sh_195 ⟨_, _, rfl⟩ (Nat.le_of_ble_eq_true rfl) (Nat.le_of_ble_eq_true rfl) rfl ⟨(show u + 4 ≤ 601024 by omega), (show w + 24 ≤ 7293034 by omega)⟩ (kpI (fun t9 ht => ?_))
  refine s_iload C dL_law_1133 rfl ?_
  refine s_icmp_eq (tgt := 1140) C dL_law_1135 (by decide) (by omega) (by omega) (fun c1 => ?_) (fun c1 => ?_)
  · refine s_iload C dL_law_1140 rfl ?_
    refine s_if_ne (tgt := 1157) C dL_law_1142 (by decide) (by omega) (fun c2 => ?_) (fun c2 => ?_)
    · refine s_goto (tgt := 2377) C dL_law_1157 (by decide) ?_
      refine s_weak (ls2 := lsL i) (sv_wk_c (sv_wk_c (sv_wk_c (sv_wk_c (sv_wk_c (sv_wk_n (sv_wk_n sv_wk_0))))))) ?_
      refine s_widen (by omega) (by omega) (kk σ2 S ?_ ?_ ?_)
      · exact hS
      · exact (p3 (by omega)).low hS m4
      · exact m3 (by omega)
    · refine s_aload_n C dL_law_1145 rfl ?_
      have h0 : (op_sayFraction S a1 a2 a3 a4).1 = 0 := by omega
      obtain ⟨q1, q2, q3⟩ := p2 h0
      obtain ⟨q4, q5⟩ := m2 h0
      refine s_iconst C dL_law_1146 ?_
      refine s_lald C dL_law_1147 sh_228 (by decide) (fun g9 => ?_)
      refine s_iload C dL_law_1148 rfl ?_
      refine s_asI (wrI_ofInt _) ?_
      refine s_i2l C dL_law_1150 (wrI_rng _) ?_
      refine s_lcmp C dL_law_1151 (by omega) (by have z := wrI_rng b9; omega) ?_
      refine s_if_eq (tgt := 1157) C dL_law_1152 (by decide) cmpL_rng (fun c3 => ?_) (fun c3 => ?_)
      · refine s_goto (tgt := 2377) C dL_law_1157 (by decide) ?_
        refine s_weak (ls2 := lsL i) (sv_wk_c (sv_wk_c (sv_wk_c (sv_wk_c (sv_wk_c (sv_wk_n (sv_wk_n sv_wk_0))))))) ?_
        refine s_widen (by omega) (by omega) (kk σ2 (op_sayFraction S a1 a2 a3 a4).2.2 ?_ ?_ ?_)
        · exact q3
        · exact q2.low q3 m4
        · exact q5
      · exact absurd (cmpL_eq.mpr (by rw [m4 228 0 (by decide), q1, q4])) c3
  · exfalso; omega
set_option maxRecDepth 100000 in
set_option maxHeartbeats 8000000 in
theorem law_12 {X : sx_T} {E : sv_E} {Q : State → Prop} {L : Nat} {xs : Nat → Int32} {u w : Nat} {σ : sv_G} {S : st_T} {i : Int} {tb9 : List ExceptionTableEntry} (C : sx_ok X E (DL tb9)) (hX : sv_X X E L xs) (hL9 : L ≤ 20000) (hu : u + 6 ≤ 601024 ∧ w + 36 ≤ 7293034) (hi : 0 ≤ i ∧ i + 6 ≤ L) (hS : StOK S) (hN : RN σ S) (hO : RO σ S) (kk : ∀ (σ9 : sv_G) (S9 : st_T), StOK S9 → RN σ9 S9 → RO σ9 S9 → SW X E Q (u + 6) (w + 36) 2377 (lsL i) [] σ9) : SW X E Q u w 1160 (lsL i) [] σ := by
  obtain ⟨a1, ha1⟩ : ∃ z : Int, z = (xs (i + 1).toNat).toInt := ⟨_, rfl⟩
  have r1 : -2147483648 ≤ a1 ∧ a1 ≤ 2147483647 := by rw [ha1]; exact i32_rng _
  refine s_aload_n C dL_law_1160 rfl ?_
  refine s_aloadS_n C dL_law_1161 rfl ?_
  refine s_iload C dL_law_1162 rfl ?_
  refine s_iconst C dL_law_1164 ?_
  refine s_iadd C dL_law_1165 ?_
  refine s_sld C hX (by omega) dL_law_1166 (by omega) ?_
  rw [← ha1]
  refine s_aload_n C dL_law_1167 rfl ?_
  refine s_cW3i (u2 := u + 1) (w2 := w + 6) C dL_law_1168 lkL_152 moL_said mvL_said (kL_said hS hN r1) (Nat.le_of_ble_eq_true rfl) (Nat.le_of_ble_eq_true rfl) ⟨rfl, rfl⟩ ⟨(show u + 1 ≤ 601024 by omega), (show w + 6 ≤ 7293034 by omega)⟩ (fun k9 σ1 hp => ?_)
  have hop : 0 ≤ (op_said S a1).1 ∧ (op_said S a1).1 ≤ 3 := by unfold op_said; dsimp only; (repeat' split) <;> omega
  obtain ⟨p1, p2, p3, p4⟩ := hp
  have hO1 := hO.out p4
  refine s_istore (ls2 := [some vS, some (vR 0), some (vR 195), some (vR 228), some (vI i), some (vI k9), none]) C dL_law_1171 (show 5 < 7 by decide) rfl ?_
  refine s_aload_n C dL_law_1173 rfl ?_
  refine s_aloadS_n C dL_law_1174 rfl ?_
  refine s_iload C dL_law_1175 rfl ?_
  refine s_iconst C dL_law_1177 ?_
  refine s_iadd C dL_law_1178 ?_
  refine s_sld C hX (by omega) dL_law_1179 (by omega) ?_
  rw [← ha1]
  refine s_cV1i C dL_law_1180 lkL_154 moX8_said mvX8_said (kX8_said hS hO1 r1) sh_195 ⟨_, _, rfl⟩ (Nat.le_of_ble_eq_true rfl) (Nat.le_of_ble_eq_true rfl) rfl ⟨(show u + 1 ≤ 601024 by omega), (show w + 6 ≤ 7293034 by omega)⟩ (fun b9 σ2 hm => ?_)
  obtain ⟨m1, m2, m3, m4⟩ := hm
  refine s_istore (ls2 := [some vS, some (vR 0), some (vR 195), some (vR 228), some (vI i), some (vI k9), some (vI b9)]) C dL_law_1183 (show 6 < 7 by decide) rfl ?_
  refine s_aload_n C dL_law_1185 rfl ?_
  refine s_cV0i C dL_law_1186 lkL_111 moX8_thrown mvX8_thrown kX8_thrown sh_195 ⟨_, _, rfl⟩ (Nat.le_of_ble_eq_true rfl) (Nat.le_of_ble_eq_true rfl) rfl ⟨(show u + 1 ≤ 601024 by omega), (show w + 6 ≤ 7293034 by omega)⟩ (kpI (fun t9 ht => ?_))
  refine s_iload C dL_law_1189 rfl ?_
  refine s_icmp_eq (tgt := 1196) C dL_law_1191 (by decide) (by omega) (by omega) (fun c1 => ?_) (fun c1 => ?_)
  · refine s_iload C dL_law_1196 rfl ?_
    refine s_if_ne (tgt := 1213) C dL_law_1198 (by decide) (by omega) (fun c2 => ?_) (fun c2 => ?_)
    · refine s_goto (tgt := 2377) C dL_law_1213 (by decide) ?_
      refine s_weak (ls2 := lsL i) (sv_wk_c (sv_wk_c (sv_wk_c (sv_wk_c (sv_wk_c (sv_wk_n (sv_wk_n sv_wk_0))))))) ?_
      refine s_widen (by omega) (by omega) (kk σ2 S ?_ ?_ ?_)
      · exact hS
      · exact (p3 (by omega)).low hS m4
      · exact m3 (by omega)
    · refine s_aload_n C dL_law_1201 rfl ?_
      have h0 : (op_said S a1).1 = 0 := by omega
      obtain ⟨q1, q2, q3⟩ := p2 h0
      obtain ⟨q4, q5⟩ := m2 h0
      refine s_iconst C dL_law_1202 ?_
      refine s_lald C dL_law_1203 sh_228 (by decide) (fun g9 => ?_)
      refine s_iload C dL_law_1204 rfl ?_
      refine s_asI (wrI_ofInt _) ?_
      refine s_i2l C dL_law_1206 (wrI_rng _) ?_
      refine s_lcmp C dL_law_1207 (by omega) (by have z := wrI_rng b9; omega) ?_
      refine s_if_eq (tgt := 1213) C dL_law_1208 (by decide) cmpL_rng (fun c3 => ?_) (fun c3 => ?_)
      · refine s_goto (tgt := 2377) C dL_law_1213 (by decide) ?_
        refine s_weak (ls2 := lsL i) (sv_wk_c (sv_wk_c (sv_wk_c (sv_wk_c (sv_wk_c (sv_wk_n (sv_wk_n sv_wk_0))))))) ?_
        refine s_widen (by omega) (by omega) (kk σ2 (op_said S a1).2.2 ?_ ?_ ?_)
        · exact q3
        · exact q2.low q3 m4
        · exact q5
      · exact absurd (cmpL_eq.mpr (by rw [m4 228 0 (by decide), q1, q4])) c3
  · exfalso; omega
set_option maxRecDepth 100000 in
set_option maxHeartbeats 8000000 in
theorem law_13 {X : sx_T} {E : sv_E} {Q : State → Prop} {L : Nat} {xs : Nat → Int32} {u w : Nat} {σ : sv_G} {S : st_T} {i : Int} {tb9 : List ExceptionTableEntry} (C : sx_ok X E (DL tb9)) (hX : sv_X X E L xs) (hL9 : L ≤ 20000) (hu : u + 6 ≤ 601024 ∧ w + 36 ≤ 7293034) (hi : 0 ≤ i ∧ i + 6 ≤ L) (hS : StOK S) (hN : RN σ S) (hO : RO σ S) (kk : ∀ (σ9 : sv_G) (S9 : st_T), StOK S9 → RN σ9 S9 → RO σ9 S9 → SW X E Q (u + 6) (w + 36) 2377 (lsL i) [] σ9) : SW X E Q u w 1216 (lsL i) [] σ := by
  obtain ⟨a1, ha1⟩ : ∃ z : Int, z = (xs (i + 1).toNat).toInt := ⟨_, rfl⟩
  have r1 : -2147483648 ≤ a1 ∧ a1 ≤ 2147483647 := by rw [ha1]; exact i32_rng _
  refine s_aload_n C dL_law_1216 rfl ?_
  refine s_aloadS_n C dL_law_1217 rfl ?_
  refine s_iload C dL_law_1218 rfl ?_
  refine s_iconst C dL_law_1220 ?_
  refine s_iadd C dL_law_1221 ?_
  refine s_sld C hX (by omega) dL_law_1222 (by omega) ?_
  rw [← ha1]
  refine s_aload_n C dL_law_1223 rfl ?_
  refine s_cW3i (u2 := u + 2) (w2 := w + 12) C dL_law_1224 lkL_155 moL_hear mvL_hear (kL_hear hS hN r1) (Nat.le_of_ble_eq_true rfl) (Nat.le_of_ble_eq_true rfl) ⟨rfl, rfl⟩ ⟨(show u + 2 ≤ 601024 by omega), (show w + 12 ≤ 7293034 by omega)⟩ (fun k9 σ1 hp => ?_)
  have hop : 0 ≤ (op_hear S a1).1 ∧ (op_hear S a1).1 ≤ 3 := by unfold op_hear; dsimp only; (repeat' split) <;> omega
  obtain ⟨p1, p2, p3, p4⟩ := hp
  have hO1 := hO.out p4
  refine s_istore (ls2 := [some vS, some (vR 0), some (vR 195), some (vR 228), some (vI i), some (vI k9), none]) C dL_law_1227 (show 5 < 7 by decide) rfl ?_
  refine s_aload_n C dL_law_1229 rfl ?_
  refine s_aloadS_n C dL_law_1230 rfl ?_
  refine s_iload C dL_law_1231 rfl ?_
  refine s_iconst C dL_law_1233 ?_
  refine s_iadd C dL_law_1234 ?_
  refine s_sld C hX (by omega) dL_law_1235 (by omega) ?_
  rw [← ha1]
  refine s_cV1i C dL_law_1236 lkL_157 moX8_hear mvX8_hear (kX8_hear hS hO1 r1) sh_195 ⟨_, _, rfl⟩ (Nat.le_of_ble_eq_true rfl) (Nat.le_of_ble_eq_true rfl) rfl ⟨(show u + 2 ≤ 601024 by omega), (show w + 12 ≤ 7293034 by omega)⟩ (fun b9 σ2 hm => ?_)
  obtain ⟨m1, m2, m3, m4⟩ := hm
  refine s_istore (ls2 := [some vS, some (vR 0), some (vR 195), some (vR 228), some (vI i), some (vI k9), some (vI b9)]) C dL_law_1239 (show 6 < 7 by decide) rfl ?_
  refine s_aload_n C dL_law_1241 rfl ?_
  refine s_cV0i C dL_law_1242 lkL_111 moX8_thrown mvX8_thrown kX8_thrown sh_195 ⟨_, _, rfl⟩ (Nat.le_of_ble_eq_true rfl) (Nat.le_of_ble_eq_true rfl) rfl ⟨(show u + 2 ≤ 601024 by omega), (show w + 12 ≤ 7293034 by omega)⟩ (kpI (fun t9 ht => ?_))
  refine s_iload C dL_law_1245 rfl ?_
  refine s_icmp_eq (tgt := 1252) C dL_law_1247 (by decide) (by omega) (by omega) (fun c1 => ?_) (fun c1 => ?_)
  · refine s_iload C dL_law_1252 rfl ?_
    refine s_if_ne (tgt := 1269) C dL_law_1254 (by decide) (by omega) (fun c2 => ?_) (fun c2 => ?_)
    · refine s_goto (tgt := 2377) C dL_law_1269 (by decide) ?_
      refine s_weak (ls2 := lsL i) (sv_wk_c (sv_wk_c (sv_wk_c (sv_wk_c (sv_wk_c (sv_wk_n (sv_wk_n sv_wk_0))))))) ?_
      refine s_widen (by omega) (by omega) (kk σ2 S ?_ ?_ ?_)
      · exact hS
      · exact (p3 (by omega)).low hS m4
      · exact m3 (by omega)
    · refine s_aload_n C dL_law_1257 rfl ?_
      have h0 : (op_hear S a1).1 = 0 := by omega
      obtain ⟨q1, q2, q3⟩ := p2 h0
      obtain ⟨q4, q5⟩ := m2 h0
      refine s_iconst C dL_law_1258 ?_
      refine s_lald C dL_law_1259 sh_228 (by decide) (fun g9 => ?_)
      refine s_iload C dL_law_1260 rfl ?_
      refine s_asI (wrI_ofInt _) ?_
      refine s_i2l C dL_law_1262 (wrI_rng _) ?_
      refine s_lcmp C dL_law_1263 (by omega) (by have z := wrI_rng b9; omega) ?_
      refine s_if_eq (tgt := 1269) C dL_law_1264 (by decide) cmpL_rng (fun c3 => ?_) (fun c3 => ?_)
      · refine s_goto (tgt := 2377) C dL_law_1269 (by decide) ?_
        refine s_weak (ls2 := lsL i) (sv_wk_c (sv_wk_c (sv_wk_c (sv_wk_c (sv_wk_c (sv_wk_n (sv_wk_n sv_wk_0))))))) ?_
        refine s_widen (by omega) (by omega) (kk σ2 (op_hear S a1).2.2 ?_ ?_ ?_)
        · exact q3
        · exact q2.low q3 m4
        · exact q5
      · exact absurd (cmpL_eq.mpr (by rw [m4 228 0 (by decide), q1, q4])) c3
  · exfalso; omega
set_option maxRecDepth 100000 in
set_option maxHeartbeats 8000000 in
theorem law_14 {X : sx_T} {E : sv_E} {Q : State → Prop} {L : Nat} {xs : Nat → Int32} {u w : Nat} {σ : sv_G} {S : st_T} {i : Int} {tb9 : List ExceptionTableEntry} (C : sx_ok X E (DL tb9)) (hX : sv_X X E L xs) (hL9 : L ≤ 20000) (hu : u + 6 ≤ 601024 ∧ w + 36 ≤ 7293034) (hi : 0 ≤ i ∧ i + 6 ≤ L) (hS : StOK S) (hN : RN σ S) (hO : RO σ S) (kk : ∀ (σ9 : sv_G) (S9 : st_T), StOK S9 → RN σ9 S9 → RO σ9 S9 → SW X E Q (u + 6) (w + 36) 2377 (lsL i) [] σ9) : SW X E Q u w 1272 (lsL i) [] σ := by
  refine s_aload_n C dL_law_1272 rfl ?_
  refine s_cV0i C dL_law_1273 lkL_158 moX7_hearSaid mvX7_hearSaid (kX7_hearSaid hS hN) sh_0 ⟨_, _, rfl⟩ (Nat.le_of_ble_eq_true rfl) (Nat.le_of_ble_eq_true rfl) rfl ⟨(show u ≤ 601024 by omega), (show w ≤ 7293034 by omega)⟩ (fun r1_ σ1 hp => ?_)
  obtain ⟨p0, p1, p2, p3, p4⟩ := hp
  have hO1 := hO.fr (σ9 := σ1) fun b k q => p4 b k (by omega)
  refine s_asI (wrI_ofInt _) ?_
  refine s_aload_n C dL_law_1276 rfl ?_
  refine s_cV0i C dL_law_1277 lkL_161 moX8_hearSaid mvX8_hearSaid (kX8_hearSaid hS hO1) sh_195 ⟨_, _, rfl⟩ (Nat.le_of_ble_eq_true rfl) (Nat.le_of_ble_eq_true rfl) rfl ⟨(show u ≤ 601024 by omega), (show w ≤ 7293034 by omega)⟩ (fun r2_ σ2 hm => ?_)
  obtain ⟨m1, m2, m3, m4⟩ := hm
  obtain ⟨q4, q5⟩ := m2 rfl
  have er : r1_ = r2_ := p1.trans q4.symm
  refine s_asI (wrI_ofInt _) ?_
  refine s_icmp_eq (tgt := 2377) C dL_law_1280 (by decide) (wrI_rng _) (wrI_rng _) (fun c3 => ?_) (fun c3 => ?_)
  · exact s_widen (by omega) (by omega) (kk σ2 (op_hearSaid S).2.2 p3 (p2.low p3 m4) q5)
  · exact absurd (by rw [er]) c3
set_option maxRecDepth 100000 in
set_option maxHeartbeats 8000000 in
theorem law_15 {X : sx_T} {E : sv_E} {Q : State → Prop} {L : Nat} {xs : Nat → Int32} {u w : Nat} {σ : sv_G} {S : st_T} {i : Int} {tb9 : List ExceptionTableEntry} (C : sx_ok X E (DL tb9)) (hX : sv_X X E L xs) (hL9 : L ≤ 20000) (hu : u + 6 ≤ 601024 ∧ w + 36 ≤ 7293034) (hi : 0 ≤ i ∧ i + 6 ≤ L) (hS : StOK S) (hN : RN σ S) (hO : RO σ S) (kk : ∀ (σ9 : sv_G) (S9 : st_T), StOK S9 → RN σ9 S9 → RO σ9 S9 → SW X E Q (u + 6) (w + 36) 2377 (lsL i) [] σ9) : SW X E Q u w 1285 (lsL i) [] σ := by
  refine s_aload_n C dL_law_1285 rfl ?_
  refine s_cV0i C dL_law_1286 lkL_162 moX7_forget mvX7_forget (kX7_forget hS hN) sh_0 ⟨_, _, rfl⟩ (Nat.le_of_ble_eq_true rfl) (Nat.le_of_ble_eq_true rfl) rfl ⟨(show u ≤ 601024 by omega), (show w ≤ 7293034 by omega)⟩ (fun r1_ σ1 hp => ?_)
  obtain ⟨p0, p1, p2, p3, p4⟩ := hp
  have hO1 := hO.fr (σ9 := σ1) fun b k q => p4 b k (by omega)
  refine s_asI (wrI_ofInt _) ?_
  refine s_aload_n C dL_law_1289 rfl ?_
  refine s_cV0i C dL_law_1290 lkL_165 moX8_forget mvX8_forget (kX8_forget hS hO1) sh_195 ⟨_, _, rfl⟩ (Nat.le_of_ble_eq_true rfl) (Nat.le_of_ble_eq_true rfl) rfl ⟨(show u ≤ 601024 by omega), (show w ≤ 7293034 by omega)⟩ (fun r2_ σ2 hm => ?_)
  obtain ⟨m1, m2, m3, m4⟩ := hm
  obtain ⟨q4, q5⟩ := m2 rfl
  have er : r1_ = r2_ := p1.trans q4.symm
  refine s_asI (wrI_ofInt _) ?_
  refine s_icmp_eq (tgt := 2377) C dL_law_1293 (by decide) (wrI_rng _) (wrI_rng _) (fun c3 => ?_) (fun c3 => ?_)
  · exact s_widen (by omega) (by omega) (kk σ2 (op_forget S).2.2 p3 (p2.low p3 m4) q5)
  · exact absurd (by rw [er]) c3
set_option maxRecDepth 100000 in
set_option maxHeartbeats 8000000 in
theorem law_16 {X : sx_T} {E : sv_E} {Q : State → Prop} {L : Nat} {xs : Nat → Int32} {u w : Nat} {σ : sv_G} {S : st_T} {i : Int} {tb9 : List ExceptionTableEntry} (C : sx_ok X E (DL tb9)) (hX : sv_X X E L xs) (hL9 : L ≤ 20000) (hu : u + 6 ≤ 601024 ∧ w + 36 ≤ 7293034) (hi : 0 ≤ i ∧ i + 6 ≤ L) (hS : StOK S) (hN : RN σ S) (hO : RO σ S) (kk : ∀ (σ9 : sv_G) (S9 : st_T), StOK S9 → RN σ9 S9 → RO σ9 S9 → SW X E Q (u + 6) (w + 36) 2377 (lsL i) [] σ9) : SW X E Q u w 1298 (lsL i) [] σ := by
  obtain ⟨a1, ha1⟩ : ∃ z : Int, z = (xs (i + 1).toNat).toInt := ⟨_, rfl⟩
  have r1 : -2147483648 ≤ a1 ∧ a1 ≤ 2147483647 := by rw [ha1]; exact i32_rng _
  obtain ⟨a2, ha2⟩ : ∃ z : Int, z = (xs (i + 2).toNat).toInt := ⟨_, rfl⟩
  have r2 : -2147483648 ≤ a2 ∧ a2 ≤ 2147483647 := by rw [ha2]; exact i32_rng _
  obtain ⟨a3, ha3⟩ : ∃ z : Int, z = (xs (i + 3).toNat).toInt := ⟨_, rfl⟩
  have r3 : -2147483648 ≤ a3 ∧ a3 ≤ 2147483647 := by rw [ha3]; exact i32_rng _
  refine s_aload_n C dL_law_1298 rfl ?_
  refine s_aloadS_n C dL_law_1299 rfl ?_
  refine s_iload C dL_law_1300 rfl ?_
  refine s_iconst C dL_law_1302 ?_
  refine s_iadd C dL_law_1303 ?_
  refine s_sld C hX (by omega) dL_law_1304 (by omega) ?_
  rw [← ha1]
  refine s_aloadS_n C dL_law_1305 rfl ?_
  refine s_iload C dL_law_1306 rfl ?_
  refine s_iconst C dL_law_1308 ?_
  refine s_iadd C dL_law_1309 ?_
  refine s_sld C hX (by omega) dL_law_1310 (by omega) ?_
  rw [← ha2]
  refine s_aloadS_n C dL_law_1311 rfl ?_
  refine s_iload C dL_law_1312 rfl ?_
  refine s_iconst C dL_law_1314 ?_
  refine s_iadd C dL_law_1315 ?_
  refine s_sld C hX (by omega) dL_law_1316 (by omega) ?_
  rw [← ha3]
  refine s_aload_n C dL_law_1317 rfl ?_
  refine s_cW5i (u2 := u + 3) (w2 := w + 18) C dL_law_1318 lkL_166 moL_fits mvL_fits (kL_fits hS hN r1 r2 r3) (Nat.le_of_ble_eq_true rfl) (Nat.le_of_ble_eq_true rfl) ⟨rfl, rfl⟩ ⟨(show u + 3 ≤ 601024 by omega), (show w + 18 ≤ 7293034 by omega)⟩ (fun k9 σ1 hp => ?_)
  have hop : 0 ≤ (op_fits S a1 a2 a3).1 ∧ (op_fits S a1 a2 a3).1 ≤ 3 := by unfold op_fits; dsimp only; (repeat' split) <;> omega
  obtain ⟨p1, p2, p3, p4⟩ := hp
  have hO1 := hO.out p4
  refine s_istore (ls2 := [some vS, some (vR 0), some (vR 195), some (vR 228), some (vI i), some (vI k9), none]) C dL_law_1321 (show 5 < 7 by decide) rfl ?_
  refine s_aload_n C dL_law_1323 rfl ?_
  refine s_aloadS_n C dL_law_1324 rfl ?_
  refine s_iload C dL_law_1325 rfl ?_
  refine s_iconst C dL_law_1327 ?_
  refine s_iadd C dL_law_1328 ?_
  refine s_sld C hX (by omega) dL_law_1329 (by omega) ?_
  rw [← ha1]
  refine s_aloadS_n C dL_law_1330 rfl ?_
  refine s_iload C dL_law_1331 rfl ?_
  refine s_iconst C dL_law_1333 ?_
  refine s_iadd C dL_law_1334 ?_
  refine s_sld C hX (by omega) dL_law_1335 (by omega) ?_
  rw [← ha2]
  refine s_aloadS_n C dL_law_1336 rfl ?_
  refine s_iload C dL_law_1337 rfl ?_
  refine s_iconst C dL_law_1339 ?_
  refine s_iadd C dL_law_1340 ?_
  refine s_sld C hX (by omega) dL_law_1341 (by omega) ?_
  rw [← ha3]
  refine s_cV3i C dL_law_1342 lkL_168 moX8_fits mvX8_fits (kX8_fits hS hO1 r1 r2 r3) sh_195 ⟨_, _, rfl⟩ (Nat.le_of_ble_eq_true rfl) (Nat.le_of_ble_eq_true rfl) rfl ⟨(show u + 3 ≤ 601024 by omega), (show w + 18 ≤ 7293034 by omega)⟩ (fun b9 σ2 hm => ?_)
  obtain ⟨m1, m2, m3, m4⟩ := hm
  refine s_istore (ls2 := [some vS, some (vR 0), some (vR 195), some (vR 228), some (vI i), some (vI k9), some (vI b9)]) C dL_law_1345 (show 6 < 7 by decide) rfl ?_
  refine s_aload_n C dL_law_1347 rfl ?_
  refine s_cV0i C dL_law_1348 lkL_111 moX8_thrown mvX8_thrown kX8_thrown sh_195 ⟨_, _, rfl⟩ (Nat.le_of_ble_eq_true rfl) (Nat.le_of_ble_eq_true rfl) rfl ⟨(show u + 3 ≤ 601024 by omega), (show w + 18 ≤ 7293034 by omega)⟩ (kpI (fun t9 ht => ?_))
  refine s_iload C dL_law_1351 rfl ?_
  refine s_icmp_eq (tgt := 1358) C dL_law_1353 (by decide) (by omega) (by omega) (fun c1 => ?_) (fun c1 => ?_)
  · refine s_iload C dL_law_1358 rfl ?_
    refine s_if_ne (tgt := 1375) C dL_law_1360 (by decide) (by omega) (fun c2 => ?_) (fun c2 => ?_)
    · refine s_goto (tgt := 2377) C dL_law_1375 (by decide) ?_
      refine s_weak (ls2 := lsL i) (sv_wk_c (sv_wk_c (sv_wk_c (sv_wk_c (sv_wk_c (sv_wk_n (sv_wk_n sv_wk_0))))))) ?_
      refine s_widen (by omega) (by omega) (kk σ2 S ?_ ?_ ?_)
      · exact hS
      · exact (p3 (by omega)).low hS m4
      · exact m3 (by omega)
    · refine s_aload_n C dL_law_1363 rfl ?_
      have h0 : (op_fits S a1 a2 a3).1 = 0 := by omega
      obtain ⟨q1, q2, q3⟩ := p2 h0
      obtain ⟨q4, q5⟩ := m2 h0
      refine s_iconst C dL_law_1364 ?_
      refine s_lald C dL_law_1365 sh_228 (by decide) (fun g9 => ?_)
      refine s_iload C dL_law_1366 rfl ?_
      refine s_asI (wrI_ofInt _) ?_
      refine s_i2l C dL_law_1368 (wrI_rng _) ?_
      refine s_lcmp C dL_law_1369 (by omega) (by have z := wrI_rng b9; omega) ?_
      refine s_if_eq (tgt := 1375) C dL_law_1370 (by decide) cmpL_rng (fun c3 => ?_) (fun c3 => ?_)
      · refine s_goto (tgt := 2377) C dL_law_1375 (by decide) ?_
        refine s_weak (ls2 := lsL i) (sv_wk_c (sv_wk_c (sv_wk_c (sv_wk_c (sv_wk_c (sv_wk_n (sv_wk_n sv_wk_0))))))) ?_
        refine s_widen (by omega) (by omega) (kk σ2 (op_fits S a1 a2 a3).2.2 ?_ ?_ ?_)
        · exact q3
        · exact q2.low q3 m4
        · exact q5
      · exact absurd (cmpL_eq.mpr (by rw [m4 228 0 (by decide), q1, q4])) c3
  · exfalso; omega
set_option maxRecDepth 100000 in
set_option maxHeartbeats 8000000 in
theorem law_17 {X : sx_T} {E : sv_E} {Q : State → Prop} {L : Nat} {xs : Nat → Int32} {u w : Nat} {σ : sv_G} {S : st_T} {i : Int} {tb9 : List ExceptionTableEntry} (C : sx_ok X E (DL tb9)) (hX : sv_X X E L xs) (hL9 : L ≤ 20000) (hu : u + 6 ≤ 601024 ∧ w + 36 ≤ 7293034) (hi : 0 ≤ i ∧ i + 6 ≤ L) (hS : StOK S) (hN : RN σ S) (hO : RO σ S) (kk : ∀ (σ9 : sv_G) (S9 : st_T), StOK S9 → RN σ9 S9 → RO σ9 S9 → SW X E Q (u + 6) (w + 36) 2377 (lsL i) [] σ9) : SW X E Q u w 1378 (lsL i) [] σ := by
  obtain ⟨a1, ha1⟩ : ∃ z : Int, z = (xs (i + 1).toNat).toInt := ⟨_, rfl⟩
  have r1 : -2147483648 ≤ a1 ∧ a1 ≤ 2147483647 := by rw [ha1]; exact i32_rng _
  obtain ⟨a2, ha2⟩ : ∃ z : Int, z = (xs (i + 2).toNat).toInt := ⟨_, rfl⟩
  have r2 : -2147483648 ≤ a2 ∧ a2 ≤ 2147483647 := by rw [ha2]; exact i32_rng _
  obtain ⟨a3, ha3⟩ : ∃ z : Int, z = (xs (i + 3).toNat).toInt := ⟨_, rfl⟩
  have r3 : -2147483648 ≤ a3 ∧ a3 ≤ 2147483647 := by rw [ha3]; exact i32_rng _
  obtain ⟨a4, ha4⟩ : ∃ z : Int, z = (xs (i + 4).toNat).toInt := ⟨_, rfl⟩
  have r4 : -2147483648 ≤ a4 ∧ a4 ≤ 2147483647 := by rw [ha4]; exact i32_rng _
  refine s_aload_n C dL_law_1378 rfl ?_
  refine s_aloadS_n C dL_law_1379 rfl ?_
  refine s_iload C dL_law_1380 rfl ?_
  refine s_iconst C dL_law_1382 ?_
  refine s_iadd C dL_law_1383 ?_
  refine s_sld C hX (by omega) dL_law_1384 (by omega) ?_
  rw [← ha1]
  refine s_aloadS_n C dL_law_1385 rfl ?_
  refine s_iload C dL_law_1386 rfl ?_
  refine s_iconst C dL_law_1388 ?_
  refine s_iadd C dL_law_1389 ?_
  refine s_sld C hX (by omega) dL_law_1390 (by omega) ?_
  rw [← ha2]
  refine s_aloadS_n C dL_law_1391 rfl ?_
  refine s_iload C dL_law_1392 rfl ?_
  refine s_iconst C dL_law_1394 ?_
  refine s_iadd C dL_law_1395 ?_
  refine s_sld C hX (by omega) dL_law_1396 (by omega) ?_
  rw [← ha3]
  refine s_aloadS_n C dL_law_1397 rfl ?_
  refine s_iload C dL_law_1398 rfl ?_
  refine s_iconst C dL_law_1400 ?_
  refine s_iadd C dL_law_1401 ?_
  refine s_sld C hX (by omega) dL_law_1402 (by omega) ?_
  rw [← ha4]
  refine s_aload_n C dL_law_1403 rfl ?_
  refine s_cW6i (u2 := u + 4) (w2 := w + 24) C dL_law_1404 lkL_169 moL_fit mvL_fit (kL_fit hS hN r1 r2 r3 r4) (Nat.le_of_ble_eq_true rfl) (Nat.le_of_ble_eq_true rfl) ⟨rfl, rfl⟩ ⟨(show u + 4 ≤ 601024 by omega), (show w + 24 ≤ 7293034 by omega)⟩ (fun k9 σ1 hp => ?_)
  have hop : 0 ≤ (op_fit S a1 a2 a3 a4).1 ∧ (op_fit S a1 a2 a3 a4).1 ≤ 3 := by unfold op_fit; dsimp only; (repeat' split) <;> omega
  obtain ⟨p1, p2, p3, p4⟩ := hp
  have hO1 := hO.out p4
  refine s_istore (ls2 := [some vS, some (vR 0), some (vR 195), some (vR 228), some (vI i), some (vI k9), none]) C dL_law_1407 (show 5 < 7 by decide) rfl ?_
  refine s_aload_n C dL_law_1409 rfl ?_
  refine s_aloadS_n C dL_law_1410 rfl ?_
  refine s_iload C dL_law_1411 rfl ?_
  refine s_iconst C dL_law_1413 ?_
  refine s_iadd C dL_law_1414 ?_
  refine s_sld C hX (by omega) dL_law_1415 (by omega) ?_
  rw [← ha1]
  refine s_aloadS_n C dL_law_1416 rfl ?_
  refine s_iload C dL_law_1417 rfl ?_
  refine s_iconst C dL_law_1419 ?_
  refine s_iadd C dL_law_1420 ?_
  refine s_sld C hX (by omega) dL_law_1421 (by omega) ?_
  rw [← ha2]
  refine s_aloadS_n C dL_law_1422 rfl ?_
  refine s_iload C dL_law_1423 rfl ?_
  refine s_iconst C dL_law_1425 ?_
  refine s_iadd C dL_law_1426 ?_
  refine s_sld C hX (by omega) dL_law_1427 (by omega) ?_
  rw [← ha3]
  refine s_aloadS_n C dL_law_1428 rfl ?_
  refine s_iload C dL_law_1429 rfl ?_
  refine s_iconst C dL_law_1431 ?_
  refine s_iadd C dL_law_1432 ?_
  refine s_sld C hX (by omega) dL_law_1433 (by omega) ?_
  rw [← ha4]
  refine s_cV4i C dL_law_1434 lkL_171 moX8_fit mvX8_fit (kX8_fit hS hO1 r1 r2 r3 r4) sh_195 ⟨_, _, rfl⟩ (Nat.le_of_ble_eq_true rfl) (Nat.le_of_ble_eq_true rfl) rfl ⟨(show u + 4 ≤ 601024 by omega), (show w + 24 ≤ 7293034 by omega)⟩ (fun b9 σ2 hm => ?_)
  obtain ⟨m1, m2, m3, m4⟩ := hm
  refine s_istore (ls2 := [some vS, some (vR 0), some (vR 195), some (vR 228), some (vI i), some (vI k9), some (vI b9)]) C dL_law_1437 (show 6 < 7 by decide) rfl ?_
  refine s_aload_n C dL_law_1439 rfl ?_
  refine s_cV0i C dL_law_1440 lkL_111 moX8_thrown mvX8_thrown kX8_thrown sh_195 ⟨_, _, rfl⟩ (Nat.le_of_ble_eq_true rfl) (Nat.le_of_ble_eq_true rfl) rfl ⟨(show u + 4 ≤ 601024 by omega), (show w + 24 ≤ 7293034 by omega)⟩ (kpI (fun t9 ht => ?_))
  refine s_iload C dL_law_1443 rfl ?_
  refine s_icmp_eq (tgt := 1450) C dL_law_1445 (by decide) (by omega) (by omega) (fun c1 => ?_) (fun c1 => ?_)
  · refine s_iload C dL_law_1450 rfl ?_
    refine s_if_ne (tgt := 1467) C dL_law_1452 (by decide) (by omega) (fun c2 => ?_) (fun c2 => ?_)
    · refine s_goto (tgt := 2377) C dL_law_1467 (by decide) ?_
      refine s_weak (ls2 := lsL i) (sv_wk_c (sv_wk_c (sv_wk_c (sv_wk_c (sv_wk_c (sv_wk_n (sv_wk_n sv_wk_0))))))) ?_
      refine s_widen (by omega) (by omega) (kk σ2 S ?_ ?_ ?_)
      · exact hS
      · exact (p3 (by omega)).low hS m4
      · exact m3 (by omega)
    · refine s_aload_n C dL_law_1455 rfl ?_
      have h0 : (op_fit S a1 a2 a3 a4).1 = 0 := by omega
      obtain ⟨q1, q2, q3⟩ := p2 h0
      obtain ⟨q4, q5⟩ := m2 h0
      refine s_iconst C dL_law_1456 ?_
      refine s_lald C dL_law_1457 sh_228 (by decide) (fun g9 => ?_)
      refine s_iload C dL_law_1458 rfl ?_
      refine s_asI (wrI_ofInt _) ?_
      refine s_i2l C dL_law_1460 (wrI_rng _) ?_
      refine s_lcmp C dL_law_1461 (by omega) (by have z := wrI_rng b9; omega) ?_
      refine s_if_eq (tgt := 1467) C dL_law_1462 (by decide) cmpL_rng (fun c3 => ?_) (fun c3 => ?_)
      · refine s_goto (tgt := 2377) C dL_law_1467 (by decide) ?_
        refine s_weak (ls2 := lsL i) (sv_wk_c (sv_wk_c (sv_wk_c (sv_wk_c (sv_wk_c (sv_wk_n (sv_wk_n sv_wk_0))))))) ?_
        refine s_widen (by omega) (by omega) (kk σ2 (op_fit S a1 a2 a3 a4).2.2 ?_ ?_ ?_)
        · exact q3
        · exact q2.low q3 m4
        · exact q5
      · exact absurd (cmpL_eq.mpr (by rw [m4 228 0 (by decide), q1, q4])) c3
  · exfalso; omega
set_option maxRecDepth 100000 in
set_option maxHeartbeats 8000000 in
theorem law_18 {X : sx_T} {E : sv_E} {Q : State → Prop} {L : Nat} {xs : Nat → Int32} {u w : Nat} {σ : sv_G} {S : st_T} {i : Int} {tb9 : List ExceptionTableEntry} (C : sx_ok X E (DL tb9)) (hX : sv_X X E L xs) (hL9 : L ≤ 20000) (hu : u + 6 ≤ 601024 ∧ w + 36 ≤ 7293034) (hi : 0 ≤ i ∧ i + 6 ≤ L) (hS : StOK S) (hN : RN σ S) (hO : RO σ S) (kk : ∀ (σ9 : sv_G) (S9 : st_T), StOK S9 → RN σ9 S9 → RO σ9 S9 → SW X E Q (u + 6) (w + 36) 2377 (lsL i) [] σ9) : SW X E Q u w 1470 (lsL i) [] σ := by
  obtain ⟨a1, ha1⟩ : ∃ z : Int, z = (xs (i + 1).toNat).toInt := ⟨_, rfl⟩
  have r1 : -2147483648 ≤ a1 ∧ a1 ≤ 2147483647 := by rw [ha1]; exact i32_rng _
  obtain ⟨a2, ha2⟩ : ∃ z : Int, z = (xs (i + 2).toNat).toInt := ⟨_, rfl⟩
  have r2 : -2147483648 ≤ a2 ∧ a2 ≤ 2147483647 := by rw [ha2]; exact i32_rng _
  obtain ⟨a3, ha3⟩ : ∃ z : Int, z = (xs (i + 3).toNat).toInt := ⟨_, rfl⟩
  have r3 : -2147483648 ≤ a3 ∧ a3 ≤ 2147483647 := by rw [ha3]; exact i32_rng _
  refine s_aload_n C dL_law_1470 rfl ?_
  refine s_aloadS_n C dL_law_1471 rfl ?_
  refine s_iload C dL_law_1472 rfl ?_
  refine s_iconst C dL_law_1474 ?_
  refine s_iadd C dL_law_1475 ?_
  refine s_sld C hX (by omega) dL_law_1476 (by omega) ?_
  rw [← ha1]
  refine s_aloadS_n C dL_law_1477 rfl ?_
  refine s_iload C dL_law_1478 rfl ?_
  refine s_iconst C dL_law_1480 ?_
  refine s_iadd C dL_law_1481 ?_
  refine s_sld C hX (by omega) dL_law_1482 (by omega) ?_
  rw [← ha2]
  refine s_aloadS_n C dL_law_1483 rfl ?_
  refine s_iload C dL_law_1484 rfl ?_
  refine s_iconst C dL_law_1486 ?_
  refine s_iadd C dL_law_1487 ?_
  refine s_sld C hX (by omega) dL_law_1488 (by omega) ?_
  rw [← ha3]
  refine s_aload_n C dL_law_1489 rfl ?_
  refine s_cW5i (u2 := u + 3) (w2 := w + 18) C dL_law_1490 lkL_172 moL_askWord mvL_askWord (kL_askWord hS hN r1 r2 r3) (Nat.le_of_ble_eq_true rfl) (Nat.le_of_ble_eq_true rfl) ⟨rfl, rfl⟩ ⟨(show u + 3 ≤ 601024 by omega), (show w + 18 ≤ 7293034 by omega)⟩ (fun k9 σ1 hp => ?_)
  have hop : 0 ≤ (op_askWord S a1 a2 a3).1 ∧ (op_askWord S a1 a2 a3).1 ≤ 3 := by unfold op_askWord; dsimp only; (repeat' split) <;> omega
  obtain ⟨p1, p2, p3, p4⟩ := hp
  have hO1 := hO.out p4
  refine s_istore (ls2 := [some vS, some (vR 0), some (vR 195), some (vR 228), some (vI i), some (vI k9), none]) C dL_law_1493 (show 5 < 7 by decide) rfl ?_
  refine s_aload_n C dL_law_1495 rfl ?_
  refine s_aloadS_n C dL_law_1496 rfl ?_
  refine s_iload C dL_law_1497 rfl ?_
  refine s_iconst C dL_law_1499 ?_
  refine s_iadd C dL_law_1500 ?_
  refine s_sld C hX (by omega) dL_law_1501 (by omega) ?_
  rw [← ha1]
  refine s_aloadS_n C dL_law_1502 rfl ?_
  refine s_iload C dL_law_1503 rfl ?_
  refine s_iconst C dL_law_1505 ?_
  refine s_iadd C dL_law_1506 ?_
  refine s_sld C hX (by omega) dL_law_1507 (by omega) ?_
  rw [← ha2]
  refine s_aloadS_n C dL_law_1508 rfl ?_
  refine s_iload C dL_law_1509 rfl ?_
  refine s_iconst C dL_law_1511 ?_
  refine s_iadd C dL_law_1512 ?_
  refine s_sld C hX (by omega) dL_law_1513 (by omega) ?_
  rw [← ha3]
  refine s_cV3i C dL_law_1514 lkL_174 moX8_askWord mvX8_askWord (kX8_askWord hS hO1 r1 r2 r3) sh_195 ⟨_, _, rfl⟩ (Nat.le_of_ble_eq_true rfl) (Nat.le_of_ble_eq_true rfl) rfl ⟨(show u + 3 ≤ 601024 by omega), (show w + 18 ≤ 7293034 by omega)⟩ (fun b9 σ2 hm => ?_)
  obtain ⟨m1, m2, m3, m4⟩ := hm
  refine s_istore (ls2 := [some vS, some (vR 0), some (vR 195), some (vR 228), some (vI i), some (vI k9), some (vI b9)]) C dL_law_1517 (show 6 < 7 by decide) rfl ?_
  refine s_aload_n C dL_law_1519 rfl ?_
  refine s_cV0i C dL_law_1520 lkL_111 moX8_thrown mvX8_thrown kX8_thrown sh_195 ⟨_, _, rfl⟩ (Nat.le_of_ble_eq_true rfl) (Nat.le_of_ble_eq_true rfl) rfl ⟨(show u + 3 ≤ 601024 by omega), (show w + 18 ≤ 7293034 by omega)⟩ (kpI (fun t9 ht => ?_))
  refine s_iload C dL_law_1523 rfl ?_
  refine s_icmp_eq (tgt := 1530) C dL_law_1525 (by decide) (by omega) (by omega) (fun c1 => ?_) (fun c1 => ?_)
  · refine s_iload C dL_law_1530 rfl ?_
    refine s_if_ne (tgt := 1547) C dL_law_1532 (by decide) (by omega) (fun c2 => ?_) (fun c2 => ?_)
    · refine s_goto (tgt := 2377) C dL_law_1547 (by decide) ?_
      refine s_weak (ls2 := lsL i) (sv_wk_c (sv_wk_c (sv_wk_c (sv_wk_c (sv_wk_c (sv_wk_n (sv_wk_n sv_wk_0))))))) ?_
      refine s_widen (by omega) (by omega) (kk σ2 S ?_ ?_ ?_)
      · exact hS
      · exact (p3 (by omega)).low hS m4
      · exact m3 (by omega)
    · refine s_aload_n C dL_law_1535 rfl ?_
      have h0 : (op_askWord S a1 a2 a3).1 = 0 := by omega
      obtain ⟨q1, q2, q3⟩ := p2 h0
      obtain ⟨q4, q5⟩ := m2 h0
      refine s_iconst C dL_law_1536 ?_
      refine s_lald C dL_law_1537 sh_228 (by decide) (fun g9 => ?_)
      refine s_iload C dL_law_1538 rfl ?_
      refine s_asI (wrI_ofInt _) ?_
      refine s_i2l C dL_law_1540 (wrI_rng _) ?_
      refine s_lcmp C dL_law_1541 (by omega) (by have z := wrI_rng b9; omega) ?_
      refine s_if_eq (tgt := 1547) C dL_law_1542 (by decide) cmpL_rng (fun c3 => ?_) (fun c3 => ?_)
      · refine s_goto (tgt := 2377) C dL_law_1547 (by decide) ?_
        refine s_weak (ls2 := lsL i) (sv_wk_c (sv_wk_c (sv_wk_c (sv_wk_c (sv_wk_c (sv_wk_n (sv_wk_n sv_wk_0))))))) ?_
        refine s_widen (by omega) (by omega) (kk σ2 (op_askWord S a1 a2 a3).2.2 ?_ ?_ ?_)
        · exact q3
        · exact q2.low q3 m4
        · exact q5
      · exact absurd (cmpL_eq.mpr (by rw [m4 228 0 (by decide), q1, q4])) c3
  · exfalso; omega
set_option maxRecDepth 100000 in
set_option maxHeartbeats 8000000 in
theorem law_19 {X : sx_T} {E : sv_E} {Q : State → Prop} {L : Nat} {xs : Nat → Int32} {u w : Nat} {σ : sv_G} {S : st_T} {i : Int} {tb9 : List ExceptionTableEntry} (C : sx_ok X E (DL tb9)) (hX : sv_X X E L xs) (hL9 : L ≤ 20000) (hu : u + 6 ≤ 601024 ∧ w + 36 ≤ 7293034) (hi : 0 ≤ i ∧ i + 6 ≤ L) (hS : StOK S) (hN : RN σ S) (hO : RO σ S) (kk : ∀ (σ9 : sv_G) (S9 : st_T), StOK S9 → RN σ9 S9 → RO σ9 S9 → SW X E Q (u + 6) (w + 36) 2377 (lsL i) [] σ9) : SW X E Q u w 1550 (lsL i) [] σ := by
  obtain ⟨a1, ha1⟩ : ∃ z : Int, z = (xs (i + 1).toNat).toInt := ⟨_, rfl⟩
  have r1 : -2147483648 ≤ a1 ∧ a1 ≤ 2147483647 := by rw [ha1]; exact i32_rng _
  obtain ⟨a2, ha2⟩ : ∃ z : Int, z = (xs (i + 2).toNat).toInt := ⟨_, rfl⟩
  have r2 : -2147483648 ≤ a2 ∧ a2 ≤ 2147483647 := by rw [ha2]; exact i32_rng _
  refine s_aload_n C dL_law_1550 rfl ?_
  refine s_aloadS_n C dL_law_1551 rfl ?_
  refine s_iload C dL_law_1552 rfl ?_
  refine s_iconst C dL_law_1554 ?_
  refine s_iadd C dL_law_1555 ?_
  refine s_sld C hX (by omega) dL_law_1556 (by omega) ?_
  rw [← ha1]
  refine s_aloadS_n C dL_law_1557 rfl ?_
  refine s_iload C dL_law_1558 rfl ?_
  refine s_iconst C dL_law_1560 ?_
  refine s_iadd C dL_law_1561 ?_
  refine s_sld C hX (by omega) dL_law_1562 (by omega) ?_
  rw [← ha2]
  refine s_aload_n C dL_law_1563 rfl ?_
  refine s_cW4i (u2 := u + 2) (w2 := w + 12) C dL_law_1564 lkL_175 moL_gap mvL_gap (kL_gap hS hN r1 r2) (Nat.le_of_ble_eq_true rfl) (Nat.le_of_ble_eq_true rfl) ⟨rfl, rfl⟩ ⟨(show u + 2 ≤ 601024 by omega), (show w + 12 ≤ 7293034 by omega)⟩ (fun k9 σ1 hp => ?_)
  have hop : 0 ≤ (op_gap S a1 a2).1 ∧ (op_gap S a1 a2).1 ≤ 3 := by unfold op_gap; dsimp only; (repeat' split) <;> omega
  obtain ⟨p1, p2, p3, p4⟩ := hp
  have hO1 := hO.out p4
  refine s_istore (ls2 := [some vS, some (vR 0), some (vR 195), some (vR 228), some (vI i), some (vI k9), none]) C dL_law_1567 (show 5 < 7 by decide) rfl ?_
  refine s_aload_n C dL_law_1569 rfl ?_
  refine s_aloadS_n C dL_law_1570 rfl ?_
  refine s_iload C dL_law_1571 rfl ?_
  refine s_iconst C dL_law_1573 ?_
  refine s_iadd C dL_law_1574 ?_
  refine s_sld C hX (by omega) dL_law_1575 (by omega) ?_
  rw [← ha1]
  refine s_aloadS_n C dL_law_1576 rfl ?_
  refine s_iload C dL_law_1577 rfl ?_
  refine s_iconst C dL_law_1579 ?_
  refine s_iadd C dL_law_1580 ?_
  refine s_sld C hX (by omega) dL_law_1581 (by omega) ?_
  rw [← ha2]
  refine s_cV2i C dL_law_1582 lkL_177 moX8_gap mvX8_gap (kX8_gap hS hO1 r1 r2) sh_195 ⟨_, _, rfl⟩ (Nat.le_of_ble_eq_true rfl) (Nat.le_of_ble_eq_true rfl) rfl ⟨(show u + 2 ≤ 601024 by omega), (show w + 12 ≤ 7293034 by omega)⟩ (fun b9 σ2 hm => ?_)
  obtain ⟨m1, m2, m3, m4⟩ := hm
  refine s_istore (ls2 := [some vS, some (vR 0), some (vR 195), some (vR 228), some (vI i), some (vI k9), some (vI b9)]) C dL_law_1585 (show 6 < 7 by decide) rfl ?_
  refine s_aload_n C dL_law_1587 rfl ?_
  refine s_cV0i C dL_law_1588 lkL_111 moX8_thrown mvX8_thrown kX8_thrown sh_195 ⟨_, _, rfl⟩ (Nat.le_of_ble_eq_true rfl) (Nat.le_of_ble_eq_true rfl) rfl ⟨(show u + 2 ≤ 601024 by omega), (show w + 12 ≤ 7293034 by omega)⟩ (kpI (fun t9 ht => ?_))
  refine s_iload C dL_law_1591 rfl ?_
  refine s_icmp_eq (tgt := 1598) C dL_law_1593 (by decide) (by omega) (by omega) (fun c1 => ?_) (fun c1 => ?_)
  · refine s_iload C dL_law_1598 rfl ?_
    refine s_if_ne (tgt := 1615) C dL_law_1600 (by decide) (by omega) (fun c2 => ?_) (fun c2 => ?_)
    · refine s_goto (tgt := 2377) C dL_law_1615 (by decide) ?_
      refine s_weak (ls2 := lsL i) (sv_wk_c (sv_wk_c (sv_wk_c (sv_wk_c (sv_wk_c (sv_wk_n (sv_wk_n sv_wk_0))))))) ?_
      refine s_widen (by omega) (by omega) (kk σ2 S ?_ ?_ ?_)
      · exact hS
      · exact (p3 (by omega)).low hS m4
      · exact m3 (by omega)
    · refine s_aload_n C dL_law_1603 rfl ?_
      have h0 : (op_gap S a1 a2).1 = 0 := by omega
      obtain ⟨q1, q2, q3⟩ := p2 h0
      obtain ⟨q4, q5⟩ := m2 h0
      refine s_iconst C dL_law_1604 ?_
      refine s_lald C dL_law_1605 sh_228 (by decide) (fun g9 => ?_)
      refine s_iload C dL_law_1606 rfl ?_
      refine s_asI (wrI_ofInt _) ?_
      refine s_i2l C dL_law_1608 (wrI_rng _) ?_
      refine s_lcmp C dL_law_1609 (by omega) (by have z := wrI_rng b9; omega) ?_
      refine s_if_eq (tgt := 1615) C dL_law_1610 (by decide) cmpL_rng (fun c3 => ?_) (fun c3 => ?_)
      · refine s_goto (tgt := 2377) C dL_law_1615 (by decide) ?_
        refine s_weak (ls2 := lsL i) (sv_wk_c (sv_wk_c (sv_wk_c (sv_wk_c (sv_wk_c (sv_wk_n (sv_wk_n sv_wk_0))))))) ?_
        refine s_widen (by omega) (by omega) (kk σ2 (op_gap S a1 a2).2.2 ?_ ?_ ?_)
        · exact q3
        · exact q2.low q3 m4
        · exact q5
      · exact absurd (cmpL_eq.mpr (by rw [m4 228 0 (by decide), q1, q4])) c3
  · exfalso; omega
set_option maxRecDepth 100000 in
set_option maxHeartbeats 8000000 in
theorem law_20 {X : sx_T} {E : sv_E} {Q : State → Prop} {L : Nat} {xs : Nat → Int32} {u w : Nat} {σ : sv_G} {S : st_T} {i : Int} {tb9 : List ExceptionTableEntry} (C : sx_ok X E (DL tb9)) (hX : sv_X X E L xs) (hL9 : L ≤ 20000) (hu : u + 6 ≤ 601024 ∧ w + 36 ≤ 7293034) (hi : 0 ≤ i ∧ i + 6 ≤ L) (hS : StOK S) (hN : RN σ S) (hO : RO σ S) (kk : ∀ (σ9 : sv_G) (S9 : st_T), StOK S9 → RN σ9 S9 → RO σ9 S9 → SW X E Q (u + 6) (w + 36) 2377 (lsL i) [] σ9) : SW X E Q u w 1618 (lsL i) [] σ := by
  obtain ⟨a1, ha1⟩ : ∃ z : Int, z = (xs (i + 1).toNat).toInt := ⟨_, rfl⟩
  have r1 : -2147483648 ≤ a1 ∧ a1 ≤ 2147483647 := by rw [ha1]; exact i32_rng _
  obtain ⟨a2, ha2⟩ : ∃ z : Int, z = (xs (i + 2).toNat).toInt := ⟨_, rfl⟩
  have r2 : -2147483648 ≤ a2 ∧ a2 ≤ 2147483647 := by rw [ha2]; exact i32_rng _
  obtain ⟨a3, ha3⟩ : ∃ z : Int, z = (xs (i + 3).toNat).toInt := ⟨_, rfl⟩
  have r3 : -2147483648 ≤ a3 ∧ a3 ≤ 2147483647 := by rw [ha3]; exact i32_rng _
  refine s_aload_n C dL_law_1618 rfl ?_
  refine s_aloadS_n C dL_law_1619 rfl ?_
  refine s_iload C dL_law_1620 rfl ?_
  refine s_iconst C dL_law_1622 ?_
  refine s_iadd C dL_law_1623 ?_
  refine s_sld C hX (by omega) dL_law_1624 (by omega) ?_
  rw [← ha1]
  refine s_aloadS_n C dL_law_1625 rfl ?_
  refine s_iload C dL_law_1626 rfl ?_
  refine s_iconst C dL_law_1628 ?_
  refine s_iadd C dL_law_1629 ?_
  refine s_sld C hX (by omega) dL_law_1630 (by omega) ?_
  rw [← ha2]
  refine s_aloadS_n C dL_law_1631 rfl ?_
  refine s_iload C dL_law_1632 rfl ?_
  refine s_iconst C dL_law_1634 ?_
  refine s_iadd C dL_law_1635 ?_
  refine s_sld C hX (by omega) dL_law_1636 (by omega) ?_
  rw [← ha3]
  refine s_aload_n C dL_law_1637 rfl ?_
  refine s_cW5i (u2 := u + 3) (w2 := w + 18) C dL_law_1638 lkL_178 moL_clash mvL_clash (kL_clash hS hN r1 r2 r3) (Nat.le_of_ble_eq_true rfl) (Nat.le_of_ble_eq_true rfl) ⟨rfl, rfl⟩ ⟨(show u + 3 ≤ 601024 by omega), (show w + 18 ≤ 7293034 by omega)⟩ (fun k9 σ1 hp => ?_)
  have hop : 0 ≤ (op_clash S a1 a2 a3).1 ∧ (op_clash S a1 a2 a3).1 ≤ 3 := by unfold op_clash; dsimp only; (repeat' split) <;> omega
  obtain ⟨p1, p2, p3, p4⟩ := hp
  have hO1 := hO.out p4
  refine s_istore (ls2 := [some vS, some (vR 0), some (vR 195), some (vR 228), some (vI i), some (vI k9), none]) C dL_law_1641 (show 5 < 7 by decide) rfl ?_
  refine s_aload_n C dL_law_1643 rfl ?_
  refine s_aloadS_n C dL_law_1644 rfl ?_
  refine s_iload C dL_law_1645 rfl ?_
  refine s_iconst C dL_law_1647 ?_
  refine s_iadd C dL_law_1648 ?_
  refine s_sld C hX (by omega) dL_law_1649 (by omega) ?_
  rw [← ha1]
  refine s_aloadS_n C dL_law_1650 rfl ?_
  refine s_iload C dL_law_1651 rfl ?_
  refine s_iconst C dL_law_1653 ?_
  refine s_iadd C dL_law_1654 ?_
  refine s_sld C hX (by omega) dL_law_1655 (by omega) ?_
  rw [← ha2]
  refine s_aloadS_n C dL_law_1656 rfl ?_
  refine s_iload C dL_law_1657 rfl ?_
  refine s_iconst C dL_law_1659 ?_
  refine s_iadd C dL_law_1660 ?_
  refine s_sld C hX (by omega) dL_law_1661 (by omega) ?_
  rw [← ha3]
  refine s_cV3i C dL_law_1662 lkL_180 moX8_clash mvX8_clash (kX8_clash hS hO1 r1 r2 r3) sh_195 ⟨_, _, rfl⟩ (Nat.le_of_ble_eq_true rfl) (Nat.le_of_ble_eq_true rfl) rfl ⟨(show u + 3 ≤ 601024 by omega), (show w + 18 ≤ 7293034 by omega)⟩ (fun b9 σ2 hm => ?_)
  obtain ⟨m1, m2, m3, m4⟩ := hm
  refine s_istore (ls2 := [some vS, some (vR 0), some (vR 195), some (vR 228), some (vI i), some (vI k9), some (vI b9)]) C dL_law_1665 (show 6 < 7 by decide) rfl ?_
  refine s_aload_n C dL_law_1667 rfl ?_
  refine s_cV0i C dL_law_1668 lkL_111 moX8_thrown mvX8_thrown kX8_thrown sh_195 ⟨_, _, rfl⟩ (Nat.le_of_ble_eq_true rfl) (Nat.le_of_ble_eq_true rfl) rfl ⟨(show u + 3 ≤ 601024 by omega), (show w + 18 ≤ 7293034 by omega)⟩ (kpI (fun t9 ht => ?_))
  refine s_iload C dL_law_1671 rfl ?_
  refine s_icmp_eq (tgt := 1678) C dL_law_1673 (by decide) (by omega) (by omega) (fun c1 => ?_) (fun c1 => ?_)
  · refine s_iload C dL_law_1678 rfl ?_
    refine s_if_ne (tgt := 1695) C dL_law_1680 (by decide) (by omega) (fun c2 => ?_) (fun c2 => ?_)
    · refine s_goto (tgt := 2377) C dL_law_1695 (by decide) ?_
      refine s_weak (ls2 := lsL i) (sv_wk_c (sv_wk_c (sv_wk_c (sv_wk_c (sv_wk_c (sv_wk_n (sv_wk_n sv_wk_0))))))) ?_
      refine s_widen (by omega) (by omega) (kk σ2 S ?_ ?_ ?_)
      · exact hS
      · exact (p3 (by omega)).low hS m4
      · exact m3 (by omega)
    · refine s_aload_n C dL_law_1683 rfl ?_
      have h0 : (op_clash S a1 a2 a3).1 = 0 := by omega
      obtain ⟨q1, q2, q3⟩ := p2 h0
      obtain ⟨q4, q5⟩ := m2 h0
      refine s_iconst C dL_law_1684 ?_
      refine s_lald C dL_law_1685 sh_228 (by decide) (fun g9 => ?_)
      refine s_iload C dL_law_1686 rfl ?_
      refine s_asI (wrI_ofInt _) ?_
      refine s_i2l C dL_law_1688 (wrI_rng _) ?_
      refine s_lcmp C dL_law_1689 (by omega) (by have z := wrI_rng b9; omega) ?_
      refine s_if_eq (tgt := 1695) C dL_law_1690 (by decide) cmpL_rng (fun c3 => ?_) (fun c3 => ?_)
      · refine s_goto (tgt := 2377) C dL_law_1695 (by decide) ?_
        refine s_weak (ls2 := lsL i) (sv_wk_c (sv_wk_c (sv_wk_c (sv_wk_c (sv_wk_c (sv_wk_n (sv_wk_n sv_wk_0))))))) ?_
        refine s_widen (by omega) (by omega) (kk σ2 (op_clash S a1 a2 a3).2.2 ?_ ?_ ?_)
        · exact q3
        · exact q2.low q3 m4
        · exact q5
      · exact absurd (cmpL_eq.mpr (by rw [m4 228 0 (by decide), q1, q4])) c3
  · exfalso; omega
set_option maxRecDepth 100000 in
set_option maxHeartbeats 8000000 in
theorem law_21 {X : sx_T} {E : sv_E} {Q : State → Prop} {L : Nat} {xs : Nat → Int32} {u w : Nat} {σ : sv_G} {S : st_T} {i : Int} {tb9 : List ExceptionTableEntry} (C : sx_ok X E (DL tb9)) (hX : sv_X X E L xs) (hL9 : L ≤ 20000) (hu : u + 6 ≤ 601024 ∧ w + 36 ≤ 7293034) (hi : 0 ≤ i ∧ i + 6 ≤ L) (hS : StOK S) (hN : RN σ S) (hO : RO σ S) (kk : ∀ (σ9 : sv_G) (S9 : st_T), StOK S9 → RN σ9 S9 → RO σ9 S9 → SW X E Q (u + 6) (w + 36) 2377 (lsL i) [] σ9) : SW X E Q u w 1698 (lsL i) [] σ := by
  obtain ⟨a1, ha1⟩ : ∃ z : Int, z = (xs (i + 1).toNat).toInt := ⟨_, rfl⟩
  have r1 : -2147483648 ≤ a1 ∧ a1 ≤ 2147483647 := by rw [ha1]; exact i32_rng _
  refine s_aload_n C dL_law_1698 rfl ?_
  refine s_aloadS_n C dL_law_1699 rfl ?_
  refine s_iload C dL_law_1700 rfl ?_
  refine s_iconst C dL_law_1702 ?_
  refine s_iadd C dL_law_1703 ?_
  refine s_sld C hX (by omega) dL_law_1704 (by omega) ?_
  rw [← ha1]
  refine s_aload_n C dL_law_1705 rfl ?_
  refine s_cW3i (u2 := u + 2) (w2 := w + 12) C dL_law_1706 lkL_181 moL_example mvL_example (kL_example hS hN r1) (Nat.le_of_ble_eq_true rfl) (Nat.le_of_ble_eq_true rfl) ⟨rfl, rfl⟩ ⟨(show u + 2 ≤ 601024 by omega), (show w + 12 ≤ 7293034 by omega)⟩ (fun k9 σ1 hp => ?_)
  have hop : 0 ≤ (op_example S a1).1 ∧ (op_example S a1).1 ≤ 3 := by unfold op_example; dsimp only; (repeat' split) <;> omega
  obtain ⟨p1, p2, p3, p4⟩ := hp
  have hO1 := hO.out p4
  refine s_istore (ls2 := [some vS, some (vR 0), some (vR 195), some (vR 228), some (vI i), some (vI k9), none]) C dL_law_1709 (show 5 < 7 by decide) rfl ?_
  refine s_aload_n C dL_law_1711 rfl ?_
  refine s_aloadS_n C dL_law_1712 rfl ?_
  refine s_iload C dL_law_1713 rfl ?_
  refine s_iconst C dL_law_1715 ?_
  refine s_iadd C dL_law_1716 ?_
  refine s_sld C hX (by omega) dL_law_1717 (by omega) ?_
  rw [← ha1]
  refine s_cV1i C dL_law_1718 lkL_183 moX8_example mvX8_example (kX8_example hS hO1 r1) sh_195 ⟨_, _, rfl⟩ (Nat.le_of_ble_eq_true rfl) (Nat.le_of_ble_eq_true rfl) rfl ⟨(show u + 2 ≤ 601024 by omega), (show w + 12 ≤ 7293034 by omega)⟩ (fun b9 σ2 hm => ?_)
  obtain ⟨m1, m2, m3, m4⟩ := hm
  refine s_istore (ls2 := [some vS, some (vR 0), some (vR 195), some (vR 228), some (vI i), some (vI k9), some (vI b9)]) C dL_law_1721 (show 6 < 7 by decide) rfl ?_
  refine s_aload_n C dL_law_1723 rfl ?_
  refine s_cV0i C dL_law_1724 lkL_111 moX8_thrown mvX8_thrown kX8_thrown sh_195 ⟨_, _, rfl⟩ (Nat.le_of_ble_eq_true rfl) (Nat.le_of_ble_eq_true rfl) rfl ⟨(show u + 2 ≤ 601024 by omega), (show w + 12 ≤ 7293034 by omega)⟩ (kpI (fun t9 ht => ?_))
  refine s_iload C dL_law_1727 rfl ?_
  refine s_icmp_eq (tgt := 1734) C dL_law_1729 (by decide) (by omega) (by omega) (fun c1 => ?_) (fun c1 => ?_)
  · refine s_iload C dL_law_1734 rfl ?_
    refine s_if_ne (tgt := 1751) C dL_law_1736 (by decide) (by omega) (fun c2 => ?_) (fun c2 => ?_)
    · refine s_goto (tgt := 2377) C dL_law_1751 (by decide) ?_
      refine s_weak (ls2 := lsL i) (sv_wk_c (sv_wk_c (sv_wk_c (sv_wk_c (sv_wk_c (sv_wk_n (sv_wk_n sv_wk_0))))))) ?_
      refine s_widen (by omega) (by omega) (kk σ2 S ?_ ?_ ?_)
      · exact hS
      · exact (p3 (by omega)).low hS m4
      · exact m3 (by omega)
    · refine s_aload_n C dL_law_1739 rfl ?_
      have h0 : (op_example S a1).1 = 0 := by omega
      obtain ⟨q1, q2, q3⟩ := p2 h0
      obtain ⟨q4, q5⟩ := m2 h0
      refine s_iconst C dL_law_1740 ?_
      refine s_lald C dL_law_1741 sh_228 (by decide) (fun g9 => ?_)
      refine s_iload C dL_law_1742 rfl ?_
      refine s_asI (wrI_ofInt _) ?_
      refine s_i2l C dL_law_1744 (wrI_rng _) ?_
      refine s_lcmp C dL_law_1745 (by omega) (by have z := wrI_rng b9; omega) ?_
      refine s_if_eq (tgt := 1751) C dL_law_1746 (by decide) cmpL_rng (fun c3 => ?_) (fun c3 => ?_)
      · refine s_goto (tgt := 2377) C dL_law_1751 (by decide) ?_
        refine s_weak (ls2 := lsL i) (sv_wk_c (sv_wk_c (sv_wk_c (sv_wk_c (sv_wk_c (sv_wk_n (sv_wk_n sv_wk_0))))))) ?_
        refine s_widen (by omega) (by omega) (kk σ2 (op_example S a1).2.2 ?_ ?_ ?_)
        · exact q3
        · exact q2.low q3 m4
        · exact q5
      · exact absurd (cmpL_eq.mpr (by rw [m4 228 0 (by decide), q1, q4])) c3
  · exfalso; omega
