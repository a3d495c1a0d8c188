section LCASES
variable {l : Launch} {p : Program} {e : Env} {s : State} {m : MethodId} {below : List Frame} {meth : Method} {c : Code} {g : GG} {b L : Nat} {xs : Nat → Int32} {bb i : Nat} {w : Wd}
theorem lc_text (X : LX p s m meth c g b L xs) (hL : L ≤ 3072) (hI : INV bb w) (hb : bb ≤ 40000) (hi : i + 6 ≤ L) (k : ∀ w2, INV (bb + 60) w2 → GoL l p e s m below meth c g b 1302 (LVl g b i) [] w2) : GoL l p e s m below meth c g b 943 (LVl g b i) [] w := by
  obtain ⟨q, hX, hG, hY⟩ : STEP l g bb w S_text Q_text [] := st_text hI hb
  refine l_aload X dL_943 rfl ?_
  refine l_callV (as := []) (rest := []) (bq := 0) X dL_944 kL_122 rfl rfl hX (Nat.le_of_ble_eq_true rfl) rfl (fun r1 w1 q1 => ?_)
  obtain ⟨rfl, B, T, e1⟩ := q1
  refine l_aload X dL_947 rfl ?_
  refine l_callV (as := []) (rest := [.int q.1]) (bq := 33) X dL_948 kL_125 rfl rfl (hY w1 (step_mid hI.1 hG e1)) (Nat.le_of_ble_eq_true rfl) rfl (fun r2 w2 q2 => ?_)
  obtain ⟨rfl, h2, h3⟩ := q2
  exact l_icmp_eq X dL_951 rfl (fun _ => k w2 (step_fin hG e1 h2 h3)) (fun hne => absurd rfl hne)
theorem lc_hold (X : LX p s m meth c g b L xs) (hL : L ≤ 3072) (hI : INV bb w) (hb : bb ≤ 40000) (hi : i + 6 ≤ L) (k : ∀ w2, INV (bb + 60) w2 → GoL l p e s m below meth c g b 1302 (LVl g b i) [] w2) : GoL l p e s m below meth c g b 956 (LVl g b i) [] w := by
  obtain ⟨q, hX, hG, hY⟩ : STEP l g bb w S_hold Q_hold [.int (xs (i + 1)), .int (xs (i + 2))] := st_hold hI hb
  refine l_aload X dL_956 rfl ?_
  refine l_arg (z := 1) X hL rfl rfl dL_957 dL_958 dL_959 dL_960 dL_961 (by omega) ?_
  refine l_arg (z := 2) X hL rfl rfl dL_962 dL_963 dL_964 dL_965 dL_966 (by omega) ?_
  refine l_callV (as := [.int (xs (i + 1)), .int (xs (i + 2))]) (rest := []) (bq := 0) X dL_967 kL_126 rfl rfl hX (Nat.le_of_ble_eq_true rfl) rfl (fun r1 w1 q1 => ?_)
  obtain ⟨rfl, B, T, e1⟩ := q1
  refine l_aload X dL_970 rfl ?_
  refine l_arg (z := 1) X hL rfl rfl dL_971 dL_972 dL_973 dL_974 dL_975 (by omega) ?_
  refine l_arg (z := 2) X hL rfl rfl dL_976 dL_977 dL_978 dL_979 dL_980 (by omega) ?_
  refine l_callV (as := [.int (xs (i + 1)), .int (xs (i + 2))]) (rest := [.int q.1]) (bq := 33) X dL_981 kL_129 rfl rfl (hY w1 (step_mid hI.1 hG e1)) (Nat.le_of_ble_eq_true rfl) rfl (fun r2 w2 q2 => ?_)
  obtain ⟨rfl, h2, h3⟩ := q2
  exact l_icmp_eq X dL_984 rfl (fun _ => k w2 (step_fin hG e1 h2 h3)) (fun hne => absurd rfl hne)
theorem lc_as (X : LX p s m meth c g b L xs) (hL : L ≤ 3072) (hI : INV bb w) (hb : bb ≤ 40000) (hi : i + 6 ≤ L) (k : ∀ w2, INV (bb + 60) w2 → GoL l p e s m below meth c g b 1302 (LVl g b i) [] w2) : GoL l p e s m below meth c g b 989 (LVl g b i) [] w := by
  obtain ⟨q, hX, hG, hY⟩ : STEP l g bb w S_as Q_as [.int (xs (i + 1)), .int (xs (i + 2))] := st_as hI hb
  refine l_aload X dL_989 rfl ?_
  refine l_arg (z := 1) X hL rfl rfl dL_990 dL_991 dL_992 dL_993 dL_994 (by omega) ?_
  refine l_arg (z := 2) X hL rfl rfl dL_995 dL_996 dL_997 dL_998 dL_999 (by omega) ?_
  refine l_callV (as := [.int (xs (i + 1)), .int (xs (i + 2))]) (rest := []) (bq := 0) X dL_1000 kL_130 rfl rfl hX (Nat.le_of_ble_eq_true rfl) rfl (fun r1 w1 q1 => ?_)
  obtain ⟨rfl, B, T, e1⟩ := q1
  refine l_aload X dL_1003 rfl ?_
  refine l_arg (z := 1) X hL rfl rfl dL_1004 dL_1005 dL_1006 dL_1007 dL_1008 (by omega) ?_
  refine l_arg (z := 2) X hL rfl rfl dL_1009 dL_1010 dL_1011 dL_1012 dL_1013 (by omega) ?_
  refine l_callV (as := [.int (xs (i + 1)), .int (xs (i + 2))]) (rest := [.int q.1]) (bq := 33) X dL_1014 kL_133 rfl rfl (hY w1 (step_mid hI.1 hG e1)) (Nat.le_of_ble_eq_true rfl) rfl (fun r2 w2 q2 => ?_)
  obtain ⟨rfl, h2, h3⟩ := q2
  exact l_icmp_eq X dL_1017 rfl (fun _ => k w2 (step_fin hG e1 h2 h3)) (fun hne => absurd rfl hne)
theorem lc_sheet (X : LX p s m meth c g b L xs) (hL : L ≤ 3072) (hI : INV bb w) (hb : bb ≤ 40000) (hi : i + 6 ≤ L) (k : ∀ w2, INV (bb + 60) w2 → GoL l p e s m below meth c g b 1302 (LVl g b i) [] w2) : GoL l p e s m below meth c g b 1022 (LVl g b i) [] w := by
  obtain ⟨q, hX, hG, hY⟩ : STEP l g bb w S_sheet Q_sheet [.int (xs (i + 1)), .int (xs (i + 2)), .int (xs (i + 3))] := st_sheet hI hb
  refine l_aload X dL_1022 rfl ?_
  refine l_arg (z := 1) X hL rfl rfl dL_1023 dL_1024 dL_1025 dL_1026 dL_1027 (by omega) ?_
  refine l_arg (z := 2) X hL rfl rfl dL_1028 dL_1029 dL_1030 dL_1031 dL_1032 (by omega) ?_
  refine l_arg (z := 3) X hL rfl rfl dL_1033 dL_1034 dL_1035 dL_1036 dL_1037 (by omega) ?_
  refine l_callV (as := [.int (xs (i + 1)), .int (xs (i + 2)), .int (xs (i + 3))]) (rest := []) (bq := 0) X dL_1038 kL_134 rfl rfl hX (Nat.le_of_ble_eq_true rfl) rfl (fun r1 w1 q1 => ?_)
  obtain ⟨rfl, B, T, e1⟩ := q1
  refine l_aload X dL_1041 rfl ?_
  refine l_arg (z := 1) X hL rfl rfl dL_1042 dL_1043 dL_1044 dL_1045 dL_1046 (by omega) ?_
  refine l_arg (z := 2) X hL rfl rfl dL_1047 dL_1048 dL_1049 dL_1050 dL_1051 (by omega) ?_
  refine l_arg (z := 3) X hL rfl rfl dL_1052 dL_1053 dL_1054 dL_1055 dL_1056 (by omega) ?_
  refine l_callV (as := [.int (xs (i + 1)), .int (xs (i + 2)), .int (xs (i + 3))]) (rest := [.int q.1]) (bq := 33) X dL_1057 kL_137 rfl rfl (hY w1 (step_mid hI.1 hG e1)) (Nat.le_of_ble_eq_true rfl) rfl (fun r2 w2 q2 => ?_)
  obtain ⟨rfl, h2, h3⟩ := q2
  exact l_icmp_eq X dL_1060 rfl (fun _ => k w2 (step_fin hG e1 h2 h3)) (fun hne => absurd rfl hne)
theorem lc_write (X : LX p s m meth c g b L xs) (hL : L ≤ 3072) (hI : INV bb w) (hb : bb ≤ 40000) (hi : i + 6 ≤ L) (k : ∀ w2, INV (bb + 60) w2 → GoL l p e s m below meth c g b 1302 (LVl g b i) [] w2) : GoL l p e s m below meth c g b 1065 (LVl g b i) [] w := by
  obtain ⟨q, hX, hG, hY⟩ : STEP l g bb w S_write Q_write [.int (xs (i + 1)), .int (xs (i + 2)), .int (xs (i + 3))] := st_write hI hb
  refine l_aload X dL_1065 rfl ?_
  refine l_arg (z := 1) X hL rfl rfl dL_1066 dL_1067 dL_1068 dL_1069 dL_1070 (by omega) ?_
  refine l_arg (z := 2) X hL rfl rfl dL_1071 dL_1072 dL_1073 dL_1074 dL_1075 (by omega) ?_
  refine l_arg (z := 3) X hL rfl rfl dL_1076 dL_1077 dL_1078 dL_1079 dL_1080 (by omega) ?_
  refine l_callV (as := [.int (xs (i + 1)), .int (xs (i + 2)), .int (xs (i + 3))]) (rest := []) (bq := 0) X dL_1081 kL_138 rfl rfl hX (Nat.le_of_ble_eq_true rfl) rfl (fun r1 w1 q1 => ?_)
  obtain ⟨rfl, B, T, e1⟩ := q1
  refine l_aload X dL_1084 rfl ?_
  refine l_arg (z := 1) X hL rfl rfl dL_1085 dL_1086 dL_1087 dL_1088 dL_1089 (by omega) ?_
  refine l_arg (z := 2) X hL rfl rfl dL_1090 dL_1091 dL_1092 dL_1093 dL_1094 (by omega) ?_
  refine l_arg (z := 3) X hL rfl rfl dL_1095 dL_1096 dL_1097 dL_1098 dL_1099 (by omega) ?_
  refine l_callV (as := [.int (xs (i + 1)), .int (xs (i + 2)), .int (xs (i + 3))]) (rest := [.int q.1]) (bq := 33) X dL_1100 kL_141 rfl rfl (hY w1 (step_mid hI.1 hG e1)) (Nat.le_of_ble_eq_true rfl) rfl (fun r2 w2 q2 => ?_)
  obtain ⟨rfl, h2, h3⟩ := q2
  exact l_icmp_eq X dL_1103 rfl (fun _ => k w2 (step_fin hG e1 h2 h3)) (fun hne => absurd rfl hne)
theorem lc_copy (X : LX p s m meth c g b L xs) (hL : L ≤ 3072) (hI : INV bb w) (hb : bb ≤ 40000) (hi : i + 6 ≤ L) (k : ∀ w2, INV (bb + 60) w2 → GoL l p e s m below meth c g b 1302 (LVl g b i) [] w2) : GoL l p e s m below meth c g b 1108 (LVl g b i) [] w := by
  obtain ⟨q, hX, hG, hY⟩ : STEP l g bb w S_copy Q_copy [.int (xs (i + 1)), .int (xs (i + 2)), .int (xs (i + 3)), .int (xs (i + 4)), .int (xs (i + 5))] := st_copy hI hb
  refine l_aload X dL_1108 rfl ?_
  refine l_arg (z := 1) X hL rfl rfl dL_1109 dL_1110 dL_1111 dL_1112 dL_1113 (by omega) ?_
  refine l_arg (z := 2) X hL rfl rfl dL_1114 dL_1115 dL_1116 dL_1117 dL_1118 (by omega) ?_
  refine l_arg (z := 3) X hL rfl rfl dL_1119 dL_1120 dL_1121 dL_1122 dL_1123 (by omega) ?_
  refine l_arg (z := 4) X hL rfl rfl dL_1124 dL_1125 dL_1126 dL_1127 dL_1128 (by omega) ?_
  refine l_arg (z := 5) X hL rfl rfl dL_1129 dL_1130 dL_1131 dL_1132 dL_1133 (by omega) ?_
  refine l_callV (as := [.int (xs (i + 1)), .int (xs (i + 2)), .int (xs (i + 3)), .int (xs (i + 4)), .int (xs (i + 5))]) (rest := []) (bq := 0) X dL_1134 kL_142 rfl rfl hX (Nat.le_of_ble_eq_true rfl) rfl (fun r1 w1 q1 => ?_)
  obtain ⟨rfl, B, T, e1⟩ := q1
  refine l_aload X dL_1137 rfl ?_
  refine l_arg (z := 1) X hL rfl rfl dL_1138 dL_1139 dL_1140 dL_1141 dL_1142 (by omega) ?_
  refine l_arg (z := 2) X hL rfl rfl dL_1143 dL_1144 dL_1145 dL_1146 dL_1147 (by omega) ?_
  refine l_arg (z := 3) X hL rfl rfl dL_1148 dL_1149 dL_1150 dL_1151 dL_1152 (by omega) ?_
  refine l_arg (z := 4) X hL rfl rfl dL_1153 dL_1154 dL_1155 dL_1156 dL_1157 (by omega) ?_
  refine l_arg (z := 5) X hL rfl rfl dL_1158 dL_1159 dL_1160 dL_1161 dL_1162 (by omega) ?_
  refine l_callV (as := [.int (xs (i + 1)), .int (xs (i + 2)), .int (xs (i + 3)), .int (xs (i + 4)), .int (xs (i + 5))]) (rest := [.int q.1]) (bq := 33) X dL_1163 kL_146 rfl rfl (hY w1 (step_mid hI.1 hG e1)) (Nat.le_of_ble_eq_true rfl) rfl (fun r2 w2 q2 => ?_)
  obtain ⟨rfl, h2, h3⟩ := q2
  exact l_icmp_eq X dL_1166 rfl (fun _ => k w2 (step_fin hG e1 h2 h3)) (fun hne => absurd rfl hne)
theorem lc_load (X : LX p s m meth c g b L xs) (hL : L ≤ 3072) (hI : INV bb w) (hb : bb ≤ 40000) (hi : i + 6 ≤ L) (k : ∀ w2, INV (bb + 60) w2 → GoL l p e s m below meth c g b 1302 (LVl g b i) [] w2) : GoL l p e s m below meth c g b 1171 (LVl g b i) [] w := by
  obtain ⟨q, hX, hG, hY⟩ : STEP l g bb w S_load Q_load [.int (xs (i + 1))] := st_load hI hb
  refine l_aload X dL_1171 rfl ?_
  refine l_arg (z := 1) X hL rfl rfl dL_1172 dL_1173 dL_1174 dL_1175 dL_1176 (by omega) ?_
  refine l_callV (as := [.int (xs (i + 1))]) (rest := []) (bq := 0) X dL_1177 kL_147 rfl rfl hX (Nat.le_of_ble_eq_true rfl) rfl (fun r1 w1 q1 => ?_)
  obtain ⟨rfl, B, T, e1⟩ := q1
  refine l_aload X dL_1180 rfl ?_
  refine l_arg (z := 1) X hL rfl rfl dL_1181 dL_1182 dL_1183 dL_1184 dL_1185 (by omega) ?_
  refine l_callV (as := [.int (xs (i + 1))]) (rest := [.int q.1]) (bq := 33) X dL_1186 kL_150 rfl rfl (hY w1 (step_mid hI.1 hG e1)) (Nat.le_of_ble_eq_true rfl) rfl (fun r2 w2 q2 => ?_)
  obtain ⟨rfl, h2, h3⟩ := q2
  exact l_icmp_eq X dL_1189 rfl (fun _ => k w2 (step_fin hG e1 h2 h3)) (fun hne => absurd rfl hne)
theorem lc_judge (X : LX p s m meth c g b L xs) (hL : L ≤ 3072) (hI : INV bb w) (hb : bb ≤ 40000) (hi : i + 6 ≤ L) (k : ∀ w2, INV (bb + 60) w2 → GoL l p e s m below meth c g b 1302 (LVl g b i) [] w2) : GoL l p e s m below meth c g b 1194 (LVl g b i) [] w := by
  obtain ⟨q, hX, hG, hY⟩ : STEP l g bb w S_judge Q_judge [.int (xs (i + 1))] := st_judge hI hb
  refine l_aload X dL_1194 rfl ?_
  refine l_arg (z := 1) X hL rfl rfl dL_1195 dL_1196 dL_1197 dL_1198 dL_1199 (by omega) ?_
  refine l_callV (as := [.int (xs (i + 1))]) (rest := []) (bq := 0) X dL_1200 kL_151 rfl rfl hX (Nat.le_of_ble_eq_true rfl) rfl (fun r1 w1 q1 => ?_)
  obtain ⟨rfl, B, T, e1⟩ := q1
  refine l_aload X dL_1203 rfl ?_
  refine l_arg (z := 1) X hL rfl rfl dL_1204 dL_1205 dL_1206 dL_1207 dL_1208 (by omega) ?_
  refine l_callV (as := [.int (xs (i + 1))]) (rest := [.int q.1]) (bq := 33) X dL_1209 kL_154 rfl rfl (hY w1 (step_mid hI.1 hG e1)) (Nat.le_of_ble_eq_true rfl) rfl (fun r2 w2 q2 => ?_)
  obtain ⟨rfl, h2, h3⟩ := q2
  exact l_icmp_eq X dL_1212 rfl (fun _ => k w2 (step_fin hG e1 h2 h3)) (fun hne => absurd rfl hne)
theorem lc_image (X : LX p s m meth c g b L xs) (hL : L ≤ 3072) (hI : INV bb w) (hb : bb ≤ 40000) (hi : i + 6 ≤ L) (k : ∀ w2, INV (bb + 60) w2 → GoL l p e s m below meth c g b 1302 (LVl g b i) [] w2) : GoL l p e s m below meth c g b 1217 (LVl g b i) [] w := by
  obtain ⟨q, hX, hG, hY⟩ : STEP l g bb w S_image Q_image [] := st_image hI hb
  refine l_aload X dL_1217 rfl ?_
  refine l_callV (as := []) (rest := []) (bq := 0) X dL_1218 kL_155 rfl rfl hX (Nat.le_of_ble_eq_true rfl) rfl (fun r1 w1 q1 => ?_)
  obtain ⟨rfl, B, T, e1⟩ := q1
  refine l_aload X dL_1221 rfl ?_
  refine l_callV (as := []) (rest := [.int q.1]) (bq := 33) X dL_1222 kL_158 rfl rfl (hY w1 (step_mid hI.1 hG e1)) (Nat.le_of_ble_eq_true rfl) rfl (fun r2 w2 q2 => ?_)
  obtain ⟨rfl, h2, h3⟩ := q2
  exact l_icmp_eq X dL_1225 rfl (fun _ => k w2 (step_fin hG e1 h2 h3)) (fun hne => absurd rfl hne)
theorem lc_undo (X : LX p s m meth c g b L xs) (hL : L ≤ 3072) (hI : INV bb w) (hb : bb ≤ 40000) (hi : i + 6 ≤ L) (k : ∀ w2, INV (bb + 60) w2 → GoL l p e s m below meth c g b 1302 (LVl g b i) [] w2) : GoL l p e s m below meth c g b 1230 (LVl g b i) [] w := by
  obtain ⟨q, hX, hG, hY⟩ : STEP l g bb w S_undo Q_undo [] := st_undo hI hb
  refine l_aload X dL_1230 rfl ?_
  refine l_callV (as := []) (rest := []) (bq := 0) X dL_1231 kL_159 rfl rfl hX (Nat.le_of_ble_eq_true rfl) rfl (fun r1 w1 q1 => ?_)
  obtain ⟨rfl, B, T, e1⟩ := q1
  refine l_aload X dL_1234 rfl ?_
  refine l_callV (as := []) (rest := [.int q.1]) (bq := 33) X dL_1235 kL_162 rfl rfl (hY w1 (step_mid hI.1 hG e1)) (Nat.le_of_ble_eq_true rfl) rfl (fun r2 w2 q2 => ?_)
  obtain ⟨rfl, h2, h3⟩ := q2
  exact l_icmp_eq X dL_1238 rfl (fun _ => k w2 (step_fin hG e1 h2 h3)) (fun hne => absurd rfl hne)
theorem lc_tear (X : LX p s m meth c g b L xs) (hL : L ≤ 3072) (hI : INV bb w) (hb : bb ≤ 40000) (hi : i + 6 ≤ L) (k : ∀ w2, INV (bb + 60) w2 → GoL l p e s m below meth c g b 1302 (LVl g b i) [] w2) : GoL l p e s m below meth c g b 1243 (LVl g b i) [] w := by
  obtain ⟨q, hX, hG, hY⟩ : STEP l g bb w S_tear Q_tear [] := st_tear hI hb
  refine l_aload X dL_1243 rfl ?_
  refine l_callV (as := []) (rest := []) (bq := 0) X dL_1244 kL_163 rfl rfl hX (Nat.le_of_ble_eq_true rfl) rfl (fun r1 w1 q1 => ?_)
  obtain ⟨rfl, B, T, e1⟩ := q1
  refine l_aload X dL_1247 rfl ?_
  refine l_callV (as := []) (rest := [.int q.1]) (bq := 33) X dL_1248 kL_166 rfl rfl (hY w1 (step_mid hI.1 hG e1)) (Nat.le_of_ble_eq_true rfl) rfl (fun r2 w2 q2 => ?_)
  obtain ⟨rfl, h2, h3⟩ := q2
  exact l_icmp_eq X dL_1251 rfl (fun _ => k w2 (step_fin hG e1 h2 h3)) (fun hne => absurd rfl hne)
theorem lc_count (X : LX p s m meth c g b L xs) (hL : L ≤ 3072) (hI : INV bb w) (hb : bb ≤ 40000) (hi : i + 6 ≤ L) (k : ∀ w2, INV (bb + 60) w2 → GoL l p e s m below meth c g b 1302 (LVl g b i) [] w2) : GoL l p e s m below meth c g b 1256 (LVl g b i) [] w := by
  obtain ⟨q, hX, hG, hY⟩ : STEP l g bb w S_count Q_count [.int (xs (i + 1))] := st_count hI hb
  refine l_aload X dL_1256 rfl ?_
  refine l_arg (z := 1) X hL rfl rfl dL_1257 dL_1258 dL_1259 dL_1260 dL_1261 (by omega) ?_
  refine l_callV (as := [.int (xs (i + 1))]) (rest := []) (bq := 0) X dL_1262 kL_167 rfl rfl hX (Nat.le_of_ble_eq_true rfl) rfl (fun r1 w1 q1 => ?_)
  obtain ⟨rfl, B, T, e1⟩ := q1
  refine l_aload X dL_1265 rfl ?_
  refine l_arg (z := 1) X hL rfl rfl dL_1266 dL_1267 dL_1268 dL_1269 dL_1270 (by omega) ?_
  refine l_callV (as := [.int (xs (i + 1))]) (rest := [.int q.1]) (bq := 33) X dL_1271 kL_170 rfl rfl (hY w1 (step_mid hI.1 hG e1)) (Nat.le_of_ble_eq_true rfl) rfl (fun r2 w2 q2 => ?_)
  obtain ⟨rfl, h2, h3⟩ := q2
  exact l_icmp_eq X dL_1274 rfl (fun _ => k w2 (step_fin hG e1 h2 h3)) (fun hne => absurd rfl hne)
theorem lc_status (X : LX p s m meth c g b L xs) (hL : L ≤ 3072) (hI : INV bb w) (hb : bb ≤ 40000) (hi : i + 6 ≤ L) (k : ∀ w2, INV (bb + 60) w2 → GoL l p e s m below meth c g b 1302 (LVl g b i) [] w2) : GoL l p e s m below meth c g b 1279 (LVl g b i) [] w := by
  obtain ⟨q, hX, hG, hY⟩ : STEP l g bb w S_status Q_status [.int (xs (i + 1))] := st_status hI hb
  refine l_aload X dL_1279 rfl ?_
  refine l_arg (z := 1) X hL rfl rfl dL_1280 dL_1281 dL_1282 dL_1283 dL_1284 (by omega) ?_
  refine l_callV (as := [.int (xs (i + 1))]) (rest := []) (bq := 0) X dL_1285 kL_171 rfl rfl hX (Nat.le_of_ble_eq_true rfl) rfl (fun r1 w1 q1 => ?_)
  obtain ⟨rfl, B, T, e1⟩ := q1
  refine l_aload X dL_1288 rfl ?_
  refine l_arg (z := 1) X hL rfl rfl dL_1289 dL_1290 dL_1291 dL_1292 dL_1293 (by omega) ?_
  refine l_callV (as := [.int (xs (i + 1))]) (rest := [.int q.1]) (bq := 33) X dL_1294 kL_174 rfl rfl (hY w1 (step_mid hI.1 hG e1)) (Nat.le_of_ble_eq_true rfl) rfl (fun r2 w2 q2 => ?_)
  obtain ⟨rfl, h2, h3⟩ := q2
  exact l_icmp_eq X dL_1297 rfl (fun _ => k w2 (step_fin hG e1 h2 h3)) (fun hne => absurd rfl hne)
end LCASES
