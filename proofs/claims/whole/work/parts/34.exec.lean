/-! ===== level 2: what a call runs on: corners, beds, roofs, laws ===== -/
theorem MW.a7 {S : Sg} (h : MW S) : sR S 1000 7 = some 1107 ∧ sK S 1107 % 32 = 16 ∧ sN S 1107 = 12 := by
  have q := h.2.2 (7, 16, 12) (by decide)
  exact ⟨q.1, by rw [show sK S 1107 = 16 from q.2.1], q.2.2⟩
theorem MW.a8 {S : Sg} (h : MW S) : sR S 1000 8 = some 1108 ∧ sK S 1108 % 32 = 16 ∧ sN S 1108 = 12 := by
  have q := h.2.2 (8, 16, 12) (by decide)
  exact ⟨q.1, by rw [show sK S 1108 = 16 from q.2.1], q.2.2⟩
theorem MW.a9 {S : Sg} (h : MW S) : sR S 1000 9 = some 1109 ∧ sK S 1109 % 32 = 16 ∧ sN S 1109 = 12 := by
  have q := h.2.2 (9, 16, 12) (by decide)
  exact ⟨q.1, by rw [show sK S 1109 = 16 from q.2.1], q.2.2⟩
theorem MW.a10 {S : Sg} (h : MW S) : sR S 1000 10 = some 1110 ∧ sK S 1110 % 32 = 16 ∧ sN S 1110 = 12 := by
  have q := h.2.2 (10, 16, 12) (by decide)
  exact ⟨q.1, by rw [show sK S 1110 = 16 from q.2.1], q.2.2⟩
theorem MW.a11 {S : Sg} (h : MW S) : sR S 1000 11 = some 1111 ∧ sK S 1111 % 32 = 16 ∧ sN S 1111 = 12 := by
  have q := h.2.2 (11, 16, 12) (by decide)
  exact ⟨q.1, by rw [show sK S 1111 = 16 from q.2.1], q.2.2⟩
theorem MW.a12 {S : Sg} (h : MW S) : sR S 1000 12 = some 1112 ∧ sK S 1112 % 32 = 18 ∧ sN S 1112 = 12 := by
  have q := h.2.2 (12, 18, 12) (by decide)
  exact ⟨q.1, by rw [show sK S 1112 = 18 from q.2.1], q.2.2⟩
theorem MW.a13 {S : Sg} (h : MW S) : sR S 1000 13 = some 1113 ∧ sK S 1113 % 32 = 18 ∧ sN S 1113 = 12 := by
  have q := h.2.2 (13, 18, 12) (by decide)
  exact ⟨q.1, by rw [show sK S 1113 = 18 from q.2.1], q.2.2⟩
theorem MW.a14 {S : Sg} (h : MW S) : sR S 1000 14 = some 1114 ∧ sK S 1114 % 32 = 18 ∧ sN S 1114 = 12 := by
  have q := h.2.2 (14, 18, 12) (by decide)
  exact ⟨q.1, by rw [show sK S 1114 = 18 from q.2.1], q.2.2⟩
theorem MW.a15 {S : Sg} (h : MW S) : sR S 1000 15 = some 1115 ∧ sK S 1115 % 32 = 16 ∧ sN S 1115 = 12 := by
  have q := h.2.2 (15, 16, 12) (by decide)
  exact ⟨q.1, by rw [show sK S 1115 = 16 from q.2.1], q.2.2⟩
theorem MW.a16 {S : Sg} (h : MW S) : sR S 1000 16 = some 1116 ∧ sK S 1116 % 32 = 16 ∧ sN S 1116 = 12 := by
  have q := h.2.2 (16, 16, 12) (by decide)
  exact ⟨q.1, by rw [show sK S 1116 = 16 from q.2.1], q.2.2⟩
theorem MW.a17 {S : Sg} (h : MW S) : sR S 1000 17 = some 1117 ∧ sK S 1117 % 32 = 16 ∧ sN S 1117 = 12 := by
  have q := h.2.2 (17, 16, 12) (by decide)
  exact ⟨q.1, by rw [show sK S 1117 = 16 from q.2.1], q.2.2⟩
theorem MW.a18 {S : Sg} (h : MW S) : sR S 1000 18 = some 1118 ∧ sK S 1118 % 32 = 16 ∧ sN S 1118 = 12 := by
  have q := h.2.2 (18, 16, 12) (by decide)
  exact ⟨q.1, by rw [show sK S 1118 = 16 from q.2.1], q.2.2⟩
theorem MW.a19 {S : Sg} (h : MW S) : sR S 1000 19 = some 1119 ∧ sK S 1119 % 32 = 16 ∧ sN S 1119 = 12 := by
  have q := h.2.2 (19, 16, 12) (by decide)
  exact ⟨q.1, by rw [show sK S 1119 = 16 from q.2.1], q.2.2⟩
theorem MW.a20 {S : Sg} (h : MW S) : sR S 1000 20 = some 1120 ∧ sK S 1120 % 32 = 16 ∧ sN S 1120 = 12 := by
  have q := h.2.2 (20, 16, 12) (by decide)
  exact ⟨q.1, by rw [show sK S 1120 = 16 from q.2.1], q.2.2⟩
theorem MW.a21 {S : Sg} (h : MW S) : sR S 1000 21 = some 1121 ∧ sK S 1121 % 32 = 16 ∧ sN S 1121 = 12 := by
  have q := h.2.2 (21, 16, 12) (by decide)
  exact ⟨q.1, by rw [show sK S 1121 = 16 from q.2.1], q.2.2⟩
theorem MW.a22 {S : Sg} (h : MW S) : sR S 1000 22 = some 1122 ∧ sK S 1122 % 32 = 16 ∧ sN S 1122 = 12 := by
  have q := h.2.2 (22, 16, 12) (by decide)
  exact ⟨q.1, by rw [show sK S 1122 = 16 from q.2.1], q.2.2⟩
theorem MW.a23 {S : Sg} (h : MW S) : sR S 1000 23 = some 1123 ∧ sK S 1123 % 32 = 16 ∧ sN S 1123 = 12 := by
  have q := h.2.2 (23, 16, 12) (by decide)
  exact ⟨q.1, by rw [show sK S 1123 = 16 from q.2.1], q.2.2⟩
theorem MW.a24 {S : Sg} (h : MW S) : sR S 1000 24 = some 1124 ∧ sK S 1124 % 32 = 16 ∧ sN S 1124 = 132 := by
  have q := h.2.2 (24, 16, 132) (by decide)
  exact ⟨q.1, by rw [show sK S 1124 = 16 from q.2.1], q.2.2⟩
theorem MW.a25 {S : Sg} (h : MW S) : sR S 1000 25 = some 1125 ∧ sK S 1125 % 32 = 16 ∧ sN S 1125 = 30 := by
  have q := h.2.2 (25, 16, 30) (by decide)
  exact ⟨q.1, by rw [show sK S 1125 = 16 from q.2.1], q.2.2⟩
theorem MW.a26 {S : Sg} (h : MW S) : sR S 1000 26 = some 1126 ∧ sK S 1126 % 32 = 16 ∧ sN S 1126 = 30 := by
  have q := h.2.2 (26, 16, 30) (by decide)
  exact ⟨q.1, by rw [show sK S 1126 = 16 from q.2.1], q.2.2⟩
theorem MW.a27 {S : Sg} (h : MW S) : sR S 1000 27 = some 1127 ∧ sK S 1127 % 32 = 16 ∧ sN S 1127 = 30 := by
  have q := h.2.2 (27, 16, 30) (by decide)
  exact ⟨q.1, by rw [show sK S 1127 = 16 from q.2.1], q.2.2⟩
theorem MW.a28 {S : Sg} (h : MW S) : sR S 1000 28 = some 1128 ∧ sK S 1128 % 32 = 16 ∧ sN S 1128 = 30 := by
  have q := h.2.2 (28, 16, 30) (by decide)
  exact ⟨q.1, by rw [show sK S 1128 = 16 from q.2.1], q.2.2⟩
theorem MW.a29 {S : Sg} (h : MW S) : sR S 1000 29 = some 1129 ∧ sK S 1129 % 32 = 16 ∧ sN S 1129 = 30 := by
  have q := h.2.2 (29, 16, 30) (by decide)
  exact ⟨q.1, by rw [show sK S 1129 = 16 from q.2.1], q.2.2⟩
theorem MW.a30 {S : Sg} (h : MW S) : sR S 1000 30 = some 1130 ∧ sK S 1130 % 32 = 16 ∧ sN S 1130 = 30 := by
  have q := h.2.2 (30, 16, 30) (by decide)
  exact ⟨q.1, by rw [show sK S 1130 = 16 from q.2.1], q.2.2⟩
theorem MW.a31 {S : Sg} (h : MW S) : sR S 1000 31 = some 1131 ∧ sK S 1131 % 32 = 16 ∧ sN S 1131 = 10 := by
  have q := h.2.2 (31, 16, 10) (by decide)
  exact ⟨q.1, by rw [show sK S 1131 = 16 from q.2.1], q.2.2⟩
theorem MW.a32 {S : Sg} (h : MW S) : sR S 1000 32 = some 1132 ∧ sK S 1132 % 32 = 16 ∧ sN S 1132 = 30 := by
  have q := h.2.2 (32, 16, 30) (by decide)
  exact ⟨q.1, by rw [show sK S 1132 = 16 from q.2.1], q.2.2⟩
theorem MW.a33 {S : Sg} (h : MW S) : sR S 1000 33 = some 1133 ∧ sK S 1133 % 32 = 16 ∧ sN S 1133 = 10 := by
  have q := h.2.2 (33, 16, 10) (by decide)
  exact ⟨q.1, by rw [show sK S 1133 = 16 from q.2.1], q.2.2⟩
theorem MW.a34 {S : Sg} (h : MW S) : sR S 1000 34 = some 1134 ∧ sK S 1134 % 32 = 16 ∧ sN S 1134 = 100 := by
  have q := h.2.2 (34, 16, 100) (by decide)
  exact ⟨q.1, by rw [show sK S 1134 = 16 from q.2.1], q.2.2⟩
theorem MW.a40 {S : Sg} (h : MW S) : sR S 1000 40 = some 1140 ∧ sK S 1140 % 32 = 16 ∧ sN S 1140 = 30 := by
  have q := h.2.2 (40, 16, 30) (by decide)
  exact ⟨q.1, by rw [show sK S 1140 = 16 from q.2.1], q.2.2⟩
theorem MW.a41 {S : Sg} (h : MW S) : sR S 1000 41 = some 1141 ∧ sK S 1141 % 32 = 16 ∧ sN S 1141 = 12 := by
  have q := h.2.2 (41, 16, 12) (by decide)
  exact ⟨q.1, by rw [show sK S 1141 = 16 from q.2.1], q.2.2⟩
theorem MW.a42 {S : Sg} (h : MW S) : sR S 1000 42 = some 1142 ∧ sK S 1142 % 32 = 17 ∧ sN S 1142 = 12 := by
  have q := h.2.2 (42, 17, 12) (by decide)
  exact ⟨q.1, by rw [show sK S 1142 = 17 from q.2.1], q.2.2⟩
theorem MW.a43 {S : Sg} (h : MW S) : sR S 1000 43 = some 1143 ∧ sK S 1143 % 32 = 17 ∧ sN S 1143 = 12 := by
  have q := h.2.2 (43, 17, 12) (by decide)
  exact ⟨q.1, by rw [show sK S 1143 = 17 from q.2.1], q.2.2⟩
theorem MW.a44 {S : Sg} (h : MW S) : sR S 1000 44 = some 1144 ∧ sK S 1144 % 32 = 17 ∧ sN S 1144 = 12 := by
  have q := h.2.2 (44, 17, 12) (by decide)
  exact ⟨q.1, by rw [show sK S 1144 = 17 from q.2.1], q.2.2⟩
theorem MW.a45 {S : Sg} (h : MW S) : sR S 1000 45 = some 1145 ∧ sK S 1145 % 32 = 17 ∧ sN S 1145 = 12 := by
  have q := h.2.2 (45, 17, 12) (by decide)
  exact ⟨q.1, by rw [show sK S 1145 = 17 from q.2.1], q.2.2⟩
theorem MW.a46 {S : Sg} (h : MW S) : sR S 1000 46 = some 1146 ∧ sK S 1146 % 32 = 16 ∧ sN S 1146 = 12 := by
  have q := h.2.2 (46, 16, 12) (by decide)
  exact ⟨q.1, by rw [show sK S 1146 = 16 from q.2.1], q.2.2⟩
theorem MW.a53 {S : Sg} (h : MW S) : sR S 1000 53 = some 1153 ∧ sK S 1153 % 32 = 17 ∧ sN S 1153 = 40 := by
  have q := h.2.2 (53, 17, 40) (by decide)
  exact ⟨q.1, by rw [show sK S 1153 = 17 from q.2.1], q.2.2⟩
theorem MW.a54 {S : Sg} (h : MW S) : sR S 1000 54 = some 1154 ∧ sK S 1154 % 32 = 17 ∧ sN S 1154 = 40 := by
  have q := h.2.2 (54, 17, 40) (by decide)
  exact ⟨q.1, by rw [show sK S 1154 = 17 from q.2.1], q.2.2⟩
theorem MW.a55 {S : Sg} (h : MW S) : sR S 1000 55 = some 1155 ∧ sK S 1155 % 32 = 17 ∧ sN S 1155 = 40 := by
  have q := h.2.2 (55, 17, 40) (by decide)
  exact ⟨q.1, by rw [show sK S 1155 = 17 from q.2.1], q.2.2⟩
theorem MW.a56 {S : Sg} (h : MW S) : sR S 1000 56 = some 1156 ∧ sK S 1156 % 32 = 17 ∧ sN S 1156 = 12 := by
  have q := h.2.2 (56, 17, 12) (by decide)
  exact ⟨q.1, by rw [show sK S 1156 = 17 from q.2.1], q.2.2⟩
theorem MW.a57 {S : Sg} (h : MW S) : sR S 1000 57 = some 1157 ∧ sK S 1157 % 32 = 17 ∧ sN S 1157 = 12 := by
  have q := h.2.2 (57, 17, 12) (by decide)
  exact ⟨q.1, by rw [show sK S 1157 = 17 from q.2.1], q.2.2⟩
theorem MW.a58 {S : Sg} (h : MW S) : sR S 1000 58 = some 1158 ∧ sK S 1158 % 32 = 16 ∧ sN S 1158 = 40 := by
  have q := h.2.2 (58, 16, 40) (by decide)
  exact ⟨q.1, by rw [show sK S 1158 = 16 from q.2.1], q.2.2⟩
theorem MW.a59 {S : Sg} (h : MW S) : sR S 1000 59 = some 1159 ∧ sK S 1159 % 32 = 16 ∧ sN S 1159 = 40 := by
  have q := h.2.2 (59, 16, 40) (by decide)
  exact ⟨q.1, by rw [show sK S 1159 = 16 from q.2.1], q.2.2⟩
theorem MW.a60 {S : Sg} (h : MW S) : sR S 1000 60 = some 1160 ∧ sK S 1160 % 32 = 16 ∧ sN S 1160 = 12 := by
  have q := h.2.2 (60, 16, 12) (by decide)
  exact ⟨q.1, by rw [show sK S 1160 = 16 from q.2.1], q.2.2⟩
theorem MW.a61 {S : Sg} (h : MW S) : sR S 1000 61 = some 1161 ∧ sK S 1161 % 32 = 16 ∧ sN S 1161 = 60 := by
  have q := h.2.2 (61, 16, 60) (by decide)
  exact ⟨q.1, by rw [show sK S 1161 = 16 from q.2.1], q.2.2⟩
theorem MW.a62 {S : Sg} (h : MW S) : sR S 1000 62 = some 1162 ∧ sK S 1162 % 32 = 16 ∧ sN S 1162 = 60 := by
  have q := h.2.2 (62, 16, 60) (by decide)
  exact ⟨q.1, by rw [show sK S 1162 = 16 from q.2.1], q.2.2⟩
theorem MW.a63 {S : Sg} (h : MW S) : sR S 1000 63 = some 1163 ∧ sK S 1163 % 32 = 16 ∧ sN S 1163 = 60 := by
  have q := h.2.2 (63, 16, 60) (by decide)
  exact ⟨q.1, by rw [show sK S 1163 = 16 from q.2.1], q.2.2⟩
theorem MW.a64 {S : Sg} (h : MW S) : sR S 1000 64 = some 1164 ∧ sK S 1164 % 32 = 16 ∧ sN S 1164 = 60 := by
  have q := h.2.2 (64, 16, 60) (by decide)
  exact ⟨q.1, by rw [show sK S 1164 = 16 from q.2.1], q.2.2⟩
theorem MW.a65 {S : Sg} (h : MW S) : sR S 1000 65 = some 1165 ∧ sK S 1165 % 32 = 16 ∧ sN S 1165 = 60 := by
  have q := h.2.2 (65, 16, 60) (by decide)
  exact ⟨q.1, by rw [show sK S 1165 = 16 from q.2.1], q.2.2⟩
theorem MW.a66 {S : Sg} (h : MW S) : sR S 1000 66 = some 1166 ∧ sK S 1166 % 32 = 18 ∧ sN S 1166 = 60 := by
  have q := h.2.2 (66, 18, 60) (by decide)
  exact ⟨q.1, by rw [show sK S 1166 = 18 from q.2.1], q.2.2⟩
theorem MW.a68 {S : Sg} (h : MW S) : sR S 1000 68 = some 1168 ∧ sK S 1168 % 32 = 16 ∧ sN S 1168 = 11 := by
  have q := h.2.2 (68, 16, 11) (by decide)
  exact ⟨q.1, by rw [show sK S 1168 = 16 from q.2.1], q.2.2⟩
theorem MW.a69 {S : Sg} (h : MW S) : sR S 1000 69 = some 1169 ∧ sK S 1169 % 32 = 16 ∧ sN S 1169 = 11 := by
  have q := h.2.2 (69, 16, 11) (by decide)
  exact ⟨q.1, by rw [show sK S 1169 = 16 from q.2.1], q.2.2⟩
theorem MW.a70 {S : Sg} (h : MW S) : sR S 1000 70 = some 1170 ∧ sK S 1170 % 32 = 16 ∧ sN S 1170 = 264 := by
  have q := h.2.2 (70, 16, 264) (by decide)
  exact ⟨q.1, by rw [show sK S 1170 = 16 from q.2.1], q.2.2⟩
theorem MW.a71 {S : Sg} (h : MW S) : sR S 1000 71 = some 1171 ∧ sK S 1171 % 32 = 16 ∧ sN S 1171 = 264 := by
  have q := h.2.2 (71, 16, 264) (by decide)
  exact ⟨q.1, by rw [show sK S 1171 = 16 from q.2.1], q.2.2⟩
theorem MW.a72 {S : Sg} (h : MW S) : sR S 1000 72 = some 1172 ∧ sK S 1172 % 32 = 16 ∧ sN S 1172 = 264 := by
  have q := h.2.2 (72, 16, 264) (by decide)
  exact ⟨q.1, by rw [show sK S 1172 = 16 from q.2.1], q.2.2⟩
theorem MW.a73 {S : Sg} (h : MW S) : sR S 1000 73 = some 1173 ∧ sK S 1173 % 32 = 16 ∧ sN S 1173 = 264 := by
  have q := h.2.2 (73, 16, 264) (by decide)
  exact ⟨q.1, by rw [show sK S 1173 = 16 from q.2.1], q.2.2⟩
theorem MW.a74 {S : Sg} (h : MW S) : sR S 1000 74 = some 1174 ∧ sK S 1174 % 32 = 16 ∧ sN S 1174 = 264 := by
  have q := h.2.2 (74, 16, 264) (by decide)
  exact ⟨q.1, by rw [show sK S 1174 = 16 from q.2.1], q.2.2⟩
theorem MW.a75 {S : Sg} (h : MW S) : sR S 1000 75 = some 1175 ∧ sK S 1175 % 32 = 19 ∧ sN S 1175 = 700 := by
  have q := h.2.2 (75, 19, 700) (by decide)
  exact ⟨q.1, by rw [show sK S 1175 = 19 from q.2.1], q.2.2⟩
theorem MW.a76 {S : Sg} (h : MW S) : sR S 1000 76 = some 1176 ∧ sK S 1176 % 32 = 19 ∧ sN S 1176 = 700 := by
  have q := h.2.2 (76, 19, 700) (by decide)
  exact ⟨q.1, by rw [show sK S 1176 = 19 from q.2.1], q.2.2⟩
theorem MW.o {S : Sg} (h : MW S) : sK S 1000 % 32 = 13 := by rw [h.2.1]
theorem i10 : ((1 : Int32) = 0) = False := by decide
theorem i01 : ((0 : Int32) = 1) = False := by decide
theorem sI_pI_eq {S : Sg} {a k : Nat} {v : Int32} : sI (pI S a k v) a k = v := by rw [sI_pI, if_pos ⟨rfl, rfl⟩]
theorem sI_pI_ne {S : Sg} {a k b j : Nat} {v : Int32} (h : ¬ (b = a ∧ j = k)) : sI (pI S a k v) b j = sI S b j := by rw [sI_pI, if_neg h]
theorem sL_pL_eq {S : Sg} {a k : Nat} {v : Int64} : sL (pL S a k v) a k = v := by rw [sL_pL, if_pos ⟨rfl, rfl⟩]
theorem sL_pL_ne {S : Sg} {a k b j : Nat} {v : Int64} (h : ¬ (b = a ∧ j = k)) : sL (pL S a k v) b j = sL S b j := by rw [sL_pL, if_neg h]
theorem sR_pR_eq {S : Sg} {a k : Nat} {v : Option Nat} : sR (pR S a k v) a k = v := by rw [sR_pR, if_pos ⟨rfl, rfl⟩]
theorem sR_pR_ne {S : Sg} {a k b j : Nat} {v : Option Nat} (h : ¬ (b = a ∧ j = k)) : sR (pR S a k v) b j = sR S b j := by rw [sR_pR, if_neg h]
theorem l_mul {k i : Nat} : (no_index (OfNat.ofNat k) : Int32) * Int32.ofNat i = Int32.ofNat (k * i) := (Int32.ofNat_mul k i).symm
theorem n_mul {k i : Nat} : Int32.ofNat k * Int32.ofNat i = Int32.ofNat (k * i) := (Int32.ofNat_mul k i).symm
theorem n_add {k i : Nat} : Int32.ofNat k + Int32.ofNat i = Int32.ofNat (k + i) := (Int32.ofNat_add k i).symm
theorem n_addl {k i : Nat} : Int32.ofNat k + (no_index (OfNat.ofNat i) : Int32) = Int32.ofNat (k + i) := (Int32.ofNat_add k i).symm
theorem n_ladd {k i : Nat} : (no_index (OfNat.ofNat k) : Int32) + Int32.ofNat i = Int32.ofNat (k + i) := (Int32.ofNat_add k i).symm
section EX
variable {S S2 : Sg} {nC nR nT nK nL nM nP td N : Nat} {lh : Nat → Nat}
theorem cornerAt_y {Q : Option Nat → Prop} {i : Nat} (hS : GS S) (hC : GC S S2 nC) (hi : i < nC) : P_X10_cornerAt 1000 (Int32.ofNat i) S Q ↔ Q (some (2000 + i)) := by
  have o := hS.1
  have hn := hC.2.1
  have c := hC.2.2.2.1 i hi
  unfold P_X10_cornerAt
  simp (disch := first | omega | decide) only [Option.some.injEq, exists_eq_left', exists_eq_left, forall_eq, forall_eq', true_and, and_true, true_implies, implies_true, false_implies, not_true_eq_false, not_false_eq_true, reduceCtorEq, and_self, forall_const, i10, i01, if_true, if_false, and_false, false_and, Nat.not_lt_zero, sK_pI, sN_pI, sR_pI, sL_pI, sK_pL, sN_pL, sR_pL, sI_pL, sK_pR, sN_pR, sI_pR, sL_pR, sI_pI_eq, sI_pI_ne, sL_pL_eq, sL_pL_ne, sR_pR_eq, sR_pR_ne, nn_le, nat32_lt, nn_eq, ln_le, nl_le, ln_lt, nl_lt, ln_eq, nl_eq, n_m1, n_lt0, vp_n, vp_l, lc_n, nat32c, n_s, nI_n, o, hC.1.1, size_e hC.1, within_e, inn_cy (show nC < 2147483648 by omega) hi, get_e hC.1 hi, c.1]
theorem cornerAt_n {Q : Option Nat → Prop} {v : Int32} (hS : GS S) (hC : GC S S2 nC) (hi : ¬ isC v nC) : P_X10_cornerAt 1000 v S Q ↔ Q none := by
  have o := hS.1
  have hn := hC.2.1
  unfold P_X10_cornerAt
  simp (disch := first | omega | decide) only [Option.some.injEq, exists_eq_left', exists_eq_left, forall_eq, forall_eq', true_and, and_true, true_implies, implies_true, false_implies, not_true_eq_false, not_false_eq_true, reduceCtorEq, and_self, forall_const, i10, i01, if_true, if_false, and_false, false_and, Nat.not_lt_zero, sK_pI, sN_pI, sR_pI, sL_pI, sK_pL, sN_pL, sR_pL, sI_pL, sK_pR, sN_pR, sI_pR, sL_pR, sI_pI_eq, sI_pI_ne, sL_pL_eq, sL_pL_ne, sR_pR_eq, sR_pR_ne, nn_le, nat32_lt, nn_eq, ln_le, nl_le, ln_lt, nl_lt, ln_eq, nl_eq, n_m1, n_lt0, vp_n, vp_l, lc_n, nat32c, n_s, nI_n, o, hC.1.1, size_e hC.1, within_e, inn_cn (show nC < 2147483648 by omega) hi]
theorem bedAt_y {Q : Option Nat → Prop} {i : Nat} (hS : GS S) (hC : GC S S2 nC) (hi : i < nC) (hb : ¬ sI S2 1112 i = 0) : P_X10_bedAt 1000 (Int32.ofNat i) S Q ↔ Q (some (3000 + i)) := by
  have o := hS.1
  have c := hC.2.2.2.1 i hi
  unfold P_X10_bedAt
  simp (disch := first | omega | decide) only [Option.some.injEq, exists_eq_left', exists_eq_left, forall_eq, forall_eq', true_and, and_true, true_implies, implies_true, false_implies, not_true_eq_false, not_false_eq_true, reduceCtorEq, and_self, forall_const, i10, i01, if_true, if_false, and_false, false_and, Nat.not_lt_zero, sK_pI, sN_pI, sR_pI, sL_pI, sK_pL, sN_pL, sR_pL, sI_pL, sK_pR, sN_pR, sI_pR, sL_pR, sI_pI_eq, sI_pI_ne, sL_pL_eq, sL_pL_ne, sR_pR_eq, sR_pR_ne, nn_le, nat32_lt, nn_eq, ln_le, nl_le, ln_lt, nl_lt, ln_eq, nl_eq, n_m1, n_lt0, vp_n, vp_l, lc_n, nat32c, n_s, nI_n, o, cornerAt_y hS hC hi, c, hb]
theorem bedAt_n {Q : Option Nat → Prop} {i : Nat} (hS : GS S) (hC : GC S S2 nC) (hi : i < nC) (hb : sI S2 1112 i = 0) : P_X10_bedAt 1000 (Int32.ofNat i) S Q ↔ Q none := by
  have o := hS.1
  have c := hC.2.2.2.1 i hi
  unfold P_X10_bedAt
  simp (disch := first | omega | decide) only [Option.some.injEq, exists_eq_left', exists_eq_left, forall_eq, forall_eq', true_and, and_true, true_implies, implies_true, false_implies, not_true_eq_false, not_false_eq_true, reduceCtorEq, and_self, forall_const, i10, i01, if_true, if_false, and_false, false_and, Nat.not_lt_zero, sK_pI, sN_pI, sR_pI, sL_pI, sK_pL, sN_pL, sR_pL, sI_pL, sK_pR, sN_pR, sI_pR, sL_pR, sI_pI_eq, sI_pI_ne, sL_pL_eq, sL_pL_ne, sR_pR_eq, sR_pR_ne, nn_le, nat32_lt, nn_eq, ln_le, nl_le, ln_lt, nl_lt, ln_eq, nl_eq, n_m1, n_lt0, vp_n, vp_l, lc_n, nat32c, n_s, nI_n, o, cornerAt_y hS hC hi, c, hb]
theorem bedAt_0 {Q : Option Nat → Prop} {v : Int32} (hS : GS S) (hC : GC S S2 nC) (hi : ¬ isC v nC) : P_X10_bedAt 1000 v S Q ↔ Q none := by
  have o := hS.1
  unfold P_X10_bedAt
  simp (disch := first | omega | decide) only [Option.some.injEq, exists_eq_left', exists_eq_left, forall_eq, forall_eq', true_and, and_true, true_implies, implies_true, false_implies, not_true_eq_false, not_false_eq_true, reduceCtorEq, and_self, forall_const, i10, i01, if_true, if_false, and_false, false_and, Nat.not_lt_zero, sK_pI, sN_pI, sR_pI, sL_pI, sK_pL, sN_pL, sR_pL, sI_pL, sK_pR, sN_pR, sI_pR, sL_pR, sI_pI_eq, sI_pI_ne, sL_pL_eq, sL_pL_ne, sR_pR_eq, sR_pR_ne, nn_le, nat32_lt, nn_eq, ln_le, nl_le, ln_lt, nl_lt, ln_eq, nl_eq, n_m1, n_lt0, vp_n, vp_l, lc_n, nat32c, n_s, nI_n, o, cornerAt_n hS hC hi]
theorem roofAt_y {Q : Option Nat → Prop} {i : Nat} (hS : GS S) (hR : GR S S2 nC nR td) (hi : i < nR) : P_X10_roofAt 1000 (Int32.ofNat i) S Q ↔ Q (some (4000 + i)) := by
  have o := hS.1
  have hn := hR.2.1
  have c := hR.2.2.2.1 i hi
  unfold P_X10_roofAt
  simp (disch := first | omega | decide) only [Option.some.injEq, exists_eq_left', exists_eq_left, forall_eq, forall_eq', true_and, and_true, true_implies, implies_true, false_implies, not_true_eq_false, not_false_eq_true, reduceCtorEq, and_self, forall_const, i10, i01, if_true, if_false, and_false, false_and, Nat.not_lt_zero, sK_pI, sN_pI, sR_pI, sL_pI, sK_pL, sN_pL, sR_pL, sI_pL, sK_pR, sN_pR, sI_pR, sL_pR, sI_pI_eq, sI_pI_ne, sL_pL_eq, sL_pL_ne, sR_pR_eq, sR_pR_ne, nn_le, nat32_lt, nn_eq, ln_le, nl_le, ln_lt, nl_lt, ln_eq, nl_eq, n_m1, n_lt0, vp_n, vp_l, lc_n, nat32c, n_s, nI_n, o, hR.1.1, size_e hR.1, within_e, inn_cy (show nR < 2147483648 by omega) hi, get_e hR.1 hi, c.1]
theorem roofAt_n {Q : Option Nat → Prop} {v : Int32} (hS : GS S) (hR : GR S S2 nC nR td) (hi : ¬ isC v nR) : P_X10_roofAt 1000 v S Q ↔ Q none := by
  have o := hS.1
  have hn := hR.2.1
  unfold P_X10_roofAt
  simp (disch := first | omega | decide) only [Option.some.injEq, exists_eq_left', exists_eq_left, forall_eq, forall_eq', true_and, and_true, true_implies, implies_true, false_implies, not_true_eq_false, not_false_eq_true, reduceCtorEq, and_self, forall_const, i10, i01, if_true, if_false, and_false, false_and, Nat.not_lt_zero, sK_pI, sN_pI, sR_pI, sL_pI, sK_pL, sN_pL, sR_pL, sI_pL, sK_pR, sN_pR, sI_pR, sL_pR, sI_pI_eq, sI_pI_ne, sL_pL_eq, sL_pL_ne, sR_pR_eq, sR_pR_ne, nn_le, nat32_lt, nn_eq, ln_le, nl_le, ln_lt, nl_lt, ln_eq, nl_eq, n_m1, n_lt0, vp_n, vp_l, lc_n, nat32c, n_s, nI_n, o, hR.1.1, size_e hR.1, within_e, inn_cn (show nR < 2147483648 by omega) hi]
theorem isCorner_y {Q : Int32 → Prop} {i : Nat} (hM : MW S2) (hc : sI S2 1000 1 = Int32.ofNat nC) (hn : nC ≤ 12) (hi : i < nC) : P_X11_isCorner 1000 (Int32.ofNat i) S2 Q ↔ Q 1 := by
  unfold P_X11_isCorner
  simp (disch := first | omega | decide) only [Option.some.injEq, exists_eq_left', exists_eq_left, forall_eq, forall_eq', true_and, and_true, true_implies, implies_true, false_implies, not_true_eq_false, not_false_eq_true, reduceCtorEq, and_self, forall_const, i10, i01, if_true, if_false, and_false, false_and, Nat.not_lt_zero, sK_pI, sN_pI, sR_pI, sL_pI, sK_pL, sN_pL, sR_pL, sI_pL, sK_pR, sN_pR, sI_pR, sL_pR, sI_pI_eq, sI_pI_ne, sL_pL_eq, sL_pL_ne, sR_pR_eq, sR_pR_ne, nn_le, nat32_lt, nn_eq, ln_le, nl_le, ln_lt, nl_lt, ln_eq, nl_eq, n_m1, n_lt0, vp_n, vp_l, lc_n, nat32c, n_s, nI_n, hM.o, isIn_e, hc, inn_cy (show nC < 2147483648 by omega) hi, show bz 1 from Or.inr rfl]
theorem isCorner_n {Q : Int32 → Prop} {v : Int32} (hM : MW S2) (hc : sI S2 1000 1 = Int32.ofNat nC) (hn : nC ≤ 12) (hi : ¬ isC v nC) : P_X11_isCorner 1000 v S2 Q ↔ Q 0 := by
  unfold P_X11_isCorner
  simp (disch := first | omega | decide) only [Option.some.injEq, exists_eq_left', exists_eq_left, forall_eq, forall_eq', true_and, and_true, true_implies, implies_true, false_implies, not_true_eq_false, not_false_eq_true, reduceCtorEq, and_self, forall_const, i10, i01, if_true, if_false, and_false, false_and, Nat.not_lt_zero, sK_pI, sN_pI, sR_pI, sL_pI, sK_pL, sN_pL, sR_pL, sI_pL, sK_pR, sN_pR, sI_pR, sL_pR, sI_pI_eq, sI_pI_ne, sL_pL_eq, sL_pL_ne, sR_pR_eq, sR_pR_ne, nn_le, nat32_lt, nn_eq, ln_le, nl_le, ln_lt, nl_lt, ln_eq, nl_eq, n_m1, n_lt0, vp_n, vp_l, lc_n, nat32c, n_s, nI_n, hM.o, isIn_e, hc, inn_cn (show nC < 2147483648 by omega) hi, show bz 0 from Or.inl rfl]
theorem isBed_y {Q : Int32 → Prop} {i : Nat} (hM : MW S2) (hc : sI S2 1000 1 = Int32.ofNat nC) (hn : nC ≤ 12) (hi : i < nC) (hb : ¬ sI S2 1112 i = 0) : P_X11_isBed 1000 (Int32.ofNat i) S2 Q ↔ Q 1 := by
  unfold P_X11_isBed
  have h12 : i < 12 := by omega
  simp (disch := first | omega | decide) only [Option.some.injEq, exists_eq_left', exists_eq_left, forall_eq, forall_eq', true_and, and_true, true_implies, implies_true, false_implies, not_true_eq_false, not_false_eq_true, reduceCtorEq, and_self, forall_const, i10, i01, if_true, if_false, and_false, false_and, Nat.not_lt_zero, sK_pI, sN_pI, sR_pI, sL_pI, sK_pL, sN_pL, sR_pL, sI_pL, sK_pR, sN_pR, sI_pR, sL_pR, sI_pI_eq, sI_pI_ne, sL_pL_eq, sL_pL_ne, sR_pR_eq, sR_pR_ne, nn_le, nat32_lt, nn_eq, ln_le, nl_le, ln_lt, nl_lt, ln_eq, nl_eq, n_m1, n_lt0, vp_n, vp_l, lc_n, nat32c, n_s, nI_n, hM.o, isCorner_y hM hc hn hi, hM.a12, h12, hb]
theorem isBed_n {Q : Int32 → Prop} {i : Nat} (hM : MW S2) (hc : sI S2 1000 1 = Int32.ofNat nC) (hn : nC ≤ 12) (hi : i < nC) (hb : sI S2 1112 i = 0) : P_X11_isBed 1000 (Int32.ofNat i) S2 Q ↔ Q 0 := by
  unfold P_X11_isBed P_X11_isBed_B21
  have h12 : i < 12 := by omega
  simp (disch := first | omega | decide) only [Option.some.injEq, exists_eq_left', exists_eq_left, forall_eq, forall_eq', true_and, and_true, true_implies, implies_true, false_implies, not_true_eq_false, not_false_eq_true, reduceCtorEq, and_self, forall_const, i10, i01, if_true, if_false, and_false, false_and, Nat.not_lt_zero, sK_pI, sN_pI, sR_pI, sL_pI, sK_pL, sN_pL, sR_pL, sI_pL, sK_pR, sN_pR, sI_pR, sL_pR, sI_pI_eq, sI_pI_ne, sL_pL_eq, sL_pL_ne, sR_pR_eq, sR_pR_ne, nn_le, nat32_lt, nn_eq, ln_le, nl_le, ln_lt, nl_lt, ln_eq, nl_eq, n_m1, n_lt0, vp_n, vp_l, lc_n, nat32c, n_s, nI_n, hM.o, isCorner_y hM hc hn hi, hM.a12, h12, hb]
theorem isBed_0 {Q : Int32 → Prop} {v : Int32} (hM : MW S2) (hc : sI S2 1000 1 = Int32.ofNat nC) (hn : nC ≤ 12) (hi : ¬ isC v nC) : P_X11_isBed 1000 v S2 Q ↔ Q 0 := by
  unfold P_X11_isBed P_X11_isBed_B21
  simp (disch := first | omega | decide) only [Option.some.injEq, exists_eq_left', exists_eq_left, forall_eq, forall_eq', true_and, and_true, true_implies, implies_true, false_implies, not_true_eq_false, not_false_eq_true, reduceCtorEq, and_self, forall_const, i10, i01, if_true, if_false, and_false, false_and, Nat.not_lt_zero, sK_pI, sN_pI, sR_pI, sL_pI, sK_pL, sN_pL, sR_pL, sI_pL, sK_pR, sN_pR, sI_pR, sL_pR, sI_pI_eq, sI_pI_ne, sL_pL_eq, sL_pL_ne, sR_pR_eq, sR_pR_ne, nn_le, nat32_lt, nn_eq, ln_le, nl_le, ln_lt, nl_lt, ln_eq, nl_eq, n_m1, n_lt0, vp_n, vp_l, lc_n, nat32c, n_s, nI_n, hM.o, isCorner_n hM hc hn hi]
/-! laws -/
def inF (S2 : Sg) (d : Int32) : Nat → Option Nat
  | 0 => none
  | n + 1 => if sI S2 1169 n ≤ d then some n else inF S2 d n
theorem inF_s {d : Int32} {n : Nat} : inF S2 d (n + 1) = if sI S2 1169 n ≤ d then some n else inF S2 d n := rfl
def lawH (lh : Nat → Nat) : Option Nat → Nat
  | none => 1010
  | some r => lh r
def lawV (S2 : Sg) : Option Nat → Nat → Int32
  | none, w => bareV w
  | some r, w => lawF S2 r w (sI S2 1168 r).toNatClampNeg
theorem inF_lt {d : Int32} : ∀ {n : Nat} {r : Nat}, inF S2 d n = some r → r < n
  | 0, r, h => by cases h
  | n + 1, r, h => by
    unfold inF at h
    by_cases c : sI S2 1169 n ≤ d
    · rw [if_pos c] at h; cases h; omega
    · rw [if_neg c] at h; have := inF_lt h; omega
theorem lawH_k {r : Option Nat} (hS : GS S) (hL : GL S S2 nL lh) (hr : ∀ j, r = some j → j < nL) : sK S (lawH lh r) % 32 = 6 := by
  cases r with
  | none => exact hS.2.2.2.1.1
  | some j =>
    obtain ⟨-, st, -, -, h⟩ := hL.2.2.2 j (hr j rfl)
    exact h.2.1
theorem value_e {r : Option Nat} {w : Nat} {Q : Int32 → Prop} (hS : GS S) (hL : GL S S2 nL lh) (hr : ∀ j, r = some j → j < nL) (hw : w < 21) : P_X4_value (lawH lh r) (Int32.ofNat w) S Q ↔ Q (lawV S2 r w) := by
  unfold P_X4_value P_X4_value_B22
  cases r with
  | none =>
    obtain ⟨g1, g2, g3, g4, g5, g6, g7, g8⟩ := hS.2.2.2.1
    have e : ¬ 21 ≤ w := by omega
    show (_ → _) ∧ _ ↔ Q (bareV w)
    simp (disch := first | omega | decide) only [Option.some.injEq, exists_eq_left', exists_eq_left, forall_eq, forall_eq', true_and, and_true, true_implies, implies_true, false_implies, not_true_eq_false, not_false_eq_true, reduceCtorEq, and_self, forall_const, i10, i01, if_true, if_false, and_false, false_and, Nat.not_lt_zero, sK_pI, sN_pI, sR_pI, sL_pI, sK_pL, sN_pL, sR_pL, sI_pL, sK_pR, sN_pR, sI_pR, sL_pR, sI_pI_eq, sI_pI_ne, sL_pL_eq, sL_pL_ne, sR_pR_eq, sR_pR_ne, nn_le, nat32_lt, nn_eq, ln_le, nl_le, ln_lt, nl_lt, ln_eq, nl_eq, n_m1, n_lt0, vp_n, vp_l, lc_n, nat32c, n_s, nI_n, lawH, g1, g4, g6, g7, e, hw, g8 w hw]
  | some j =>
    obtain ⟨-, st, s1, s2, h⟩ := hL.2.2.2 j (hr j rfl)
    obtain ⟨h0, h1, h2, q1, q2, th, g1, g2, g3, g4, g5, g6, g7, g8, g9⟩ := h
    have e : ¬ 21 ≤ w := by omega
    show (_ → _) ∧ _ ↔ Q (lawF S2 j w (sI S2 1168 j).toNatClampNeg)
    rw [s2, nat32c (by omega)]
    simp (disch := first | omega | decide) only [Option.some.injEq, exists_eq_left', exists_eq_left, forall_eq, forall_eq', true_and, and_true, true_implies, implies_true, false_implies, not_true_eq_false, not_false_eq_true, reduceCtorEq, and_self, forall_const, i10, i01, if_true, if_false, and_false, false_and, Nat.not_lt_zero, sK_pI, sN_pI, sR_pI, sL_pI, sK_pL, sN_pL, sR_pL, sI_pL, sK_pR, sN_pR, sI_pR, sL_pR, sI_pI_eq, sI_pI_ne, sL_pL_eq, sL_pL_ne, sR_pR_eq, sR_pR_ne, nn_le, nat32_lt, nn_eq, ln_le, nl_le, ln_lt, nl_lt, ln_eq, nl_eq, n_m1, n_lt0, vp_n, vp_l, lc_n, nat32c, n_s, nI_n, lawH, h1, g5, g6, g7, e, hw, g8 w hw]
theorem value_l {r : Option Nat} {w : Nat} {Q : Int32 → Prop} (hS : GS S) (hL : GL S S2 nL lh) (hr : ∀ j, r = some j → j < nL) (hw : w < 21) : P_X4_value (lawH lh r) (no_index (OfNat.ofNat w)) S Q ↔ Q (lawV S2 r w) := value_e hS hL hr hw
theorem x_lawOn {v : Int32} {Q : Option Nat → Prop} (hS : GS S) (hL : GL S S2 nL lh) (k : Q (some (lawH lh (inF S2 v nL)))) : P_X10_lawOn 1000 v S Q := by
  have o := hS.1
  have hn := hL.2.1
  unfold P_X10_lawOn
  simp (disch := first | omega | decide) only [Option.some.injEq, exists_eq_left', exists_eq_left, forall_eq, forall_eq', true_and, and_true, true_implies, implies_true, false_implies, not_true_eq_false, not_false_eq_true, reduceCtorEq, and_self, forall_const, i10, i01, if_true, if_false, and_false, false_and, Nat.not_lt_zero, sK_pI, sN_pI, sR_pI, sL_pI, sK_pL, sN_pL, sR_pL, sI_pL, sK_pR, sN_pR, sI_pR, sL_pR, sI_pI_eq, sI_pI_ne, sL_pL_eq, sL_pL_ne, sR_pR_eq, sR_pR_ne, nn_le, nat32_lt, nn_eq, ln_le, nl_le, ln_lt, nl_lt, ln_eq, nl_eq, n_m1, n_lt0, vp_n, vp_l, lc_n, nat32c, n_s, nI_n, o, hL.1.1, size_e hL.1]
  unfold P_X10_lawOn_L10
  refine ⟨fun n x => ∃ i, i ≤ nL ∧ n = i ∧ x = Int32.ofNat i - 1 ∧ inF S2 v nL = inF S2 v i, ⟨nL, nL, by omega, rfl, rfl, rfl⟩, ?_⟩
  rintro n x ⟨i, hi, rfl, rfl, he⟩
  unfold P_X10_lawOn_L10b
  rcases Nat.eq_zero_or_pos n with z | z
  · subst z
    rw [z_m1]
    rw [he] at k
    simp (disch := first | omega | decide) only [Option.some.injEq, exists_eq_left', exists_eq_left, forall_eq, forall_eq', true_and, and_true, true_implies, implies_true, false_implies, not_true_eq_false, not_false_eq_true, reduceCtorEq, and_self, forall_const, i10, i01, if_true, if_false, and_false, false_and, Nat.not_lt_zero, sK_pI, sN_pI, sR_pI, sL_pI, sK_pL, sN_pL, sR_pL, sI_pL, sK_pR, sN_pR, sI_pR, sL_pR, sI_pI_eq, sI_pI_ne, sL_pL_eq, sL_pL_ne, sR_pR_eq, sR_pR_ne, nn_le, nat32_lt, nn_eq, ln_le, nl_le, ln_lt, nl_lt, ln_eq, nl_eq, n_m1, n_lt0, vp_n, vp_l, lc_n, nat32c, n_s, nI_n, o]
    refine ⟨fun _ => k, fun h => absurd (by decide) h⟩
  · obtain ⟨j, rfl⟩ : ∃ j, n = j + 1 := ⟨n - 1, by omega⟩
    rw [n_p z, Nat.add_sub_cancel]
    have hj : j < nL := by omega
    obtain ⟨a, st, s1, s2, h⟩ := hL.2.2.2 j hj
    simp (disch := first | omega | decide) only [Option.some.injEq, exists_eq_left', exists_eq_left, forall_eq, forall_eq', true_and, and_true, true_implies, implies_true, false_implies, not_true_eq_false, not_false_eq_true, reduceCtorEq, and_self, forall_const, i10, i01, if_true, if_false, and_false, false_and, Nat.not_lt_zero, sK_pI, sN_pI, sR_pI, sL_pI, sK_pL, sN_pL, sR_pL, sI_pL, sK_pR, sN_pR, sI_pR, sL_pR, sI_pI_eq, sI_pI_ne, sL_pL_eq, sL_pL_ne, sR_pR_eq, sR_pR_ne, nn_le, nat32_lt, nn_eq, ln_le, nl_le, ln_lt, nl_lt, ln_eq, nl_eq, n_m1, n_lt0, vp_n, vp_l, lc_n, nat32c, n_s, nI_n, o, hL.1.1, get_e hL.1 hj, h.2.1, a]
    refine ⟨fun c => ⟨j, by omega, j, by omega, rfl, ?_, ?_⟩, fun c => ?_⟩
    · rw [Int32.sub_eq_add_neg]
    · rw [he, inF_s, if_neg (Int32.not_le.mpr c)]
    · have : inF S2 v (j + 1) = some j := by rw [inF_s, if_pos (Int32.not_lt.mp c)]
      rw [he, this] at k
      exact k
def optI : Option Nat → Int32
  | none => -1
  | some r => Int32.ofNat r
theorem m_inForce {v : Int32} {Q : Int32 → Prop} (hM : MW S2) (hc : sI S2 1000 67 = Int32.ofNat nL) (hn : nL ≤ 10) (k : Q (optI (inF S2 v nL))) : P_X11_inForce 1000 v S2 Q := by
  unfold P_X11_inForce P_X11_inForce_L4
  refine ⟨fun n a x => ∃ i, i ≤ nL ∧ n = nL - i ∧ x = Int32.ofNat i ∧ a = optI (inF S2 v i), ⟨nL, 0, by omega, rfl, rfl, rfl⟩, ?_⟩
  rintro n a x ⟨i, hi, rfl, rfl, rfl⟩
  unfold P_X11_inForce_L4b P_X11_inForce_B24
  have h11 : i < 11 := by omega
  simp (disch := first | omega | decide) only [Option.some.injEq, exists_eq_left', exists_eq_left, forall_eq, forall_eq', true_and, and_true, true_implies, implies_true, false_implies, not_true_eq_false, not_false_eq_true, reduceCtorEq, and_self, forall_const, i10, i01, if_true, if_false, and_false, false_and, Nat.not_lt_zero, sK_pI, sN_pI, sR_pI, sL_pI, sK_pL, sN_pL, sR_pL, sI_pL, sK_pR, sN_pR, sI_pR, sL_pR, sI_pI_eq, sI_pI_ne, sL_pL_eq, sL_pL_ne, sR_pR_eq, sR_pR_ne, nn_le, nat32_lt, nn_eq, ln_le, nl_le, ln_lt, nl_lt, ln_eq, nl_eq, n_m1, n_lt0, vp_n, vp_l, lc_n, nat32c, n_s, nI_n, hM.o, hc, hM.a69, h11]
  refine ⟨fun c => ?_, fun c => ⟨fun d => ⟨nL - (i + 1), by omega, i + 1, by omega, rfl, rfl, ?_⟩, fun d => ⟨nL - (i + 1), by omega, i + 1, by omega, rfl, rfl, ?_⟩⟩⟩
  · have e : i = nL := by omega
    subst e; exact k
  · rw [inF_s, if_neg (Int32.not_le.mpr d)]
  · rw [inF_s, if_pos (Int32.not_lt.mp d)]; rfl
theorem plain_e {w : Nat} {Q : Int32 → Prop} (hw : w < 21) : P_X11_plain (Int32.ofNat w) S2 Q ↔ Q (bareV w) := by
  have : w = 0 ∨ w = 1 ∨ w = 2 ∨ w = 3 ∨ w = 4 ∨ w = 5 ∨ w = 6 ∨ w = 7 ∨ w = 8 ∨ w = 9 ∨ w = 10 ∨ w = 11 ∨ w = 12 ∨ w = 13 ∨ w = 14 ∨ w = 15 ∨ w = 16 ∨ w = 17 ∨ w = 18 ∨ w = 19 ∨ w = 20 := by omega
  unfold P_X11_plain
  rcases this with rfl | rfl | rfl | rfl | rfl | rfl | rfl | rfl | rfl | rfl | rfl | rfl | rfl | rfl | rfl | rfl | rfl | rfl | rfl | rfl | rfl <;> simp (disch := first | omega | decide) only [Option.some.injEq, exists_eq_left', exists_eq_left, forall_eq, forall_eq', true_and, and_true, true_implies, implies_true, false_implies, not_true_eq_false, not_false_eq_true, reduceCtorEq, and_self, forall_const, i10, i01, if_true, if_false, and_false, false_and, Nat.not_lt_zero, sK_pI, sN_pI, sR_pI, sL_pI, sK_pL, sN_pL, sR_pL, sI_pL, sK_pR, sN_pR, sI_pR, sL_pR, sI_pI_eq, sI_pI_ne, sL_pL_eq, sL_pL_ne, sR_pR_eq, sR_pR_ne, nn_le, nat32_lt, nn_eq, ln_le, nl_le, ln_lt, nl_lt, ln_eq, nl_eq, n_m1, n_lt0, vp_n, vp_l, lc_n, nat32c, n_s, nI_n, Nat.reduceEqDiff] <;> exact Iff.rfl
end EX
