/-! the tables, together -/
theorem abMa (q : Nat) (h : q < abNM) : abMok q := by
  have h0 : q < 276 := h
  by_cases h0 : q < 6
  · exact abMks_ok abMa0 q (by omega) (by simp only [List.length_cons, List.length_nil]; omega)
  by_cases h6 : q < 12
  · exact abMks_ok abMa6 q (by omega) (by simp only [List.length_cons, List.length_nil]; omega)
  by_cases h12 : q < 18
  · exact abMks_ok abMa12 q (by omega) (by simp only [List.length_cons, List.length_nil]; omega)
  by_cases h18 : q < 24
  · exact abMks_ok abMa18 q (by omega) (by simp only [List.length_cons, List.length_nil]; omega)
  by_cases h24 : q < 30
  · exact abMks_ok abMa24 q (by omega) (by simp only [List.length_cons, List.length_nil]; omega)
  by_cases h30 : q < 36
  · exact abMks_ok abMa30 q (by omega) (by simp only [List.length_cons, List.length_nil]; omega)
  by_cases h36 : q < 42
  · exact abMks_ok abMa36 q (by omega) (by simp only [List.length_cons, List.length_nil]; omega)
  by_cases h42 : q < 48
  · exact abMks_ok abMa42 q (by omega) (by simp only [List.length_cons, List.length_nil]; omega)
  by_cases h48 : q < 54
  · exact abMks_ok abMa48 q (by omega) (by simp only [List.length_cons, List.length_nil]; omega)
  by_cases h54 : q < 60
  · exact abMks_ok abMa54 q (by omega) (by simp only [List.length_cons, List.length_nil]; omega)
  by_cases h60 : q < 66
  · exact abMks_ok abMa60 q (by omega) (by simp only [List.length_cons, List.length_nil]; omega)
  by_cases h66 : q < 72
  · exact abMks_ok abMa66 q (by omega) (by simp only [List.length_cons, List.length_nil]; omega)
  by_cases h72 : q < 78
  · exact abMks_ok abMa72 q (by omega) (by simp only [List.length_cons, List.length_nil]; omega)
  by_cases h78 : q < 84
  · exact abMks_ok abMa78 q (by omega) (by simp only [List.length_cons, List.length_nil]; omega)
  by_cases h84 : q < 90
  · exact abMks_ok abMa84 q (by omega) (by simp only [List.length_cons, List.length_nil]; omega)
  by_cases h90 : q < 96
  · exact abMks_ok abMa90 q (by omega) (by simp only [List.length_cons, List.length_nil]; omega)
  by_cases h96 : q < 102
  · exact abMks_ok abMa96 q (by omega) (by simp only [List.length_cons, List.length_nil]; omega)
  by_cases h102 : q < 108
  · exact abMks_ok abMa102 q (by omega) (by simp only [List.length_cons, List.length_nil]; omega)
  by_cases h108 : q < 114
  · exact abMks_ok abMa108 q (by omega) (by simp only [List.length_cons, List.length_nil]; omega)
  by_cases h114 : q < 120
  · exact abMks_ok abMa114 q (by omega) (by simp only [List.length_cons, List.length_nil]; omega)
  by_cases h120 : q < 126
  · exact abMks_ok abMa120 q (by omega) (by simp only [List.length_cons, List.length_nil]; omega)
  by_cases h126 : q < 132
  · exact abMks_ok abMa126 q (by omega) (by simp only [List.length_cons, List.length_nil]; omega)
  by_cases h132 : q < 138
  · exact abMks_ok abMa132 q (by omega) (by simp only [List.length_cons, List.length_nil]; omega)
  by_cases h138 : q < 144
  · exact abMks_ok abMa138 q (by omega) (by simp only [List.length_cons, List.length_nil]; omega)
  by_cases h144 : q < 150
  · exact abMks_ok abMa144 q (by omega) (by simp only [List.length_cons, List.length_nil]; omega)
  by_cases h150 : q < 156
  · exact abMks_ok abMa150 q (by omega) (by simp only [List.length_cons, List.length_nil]; omega)
  by_cases h156 : q < 162
  · exact abMks_ok abMa156 q (by omega) (by simp only [List.length_cons, List.length_nil]; omega)
  by_cases h162 : q < 168
  · exact abMks_ok abMa162 q (by omega) (by simp only [List.length_cons, List.length_nil]; omega)
  by_cases h168 : q < 174
  · exact abMks_ok abMa168 q (by omega) (by simp only [List.length_cons, List.length_nil]; omega)
  by_cases h174 : q < 180
  · exact abMks_ok abMa174 q (by omega) (by simp only [List.length_cons, List.length_nil]; omega)
  by_cases h180 : q < 186
  · exact abMks_ok abMa180 q (by omega) (by simp only [List.length_cons, List.length_nil]; omega)
  by_cases h186 : q < 192
  · exact abMks_ok abMa186 q (by omega) (by simp only [List.length_cons, List.length_nil]; omega)
  by_cases h192 : q < 198
  · exact abMks_ok abMa192 q (by omega) (by simp only [List.length_cons, List.length_nil]; omega)
  by_cases h198 : q < 204
  · exact abMks_ok abMa198 q (by omega) (by simp only [List.length_cons, List.length_nil]; omega)
  by_cases h204 : q < 210
  · exact abMks_ok abMa204 q (by omega) (by simp only [List.length_cons, List.length_nil]; omega)
  by_cases h210 : q < 216
  · exact abMks_ok abMa210 q (by omega) (by simp only [List.length_cons, List.length_nil]; omega)
  by_cases h216 : q < 222
  · exact abMks_ok abMa216 q (by omega) (by simp only [List.length_cons, List.length_nil]; omega)
  by_cases h222 : q < 228
  · exact abMks_ok abMa222 q (by omega) (by simp only [List.length_cons, List.length_nil]; omega)
  by_cases h228 : q < 234
  · exact abMks_ok abMa228 q (by omega) (by simp only [List.length_cons, List.length_nil]; omega)
  by_cases h234 : q < 240
  · exact abMks_ok abMa234 q (by omega) (by simp only [List.length_cons, List.length_nil]; omega)
  by_cases h240 : q < 246
  · exact abMks_ok abMa240 q (by omega) (by simp only [List.length_cons, List.length_nil]; omega)
  by_cases h246 : q < 252
  · exact abMks_ok abMa246 q (by omega) (by simp only [List.length_cons, List.length_nil]; omega)
  by_cases h252 : q < 258
  · exact abMks_ok abMa252 q (by omega) (by simp only [List.length_cons, List.length_nil]; omega)
  by_cases h258 : q < 264
  · exact abMks_ok abMa258 q (by omega) (by simp only [List.length_cons, List.length_nil]; omega)
  by_cases h264 : q < 270
  · exact abMks_ok abMa264 q (by omega) (by simp only [List.length_cons, List.length_nil]; omega)
  by_cases h270 : q < 276
  · exact abMks_ok abMa270 q (by omega) (by simp only [List.length_cons, List.length_nil]; omega)
  omega
theorem abTent (k pc : Nat) (h : k < abNM) : abEtOk k ((abMe k).2.2.2.2.2.get pc) ∧ ((abMe k).2.2.2.2.2.get pc).1 < 88 := by
  have h0 : k < 276 := h
  by_cases h0 : k < 2
  · exact abTru_ok (abTrs_ok abTq0 k (by omega) (by omega)) pc (Nat.zero_le _)
  by_cases h2 : k < 4
  · exact abTru_ok (abTrs_ok abTq2 k (by omega) (by omega)) pc (Nat.zero_le _)
  by_cases h4 : k < 8
  · exact abTru_ok (abTrs_ok abTq4 k (by omega) (by omega)) pc (Nat.zero_le _)
  by_cases h8 : k < 14
  · exact abTru_ok (abTrs_ok abTq8 k (by omega) (by omega)) pc (Nat.zero_le _)
  by_cases h14 : k < 18
  · exact abTru_ok (abTrs_ok abTq14 k (by omega) (by omega)) pc (Nat.zero_le _)
  by_cases h18 : k < 22
  · exact abTru_ok (abTrs_ok abTq18 k (by omega) (by omega)) pc (Nat.zero_le _)
  by_cases h22 : k < 23
  · exact abTru_ok (abTrs_ok abTq22 k (by omega) (by omega)) pc (Nat.zero_le _)
  by_cases h23 : k < 27
  · exact abTru_ok (abTrs_ok abTq23 k (by omega) (by omega)) pc (Nat.zero_le _)
  by_cases h27 : k < 30
  · exact abTru_ok (abTrs_ok abTq27 k (by omega) (by omega)) pc (Nat.zero_le _)
  by_cases h30 : k < 34
  · exact abTru_ok (abTrs_ok abTq30 k (by omega) (by omega)) pc (Nat.zero_le _)
  by_cases h34 : k < 37
  · exact abTru_ok (abTrs_ok abTq34 k (by omega) (by omega)) pc (Nat.zero_le _)
  by_cases h37 : k < 39
  · exact abTru_ok (abTrs_ok abTq37 k (by omega) (by omega)) pc (Nat.zero_le _)
  by_cases h39 : k < 42
  · exact abTru_ok (abTrs_ok abTq39 k (by omega) (by omega)) pc (Nat.zero_le _)
  by_cases h42 : k < 43
  · exact abTru_ok (abTrs_ok abTq42 k (by omega) (by omega)) pc (Nat.zero_le _)
  by_cases h43 : k < 44
  · exact abTru_ok (abTrs_ok abTq43 k (by omega) (by omega)) pc (Nat.zero_le _)
  by_cases h44 : k < 47
  · exact abTru_ok (abTrs_ok abTq44 k (by omega) (by omega)) pc (Nat.zero_le _)
  by_cases h47 : k < 49
  · exact abTru_ok (abTrs_ok abTq47 k (by omega) (by omega)) pc (Nat.zero_le _)
  by_cases h49 : k < 54
  · exact abTru_ok (abTrs_ok abTq49 k (by omega) (by omega)) pc (Nat.zero_le _)
  by_cases h54 : k < 57
  · exact abTru_ok (abTrs_ok abTq54 k (by omega) (by omega)) pc (Nat.zero_le _)
  by_cases h57 : k < 63
  · exact abTru_ok (abTrs_ok abTq57 k (by omega) (by omega)) pc (Nat.zero_le _)
  by_cases h63 : k < 67
  · exact abTru_ok (abTrs_ok abTq63 k (by omega) (by omega)) pc (Nat.zero_le _)
  by_cases h67 : k < 70
  · exact abTru_ok (abTrs_ok abTq67 k (by omega) (by omega)) pc (Nat.zero_le _)
  by_cases h70 : k < 72
  · exact abTru_ok (abTrs_ok abTq70 k (by omega) (by omega)) pc (Nat.zero_le _)
  by_cases h72 : k < 73
  · exact abTru_ok (abTrs_ok abTq72 k (by omega) (by omega)) pc (Nat.zero_le _)
  by_cases h73 : k < 76
  · exact abTru_ok (abTrs_ok abTq73 k (by omega) (by omega)) pc (Nat.zero_le _)
  by_cases h76 : k < 80
  · exact abTru_ok (abTrs_ok abTq76 k (by omega) (by omega)) pc (Nat.zero_le _)
  by_cases h80 : k < 81
  · exact abTru_ok (abTrs_ok abTq80 k (by omega) (by omega)) pc (Nat.zero_le _)
  by_cases h81 : k < 84
  · exact abTru_ok (abTrs_ok abTq81 k (by omega) (by omega)) pc (Nat.zero_le _)
  by_cases h84 : k < 87
  · exact abTru_ok (abTrs_ok abTq84 k (by omega) (by omega)) pc (Nat.zero_le _)
  by_cases h87 : k < 90
  · exact abTru_ok (abTrs_ok abTq87 k (by omega) (by omega)) pc (Nat.zero_le _)
  by_cases h90 : k < 94
  · exact abTru_ok (abTrs_ok abTq90 k (by omega) (by omega)) pc (Nat.zero_le _)
  by_cases h94 : k < 100
  · exact abTru_ok (abTrs_ok abTq94 k (by omega) (by omega)) pc (Nat.zero_le _)
  by_cases h100 : k < 105
  · exact abTru_ok (abTrs_ok abTq100 k (by omega) (by omega)) pc (Nat.zero_le _)
  by_cases h105 : k < 106
  · exact abTru_ok (abTrs_ok abTq105 k (by omega) (by omega)) pc (Nat.zero_le _)
  by_cases h106 : k < 108
  · exact abTru_ok (abTrs_ok abTq106 k (by omega) (by omega)) pc (Nat.zero_le _)
  by_cases h108 : k < 111
  · exact abTru_ok (abTrs_ok abTq108 k (by omega) (by omega)) pc (Nat.zero_le _)
  by_cases h111 : k < 114
  · exact abTru_ok (abTrs_ok abTq111 k (by omega) (by omega)) pc (Nat.zero_le _)
  by_cases h114 : k < 117
  · exact abTru_ok (abTrs_ok abTq114 k (by omega) (by omega)) pc (Nat.zero_le _)
  by_cases h117 : k < 122
  · exact abTru_ok (abTrs_ok abTq117 k (by omega) (by omega)) pc (Nat.zero_le _)
  by_cases h122 : k < 126
  · exact abTru_ok (abTrs_ok abTq122 k (by omega) (by omega)) pc (Nat.zero_le _)
  by_cases h126 : k < 129
  · exact abTru_ok (abTrs_ok abTq126 k (by omega) (by omega)) pc (Nat.zero_le _)
  by_cases h129 : k < 133
  · exact abTru_ok (abTrs_ok abTq129 k (by omega) (by omega)) pc (Nat.zero_le _)
  by_cases h133 : k < 136
  · exact abTru_ok (abTrs_ok abTq133 k (by omega) (by omega)) pc (Nat.zero_le _)
  by_cases h136 : k < 141
  · exact abTru_ok (abTrs_ok abTq136 k (by omega) (by omega)) pc (Nat.zero_le _)
  by_cases h141 : k < 143
  · exact abTru_ok (abTrs_ok abTq141 k (by omega) (by omega)) pc (Nat.zero_le _)
  by_cases h143 : k < 145
  · exact abTru_ok (abTrs_ok abTq143 k (by omega) (by omega)) pc (Nat.zero_le _)
  by_cases h145 : k < 147
  · exact abTru_ok (abTrs_ok abTq145 k (by omega) (by omega)) pc (Nat.zero_le _)
  by_cases h147 : k < 150
  · exact abTru_ok (abTrs_ok abTq147 k (by omega) (by omega)) pc (Nat.zero_le _)
  by_cases h150 : k < 154
  · exact abTru_ok (abTrs_ok abTq150 k (by omega) (by omega)) pc (Nat.zero_le _)
  by_cases h154 : k < 157
  · exact abTru_ok (abTrs_ok abTq154 k (by omega) (by omega)) pc (Nat.zero_le _)
  by_cases h157 : k < 162
  · exact abTru_ok (abTrs_ok abTq157 k (by omega) (by omega)) pc (Nat.zero_le _)
  by_cases h162 : k < 165
  · exact abTru_ok (abTrs_ok abTq162 k (by omega) (by omega)) pc (Nat.zero_le _)
  by_cases h165 : k < 169
  · exact abTru_ok (abTrs_ok abTq165 k (by omega) (by omega)) pc (Nat.zero_le _)
  by_cases h169 : k < 171
  · exact abTru_ok (abTrs_ok abTq169 k (by omega) (by omega)) pc (Nat.zero_le _)
  by_cases h171 : k < 172
  · exact abTru_ok (abTrs_ok abTq171 k (by omega) (by omega)) pc (Nat.zero_le _)
  by_cases h172 : k < 177
  · exact abTru_ok (abTrs_ok abTq172 k (by omega) (by omega)) pc (Nat.zero_le _)
  by_cases h177 : k < 179
  · exact abTru_ok (abTrs_ok abTq177 k (by omega) (by omega)) pc (Nat.zero_le _)
  by_cases h179 : k < 180
  · exact abTru_ok (abTrs_ok abTq179 k (by omega) (by omega)) pc (Nat.zero_le _)
  by_cases h180 : k < 181
  · exact abTru_ok (abTrs_ok abTq180 k (by omega) (by omega)) pc (Nat.zero_le _)
  by_cases h181 : k < 184
  · exact abTru_ok (abTrs_ok abTq181 k (by omega) (by omega)) pc (Nat.zero_le _)
  by_cases h184 : k < 185
  · exact abTru_ok (abTrs_ok abTq184 k (by omega) (by omega)) pc (Nat.zero_le _)
  by_cases h185 : k < 187
  · exact abTru_ok (abTrs_ok abTq185 k (by omega) (by omega)) pc (Nat.zero_le _)
  by_cases h187 : k < 188
  · exact abTru_ok (abTrs_ok abTq187 k (by omega) (by omega)) pc (Nat.zero_le _)
  by_cases h188 : k < 191
  · exact abTru_ok (abTrs_ok abTq188 k (by omega) (by omega)) pc (Nat.zero_le _)
  by_cases h191 : k < 193
  · exact abTru_ok (abTrs_ok abTq191 k (by omega) (by omega)) pc (Nat.zero_le _)
  by_cases h193 : k < 195
  · exact abTru_ok (abTrs_ok abTq193 k (by omega) (by omega)) pc (Nat.zero_le _)
  by_cases h195 : k < 196
  · exact abTru_ok (abTrs_ok abTq195 k (by omega) (by omega)) pc (Nat.zero_le _)
  by_cases h196 : k < 197
  · exact abTru_ok (abTrs_ok abTq196 k (by omega) (by omega)) pc (Nat.zero_le _)
  by_cases h197 : k < 200
  · exact abTru_ok (abTrs_ok abTq197 k (by omega) (by omega)) pc (Nat.zero_le _)
  by_cases h200 : k < 201
  · exact abTru_ok (abTrs_ok abTq200 k (by omega) (by omega)) pc (Nat.zero_le _)
  by_cases h201 : k < 204
  · exact abTru_ok (abTrs_ok abTq201 k (by omega) (by omega)) pc (Nat.zero_le _)
  by_cases h204 : k < 205
  · exact abTru_ok (abTrs_ok abTq204 k (by omega) (by omega)) pc (Nat.zero_le _)
  by_cases h205 : k < 207
  · exact abTru_ok (abTrs_ok abTq205 k (by omega) (by omega)) pc (Nat.zero_le _)
  by_cases h207 : k < 211
  · exact abTru_ok (abTrs_ok abTq207 k (by omega) (by omega)) pc (Nat.zero_le _)
  by_cases h211 : k < 213
  · exact abTru_ok (abTrs_ok abTq211 k (by omega) (by omega)) pc (Nat.zero_le _)
  by_cases h213 : k < 214
  · exact abTru_ok (abTrs_ok abTq213 k (by omega) (by omega)) pc (Nat.zero_le _)
  by_cases h214 : k < 215
  · exact abTru_ok (abTrs_ok abTq214 k (by omega) (by omega)) pc (Nat.zero_le _)
  by_cases h215 : k < 216
  · exact abTru_ok (abTrs_ok abTq215 k (by omega) (by omega)) pc (Nat.zero_le _)
  by_cases h216 : k < 218
  · exact abTru_ok (abTrs_ok abTq216 k (by omega) (by omega)) pc (Nat.zero_le _)
  by_cases h218 : k < 219
  · exact abTru_ok (abTrs_ok abTq218 k (by omega) (by omega)) pc (Nat.zero_le _)
  by_cases h219 : k < 220
  · exact abTru_ok (abTrs_ok abTq219 k (by omega) (by omega)) pc (Nat.zero_le _)
  by_cases h220 : k < 222
  · exact abTru_ok (abTrs_ok abTq220 k (by omega) (by omega)) pc (Nat.zero_le _)
  by_cases h222 : k < 224
  · exact abTru_ok (abTrs_ok abTq222 k (by omega) (by omega)) pc (Nat.zero_le _)
  by_cases h224 : k < 226
  · exact abTru_ok (abTrs_ok abTq224 k (by omega) (by omega)) pc (Nat.zero_le _)
  by_cases h226 : k < 227
  · exact abTru_ok (abTrs_ok abTq226 k (by omega) (by omega)) pc (Nat.zero_le _)
  by_cases h227 : k < 228
  · exact abTru_ok (abTrs_ok abTq227 k (by omega) (by omega)) pc (Nat.zero_le _)
  by_cases h228 : k < 229
  · exact abTru_ok (abTrs_ok abTq228 k (by omega) (by omega)) pc (Nat.zero_le _)
  by_cases h229 : k < 230
  · exact abTru_ok (abTrs_ok abTq229 k (by omega) (by omega)) pc (Nat.zero_le _)
  by_cases h230 : k < 232
  · exact abTru_ok (abTrs_ok abTq230 k (by omega) (by omega)) pc (Nat.zero_le _)
  by_cases h232 : k < 233
  · exact abTru_ok (abTrs_ok abTq232 k (by omega) (by omega)) pc (Nat.zero_le _)
  by_cases h233 : k < 234
  · exact abTru_ok (abTrs_ok abTq233 k (by omega) (by omega)) pc (Nat.zero_le _)
  by_cases h234 : k < 236
  · exact abTru_ok (abTrs_ok abTq234 k (by omega) (by omega)) pc (Nat.zero_le _)
  by_cases h236 : k < 237
  · exact abTru_ok (abTrs_ok abTq236 k (by omega) (by omega)) pc (Nat.zero_le _)
  by_cases h237 : k < 238
  · exact abTru_ok (abTrs_ok abTq237 k (by omega) (by omega)) pc (Nat.zero_le _)
  by_cases h238 : k < 239
  · exact abTru_ok (abTrs_ok abTq238 k (by omega) (by omega)) pc (Nat.zero_le _)
  by_cases h239 : k < 240
  · exact abTru_ok (abTrs_ok abTq239 k (by omega) (by omega)) pc (Nat.zero_le _)
  by_cases h240 : k < 244
  · exact abTru_ok (abTrs_ok abTq240 k (by omega) (by omega)) pc (Nat.zero_le _)
  by_cases h244 : k < 246
  · exact abTru_ok (abTrs_ok abTq244 k (by omega) (by omega)) pc (Nat.zero_le _)
  by_cases h246 : k < 248
  · exact abTru_ok (abTrs_ok abTq246 k (by omega) (by omega)) pc (Nat.zero_le _)
  by_cases h248 : k < 250
  · exact abTru_ok (abTrs_ok abTq248 k (by omega) (by omega)) pc (Nat.zero_le _)
  by_cases h250 : k < 251
  · exact abTru_ok (abTrs_ok abTq250 k (by omega) (by omega)) pc (Nat.zero_le _)
  by_cases h251 : k < 254
  · exact abTru_ok (abTrs_ok abTq251 k (by omega) (by omega)) pc (Nat.zero_le _)
  by_cases h254 : k < 257
  · exact abTru_ok (abTrs_ok abTq254 k (by omega) (by omega)) pc (Nat.zero_le _)
  by_cases h257 : k < 258
  · exact abTru_ok (abTrs_ok abTq257 k (by omega) (by omega)) pc (Nat.zero_le _)
  by_cases h258 : k < 260
  · exact abTru_ok (abTrs_ok abTq258 k (by omega) (by omega)) pc (Nat.zero_le _)
  by_cases h260 : k < 261
  · exact abTru_ok (abTrs_ok abTq260 k (by omega) (by omega)) pc (Nat.zero_le _)
  by_cases h261 : k < 263
  · exact abTru_ok (abTrs_ok abTq261 k (by omega) (by omega)) pc (Nat.zero_le _)
  by_cases h263 : k < 264
  · exact abTru_ok (abTrs_ok abTq263 k (by omega) (by omega)) pc (Nat.zero_le _)
  by_cases h264 : k < 265
  · exact abTru_ok (abTrs_ok abTq264 k (by omega) (by omega)) pc (Nat.zero_le _)
  by_cases h265 : k < 268
  · exact abTru_ok (abTrs_ok abTq265 k (by omega) (by omega)) pc (Nat.zero_le _)
  by_cases h268 : k < 270
  · exact abTru_ok (abTrs_ok abTq268 k (by omega) (by omega)) pc (Nat.zero_le _)
  by_cases h270 : k < 276
  · exact abTru_ok (abTrs_ok abTq270 k (by omega) (by omega)) pc (Nat.zero_le _)
  omega
theorem abTm (pc : Nat) : abEtOk 278 ((abMe 278).2.2.2.2.2.get pc) ∧ ((abMe 278).2.2.2.2.2.get pc).1 < 88 := by
  generalize hx : ((abMe 278).2.2.2.2.2.get pc).2.1 = x
  by_cases h0 : x < 80
  · exact abTrr_ok abTm0 pc (by omega) (by omega)
  by_cases h1 : x < 160
  · exact abTrr_ok abTm1 pc (by omega) (by omega)
  by_cases h2 : x < 240
  · exact abTrr_ok abTm2 pc (by omega) (by omega)
  by_cases h3 : x < 320
  · exact abTrr_ok abTm3 pc (by omega) (by omega)
  by_cases h4 : x < 400
  · exact abTrr_ok abTm4 pc (by omega) (by omega)
  by_cases h5 : x < 480
  · exact abTrr_ok abTm5 pc (by omega) (by omega)
  by_cases h6 : x < 560
  · exact abTrr_ok abTm6 pc (by omega) (by omega)
  by_cases h7 : x < 640
  · exact abTrr_ok abTm7 pc (by omega) (by omega)
  by_cases h8 : x < 720
  · exact abTrr_ok abTm8 pc (by omega) (by omega)
  by_cases h9 : x < 800
  · exact abTrr_ok abTm9 pc (by omega) (by omega)
  by_cases h10 : x < 880
  · exact abTrr_ok abTm10 pc (by omega) (by omega)
  by_cases h11 : x < 960
  · exact abTrr_ok abTm11 pc (by omega) (by omega)
  by_cases h12 : x < 1040
  · exact abTrr_ok abTm12 pc (by omega) (by omega)
  by_cases h13 : x < 1120
  · exact abTrr_ok abTm13 pc (by omega) (by omega)
  by_cases h14 : x < 1200
  · exact abTrr_ok abTm14 pc (by omega) (by omega)
  by_cases h15 : x < 1280
  · exact abTrr_ok abTm15 pc (by omega) (by omega)
  by_cases h16 : x < 1360
  · exact abTrr_ok abTm16 pc (by omega) (by omega)
  by_cases h17 : x < 1440
  · exact abTrr_ok abTm17 pc (by omega) (by omega)
  by_cases h18 : x < 1520
  · exact abTrr_ok abTm18 pc (by omega) (by omega)
  by_cases h19 : x < 1600
  · exact abTrr_ok abTm19 pc (by omega) (by omega)
  exact abTru_ok abTmZ pc (by omega)
theorem abTabsOk : abTabs := by
  refine ⟨abMa, abTb_good, fun k pc hk hp => ?_⟩
  have hk' : k < 276 + 3 := hk
  by_cases h : k < abNM
  · exact abTent k pc h
  · have h' : ¬ k < 276 := h
    by_cases h1 : k = 276
    · subst h1
      exact abTru_ok abTl0 pc (Nat.zero_le _)
    by_cases h2 : k = 277
    · subst h2
      exact abTru_ok abTl1 pc (Nat.zero_le _)
    have h3 : k = 278 := by omega
    subst h3
    exact abTm pc
