/-! the words that the machine's rows need, by their places -/
def cd_mP (y : Nat) : Prop := Cond.code (cd_y y) (cd_code y).1 (cd_ml.getD y 0) (cd_mr.getD y none) ∈ cd_big
theorem cd_w0 : cd_mP 0 := cd_m 4 172 rfl rfl
theorem cd_w1 : cd_mP 1 := cd_m 3 79 rfl rfl
theorem cd_w2 : cd_mP 2 := cd_m 5 116 rfl rfl
theorem cd_w3 : cd_mP 3 := cd_m 5 125 rfl rfl
theorem cd_w4 : cd_mP 4 := cd_m 5 129 rfl rfl
theorem cd_w5 : cd_mP 5 := cd_m 4 141 rfl rfl
theorem cd_w6 : cd_mP 6 := cd_m 4 168 rfl rfl
theorem cd_w7 : cd_mP 7 := cd_m 4 78 rfl rfl
theorem cd_w8 : cd_mP 8 := cd_m 4 100 rfl rfl
theorem cd_w9 : cd_mP 9 := cd_m 4 137 rfl rfl
theorem cd_w10 : cd_mP 10 := cd_m 4 149 rfl rfl
theorem cd_w11 : cd_mP 11 := cd_m 3 15 rfl rfl
theorem cd_w12 : cd_mP 12 := cd_m 3 28 rfl rfl
theorem cd_w13 : cd_mP 13 := cd_m 3 83 rfl rfl
theorem cd_w14 : cd_mP 14 := cd_m 3 62 rfl rfl
theorem cd_w15 : cd_mP 15 := cd_m 3 37 rfl rfl
theorem cd_w16 : cd_mP 16 := cd_m 3 58 rfl rfl
theorem cd_w17 : cd_mP 17 := cd_m 5 99 rfl rfl
theorem cd_w18 : cd_mP 18 := cd_m 3 53 rfl rfl
theorem cd_w19 : cd_mP 19 := cd_m 4 199 rfl rfl
theorem cd_w20 : cd_mP 20 := cd_m 4 208 rfl rfl
theorem cd_w21 : cd_mP 21 := cd_m 4 212 rfl rfl
theorem cd_w22 : cd_mP 22 := cd_m 4 224 rfl rfl
theorem cd_w23 : cd_mP 23 := cd_m 4 232 rfl rfl
theorem cd_w24 : cd_mP 24 := cd_m 4 237 rfl rfl
theorem cd_w25 : cd_mP 25 := cd_m 5 1 rfl rfl
theorem cd_w26 : cd_mP 26 := cd_m 4 220 rfl rfl
theorem cd_w27 : cd_mP 27 := cd_m 5 45 rfl rfl
theorem cd_w28 : cd_mP 28 := cd_m 5 53 rfl rfl
theorem cd_w29 : cd_mP 29 := cd_m 5 57 rfl rfl
theorem cd_w30 : cd_mP 30 := cd_m 5 61 rfl rfl
theorem cd_w31 : cd_mP 31 := cd_m 5 24 rfl rfl
theorem cd_w32 : cd_mP 32 := cd_m 5 29 rfl rfl
theorem cd_w33 : cd_mP 33 := cd_m 5 78 rfl rfl
theorem cd_w34 : cd_mP 34 := cd_m 5 82 rfl rfl
theorem cd_w35 : cd_mP 35 := cd_m 4 216 rfl rfl
theorem cd_w36 : cd_mP 36 := cd_m 5 87 rfl rfl
theorem cd_w37 : cd_mP 37 := cd_m 4 48 rfl rfl
theorem cd_w38 : cd_mP 38 := cd_m 3 71 rfl rfl
theorem cd_w39 : cd_mP 39 := cd_m 3 200 rfl rfl
theorem cd_w40 : cd_mP 40 := cd_m 4 52 rfl rfl
theorem cd_w41 : cd_mP 41 := cd_m 3 220 rfl rfl
theorem cd_w42 : cd_mP 42 := cd_m 3 67 rfl rfl
theorem cd_w43 : cd_mP 43 := cd_m 3 232 rfl rfl
theorem cd_w44 : cd_mP 44 := cd_m 3 228 rfl rfl
theorem cd_w45 : cd_mP 45 := cd_m 4 24 rfl rfl
theorem cd_w46 : cd_mP 46 := cd_m 4 104 rfl rfl
theorem cd_w47 : cd_mP 47 := cd_m 4 20 rfl rfl
theorem cd_w48 : cd_mP 48 := cd_m 4 32 rfl rfl
theorem cd_w49 : cd_mP 49 := cd_m 3 208 rfl rfl
theorem cd_w50 : cd_mP 50 := cd_m 3 215 rfl rfl
theorem cd_w51 : cd_mP 51 := cd_m 3 236 rfl rfl
theorem cd_w52 : cd_mP 52 := cd_m 4 6 rfl rfl
theorem cd_w53 : cd_mP 53 := cd_m 4 14 rfl rfl
theorem cd_w54 : cd_mP 54 := cd_m 5 142 rfl rfl
theorem cd_w55 : cd_mP 55 := cd_m 1 98 rfl rfl
theorem cd_w56 : cd_mP 56 := cd_m 1 102 rfl rfl
theorem cd_w57 : cd_mP 57 := cd_m 1 106 rfl rfl
theorem cd_w58 : cd_mP 58 := cd_m 3 128 rfl rfl
theorem cd_w59 : cd_mP 59 := cd_m 3 136 rfl rfl
theorem cd_w60 : cd_mP 60 := cd_m 3 97 rfl rfl
theorem cd_w61 : cd_mP 61 := cd_m 3 169 rfl rfl
theorem cd_w62 : cd_mP 62 := cd_m 3 173 rfl rfl
theorem cd_w63 : cd_mP 63 := cd_m 3 178 rfl rfl
theorem cd_w64 : cd_mP 64 := cd_m 3 183 rfl rfl
theorem cd_w65 : cd_mP 65 := cd_m 4 121 rfl rfl
theorem cd_w66 : cd_mP 66 := cd_m 4 61 rfl rfl
theorem cd_w67 : cd_mP 67 := cd_m 4 116 rfl rfl
theorem cd_w68 : cd_mP 68 := cd_m 4 108 rfl rfl
theorem cd_w69 : cd_mP 69 := cd_m 4 125 rfl rfl
theorem cd_w70 : cd_mP 70 := cd_m 4 154 rfl rfl
theorem cd_w71 : cd_mP 71 := cd_m 4 158 rfl rfl
theorem cd_w72 : cd_mP 72 := cd_m 4 145 rfl rfl
theorem cd_w73 : cd_mP 73 := cd_m 4 129 rfl rfl
theorem cd_w74 : cd_mP 74 := cd_m 4 133 rfl rfl
theorem cd_w75 : cd_mP 75 := cd_m 4 82 rfl rfl
theorem cd_w76 : cd_mP 76 := cd_m 4 88 rfl rfl
theorem cd_w77 : cd_mP 77 := cd_m 4 95 rfl rfl
theorem cd_w78 : cd_mP 78 := cd_m 4 91 rfl rfl
theorem cd_w79 : cd_mP 79 := cd_m 2 118 rfl rfl
theorem cd_w80 : cd_mP 80 := cd_m 2 122 rfl rfl
theorem cd_w81 : cd_mP 81 := cd_m 2 126 rfl rfl
theorem cd_w82 : cd_mP 82 := cd_m 2 134 rfl rfl
theorem cd_w83 : cd_mP 83 := cd_m 3 41 rfl rfl
theorem cd_w84 : cd_mP 84 := cd_m 2 143 rfl rfl
theorem cd_w85 : cd_mP 85 := cd_m 3 7 rfl rfl
theorem cd_w86 : cd_mP 86 := cd_m 2 234 rfl rfl
theorem cd_w87 : cd_mP 87 := cd_m 3 11 rfl rfl
theorem cd_w88 : cd_mP 88 := cd_m 2 148 rfl rfl
theorem cd_w89 : cd_mP 89 := cd_m 2 178 rfl rfl
theorem cd_w90 : cd_mP 90 := cd_m 2 162 rfl rfl
theorem cd_w91 : cd_mP 91 := cd_m 2 169 rfl rfl
theorem cd_w92 : cd_mP 92 := cd_m 2 152 rfl rfl
theorem cd_w93 : cd_mP 93 := cd_m 2 155 rfl rfl
theorem cd_w94 : cd_mP 94 := cd_m 2 158 rfl rfl
theorem cd_w95 : cd_mP 95 := cd_m 2 165 rfl rfl
theorem cd_w96 : cd_mP 96 := cd_m 2 114 rfl rfl
theorem cd_w97 : cd_mP 97 := cd_m 3 49 rfl rfl
theorem cd_w98 : cd_mP 98 := cd_m 3 132 rfl rfl
theorem cd_w99 : cd_mP 99 := cd_m 3 45 rfl rfl
theorem cd_w100 : cd_mP 100 := cd_m 2 139 rfl rfl
theorem cd_w101 : cd_mP 101 := cd_m 3 23 rfl rfl
theorem cd_w102 : cd_mP 102 := cd_m 3 92 rfl rfl
theorem cd_w103 : cd_mP 103 := cd_m 3 102 rfl rfl
theorem cd_w104 : cd_mP 104 := cd_m 3 108 rfl rfl
theorem cd_w105 : cd_mP 105 := cd_m 3 117 rfl rfl
theorem cd_w106 : cd_mP 106 := cd_m 3 121 rfl rfl
theorem cd_w107 : cd_mP 107 := cd_m 2 174 rfl rfl
theorem cd_w108 : cd_mP 108 := cd_m 3 19 rfl rfl
theorem cd_w109 : cd_mP 109 := cd_m 2 239 rfl rfl
theorem cd_w110 : cd_mP 110 := cd_m 3 3 rfl rfl
theorem cd_w111 : cd_mP 111 := cd_m 2 230 rfl rfl
theorem cd_w112 : cd_mP 112 := cd_m 4 162 rfl rfl
theorem cd_w113 : cd_mP 113 := cd_m 4 177 rfl rfl
theorem cd_w114 : cd_mP 114 := cd_m 4 184 rfl rfl
theorem cd_w115 : cd_mP 115 := cd_m 4 188 rfl rfl
theorem cd_w116 : cd_mP 116 := cd_m 5 7 rfl rfl
theorem cd_w117 : cd_mP 117 := cd_m 5 11 rfl rfl
theorem cd_w118 : cd_mP 118 := cd_m 4 204 rfl rfl
theorem cd_w119 : cd_mP 119 := cd_m 5 16 rfl rfl
theorem cd_w120 : cd_mP 120 := cd_m 5 20 rfl rfl
theorem cd_w121 : cd_mP 121 := cd_m 4 192 rfl rfl
theorem cd_w122 : cd_mP 122 := cd_m 5 69 rfl rfl
theorem cd_w123 : cd_mP 123 := cd_m 5 41 rfl rfl
theorem cd_w124 : cd_mP 124 := cd_m 5 49 rfl rfl
theorem cd_w125 : cd_mP 125 := cd_m 5 37 rfl rfl
theorem cd_w126 : cd_mP 126 := cd_m 2 110 rfl rfl
theorem cd_w127 : cd_mP 127 := cd_m 2 130 rfl rfl
theorem cd_w128 : cd_mP 128 := cd_m 3 88 rfl rfl
theorem cd_w129 : cd_mP 129 := cd_m 3 144 rfl rfl
theorem cd_w130 : cd_mP 130 := cd_m 3 165 rfl rfl
theorem cd_w131 : cd_mP 131 := cd_m 3 188 rfl rfl
theorem cd_w132 : cd_mP 132 := cd_m 3 192 rfl rfl
theorem cd_w133 : cd_mP 133 := cd_m 3 224 rfl rfl
theorem cd_w134 : cd_mP 134 := cd_m 4 2 rfl rfl
theorem cd_w135 : cd_mP 135 := cd_m 4 10 rfl rfl
theorem cd_w136 : cd_mP 136 := cd_m 4 37 rfl rfl
theorem cd_w137 : cd_mP 137 := cd_m 4 44 rfl rfl
theorem cd_w138 : cd_mP 138 := cd_m 4 56 rfl rfl
theorem cd_w139 : cd_mP 139 := cd_m 4 70 rfl rfl
theorem cd_w140 : cd_mP 140 := cd_m 5 33 rfl rfl
theorem cd_w141 : cd_mP 141 := cd_m 5 65 rfl rfl
theorem cd_w142 : cd_mP 142 := cd_m 5 73 rfl rfl
theorem cd_w143 : cd_mP 143 := cd_m 5 91 rfl rfl
theorem cd_w144 : cd_mP 144 := cd_m 5 95 rfl rfl
theorem cd_w145 : cd_mP 145 := cd_m 5 103 rfl rfl
theorem cd_w146 : cd_mP 146 := cd_m 5 112 rfl rfl
theorem cd_w147 : cd_mP 147 := cd_m 5 121 rfl rfl
theorem cd_w148 : cd_mP 148 := cd_m 5 133 rfl rfl
theorem cd_w149 : cd_mP 149 := cd_m 5 138 rfl rfl
theorem cd_w150 : cd_mP 150 := cd_m 5 146 rfl rfl
theorem cd_w151 : cd_mP 151 := cd_m 3 196 rfl rfl
theorem cd_w152 : cd_mP 152 := cd_m 3 75 rfl rfl
theorem cd_w153 : cd_mP 153 := cd_m 4 74 rfl rfl
theorem cd_w154 : cd_mP 154 := cd_m 5 107 rfl rfl
theorem cd_w155 : cd_mP 155 := cd_m 3 148 rfl rfl
theorem cd_w156 : cd_mP 156 := cd_m 3 156 rfl rfl
theorem cd_w157 : cd_mP 157 := cd_m 3 152 rfl rfl
theorem cd_w158 : cd_mP 158 := cd_m 3 161 rfl rfl
theorem cd_w159 : cd_mP 159 := cd_m 3 31 rfl rfl
theorem cd_w160 : cd_mP 160 := cd_m 6 155 rfl rfl
theorem cd_w161 : cd_mP 161 := cd_m 6 170 rfl rfl
theorem cd_w162 : cd_mP 162 := cd_m 6 163 rfl rfl
theorem cd_w163 : cd_mP 163 := cd_m 6 159 rfl rfl
theorem cd_w164 : cd_mP 164 := cd_m 6 182 rfl rfl
theorem cd_w165 : cd_mP 165 := cd_m 6 178 rfl rfl
theorem cd_w166 : cd_mP 166 := cd_m 6 198 rfl rfl
theorem cd_w167 : cd_mP 167 := cd_m 6 194 rfl rfl
theorem cd_w168 : cd_mP 168 := cd_m 6 214 rfl rfl
theorem cd_w169 : cd_mP 169 := cd_m 6 206 rfl rfl
theorem cd_w170 : cd_mP 170 := cd_m 6 202 rfl rfl
theorem cd_w171 : cd_mP 171 := cd_m 6 174 rfl rfl
theorem cd_w172 : cd_mP 172 := cd_m 6 221 rfl rfl
theorem cd_w173 : cd_mP 173 := cd_m 6 217 rfl rfl
theorem cd_w174 : cd_mP 174 := cd_m 6 210 rfl rfl
theorem cd_w175 : cd_mP 175 := cd_m 6 190 rfl rfl
theorem cd_w176 : cd_mP 176 := cd_m 6 167 rfl rfl
theorem cd_w177 : cd_mP 177 := cd_m 5 231 rfl rfl
theorem cd_w178 : cd_mP 178 := cd_m 6 237 rfl rfl
theorem cd_w179 : cd_mP 179 := cd_m 7 11 rfl rfl
theorem cd_w180 : cd_mP 180 := cd_m 7 3 rfl rfl
theorem cd_w181 : cd_mP 181 := cd_m 7 7 rfl rfl
theorem cd_w182 : cd_mP 182 := cd_m 6 233 rfl rfl
theorem cd_w183 : cd_mP 183 := cd_m 6 229 rfl rfl
theorem cd_w184 : cd_mP 184 := cd_m 6 225 rfl rfl
theorem cd_w185 : cd_mP 185 := cd_m 7 23 rfl rfl
theorem cd_w186 : cd_mP 186 := cd_m 7 15 rfl rfl
theorem cd_w187 : cd_mP 187 := cd_m 7 19 rfl rfl
theorem cd_w188 : cd_mP 188 := cd_m 7 27 rfl rfl
theorem cd_w189 : cd_mP 189 := cd_m 7 70 rfl rfl
theorem cd_w190 : cd_mP 190 := cd_m 7 84 rfl rfl
theorem cd_w191 : cd_mP 191 := cd_m 7 62 rfl rfl
theorem cd_w192 : cd_mP 192 := cd_m 7 47 rfl rfl
theorem cd_w193 : cd_mP 193 := cd_m 7 35 rfl rfl
theorem cd_w194 : cd_mP 194 := cd_m 7 31 rfl rfl
theorem cd_w195 : cd_mP 195 := cd_m 7 43 rfl rfl
theorem cd_w196 : cd_mP 196 := cd_m 7 39 rfl rfl
theorem cd_w197 : cd_mP 197 := cd_m 7 51 rfl rfl
theorem cd_w198 : cd_mP 198 := cd_m 7 55 rfl rfl
theorem cd_w199 : cd_mP 199 := cd_m 7 66 rfl rfl
theorem cd_w200 : cd_mP 200 := cd_m 7 75 rfl rfl
theorem cd_w201 : cd_mP 201 := cd_m 7 79 rfl rfl
theorem cd_w202 : cd_mP 202 := cd_m 7 92 rfl rfl
theorem cd_w203 : cd_mP 203 := cd_m 7 88 rfl rfl
theorem cd_w204 : cd_mP 204 := cd_m 7 112 rfl rfl
theorem cd_w205 : cd_mP 205 := cd_m 7 135 rfl rfl
theorem cd_w206 : cd_mP 206 := cd_m 7 124 rfl rfl
theorem cd_w207 : cd_mP 207 := cd_m 7 120 rfl rfl
theorem cd_w208 : cd_mP 208 := cd_m 7 108 rfl rfl
theorem cd_w209 : cd_mP 209 := cd_m 7 144 rfl rfl
theorem cd_w210 : cd_mP 210 := cd_m 7 132 rfl rfl
theorem cd_w211 : cd_mP 211 := cd_m 7 140 rfl rfl
theorem cd_w212 : cd_mP 212 := cd_m 7 128 rfl rfl
theorem cd_w213 : cd_mP 213 := cd_m 7 116 rfl rfl
theorem cd_w214 : cd_mP 214 := cd_m 7 148 rfl rfl
theorem cd_w215 : cd_mP 215 := cd_m 7 104 rfl rfl
theorem cd_w216 : cd_mP 216 := cd_m 7 152 rfl rfl
theorem cd_w217 : cd_mP 217 := cd_m 7 164 rfl rfl
theorem cd_w218 : cd_mP 218 := cd_m 7 172 rfl rfl
theorem cd_w219 : cd_mP 219 := cd_m 7 156 rfl rfl
theorem cd_w220 : cd_mP 220 := cd_m 7 168 rfl rfl
theorem cd_w221 : cd_mP 221 := cd_m 7 160 rfl rfl
theorem cd_w222 : cd_mP 222 := cd_m 7 100 rfl rfl
theorem cd_w223 : cd_mP 223 := cd_m 7 96 rfl rfl
theorem cd_w224 : cd_mP 224 := cd_m 7 176 rfl rfl
theorem cd_w225 : cd_mP 225 := cd_m 7 180 rfl rfl
theorem cd_w226 : cd_mP 226 := cd_m 7 184 rfl rfl
theorem cd_w227 : cd_mP 227 := cd_m 7 188 rfl rfl
theorem cd_w228 : cd_mP 228 := cd_m 7 196 rfl rfl
theorem cd_w229 : cd_mP 229 := cd_m 7 192 rfl rfl
theorem cd_w230 : cd_mP 230 := cd_m 7 200 rfl rfl
theorem cd_w231 : cd_mP 231 := cd_m 7 204 rfl rfl
theorem cd_w232 : cd_mP 232 := cd_m 7 208 rfl rfl
theorem cd_w233 : cd_mP 233 := cd_m 7 216 rfl rfl
theorem cd_w234 : cd_mP 234 := cd_m 7 220 rfl rfl
theorem cd_w235 : cd_mP 235 := cd_m 7 212 rfl rfl
theorem cd_w236 : cd_mP 236 := cd_m 7 224 rfl rfl
theorem cd_w237 : cd_mP 237 := cd_m 7 228 rfl rfl
theorem cd_w238 : cd_mP 238 := cd_m 2 182 rfl rfl
theorem cd_w239 : cd_mP 239 := cd_m 2 192 rfl rfl
theorem cd_w240 : cd_mP 240 := cd_m 2 186 rfl rfl
theorem cd_w241 : cd_mP 241 := cd_m 2 196 rfl rfl
theorem cd_w242 : cd_mP 242 := cd_m 2 202 rfl rfl
theorem cd_w243 : cd_mP 243 := cd_m 2 199 rfl rfl
theorem cd_w244 : cd_mP 244 := cd_m 2 207 rfl rfl
theorem cd_mOK_0 : ∀ k, k < 10 → cd_mP (0 + k) := by
  intro k hk
  match k, hk with
  | 0, _ => exact cd_w0
  | 1, _ => exact cd_w1
  | 2, _ => exact cd_w2
  | 3, _ => exact cd_w3
  | 4, _ => exact cd_w4
  | 5, _ => exact cd_w5
  | 6, _ => exact cd_w6
  | 7, _ => exact cd_w7
  | 8, _ => exact cd_w8
  | 9, _ => exact cd_w9
  | k + 10, hk => exact absurd hk (by omega)
theorem cd_mOK_1 : ∀ k, k < 10 → cd_mP (10 + k) := by
  intro k hk
  match k, hk with
  | 0, _ => exact cd_w10
  | 1, _ => exact cd_w11
  | 2, _ => exact cd_w12
  | 3, _ => exact cd_w13
  | 4, _ => exact cd_w14
  | 5, _ => exact cd_w15
  | 6, _ => exact cd_w16
  | 7, _ => exact cd_w17
  | 8, _ => exact cd_w18
  | 9, _ => exact cd_w19
  | k + 10, hk => exact absurd hk (by omega)
theorem cd_mOK_2 : ∀ k, k < 10 → cd_mP (20 + k) := by
  intro k hk
  match k, hk with
  | 0, _ => exact cd_w20
  | 1, _ => exact cd_w21
  | 2, _ => exact cd_w22
  | 3, _ => exact cd_w23
  | 4, _ => exact cd_w24
  | 5, _ => exact cd_w25
  | 6, _ => exact cd_w26
  | 7, _ => exact cd_w27
  | 8, _ => exact cd_w28
  | 9, _ => exact cd_w29
  | k + 10, hk => exact absurd hk (by omega)
theorem cd_mOK_3 : ∀ k, k < 10 → cd_mP (30 + k) := by
  intro k hk
  match k, hk with
  | 0, _ => exact cd_w30
  | 1, _ => exact cd_w31
  | 2, _ => exact cd_w32
  | 3, _ => exact cd_w33
  | 4, _ => exact cd_w34
  | 5, _ => exact cd_w35
  | 6, _ => exact cd_w36
  | 7, _ => exact cd_w37
  | 8, _ => exact cd_w38
  | 9, _ => exact cd_w39
  | k + 10, hk => exact absurd hk (by omega)
theorem cd_mOK_4 : ∀ k, k < 10 → cd_mP (40 + k) := by
  intro k hk
  match k, hk with
  | 0, _ => exact cd_w40
  | 1, _ => exact cd_w41
  | 2, _ => exact cd_w42
  | 3, _ => exact cd_w43
  | 4, _ => exact cd_w44
  | 5, _ => exact cd_w45
  | 6, _ => exact cd_w46
  | 7, _ => exact cd_w47
  | 8, _ => exact cd_w48
  | 9, _ => exact cd_w49
  | k + 10, hk => exact absurd hk (by omega)
theorem cd_mOK_5 : ∀ k, k < 10 → cd_mP (50 + k) := by
  intro k hk
  match k, hk with
  | 0, _ => exact cd_w50
  | 1, _ => exact cd_w51
  | 2, _ => exact cd_w52
  | 3, _ => exact cd_w53
  | 4, _ => exact cd_w54
  | 5, _ => exact cd_w55
  | 6, _ => exact cd_w56
  | 7, _ => exact cd_w57
  | 8, _ => exact cd_w58
  | 9, _ => exact cd_w59
  | k + 10, hk => exact absurd hk (by omega)
theorem cd_mOK_6 : ∀ k, k < 10 → cd_mP (60 + k) := by
  intro k hk
  match k, hk with
  | 0, _ => exact cd_w60
  | 1, _ => exact cd_w61
  | 2, _ => exact cd_w62
  | 3, _ => exact cd_w63
  | 4, _ => exact cd_w64
  | 5, _ => exact cd_w65
  | 6, _ => exact cd_w66
  | 7, _ => exact cd_w67
  | 8, _ => exact cd_w68
  | 9, _ => exact cd_w69
  | k + 10, hk => exact absurd hk (by omega)
theorem cd_mOK_7 : ∀ k, k < 10 → cd_mP (70 + k) := by
  intro k hk
  match k, hk with
  | 0, _ => exact cd_w70
  | 1, _ => exact cd_w71
  | 2, _ => exact cd_w72
  | 3, _ => exact cd_w73
  | 4, _ => exact cd_w74
  | 5, _ => exact cd_w75
  | 6, _ => exact cd_w76
  | 7, _ => exact cd_w77
  | 8, _ => exact cd_w78
  | 9, _ => exact cd_w79
  | k + 10, hk => exact absurd hk (by omega)
theorem cd_mOK_8 : ∀ k, k < 10 → cd_mP (80 + k) := by
  intro k hk
  match k, hk with
  | 0, _ => exact cd_w80
  | 1, _ => exact cd_w81
  | 2, _ => exact cd_w82
  | 3, _ => exact cd_w83
  | 4, _ => exact cd_w84
  | 5, _ => exact cd_w85
  | 6, _ => exact cd_w86
  | 7, _ => exact cd_w87
  | 8, _ => exact cd_w88
  | 9, _ => exact cd_w89
  | k + 10, hk => exact absurd hk (by omega)
theorem cd_mOK_9 : ∀ k, k < 10 → cd_mP (90 + k) := by
  intro k hk
  match k, hk with
  | 0, _ => exact cd_w90
  | 1, _ => exact cd_w91
  | 2, _ => exact cd_w92
  | 3, _ => exact cd_w93
  | 4, _ => exact cd_w94
  | 5, _ => exact cd_w95
  | 6, _ => exact cd_w96
  | 7, _ => exact cd_w97
  | 8, _ => exact cd_w98
  | 9, _ => exact cd_w99
  | k + 10, hk => exact absurd hk (by omega)
theorem cd_mOK_10 : ∀ k, k < 10 → cd_mP (100 + k) := by
  intro k hk
  match k, hk with
  | 0, _ => exact cd_w100
  | 1, _ => exact cd_w101
  | 2, _ => exact cd_w102
  | 3, _ => exact cd_w103
  | 4, _ => exact cd_w104
  | 5, _ => exact cd_w105
  | 6, _ => exact cd_w106
  | 7, _ => exact cd_w107
  | 8, _ => exact cd_w108
  | 9, _ => exact cd_w109
  | k + 10, hk => exact absurd hk (by omega)
theorem cd_mOK_11 : ∀ k, k < 10 → cd_mP (110 + k) := by
  intro k hk
  match k, hk with
  | 0, _ => exact cd_w110
  | 1, _ => exact cd_w111
  | 2, _ => exact cd_w112
  | 3, _ => exact cd_w113
  | 4, _ => exact cd_w114
  | 5, _ => exact cd_w115
  | 6, _ => exact cd_w116
  | 7, _ => exact cd_w117
  | 8, _ => exact cd_w118
  | 9, _ => exact cd_w119
  | k + 10, hk => exact absurd hk (by omega)
theorem cd_mOK_12 : ∀ k, k < 10 → cd_mP (120 + k) := by
  intro k hk
  match k, hk with
  | 0, _ => exact cd_w120
  | 1, _ => exact cd_w121
  | 2, _ => exact cd_w122
  | 3, _ => exact cd_w123
  | 4, _ => exact cd_w124
  | 5, _ => exact cd_w125
  | 6, _ => exact cd_w126
  | 7, _ => exact cd_w127
  | 8, _ => exact cd_w128
  | 9, _ => exact cd_w129
  | k + 10, hk => exact absurd hk (by omega)
theorem cd_mOK_13 : ∀ k, k < 10 → cd_mP (130 + k) := by
  intro k hk
  match k, hk with
  | 0, _ => exact cd_w130
  | 1, _ => exact cd_w131
  | 2, _ => exact cd_w132
  | 3, _ => exact cd_w133
  | 4, _ => exact cd_w134
  | 5, _ => exact cd_w135
  | 6, _ => exact cd_w136
  | 7, _ => exact cd_w137
  | 8, _ => exact cd_w138
  | 9, _ => exact cd_w139
  | k + 10, hk => exact absurd hk (by omega)
theorem cd_mOK_14 : ∀ k, k < 10 → cd_mP (140 + k) := by
  intro k hk
  match k, hk with
  | 0, _ => exact cd_w140
  | 1, _ => exact cd_w141
  | 2, _ => exact cd_w142
  | 3, _ => exact cd_w143
  | 4, _ => exact cd_w144
  | 5, _ => exact cd_w145
  | 6, _ => exact cd_w146
  | 7, _ => exact cd_w147
  | 8, _ => exact cd_w148
  | 9, _ => exact cd_w149
  | k + 10, hk => exact absurd hk (by omega)
theorem cd_mOK_15 : ∀ k, k < 10 → cd_mP (150 + k) := by
  intro k hk
  match k, hk with
  | 0, _ => exact cd_w150
  | 1, _ => exact cd_w151
  | 2, _ => exact cd_w152
  | 3, _ => exact cd_w153
  | 4, _ => exact cd_w154
  | 5, _ => exact cd_w155
  | 6, _ => exact cd_w156
  | 7, _ => exact cd_w157
  | 8, _ => exact cd_w158
  | 9, _ => exact cd_w159
  | k + 10, hk => exact absurd hk (by omega)
theorem cd_mOK_16 : ∀ k, k < 10 → cd_mP (160 + k) := by
  intro k hk
  match k, hk with
  | 0, _ => exact cd_w160
  | 1, _ => exact cd_w161
  | 2, _ => exact cd_w162
  | 3, _ => exact cd_w163
  | 4, _ => exact cd_w164
  | 5, _ => exact cd_w165
  | 6, _ => exact cd_w166
  | 7, _ => exact cd_w167
  | 8, _ => exact cd_w168
  | 9, _ => exact cd_w169
  | k + 10, hk => exact absurd hk (by omega)
theorem cd_mOK_17 : ∀ k, k < 10 → cd_mP (170 + k) := by
  intro k hk
  match k, hk with
  | 0, _ => exact cd_w170
  | 1, _ => exact cd_w171
  | 2, _ => exact cd_w172
  | 3, _ => exact cd_w173
  | 4, _ => exact cd_w174
  | 5, _ => exact cd_w175
  | 6, _ => exact cd_w176
  | 7, _ => exact cd_w177
  | 8, _ => exact cd_w178
  | 9, _ => exact cd_w179
  | k + 10, hk => exact absurd hk (by omega)
theorem cd_mOK_18 : ∀ k, k < 10 → cd_mP (180 + k) := by
  intro k hk
  match k, hk with
  | 0, _ => exact cd_w180
  | 1, _ => exact cd_w181
  | 2, _ => exact cd_w182
  | 3, _ => exact cd_w183
  | 4, _ => exact cd_w184
  | 5, _ => exact cd_w185
  | 6, _ => exact cd_w186
  | 7, _ => exact cd_w187
  | 8, _ => exact cd_w188
  | 9, _ => exact cd_w189
  | k + 10, hk => exact absurd hk (by omega)
theorem cd_mOK_19 : ∀ k, k < 10 → cd_mP (190 + k) := by
  intro k hk
  match k, hk with
  | 0, _ => exact cd_w190
  | 1, _ => exact cd_w191
  | 2, _ => exact cd_w192
  | 3, _ => exact cd_w193
  | 4, _ => exact cd_w194
  | 5, _ => exact cd_w195
  | 6, _ => exact cd_w196
  | 7, _ => exact cd_w197
  | 8, _ => exact cd_w198
  | 9, _ => exact cd_w199
  | k + 10, hk => exact absurd hk (by omega)
theorem cd_mOK_20 : ∀ k, k < 10 → cd_mP (200 + k) := by
  intro k hk
  match k, hk with
  | 0, _ => exact cd_w200
  | 1, _ => exact cd_w201
  | 2, _ => exact cd_w202
  | 3, _ => exact cd_w203
  | 4, _ => exact cd_w204
  | 5, _ => exact cd_w205
  | 6, _ => exact cd_w206
  | 7, _ => exact cd_w207
  | 8, _ => exact cd_w208
  | 9, _ => exact cd_w209
  | k + 10, hk => exact absurd hk (by omega)
theorem cd_mOK_21 : ∀ k, k < 10 → cd_mP (210 + k) := by
  intro k hk
  match k, hk with
  | 0, _ => exact cd_w210
  | 1, _ => exact cd_w211
  | 2, _ => exact cd_w212
  | 3, _ => exact cd_w213
  | 4, _ => exact cd_w214
  | 5, _ => exact cd_w215
  | 6, _ => exact cd_w216
  | 7, _ => exact cd_w217
  | 8, _ => exact cd_w218
  | 9, _ => exact cd_w219
  | k + 10, hk => exact absurd hk (by omega)
theorem cd_mOK_22 : ∀ k, k < 10 → cd_mP (220 + k) := by
  intro k hk
  match k, hk with
  | 0, _ => exact cd_w220
  | 1, _ => exact cd_w221
  | 2, _ => exact cd_w222
  | 3, _ => exact cd_w223
  | 4, _ => exact cd_w224
  | 5, _ => exact cd_w225
  | 6, _ => exact cd_w226
  | 7, _ => exact cd_w227
  | 8, _ => exact cd_w228
  | 9, _ => exact cd_w229
  | k + 10, hk => exact absurd hk (by omega)
theorem cd_mOK_23 : ∀ k, k < 10 → cd_mP (230 + k) := by
  intro k hk
  match k, hk with
  | 0, _ => exact cd_w230
  | 1, _ => exact cd_w231
  | 2, _ => exact cd_w232
  | 3, _ => exact cd_w233
  | 4, _ => exact cd_w234
  | 5, _ => exact cd_w235
  | 6, _ => exact cd_w236
  | 7, _ => exact cd_w237
  | 8, _ => exact cd_w238
  | 9, _ => exact cd_w239
  | k + 10, hk => exact absurd hk (by omega)
theorem cd_mOK_24 : ∀ k, k < 5 → cd_mP (240 + k) := by
  intro k hk
  match k, hk with
  | 0, _ => exact cd_w240
  | 1, _ => exact cd_w241
  | 2, _ => exact cd_w242
  | 3, _ => exact cd_w243
  | 4, _ => exact cd_w244
  | k + 5, hk => exact absurd hk (by omega)
theorem cd_mOK : ∀ y, y < 245 → cd_mP y := by
  intro y hy
  by_cases h0 : y < 10
  · have h := cd_mOK_0 (y - 0) (by omega)
    rwa [show 0 + (y - 0) = y by omega] at h
  by_cases h1 : y < 20
  · have h := cd_mOK_1 (y - 10) (by omega)
    rwa [show 10 + (y - 10) = y by omega] at h
  by_cases h2 : y < 30
  · have h := cd_mOK_2 (y - 20) (by omega)
    rwa [show 20 + (y - 20) = y by omega] at h
  by_cases h3 : y < 40
  · have h := cd_mOK_3 (y - 30) (by omega)
    rwa [show 30 + (y - 30) = y by omega] at h
  by_cases h4 : y < 50
  · have h := cd_mOK_4 (y - 40) (by omega)
    rwa [show 40 + (y - 40) = y by omega] at h
  by_cases h5 : y < 60
  · have h := cd_mOK_5 (y - 50) (by omega)
    rwa [show 50 + (y - 50) = y by omega] at h
  by_cases h6 : y < 70
  · have h := cd_mOK_6 (y - 60) (by omega)
    rwa [show 60 + (y - 60) = y by omega] at h
  by_cases h7 : y < 80
  · have h := cd_mOK_7 (y - 70) (by omega)
    rwa [show 70 + (y - 70) = y by omega] at h
  by_cases h8 : y < 90
  · have h := cd_mOK_8 (y - 80) (by omega)
    rwa [show 80 + (y - 80) = y by omega] at h
  by_cases h9 : y < 100
  · have h := cd_mOK_9 (y - 90) (by omega)
    rwa [show 90 + (y - 90) = y by omega] at h
  by_cases h10 : y < 110
  · have h := cd_mOK_10 (y - 100) (by omega)
    rwa [show 100 + (y - 100) = y by omega] at h
  by_cases h11 : y < 120
  · have h := cd_mOK_11 (y - 110) (by omega)
    rwa [show 110 + (y - 110) = y by omega] at h
  by_cases h12 : y < 130
  · have h := cd_mOK_12 (y - 120) (by omega)
    rwa [show 120 + (y - 120) = y by omega] at h
  by_cases h13 : y < 140
  · have h := cd_mOK_13 (y - 130) (by omega)
    rwa [show 130 + (y - 130) = y by omega] at h
  by_cases h14 : y < 150
  · have h := cd_mOK_14 (y - 140) (by omega)
    rwa [show 140 + (y - 140) = y by omega] at h
  by_cases h15 : y < 160
  · have h := cd_mOK_15 (y - 150) (by omega)
    rwa [show 150 + (y - 150) = y by omega] at h
  by_cases h16 : y < 170
  · have h := cd_mOK_16 (y - 160) (by omega)
    rwa [show 160 + (y - 160) = y by omega] at h
  by_cases h17 : y < 180
  · have h := cd_mOK_17 (y - 170) (by omega)
    rwa [show 170 + (y - 170) = y by omega] at h
  by_cases h18 : y < 190
  · have h := cd_mOK_18 (y - 180) (by omega)
    rwa [show 180 + (y - 180) = y by omega] at h
  by_cases h19 : y < 200
  · have h := cd_mOK_19 (y - 190) (by omega)
    rwa [show 190 + (y - 190) = y by omega] at h
  by_cases h20 : y < 210
  · have h := cd_mOK_20 (y - 200) (by omega)
    rwa [show 200 + (y - 200) = y by omega] at h
  by_cases h21 : y < 220
  · have h := cd_mOK_21 (y - 210) (by omega)
    rwa [show 210 + (y - 210) = y by omega] at h
  by_cases h22 : y < 230
  · have h := cd_mOK_22 (y - 220) (by omega)
    rwa [show 220 + (y - 220) = y by omega] at h
  by_cases h23 : y < 240
  · have h := cd_mOK_23 (y - 230) (by omega)
    rwa [show 230 + (y - 230) = y by omega] at h
  by_cases h24 : y < 245
  · have h := cd_mOK_24 (y - 240) (by omega)
    rwa [show 240 + (y - 240) = y by omega] at h
  exact absurd hy (by omega)
