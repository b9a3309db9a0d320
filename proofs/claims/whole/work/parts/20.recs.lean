set_option maxRecDepth 20000 in
theorem rc0 : e_rc 0 = some e_M0 := rfl
set_option maxRecDepth 20000 in
theorem rc1 : e_rc 1 = some e_M1 := rfl
set_option maxRecDepth 20000 in
theorem rc2 : e_rc 2 = some e_M2 := rfl
set_option maxRecDepth 20000 in
theorem rc3 : e_rc 3 = some e_M3 := rfl
set_option maxRecDepth 20000 in
theorem rc4 : e_rc 4 = some e_M4 := rfl
set_option maxRecDepth 20000 in
theorem rc5 : e_rc 5 = some e_M5 := rfl
set_option maxRecDepth 20000 in
theorem rc6 : e_rc 6 = some e_M6 := rfl
set_option maxRecDepth 20000 in
theorem rc7 : e_rc 7 = some e_M7 := rfl
set_option maxRecDepth 20000 in
theorem rc8 : e_rc 8 = some e_M8 := rfl
set_option maxRecDepth 20000 in
theorem rc9 : e_rc 9 = some e_M9 := rfl
set_option maxRecDepth 20000 in
theorem rc10 : e_rc 10 = some e_M10 := rfl
set_option maxRecDepth 20000 in
theorem rc11 : e_rc 11 = some e_M11 := rfl
set_option maxRecDepth 20000 in
theorem rc12 : e_rc 12 = some e_M12 := rfl
set_option maxRecDepth 20000 in
theorem rc13 : e_rc 13 = some e_M13 := rfl
set_option maxRecDepth 20000 in
theorem rc14 : e_rc 14 = some e_M14 := rfl
set_option maxRecDepth 20000 in
theorem rc15 : e_rc 15 = some e_M15 := rfl
set_option maxRecDepth 20000 in
theorem rc16 : e_rc 16 = some e_M16 := rfl
set_option maxRecDepth 20000 in
theorem rc17 : e_rc 17 = some e_M17 := rfl
set_option maxRecDepth 20000 in
theorem rc18 : e_rc 18 = some e_M18 := rfl
set_option maxRecDepth 20000 in
theorem rc19 : e_rc 19 = some e_M19 := rfl
set_option maxRecDepth 20000 in
theorem rc20 : e_rc 20 = some e_M20 := rfl
set_option maxRecDepth 20000 in
theorem rc21 : e_rc 21 = some e_M21 := rfl
set_option maxRecDepth 20000 in
theorem rc22 : e_rc 22 = some e_M22 := rfl
set_option maxRecDepth 20000 in
theorem rc23 : e_rc 23 = some e_M23 := rfl
set_option maxRecDepth 20000 in
theorem rc24 : e_rc 24 = some e_M24 := rfl
set_option maxRecDepth 20000 in
theorem rc25 : e_rc 25 = some e_M25 := rfl
set_option maxRecDepth 20000 in
theorem rc26 : e_rc 26 = some e_M26 := rfl
set_option maxRecDepth 20000 in
theorem rc27 : e_rc 27 = some e_M27 := rfl
set_option maxRecDepth 20000 in
theorem rc28 : e_rc 28 = some e_M28 := rfl
set_option maxRecDepth 20000 in
theorem rc29 : e_rc 29 = some e_M29 := rfl
set_option maxRecDepth 20000 in
theorem rc30 : e_rc 30 = some e_M30 := rfl
set_option maxRecDepth 20000 in
theorem rc31 : e_rc 31 = some e_M31 := rfl
set_option maxRecDepth 20000 in
theorem rc32 : e_rc 32 = some e_M32 := rfl
set_option maxRecDepth 20000 in
theorem rc33 : e_rc 33 = some e_M33 := rfl
set_option maxRecDepth 20000 in
theorem rc34 : e_rc 34 = some e_M34 := rfl
set_option maxRecDepth 20000 in
theorem rc35 : e_rc 35 = some e_M35 := rfl
set_option maxRecDepth 20000 in
theorem rc36 : e_rc 36 = some e_M36 := rfl
set_option maxRecDepth 20000 in
theorem rc37 : e_rc 37 = some e_M37 := rfl
set_option maxRecDepth 20000 in
theorem rc38 : e_rc 38 = some e_M38 := rfl
set_option maxRecDepth 20000 in
theorem rc39 : e_rc 39 = some e_M39 := rfl
set_option maxRecDepth 20000 in
theorem rc40 : e_rc 40 = some e_M40 := rfl
set_option maxRecDepth 20000 in
theorem rc41 : e_rc 41 = some e_M41 := rfl
set_option maxRecDepth 20000 in
theorem rc42 : e_rc 42 = some e_M42 := rfl
set_option maxRecDepth 20000 in
theorem rc43 : e_rc 43 = some e_M43 := rfl
set_option maxRecDepth 20000 in
theorem rc44 : e_rc 44 = some e_M44 := rfl
set_option maxRecDepth 20000 in
theorem rc45 : e_rc 45 = some e_M45 := rfl
set_option maxRecDepth 20000 in
theorem rc46 : e_rc 46 = some e_M46 := rfl
set_option maxRecDepth 20000 in
theorem rc47 : e_rc 47 = some e_M47 := rfl
set_option maxRecDepth 20000 in
theorem rc48 : e_rc 48 = some e_M48 := rfl
set_option maxRecDepth 20000 in
theorem rc49 : e_rc 49 = some e_M49 := rfl
set_option maxRecDepth 20000 in
theorem rc50 : e_rc 50 = some e_M50 := rfl
set_option maxRecDepth 20000 in
theorem rc51 : e_rc 51 = some e_M51 := rfl
set_option maxRecDepth 20000 in
theorem rc52 : e_rc 52 = some e_M52 := rfl
set_option maxRecDepth 20000 in
theorem rc53 : e_rc 53 = some e_M53 := rfl
set_option maxRecDepth 20000 in
theorem rc54 : e_rc 54 = some e_M54 := rfl
set_option maxRecDepth 20000 in
theorem rc55 : e_rc 55 = some e_M55 := rfl
set_option maxRecDepth 20000 in
theorem rc56 : e_rc 56 = some e_M56 := rfl
set_option maxRecDepth 20000 in
theorem rc57 : e_rc 57 = some e_M57 := rfl
set_option maxRecDepth 20000 in
theorem rc58 : e_rc 58 = some e_M58 := rfl
set_option maxRecDepth 20000 in
theorem rc59 : e_rc 59 = some e_M59 := rfl
set_option maxRecDepth 20000 in
theorem rc60 : e_rc 60 = some e_M60 := rfl
set_option maxRecDepth 20000 in
theorem rc61 : e_rc 61 = some e_M61 := rfl
set_option maxRecDepth 20000 in
theorem rc62 : e_rc 62 = some e_M62 := rfl
set_option maxRecDepth 20000 in
theorem rc63 : e_rc 63 = some e_M63 := rfl
set_option maxRecDepth 20000 in
theorem rc64 : e_rc 64 = some e_M64 := rfl
set_option maxRecDepth 20000 in
theorem rc65 : e_rc 65 = some e_M65 := rfl
set_option maxRecDepth 20000 in
theorem rc66 : e_rc 66 = some e_M66 := rfl
set_option maxRecDepth 20000 in
theorem rc67 : e_rc 67 = some e_M67 := rfl
set_option maxRecDepth 20000 in
theorem rc68 : e_rc 68 = some e_M68 := rfl
set_option maxRecDepth 20000 in
theorem rc69 : e_rc 69 = some e_M69 := rfl
set_option maxRecDepth 20000 in
theorem rc70 : e_rc 70 = some e_M70 := rfl
set_option maxRecDepth 20000 in
theorem rc71 : e_rc 71 = some e_M71 := rfl
set_option maxRecDepth 20000 in
theorem rc72 : e_rc 72 = some e_M72 := rfl
set_option maxRecDepth 20000 in
theorem rc73 : e_rc 73 = some e_M73 := rfl
set_option maxRecDepth 20000 in
theorem rc74 : e_rc 74 = some e_M74 := rfl
set_option maxRecDepth 20000 in
theorem rc75 : e_rc 75 = some e_M75 := rfl
set_option maxRecDepth 20000 in
theorem rc76 : e_rc 76 = some e_M76 := rfl
set_option maxRecDepth 20000 in
theorem rc77 : e_rc 77 = some e_M77 := rfl
set_option maxRecDepth 20000 in
theorem rc78 : e_rc 78 = some e_M78 := rfl
set_option maxRecDepth 20000 in
theorem rc79 : e_rc 79 = some e_M79 := rfl
set_option maxRecDepth 20000 in
theorem rc80 : e_rc 80 = some e_M80 := rfl
set_option maxRecDepth 20000 in
theorem rc81 : e_rc 81 = some e_M81 := rfl
set_option maxRecDepth 20000 in
theorem rc82 : e_rc 82 = some e_M82 := rfl
set_option maxRecDepth 20000 in
theorem rc83 : e_rc 83 = some e_M83 := rfl
set_option maxRecDepth 20000 in
theorem rc84 : e_rc 84 = some e_M84 := rfl
set_option maxRecDepth 20000 in
theorem rc85 : e_rc 85 = some e_M85 := rfl
set_option maxRecDepth 20000 in
theorem rc86 : e_rc 86 = some e_M86 := rfl
set_option maxRecDepth 20000 in
theorem rc87 : e_rc 87 = some e_M87 := rfl
set_option maxRecDepth 20000 in
theorem rc88 : e_rc 88 = some e_M88 := rfl
set_option maxRecDepth 20000 in
theorem rc89 : e_rc 89 = some e_M89 := rfl
set_option maxRecDepth 20000 in
theorem rc90 : e_rc 90 = some e_M90 := rfl
set_option maxRecDepth 20000 in
theorem rc91 : e_rc 91 = some e_M91 := rfl
set_option maxRecDepth 20000 in
theorem rc92 : e_rc 92 = some e_M92 := rfl
set_option maxRecDepth 20000 in
theorem rc93 : e_rc 93 = some e_M93 := rfl
set_option maxRecDepth 20000 in
theorem rc94 : e_rc 94 = some e_M94 := rfl
set_option maxRecDepth 20000 in
theorem rc95 : e_rc 95 = some e_M95 := rfl
set_option maxRecDepth 20000 in
theorem rc96 : e_rc 96 = some e_M96 := rfl
set_option maxRecDepth 20000 in
theorem rc97 : e_rc 97 = some e_M97 := rfl
set_option maxRecDepth 20000 in
theorem rc98 : e_rc 98 = some e_M98 := rfl
set_option maxRecDepth 20000 in
theorem rc99 : e_rc 99 = some e_M99 := rfl
set_option maxRecDepth 20000 in
theorem rc100 : e_rc 100 = some e_M100 := rfl
set_option maxRecDepth 20000 in
theorem rc101 : e_rc 101 = some e_M101 := rfl
set_option maxRecDepth 20000 in
theorem rc102 : e_rc 102 = some e_M102 := rfl
set_option maxRecDepth 20000 in
theorem rc103 : e_rc 103 = some e_M103 := rfl
set_option maxRecDepth 20000 in
theorem rc104 : e_rc 104 = some e_M104 := rfl
set_option maxRecDepth 20000 in
theorem rc105 : e_rc 105 = some e_M105 := rfl
set_option maxRecDepth 20000 in
theorem rc106 : e_rc 106 = some e_M106 := rfl
set_option maxRecDepth 20000 in
theorem rc107 : e_rc 107 = some e_M107 := rfl
set_option maxRecDepth 20000 in
theorem rc108 : e_rc 108 = some e_M108 := rfl
set_option maxRecDepth 20000 in
theorem rc109 : e_rc 109 = some e_M109 := rfl
set_option maxRecDepth 20000 in
theorem rc110 : e_rc 110 = some e_M110 := rfl
set_option maxRecDepth 20000 in
theorem rc111 : e_rc 111 = some e_M111 := rfl
set_option maxRecDepth 20000 in
theorem rc112 : e_rc 112 = some e_M112 := rfl
set_option maxRecDepth 20000 in
theorem rc113 : e_rc 113 = some e_M113 := rfl
set_option maxRecDepth 20000 in
theorem rc114 : e_rc 114 = some e_M114 := rfl
set_option maxRecDepth 20000 in
theorem rc115 : e_rc 115 = some e_M115 := rfl
set_option maxRecDepth 20000 in
theorem rc116 : e_rc 116 = some e_M116 := rfl
set_option maxRecDepth 20000 in
theorem rc117 : e_rc 117 = some e_M117 := rfl
set_option maxRecDepth 20000 in
theorem rc118 : e_rc 118 = some e_M118 := rfl
set_option maxRecDepth 20000 in
theorem rc119 : e_rc 119 = some e_M119 := rfl
set_option maxRecDepth 20000 in
theorem rc120 : e_rc 120 = some e_M120 := rfl
set_option maxRecDepth 20000 in
theorem rc121 : e_rc 121 = some e_M121 := rfl
set_option maxRecDepth 20000 in
theorem rc122 : e_rc 122 = some e_M122 := rfl
set_option maxRecDepth 20000 in
theorem rc123 : e_rc 123 = some e_M123 := rfl
set_option maxRecDepth 20000 in
theorem rc124 : e_rc 124 = some e_M124 := rfl
set_option maxRecDepth 20000 in
theorem rc125 : e_rc 125 = some e_M125 := rfl
set_option maxRecDepth 20000 in
theorem rc126 : e_rc 126 = some e_M126 := rfl
set_option maxRecDepth 20000 in
theorem rc127 : e_rc 127 = some e_M127 := rfl
set_option maxRecDepth 20000 in
theorem rc128 : e_rc 128 = some e_M128 := rfl
set_option maxRecDepth 20000 in
theorem rc129 : e_rc 129 = some e_M129 := rfl
set_option maxRecDepth 20000 in
theorem rc130 : e_rc 130 = some e_M130 := rfl
set_option maxRecDepth 20000 in
theorem rc131 : e_rc 131 = some e_M131 := rfl
set_option maxRecDepth 20000 in
theorem rc132 : e_rc 132 = some e_M132 := rfl
set_option maxRecDepth 20000 in
theorem rc133 : e_rc 133 = some e_M133 := rfl
set_option maxRecDepth 20000 in
theorem rc134 : e_rc 134 = some e_M134 := rfl
set_option maxRecDepth 20000 in
theorem rc135 : e_rc 135 = some e_M135 := rfl
set_option maxRecDepth 20000 in
theorem rc136 : e_rc 136 = some e_M136 := rfl
set_option maxRecDepth 20000 in
theorem rc137 : e_rc 137 = some e_M137 := rfl
set_option maxRecDepth 20000 in
theorem rc138 : e_rc 138 = some e_M138 := rfl
set_option maxRecDepth 20000 in
theorem rc139 : e_rc 139 = some e_M139 := rfl
set_option maxRecDepth 20000 in
theorem rc140 : e_rc 140 = some e_M140 := rfl
set_option maxRecDepth 20000 in
theorem rc141 : e_rc 141 = some e_M141 := rfl
set_option maxRecDepth 20000 in
theorem rc142 : e_rc 142 = some e_M142 := rfl
set_option maxRecDepth 20000 in
theorem rc143 : e_rc 143 = some e_M143 := rfl
set_option maxRecDepth 20000 in
theorem rc144 : e_rc 144 = some e_M144 := rfl
set_option maxRecDepth 20000 in
theorem rc145 : e_rc 145 = some e_M145 := rfl
set_option maxRecDepth 20000 in
theorem rc146 : e_rc 146 = some e_M146 := rfl
set_option maxRecDepth 20000 in
theorem rc147 : e_rc 147 = some e_M147 := rfl
set_option maxRecDepth 20000 in
theorem rc148 : e_rc 148 = some e_M148 := rfl
set_option maxRecDepth 20000 in
theorem rc149 : e_rc 149 = some e_M149 := rfl
set_option maxRecDepth 20000 in
theorem rc150 : e_rc 150 = some e_M150 := rfl
set_option maxRecDepth 20000 in
theorem rc151 : e_rc 151 = some e_M151 := rfl
set_option maxRecDepth 20000 in
theorem rc152 : e_rc 152 = some e_M152 := rfl
set_option maxRecDepth 20000 in
theorem rc153 : e_rc 153 = some e_M153 := rfl
set_option maxRecDepth 20000 in
theorem rc154 : e_rc 154 = some e_M154 := rfl
set_option maxRecDepth 20000 in
theorem rc155 : e_rc 155 = some e_M155 := rfl
set_option maxRecDepth 20000 in
theorem rc156 : e_rc 156 = some e_M156 := rfl
set_option maxRecDepth 20000 in
theorem rc157 : e_rc 157 = some e_M157 := rfl
set_option maxRecDepth 20000 in
theorem rc158 : e_rc 158 = some e_M158 := rfl
set_option maxRecDepth 20000 in
theorem rc159 : e_rc 159 = some e_M159 := rfl
set_option maxRecDepth 20000 in
theorem rc160 : e_rc 160 = some e_M160 := rfl
set_option maxRecDepth 20000 in
theorem rc161 : e_rc 161 = some e_M161 := rfl
set_option maxRecDepth 20000 in
theorem rc162 : e_rc 162 = some e_M162 := rfl
set_option maxRecDepth 20000 in
theorem rc163 : e_rc 163 = some e_M163 := rfl
set_option maxRecDepth 20000 in
theorem rc164 : e_rc 164 = some e_M164 := rfl
set_option maxRecDepth 20000 in
theorem rc165 : e_rc 165 = some e_M165 := rfl
set_option maxRecDepth 20000 in
theorem rc166 : e_rc 166 = some e_M166 := rfl
set_option maxRecDepth 20000 in
theorem rc167 : e_rc 167 = some e_M167 := rfl
set_option maxRecDepth 20000 in
theorem rc168 : e_rc 168 = some e_M168 := rfl
set_option maxRecDepth 20000 in
theorem rc169 : e_rc 169 = some e_M169 := rfl
set_option maxRecDepth 20000 in
theorem rc170 : e_rc 170 = some e_M170 := rfl
set_option maxRecDepth 20000 in
theorem rc171 : e_rc 171 = some e_M171 := rfl
set_option maxRecDepth 20000 in
theorem rc172 : e_rc 172 = some e_M172 := rfl
set_option maxRecDepth 20000 in
theorem rc173 : e_rc 173 = some e_M173 := rfl
set_option maxRecDepth 20000 in
theorem rc174 : e_rc 174 = some e_M174 := rfl
set_option maxRecDepth 20000 in
theorem rc175 : e_rc 175 = some e_M175 := rfl
set_option maxRecDepth 20000 in
theorem rc176 : e_rc 176 = some e_M176 := rfl
set_option maxRecDepth 20000 in
theorem rc177 : e_rc 177 = some e_M177 := rfl
set_option maxRecDepth 20000 in
theorem rc178 : e_rc 178 = some e_M178 := rfl
set_option maxRecDepth 20000 in
theorem rc179 : e_rc 179 = some e_M179 := rfl
set_option maxRecDepth 20000 in
theorem rc180 : e_rc 180 = some e_M180 := rfl
set_option maxRecDepth 20000 in
theorem rc181 : e_rc 181 = some e_M181 := rfl
set_option maxRecDepth 20000 in
theorem rc182 : e_rc 182 = some e_M182 := rfl
set_option maxRecDepth 20000 in
theorem rc183 : e_rc 183 = some e_M183 := rfl
set_option maxRecDepth 20000 in
theorem rc184 : e_rc 184 = some e_M184 := rfl
set_option maxRecDepth 20000 in
theorem rc185 : e_rc 185 = some e_M185 := rfl
set_option maxRecDepth 20000 in
theorem rc186 : e_rc 186 = some e_M186 := rfl
set_option maxRecDepth 20000 in
theorem rc187 : e_rc 187 = some e_M187 := rfl
set_option maxRecDepth 20000 in
theorem rc188 : e_rc 188 = some e_M188 := rfl
set_option maxRecDepth 20000 in
theorem rc189 : e_rc 189 = some e_M189 := rfl
set_option maxRecDepth 20000 in
theorem rc190 : e_rc 190 = some e_M190 := rfl
set_option maxRecDepth 20000 in
theorem rc191 : e_rc 191 = some e_M191 := rfl
set_option maxRecDepth 20000 in
theorem rc192 : e_rc 192 = some e_M192 := rfl
set_option maxRecDepth 20000 in
theorem rc193 : e_rc 193 = some e_M193 := rfl
set_option maxRecDepth 20000 in
theorem rc194 : e_rc 194 = some e_M194 := rfl
set_option maxRecDepth 20000 in
theorem rc195 : e_rc 195 = some e_M195 := rfl
set_option maxRecDepth 20000 in
theorem rc196 : e_rc 196 = some e_M196 := rfl
set_option maxRecDepth 20000 in
theorem rc197 : e_rc 197 = some e_M197 := rfl
set_option maxRecDepth 20000 in
theorem rc198 : e_rc 198 = some e_M198 := rfl
set_option maxRecDepth 20000 in
theorem rc199 : e_rc 199 = some e_M199 := rfl
set_option maxRecDepth 20000 in
theorem rc200 : e_rc 200 = some e_M200 := rfl
set_option maxRecDepth 20000 in
theorem rc201 : e_rc 201 = some e_M201 := rfl
set_option maxRecDepth 20000 in
theorem rc202 : e_rc 202 = some e_M202 := rfl
set_option maxRecDepth 20000 in
theorem rc203 : e_rc 203 = some e_M203 := rfl
set_option maxRecDepth 20000 in
theorem rc204 : e_rc 204 = some e_M204 := rfl
set_option maxRecDepth 20000 in
theorem rc205 : e_rc 205 = some e_M205 := rfl
set_option maxRecDepth 20000 in
theorem rc206 : e_rc 206 = some e_M206 := rfl
set_option maxRecDepth 20000 in
theorem rc207 : e_rc 207 = some e_M207 := rfl
set_option maxRecDepth 20000 in
theorem rc208 : e_rc 208 = some e_M208 := rfl
set_option maxRecDepth 20000 in
theorem rc209 : e_rc 209 = some e_M209 := rfl
set_option maxRecDepth 20000 in
theorem rc210 : e_rc 210 = some e_M210 := rfl
set_option maxRecDepth 20000 in
theorem rc211 : e_rc 211 = some e_M211 := rfl
set_option maxRecDepth 20000 in
theorem rc212 : e_rc 212 = some e_M212 := rfl
set_option maxRecDepth 20000 in
theorem rc213 : e_rc 213 = some e_M213 := rfl
set_option maxRecDepth 20000 in
theorem rc214 : e_rc 214 = some e_M214 := rfl
set_option maxRecDepth 20000 in
theorem rc215 : e_rc 215 = some e_M215 := rfl
set_option maxRecDepth 20000 in
theorem rc216 : e_rc 216 = some e_M216 := rfl
set_option maxRecDepth 20000 in
theorem rc217 : e_rc 217 = some e_M217 := rfl
set_option maxRecDepth 20000 in
theorem rc218 : e_rc 218 = some e_M218 := rfl
set_option maxRecDepth 20000 in
theorem rc219 : e_rc 219 = some e_M219 := rfl
set_option maxRecDepth 20000 in
theorem rc220 : e_rc 220 = some e_M220 := rfl
set_option maxRecDepth 20000 in
theorem rc221 : e_rc 221 = some e_M221 := rfl
set_option maxRecDepth 20000 in
theorem rc222 : e_rc 222 = some e_M222 := rfl
set_option maxRecDepth 20000 in
theorem rc223 : e_rc 223 = some e_M223 := rfl
set_option maxRecDepth 20000 in
theorem rc224 : e_rc 224 = some e_M224 := rfl
set_option maxRecDepth 20000 in
theorem rc225 : e_rc 225 = some e_M225 := rfl
set_option maxRecDepth 20000 in
theorem rc226 : e_rc 226 = some e_M226 := rfl
set_option maxRecDepth 20000 in
theorem rc227 : e_rc 227 = some e_M227 := rfl
set_option maxRecDepth 20000 in
theorem rc228 : e_rc 228 = some e_M228 := rfl
set_option maxRecDepth 20000 in
theorem rc229 : e_rc 229 = some e_M229 := rfl
set_option maxRecDepth 20000 in
theorem rc230 : e_rc 230 = some e_M230 := rfl
set_option maxRecDepth 20000 in
theorem rc231 : e_rc 231 = some e_M231 := rfl
set_option maxRecDepth 20000 in
theorem rc232 : e_rc 232 = some e_M232 := rfl
set_option maxRecDepth 20000 in
theorem rc233 : e_rc 233 = some e_M233 := rfl
set_option maxRecDepth 20000 in
theorem rc234 : e_rc 234 = some e_M234 := rfl
set_option maxRecDepth 20000 in
theorem rc235 : e_rc 235 = some e_M235 := rfl
set_option maxRecDepth 20000 in
theorem rc236 : e_rc 236 = some e_M236 := rfl
set_option maxRecDepth 20000 in
theorem rc237 : e_rc 237 = some e_M237 := rfl
set_option maxRecDepth 20000 in
theorem rc238 : e_rc 238 = some e_M238 := rfl
set_option maxRecDepth 20000 in
theorem rc239 : e_rc 239 = some e_M239 := rfl
set_option maxRecDepth 20000 in
theorem rc240 : e_rc 240 = some e_M240 := rfl
set_option maxRecDepth 20000 in
theorem rc241 : e_rc 241 = some e_M241 := rfl
set_option maxRecDepth 20000 in
theorem rc242 : e_rc 242 = some e_M242 := rfl
set_option maxRecDepth 20000 in
theorem rc243 : e_rc 243 = some e_M243 := rfl
set_option maxRecDepth 20000 in
theorem rc244 : e_rc 244 = some e_M244 := rfl
set_option maxRecDepth 20000 in
theorem rc245 : e_rc 245 = some e_M245 := rfl
set_option maxRecDepth 20000 in
theorem rc246 : e_rc 246 = some e_M246 := rfl
set_option maxRecDepth 20000 in
theorem rc247 : e_rc 247 = some e_M247 := rfl
set_option maxRecDepth 20000 in
theorem rc248 : e_rc 248 = some e_M248 := rfl
set_option maxRecDepth 20000 in
theorem rc249 : e_rc 249 = some e_M249 := rfl
set_option maxRecDepth 20000 in
theorem rc250 : e_rc 250 = some e_M250 := rfl
set_option maxRecDepth 20000 in
theorem rc251 : e_rc 251 = some e_M251 := rfl
set_option maxRecDepth 20000 in
theorem rc252 : e_rc 252 = some e_M252 := rfl
set_option maxRecDepth 20000 in
theorem rc253 : e_rc 253 = some e_M253 := rfl
set_option maxRecDepth 20000 in
theorem rc254 : e_rc 254 = some e_M254 := rfl
set_option maxRecDepth 20000 in
theorem rc255 : e_rc 255 = some e_M255 := rfl
set_option maxRecDepth 20000 in
theorem rc256 : e_rc 256 = some e_M256 := rfl
set_option maxRecDepth 20000 in
theorem rc257 : e_rc 257 = some e_M257 := rfl
set_option maxRecDepth 20000 in
theorem rc258 : e_rc 258 = some e_M258 := rfl
set_option maxRecDepth 20000 in
theorem rc259 : e_rc 259 = some e_M259 := rfl
set_option maxRecDepth 20000 in
theorem rc260 : e_rc 260 = some e_M260 := rfl
set_option maxRecDepth 20000 in
theorem rc261 : e_rc 261 = some e_M261 := rfl
set_option maxRecDepth 20000 in
theorem rc262 : e_rc 262 = some e_M262 := rfl
set_option maxRecDepth 20000 in
theorem rc263 : e_rc 263 = some e_M263 := rfl
set_option maxRecDepth 20000 in
theorem rc264 : e_rc 264 = some e_M264 := rfl
set_option maxRecDepth 20000 in
theorem rc265 : e_rc 265 = some e_M265 := rfl
set_option maxRecDepth 20000 in
theorem rc266 : e_rc 266 = some e_M266 := rfl
set_option maxRecDepth 20000 in
theorem rc267 : e_rc 267 = some e_M267 := rfl
set_option maxRecDepth 20000 in
theorem rc268 : e_rc 268 = some e_M268 := rfl
set_option maxRecDepth 20000 in
theorem rc269 : e_rc 269 = some e_M269 := rfl
set_option maxRecDepth 20000 in
theorem rc270 : e_rc 270 = some e_M270 := rfl
set_option maxRecDepth 20000 in
theorem rc271 : e_rc 271 = some e_M271 := rfl
set_option maxRecDepth 20000 in
theorem rc272 : e_rc 272 = some e_M272 := rfl
set_option maxRecDepth 20000 in
theorem rc273 : e_rc 273 = some e_M273 := rfl
set_option maxRecDepth 20000 in
theorem rc274 : e_rc 274 = some e_M274 := rfl
set_option maxRecDepth 20000 in
theorem rc275 : e_rc 275 = some e_M275 := rfl
set_option maxRecDepth 20000 in
theorem rc276 : e_rc 276 = some e_M276 := rfl
set_option maxRecDepth 20000 in
theorem rc277 : e_rc 277 = some e_M277 := rfl
set_option maxRecDepth 20000 in
theorem rc278 : e_rc 278 = some e_M278 := rfl
set_option maxRecDepth 20000 in
theorem rc279 : e_rc 279 = some e_M279 := rfl
set_option maxRecDepth 20000 in
theorem rc280 : e_rc 280 = some e_M280 := rfl
set_option maxRecDepth 20000 in
theorem rc281 : e_rc 281 = some e_M281 := rfl
set_option maxRecDepth 20000 in
theorem rc282 : e_rc 282 = some e_M282 := rfl
set_option maxRecDepth 20000 in
theorem rc283 : e_rc 283 = some e_M283 := rfl
set_option maxRecDepth 20000 in
theorem rc284 : e_rc 284 = some e_M284 := rfl
set_option maxRecDepth 20000 in
theorem rc285 : e_rc 285 = some e_M285 := rfl
set_option maxRecDepth 20000 in
theorem rc286 : e_rc 286 = some e_M286 := rfl
set_option maxRecDepth 20000 in
theorem rc287 : e_rc 287 = some e_M287 := rfl
set_option maxRecDepth 20000 in
theorem rc288 : e_rc 288 = some e_M288 := rfl
set_option maxRecDepth 20000 in
theorem rc289 : e_rc 289 = some e_M289 := rfl
set_option maxRecDepth 20000 in
theorem rc290 : e_rc 290 = some e_M290 := rfl
set_option maxRecDepth 20000 in
theorem rc291 : e_rc 291 = some e_M291 := rfl
set_option maxRecDepth 20000 in
theorem rc292 : e_rc 292 = some e_M292 := rfl
set_option maxRecDepth 20000 in
theorem rc293 : e_rc 293 = some e_M293 := rfl
set_option maxRecDepth 20000 in
theorem rc294 : e_rc 294 = some e_M294 := rfl
set_option maxRecDepth 20000 in
theorem rc295 : e_rc 295 = some e_M295 := rfl
set_option maxRecDepth 20000 in
theorem rc296 : e_rc 296 = some e_M296 := rfl
set_option maxRecDepth 20000 in
theorem rc297 : e_rc 297 = some e_M297 := rfl
set_option maxRecDepth 20000 in
theorem rc298 : e_rc 298 = some e_M298 := rfl
set_option maxRecDepth 20000 in
theorem rc299 : e_rc 299 = some e_M299 := rfl
set_option maxRecDepth 20000 in
theorem rc300 : e_rc 300 = some e_M300 := rfl
set_option maxRecDepth 20000 in
theorem rc301 : e_rc 301 = some e_M301 := rfl
set_option maxRecDepth 20000 in
theorem rc302 : e_rc 302 = some e_M302 := rfl
set_option maxRecDepth 20000 in
theorem rc303 : e_rc 303 = some e_M303 := rfl
set_option maxRecDepth 20000 in
theorem rc304 : e_rc 304 = some e_M304 := rfl
set_option maxRecDepth 20000 in
theorem rc305 : e_rc 305 = some e_M305 := rfl
set_option maxRecDepth 20000 in
theorem rc306 : e_rc 306 = some e_M306 := rfl
set_option maxRecDepth 20000 in
theorem rc307 : e_rc 307 = some e_M307 := rfl
set_option maxRecDepth 20000 in
theorem rc308 : e_rc 308 = some e_M308 := rfl
set_option maxRecDepth 20000 in
theorem rc309 : e_rc 309 = some e_M309 := rfl
set_option maxRecDepth 20000 in
theorem rc310 : e_rc 310 = some e_M310 := rfl
set_option maxRecDepth 20000 in
theorem rc311 : e_rc 311 = some e_M311 := rfl
set_option maxRecDepth 20000 in
theorem rc312 : e_rc 312 = some e_M312 := rfl
set_option maxRecDepth 20000 in
theorem rc313 : e_rc 313 = some e_M313 := rfl
set_option maxRecDepth 20000 in
theorem rc314 : e_rc 314 = some e_M314 := rfl
set_option maxRecDepth 20000 in
theorem rc315 : e_rc 315 = some e_M315 := rfl
set_option maxRecDepth 20000 in
theorem rc316 : e_rc 316 = some e_M316 := rfl
set_option maxRecDepth 20000 in
theorem rc317 : e_rc 317 = some e_M317 := rfl
set_option maxRecDepth 20000 in
theorem rc318 : e_rc 318 = some e_M318 := rfl
set_option maxRecDepth 20000 in
theorem rc319 : e_rc 319 = some e_M319 := rfl
set_option maxRecDepth 20000 in
theorem rc320 : e_rc 320 = some e_M320 := rfl
set_option maxRecDepth 20000 in
theorem rc321 : e_rc 321 = some e_M321 := rfl
set_option maxRecDepth 20000 in
theorem rc322 : e_rc 322 = some e_M322 := rfl
