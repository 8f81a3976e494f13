section CkTab
/-- types of slots: ints from .. to, a long, references to cells of one of the roles -/
abbrev sTp : Type := (Int × Int) ⊕ (Unit ⊕ List Nat)
/-- a row's types: from, to (not it), type -/
abbrev sSg : Type := List (Nat × Nat × sTp)
/-- how many cells there are at the head of the loop of the law; the role of each; the kind and length of each role; the types of its slots; its cells -/
noncomputable def tNC : Nat := 293
noncomputable def tROa : Lean.RArray Nat := (.branch 146 (.branch 73 (.branch 36 (.branch 18 (.branch 9 (.branch 4 (.branch 2 (.branch 1 (.leaf 0) (.leaf 1)) (.branch 3 (.leaf 2) (.leaf 3))) (.branch 6 (.branch 5 (.leaf 4) (.leaf 5)) (.branch 7 (.leaf 6) (.branch 8 (.leaf 7) (.leaf 8))))) (.branch 13 (.branch 11 (.branch 10 (.leaf 9) (.leaf 10)) (.branch 12 (.leaf 11) (.leaf 12))) (.branch 15 (.branch 14 (.leaf 13) (.leaf 14)) (.branch 16 (.leaf 2) (.branch 17 (.leaf 3) (.leaf 4)))))) (.branch 27 (.branch 22 (.branch 20 (.branch 19 (.leaf 5) (.leaf 6)) (.branch 21 (.leaf 7) (.leaf 8))) (.branch 24 (.branch 23 (.leaf 9) (.leaf 10)) (.branch 25 (.leaf 11) (.branch 26 (.leaf 12) (.leaf 13))))) (.branch 31 (.branch 29 (.branch 28 (.leaf 14) (.leaf 15)) (.branch 30 (.leaf 16) (.leaf 17))) (.branch 33 (.branch 32 (.leaf 18) (.leaf 19)) (.branch 34 (.leaf 20) (.branch 35 (.leaf 21) (.leaf 22))))))) (.branch 54 (.branch 45 (.branch 40 (.branch 38 (.branch 37 (.leaf 23) (.leaf 24)) (.branch 39 (.leaf 25) (.leaf 26))) (.branch 42 (.branch 41 (.leaf 15) (.leaf 16)) (.branch 43 (.leaf 17) (.branch 44 (.leaf 18) (.leaf 19))))) (.branch 49 (.branch 47 (.branch 46 (.leaf 20) (.leaf 21)) (.branch 48 (.leaf 22) (.leaf 23))) (.branch 51 (.branch 50 (.leaf 24) (.leaf 25)) (.branch 52 (.leaf 26) (.branch 53 (.leaf 27) (.leaf 28)))))) (.branch 63 (.branch 58 (.branch 56 (.branch 55 (.leaf 29) (.leaf 30)) (.branch 57 (.leaf 31) (.leaf 32))) (.branch 60 (.branch 59 (.leaf 33) (.leaf 34)) (.branch 61 (.leaf 35) (.branch 62 (.leaf 36) (.leaf 37))))) (.branch 68 (.branch 65 (.branch 64 (.leaf 38) (.leaf 39)) (.branch 66 (.leaf 15) (.branch 67 (.leaf 16) (.leaf 17)))) (.branch 70 (.branch 69 (.leaf 18) (.leaf 19)) (.branch 71 (.leaf 20) (.branch 72 (.leaf 21) (.leaf 22)))))))) (.branch 109 (.branch 91 (.branch 82 (.branch 77 (.branch 75 (.branch 74 (.leaf 23) (.leaf 24)) (.branch 76 (.leaf 25) (.leaf 26))) (.branch 79 (.branch 78 (.leaf 15) (.leaf 16)) (.branch 80 (.leaf 17) (.branch 81 (.leaf 18) (.leaf 19))))) (.branch 86 (.branch 84 (.branch 83 (.leaf 20) (.leaf 21)) (.branch 85 (.leaf 22) (.leaf 23))) (.branch 88 (.branch 87 (.leaf 24) (.leaf 25)) (.branch 89 (.leaf 26) (.branch 90 (.leaf 15) (.leaf 16)))))) (.branch 100 (.branch 95 (.branch 93 (.branch 92 (.leaf 17) (.leaf 18)) (.branch 94 (.leaf 19) (.leaf 20))) (.branch 97 (.branch 96 (.leaf 21) (.leaf 22)) (.branch 98 (.leaf 23) (.branch 99 (.leaf 24) (.leaf 25))))) (.branch 104 (.branch 102 (.branch 101 (.leaf 26) (.leaf 15)) (.branch 103 (.leaf 16) (.leaf 17))) (.branch 106 (.branch 105 (.leaf 18) (.leaf 19)) (.branch 107 (.leaf 20) (.branch 108 (.leaf 21) (.leaf 22))))))) (.branch 127 (.branch 118 (.branch 113 (.branch 111 (.branch 110 (.leaf 23) (.leaf 24)) (.branch 112 (.leaf 25) (.leaf 26))) (.branch 115 (.branch 114 (.leaf 15) (.leaf 16)) (.branch 116 (.leaf 17) (.branch 117 (.leaf 18) (.leaf 19))))) (.branch 122 (.branch 120 (.branch 119 (.leaf 20) (.leaf 21)) (.branch 121 (.leaf 22) (.leaf 23))) (.branch 124 (.branch 123 (.leaf 24) (.leaf 25)) (.branch 125 (.leaf 26) (.branch 126 (.leaf 15) (.leaf 16)))))) (.branch 136 (.branch 131 (.branch 129 (.branch 128 (.leaf 17) (.leaf 18)) (.branch 130 (.leaf 19) (.leaf 20))) (.branch 133 (.branch 132 (.leaf 21) (.leaf 22)) (.branch 134 (.leaf 23) (.branch 135 (.leaf 24) (.leaf 25))))) (.branch 141 (.branch 138 (.branch 137 (.leaf 26) (.leaf 15)) (.branch 139 (.leaf 16) (.branch 140 (.leaf 17) (.leaf 18)))) (.branch 143 (.branch 142 (.leaf 19) (.leaf 20)) (.branch 144 (.leaf 21) (.branch 145 (.leaf 22) (.leaf 23))))))))) (.branch 219 (.branch 182 (.branch 164 (.branch 155 (.branch 150 (.branch 148 (.branch 147 (.leaf 24) (.leaf 25)) (.branch 149 (.leaf 26) (.leaf 15))) (.branch 152 (.branch 151 (.leaf 16) (.leaf 17)) (.branch 153 (.leaf 18) (.branch 154 (.leaf 19) (.leaf 20))))) (.branch 159 (.branch 157 (.branch 156 (.leaf 21) (.leaf 22)) (.branch 158 (.leaf 23) (.leaf 24))) (.branch 161 (.branch 160 (.leaf 25) (.leaf 26)) (.branch 162 (.leaf 15) (.branch 163 (.leaf 16) (.leaf 17)))))) (.branch 173 (.branch 168 (.branch 166 (.branch 165 (.leaf 18) (.leaf 19)) (.branch 167 (.leaf 20) (.leaf 21))) (.branch 170 (.branch 169 (.leaf 22) (.leaf 23)) (.branch 171 (.leaf 24) (.branch 172 (.leaf 25) (.leaf 26))))) (.branch 177 (.branch 175 (.branch 174 (.leaf 40) (.leaf 41)) (.branch 176 (.leaf 42) (.leaf 43))) (.branch 179 (.branch 178 (.leaf 44) (.leaf 45)) (.branch 180 (.leaf 46) (.branch 181 (.leaf 47) (.leaf 48))))))) (.branch 200 (.branch 191 (.branch 186 (.branch 184 (.branch 183 (.leaf 49) (.leaf 50)) (.branch 185 (.leaf 51) (.leaf 52))) (.branch 188 (.branch 187 (.leaf 53) (.leaf 54)) (.branch 189 (.leaf 55) (.branch 190 (.leaf 56) (.leaf 57))))) (.branch 195 (.branch 193 (.branch 192 (.leaf 58) (.leaf 59)) (.branch 194 (.leaf 15) (.leaf 16))) (.branch 197 (.branch 196 (.leaf 17) (.leaf 18)) (.branch 198 (.leaf 19) (.branch 199 (.leaf 20) (.leaf 21)))))) (.branch 209 (.branch 204 (.branch 202 (.branch 201 (.leaf 22) (.leaf 23)) (.branch 203 (.leaf 24) (.leaf 25))) (.branch 206 (.branch 205 (.leaf 26) (.leaf 60)) (.branch 207 (.leaf 61) (.branch 208 (.leaf 62) (.leaf 63))))) (.branch 214 (.branch 211 (.branch 210 (.leaf 64) (.leaf 65)) (.branch 212 (.leaf 66) (.branch 213 (.leaf 2) (.leaf 3)))) (.branch 216 (.branch 215 (.leaf 4) (.leaf 5)) (.branch 217 (.leaf 6) (.branch 218 (.leaf 7) (.leaf 8)))))))) (.branch 256 (.branch 237 (.branch 228 (.branch 223 (.branch 221 (.branch 220 (.leaf 9) (.leaf 10)) (.branch 222 (.leaf 11) (.leaf 12))) (.branch 225 (.branch 224 (.leaf 13) (.leaf 14)) (.branch 226 (.leaf 15) (.branch 227 (.leaf 16) (.leaf 17))))) (.branch 232 (.branch 230 (.branch 229 (.leaf 18) (.leaf 19)) (.branch 231 (.leaf 20) (.leaf 21))) (.branch 234 (.branch 233 (.leaf 22) (.leaf 23)) (.branch 235 (.leaf 24) (.branch 236 (.leaf 25) (.leaf 26)))))) (.branch 246 (.branch 241 (.branch 239 (.branch 238 (.leaf 67) (.leaf 68)) (.branch 240 (.leaf 69) (.leaf 70))) (.branch 243 (.branch 242 (.leaf 71) (.leaf 72)) (.branch 244 (.leaf 2) (.branch 245 (.leaf 3) (.leaf 4))))) (.branch 251 (.branch 248 (.branch 247 (.leaf 5) (.leaf 6)) (.branch 249 (.leaf 7) (.branch 250 (.leaf 8) (.leaf 9)))) (.branch 253 (.branch 252 (.leaf 10) (.leaf 11)) (.branch 254 (.leaf 12) (.branch 255 (.leaf 13) (.leaf 14))))))) (.branch 274 (.branch 265 (.branch 260 (.branch 258 (.branch 257 (.leaf 15) (.leaf 16)) (.branch 259 (.leaf 17) (.leaf 18))) (.branch 262 (.branch 261 (.leaf 19) (.leaf 20)) (.branch 263 (.leaf 21) (.branch 264 (.leaf 22) (.leaf 23))))) (.branch 269 (.branch 267 (.branch 266 (.leaf 24) (.leaf 25)) (.branch 268 (.leaf 26) (.leaf 73))) (.branch 271 (.branch 270 (.leaf 74) (.leaf 75)) (.branch 272 (.leaf 76) (.branch 273 (.leaf 77) (.leaf 78)))))) (.branch 283 (.branch 278 (.branch 276 (.branch 275 (.leaf 79) (.leaf 80)) (.branch 277 (.leaf 81) (.leaf 82))) (.branch 280 (.branch 279 (.leaf 83) (.leaf 84)) (.branch 281 (.leaf 85) (.branch 282 (.leaf 86) (.leaf 87))))) (.branch 288 (.branch 285 (.branch 284 (.leaf 88) (.leaf 89)) (.branch 286 (.leaf 90) (.branch 287 (.leaf 91) (.leaf 92)))) (.branch 290 (.branch 289 (.leaf 93) (.leaf 94)) (.branch 291 (.leaf 95) (.branch 292 (.leaf 96) (.leaf 97))))))))))
noncomputable def tKLa : Lean.RArray (Nat × Nat) := (.branch 49 (.branch 24 (.branch 12 (.branch 6 (.branch 3 (.branch 1 (.leaf (11, 20)) (.branch 2 (.leaf (64, 940)) (.leaf (5, 19)))) (.branch 4 (.leaf (65, 12)) (.branch 5 (.leaf (64, 100)) (.leaf (64, 100))))) (.branch 9 (.branch 7 (.leaf (64, 3)) (.branch 8 (.leaf (64, 3)) (.leaf (64, 3)))) (.branch 10 (.leaf (64, 3)) (.branch 11 (.leaf (64, 5)) (.leaf (64, 5)))))) (.branch 18 (.branch 15 (.branch 13 (.leaf (64, 8)) (.branch 14 (.leaf (64, 8)) (.leaf (64, 8)))) (.branch 16 (.leaf (4, 16)) (.branch 17 (.leaf (64, 14)) (.leaf (64, 14))))) (.branch 21 (.branch 19 (.leaf (64, 14)) (.branch 20 (.leaf (64, 14)) (.leaf (64, 14)))) (.branch 22 (.leaf (64, 10)) (.branch 23 (.leaf (64, 10)) (.leaf (64, 3))))))) (.branch 36 (.branch 30 (.branch 27 (.branch 25 (.leaf (64, 3)) (.branch 26 (.leaf (64, 4)) (.leaf (64, 4)))) (.branch 28 (.leaf (9, 7)) (.branch 29 (.leaf (64, 40)) (.leaf (64, 40))))) (.branch 33 (.branch 31 (.leaf (64, 40)) (.branch 32 (.leaf (64, 40)) (.leaf (9, 7)))) (.branch 34 (.leaf (64, 40)) (.branch 35 (.leaf (64, 40)) (.leaf (64, 40)))))) (.branch 42 (.branch 39 (.branch 37 (.leaf (64, 40)) (.branch 38 (.leaf (131, 2)) (.leaf (2, 4)))) (.branch 40 (.leaf (132, 8)) (.branch 41 (.leaf (10, 11)) (.leaf (65, 30))))) (.branch 45 (.branch 43 (.leaf (64, 0)) (.branch 44 (.leaf (6, 5)) (.leaf (8, 10)))) (.branch 47 (.branch 46 (.leaf (64, 40)) (.leaf (64, 40))) (.branch 48 (.leaf (64, 40)) (.leaf (64, 40)))))))) (.branch 73 (.branch 61 (.branch 55 (.branch 52 (.branch 50 (.leaf (1, 13)) (.branch 51 (.leaf (64, 100)) (.leaf (64, 42)))) (.branch 53 (.leaf (64, 12)) (.branch 54 (.leaf (64, 4)) (.leaf (64, 5))))) (.branch 58 (.branch 56 (.leaf (64, 5)) (.branch 57 (.leaf (64, 5)) (.leaf (64, 4)))) (.branch 59 (.leaf (0, 2)) (.branch 60 (.leaf (7, 12)) (.leaf (67, 100)))))) (.branch 67 (.branch 64 (.branch 62 (.leaf (64, 100)) (.branch 63 (.leaf (64, 32)) (.leaf (64, 800)))) (.branch 65 (.leaf (64, 40)) (.branch 66 (.leaf (64, 4)) (.leaf (3, 4))))) (.branch 70 (.branch 68 (.leaf (9, 7)) (.branch 69 (.leaf (64, 40)) (.leaf (64, 40)))) (.branch 71 (.leaf (64, 40)) (.branch 72 (.leaf (64, 40)) (.leaf (3, 4))))))) (.branch 85 (.branch 79 (.branch 76 (.branch 74 (.leaf (9, 7)) (.branch 75 (.leaf (64, 40)) (.leaf (64, 40)))) (.branch 77 (.leaf (64, 40)) (.branch 78 (.leaf (64, 40)) (.leaf (12, 57))))) (.branch 82 (.branch 80 (.leaf (66, 940)) (.branch 81 (.leaf (64, 871)) (.leaf (64, 401)))) (.branch 83 (.leaf (64, 160)) (.branch 84 (.leaf (65, 24)) (.leaf (65, 30)))))) (.branch 91 (.branch 88 (.branch 86 (.leaf (64, 5)) (.branch 87 (.leaf (64, 5)) (.leaf (64, 5)))) (.branch 89 (.leaf (64, 3)) (.branch 90 (.leaf (64, 2312)) (.leaf (64, 289))))) (.branch 94 (.branch 92 (.leaf (64, 4)) (.branch 93 (.leaf (64, 45)) (.leaf (67, 45)))) (.branch 96 (.branch 95 (.leaf (64, 1742)) (.leaf (65, 24))) (.branch 97 (.leaf (67, 2)) (.leaf (65, 1)))))))))
/-- x -/
noncomputable def tSg0 : sSg := [(0, 1, .inr (.inr [1])), (1, 2, .inl (.ofNat 0, .ofNat 940)), (2, 6, .inl (.negSucc 2147483647, .ofNat 2147483647)), (6, 8, .inr (.inr [2])), (8, 10, .inr (.inr [15])), (10, 12, .inr (.inr [27, 32])), (12, 13, .inr (.inr [37])), (13, 14, .inr (.inr [38])), (14, 15, .inr (.inr [40])), (15, 16, .inr (.inr [43])), (16, 17, .inr (.inr [44])), (17, 18, .inr (.inr [49])), (18, 19, .inr (.inr [58])), (19, 20, .inr (.inr [59]))]
/-- x.tape -/
noncomputable def tSg1 : sSg := [(0, 940, .inl (.negSucc 2147483647, .ofNat 2147483647))]
/-- Parish -/
noncomputable def tSg2 : sSg := [(0, 2, .inl (.ofNat 1, .ofNat 10)), (2, 3, .inl (.ofNat 0, .ofNat 4)), (3, 4, .inl (.ofNat 0, .ofNat 3)), (4, 5, .inl (.ofNat 0, .ofNat 5)), (5, 6, .inl (.ofNat 0, .ofNat 8)), (6, 7, .inl (.negSucc 2147483647, .ofNat 2147483647)), (7, 8, .inr (.inr [3])), (8, 9, .inr (.inr [4])), (9, 10, .inr (.inr [5])), (10, 11, .inr (.inr [6])), (11, 12, .inr (.inr [7])), (12, 13, .inr (.inr [8])), (13, 14, .inr (.inr [9])), (14, 15, .inr (.inr [10])), (15, 16, .inr (.inr [11])), (16, 17, .inr (.inr [12])), (17, 18, .inr (.inr [13])), (18, 19, .inr (.inr [14]))]
/-- Parish.names -/
noncomputable def tSg3 : sSg := [(0, 12, .inr (.inl ()))]
/-- Parish.cellOwner -/
noncomputable def tSg4 : sSg := [(0, 100, .inl (.negSucc 0, .ofNat 3))]
/-- Parish.cellStrip -/
noncomputable def tSg5 : sSg := [(0, 100, .inl (.negSucc 0, .ofNat 2))]
/-- Parish.stripX -/
noncomputable def tSg6 : sSg := [(0, 3, .inl (.negSucc 2147483647, .ofNat 2147483647))]
/-- Parish.stripY -/
noncomputable def tSg7 : sSg := [(0, 3, .inl (.negSucc 2147483647, .ofNat 2147483647))]
/-- Parish.stripWide -/
noncomputable def tSg8 : sSg := [(0, 3, .inl (.negSucc 2147483647, .ofNat 2147483647))]
/-- Parish.stripHigh -/
noncomputable def tSg9 : sSg := [(0, 3, .inl (.negSucc 2147483647, .ofNat 2147483647))]
/-- Parish.kindLeaves -/
noncomputable def tSg10 : sSg := [(0, 5, .inl (.negSucc 2147483647, .ofNat 2147483647))]
/-- Parish.kindLoud -/
noncomputable def tSg11 : sSg := [(0, 5, .inl (.negSucc 2147483647, .ofNat 2147483647))]
/-- Parish.windWay -/
noncomputable def tSg12 : sSg := [(0, 8, .inl (.ofNat 0, .ofNat 4))]
/-- Parish.windForce -/
noncomputable def tSg13 : sSg := [(0, 8, .inl (.ofNat 0, .ofNat 4))]
/-- Parish.windChance -/
noncomputable def tSg14 : sSg := [(0, 8, .inl (.ofNat 0, .ofNat 9))]
/-- Land -/
noncomputable def tSg15 : sSg := [(0, 1, .inl (.negSucc 2147483647, .ofNat 2147483647)), (1, 2, .inl (.ofNat 0, .ofNat 14)), (2, 5, .inl (.negSucc 2147483647, .ofNat 2147483647)), (5, 6, .inr (.inr [16])), (6, 7, .inr (.inr [17])), (7, 8, .inr (.inr [18])), (8, 9, .inr (.inr [19])), (9, 10, .inr (.inr [20])), (10, 11, .inr (.inr [21])), (11, 12, .inr (.inr [22])), (12, 13, .inr (.inr [23])), (13, 14, .inr (.inr [24])), (14, 15, .inr (.inr [25])), (15, 16, .inr (.inr [26]))]
/-- Land.kind -/
noncomputable def tSg16 : sSg := [(0, 14, .inl (.ofNat 0, .ofNat 4))]
/-- Land.x -/
noncomputable def tSg17 : sSg := [(0, 14, .inl (.ofNat 0, .ofNat 9))]
/-- Land.y -/
noncomputable def tSg18 : sSg := [(0, 14, .inl (.ofNat 0, .ofNat 9))]
/-- Land.planted -/
noncomputable def tSg19 : sSg := [(0, 14, .inl (.negSucc 2147483647, .ofNat 2147483647))]
/-- Land.voted -/
noncomputable def tSg20 : sSg := [(0, 14, .inl (.negSucc 2147483647, .ofNat 2147483647))]
/-- Land.wallRows -/
noncomputable def tSg21 : sSg := [(0, 10, .inl (.negSucc 2147483647, .ofNat 2147483647))]
/-- Land.rakedRows -/
noncomputable def tSg22 : sSg := [(0, 10, .inl (.negSucc 2147483647, .ofNat 2147483647))]
/-- Land.holder -/
noncomputable def tSg23 : sSg := [(0, 3, .inl (.negSucc 0, .ofNat 3))]
/-- Land.changes -/
noncomputable def tSg24 : sSg := [(0, 3, .inl (.negSucc 2147483647, .ofNat 2147483647))]
/-- Land.sacks -/
noncomputable def tSg25 : sSg := [(0, 4, .inl (.negSucc 2147483647, .ofNat 2147483647))]
/-- Land.allSacks -/
noncomputable def tSg26 : sSg := [(0, 4, .inl (.negSucc 2147483647, .ofNat 2147483647))]
/-- x.sentence -/
noncomputable def tSg27 : sSg := [(0, 1, .inl (.ofNat 0, .ofNat 1)), (1, 2, .inl (.negSucc 2147483647, .ofNat 2147483647)), (2, 3, .inl (.ofNat 0, .ofNat 40)), (3, 4, .inr (.inr [28])), (4, 5, .inr (.inr [29])), (5, 6, .inr (.inr [30])), (6, 7, .inr (.inr [31]))]
/-- x.sentence.step -/
noncomputable def tSg28 : sSg := [(0, 40, .inl (.negSucc 2147483647, .ofNat 2147483647))]
/-- x.sentence.sign -/
noncomputable def tSg29 : sSg := [(0, 40, .inl (.negSucc 2147483647, .ofNat 2147483647))]
/-- x.sentence.number -/
noncomputable def tSg30 : sSg := [(0, 40, .inl (.negSucc 2147483647, .ofNat 2147483647))]
/-- x.sentence.stack -/
noncomputable def tSg31 : sSg := [(0, 40, .inl (.negSucc 2147483647, .ofNat 2147483647))]
/-- x.spareSentence -/
noncomputable def tSg32 : sSg := [(0, 1, .inl (.ofNat 0, .ofNat 1)), (1, 2, .inl (.negSucc 2147483647, .ofNat 2147483647)), (2, 3, .inl (.ofNat 0, .ofNat 40)), (3, 4, .inr (.inr [33])), (4, 5, .inr (.inr [34])), (5, 6, .inr (.inr [35])), (6, 7, .inr (.inr [36]))]
/-- x.spareSentence.step -/
noncomputable def tSg33 : sSg := [(0, 40, .inl (.negSucc 2147483647, .ofNat 2147483647))]
/-- x.spareSentence.sign -/
noncomputable def tSg34 : sSg := [(0, 40, .inl (.negSucc 2147483647, .ofNat 2147483647))]
/-- x.spareSentence.number -/
noncomputable def tSg35 : sSg := [(0, 40, .inl (.negSucc 2147483647, .ofNat 2147483647))]
/-- x.spareSentence.stack -/
noncomputable def tSg36 : sSg := [(0, 40, .inl (.negSucc 2147483647, .ofNat 2147483647))]
/-- x.images -/
noncomputable def tSg37 : sSg := [(0, 1, .inr (.inr [66])), (1, 2, .inr (.inr [72]))]
/-- x.history -/
noncomputable def tSg38 : sSg := [(0, 1, .inr (.inr [39])), (1, 2, .inr (.inr [15])), (2, 3, .inl (.ofNat 0, .ofNat 7)), (3, 4, .inl (.ofNat 0, .ofNat 8))]
/-- x.history.kept -/
noncomputable def tSg39 : sSg := [(0, 8, .inr (.inr [15]))]
/-- x.tokens -/
noncomputable def tSg40 : sSg := [(0, 1, .inr (.inr [41])), (1, 2, .inr (.inr [1, 42])), (2, 3, .inl (.ofNat 0, .ofNat 940)), (3, 4, .inl (.negSucc 2147483647, .ofNat 2147483647)), (4, 5, .inl (.ofNat 0, .ofNat 940)), (5, 8, .inl (.negSucc 2147483647, .ofNat 2147483647)), (8, 9, .inr (.inl ())), (9, 10, .inl (.ofNat 0, .ofNat 4)), (10, 11, .inl (.negSucc 2147483647, .ofNat 2147483647))]
/-- x.tokens.codes -/
noncomputable def tSg41 : sSg := [(0, 30, .inr (.inl ()))]
/-- x.tokens.bytes -/
noncomputable def tSg42 : sSg := [(0, 0, .inl (.negSucc 2147483647, .ofNat 2147483647))]
/-- x.reader -/
noncomputable def tSg43 : sSg := [(0, 1, .inr (.inr [40])), (1, 2, .inr (.inr [2])), (2, 3, .inr (.inr [15])), (3, 4, .inl (.ofNat 0, .ofNat 1)), (4, 5, .inl (.negSucc 2147483647, .ofNat 2147483647))]
/-- x.lines -/
noncomputable def tSg44 : sSg := [(0, 1, .inl (.ofNat 0, .ofNat 1)), (1, 5, .inl (.negSucc 2147483647, .ofNat 2147483647)), (5, 6, .inl (.ofNat 0, .ofNat 40)), (6, 7, .inr (.inr [45])), (7, 8, .inr (.inr [46])), (8, 9, .inr (.inr [47])), (9, 10, .inr (.inr [48]))]
/-- x.lines.deed -/
noncomputable def tSg45 : sSg := [(0, 40, .inl (.negSucc 2147483647, .ofNat 2147483647))]
/-- x.lines.one -/
noncomputable def tSg46 : sSg := [(0, 40, .inl (.negSucc 2147483647, .ofNat 2147483647))]
/-- x.lines.two -/
noncomputable def tSg47 : sSg := [(0, 40, .inl (.negSucc 2147483647, .ofNat 2147483647))]
/-- x.lines.three -/
noncomputable def tSg48 : sSg := [(0, 40, .inl (.negSucc 2147483647, .ofNat 2147483647))]
/-- x.fall -/
noncomputable def tSg49 : sSg := [(0, 1, .inr (.inr [50])), (1, 2, .inr (.inr [51])), (2, 3, .inr (.inr [52])), (3, 4, .inr (.inr [53])), (4, 5, .inl (.negSucc 2147483647, .ofNat 2147483647)), (5, 6, .inr (.inr [2])), (6, 7, .inr (.inr [15])), (7, 9, .inl (.ofNat 0, .ofNat 4)), (9, 10, .inr (.inr [54])), (10, 11, .inr (.inr [55])), (11, 12, .inr (.inr [56])), (12, 13, .inr (.inr [57]))]
/-- x.fall.fallen -/
noncomputable def tSg50 : sSg := [(0, 100, .inl (.negSucc 2147483647, .ofNat 2147483647))]
/-- x.fall.vote -/
noncomputable def tSg51 : sSg := [(0, 42, .inl (.negSucc 0, .ofNat 3))]
/-- x.fall.voices -/
noncomputable def tSg52 : sSg := [(0, 12, .inl (.negSucc 2147483647, .ofNat 2147483647))]
/-- x.fall.sacks -/
noncomputable def tSg53 : sSg := [(0, 4, .inl (.negSucc 2147483647, .ofNat 2147483647))]
/-- x.fall.spot -/
noncomputable def tSg54 : sSg := [(0, 5, .inl (.negSucc 0, .ofNat 99))]
/-- x.fall.load -/
noncomputable def tSg55 : sSg := [(0, 5, .inl (.negSucc 2147483647, .ofNat 2147483647))]
/-- x.fall.counted -/
noncomputable def tSg56 : sSg := [(0, 5, .inl (.negSucc 0, .ofNat 3))]
/-- x.fall.tally -/
noncomputable def tSg57 : sSg := [(0, 4, .inl (.negSucc 2147483647, .ofNat 2147483647))]
/-- x.acts -/
noncomputable def tSg58 : sSg := [(0, 1, .inr (.inr [49])), (1, 2, .inl (.negSucc 2147483647, .ofNat 2147483647))]
/-- x.planner -/
noncomputable def tSg59 : sSg := [(0, 1, .inl (.negSucc 2147483647, .ofNat 2147483647)), (1, 2, .inr (.inr [49])), (2, 3, .inr (.inr [2])), (3, 4, .inr (.inr [15])), (4, 5, .inl (.ofNat 0, .ofNat 2)), (5, 6, .inl (.negSucc 2147483647, .ofNat 2147483647)), (6, 7, .inr (.inr [60])), (7, 8, .inr (.inr [61])), (8, 9, .inr (.inr [62])), (9, 10, .inr (.inr [63])), (10, 11, .inr (.inr [64])), (11, 12, .inr (.inr [65]))]
/-- x.planner.free -/
noncomputable def tSg60 : sSg := [(0, 100, .inl (.ofNat 0, .ofNat 1))]
/-- x.planner.scores -/
noncomputable def tSg61 : sSg := [(0, 100, .inl (.negSucc 2147483647, .ofNat 2147483647))]
/-- x.planner.voices -/
noncomputable def tSg62 : sSg := [(0, 32, .inl (.negSucc 2147483647, .ofNat 2147483647))]
/-- x.planner.ballots -/
noncomputable def tSg63 : sSg := [(0, 800, .inl (.ofNat 0, .ofNat 4))]
/-- x.planner.heirs -/
noncomputable def tSg64 : sSg := [(0, 40, .inl (.negSucc 2147483647, .ofNat 2147483647))]
/-- x.planner.row -/
noncomputable def tSg65 : sSg := [(0, 4, .inl (.negSucc 2147483647, .ofNat 2147483647))]
/-- x.images[0] -/
noncomputable def tSg66 : sSg := [(0, 1, .inl (.ofNat 0, .ofNat 1)), (1, 2, .inr (.inr [2])), (2, 3, .inr (.inr [15])), (3, 4, .inr (.inr [67]))]
/-- x.images[0].sentence -/
noncomputable def tSg67 : sSg := [(0, 1, .inl (.ofNat 0, .ofNat 1)), (1, 2, .inl (.negSucc 2147483647, .ofNat 2147483647)), (2, 3, .inl (.ofNat 0, .ofNat 40)), (3, 4, .inr (.inr [68])), (4, 5, .inr (.inr [69])), (5, 6, .inr (.inr [70])), (6, 7, .inr (.inr [71]))]
/-- x.images[0].sentence.step -/
noncomputable def tSg68 : sSg := [(0, 40, .inl (.negSucc 2147483647, .ofNat 2147483647))]
/-- x.images[0].sentence.sign -/
noncomputable def tSg69 : sSg := [(0, 40, .inl (.negSucc 2147483647, .ofNat 2147483647))]
/-- x.images[0].sentence.number -/
noncomputable def tSg70 : sSg := [(0, 40, .inl (.negSucc 2147483647, .ofNat 2147483647))]
/-- x.images[0].sentence.stack -/
noncomputable def tSg71 : sSg := [(0, 40, .inl (.negSucc 2147483647, .ofNat 2147483647))]
/-- x.images[1] -/
noncomputable def tSg72 : sSg := [(0, 1, .inl (.ofNat 0, .ofNat 1)), (1, 2, .inr (.inr [2])), (2, 3, .inr (.inr [15])), (3, 4, .inr (.inr [73]))]
/-- x.images[1].sentence -/
noncomputable def tSg73 : sSg := [(0, 1, .inl (.ofNat 0, .ofNat 1)), (1, 2, .inl (.negSucc 2147483647, .ofNat 2147483647)), (2, 3, .inl (.ofNat 0, .ofNat 40)), (3, 4, .inr (.inr [74])), (4, 5, .inr (.inr [75])), (5, 6, .inr (.inr [76])), (6, 7, .inr (.inr [77]))]
/-- x.images[1].sentence.step -/
noncomputable def tSg74 : sSg := [(0, 40, .inl (.negSucc 2147483647, .ofNat 2147483647))]
/-- x.images[1].sentence.sign -/
noncomputable def tSg75 : sSg := [(0, 40, .inl (.negSucc 2147483647, .ofNat 2147483647))]
/-- x.images[1].sentence.number -/
noncomputable def tSg76 : sSg := [(0, 40, .inl (.negSucc 2147483647, .ofNat 2147483647))]
/-- x.images[1].sentence.stack -/
noncomputable def tSg77 : sSg := [(0, 40, .inl (.negSucc 2147483647, .ofNat 2147483647))]
/-- m -/
noncomputable def tSg78 : sSg := [(0, 1, .inl (.negSucc 2147483647, .ofNat 2147483647)), (1, 2, .inr (.inr [79])), (2, 6, .inl (.ofNat 0, .ofNat 940)), (6, 7, .inr (.inr [80])), (7, 8, .inr (.inr [81])), (8, 9, .inr (.inr [82])), (9, 10, .inr (.inr [83])), (10, 11, .inr (.inr [84])), (11, 12, .inl (.negSucc 2147483647, .ofNat 2147483647)), (12, 13, .inl (.ofNat 0, .ofNat 940)), (13, 17, .inl (.negSucc 2147483647, .ofNat 2147483647)), (17, 18, .inr (.inl ())), (18, 20, .inl (.negSucc 2147483647, .ofNat 2147483647)), (20, 21, .inl (.ofNat 0, .ofNat 8)), (21, 22, .inl (.negSucc 0, .ofNat 4)), (22, 24, .inl (.ofNat 0, .ofNat 9)), (24, 26, .inl (.ofNat 0, .ofNat 10)), (26, 27, .inl (.ofNat 0, .ofNat 1)), (27, 28, .inl (.negSucc 0, .ofNat 13)), (28, 29, .inl (.ofNat 0, .ofNat 21)), (29, 30, .inr (.inr [85])), (30, 31, .inr (.inr [86])), (31, 32, .inr (.inr [87])), (32, 33, .inl (.negSucc 2147483647, .ofNat 2147483647)), (33, 34, .inr (.inr [88])), (34, 35, .inr (.inr [89])), (35, 36, .inr (.inr [90])), (36, 37, .inl (.ofNat 0, .ofNat 8)), (37, 39, .inl (.negSucc 2147483647, .ofNat 2147483647)), (39, 41, .inl (.ofNat 0, .ofNat 1)), (41, 42, .inl (.negSucc 2147483647, .ofNat 2147483647)), (42, 43, .inl (.ofNat 0, .ofNat 1)), (43, 44, .inl (.negSucc 2147483647, .ofNat 2147483647)), (44, 45, .inl (.ofNat 0, .ofNat 40)), (45, 46, .inr (.inr [91])), (46, 47, .inl (.ofNat 0, .ofNat 1)), (47, 48, .inr (.inr [92])), (48, 49, .inl (.ofNat 0, .ofNat 53)), (49, 50, .inl (.ofNat 0, .ofNat 20)), (50, 51, .inl (.ofNat 0, .ofNat 45)), (51, 52, .inl (.negSucc 2147483647, .ofNat 2147483647)), (52, 53, .inl (.ofNat 0, .ofNat 1)), (53, 54, .inr (.inr [93])), (54, 55, .inr (.inr [94])), (55, 56, .inr (.inr [95])), (56, 57, .inr (.inr [96]))]
/-- m.tape -/
noncomputable def tSg79 : sSg := [(0, 940, .inl (.negSucc 127, .ofNat 127))]
/-- m.s -/
noncomputable def tSg80 : sSg := [(0, 2, .inl (.ofNat 1, .ofNat 10)), (2, 3, .inl (.ofNat 0, .ofNat 4)), (3, 4, .inl (.ofNat 0, .ofNat 3)), (4, 5, .inl (.ofNat 0, .ofNat 5)), (5, 6, .inl (.ofNat 0, .ofNat 14)), (6, 7, .inl (.ofNat 0, .ofNat 8)), (7, 107, .inl (.ofNat 0, .ofNat 4)), (107, 207, .inl (.ofNat 0, .ofNat 3)), (207, 219, .inl (.ofNat 0, .ofNat 10)), (219, 224, .inl (.ofNat 0, .ofNat 12)), (224, 229, .inl (.ofNat 0, .ofNat 9)), (229, 234, .inl (.ofNat 0, .ofNat 1)), (234, 250, .inl (.ofNat 0, .ofNat 4)), (250, 258, .inl (.ofNat 0, .ofNat 9)), (258, 272, .inl (.ofNat 0, .ofNat 4)), (272, 300, .inl (.ofNat 0, .ofNat 9)), (300, 400, .inl (.ofNat 0, .ofNat 1)), (400, 401, .inl (.ofNat 0, .ofNat 10)), (401, 402, .inl (.ofNat 0, .ofNat 199)), (402, 403, .inl (.ofNat 0, .ofNat 14)), (403, 405, .inl (.negSucc 2147483647, .ofNat 2147483647)), (405, 419, .inl (.ofNat 0, .ofNat 4)), (419, 447, .inl (.ofNat 0, .ofNat 9)), (447, 448, .inl (.negSucc 2147483647, .ofNat 2147483647)), (448, 462, .inl (.ofNat 0, .ofNat 200)), (462, 476, .inl (.negSucc 2147483647, .ofNat 2147483647)), (476, 479, .inl (.ofNat 0, .ofNat 4)), (479, 690, .inl (.negSucc 2147483647, .ofNat 2147483647)), (690, 691, .inl (.ofNat 0, .ofNat 53)), (691, 871, .inl (.negSucc 2147483647, .ofNat 2147483647))]
/-- m.h -/
noncomputable def tSg81 : sSg := [(0, 2, .inl (.ofNat 0, .ofNat 10)), (2, 3, .inl (.ofNat 0, .ofNat 4)), (3, 4, .inl (.ofNat 0, .ofNat 3)), (4, 5, .inl (.ofNat 0, .ofNat 5)), (5, 6, .inl (.ofNat 0, .ofNat 14)), (6, 7, .inl (.ofNat 0, .ofNat 8)), (7, 107, .inl (.ofNat 0, .ofNat 4)), (107, 207, .inl (.ofNat 0, .ofNat 3)), (207, 219, .inl (.ofNat 0, .ofNat 10)), (219, 224, .inl (.ofNat 0, .ofNat 12)), (224, 229, .inl (.ofNat 0, .ofNat 9)), (229, 234, .inl (.ofNat 0, .ofNat 1)), (234, 250, .inl (.ofNat 0, .ofNat 4)), (250, 258, .inl (.ofNat 0, .ofNat 9)), (258, 272, .inl (.ofNat 0, .ofNat 4)), (272, 300, .inl (.ofNat 0, .ofNat 9)), (300, 400, .inl (.ofNat 0, .ofNat 1)), (400, 401, .inl (.ofNat 0, .ofNat 10))]
/-- m.read -/
noncomputable def tSg82 : sSg := [(0, 160, .inl (.negSucc 2147483647, .ofNat 2147483647))]
/-- m.names -/
noncomputable def tSg83 : sSg := [(0, 24, .inr (.inl ()))]
/-- m.reserved -/
noncomputable def tSg84 : sSg := [(0, 30, .inr (.inl ()))]
/-- m.counts -/
noncomputable def tSg85 : sSg := [(0, 5, .inl (.negSucc 2147483647, .ofNat 2147483647))]
/-- m.voices -/
noncomputable def tSg86 : sSg := [(0, 5, .inl (.negSucc 2147483647, .ofNat 2147483647))]
/-- m.sacks -/
noncomputable def tSg87 : sSg := [(0, 5, .inl (.negSucc 2147483647, .ofNat 2147483647))]
/-- m.heldThen -/
noncomputable def tSg88 : sSg := [(0, 3, .inl (.ofNat 0, .ofNat 4))]
/-- m.undone -/
noncomputable def tSg89 : sSg := [(0, 1, .inl (.ofNat 0, .ofNat 199)), (1, 2, .inl (.ofNat 0, .ofNat 14)), (2, 4, .inl (.negSucc 2147483647, .ofNat 2147483647)), (4, 18, .inl (.ofNat 0, .ofNat 4)), (18, 46, .inl (.ofNat 0, .ofNat 9)), (46, 47, .inl (.negSucc 2147483647, .ofNat 2147483647)), (47, 61, .inl (.ofNat 0, .ofNat 200)), (61, 75, .inl (.negSucc 2147483647, .ofNat 2147483647)), (75, 78, .inl (.ofNat 0, .ofNat 4)), (78, 289, .inl (.negSucc 2147483647, .ofNat 2147483647)), (289, 290, .inl (.ofNat 0, .ofNat 199)), (290, 291, .inl (.ofNat 0, .ofNat 14)), (291, 293, .inl (.negSucc 2147483647, .ofNat 2147483647)), (293, 307, .inl (.ofNat 0, .ofNat 4)), (307, 335, .inl (.ofNat 0, .ofNat 9)), (335, 336, .inl (.negSucc 2147483647, .ofNat 2147483647)), (336, 350, .inl (.ofNat 0, .ofNat 200)), (350, 364, .inl (.negSucc 2147483647, .ofNat 2147483647)), (364, 367, .inl (.ofNat 0, .ofNat 4)), (367, 578, .inl (.negSucc 2147483647, .ofNat 2147483647)), (578, 579, .inl (.ofNat 0, .ofNat 199)), (579, 580, .inl (.ofNat 0, .ofNat 14)), (580, 582, .inl (.negSucc 2147483647, .ofNat 2147483647)), (582, 596, .inl (.ofNat 0, .ofNat 4)), (596, 624, .inl (.ofNat 0, .ofNat 9)), (624, 625, .inl (.negSucc 2147483647, .ofNat 2147483647)), (625, 639, .inl (.ofNat 0, .ofNat 200)), (639, 653, .inl (.negSucc 2147483647, .ofNat 2147483647)), (653, 656, .inl (.ofNat 0, .ofNat 4)), (656, 867, .inl (.negSucc 2147483647, .ofNat 2147483647)), (867, 868, .inl (.ofNat 0, .ofNat 199)), (868, 869, .inl (.ofNat 0, .ofNat 14)), (869, 871, .inl (.negSucc 2147483647, .ofNat 2147483647)), (871, 885, .inl (.ofNat 0, .ofNat 4)), (885, 913, .inl (.ofNat 0, .ofNat 9)), (913, 914, .inl (.negSucc 2147483647, .ofNat 2147483647)), (914, 928, .inl (.ofNat 0, .ofNat 200)), (928, 942, .inl (.negSucc 2147483647, .ofNat 2147483647)), (942, 945, .inl (.ofNat 0, .ofNat 4)), (945, 1156, .inl (.negSucc 2147483647, .ofNat 2147483647)), (1156, 1157, .inl (.ofNat 0, .ofNat 199)), (1157, 1158, .inl (.ofNat 0, .ofNat 14)), (1158, 1160, .inl (.negSucc 2147483647, .ofNat 2147483647)), (1160, 1174, .inl (.ofNat 0, .ofNat 4)), (1174, 1202, .inl (.ofNat 0, .ofNat 9)), (1202, 1203, .inl (.negSucc 2147483647, .ofNat 2147483647)), (1203, 1217, .inl (.ofNat 0, .ofNat 200)), (1217, 1231, .inl (.negSucc 2147483647, .ofNat 2147483647)), (1231, 1234, .inl (.ofNat 0, .ofNat 4)), (1234, 1445, .inl (.negSucc 2147483647, .ofNat 2147483647)), (1445, 1446, .inl (.ofNat 0, .ofNat 199)), (1446, 1447, .inl (.ofNat 0, .ofNat 14)), (1447, 1449, .inl (.negSucc 2147483647, .ofNat 2147483647)), (1449, 1463, .inl (.ofNat 0, .ofNat 4)), (1463, 1491, .inl (.ofNat 0, .ofNat 9)), (1491, 1492, .inl (.negSucc 2147483647, .ofNat 2147483647)), (1492, 1506, .inl (.ofNat 0, .ofNat 200)), (1506, 1520, .inl (.negSucc 2147483647, .ofNat 2147483647)), (1520, 1523, .inl (.ofNat 0, .ofNat 4)), (1523, 1734, .inl (.negSucc 2147483647, .ofNat 2147483647)), (1734, 1735, .inl (.ofNat 0, .ofNat 199)), (1735, 1736, .inl (.ofNat 0, .ofNat 14)), (1736, 1738, .inl (.negSucc 2147483647, .ofNat 2147483647)), (1738, 1752, .inl (.ofNat 0, .ofNat 4)), (1752, 1780, .inl (.ofNat 0, .ofNat 9)), (1780, 1781, .inl (.negSucc 2147483647, .ofNat 2147483647)), (1781, 1795, .inl (.ofNat 0, .ofNat 200)), (1795, 1809, .inl (.negSucc 2147483647, .ofNat 2147483647)), (1809, 1812, .inl (.ofNat 0, .ofNat 4)), (1812, 2023, .inl (.negSucc 2147483647, .ofNat 2147483647)), (2023, 2024, .inl (.ofNat 0, .ofNat 199)), (2024, 2025, .inl (.ofNat 0, .ofNat 14)), (2025, 2027, .inl (.negSucc 2147483647, .ofNat 2147483647)), (2027, 2041, .inl (.ofNat 0, .ofNat 4)), (2041, 2069, .inl (.ofNat 0, .ofNat 9)), (2069, 2070, .inl (.negSucc 2147483647, .ofNat 2147483647)), (2070, 2084, .inl (.ofNat 0, .ofNat 200)), (2084, 2098, .inl (.negSucc 2147483647, .ofNat 2147483647)), (2098, 2101, .inl (.ofNat 0, .ofNat 4)), (2101, 2312, .inl (.negSucc 2147483647, .ofNat 2147483647))]
/-- m.before -/
noncomputable def tSg90 : sSg := [(0, 1, .inl (.ofNat 0, .ofNat 199)), (1, 2, .inl (.ofNat 0, .ofNat 14)), (2, 4, .inl (.negSucc 2147483647, .ofNat 2147483647)), (4, 18, .inl (.ofNat 0, .ofNat 4)), (18, 46, .inl (.ofNat 0, .ofNat 9)), (46, 47, .inl (.negSucc 2147483647, .ofNat 2147483647)), (47, 61, .inl (.ofNat 0, .ofNat 200)), (61, 75, .inl (.negSucc 2147483647, .ofNat 2147483647)), (75, 78, .inl (.ofNat 0, .ofNat 4)), (78, 289, .inl (.negSucc 2147483647, .ofNat 2147483647))]
/-- m.rolledAt -/
noncomputable def tSg91 : sSg := [(0, 4, .inl (.negSucc 2147483647, .ofNat 2147483647))]
/-- m.stack -/
noncomputable def tSg92 : sSg := [(0, 45, .inl (.ofNat 0, .ofNat 23))]
/-- m.truths -/
noncomputable def tSg93 : sSg := [(0, 45, .inl (.ofNat 0, .ofNat 1))]
/-- m.kept -/
noncomputable def tSg94 : sSg := [(0, 2, .inl (.ofNat 0, .ofNat 10)), (2, 3, .inl (.ofNat 0, .ofNat 4)), (3, 4, .inl (.ofNat 0, .ofNat 3)), (4, 5, .inl (.ofNat 0, .ofNat 5)), (5, 6, .inl (.ofNat 0, .ofNat 14)), (6, 7, .inl (.ofNat 0, .ofNat 8)), (7, 107, .inl (.ofNat 0, .ofNat 4)), (107, 207, .inl (.ofNat 0, .ofNat 3)), (207, 219, .inl (.ofNat 0, .ofNat 10)), (219, 224, .inl (.ofNat 0, .ofNat 12)), (224, 229, .inl (.ofNat 0, .ofNat 9)), (229, 234, .inl (.ofNat 0, .ofNat 1)), (234, 250, .inl (.ofNat 0, .ofNat 4)), (250, 258, .inl (.ofNat 0, .ofNat 9)), (258, 272, .inl (.ofNat 0, .ofNat 4)), (272, 300, .inl (.ofNat 0, .ofNat 9)), (300, 400, .inl (.ofNat 0, .ofNat 1)), (400, 401, .inl (.ofNat 0, .ofNat 10)), (401, 402, .inl (.ofNat 0, .ofNat 199)), (402, 403, .inl (.ofNat 0, .ofNat 14)), (403, 405, .inl (.negSucc 2147483647, .ofNat 2147483647)), (405, 419, .inl (.ofNat 0, .ofNat 4)), (419, 447, .inl (.ofNat 0, .ofNat 9)), (447, 448, .inl (.negSucc 2147483647, .ofNat 2147483647)), (448, 462, .inl (.ofNat 0, .ofNat 200)), (462, 476, .inl (.negSucc 2147483647, .ofNat 2147483647)), (476, 479, .inl (.ofNat 0, .ofNat 4)), (479, 690, .inl (.negSucc 2147483647, .ofNat 2147483647)), (690, 691, .inl (.ofNat 0, .ofNat 53)), (691, 871, .inl (.negSucc 2147483647, .ofNat 2147483647)), (871, 873, .inl (.ofNat 0, .ofNat 10)), (873, 874, .inl (.ofNat 0, .ofNat 4)), (874, 875, .inl (.ofNat 0, .ofNat 3)), (875, 876, .inl (.ofNat 0, .ofNat 5)), (876, 877, .inl (.ofNat 0, .ofNat 14)), (877, 878, .inl (.ofNat 0, .ofNat 8)), (878, 978, .inl (.ofNat 0, .ofNat 4)), (978, 1078, .inl (.ofNat 0, .ofNat 3)), (1078, 1090, .inl (.ofNat 0, .ofNat 10)), (1090, 1095, .inl (.ofNat 0, .ofNat 12)), (1095, 1100, .inl (.ofNat 0, .ofNat 9)), (1100, 1105, .inl (.ofNat 0, .ofNat 1)), (1105, 1121, .inl (.ofNat 0, .ofNat 4)), (1121, 1129, .inl (.ofNat 0, .ofNat 9)), (1129, 1143, .inl (.ofNat 0, .ofNat 4)), (1143, 1171, .inl (.ofNat 0, .ofNat 9)), (1171, 1271, .inl (.ofNat 0, .ofNat 1)), (1271, 1272, .inl (.ofNat 0, .ofNat 10)), (1272, 1273, .inl (.ofNat 0, .ofNat 199)), (1273, 1274, .inl (.ofNat 0, .ofNat 14)), (1274, 1276, .inl (.negSucc 2147483647, .ofNat 2147483647)), (1276, 1290, .inl (.ofNat 0, .ofNat 4)), (1290, 1318, .inl (.ofNat 0, .ofNat 9)), (1318, 1319, .inl (.negSucc 2147483647, .ofNat 2147483647)), (1319, 1333, .inl (.ofNat 0, .ofNat 200)), (1333, 1347, .inl (.negSucc 2147483647, .ofNat 2147483647)), (1347, 1350, .inl (.ofNat 0, .ofNat 4)), (1350, 1561, .inl (.negSucc 2147483647, .ofNat 2147483647)), (1561, 1562, .inl (.ofNat 0, .ofNat 53)), (1562, 1742, .inl (.negSucc 2147483647, .ofNat 2147483647))]
/-- m.namesKept -/
noncomputable def tSg95 : sSg := [(0, 24, .inr (.inl ()))]
/-- m.areKept -/
noncomputable def tSg96 : sSg := [(0, 2, .inl (.ofNat 0, .ofNat 1))]
/-- out -/
noncomputable def tSg97 : sSg := [(0, 1, .inr (.inl ()))]
noncomputable def tSga : Lean.RArray sSg := (.branch 49 (.branch 24 (.branch 12 (.branch 6 (.branch 3 (.branch 1 (.leaf tSg0) (.branch 2 (.leaf tSg1) (.leaf tSg2))) (.branch 4 (.leaf tSg3) (.branch 5 (.leaf tSg4) (.leaf tSg5)))) (.branch 9 (.branch 7 (.leaf tSg6) (.branch 8 (.leaf tSg7) (.leaf tSg8))) (.branch 10 (.leaf tSg9) (.branch 11 (.leaf tSg10) (.leaf tSg11))))) (.branch 18 (.branch 15 (.branch 13 (.leaf tSg12) (.branch 14 (.leaf tSg13) (.leaf tSg14))) (.branch 16 (.leaf tSg15) (.branch 17 (.leaf tSg16) (.leaf tSg17)))) (.branch 21 (.branch 19 (.leaf tSg18) (.branch 20 (.leaf tSg19) (.leaf tSg20))) (.branch 22 (.leaf tSg21) (.branch 23 (.leaf tSg22) (.leaf tSg23)))))) (.branch 36 (.branch 30 (.branch 27 (.branch 25 (.leaf tSg24) (.branch 26 (.leaf tSg25) (.leaf tSg26))) (.branch 28 (.leaf tSg27) (.branch 29 (.leaf tSg28) (.leaf tSg29)))) (.branch 33 (.branch 31 (.leaf tSg30) (.branch 32 (.leaf tSg31) (.leaf tSg32))) (.branch 34 (.leaf tSg33) (.branch 35 (.leaf tSg34) (.leaf tSg35))))) (.branch 42 (.branch 39 (.branch 37 (.leaf tSg36) (.branch 38 (.leaf tSg37) (.leaf tSg38))) (.branch 40 (.leaf tSg39) (.branch 41 (.leaf tSg40) (.leaf tSg41)))) (.branch 45 (.branch 43 (.leaf tSg42) (.branch 44 (.leaf tSg43) (.leaf tSg44))) (.branch 47 (.branch 46 (.leaf tSg45) (.leaf tSg46)) (.branch 48 (.leaf tSg47) (.leaf tSg48))))))) (.branch 73 (.branch 61 (.branch 55 (.branch 52 (.branch 50 (.leaf tSg49) (.branch 51 (.leaf tSg50) (.leaf tSg51))) (.branch 53 (.leaf tSg52) (.branch 54 (.leaf tSg53) (.leaf tSg54)))) (.branch 58 (.branch 56 (.leaf tSg55) (.branch 57 (.leaf tSg56) (.leaf tSg57))) (.branch 59 (.leaf tSg58) (.branch 60 (.leaf tSg59) (.leaf tSg60))))) (.branch 67 (.branch 64 (.branch 62 (.leaf tSg61) (.branch 63 (.leaf tSg62) (.leaf tSg63))) (.branch 65 (.leaf tSg64) (.branch 66 (.leaf tSg65) (.leaf tSg66)))) (.branch 70 (.branch 68 (.leaf tSg67) (.branch 69 (.leaf tSg68) (.leaf tSg69))) (.branch 71 (.leaf tSg70) (.branch 72 (.leaf tSg71) (.leaf tSg72)))))) (.branch 85 (.branch 79 (.branch 76 (.branch 74 (.leaf tSg73) (.branch 75 (.leaf tSg74) (.leaf tSg75))) (.branch 77 (.leaf tSg76) (.branch 78 (.leaf tSg77) (.leaf tSg78)))) (.branch 82 (.branch 80 (.leaf tSg79) (.branch 81 (.leaf tSg80) (.leaf tSg81))) (.branch 83 (.leaf tSg82) (.branch 84 (.leaf tSg83) (.leaf tSg84))))) (.branch 91 (.branch 88 (.branch 86 (.leaf tSg85) (.branch 87 (.leaf tSg86) (.leaf tSg87))) (.branch 89 (.leaf tSg88) (.branch 90 (.leaf tSg89) (.leaf tSg90)))) (.branch 94 (.branch 92 (.leaf tSg91) (.branch 93 (.leaf tSg92) (.leaf tSg93))) (.branch 96 (.branch 95 (.leaf tSg94) (.leaf tSg95)) (.branch 97 (.leaf tSg96) (.leaf tSg97))))))))
noncomputable def tCea : Lean.RArray (List Nat) := (.branch 49 (.branch 24 (.branch 12 (.branch 6 (.branch 3 (.branch 1 (.leaf [0]) (.branch 2 (.leaf [1]) (.leaf [2, 15, 212, 243]))) (.branch 4 (.leaf [3, 16, 213, 244]) (.branch 5 (.leaf [4, 17, 214, 245]) (.leaf [5, 18, 215, 246])))) (.branch 9 (.branch 7 (.leaf [6, 19, 216, 247]) (.branch 8 (.leaf [7, 20, 217, 248]) (.leaf [8, 21, 218, 249]))) (.branch 10 (.leaf [9, 22, 219, 250]) (.branch 11 (.leaf [10, 23, 220, 251]) (.leaf [11, 24, 221, 252]))))) (.branch 18 (.branch 15 (.branch 13 (.leaf [12, 25, 222, 253]) (.branch 14 (.leaf [13, 26, 223, 254]) (.leaf [14, 27, 224, 255]))) (.branch 16 (.leaf [28, 40, 65, 77, 89, 101, 113, 125, 137, 149, 161, 193, 225, 256]) (.branch 17 (.leaf [29, 41, 66, 78, 90, 102, 114, 126, 138, 150, 162, 194, 226, 257]) (.leaf [30, 42, 67, 79, 91, 103, 115, 127, 139, 151, 163, 195, 227, 258])))) (.branch 21 (.branch 19 (.leaf [31, 43, 68, 80, 92, 104, 116, 128, 140, 152, 164, 196, 228, 259]) (.branch 20 (.leaf [32, 44, 69, 81, 93, 105, 117, 129, 141, 153, 165, 197, 229, 260]) (.leaf [33, 45, 70, 82, 94, 106, 118, 130, 142, 154, 166, 198, 230, 261]))) (.branch 22 (.leaf [34, 46, 71, 83, 95, 107, 119, 131, 143, 155, 167, 199, 231, 262]) (.branch 23 (.leaf [35, 47, 72, 84, 96, 108, 120, 132, 144, 156, 168, 200, 232, 263]) (.leaf [36, 48, 73, 85, 97, 109, 121, 133, 145, 157, 169, 201, 233, 264])))))) (.branch 36 (.branch 30 (.branch 27 (.branch 25 (.leaf [37, 49, 74, 86, 98, 110, 122, 134, 146, 158, 170, 202, 234, 265]) (.branch 26 (.leaf [38, 50, 75, 87, 99, 111, 123, 135, 147, 159, 171, 203, 235, 266]) (.leaf [39, 51, 76, 88, 100, 112, 124, 136, 148, 160, 172, 204, 236, 267]))) (.branch 28 (.leaf [52]) (.branch 29 (.leaf [53]) (.leaf [54])))) (.branch 33 (.branch 31 (.leaf [55]) (.branch 32 (.leaf [56]) (.leaf [57]))) (.branch 34 (.leaf [58]) (.branch 35 (.leaf [59]) (.leaf [60]))))) (.branch 42 (.branch 39 (.branch 37 (.leaf [61]) (.branch 38 (.leaf [62]) (.leaf [63]))) (.branch 40 (.leaf [64]) (.branch 41 (.leaf [173]) (.leaf [174])))) (.branch 45 (.branch 43 (.leaf [175]) (.branch 44 (.leaf [176]) (.leaf [177]))) (.branch 47 (.branch 46 (.leaf [178]) (.leaf [179])) (.branch 48 (.leaf [180]) (.leaf [181]))))))) (.branch 73 (.branch 61 (.branch 55 (.branch 52 (.branch 50 (.leaf [182]) (.branch 51 (.leaf [183]) (.leaf [184]))) (.branch 53 (.leaf [185]) (.branch 54 (.leaf [186]) (.leaf [187])))) (.branch 58 (.branch 56 (.leaf [188]) (.branch 57 (.leaf [189]) (.leaf [190]))) (.branch 59 (.leaf [191]) (.branch 60 (.leaf [192]) (.leaf [205]))))) (.branch 67 (.branch 64 (.branch 62 (.leaf [206]) (.branch 63 (.leaf [207]) (.leaf [208]))) (.branch 65 (.leaf [209]) (.branch 66 (.leaf [210]) (.leaf [211])))) (.branch 70 (.branch 68 (.leaf [237]) (.branch 69 (.leaf [238]) (.leaf [239]))) (.branch 71 (.leaf [240]) (.branch 72 (.leaf [241]) (.leaf [242])))))) (.branch 85 (.branch 79 (.branch 76 (.branch 74 (.leaf [268]) (.branch 75 (.leaf [269]) (.leaf [270]))) (.branch 77 (.leaf [271]) (.branch 78 (.leaf [272]) (.leaf [273])))) (.branch 82 (.branch 80 (.leaf [274]) (.branch 81 (.leaf [275]) (.leaf [276]))) (.branch 83 (.leaf [277]) (.branch 84 (.leaf [278]) (.leaf [279]))))) (.branch 91 (.branch 88 (.branch 86 (.leaf [280]) (.branch 87 (.leaf [281]) (.leaf [282]))) (.branch 89 (.leaf [283]) (.branch 90 (.leaf [284]) (.leaf [285])))) (.branch 94 (.branch 92 (.leaf [286]) (.branch 93 (.leaf [287]) (.leaf [288]))) (.branch 96 (.branch 95 (.leaf [289]) (.leaf [290])) (.branch 97 (.leaf [291]) (.leaf [292]))))))))
noncomputable def tRO (c : Nat) : Nat := Lean.RArray.get tROa c
noncomputable def tKi (r : Nat) : Nat := (Lean.RArray.get tKLa r).1
noncomputable def tLe (r : Nat) : Nat := (Lean.RArray.get tKLa r).2
noncomputable def tSg (r : Nat) : sSg := Lean.RArray.get tSga r
noncomputable def tCe (r : Nat) : List Nat := Lean.RArray.get tCea r
/-- where the facts look: role, from, to (not it), stride of its first argument (0: all) -/
noncomputable def tFPa : Lean.RArray (List (Nat × Nat × Nat × Nat)) := (.branch 20 (.branch 10 (.branch 5 (.branch 2 (.branch 1 (.leaf [(54, 0, 5, 1), (56, 0, 5, 1)]) (.leaf [(28, 0, 40, 1), (30, 0, 40, 1)])) (.branch 3 (.leaf [(33, 0, 40, 1), (35, 0, 40, 1)]) (.branch 4 (.leaf [(68, 0, 40, 1), (70, 0, 40, 1)]) (.leaf [(74, 0, 40, 1), (76, 0, 40, 1)])))) (.branch 7 (.branch 6 (.leaf [(45, 0, 40, 1), (46, 0, 40, 1), (47, 0, 40, 1), (48, 0, 40, 1)]) (.leaf [(81, 250, 258, 1)])) (.branch 8 (.leaf [(80, 250, 258, 1)]) (.branch 9 (.leaf [(80, 0, 401, 1), (81, 0, 401, 1)]) (.leaf [(80, 250, 258, 1)]))))) (.branch 15 (.branch 12 (.branch 11 (.leaf [(80, 250, 258, 0), (80, 6, 7, 0)]) (.leaf [(82, 0, 160, 4)])) (.branch 13 (.leaf [(80, 690, 871, 0)]) (.branch 14 (.leaf [(80, 690, 871, 0)]) (.leaf [(82, 0, 160, 3)])))) (.branch 17 (.branch 16 (.leaf [(92, 0, 45, 1)]) (.leaf [(80, 691, 871, 1), (82, 0, 160, 1)])) (.branch 18 (.leaf [(94, 0, 871, 0), (96, 0, 1, 0)]) (.branch 19 (.leaf [(94, 0, 871, 1), (80, 0, 871, 1)]) (.leaf [(94, 871, 1742, 0), (96, 1, 2, 0)])))))) (.branch 30 (.branch 25 (.branch 22 (.branch 21 (.leaf [(94, 871, 1742, 1), (80, 0, 871, 1)]) (.leaf [])) (.branch 23 (.leaf []) (.branch 24 (.leaf [(92, 0, 45, 1)]) (.leaf [(28, 0, 40, 0), (68, 0, 40, 0)])))) (.branch 27 (.branch 26 (.leaf [(68, 0, 40, 0), (28, 0, 40, 0)]) (.leaf [(30, 0, 40, 0), (70, 0, 40, 0)])) (.branch 28 (.leaf [(70, 0, 40, 0), (30, 0, 40, 0)]) (.branch 29 (.leaf [(28, 0, 40, 0), (74, 0, 40, 0)]) (.leaf [(74, 0, 40, 0), (28, 0, 40, 0)]))))) (.branch 35 (.branch 32 (.branch 31 (.leaf [(30, 0, 40, 0), (76, 0, 40, 0)]) (.leaf [(76, 0, 40, 0), (30, 0, 40, 0)])) (.branch 33 (.leaf [(33, 0, 40, 0), (68, 0, 40, 0)]) (.branch 34 (.leaf [(68, 0, 40, 0), (33, 0, 40, 0)]) (.leaf [(35, 0, 40, 0), (70, 0, 40, 0)])))) (.branch 37 (.branch 36 (.leaf [(70, 0, 40, 0), (35, 0, 40, 0)]) (.leaf [(33, 0, 40, 0), (74, 0, 40, 0)])) (.branch 38 (.leaf [(74, 0, 40, 0), (33, 0, 40, 0)]) (.branch 39 (.leaf [(35, 0, 40, 0), (76, 0, 40, 0)]) (.leaf [(76, 0, 40, 0), (35, 0, 40, 0)])))))))
noncomputable def tFP (f : Nat) : List (Nat × Nat × Nat × Nat) := cond (Nat.blt f 40) (Lean.RArray.get tFPa f) []
/-- two rows that are alike: the cells, the fact -/
noncomputable def tEQ : List (Nat × Nat × Nat) := [(53, 238, 24), (238, 53, 25), (55, 240, 26), (240, 55, 27), (53, 269, 28), (269, 53, 29), (55, 271, 30), (271, 55, 31), (58, 238, 32), (238, 58, 33), (60, 240, 34), (240, 60, 35), (58, 269, 36), (269, 58, 37), (60, 271, 38), (271, 60, 39)]
end CkTab
