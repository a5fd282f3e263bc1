theorem zck203_0 : (zb203_0.all (zopB 203) && zseq zb203_0 0 360) = true := by decide +kernel
theorem zck203 : ∀ q ∈ ([(0, [0], zb203_0, 360)] : List (Nat × List Nat × List zOp × Nat)), (q.2.2.1.all (zopB 203) && zseq q.2.2.1 q.1 q.2.2.2) = true := List.forall_mem_cons.mpr ⟨zck203_0, fun _ h => nomatch h⟩
theorem zck204 : zBokB 204 = true := by decide +kernel
theorem zck205 : zBokB 205 = true := by decide +kernel
theorem zck206 : zBokB 206 = true := by decide +kernel
theorem zck207 : zBokB 207 = true := by decide +kernel
theorem zck208 : zBokB 208 = true := by decide +kernel
theorem zck209 : zBokB 209 = true := by decide +kernel
theorem zck210 : zBokB 210 = true := by decide +kernel
theorem zck211 : zBokB 211 = true := by decide +kernel
theorem zck212 : zBokB 212 = true := by decide +kernel
theorem zck213 : zBokB 213 = true := by decide +kernel
theorem zck214 : zBokB 214 = true := by decide +kernel
theorem zck215 : zBokB 215 = true := by decide +kernel
theorem zck216 : zBokB 216 = true := by decide +kernel
theorem zck217 : zBokB 217 = true := by decide +kernel
theorem zck218 : zBokB 218 = true := by decide +kernel
theorem zck219 : zBokB 219 = true := by decide +kernel
theorem zck220 : zBokB 220 = true := by decide +kernel
theorem zck221 : zBokB 221 = true := by decide +kernel
theorem zck222 : zBokB 222 = true := by decide +kernel
theorem zck223 : zBokB 223 = true := by decide +kernel
theorem zck224 : zBokB 224 = true := by decide +kernel
theorem zck225 : zBokB 225 = true := by decide +kernel
theorem zck226 : zBokB 226 = true := by decide +kernel
theorem zck227 : zBokB 227 = true := by decide +kernel
theorem zck228 : zBokB 228 = true := by decide +kernel
theorem zck229_0 : (zb229_0.all (zopB 229) && zseq zb229_0 0 23) = true := by decide +kernel
theorem zck229_23 : (zb229_23.all (zopB 229) && zseq zb229_23 23 27) = true := by decide +kernel
theorem zck229_27 : (zb229_27.all (zopB 229) && zseq zb229_27 27 28) = true := by decide +kernel
theorem zck229_28 : (zb229_28.all (zopB 229) && zseq zb229_28 28 37) = true := by decide +kernel
theorem zck229_37 : (zb229_37.all (zopB 229) && zseq zb229_37 37 50) = true := by decide +kernel
theorem zck229_50 : (zb229_50.all (zopB 229) && zseq zb229_50 50 108) = true := by decide +kernel
theorem zck229_108 : (zb229_108.all (zopB 229) && zseq zb229_108 108 116) = true := by decide +kernel
theorem zck229_116 : (zb229_116.all (zopB 229) && zseq zb229_116 116 146) = true := by decide +kernel
theorem zck229_146 : (zb229_146.all (zopB 229) && zseq zb229_146 146 149) = true := by decide +kernel
theorem zck229_149 : (zb229_149.all (zopB 229) && zseq zb229_149 149 180) = true := by decide +kernel
theorem zck229_180 : (zb229_180.all (zopB 229) && zseq zb229_180 180 186) = true := by decide +kernel
theorem zck229_186 : (zb229_186.all (zopB 229) && zseq zb229_186 186 192) = true := by decide +kernel
theorem zck229_192 : (zb229_192.all (zopB 229) && zseq zb229_192 192 227) = true := by decide +kernel
theorem zck229_227 : (zb229_227.all (zopB 229) && zseq zb229_227 227 231) = true := by decide +kernel
theorem zck229_231 : (zb229_231.all (zopB 229) && zseq zb229_231 231 237) = true := by decide +kernel
theorem zck229_237 : (zb229_237.all (zopB 229) && zseq zb229_237 237 244) = true := by decide +kernel
theorem zck229_244 : (zb229_244.all (zopB 229) && zseq zb229_244 244 254) = true := by decide +kernel
theorem zck229_254 : (zb229_254.all (zopB 229) && zseq zb229_254 254 258) = true := by decide +kernel
theorem zck229_258 : (zb229_258.all (zopB 229) && zseq zb229_258 258 259) = true := by decide +kernel
theorem zck229 : ∀ q ∈ ([(0, [0, 1, 2], zb229_0, 23), (23, [0, 1, 2], zb229_23, 27), (27, [0, 1, 2], zb229_27, 28), (28, [0, 1, 2], zb229_28, 37), (37, [0, 1, 2], zb229_37, 50), (50, [0, 2, 3, 4], zb229_50, 108), (108, [0, 2, 3, 4, 5, 6, 7], zb229_108, 116), (116, [0, 2, 3, 4, 6, 7, 8], zb229_116, 146), (146, [0, 2, 3, 4, 7], zb229_146, 149), (149, [0, 2, 3, 4, 7, 8], zb229_149, 180), (180, [0, 2, 3, 4], zb229_180, 186), (186, [0, 2, 3], zb229_186, 192), (192, [0, 2, 3, 4, 5], zb229_192, 227), (227, [0, 2, 3, 5], zb229_227, 231), (231, [0, 2, 3, 4, 5], zb229_231, 237), (237, [2, 3, 4], zb229_237, 244), (244, [3, 4], zb229_244, 254), (254, [3, 4], zb229_254, 258), (258, [], zb229_258, 259)] : List (Nat × List Nat × List zOp × Nat)), (q.2.2.1.all (zopB 229) && zseq q.2.2.1 q.1 q.2.2.2) = true := List.forall_mem_cons.mpr ⟨zck229_0, List.forall_mem_cons.mpr ⟨zck229_23, List.forall_mem_cons.mpr ⟨zck229_27, List.forall_mem_cons.mpr ⟨zck229_28, List.forall_mem_cons.mpr ⟨zck229_37, List.forall_mem_cons.mpr ⟨zck229_50, List.forall_mem_cons.mpr ⟨zck229_108, List.forall_mem_cons.mpr ⟨zck229_116, List.forall_mem_cons.mpr ⟨zck229_146, List.forall_mem_cons.mpr ⟨zck229_149, List.forall_mem_cons.mpr ⟨zck229_180, List.forall_mem_cons.mpr ⟨zck229_186, List.forall_mem_cons.mpr ⟨zck229_192, List.forall_mem_cons.mpr ⟨zck229_227, List.forall_mem_cons.mpr ⟨zck229_231, List.forall_mem_cons.mpr ⟨zck229_237, List.forall_mem_cons.mpr ⟨zck229_244, List.forall_mem_cons.mpr ⟨zck229_254, List.forall_mem_cons.mpr ⟨zck229_258, fun _ h => nomatch h⟩⟩⟩⟩⟩⟩⟩⟩⟩⟩⟩⟩⟩⟩⟩⟩⟩⟩⟩
theorem zck230 : zBokB 230 = true := by decide +kernel
theorem zck231 : zBokB 231 = true := by decide +kernel
theorem zck232_0 : (zb232_0.all (zopB 232) && zseq zb232_0 0 18) = true := by decide +kernel
theorem zck232_18 : (zb232_18.all (zopB 232) && zseq zb232_18 18 19) = true := by decide +kernel
theorem zck232_19 : (zb232_19.all (zopB 232) && zseq zb232_19 19 39) = true := by decide +kernel
theorem zck232_39 : (zb232_39.all (zopB 232) && zseq zb232_39 39 40) = true := by decide +kernel
theorem zck232_40 : (zb232_40.all (zopB 232) && zseq zb232_40 40 47) = true := by decide +kernel
theorem zck232_47 : (zb232_47.all (zopB 232) && zseq zb232_47 47 49) = true := by decide +kernel
theorem zck232_49 : (zb232_49.all (zopB 232) && zseq zb232_49 49 71) = true := by decide +kernel
theorem zck232_71 : (zb232_71.all (zopB 232) && zseq zb232_71 71 94) = true := by decide +kernel
theorem zck232_94 : (zb232_94.all (zopB 232) && zseq zb232_94 94 106) = true := by decide +kernel
theorem zck232_106 : (zb232_106.all (zopB 232) && zseq zb232_106 106 112) = true := by decide +kernel
theorem zck232_112 : (zb232_112.all (zopB 232) && zseq zb232_112 112 120) = true := by decide +kernel
theorem zck232_120 : (zb232_120.all (zopB 232) && zseq zb232_120 120 123) = true := by decide +kernel
theorem zck232_123 : (zb232_123.all (zopB 232) && zseq zb232_123 123 133) = true := by decide +kernel
theorem zck232_133 : (zb232_133.all (zopB 232) && zseq zb232_133 133 151) = true := by decide +kernel
theorem zck232_151 : (zb232_151.all (zopB 232) && zseq zb232_151 151 169) = true := by decide +kernel
theorem zck232_169 : (zb232_169.all (zopB 232) && zseq zb232_169 169 192) = true := by decide +kernel
theorem zck232_192 : (zb232_192.all (zopB 232) && zseq zb232_192 192 194) = true := by decide +kernel
theorem zck232_194 : (zb232_194.all (zopB 232) && zseq zb232_194 194 201) = true := by decide +kernel
theorem zck232_201 : (zb232_201.all (zopB 232) && zseq zb232_201 201 207) = true := by decide +kernel
theorem zck232_207 : (zb232_207.all (zopB 232) && zseq zb232_207 207 218) = true := by decide +kernel
theorem zck232_218 : (zb232_218.all (zopB 232) && zseq zb232_218 218 240) = true := by decide +kernel
theorem zck232_240 : (zb232_240.all (zopB 232) && zseq zb232_240 240 243) = true := by decide +kernel
theorem zck232_243 : (zb232_243.all (zopB 232) && zseq zb232_243 243 250) = true := by decide +kernel
theorem zck232_250 : (zb232_250.all (zopB 232) && zseq zb232_250 250 253) = true := by decide +kernel
theorem zck232_253 : (zb232_253.all (zopB 232) && zseq zb232_253 253 270) = true := by decide +kernel
theorem zck232_270 : (zb232_270.all (zopB 232) && zseq zb232_270 270 320) = true := by decide +kernel
theorem zck232_320 : (zb232_320.all (zopB 232) && zseq zb232_320 320 372) = true := by decide +kernel
theorem zck232_372 : (zb232_372.all (zopB 232) && zseq zb232_372 372 379) = true := by decide +kernel
theorem zck232_379 : (zb232_379.all (zopB 232) && zseq zb232_379 379 380) = true := by decide +kernel
theorem zck232_380 : (zb232_380.all (zopB 232) && zseq zb232_380 380 386) = true := by decide +kernel
theorem zck232_386 : (zb232_386.all (zopB 232) && zseq zb232_386 386 392) = true := by decide +kernel
theorem zck232_392 : (zb232_392.all (zopB 232) && zseq zb232_392 392 409) = true := by decide +kernel
theorem zck232_409 : (zb232_409.all (zopB 232) && zseq zb232_409 409 416) = true := by decide +kernel
theorem zck232_416 : (zb232_416.all (zopB 232) && zseq zb232_416 416 417) = true := by decide +kernel
theorem zck232 : ∀ q ∈ ([(0, [0, 1, 2], zb232_0, 18), (18, [0, 1, 2], zb232_18, 19), (19, [0, 1, 2], zb232_19, 39), (39, [0, 1, 2], zb232_39, 40), (40, [0, 1, 2], zb232_40, 47), (47, [], zb232_47, 49), (49, [0, 1, 2], zb232_49, 71), (71, [0, 3, 4, 5], zb232_71, 94), (94, [0, 3, 4, 5], zb232_94, 106), (106, [0, 3, 4, 5], zb232_106, 112), (112, [0, 4], zb232_112, 120), (120, [0, 4], zb232_120, 123), (123, [0, 4, 5], zb232_123, 133), (133, [0, 4, 5, 6], zb232_133, 151), (151, [0, 4, 5, 6], zb232_151, 169), (169, [0, 4, 5, 6], zb232_169, 192), (192, [0, 4, 5, 6, 7], zb232_192, 194), (194, [0, 4, 5, 6], zb232_194, 201), (201, [0, 4, 5], zb232_201, 207), (207, [0, 4], zb232_207, 218), (218, [0, 4, 5, 6], zb232_218, 240), (240, [0, 4, 5, 6], zb232_240, 243), (243, [0, 4, 5, 6], zb232_243, 250), (250, [0, 4, 5], zb232_250, 253), (253, [0, 4, 5, 6], zb232_253, 270), (270, [0, 4, 5, 6, 7, 8], zb232_270, 320), (320, [0, 4, 5, 6, 7, 8], zb232_320, 372), (372, [0, 4, 5, 6, 7, 8, 10], zb232_372, 379), (379, [0, 4, 5, 6, 7, 8], zb232_379, 380), (380, [0, 4, 5, 6, 7, 8], zb232_380, 386), (386, [0, 4, 5, 6], zb232_386, 392), (392, [0, 5], zb232_392, 409), (409, [0, 5], zb232_409, 416), (416, [], zb232_416, 417)] : List (Nat × List Nat × List zOp × Nat)), (q.2.2.1.all (zopB 232) && zseq q.2.2.1 q.1 q.2.2.2) = true := List.forall_mem_cons.mpr ⟨zck232_0, List.forall_mem_cons.mpr ⟨zck232_18, List.forall_mem_cons.mpr ⟨zck232_19, List.forall_mem_cons.mpr ⟨zck232_39, List.forall_mem_cons.mpr ⟨zck232_40, List.forall_mem_cons.mpr ⟨zck232_47, List.forall_mem_cons.mpr ⟨zck232_49, List.forall_mem_cons.mpr ⟨zck232_71, List.forall_mem_cons.mpr ⟨zck232_94, List.forall_mem_cons.mpr ⟨zck232_106, List.forall_mem_cons.mpr ⟨zck232_112, List.forall_mem_cons.mpr ⟨zck232_120, List.forall_mem_cons.mpr ⟨zck232_123, List.forall_mem_cons.mpr ⟨zck232_133, List.forall_mem_cons.mpr ⟨zck232_151, List.forall_mem_cons.mpr ⟨zck232_169, List.forall_mem_cons.mpr ⟨zck232_192, List.forall_mem_cons.mpr ⟨zck232_194, List.forall_mem_cons.mpr ⟨zck232_201, List.forall_mem_cons.mpr ⟨zck232_207, List.forall_mem_cons.mpr ⟨zck232_218, List.forall_mem_cons.mpr ⟨zck232_240, List.forall_mem_cons.mpr ⟨zck232_243, List.forall_mem_cons.mpr ⟨zck232_250, List.forall_mem_cons.mpr ⟨zck232_253, List.forall_mem_cons.mpr ⟨zck232_270, List.forall_mem_cons.mpr ⟨zck232_320, List.forall_mem_cons.mpr ⟨zck232_372, List.forall_mem_cons.mpr ⟨zck232_379, List.forall_mem_cons.mpr ⟨zck232_380, List.forall_mem_cons.mpr ⟨zck232_386, List.forall_mem_cons.mpr ⟨zck232_392, List.forall_mem_cons.mpr ⟨zck232_409, List.forall_mem_cons.mpr ⟨zck232_416, fun _ h => nomatch h⟩⟩⟩⟩⟩⟩⟩⟩⟩⟩⟩⟩⟩⟩⟩⟩⟩⟩⟩⟩⟩⟩⟩⟩⟩⟩⟩⟩⟩⟩⟩⟩⟩⟩
theorem zck233_0 : (zb233_0.all (zopB 233) && zseq zb233_0 0 54) = true := by decide +kernel
theorem zck233_54 : (zb233_54.all (zopB 233) && zseq zb233_54 54 55) = true := by decide +kernel
theorem zck233_55 : (zb233_55.all (zopB 233) && zseq zb233_55 55 74) = true := by decide +kernel
theorem zck233_74 : (zb233_74.all (zopB 233) && zseq zb233_74 74 76) = true := by decide +kernel
theorem zck233_76 : (zb233_76.all (zopB 233) && zseq zb233_76 76 103) = true := by decide +kernel
theorem zck233_103 : (zb233_103.all (zopB 233) && zseq zb233_103 103 116) = true := by decide +kernel
theorem zck233_116 : (zb233_116.all (zopB 233) && zseq zb233_116 116 117) = true := by decide +kernel
theorem zck233_117 : (zb233_117.all (zopB 233) && zseq zb233_117 117 147) = true := by decide +kernel
theorem zck233_147 : (zb233_147.all (zopB 233) && zseq zb233_147 147 162) = true := by decide +kernel
theorem zck233_162 : (zb233_162.all (zopB 233) && zseq zb233_162 162 163) = true := by decide +kernel
theorem zck233_163 : (zb233_163.all (zopB 233) && zseq zb233_163 163 180) = true := by decide +kernel
theorem zck233_180 : (zb233_180.all (zopB 233) && zseq zb233_180 180 205) = true := by decide +kernel
theorem zck233_205 : (zb233_205.all (zopB 233) && zseq zb233_205 205 218) = true := by decide +kernel
theorem zck233_218 : (zb233_218.all (zopB 233) && zseq zb233_218 218 227) = true := by decide +kernel
theorem zck233_227 : (zb233_227.all (zopB 233) && zseq zb233_227 227 233) = true := by decide +kernel
theorem zck233_233 : (zb233_233.all (zopB 233) && zseq zb233_233 233 234) = true := by decide +kernel
theorem zck233 : ∀ q ∈ ([(0, [0, 1, 2], zb233_0, 54), (54, [], zb233_54, 55), (55, [0, 1, 2], zb233_55, 74), (74, [0, 2], zb233_74, 76), (76, [0, 2, 3], zb233_76, 103), (103, [0, 2, 3], zb233_103, 116), (116, [0, 2, 3], zb233_116, 117), (117, [0, 2, 3], zb233_117, 147), (147, [0, 2, 3, 4], zb233_147, 162), (162, [0, 2, 3], zb233_162, 163), (163, [0, 2, 3], zb233_163, 180), (180, [0, 2, 3, 5], zb233_180, 205), (205, [0, 2, 3, 5], zb233_205, 218), (218, [0, 2, 3, 5], zb233_218, 227), (227, [0, 2, 3], zb233_227, 233), (233, [], zb233_233, 234)] : List (Nat × List Nat × List zOp × Nat)), (q.2.2.1.all (zopB 233) && zseq q.2.2.1 q.1 q.2.2.2) = true := List.forall_mem_cons.mpr ⟨zck233_0, List.forall_mem_cons.mpr ⟨zck233_54, List.forall_mem_cons.mpr ⟨zck233_55, List.forall_mem_cons.mpr ⟨zck233_74, List.forall_mem_cons.mpr ⟨zck233_76, List.forall_mem_cons.mpr ⟨zck233_103, List.forall_mem_cons.mpr ⟨zck233_116, List.forall_mem_cons.mpr ⟨zck233_117, List.forall_mem_cons.mpr ⟨zck233_147, List.forall_mem_cons.mpr ⟨zck233_162, List.forall_mem_cons.mpr ⟨zck233_163, List.forall_mem_cons.mpr ⟨zck233_180, List.forall_mem_cons.mpr ⟨zck233_205, List.forall_mem_cons.mpr ⟨zck233_218, List.forall_mem_cons.mpr ⟨zck233_227, List.forall_mem_cons.mpr ⟨zck233_233, fun _ h => nomatch h⟩⟩⟩⟩⟩⟩⟩⟩⟩⟩⟩⟩⟩⟩⟩⟩
theorem zck234 : zBokB 234 = true := by decide +kernel
theorem zck235 : zBokB 235 = true := by decide +kernel
theorem zck236 : zBokB 236 = true := by decide +kernel
theorem zck237 : zBokB 237 = true := by decide +kernel
theorem zck238 : zBokB 238 = true := by decide +kernel
theorem zck239 : zBokB 239 = true := by decide +kernel
theorem zck240 : zBokB 240 = true := by decide +kernel
theorem zck241 : zBokB 241 = true := by decide +kernel
theorem zck242 : zBokB 242 = true := by decide +kernel
theorem zck243 : zBokB 243 = true := by decide +kernel
theorem zck244 : zBokB 244 = true := by decide +kernel
theorem zck245 : zBokB 245 = true := by decide +kernel
theorem zck246 : zBokB 246 = true := by decide +kernel
theorem zck247 : zBokB 247 = true := by decide +kernel
theorem zck248 : zBokB 248 = true := by decide +kernel
theorem zck249 : zBokB 249 = true := by decide +kernel
theorem zck250 : zBokB 250 = true := by decide +kernel
theorem zck251 : zBokB 251 = true := by decide +kernel
theorem zck252 : zBokB 252 = true := by decide +kernel
theorem zck253 : zBokB 253 = true := by decide +kernel
theorem zck254 : zBokB 254 = true := by decide +kernel
theorem zck255 : zBokB 255 = true := by decide +kernel
theorem zck256 : zBokB 256 = true := by decide +kernel
theorem zck257 : zBokB 257 = true := by decide +kernel
theorem zck258 : zBokB 258 = true := by decide +kernel
theorem zck259 : zBokB 259 = true := by decide +kernel
theorem zck260 : zBokB 260 = true := by decide +kernel
theorem zck261 : zBokB 261 = true := by decide +kernel
theorem zck262 : zBokB 262 = true := by decide +kernel
theorem zck263 : zBokB 263 = true := by decide +kernel
theorem zck264 : zBokB 264 = true := by decide +kernel
theorem zck265 : zBokB 265 = true := by decide +kernel
theorem zck266 : zBokB 266 = true := by decide +kernel
theorem zck267 : zBokB 267 = true := by decide +kernel
theorem zck268 : zBokB 268 = true := by decide +kernel
theorem zck269 : zBokB 269 = true := by decide +kernel
theorem zck270 : zBokB 270 = true := by decide +kernel
theorem zck271 : zBokB 271 = true := by decide +kernel
theorem zck272 : zBokB 272 = true := by decide +kernel
theorem zck273 : zBokB 273 = true := by decide +kernel
theorem zck274 : zBokB 274 = true := by decide +kernel
theorem zck275 : zBokB 275 = true := by decide +kernel
theorem zck276 : zBokB 276 = true := by decide +kernel
theorem zck277 : zBokB 277 = true := by decide +kernel
theorem zck278 : zBokB 278 = true := by decide +kernel
theorem zck279_0 : (zb279_0.all (zopB 279) && zseq zb279_0 0 18) = true := by decide +kernel
theorem zck279_18 : (zb279_18.all (zopB 279) && zseq zb279_18 18 19) = true := by decide +kernel
theorem zck279_19 : (zb279_19.all (zopB 279) && zseq zb279_19 19 39) = true := by decide +kernel
theorem zck279_39 : (zb279_39.all (zopB 279) && zseq zb279_39 39 40) = true := by decide +kernel
theorem zck279_40 : (zb279_40.all (zopB 279) && zseq zb279_40 40 47) = true := by decide +kernel
theorem zck279_47 : (zb279_47.all (zopB 279) && zseq zb279_47 47 49) = true := by decide +kernel
theorem zck279_49 : (zb279_49.all (zopB 279) && zseq zb279_49 49 84) = true := by decide +kernel
theorem zck279_84 : (zb279_84.all (zopB 279) && zseq zb279_84 84 87) = true := by decide +kernel
theorem zck279_87 : (zb279_87.all (zopB 279) && zseq zb279_87 87 103) = true := by decide +kernel
theorem zck279_103 : (zb279_103.all (zopB 279) && zseq zb279_103 103 129) = true := by decide +kernel
theorem zck279_129 : (zb279_129.all (zopB 279) && zseq zb279_129 129 173) = true := by decide +kernel
theorem zck279_173 : (zb279_173.all (zopB 279) && zseq zb279_173 173 179) = true := by decide +kernel
theorem zck279_179 : (zb279_179.all (zopB 279) && zseq zb279_179 179 187) = true := by decide +kernel
theorem zck279_187 : (zb279_187.all (zopB 279) && zseq zb279_187 187 197) = true := by decide +kernel
theorem zck279_197 : (zb279_197.all (zopB 279) && zseq zb279_197 197 208) = true := by decide +kernel
theorem zck279_208 : (zb279_208.all (zopB 279) && zseq zb279_208 208 238) = true := by decide +kernel
theorem zck279_238 : (zb279_238.all (zopB 279) && zseq zb279_238 238 242) = true := by decide +kernel
theorem zck279_242 : (zb279_242.all (zopB 279) && zseq zb279_242 242 243) = true := by decide +kernel
theorem zck279_243 : (zb279_243.all (zopB 279) && zseq zb279_243 243 251) = true := by decide +kernel
theorem zck279_251 : (zb279_251.all (zopB 279) && zseq zb279_251 251 254) = true := by decide +kernel
theorem zck279_254 : (zb279_254.all (zopB 279) && zseq zb279_254 254 260) = true := by decide +kernel
theorem zck279_260 : (zb279_260.all (zopB 279) && zseq zb279_260 260 263) = true := by decide +kernel
theorem zck279_263 : (zb279_263.all (zopB 279) && zseq zb279_263 263 322) = true := by decide +kernel
theorem zck279_322 : (zb279_322.all (zopB 279) && zseq zb279_322 322 328) = true := by decide +kernel
theorem zck279_328 : (zb279_328.all (zopB 279) && zseq zb279_328 328 340) = true := by decide +kernel
theorem zck279_340 : (zb279_340.all (zopB 279) && zseq zb279_340 340 342) = true := by decide +kernel
theorem zck279_342 : (zb279_342.all (zopB 279) && zseq zb279_342 342 343) = true := by decide +kernel
theorem zck279 : ∀ q ∈ ([(0, [0, 1, 2], zb279_0, 18), (18, [0, 1, 2], zb279_18, 19), (19, [0, 1, 2], zb279_19, 39), (39, [0, 1, 2], zb279_39, 40), (40, [0, 1, 2], zb279_40, 47), (47, [], zb279_47, 49), (49, [0, 1, 2], zb279_49, 84), (84, [0, 1, 3, 4], zb279_84, 87), (87, [0, 1, 3, 4, 5], zb279_87, 103), (103, [0, 1, 3, 4, 5, 6], zb279_103, 129), (129, [0, 1, 3, 4, 5], zb279_129, 173), (173, [0, 1, 3, 4, 5], zb279_173, 179), (179, [0, 1, 3, 4], zb279_179, 187), (187, [0, 1, 3, 4, 5, 6], zb279_187, 197), (197, [0, 1, 3, 4, 5, 6, 7], zb279_197, 208), (208, [0, 1, 3, 4, 5, 6, 7, 8], zb279_208, 238), (238, [0, 1, 3, 4, 5, 6, 8], zb279_238, 242), (242, [0, 1, 3, 4, 5, 6, 8], zb279_242, 243), (243, [0, 1, 3, 4, 5, 6, 8], zb279_243, 251), (251, [0, 1, 3, 4, 5, 6, 7], zb279_251, 254), (254, [0, 1, 3, 4, 5, 6], zb279_254, 260), (260, [0, 1, 4, 5], zb279_260, 263), (263, [0, 1, 4, 5, 6], zb279_263, 322), (322, [0, 1, 4, 5, 6], zb279_322, 328), (328, [5], zb279_328, 340), (340, [5], zb279_340, 342), (342, [], zb279_342, 343)] : List (Nat × List Nat × List zOp × Nat)), (q.2.2.1.all (zopB 279) && zseq q.2.2.1 q.1 q.2.2.2) = true := List.forall_mem_cons.mpr ⟨zck279_0, List.forall_mem_cons.mpr ⟨zck279_18, List.forall_mem_cons.mpr ⟨zck279_19, List.forall_mem_cons.mpr ⟨zck279_39, List.forall_mem_cons.mpr ⟨zck279_40, List.forall_mem_cons.mpr ⟨zck279_47, List.forall_mem_cons.mpr ⟨zck279_49, List.forall_mem_cons.mpr ⟨zck279_84, List.forall_mem_cons.mpr ⟨zck279_87, List.forall_mem_cons.mpr ⟨zck279_103, List.forall_mem_cons.mpr ⟨zck279_129, List.forall_mem_cons.mpr ⟨zck279_173, List.forall_mem_cons.mpr ⟨zck279_179, List.forall_mem_cons.mpr ⟨zck279_187, List.forall_mem_cons.mpr ⟨zck279_197, List.forall_mem_cons.mpr ⟨zck279_208, List.forall_mem_cons.mpr ⟨zck279_238, List.forall_mem_cons.mpr ⟨zck279_242, List.forall_mem_cons.mpr ⟨zck279_243, List.forall_mem_cons.mpr ⟨zck279_251, List.forall_mem_cons.mpr ⟨zck279_254, List.forall_mem_cons.mpr ⟨zck279_260, List.forall_mem_cons.mpr ⟨zck279_263, List.forall_mem_cons.mpr ⟨zck279_322, List.forall_mem_cons.mpr ⟨zck279_328, List.forall_mem_cons.mpr ⟨zck279_340, List.forall_mem_cons.mpr ⟨zck279_342, fun _ h => nomatch h⟩⟩⟩⟩⟩⟩⟩⟩⟩⟩⟩⟩⟩⟩⟩⟩⟩⟩⟩⟩⟩⟩⟩⟩⟩⟩⟩
theorem zck280 : zBokB 280 = true := by decide +kernel
theorem zck281 : zBokB 281 = true := by decide +kernel
theorem zck282 : zBokB 282 = true := by decide +kernel
theorem zck283 : zBokB 283 = true := by decide +kernel
theorem zck284 : zBokB 284 = true := by decide +kernel
theorem zck285 : zBokB 285 = true := by decide +kernel
theorem zck286 : zBokB 286 = true := by decide +kernel
theorem zck287 : zBokB 287 = true := by decide +kernel
theorem zck288 : zBokB 288 = true := by decide +kernel
theorem zck289 : zBokB 289 = true := by decide +kernel
theorem zck290 : zBokB 290 = true := by decide +kernel
theorem zck291 : zBokB 291 = true := by decide +kernel
theorem zck292 : zBokB 292 = true := by decide +kernel
theorem zck293 : zBokB 293 = true := by decide +kernel
theorem zck294 : zBokB 294 = true := by decide +kernel
theorem zck295 : zBokB 295 = true := by decide +kernel
theorem zck296 : zBokB 296 = true := by decide +kernel
theorem zck297 : zBokB 297 = true := by decide +kernel
theorem zck298 : zBokB 298 = true := by decide +kernel
theorem zck299 : zBokB 299 = true := by decide +kernel
theorem zck300 : zBokB 300 = true := by decide +kernel
theorem zck301 : zBokB 301 = true := by decide +kernel
theorem zck302 : zBokB 302 = true := by decide +kernel
theorem zck303 : zBokB 303 = true := by decide +kernel
theorem zck304 : zBokB 304 = true := by decide +kernel
theorem zck305 : zBokB 305 = true := by decide +kernel
theorem zck306 : zBokB 306 = true := by decide +kernel
theorem zck307 : zBokB 307 = true := by decide +kernel
theorem zck308 : zBokB 308 = true := by decide +kernel
theorem zck309 : zBokB 309 = true := by decide +kernel
theorem zck310 : zBokB 310 = true := by decide +kernel
theorem zck311_0 : (zb311_0.all (zopB 311) && zseq zb311_0 0 22) = true := by decide +kernel
theorem zck311_22 : (zb311_22.all (zopB 311) && zseq zb311_22 22 23) = true := by decide +kernel
theorem zck311_23 : (zb311_23.all (zopB 311) && zseq zb311_23 23 32) = true := by decide +kernel
theorem zck311_32 : (zb311_32.all (zopB 311) && zseq zb311_32 32 64) = true := by decide +kernel
theorem zck311_64 : (zb311_64.all (zopB 311) && zseq zb311_64 64 82) = true := by decide +kernel
theorem zck311_82 : (zb311_82.all (zopB 311) && zseq zb311_82 82 84) = true := by decide +kernel
theorem zck311_84 : (zb311_84.all (zopB 311) && zseq zb311_84 84 110) = true := by decide +kernel
theorem zck311_110 : (zb311_110.all (zopB 311) && zseq zb311_110 110 114) = true := by decide +kernel
theorem zck311_114 : (zb311_114.all (zopB 311) && zseq zb311_114 114 143) = true := by decide +kernel
theorem zck311_143 : (zb311_143.all (zopB 311) && zseq zb311_143 143 166) = true := by decide +kernel
theorem zck311_166 : (zb311_166.all (zopB 311) && zseq zb311_166 166 168) = true := by decide +kernel
theorem zck311_168 : (zb311_168.all (zopB 311) && zseq zb311_168 168 191) = true := by decide +kernel
theorem zck311_191 : (zb311_191.all (zopB 311) && zseq zb311_191 191 231) = true := by decide +kernel
theorem zck311_231 : (zb311_231.all (zopB 311) && zseq zb311_231 231 271) = true := by decide +kernel
theorem zck311_271 : (zb311_271.all (zopB 311) && zseq zb311_271 271 292) = true := by decide +kernel
theorem zck311 : ∀ q ∈ ([(0, [0, 1], zb311_0, 22), (22, [0, 1], zb311_22, 23), (23, [0, 1], zb311_23, 32), (32, [0, 1], zb311_32, 64), (64, [0, 2], zb311_64, 82), (82, [0], zb311_82, 84), (84, [0, 2], zb311_84, 110), (110, [0], zb311_110, 114), (114, [0], zb311_114, 143), (143, [0], zb311_143, 166), (166, [0], zb311_166, 168), (168, [0, 2], zb311_168, 191), (191, [0], zb311_191, 231), (231, [0, 2], zb311_231, 271), (271, [0], zb311_271, 292)] : List (Nat × List Nat × List zOp × Nat)), (q.2.2.1.all (zopB 311) && zseq q.2.2.1 q.1 q.2.2.2) = true := List.forall_mem_cons.mpr ⟨zck311_0, List.forall_mem_cons.mpr ⟨zck311_22, List.forall_mem_cons.mpr ⟨zck311_23, List.forall_mem_cons.mpr ⟨zck311_32, List.forall_mem_cons.mpr ⟨zck311_64, List.forall_mem_cons.mpr ⟨zck311_82, List.forall_mem_cons.mpr ⟨zck311_84, List.forall_mem_cons.mpr ⟨zck311_110, List.forall_mem_cons.mpr ⟨zck311_114, List.forall_mem_cons.mpr ⟨zck311_143, List.forall_mem_cons.mpr ⟨zck311_166, List.forall_mem_cons.mpr ⟨zck311_168, List.forall_mem_cons.mpr ⟨zck311_191, List.forall_mem_cons.mpr ⟨zck311_231, List.forall_mem_cons.mpr ⟨zck311_271, fun _ h => nomatch h⟩⟩⟩⟩⟩⟩⟩⟩⟩⟩⟩⟩⟩⟩⟩
theorem zck312 : zBokB 312 = true := by decide +kernel
theorem zck313 : zBokB 313 = true := by decide +kernel
