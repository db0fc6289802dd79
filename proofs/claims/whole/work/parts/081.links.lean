def kMdV (M' : Km) (n : Nat) : Prop := Cond.code M'.1 M'.2.1 M'.2.2.1 M'.2.2.2 ∈ kTbl ∧ Cond.initialized M'.1.cls ∈ kTbl ∧ (M'.1.cls ≠ "java/lang/invoke/MethodHandle" ∧ M'.1.cls ≠ "java/lang/invoke/VarHandle" ∧ (parseMethodDescriptor M'.1.desc).map (fun d => d.parameters.length) = some n) ∧ Cond.instanceMethod M'.1 ∈ kTbl ∧ Cond.selects M'.1.cls M'.1 M'.1 ∈ kTbl
def kMdS (M' : Km) (n : Nat) : Prop := Cond.code M'.1 M'.2.1 M'.2.2.1 M'.2.2.2 ∈ kTbl ∧ Cond.initialized M'.1.cls ∈ kTbl ∧ (M'.1.cls ≠ "java/lang/invoke/MethodHandle" ∧ M'.1.cls ≠ "java/lang/invoke/VarHandle" ∧ (parseMethodDescriptor M'.1.desc).map (fun d => d.parameters.length) = some n) ∧ Cond.static M'.1 ∈ kTbl
def kMdI (M' : Km) (n : Nat) : Prop := Cond.code M'.1 M'.2.1 M'.2.2.1 M'.2.2.2 ∈ kTbl ∧ Cond.initialized M'.1.cls ∈ kTbl ∧ (M'.1.cls ≠ "java/lang/invoke/MethodHandle" ∧ M'.1.cls ≠ "java/lang/invoke/VarHandle" ∧ (parseMethodDescriptor M'.1.desc).map (fun d => d.parameters.length) = some n) ∧ Cond.instanceMethod M'.1 ∈ kTbl ∧ M'.1.name = "<init>" ∧ M'.2.2.2 = none
theorem kCVof {M' : Km} {own : String} {idx n : Nat} (h : kMdV M' n) (l : Cond.methodLink own idx M'.1 ∈ kTbl) : kCallV M' own idx n := ⟨⟨h.1, h.2.1, h.2.2.1, l⟩, h.2.2.2.1, h.2.2.2.2⟩
theorem kCSof {M' : Km} {own : String} {idx n : Nat} (h : kMdS M' n) (l : Cond.methodLink own idx M'.1 ∈ kTbl) : kCallS M' own idx n := ⟨⟨h.1, h.2.1, h.2.2.1, l⟩, h.2.2.2⟩
theorem kCIof {M' : Km} {own : String} {idx n : Nat} (h : kMdI M' n) (l : Cond.methodLink own idx M'.1 ∈ kTbl) : kCallI M' own idx n := ⟨⟨h.1, h.2.1, h.2.2.1, l⟩, h.2.2.2.1, h.2.2.2.2.1, h.2.2.2.2.2⟩
theorem f_X11_9 : kFld RX11 9 11 0 := ⟨by decide, by decide, (kTbl_in (kwt_3 _ (List.mem_of_getElem? (i := 68) rfl)) rfl)⟩
theorem f_X11_13 : kFld RX11 13 11 1 := ⟨by decide, by decide, (kTbl_in (kwt_3 _ (List.mem_of_getElem? (i := 69) rfl)) rfl)⟩
theorem f_X11_17 : kFld RX11 17 11 2 := ⟨by decide, by decide, (kTbl_in (kwt_3 _ (List.mem_of_getElem? (i := 70) rfl)) rfl)⟩
theorem f_X11_22 : kFld RX11 22 11 3 := ⟨by decide, by decide, (kTbl_in (kwt_3 _ (List.mem_of_getElem? (i := 71) rfl)) rfl)⟩
theorem f_X11_26 : kFld RX11 26 11 4 := ⟨by decide, by decide, (kTbl_in (kwt_3 _ (List.mem_of_getElem? (i := 72) rfl)) rfl)⟩
theorem f_X11_30 : kFld RX11 30 11 5 := ⟨by decide, by decide, (kTbl_in (kwt_3 _ (List.mem_of_getElem? (i := 73) rfl)) rfl)⟩
theorem f_X11_36 : kFld RX11 36 11 6 := ⟨by decide, by decide, (kTbl_in (kwt_3 _ (List.mem_of_getElem? (i := 74) rfl)) rfl)⟩
theorem f_X11_43 : kFld RX11 43 11 7 := ⟨by decide, by decide, (kTbl_in (kwt_3 _ (List.mem_of_getElem? (i := 75) rfl)) rfl)⟩
theorem f_X11_47 : kFld RX11 47 11 8 := ⟨by decide, by decide, (kTbl_in (kwt_3 _ (List.mem_of_getElem? (i := 76) rfl)) rfl)⟩
theorem f_X11_55 : kFld RX11 55 11 9 := ⟨by decide, by decide, (kTbl_in (kwt_3 _ (List.mem_of_getElem? (i := 77) rfl)) rfl)⟩
theorem f_X11_64 : kFld RX11 64 11 10 := ⟨by decide, by decide, (kTbl_in (kwt_3 _ (List.mem_of_getElem? (i := 78) rfl)) rfl)⟩
theorem f_X11_71 : kFld RX11 71 11 11 := ⟨by decide, by decide, (kTbl_in (kwt_3 _ (List.mem_of_getElem? (i := 79) rfl)) rfl)⟩
theorem f_X11_75 : kFld RX11 75 11 12 := ⟨by decide, by decide, (kTbl_in (kwt_3 _ (List.mem_of_getElem? (i := 80) rfl)) rfl)⟩
theorem f_X11_81 : kFld RX11 81 11 13 := ⟨by decide, by decide, (kTbl_in (kwt_3 _ (List.mem_of_getElem? (i := 81) rfl)) rfl)⟩
theorem f_X11_85 : kFld RX11 85 11 14 := ⟨by decide, by decide, (kTbl_in (kwt_3 _ (List.mem_of_getElem? (i := 82) rfl)) rfl)⟩
theorem f_X11_93 : kFld RX11 93 11 15 := ⟨by decide, by decide, (kTbl_in (kwt_3 _ (List.mem_of_getElem? (i := 83) rfl)) rfl)⟩
theorem f_X11_97 : kFld RX11 97 11 16 := ⟨by decide, by decide, (kTbl_in (kwt_3 _ (List.mem_of_getElem? (i := 84) rfl)) rfl)⟩
theorem f_X11_101 : kFld RX11 101 11 17 := ⟨by decide, by decide, (kTbl_in (kwt_3 _ (List.mem_of_getElem? (i := 85) rfl)) rfl)⟩
theorem f_X11_105 : kFld RX11 105 11 18 := ⟨by decide, by decide, (kTbl_in (kwt_3 _ (List.mem_of_getElem? (i := 86) rfl)) rfl)⟩
theorem f_X11_136 : kFld RX11 136 10 3 := ⟨by decide, by decide, (kTbl_in (kwt_3 _ (List.mem_of_getElem? (i := 57) rfl)) rfl)⟩
theorem f_X11_140 : kFld RX11 140 10 0 := ⟨by decide, by decide, (kTbl_in (kwt_3 _ (List.mem_of_getElem? (i := 51) rfl)) rfl)⟩
theorem f_X11_144 : kFld RX11 144 10 1 := ⟨by decide, by decide, (kTbl_in (kwt_3 _ (List.mem_of_getElem? (i := 53) rfl)) rfl)⟩
theorem f_X11_147 : kFld RX11 147 10 2 := ⟨by decide, by decide, (kTbl_in (kwt_3 _ (List.mem_of_getElem? (i := 55) rfl)) rfl)⟩
theorem f_X11_173 : kFld RX11 173 0 5 := ⟨by decide, by decide, (kTbl_in (kwt_2 _ (List.mem_of_getElem? (i := 8) rfl)) rfl)⟩
theorem f_X11_185 : kFld RX11 185 7 1 := ⟨by decide, by decide, (kTbl_in (kwt_2 _ (List.mem_of_getElem? (i := 133) rfl)) rfl)⟩
theorem f_X11_188 : kFld RX11 188 6 8 := ⟨by decide, by decide, (kTbl_in (kwt_1 _ (List.mem_of_getElem? (i := 51) rfl)) rfl)⟩
theorem f_X11_191 : kFld RX11 191 6 9 := ⟨by decide, by decide, (kTbl_in (kwt_1 _ (List.mem_of_getElem? (i := 53) rfl)) rfl)⟩
theorem f_X11_194 : kFld RX11 194 0 0 := ⟨by decide, by decide, (kTbl_in (kwt_1 _ (List.mem_of_getElem? (i := 226) rfl)) rfl)⟩
theorem f_X11_197 : kFld RX11 197 0 1 := ⟨by decide, by decide, (kTbl_in (kwt_1 _ (List.mem_of_getElem? (i := 231) rfl)) rfl)⟩
theorem f_X11_200 : kFld RX11 200 0 6 := ⟨by decide, by decide, (kTbl_in (kwt_2 _ (List.mem_of_getElem? (i := 11) rfl)) rfl)⟩
theorem f_X11_203 : kFld RX11 203 0 7 := ⟨by decide, by decide, (kTbl_in (kwt_2 _ (List.mem_of_getElem? (i := 15) rfl)) rfl)⟩
theorem f_X11_206 : kFld RX11 206 0 2 := ⟨by decide, by decide, (kTbl_in (kwt_1 _ (List.mem_of_getElem? (i := 235) rfl)) rfl)⟩
theorem f_X11_209 : kFld RX11 209 0 3 := ⟨by decide, by decide, (kTbl_in (kwt_1 _ (List.mem_of_getElem? (i := 239) rfl)) rfl)⟩
theorem f_X11_212 : kFld RX11 212 0 4 := ⟨by decide, by decide, (kTbl_in (kwt_2 _ (List.mem_of_getElem? (i := 3) rfl)) rfl)⟩
theorem f_X11_218 : kFld RX11 218 8 1 := ⟨by decide, by decide, (kTbl_in (kwt_2 _ (List.mem_of_getElem? (i := 101) rfl)) rfl)⟩
theorem f_X11_231 : kFld RX11 231 0 8 := ⟨by decide, by decide, (kTbl_in (kwt_2 _ (List.mem_of_getElem? (i := 19) rfl)) rfl)⟩
theorem f_X11_235 : kFld RX11 235 0 9 := ⟨by decide, by decide, (kTbl_in (kwt_2 _ (List.mem_of_getElem? (i := 23) rfl)) rfl)⟩
theorem f_X11_241 : kFld RX11 241 0 10 := ⟨by decide, by decide, (kTbl_in (kwt_2 _ (List.mem_of_getElem? (i := 29) rfl)) rfl)⟩
theorem f_X11_245 : kFld RX11 245 3 1 := ⟨by decide, by decide, (kTbl_in (kwt_1 _ (List.mem_of_getElem? (i := 98) rfl)) rfl)⟩
theorem f_X11_250 : kFld RX11 250 3 2 := ⟨by decide, by decide, (kTbl_in (kwt_1 _ (List.mem_of_getElem? (i := 103) rfl)) rfl)⟩
theorem f_X11_253 : kFld RX11 253 3 3 := ⟨by decide, by decide, (kTbl_in (kwt_1 _ (List.mem_of_getElem? (i := 108) rfl)) rfl)⟩
theorem f_X11_256 : kFld RX11 256 3 4 := ⟨by decide, by decide, (kTbl_in (kwt_1 _ (List.mem_of_getElem? (i := 112) rfl)) rfl)⟩
theorem f_X11_259 : kFld RX11 259 3 5 := ⟨by decide, by decide, (kTbl_in (kwt_1 _ (List.mem_of_getElem? (i := 116) rfl)) rfl)⟩
theorem f_X11_262 : kFld RX11 262 3 7 := ⟨by decide, by decide, (kTbl_in (kwt_1 _ (List.mem_of_getElem? (i := 123) rfl)) rfl)⟩
theorem f_X11_265 : kFld RX11 265 3 8 := ⟨by decide, by decide, (kTbl_in (kwt_1 _ (List.mem_of_getElem? (i := 125) rfl)) rfl)⟩
theorem f_X11_268 : kFld RX11 268 3 6 := ⟨by decide, by decide, (kTbl_in (kwt_1 _ (List.mem_of_getElem? (i := 120) rfl)) rfl)⟩
theorem f_X11_274 : kFld RX11 274 0 11 := ⟨by decide, by decide, (kTbl_in (kwt_2 _ (List.mem_of_getElem? (i := 33) rfl)) rfl)⟩
theorem f_X11_278 : kFld RX11 278 2 1 := ⟨by decide, by decide, (kTbl_in (kwt_1 _ (List.mem_of_getElem? (i := 161) rfl)) rfl)⟩
theorem f_X11_281 : kFld RX11 281 2 2 := ⟨by decide, by decide, (kTbl_in (kwt_1 _ (List.mem_of_getElem? (i := 164) rfl)) rfl)⟩
theorem f_X11_282 : kFld RX11 282 2 3 := ⟨by decide, by decide, (kTbl_in (kwt_1 _ (List.mem_of_getElem? (i := 167) rfl)) rfl)⟩
theorem f_X11_285 : kFld RX11 285 2 4 := ⟨by decide, by decide, (kTbl_in (kwt_1 _ (List.mem_of_getElem? (i := 169) rfl)) rfl)⟩
theorem f_X11_291 : kFld RX11 291 0 12 := ⟨by decide, by decide, (kTbl_in (kwt_2 _ (List.mem_of_getElem? (i := 37) rfl)) rfl)⟩
theorem f_X11_295 : kFld RX11 295 9 1 := ⟨by decide, by decide, (kTbl_in (kwt_1 _ (List.mem_of_getElem? (i := 189) rfl)) rfl)⟩
theorem f_X11_298 : kFld RX11 298 9 2 := ⟨by decide, by decide, (kTbl_in (kwt_1 _ (List.mem_of_getElem? (i := 192) rfl)) rfl)⟩
theorem f_X11_299 : kFld RX11 299 9 3 := ⟨by decide, by decide, (kTbl_in (kwt_1 _ (List.mem_of_getElem? (i := 197) rfl)) rfl)⟩
theorem f_X11_302 : kFld RX11 302 9 4 := ⟨by decide, by decide, (kTbl_in (kwt_1 _ (List.mem_of_getElem? (i := 200) rfl)) rfl)⟩
theorem f_X11_305 : kFld RX11 305 9 5 := ⟨by decide, by decide, (kTbl_in (kwt_1 _ (List.mem_of_getElem? (i := 203) rfl)) rfl)⟩
theorem f_X11_315 : kFld RX11 315 8 2 := ⟨by decide, by decide, (kTbl_in (kwt_2 _ (List.mem_of_getElem? (i := 103) rfl)) rfl)⟩
theorem f_X11_318 : kFld RX11 318 8 3 := ⟨by decide, by decide, (kTbl_in (kwt_2 _ (List.mem_of_getElem? (i := 105) rfl)) rfl)⟩
theorem f_X11_362 : kFld RX11 362 3 9 := ⟨by decide, by decide, (kTbl_in (kwt_1 _ (List.mem_of_getElem? (i := 130) rfl)) rfl)⟩
theorem f_X11_384 : kFld RX11 384 5 2 := ⟨by decide, by decide, (kTbl_in (kwt_2 _ (List.mem_of_getElem? (i := 221) rfl)) rfl)⟩
theorem f_X11_387 : kFld RX11 387 5 3 := ⟨by decide, by decide, (kTbl_in (kwt_2 _ (List.mem_of_getElem? (i := 223) rfl)) rfl)⟩
theorem f_X11_397 : kFld RX11 397 5 7 := ⟨by decide, by decide, (kTbl_in (kwt_2 _ (List.mem_of_getElem? (i := 230) rfl)) rfl)⟩
theorem f_X11_400 : kFld RX11 400 5 6 := ⟨by decide, by decide, (kTbl_in (kwt_2 _ (List.mem_of_getElem? (i := 228) rfl)) rfl)⟩
theorem f_X11_403 : kFld RX11 403 5 5 := ⟨by decide, by decide, (kTbl_in (kwt_2 _ (List.mem_of_getElem? (i := 226) rfl)) rfl)⟩
theorem f_X11_410 : kFld RX11 410 5 14 := ⟨by decide, by decide, (kTbl_in (kwt_3 _ (List.mem_of_getElem? (i := 0) rfl)) rfl)⟩
theorem f_X11_430 : kFld RX11 430 5 17 := ⟨by decide, by decide, (kTbl_in (kwt_3 _ (List.mem_of_getElem? (i := 4) rfl)) rfl)⟩
theorem f_X11_445 : kFld RX11 445 5 12 := ⟨by decide, by decide, (kTbl_in (kwt_2 _ (List.mem_of_getElem? (i := 236) rfl)) rfl)⟩
theorem f_X11_448 : kFld RX11 448 5 13 := ⟨by decide, by decide, (kTbl_in (kwt_2 _ (List.mem_of_getElem? (i := 238) rfl)) rfl)⟩
theorem f_X11_460 : kFld RX11 460 7 0 := ⟨by decide, by decide, (kTbl_in (kwt_2 _ (List.mem_of_getElem? (i := 131) rfl)) rfl)⟩
theorem f_X11_465 : kFld RX11 465 4 1 := ⟨by decide, by decide, (kTbl_in (kwt_2 _ (List.mem_of_getElem? (i := 178) rfl)) rfl)⟩
theorem f_X11_466 : kFld RX11 466 4 0 := ⟨by decide, by decide, (kTbl_in (kwt_2 _ (List.mem_of_getElem? (i := 176) rfl)) rfl)⟩
theorem f_X11_467 : kFld RX11 467 4 2 := ⟨by decide, by decide, (kTbl_in (kwt_2 _ (List.mem_of_getElem? (i := 180) rfl)) rfl)⟩
theorem f_X11_470 : kFld RX11 470 4 3 := ⟨by decide, by decide, (kTbl_in (kwt_2 _ (List.mem_of_getElem? (i := 182) rfl)) rfl)⟩
theorem f_X11_473 : kFld RX11 473 4 4 := ⟨by decide, by decide, (kTbl_in (kwt_2 _ (List.mem_of_getElem? (i := 184) rfl)) rfl)⟩
theorem f_X11_474 : kFld RX11 474 4 5 := ⟨by decide, by decide, (kTbl_in (kwt_2 _ (List.mem_of_getElem? (i := 186) rfl)) rfl)⟩
theorem f_X11_477 : kFld RX11 477 4 6 := ⟨by decide, by decide, (kTbl_in (kwt_2 _ (List.mem_of_getElem? (i := 188) rfl)) rfl)⟩
theorem f_X0_9 : kFld RX0 9 0 0 := ⟨by decide, by decide, (kTbl_in (kwt_1 _ (List.mem_of_getElem? (i := 222) rfl)) rfl)⟩
theorem f_X0_15 : kFld RX0 15 0 1 := ⟨by decide, by decide, (kTbl_in (kwt_1 _ (List.mem_of_getElem? (i := 227) rfl)) rfl)⟩
theorem f_X0_18 : kFld RX0 18 0 2 := ⟨by decide, by decide, (kTbl_in (kwt_1 _ (List.mem_of_getElem? (i := 232) rfl)) rfl)⟩
theorem f_X0_21 : kFld RX0 21 0 3 := ⟨by decide, by decide, (kTbl_in (kwt_1 _ (List.mem_of_getElem? (i := 236) rfl)) rfl)⟩
theorem f_X0_24 : kFld RX0 24 0 4 := ⟨by decide, by decide, (kTbl_in (kwt_2 _ (List.mem_of_getElem? (i := 0) rfl)) rfl)⟩
theorem f_X0_27 : kFld RX0 27 0 5 := ⟨by decide, by decide, (kTbl_in (kwt_2 _ (List.mem_of_getElem? (i := 4) rfl)) rfl)⟩
theorem f_X0_30 : kFld RX0 30 0 6 := ⟨by decide, by decide, (kTbl_in (kwt_2 _ (List.mem_of_getElem? (i := 9) rfl)) rfl)⟩
theorem f_X0_33 : kFld RX0 33 0 7 := ⟨by decide, by decide, (kTbl_in (kwt_2 _ (List.mem_of_getElem? (i := 12) rfl)) rfl)⟩
theorem f_X0_36 : kFld RX0 36 0 8 := ⟨by decide, by decide, (kTbl_in (kwt_2 _ (List.mem_of_getElem? (i := 16) rfl)) rfl)⟩
theorem f_X0_40 : kFld RX0 40 0 9 := ⟨by decide, by decide, (kTbl_in (kwt_2 _ (List.mem_of_getElem? (i := 20) rfl)) rfl)⟩
theorem f_X0_45 : kFld RX0 45 0 10 := ⟨by decide, by decide, (kTbl_in (kwt_2 _ (List.mem_of_getElem? (i := 24) rfl)) rfl)⟩
theorem f_X0_51 : kFld RX0 51 0 11 := ⟨by decide, by decide, (kTbl_in (kwt_2 _ (List.mem_of_getElem? (i := 30) rfl)) rfl)⟩
theorem f_X0_57 : kFld RX0 57 0 12 := ⟨by decide, by decide, (kTbl_in (kwt_2 _ (List.mem_of_getElem? (i := 34) rfl)) rfl)⟩
theorem f_X0_93 : kFld RX0 93 9 0 := ⟨by decide, by decide, (kTbl_in (kwt_1 _ (List.mem_of_getElem? (i := 187) rfl)) rfl)⟩
theorem f_X0_104 : kFld RX0 104 3 0 := ⟨by decide, by decide, (kTbl_in (kwt_1 _ (List.mem_of_getElem? (i := 94) rfl)) rfl)⟩
theorem f_X0_105 : kFld RX0 105 2 0 := ⟨by decide, by decide, (kTbl_in (kwt_1 _ (List.mem_of_getElem? (i := 159) rfl)) rfl)⟩
theorem f_X0_106 : kFld RX0 106 3 9 := ⟨by decide, by decide, (kTbl_in (kwt_1 _ (List.mem_of_getElem? (i := 129) rfl)) rfl)⟩
theorem f_X0_114 : kFld RX0 114 3 1 := ⟨by decide, by decide, (kTbl_in (kwt_1 _ (List.mem_of_getElem? (i := 99) rfl)) rfl)⟩
theorem f_X0_120 : kFld RX0 120 3 2 := ⟨by decide, by decide, (kTbl_in (kwt_1 _ (List.mem_of_getElem? (i := 104) rfl)) rfl)⟩
theorem f_X0_126 : kFld RX0 126 3 8 := ⟨by decide, by decide, (kTbl_in (kwt_1 _ (List.mem_of_getElem? (i := 126) rfl)) rfl)⟩
theorem f_X0_167 : kFld RX0 167 2 1 := ⟨by decide, by decide, (kTbl_in (kwt_1 _ (List.mem_of_getElem? (i := 162) rfl)) rfl)⟩
theorem f_X0_168 : kFld RX0 168 2 2 := ⟨by decide, by decide, (kTbl_in (kwt_1 _ (List.mem_of_getElem? (i := 165) rfl)) rfl)⟩
theorem f_X0_179 : kFld RX0 179 9 1 := ⟨by decide, by decide, (kTbl_in (kwt_1 _ (List.mem_of_getElem? (i := 190) rfl)) rfl)⟩
theorem f_X0_180 : kFld RX0 180 9 2 := ⟨by decide, by decide, (kTbl_in (kwt_1 _ (List.mem_of_getElem? (i := 193) rfl)) rfl)⟩
theorem f_X0_181 : kFld RX0 181 9 3 := ⟨by decide, by decide, (kTbl_in (kwt_1 _ (List.mem_of_getElem? (i := 198) rfl)) rfl)⟩
theorem f_X0_184 : kFld RX0 184 9 4 := ⟨by decide, by decide, (kTbl_in (kwt_1 _ (List.mem_of_getElem? (i := 201) rfl)) rfl)⟩
theorem f_X0_191 : kFld RX0 191 9 5 := ⟨by decide, by decide, (kTbl_in (kwt_1 _ (List.mem_of_getElem? (i := 204) rfl)) rfl)⟩
theorem f_X1_9 : kFld RX1 9 1 2 := ⟨by decide, by decide, (kTbl_in (kwt_2 _ (List.mem_of_getElem? (i := 73) rfl)) rfl)⟩
theorem f_X1_15 : kFld RX1 15 1 3 := ⟨by decide, by decide, (kTbl_in (kwt_2 _ (List.mem_of_getElem? (i := 74) rfl)) rfl)⟩
theorem f_X1_18 : kFld RX1 18 1 4 := ⟨by decide, by decide, (kTbl_in (kwt_2 _ (List.mem_of_getElem? (i := 75) rfl)) rfl)⟩
theorem f_X1_22 : kFld RX1 22 1 5 := ⟨by decide, by decide, (kTbl_in (kwt_2 _ (List.mem_of_getElem? (i := 76) rfl)) rfl)⟩
theorem f_X1_26 : kFld RX1 26 1 6 := ⟨by decide, by decide, (kTbl_in (kwt_2 _ (List.mem_of_getElem? (i := 77) rfl)) rfl)⟩
theorem f_X1_29 : kFld RX1 29 1 0 := ⟨by decide, by decide, (kTbl_in (kwt_2 _ (List.mem_of_getElem? (i := 71) rfl)) rfl)⟩
theorem f_X1_33 : kFld RX1 33 1 1 := ⟨by decide, by decide, (kTbl_in (kwt_2 _ (List.mem_of_getElem? (i := 72) rfl)) rfl)⟩
theorem f_X1_108 : kFld RX1 108 6 7 := ⟨by decide, by decide, (kTbl_in (kwt_1 _ (List.mem_of_getElem? (i := 47) rfl)) rfl)⟩
theorem f_X1_111 : kFld RX1 111 0 0 := ⟨by decide, by decide, (kTbl_in (kwt_1 _ (List.mem_of_getElem? (i := 224) rfl)) rfl)⟩
theorem f_X1_116 : kFld RX1 116 0 1 := ⟨by decide, by decide, (kTbl_in (kwt_1 _ (List.mem_of_getElem? (i := 229) rfl)) rfl)⟩
theorem f_X1_122 : kFld RX1 122 0 8 := ⟨by decide, by decide, (kTbl_in (kwt_2 _ (List.mem_of_getElem? (i := 18) rfl)) rfl)⟩
theorem f_X1_126 : kFld RX1 126 0 9 := ⟨by decide, by decide, (kTbl_in (kwt_2 _ (List.mem_of_getElem? (i := 22) rfl)) rfl)⟩
theorem f_X1_129 : kFld RX1 129 0 2 := ⟨by decide, by decide, (kTbl_in (kwt_1 _ (List.mem_of_getElem? (i := 234) rfl)) rfl)⟩
theorem f_X1_131 : kFld RX1 131 0 3 := ⟨by decide, by decide, (kTbl_in (kwt_1 _ (List.mem_of_getElem? (i := 237) rfl)) rfl)⟩
theorem f_X1_133 : kFld RX1 133 0 5 := ⟨by decide, by decide, (kTbl_in (kwt_2 _ (List.mem_of_getElem? (i := 6) rfl)) rfl)⟩
theorem f_X1_142 : kFld RX1 142 0 10 := ⟨by decide, by decide, (kTbl_in (kwt_2 _ (List.mem_of_getElem? (i := 28) rfl)) rfl)⟩
theorem f_X1_158 : kFld RX1 158 3 3 := ⟨by decide, by decide, (kTbl_in (kwt_1 _ (List.mem_of_getElem? (i := 107) rfl)) rfl)⟩
theorem f_X1_162 : kFld RX1 162 3 4 := ⟨by decide, by decide, (kTbl_in (kwt_1 _ (List.mem_of_getElem? (i := 111) rfl)) rfl)⟩
theorem f_X1_166 : kFld RX1 166 3 5 := ⟨by decide, by decide, (kTbl_in (kwt_1 _ (List.mem_of_getElem? (i := 115) rfl)) rfl)⟩
theorem f_X1_170 : kFld RX1 170 3 6 := ⟨by decide, by decide, (kTbl_in (kwt_1 _ (List.mem_of_getElem? (i := 119) rfl)) rfl)⟩
theorem f_X1_172 : kFld RX1 172 6 8 := ⟨by decide, by decide, (kTbl_in (kwt_1 _ (List.mem_of_getElem? (i := 50) rfl)) rfl)⟩
theorem f_X1_175 : kFld RX1 175 0 6 := ⟨by decide, by decide, (kTbl_in (kwt_2 _ (List.mem_of_getElem? (i := 10) rfl)) rfl)⟩
theorem f_X1_180 : kFld RX1 180 0 11 := ⟨by decide, by decide, (kTbl_in (kwt_2 _ (List.mem_of_getElem? (i := 32) rfl)) rfl)⟩
theorem f_X1_189 : kFld RX1 189 0 7 := ⟨by decide, by decide, (kTbl_in (kwt_2 _ (List.mem_of_getElem? (i := 14) rfl)) rfl)⟩
theorem f_X1_197 : kFld RX1 197 6 6 := ⟨by decide, by decide, (kTbl_in (kwt_1 _ (List.mem_of_getElem? (i := 45) rfl)) rfl)⟩
theorem f_X1_202 : kFld RX1 202 0 12 := ⟨by decide, by decide, (kTbl_in (kwt_2 _ (List.mem_of_getElem? (i := 36) rfl)) rfl)⟩
theorem f_X2_9 : kFld RX2 9 2 0 := ⟨by decide, by decide, (kTbl_in (kwt_1 _ (List.mem_of_getElem? (i := 158) rfl)) rfl)⟩
theorem f_X2_15 : kFld RX2 15 2 1 := ⟨by decide, by decide, (kTbl_in (kwt_1 _ (List.mem_of_getElem? (i := 160) rfl)) rfl)⟩
theorem f_X2_19 : kFld RX2 19 2 2 := ⟨by decide, by decide, (kTbl_in (kwt_1 _ (List.mem_of_getElem? (i := 163) rfl)) rfl)⟩
theorem f_X2_22 : kFld RX2 22 2 3 := ⟨by decide, by decide, (kTbl_in (kwt_1 _ (List.mem_of_getElem? (i := 166) rfl)) rfl)⟩
theorem f_X2_25 : kFld RX2 25 2 4 := ⟨by decide, by decide, (kTbl_in (kwt_1 _ (List.mem_of_getElem? (i := 168) rfl)) rfl)⟩
theorem f_X3_9 : kFld RX3 9 3 0 := ⟨by decide, by decide, (kTbl_in (kwt_1 _ (List.mem_of_getElem? (i := 93) rfl)) rfl)⟩
theorem f_X3_15 : kFld RX3 15 3 1 := ⟨by decide, by decide, (kTbl_in (kwt_1 _ (List.mem_of_getElem? (i := 95) rfl)) rfl)⟩
theorem f_X3_19 : kFld RX3 19 3 2 := ⟨by decide, by decide, (kTbl_in (kwt_1 _ (List.mem_of_getElem? (i := 100) rfl)) rfl)⟩
theorem f_X3_22 : kFld RX3 22 3 3 := ⟨by decide, by decide, (kTbl_in (kwt_1 _ (List.mem_of_getElem? (i := 105) rfl)) rfl)⟩
theorem f_X3_25 : kFld RX3 25 3 4 := ⟨by decide, by decide, (kTbl_in (kwt_1 _ (List.mem_of_getElem? (i := 109) rfl)) rfl)⟩
theorem f_X3_28 : kFld RX3 28 3 5 := ⟨by decide, by decide, (kTbl_in (kwt_1 _ (List.mem_of_getElem? (i := 113) rfl)) rfl)⟩
theorem f_X3_31 : kFld RX3 31 3 6 := ⟨by decide, by decide, (kTbl_in (kwt_1 _ (List.mem_of_getElem? (i := 117) rfl)) rfl)⟩
theorem f_X3_34 : kFld RX3 34 3 7 := ⟨by decide, by decide, (kTbl_in (kwt_1 _ (List.mem_of_getElem? (i := 121) rfl)) rfl)⟩
theorem f_X3_37 : kFld RX3 37 3 8 := ⟨by decide, by decide, (kTbl_in (kwt_1 _ (List.mem_of_getElem? (i := 124) rfl)) rfl)⟩
theorem f_X3_40 : kFld RX3 40 3 9 := ⟨by decide, by decide, (kTbl_in (kwt_1 _ (List.mem_of_getElem? (i := 127) rfl)) rfl)⟩
theorem f_X4_9 : kFld RX4 9 4 0 := ⟨by decide, by decide, (kTbl_in (kwt_2 _ (List.mem_of_getElem? (i := 175) rfl)) rfl)⟩
theorem f_X4_15 : kFld RX4 15 4 1 := ⟨by decide, by decide, (kTbl_in (kwt_2 _ (List.mem_of_getElem? (i := 177) rfl)) rfl)⟩
theorem f_X4_19 : kFld RX4 19 4 2 := ⟨by decide, by decide, (kTbl_in (kwt_2 _ (List.mem_of_getElem? (i := 179) rfl)) rfl)⟩
theorem f_X4_22 : kFld RX4 22 4 3 := ⟨by decide, by decide, (kTbl_in (kwt_2 _ (List.mem_of_getElem? (i := 181) rfl)) rfl)⟩
theorem f_X4_25 : kFld RX4 25 4 4 := ⟨by decide, by decide, (kTbl_in (kwt_2 _ (List.mem_of_getElem? (i := 183) rfl)) rfl)⟩
theorem f_X4_28 : kFld RX4 28 4 5 := ⟨by decide, by decide, (kTbl_in (kwt_2 _ (List.mem_of_getElem? (i := 185) rfl)) rfl)⟩
theorem f_X4_31 : kFld RX4 31 4 6 := ⟨by decide, by decide, (kTbl_in (kwt_2 _ (List.mem_of_getElem? (i := 187) rfl)) rfl)⟩
theorem f_X4_34 : kFld RX4 34 4 7 := ⟨by decide, by decide, (kTbl_in (kwt_2 _ (List.mem_of_getElem? (i := 189) rfl)) rfl)⟩
theorem f_X4_39 : kFld RX4 39 4 8 := ⟨by decide, by decide, (kTbl_in (kwt_2 _ (List.mem_of_getElem? (i := 190) rfl)) rfl)⟩
theorem f_X4_44 : kFld RX4 44 7 2 := ⟨by decide, by decide, (kTbl_in (kwt_2 _ (List.mem_of_getElem? (i := 135) rfl)) rfl)⟩
theorem f_X4_47 : kFld RX4 47 7 3 := ⟨by decide, by decide, (kTbl_in (kwt_2 _ (List.mem_of_getElem? (i := 137) rfl)) rfl)⟩
theorem f_X4_58 : kFld RX4 58 7 7 := ⟨by decide, by decide, (kTbl_in (kwt_2 _ (List.mem_of_getElem? (i := 145) rfl)) rfl)⟩
theorem f_X4_61 : kFld RX4 61 7 5 := ⟨by decide, by decide, (kTbl_in (kwt_2 _ (List.mem_of_getElem? (i := 141) rfl)) rfl)⟩
theorem f_X4_64 : kFld RX4 64 7 6 := ⟨by decide, by decide, (kTbl_in (kwt_2 _ (List.mem_of_getElem? (i := 143) rfl)) rfl)⟩
theorem f_X4_67 : kFld RX4 67 0 4 := ⟨by decide, by decide, (kTbl_in (kwt_2 _ (List.mem_of_getElem? (i := 2) rfl)) rfl)⟩
theorem f_X4_86 : kFld RX4 86 0 10 := ⟨by decide, by decide, (kTbl_in (kwt_2 _ (List.mem_of_getElem? (i := 26) rfl)) rfl)⟩
theorem f_X4_110 : kFld RX4 110 3 9 := ⟨by decide, by decide, (kTbl_in (kwt_1 _ (List.mem_of_getElem? (i := 128) rfl)) rfl)⟩
theorem f_X4_115 : kFld RX4 115 7 4 := ⟨by decide, by decide, (kTbl_in (kwt_2 _ (List.mem_of_getElem? (i := 139) rfl)) rfl)⟩
theorem f_X4_118 : kFld RX4 118 3 7 := ⟨by decide, by decide, (kTbl_in (kwt_1 _ (List.mem_of_getElem? (i := 122) rfl)) rfl)⟩
theorem f_X4_121 : kFld RX4 121 0 11 := ⟨by decide, by decide, (kTbl_in (kwt_2 _ (List.mem_of_getElem? (i := 31) rfl)) rfl)⟩
theorem f_X5_9 : kFld RX5 9 5 2 := ⟨by decide, by decide, (kTbl_in (kwt_2 _ (List.mem_of_getElem? (i := 220) rfl)) rfl)⟩
theorem f_X5_15 : kFld RX5 15 5 3 := ⟨by decide, by decide, (kTbl_in (kwt_2 _ (List.mem_of_getElem? (i := 222) rfl)) rfl)⟩
theorem f_X5_18 : kFld RX5 18 5 4 := ⟨by decide, by decide, (kTbl_in (kwt_2 _ (List.mem_of_getElem? (i := 224) rfl)) rfl)⟩
theorem f_X5_22 : kFld RX5 22 5 5 := ⟨by decide, by decide, (kTbl_in (kwt_2 _ (List.mem_of_getElem? (i := 225) rfl)) rfl)⟩
theorem f_X5_25 : kFld RX5 25 5 6 := ⟨by decide, by decide, (kTbl_in (kwt_2 _ (List.mem_of_getElem? (i := 227) rfl)) rfl)⟩
theorem f_X5_28 : kFld RX5 28 5 7 := ⟨by decide, by decide, (kTbl_in (kwt_2 _ (List.mem_of_getElem? (i := 229) rfl)) rfl)⟩
theorem f_X5_31 : kFld RX5 31 5 8 := ⟨by decide, by decide, (kTbl_in (kwt_2 _ (List.mem_of_getElem? (i := 231) rfl)) rfl)⟩
theorem f_X5_34 : kFld RX5 34 5 9 := ⟨by decide, by decide, (kTbl_in (kwt_2 _ (List.mem_of_getElem? (i := 232) rfl)) rfl)⟩
theorem f_X5_37 : kFld RX5 37 5 10 := ⟨by decide, by decide, (kTbl_in (kwt_2 _ (List.mem_of_getElem? (i := 233) rfl)) rfl)⟩
theorem f_X5_40 : kFld RX5 40 5 11 := ⟨by decide, by decide, (kTbl_in (kwt_2 _ (List.mem_of_getElem? (i := 234) rfl)) rfl)⟩
theorem f_X5_43 : kFld RX5 43 5 12 := ⟨by decide, by decide, (kTbl_in (kwt_2 _ (List.mem_of_getElem? (i := 235) rfl)) rfl)⟩
theorem f_X5_46 : kFld RX5 46 5 13 := ⟨by decide, by decide, (kTbl_in (kwt_2 _ (List.mem_of_getElem? (i := 237) rfl)) rfl)⟩
theorem f_X5_49 : kFld RX5 49 5 14 := ⟨by decide, by decide, (kTbl_in (kwt_2 _ (List.mem_of_getElem? (i := 239) rfl)) rfl)⟩
theorem f_X5_52 : kFld RX5 52 5 15 := ⟨by decide, by decide, (kTbl_in (kwt_3 _ (List.mem_of_getElem? (i := 1) rfl)) rfl)⟩
theorem f_X5_55 : kFld RX5 55 5 16 := ⟨by decide, by decide, (kTbl_in (kwt_3 _ (List.mem_of_getElem? (i := 2) rfl)) rfl)⟩
theorem f_X5_61 : kFld RX5 61 5 17 := ⟨by decide, by decide, (kTbl_in (kwt_3 _ (List.mem_of_getElem? (i := 3) rfl)) rfl)⟩
theorem f_X5_64 : kFld RX5 64 5 0 := ⟨by decide, by decide, (kTbl_in (kwt_2 _ (List.mem_of_getElem? (i := 218) rfl)) rfl)⟩
theorem f_X5_68 : kFld RX5 68 5 1 := ⟨by decide, by decide, (kTbl_in (kwt_2 _ (List.mem_of_getElem? (i := 219) rfl)) rfl)⟩
theorem f_X5_78 : kFld RX5 78 0 4 := ⟨by decide, by decide, (kTbl_in (kwt_2 _ (List.mem_of_getElem? (i := 1) rfl)) rfl)⟩
theorem f_X5_84 : kFld RX5 84 0 1 := ⟨by decide, by decide, (kTbl_in (kwt_1 _ (List.mem_of_getElem? (i := 228) rfl)) rfl)⟩
theorem f_X5_87 : kFld RX5 87 0 0 := ⟨by decide, by decide, (kTbl_in (kwt_1 _ (List.mem_of_getElem? (i := 223) rfl)) rfl)⟩
theorem f_X5_106 : kFld RX5 106 0 10 := ⟨by decide, by decide, (kTbl_in (kwt_2 _ (List.mem_of_getElem? (i := 27) rfl)) rfl)⟩
theorem f_X5_110 : kFld RX5 110 3 1 := ⟨by decide, by decide, (kTbl_in (kwt_1 _ (List.mem_of_getElem? (i := 97) rfl)) rfl)⟩
theorem f_X5_115 : kFld RX5 115 3 2 := ⟨by decide, by decide, (kTbl_in (kwt_1 _ (List.mem_of_getElem? (i := 102) rfl)) rfl)⟩
theorem f_X5_161 : kFld RX5 161 0 7 := ⟨by decide, by decide, (kTbl_in (kwt_2 _ (List.mem_of_getElem? (i := 13) rfl)) rfl)⟩
theorem f_X5_164 : kFld RX5 164 0 12 := ⟨by decide, by decide, (kTbl_in (kwt_2 _ (List.mem_of_getElem? (i := 35) rfl)) rfl)⟩
theorem f_X5_168 : kFld RX5 168 9 3 := ⟨by decide, by decide, (kTbl_in (kwt_1 _ (List.mem_of_getElem? (i := 195) rfl)) rfl)⟩
theorem f_X5_179 : kFld RX5 179 0 5 := ⟨by decide, by decide, (kTbl_in (kwt_2 _ (List.mem_of_getElem? (i := 7) rfl)) rfl)⟩
theorem f_X6_9 : kFld RX6 9 6 0 := ⟨by decide, by decide, (kTbl_in (kwt_1 _ (List.mem_of_getElem? (i := 37) rfl)) rfl)⟩
theorem f_X6_15 : kFld RX6 15 6 1 := ⟨by decide, by decide, (kTbl_in (kwt_1 _ (List.mem_of_getElem? (i := 38) rfl)) rfl)⟩
theorem f_X6_19 : kFld RX6 19 6 2 := ⟨by decide, by decide, (kTbl_in (kwt_1 _ (List.mem_of_getElem? (i := 39) rfl)) rfl)⟩
theorem f_X6_22 : kFld RX6 22 6 3 := ⟨by decide, by decide, (kTbl_in (kwt_1 _ (List.mem_of_getElem? (i := 40) rfl)) rfl)⟩
theorem f_X6_25 : kFld RX6 25 6 4 := ⟨by decide, by decide, (kTbl_in (kwt_1 _ (List.mem_of_getElem? (i := 41) rfl)) rfl)⟩
theorem f_X6_28 : kFld RX6 28 6 5 := ⟨by decide, by decide, (kTbl_in (kwt_1 _ (List.mem_of_getElem? (i := 42) rfl)) rfl)⟩
theorem f_X6_31 : kFld RX6 31 6 6 := ⟨by decide, by decide, (kTbl_in (kwt_1 _ (List.mem_of_getElem? (i := 43) rfl)) rfl)⟩
theorem f_X6_35 : kFld RX6 35 6 7 := ⟨by decide, by decide, (kTbl_in (kwt_1 _ (List.mem_of_getElem? (i := 46) rfl)) rfl)⟩
theorem f_X6_38 : kFld RX6 38 6 8 := ⟨by decide, by decide, (kTbl_in (kwt_1 _ (List.mem_of_getElem? (i := 49) rfl)) rfl)⟩
theorem f_X6_41 : kFld RX6 41 6 9 := ⟨by decide, by decide, (kTbl_in (kwt_1 _ (List.mem_of_getElem? (i := 52) rfl)) rfl)⟩
theorem f_X7_9 : kFld RX7 9 7 0 := ⟨by decide, by decide, (kTbl_in (kwt_2 _ (List.mem_of_getElem? (i := 130) rfl)) rfl)⟩
theorem f_X7_15 : kFld RX7 15 7 1 := ⟨by decide, by decide, (kTbl_in (kwt_2 _ (List.mem_of_getElem? (i := 132) rfl)) rfl)⟩
theorem f_X7_19 : kFld RX7 19 7 2 := ⟨by decide, by decide, (kTbl_in (kwt_2 _ (List.mem_of_getElem? (i := 134) rfl)) rfl)⟩
theorem f_X7_22 : kFld RX7 22 7 3 := ⟨by decide, by decide, (kTbl_in (kwt_2 _ (List.mem_of_getElem? (i := 136) rfl)) rfl)⟩
theorem f_X7_26 : kFld RX7 26 7 4 := ⟨by decide, by decide, (kTbl_in (kwt_2 _ (List.mem_of_getElem? (i := 138) rfl)) rfl)⟩
theorem f_X7_29 : kFld RX7 29 7 5 := ⟨by decide, by decide, (kTbl_in (kwt_2 _ (List.mem_of_getElem? (i := 140) rfl)) rfl)⟩
theorem f_X7_32 : kFld RX7 32 7 6 := ⟨by decide, by decide, (kTbl_in (kwt_2 _ (List.mem_of_getElem? (i := 142) rfl)) rfl)⟩
theorem f_X7_35 : kFld RX7 35 7 7 := ⟨by decide, by decide, (kTbl_in (kwt_2 _ (List.mem_of_getElem? (i := 144) rfl)) rfl)⟩
theorem f_X7_38 : kFld RX7 38 7 8 := ⟨by decide, by decide, (kTbl_in (kwt_2 _ (List.mem_of_getElem? (i := 146) rfl)) rfl)⟩
theorem f_X7_41 : kFld RX7 41 7 9 := ⟨by decide, by decide, (kTbl_in (kwt_2 _ (List.mem_of_getElem? (i := 147) rfl)) rfl)⟩
theorem f_X7_122 : kFld RX7 122 6 6 := ⟨by decide, by decide, (kTbl_in (kwt_1 _ (List.mem_of_getElem? (i := 44) rfl)) rfl)⟩
theorem f_X7_150 : kFld RX7 150 6 7 := ⟨by decide, by decide, (kTbl_in (kwt_1 _ (List.mem_of_getElem? (i := 48) rfl)) rfl)⟩
theorem f_X8_9 : kFld RX8 9 8 1 := ⟨by decide, by decide, (kTbl_in (kwt_2 _ (List.mem_of_getElem? (i := 100) rfl)) rfl)⟩
theorem f_X8_15 : kFld RX8 15 8 2 := ⟨by decide, by decide, (kTbl_in (kwt_2 _ (List.mem_of_getElem? (i := 102) rfl)) rfl)⟩
theorem f_X8_19 : kFld RX8 19 8 3 := ⟨by decide, by decide, (kTbl_in (kwt_2 _ (List.mem_of_getElem? (i := 104) rfl)) rfl)⟩
theorem f_X8_22 : kFld RX8 22 8 4 := ⟨by decide, by decide, (kTbl_in (kwt_2 _ (List.mem_of_getElem? (i := 106) rfl)) rfl)⟩
theorem f_X8_25 : kFld RX8 25 8 5 := ⟨by decide, by decide, (kTbl_in (kwt_2 _ (List.mem_of_getElem? (i := 107) rfl)) rfl)⟩
theorem f_X8_28 : kFld RX8 28 8 6 := ⟨by decide, by decide, (kTbl_in (kwt_2 _ (List.mem_of_getElem? (i := 108) rfl)) rfl)⟩
theorem f_X8_31 : kFld RX8 31 8 0 := ⟨by decide, by decide, (kTbl_in (kwt_2 _ (List.mem_of_getElem? (i := 99) rfl)) rfl)⟩
theorem f_X8_48 : kFld RX8 48 0 9 := ⟨by decide, by decide, (kTbl_in (kwt_2 _ (List.mem_of_getElem? (i := 21) rfl)) rfl)⟩
theorem f_X8_51 : kFld RX8 51 0 8 := ⟨by decide, by decide, (kTbl_in (kwt_2 _ (List.mem_of_getElem? (i := 17) rfl)) rfl)⟩
theorem f_X8_54 : kFld RX8 54 0 5 := ⟨by decide, by decide, (kTbl_in (kwt_2 _ (List.mem_of_getElem? (i := 5) rfl)) rfl)⟩
theorem f_X8_57 : kFld RX8 57 0 10 := ⟨by decide, by decide, (kTbl_in (kwt_2 _ (List.mem_of_getElem? (i := 25) rfl)) rfl)⟩
theorem f_X8_61 : kFld RX8 61 3 4 := ⟨by decide, by decide, (kTbl_in (kwt_1 _ (List.mem_of_getElem? (i := 110) rfl)) rfl)⟩
theorem f_X8_66 : kFld RX8 66 3 6 := ⟨by decide, by decide, (kTbl_in (kwt_1 _ (List.mem_of_getElem? (i := 118) rfl)) rfl)⟩
theorem f_X8_69 : kFld RX8 69 3 1 := ⟨by decide, by decide, (kTbl_in (kwt_1 _ (List.mem_of_getElem? (i := 96) rfl)) rfl)⟩
theorem f_X8_75 : kFld RX8 75 3 2 := ⟨by decide, by decide, (kTbl_in (kwt_1 _ (List.mem_of_getElem? (i := 101) rfl)) rfl)⟩
theorem f_X8_81 : kFld RX8 81 0 2 := ⟨by decide, by decide, (kTbl_in (kwt_1 _ (List.mem_of_getElem? (i := 233) rfl)) rfl)⟩
theorem f_X8_84 : kFld RX8 84 3 3 := ⟨by decide, by decide, (kTbl_in (kwt_1 _ (List.mem_of_getElem? (i := 106) rfl)) rfl)⟩
theorem f_X8_93 : kFld RX8 93 3 5 := ⟨by decide, by decide, (kTbl_in (kwt_1 _ (List.mem_of_getElem? (i := 114) rfl)) rfl)⟩
theorem f_X8_107 : kFld RX8 107 0 1 := ⟨by decide, by decide, (kTbl_in (kwt_1 _ (List.mem_of_getElem? (i := 230) rfl)) rfl)⟩
theorem f_X8_113 : kFld RX8 113 0 0 := ⟨by decide, by decide, (kTbl_in (kwt_1 _ (List.mem_of_getElem? (i := 225) rfl)) rfl)⟩
theorem f_X8_119 : kFld RX8 119 0 3 := ⟨by decide, by decide, (kTbl_in (kwt_1 _ (List.mem_of_getElem? (i := 238) rfl)) rfl)⟩
theorem f_X8_131 : kFld RX8 131 9 3 := ⟨by decide, by decide, (kTbl_in (kwt_1 _ (List.mem_of_getElem? (i := 196) rfl)) rfl)⟩
theorem f_X9_7 : kFld RX9 7 9 0 := ⟨by decide, by decide, (kTbl_in (kwt_1 _ (List.mem_of_getElem? (i := 186) rfl)) rfl)⟩
theorem f_X9_13 : kFld RX9 13 9 1 := ⟨by decide, by decide, (kTbl_in (kwt_1 _ (List.mem_of_getElem? (i := 188) rfl)) rfl)⟩
theorem f_X9_17 : kFld RX9 17 9 2 := ⟨by decide, by decide, (kTbl_in (kwt_1 _ (List.mem_of_getElem? (i := 191) rfl)) rfl)⟩
theorem f_X9_20 : kFld RX9 20 9 3 := ⟨by decide, by decide, (kTbl_in (kwt_1 _ (List.mem_of_getElem? (i := 194) rfl)) rfl)⟩
theorem f_X9_23 : kFld RX9 23 9 4 := ⟨by decide, by decide, (kTbl_in (kwt_1 _ (List.mem_of_getElem? (i := 199) rfl)) rfl)⟩
theorem f_X9_26 : kFld RX9 26 9 5 := ⟨by decide, by decide, (kTbl_in (kwt_1 _ (List.mem_of_getElem? (i := 202) rfl)) rfl)⟩
theorem f_X10_9 : kFld RX10 9 10 0 := ⟨by decide, by decide, (kTbl_in (kwt_3 _ (List.mem_of_getElem? (i := 50) rfl)) rfl)⟩
theorem f_X10_15 : kFld RX10 15 10 1 := ⟨by decide, by decide, (kTbl_in (kwt_3 _ (List.mem_of_getElem? (i := 52) rfl)) rfl)⟩
theorem f_X10_19 : kFld RX10 19 10 2 := ⟨by decide, by decide, (kTbl_in (kwt_3 _ (List.mem_of_getElem? (i := 54) rfl)) rfl)⟩
theorem f_X10_22 : kFld RX10 22 10 3 := ⟨by decide, by decide, (kTbl_in (kwt_3 _ (List.mem_of_getElem? (i := 56) rfl)) rfl)⟩
theorem f_X12_7 : kFld RX12 7 12 0 := ⟨by decide, by decide, (kTbl_in (kwt_7 _ (List.mem_of_getElem? (i := 92) rfl)) rfl)⟩
theorem f_X12_13 : kFld RX12 13 12 1 := ⟨by decide, by decide, (kTbl_in (kwt_7 _ (List.mem_of_getElem? (i := 93) rfl)) rfl)⟩
theorem f_X12_17 : kFld RX12 17 12 4 := ⟨by decide, by decide, (kTbl_in (kwt_7 _ (List.mem_of_getElem? (i := 96) rfl)) rfl)⟩
theorem f_X12_21 : kFld RX12 21 12 5 := ⟨by decide, by decide, (kTbl_in (kwt_7 _ (List.mem_of_getElem? (i := 97) rfl)) rfl)⟩
theorem f_X12_24 : kFld RX12 24 12 6 := ⟨by decide, by decide, (kTbl_in (kwt_7 _ (List.mem_of_getElem? (i := 98) rfl)) rfl)⟩
theorem f_X12_27 : kFld RX12 27 12 7 := ⟨by decide, by decide, (kTbl_in (kwt_7 _ (List.mem_of_getElem? (i := 99) rfl)) rfl)⟩
theorem f_X12_30 : kFld RX12 30 12 8 := ⟨by decide, by decide, (kTbl_in (kwt_7 _ (List.mem_of_getElem? (i := 100) rfl)) rfl)⟩
theorem f_X12_34 : kFld RX12 34 12 9 := ⟨by decide, by decide, (kTbl_in (kwt_7 _ (List.mem_of_getElem? (i := 101) rfl)) rfl)⟩
theorem f_X12_37 : kFld RX12 37 12 16 := ⟨by decide, by decide, (kTbl_in (kwt_7 _ (List.mem_of_getElem? (i := 108) rfl)) rfl)⟩
theorem f_X12_41 : kFld RX12 41 12 17 := ⟨by decide, by decide, (kTbl_in (kwt_7 _ (List.mem_of_getElem? (i := 109) rfl)) rfl)⟩
theorem f_X12_44 : kFld RX12 44 12 21 := ⟨by decide, by decide, (kTbl_in (kwt_7 _ (List.mem_of_getElem? (i := 113) rfl)) rfl)⟩
theorem f_X12_47 : kFld RX12 47 12 24 := ⟨by decide, by decide, (kTbl_in (kwt_7 _ (List.mem_of_getElem? (i := 116) rfl)) rfl)⟩
theorem f_X12_50 : kFld RX12 50 12 25 := ⟨by decide, by decide, (kTbl_in (kwt_7 _ (List.mem_of_getElem? (i := 117) rfl)) rfl)⟩
theorem f_X12_53 : kFld RX12 53 12 27 := ⟨by decide, by decide, (kTbl_in (kwt_7 _ (List.mem_of_getElem? (i := 119) rfl)) rfl)⟩
theorem f_X12_56 : kFld RX12 56 12 28 := ⟨by decide, by decide, (kTbl_in (kwt_7 _ (List.mem_of_getElem? (i := 120) rfl)) rfl)⟩
theorem f_X12_59 : kFld RX12 59 12 29 := ⟨by decide, by decide, (kTbl_in (kwt_7 _ (List.mem_of_getElem? (i := 121) rfl)) rfl)⟩
theorem f_X12_62 : kFld RX12 62 12 30 := ⟨by decide, by decide, (kTbl_in (kwt_7 _ (List.mem_of_getElem? (i := 122) rfl)) rfl)⟩
theorem f_X12_65 : kFld RX12 65 12 31 := ⟨by decide, by decide, (kTbl_in (kwt_7 _ (List.mem_of_getElem? (i := 123) rfl)) rfl)⟩
theorem f_X12_68 : kFld RX12 68 12 32 := ⟨by decide, by decide, (kTbl_in (kwt_7 _ (List.mem_of_getElem? (i := 124) rfl)) rfl)⟩
theorem f_X12_71 : kFld RX12 71 12 33 := ⟨by decide, by decide, (kTbl_in (kwt_7 _ (List.mem_of_getElem? (i := 125) rfl)) rfl)⟩
theorem f_X12_74 : kFld RX12 74 12 37 := ⟨by decide, by decide, (kTbl_in (kwt_7 _ (List.mem_of_getElem? (i := 129) rfl)) rfl)⟩
theorem f_X12_77 : kFld RX12 77 12 38 := ⟨by decide, by decide, (kTbl_in (kwt_7 _ (List.mem_of_getElem? (i := 130) rfl)) rfl)⟩
theorem f_X12_80 : kFld RX12 80 12 39 := ⟨by decide, by decide, (kTbl_in (kwt_7 _ (List.mem_of_getElem? (i := 131) rfl)) rfl)⟩
theorem f_X12_87 : kFld RX12 87 12 2 := ⟨by decide, by decide, (kTbl_in (kwt_7 _ (List.mem_of_getElem? (i := 94) rfl)) rfl)⟩
theorem f_X12_90 : kFld RX12 90 12 3 := ⟨by decide, by decide, (kTbl_in (kwt_7 _ (List.mem_of_getElem? (i := 95) rfl)) rfl)⟩
theorem f_X12_117 : kFld RX12 117 12 10 := ⟨by decide, by decide, (kTbl_in (kwt_7 _ (List.mem_of_getElem? (i := 102) rfl)) rfl)⟩
theorem f_X12_123 : kFld RX12 123 12 11 := ⟨by decide, by decide, (kTbl_in (kwt_7 _ (List.mem_of_getElem? (i := 103) rfl)) rfl)⟩
theorem f_X12_126 : kFld RX12 126 12 14 := ⟨by decide, by decide, (kTbl_in (kwt_7 _ (List.mem_of_getElem? (i := 106) rfl)) rfl)⟩
theorem f_X12_132 : kFld RX12 132 12 13 := ⟨by decide, by decide, (kTbl_in (kwt_7 _ (List.mem_of_getElem? (i := 105) rfl)) rfl)⟩
theorem f_X12_135 : kFld RX12 135 12 15 := ⟨by decide, by decide, (kTbl_in (kwt_7 _ (List.mem_of_getElem? (i := 107) rfl)) rfl)⟩
theorem f_X12_138 : kFld RX12 138 12 12 := ⟨by decide, by decide, (kTbl_in (kwt_7 _ (List.mem_of_getElem? (i := 104) rfl)) rfl)⟩
theorem f_X12_163 : kFld RX12 163 12 18 := ⟨by decide, by decide, (kTbl_in (kwt_7 _ (List.mem_of_getElem? (i := 110) rfl)) rfl)⟩
theorem f_X12_166 : kFld RX12 166 12 19 := ⟨by decide, by decide, (kTbl_in (kwt_7 _ (List.mem_of_getElem? (i := 111) rfl)) rfl)⟩
theorem f_X12_215 : kFld RX12 215 12 20 := ⟨by decide, by decide, (kTbl_in (kwt_7 _ (List.mem_of_getElem? (i := 112) rfl)) rfl)⟩
theorem f_X12_253 : kFld RX12 253 12 22 := ⟨by decide, by decide, (kTbl_in (kwt_7 _ (List.mem_of_getElem? (i := 114) rfl)) rfl)⟩
theorem f_X12_256 : kFld RX12 256 12 23 := ⟨by decide, by decide, (kTbl_in (kwt_7 _ (List.mem_of_getElem? (i := 115) rfl)) rfl)⟩
theorem f_X12_446 : kFld RX12 446 12 26 := ⟨by decide, by decide, (kTbl_in (kwt_7 _ (List.mem_of_getElem? (i := 118) rfl)) rfl)⟩
theorem f_X12_481 : kFld RX12 481 12 34 := ⟨by decide, by decide, (kTbl_in (kwt_7 _ (List.mem_of_getElem? (i := 126) rfl)) rfl)⟩
theorem f_X12_499 : kFld RX12 499 12 35 := ⟨by decide, by decide, (kTbl_in (kwt_7 _ (List.mem_of_getElem? (i := 127) rfl)) rfl)⟩
theorem f_X12_512 : kFld RX12 512 12 36 := ⟨by decide, by decide, (kTbl_in (kwt_7 _ (List.mem_of_getElem? (i := 128) rfl)) rfl)⟩
theorem f_X12_529 : kFld RX12 529 12 40 := ⟨by decide, by decide, (kTbl_in (kwt_7 _ (List.mem_of_getElem? (i := 132) rfl)) rfl)⟩
theorem f_X12_533 : kFld RX12 533 12 41 := ⟨by decide, by decide, (kTbl_in (kwt_7 _ (List.mem_of_getElem? (i := 133) rfl)) rfl)⟩
theorem k_J6_265 : Cond.constant RJ6 265 (Int32.ofInt (1431655765)) ∈ kTbl := (kTbl_in (kwt_5 _ (List.mem_of_getElem? (i := 169) rfl)) rfl)
theorem k_J6_266 : Cond.constant RJ6 266 (Int32.ofInt (858993459)) ∈ kTbl := (kTbl_in (kwt_5 _ (List.mem_of_getElem? (i := 170) rfl)) rfl)
theorem k_J6_267 : Cond.constant RJ6 267 (Int32.ofInt (252645135)) ∈ kTbl := (kTbl_in (kwt_5 _ (List.mem_of_getElem? (i := 171) rfl)) rfl)
theorem k_L_32 : Cond.constantLong RL 32 (Int64.ofInt (4294967295)) ∈ kTbl := (kTbl_in (kwt_10 _ (List.mem_of_getElem? (i := 182) rfl)) rfl)
theorem k_X0_87 : Cond.constantLong RX0 87 (Int64.ofInt (70)) ∈ kTbl := (kTbl_in (kwt_6 _ (List.mem_of_getElem? (i := 151) rfl)) rfl)
theorem k_X11_458 : Cond.constantLong RX11 458 (Int64.ofInt (12)) ∈ kTbl := (kTbl_in (kwt_7 _ (List.mem_of_getElem? (i := 22) rfl)) rfl)
theorem k_X12_115 : Cond.constantLong RX12 115 (Int64.ofInt (-1)) ∈ kTbl := (kTbl_in (kwt_8 _ (List.mem_of_getElem? (i := 17) rfl)) rfl)
theorem k_X12_147 : Cond.constant RX12 147 (Int32.ofInt (100000)) ∈ kTbl := (kTbl_in (kwt_8 _ (List.mem_of_getElem? (i := 56) rfl)) rfl)
theorem k_X12_377 : Cond.constant RX12 377 (Int32.ofInt (1000000)) ∈ kTbl := (kTbl_in (kwt_9 _ (List.mem_of_getElem? (i := 145) rfl)) rfl)
theorem k_X12_391 : Cond.constantLong RX12 391 (Int64.ofInt (99)) ∈ kTbl := (kTbl_in (kwt_9 _ (List.mem_of_getElem? (i := 125) rfl)) rfl)
theorem k_X12_400 : Cond.constantLong RX12 400 (Int64.ofInt (4)) ∈ kTbl := (kTbl_in (kwt_9 _ (List.mem_of_getElem? (i := 158) rfl)) rfl)
theorem k_X12_409 : Cond.constantLong RX12 409 (Int64.ofInt (-9)) ∈ kTbl := (kTbl_in (kwt_9 _ (List.mem_of_getElem? (i := 175) rfl)) rfl)
theorem k_X12_411 : Cond.constantLong RX12 411 (Int64.ofInt (9)) ∈ kTbl := (kTbl_in (kwt_9 _ (List.mem_of_getElem? (i := 176) rfl)) rfl)
theorem k_X12_413 : Cond.constantLong RX12 413 (Int64.ofInt (7)) ∈ kTbl := (kTbl_in (kwt_9 _ (List.mem_of_getElem? (i := 181) rfl)) rfl)
theorem k_X12_415 : Cond.constantLong RX12 415 (Int64.ofInt (3)) ∈ kTbl := (kTbl_in (kwt_9 _ (List.mem_of_getElem? (i := 182) rfl)) rfl)
theorem k_X12_417 : Cond.constantLong RX12 417 (Int64.ofInt (2)) ∈ kTbl := (kTbl_in (kwt_9 _ (List.mem_of_getElem? (i := 187) rfl)) rfl)
theorem k_X12_440 : Cond.constantLong RX12 440 (Int64.ofInt (5)) ∈ kTbl := (kTbl_in (kwt_10 _ (List.mem_of_getElem? (i := 15) rfl)) rfl)
theorem k_X12_449 : Cond.constantLong RX12 449 (Int64.ofInt (20)) ∈ kTbl := (kTbl_in (kwt_10 _ (List.mem_of_getElem? (i := 32) rfl)) rfl)
theorem k_X12_451 : Cond.constantLong RX12 451 (Int64.ofInt (69)) ∈ kTbl := (kTbl_in (kwt_10 _ (List.mem_of_getElem? (i := 33) rfl)) rfl)
theorem k_X12_480 : Cond.constant RX12 480 (Int32.ofInt (-1000000)) ∈ kTbl := (kTbl_in (kwt_10 _ (List.mem_of_getElem? (i := 102) rfl)) rfl)
theorem k_X12_497 : Cond.constantLong RX12 497 (Int64.ofInt (12)) ∈ kTbl := (kTbl_in (kwt_10 _ (List.mem_of_getElem? (i := 127) rfl)) rfl)
theorem k_X12_502 : Cond.constant RX12 502 (Int32.ofInt (65536)) ∈ kTbl := (kTbl_in (kwt_10 _ (List.mem_of_getElem? (i := 153) rfl)) rfl)
theorem k_X12_524 : Cond.constantLong RX12 524 (Int64.ofInt (9999)) ∈ kTbl := (kTbl_in (kwt_10 _ (List.mem_of_getElem? (i := 132) rfl)) rfl)
theorem k_X4_43 : Cond.constant RX4 43 (Int32.ofInt (1000000)) ∈ kTbl := (kTbl_in (kwt_7 _ (List.mem_of_getElem? (i := 31) rfl)) rfl)
theorem k_X4_146 : Cond.constant RX4 146 (Int32.ofInt (65536)) ∈ kTbl := (kTbl_in (kwt_7 _ (List.mem_of_getElem? (i := 56) rfl)) rfl)
theorem k_X6_63 : Cond.constantLong RX6 63 (Int64.ofInt (32)) ∈ kTbl := (kTbl_in (kwt_3 _ (List.mem_of_getElem? (i := 210) rfl)) rfl)
abbrev M_J0_charAt_5068e : Km := (yJ0_charAt_5068e, cJ0_charAt_5068e, 2, some .char)
theorem m_J0_charAt_5068e : kMdV M_J0_charAt_5068e 1 := ⟨(kTbl_in (kwt_4 _ (List.mem_of_getElem? (i := 14) rfl)) rfl), (kTbl_in (kwt_1 _ (List.mem_of_getElem? (i := 15) rfl)) rfl), ⟨by decide +kernel, by decide +kernel, by decide +kernel⟩, (kTbl_in (kwt_4 _ (List.mem_of_getElem? (i := 12) rfl)) rfl), (kTbl_in (kwt_4 _ (List.mem_of_getElem? (i := 13) rfl)) rfl)⟩
abbrev M_J0_checkIndex_df160 : Km := (yJ0_checkIndex_df160, cJ0_checkIndex_df160, 2, none)
theorem m_J0_checkIndex_df160 : kMdS M_J0_checkIndex_df160 2 := ⟨(kTbl_in (kwt_4 _ (List.mem_of_getElem? (i := 24) rfl)) rfl), (kTbl_in (kwt_1 _ (List.mem_of_getElem? (i := 15) rfl)) rfl), ⟨by decide +kernel, by decide +kernel, by decide +kernel⟩, (kTbl_in (kwt_4 _ (List.mem_of_getElem? (i := 23) rfl)) rfl)⟩
abbrev M_J0_coder_7d493 : Km := (yJ0_coder_7d493, cJ0_coder_7d493, 1, some .byte)
theorem m_J0_coder_7d493 : kMdV M_J0_coder_7d493 0 := ⟨(kTbl_in (kwt_4 _ (List.mem_of_getElem? (i := 8) rfl)) rfl), (kTbl_in (kwt_1 _ (List.mem_of_getElem? (i := 15) rfl)) rfl), ⟨by decide +kernel, by decide +kernel, by decide +kernel⟩, (kTbl_in (kwt_4 _ (List.mem_of_getElem? (i := 6) rfl)) rfl), (kTbl_in (kwt_4 _ (List.mem_of_getElem? (i := 7) rfl)) rfl)⟩
abbrev M_J0_isLatin1_aae02 : Km := (yJ0_isLatin1_aae02, cJ0_isLatin1_aae02, 1, some .boolean)
theorem m_J0_isLatin1_aae02 : kMdV M_J0_isLatin1_aae02 0 := ⟨(kTbl_in (kwt_4 _ (List.mem_of_getElem? (i := 18) rfl)) rfl), (kTbl_in (kwt_1 _ (List.mem_of_getElem? (i := 15) rfl)) rfl), ⟨by decide +kernel, by decide +kernel, by decide +kernel⟩, (kTbl_in (kwt_4 _ (List.mem_of_getElem? (i := 16) rfl)) rfl), (kTbl_in (kwt_4 _ (List.mem_of_getElem? (i := 17) rfl)) rfl)⟩
abbrev M_J0_length_8abf5 : Km := (yJ0_length_8abf5, cJ0_length_8abf5, 1, some .int)
theorem m_J0_length_8abf5 : kMdV M_J0_length_8abf5 0 := ⟨(kTbl_in (kwt_4 _ (List.mem_of_getElem? (i := 4) rfl)) rfl), (kTbl_in (kwt_1 _ (List.mem_of_getElem? (i := 15) rfl)) rfl), ⟨by decide +kernel, by decide +kernel, by decide +kernel⟩, (kTbl_in (kwt_4 _ (List.mem_of_getElem? (i := 2) rfl)) rfl), (kTbl_in (kwt_4 _ (List.mem_of_getElem? (i := 3) rfl)) rfl)⟩
abbrev M_J1_charAt_3b067 : Km := (yJ1_charAt_3b067, cJ1_charAt_3b067, 2, some .char)
theorem m_J1_charAt_3b067 : kMdS M_J1_charAt_3b067 2 := ⟨(kTbl_in (kwt_4 _ (List.mem_of_getElem? (i := 21) rfl)) rfl), (kTbl_in (kwt_1 _ (List.mem_of_getElem? (i := 16) rfl)) rfl), ⟨by decide +kernel, by decide +kernel, by decide +kernel⟩, (kTbl_in (kwt_4 _ (List.mem_of_getElem? (i := 20) rfl)) rfl)⟩
abbrev M_J3_checkIndex_8e157 : Km := (yJ3_checkIndex_8e157, cJ3_checkIndex_8e157, 3, some .int)
theorem m_J3_checkIndex_8e157 : kMdS M_J3_checkIndex_8e157 3 := ⟨(kTbl_in (kwt_4 _ (List.mem_of_getElem? (i := 29) rfl)) rfl), (kTbl_in (kwt_1 _ (List.mem_of_getElem? (i := 17) rfl)) rfl), ⟨by decide +kernel, by decide +kernel, by decide +kernel⟩, (kTbl_in (kwt_4 _ (List.mem_of_getElem? (i := 28) rfl)) rfl)⟩
abbrev M_J6_bitCount_0f7a4 : Km := (yJ6_bitCount_0f7a4, cJ6_bitCount_0f7a4, 1, some .int)
theorem m_J6_bitCount_0f7a4 : kMdS M_J6_bitCount_0f7a4 1 := ⟨(kTbl_in (kwt_5 _ (List.mem_of_getElem? (i := 168) rfl)) rfl), (kTbl_in (kwt_1 _ (List.mem_of_getElem? (i := 20) rfl)) rfl), ⟨by decide +kernel, by decide +kernel, by decide +kernel⟩, (kTbl_in (kwt_5 _ (List.mem_of_getElem? (i := 167) rfl)) rfl)⟩
abbrev M_J9_abs_0f7a4 : Km := (yJ9_abs_0f7a4, cJ9_abs_0f7a4, 1, some .int)
theorem m_J9_abs_0f7a4 : kMdS M_J9_abs_0f7a4 1 := ⟨(kTbl_in (kwt_6 _ (List.mem_of_getElem? (i := 18) rfl)) rfl), (kTbl_in (kwt_1 _ (List.mem_of_getElem? (i := 19) rfl)) rfl), ⟨by decide +kernel, by decide +kernel, by decide +kernel⟩, (kTbl_in (kwt_6 _ (List.mem_of_getElem? (i := 17) rfl)) rfl)⟩
abbrev M_J9_max_7cf53 : Km := (yJ9_max_7cf53, cJ9_max_7cf53, 2, some .int)
theorem m_J9_max_7cf53 : kMdS M_J9_max_7cf53 2 := ⟨(kTbl_in (kwt_5 _ (List.mem_of_getElem? (i := 48) rfl)) rfl), (kTbl_in (kwt_1 _ (List.mem_of_getElem? (i := 19) rfl)) rfl), ⟨by decide +kernel, by decide +kernel, by decide +kernel⟩, (kTbl_in (kwt_5 _ (List.mem_of_getElem? (i := 47) rfl)) rfl)⟩
abbrev M_J9_min_7cf53 : Km := (yJ9_min_7cf53, cJ9_min_7cf53, 2, some .int)
theorem m_J9_min_7cf53 : kMdS M_J9_min_7cf53 2 := ⟨(kTbl_in (kwt_5 _ (List.mem_of_getElem? (i := 67) rfl)) rfl), (kTbl_in (kwt_1 _ (List.mem_of_getElem? (i := 19) rfl)) rfl), ⟨by decide +kernel, by decide +kernel, by decide +kernel⟩, (kTbl_in (kwt_5 _ (List.mem_of_getElem? (i := 66) rfl)) rfl)⟩
abbrev M_X0_clear : Km := (yX0_clear, cX0_clear, 2, none)
theorem m_X0_clear : kMdV M_X0_clear 0 := ⟨(kTbl_in (kwt_1 _ (List.mem_of_getElem? (i := 221) rfl)) rfl), (kTbl_in (kwt_1 _ (List.mem_of_getElem? (i := 3) rfl)) rfl), ⟨by decide +kernel, by decide +kernel, by decide +kernel⟩, (kTbl_in (kwt_1 _ (List.mem_of_getElem? (i := 219) rfl)) rfl), (kTbl_in (kwt_1 _ (List.mem_of_getElem? (i := 220) rfl)) rfl)⟩
abbrev M_X0_copy : Km := (yX0_copy, cX0_copy, 3, none)
theorem m_X0_copy : kMdV M_X0_copy 1 := ⟨(kTbl_in (kwt_4 _ (List.mem_of_getElem? (i := 163) rfl)) rfl), (kTbl_in (kwt_1 _ (List.mem_of_getElem? (i := 3) rfl)) rfl), ⟨by decide +kernel, by decide +kernel, by decide +kernel⟩, (kTbl_in (kwt_4 _ (List.mem_of_getElem? (i := 161) rfl)) rfl), (kTbl_in (kwt_4 _ (List.mem_of_getElem? (i := 162) rfl)) rfl)⟩
abbrev M_X0_cropNamed : Km := (yX0_cropNamed, cX0_cropNamed, 4, some .int)
theorem m_X0_cropNamed : kMdV M_X0_cropNamed 1 := ⟨(kTbl_in (kwt_4 _ (List.mem_of_getElem? (i := 102) rfl)) rfl), (kTbl_in (kwt_1 _ (List.mem_of_getElem? (i := 3) rfl)) rfl), ⟨by decide +kernel, by decide +kernel, by decide +kernel⟩, (kTbl_in (kwt_4 _ (List.mem_of_getElem? (i := 100) rfl)) rfl), (kTbl_in (kwt_4 _ (List.mem_of_getElem? (i := 101) rfl)) rfl)⟩
abbrev M_X0_cutSet : Km := (yX0_cutSet, cX0_cutSet, 3, some .int)
theorem m_X0_cutSet : kMdV M_X0_cutSet 0 := ⟨(kTbl_in (kwt_5 _ (List.mem_of_getElem? (i := 37) rfl)) rfl), (kTbl_in (kwt_1 _ (List.mem_of_getElem? (i := 3) rfl)) rfl), ⟨by decide +kernel, by decide +kernel, by decide +kernel⟩, (kTbl_in (kwt_5 _ (List.mem_of_getElem? (i := 35) rfl)) rfl), (kTbl_in (kwt_5 _ (List.mem_of_getElem? (i := 36) rfl)) rfl)⟩
abbrev M_X0_follow : Km := (yX0_follow, cX0_follow, 4, none)
theorem m_X0_follow : kMdV M_X0_follow 2 := ⟨(kTbl_in (kwt_6 _ (List.mem_of_getElem? (i := 6) rfl)) rfl), (kTbl_in (kwt_1 _ (List.mem_of_getElem? (i := 3) rfl)) rfl), ⟨by decide +kernel, by decide +kernel, by decide +kernel⟩, (kTbl_in (kwt_6 _ (List.mem_of_getElem? (i := 5) rfl)) rfl), (kTbl_in (kwp_3 (yX0_follow, 13) (List.mem_of_getElem? (i := 4) rfl)) rfl)⟩
abbrev M_X0_goBy : Km := (yX0_goBy, cX0_goBy, 6, some .int)
theorem m_X0_goBy : kMdV M_X0_goBy 2 := ⟨(kTbl_in (kwt_5 _ (List.mem_of_getElem? (i := 213) rfl)) rfl), (kTbl_in (kwt_1 _ (List.mem_of_getElem? (i := 3) rfl)) rfl), ⟨by decide +kernel, by decide +kernel, by decide +kernel⟩, (kTbl_in (kwt_5 _ (List.mem_of_getElem? (i := 211) rfl)) rfl), (kTbl_in (kwt_5 _ (List.mem_of_getElem? (i := 212) rfl)) rfl)⟩
abbrev M_X0_growCrops : Km := (yX0_growCrops, cX0_growCrops, 4, none)
theorem m_X0_growCrops : kMdV M_X0_growCrops 1 := ⟨(kTbl_in (kwt_5 _ (List.mem_of_getElem? (i := 231) rfl)) rfl), (kTbl_in (kwt_1 _ (List.mem_of_getElem? (i := 3) rfl)) rfl), ⟨by decide +kernel, by decide +kernel, by decide +kernel⟩, (kTbl_in (kwt_5 _ (List.mem_of_getElem? (i := 230) rfl)) rfl), (kTbl_in (kwp_3 (yX0_growCrops, 13) (List.mem_of_getElem? (i := 3) rfl)) rfl)⟩
abbrev M_X0_hasCrop : Km := (yX0_hasCrop, cX0_hasCrop, 2, some .boolean)
theorem m_X0_hasCrop : kMdV M_X0_hasCrop 1 := ⟨(kTbl_in (kwt_5 _ (List.mem_of_getElem? (i := 104) rfl)) rfl), (kTbl_in (kwt_1 _ (List.mem_of_getElem? (i := 3) rfl)) rfl), ⟨by decide +kernel, by decide +kernel, by decide +kernel⟩, (kTbl_in (kwt_5 _ (List.mem_of_getElem? (i := 102) rfl)) rfl), (kTbl_in (kwt_5 _ (List.mem_of_getElem? (i := 103) rfl)) rfl)⟩
abbrev M_X0_hasField : Km := (yX0_hasField, cX0_hasField, 3, some .boolean)
theorem m_X0_hasField : kMdV M_X0_hasField 2 := ⟨(kTbl_in (kwt_5 _ (List.mem_of_getElem? (i := 125) rfl)) rfl), (kTbl_in (kwt_1 _ (List.mem_of_getElem? (i := 3) rfl)) rfl), ⟨by decide +kernel, by decide +kernel, by decide +kernel⟩, (kTbl_in (kwt_5 _ (List.mem_of_getElem? (i := 123) rfl)) rfl), (kTbl_in (kwt_5 _ (List.mem_of_getElem? (i := 124) rfl)) rfl)⟩
abbrev M_X0_hasFieldNumber : Km := (yX0_hasFieldNumber, cX0_hasFieldNumber, 3, some .boolean)
theorem m_X0_hasFieldNumber : kMdV M_X0_hasFieldNumber 1 := ⟨(kTbl_in (kwt_6 _ (List.mem_of_getElem? (i := 150) rfl)) rfl), (kTbl_in (kwt_1 _ (List.mem_of_getElem? (i := 3) rfl)) rfl), ⟨by decide +kernel, by decide +kernel, by decide +kernel⟩, (kTbl_in (kwt_6 _ (List.mem_of_getElem? (i := 148) rfl)) rfl), (kTbl_in (kwt_6 _ (List.mem_of_getElem? (i := 149) rfl)) rfl)⟩
abbrev M_X0_hasKite : Km := (yX0_hasKite, cX0_hasKite, 2, some .boolean)
theorem m_X0_hasKite : kMdV M_X0_hasKite 1 := ⟨(kTbl_in (kwt_5 _ (List.mem_of_getElem? (i := 96) rfl)) rfl), (kTbl_in (kwt_1 _ (List.mem_of_getElem? (i := 3) rfl)) rfl), ⟨by decide +kernel, by decide +kernel, by decide +kernel⟩, (kTbl_in (kwt_5 _ (List.mem_of_getElem? (i := 94) rfl)) rfl), (kTbl_in (kwt_5 _ (List.mem_of_getElem? (i := 95) rfl)) rfl)⟩
abbrev M_X0_hasLand : Km := (yX0_hasLand, cX0_hasLand, 1, some .boolean)
theorem m_X0_hasLand : kMdV M_X0_hasLand 0 := ⟨(kTbl_in (kwt_3 _ (List.mem_of_getElem? (i := 231) rfl)) rfl), (kTbl_in (kwt_1 _ (List.mem_of_getElem? (i := 3) rfl)) rfl), ⟨by decide +kernel, by decide +kernel, by decide +kernel⟩, (kTbl_in (kwt_3 _ (List.mem_of_getElem? (i := 229) rfl)) rfl), (kTbl_in (kwt_3 _ (List.mem_of_getElem? (i := 230) rfl)) rfl)⟩
abbrev M_X0_hasName : Km := (yX0_hasName, cX0_hasName, 4, some .boolean)
theorem m_X0_hasName : kMdV M_X0_hasName 1 := ⟨(kTbl_in (kwt_4 _ (List.mem_of_getElem? (i := 94) rfl)) rfl), (kTbl_in (kwt_1 _ (List.mem_of_getElem? (i := 3) rfl)) rfl), ⟨by decide +kernel, by decide +kernel, by decide +kernel⟩, (kTbl_in (kwt_4 _ (List.mem_of_getElem? (i := 92) rfl)) rfl), (kTbl_in (kwt_4 _ (List.mem_of_getElem? (i := 93) rfl)) rfl)⟩
abbrev M_X0_hasRow : Km := (yX0_hasRow, cX0_hasRow, 2, some .boolean)
theorem m_X0_hasRow : kMdV M_X0_hasRow 1 := ⟨(kTbl_in (kwt_5 _ (List.mem_of_getElem? (i := 129) rfl)) rfl), (kTbl_in (kwt_1 _ (List.mem_of_getElem? (i := 3) rfl)) rfl), ⟨by decide +kernel, by decide +kernel, by decide +kernel⟩, (kTbl_in (kwt_5 _ (List.mem_of_getElem? (i := 127) rfl)) rfl), (kTbl_in (kwt_5 _ (List.mem_of_getElem? (i := 128) rfl)) rfl)⟩
abbrev M_X0_hasTenant : Km := (yX0_hasTenant, cX0_hasTenant, 2, some .boolean)
theorem m_X0_hasTenant : kMdV M_X0_hasTenant 1 := ⟨(kTbl_in (kwt_5 _ (List.mem_of_getElem? (i := 112) rfl)) rfl), (kTbl_in (kwt_1 _ (List.mem_of_getElem? (i := 3) rfl)) rfl), ⟨by decide +kernel, by decide +kernel, by decide +kernel⟩, (kTbl_in (kwt_5 _ (List.mem_of_getElem? (i := 110) rfl)) rfl), (kTbl_in (kwt_5 _ (List.mem_of_getElem? (i := 111) rfl)) rfl)⟩
abbrev M_X0_hourOfDay : Km := (yX0_hourOfDay, cX0_hourOfDay, 1, some .int)
theorem m_X0_hourOfDay : kMdV M_X0_hourOfDay 0 := ⟨(kTbl_in (kwt_5 _ (List.mem_of_getElem? (i := 29) rfl)) rfl), (kTbl_in (kwt_1 _ (List.mem_of_getElem? (i := 3) rfl)) rfl), ⟨by decide +kernel, by decide +kernel, by decide +kernel⟩, (kTbl_in (kwt_5 _ (List.mem_of_getElem? (i := 27) rfl)) rfl), (kTbl_in (kwt_5 _ (List.mem_of_getElem? (i := 28) rfl)) rfl)⟩
abbrev M_X0_init : Km := (yX0_init, cX0_init, 2, none)
theorem m_X0_init : kMdI M_X0_init 0 := ⟨(kTbl_in (kwt_1 _ (List.mem_of_getElem? (i := 80) rfl)) rfl), (kTbl_in (kwt_1 _ (List.mem_of_getElem? (i := 3) rfl)) rfl), ⟨by decide +kernel, by decide +kernel, by decide +kernel⟩, (kTbl_in (kwt_1 _ (List.mem_of_getElem? (i := 79) rfl)) rfl), rfl, rfl⟩
abbrev M_X0_kiteNamed : Km := (yX0_kiteNamed, cX0_kiteNamed, 4, some .int)
theorem m_X0_kiteNamed : kMdV M_X0_kiteNamed 1 := ⟨(kTbl_in (kwt_4 _ (List.mem_of_getElem? (i := 98) rfl)) rfl), (kTbl_in (kwt_1 _ (List.mem_of_getElem? (i := 3) rfl)) rfl), ⟨by decide +kernel, by decide +kernel, by decide +kernel⟩, (kTbl_in (kwt_4 _ (List.mem_of_getElem? (i := 96) rfl)) rfl), (kTbl_in (kwt_4 _ (List.mem_of_getElem? (i := 97) rfl)) rfl)⟩
abbrev M_X0_loseCrossed : Km := (yX0_loseCrossed, cX0_loseCrossed, 3, some .int)
theorem m_X0_loseCrossed : kMdV M_X0_loseCrossed 1 := ⟨(kTbl_in (kwt_5 _ (List.mem_of_getElem? (i := 217) rfl)) rfl), (kTbl_in (kwt_1 _ (List.mem_of_getElem? (i := 3) rfl)) rfl), ⟨by decide +kernel, by decide +kernel, by decide +kernel⟩, (kTbl_in (kwt_5 _ (List.mem_of_getElem? (i := 215) rfl)) rfl), (kTbl_in (kwt_5 _ (List.mem_of_getElem? (i := 216) rfl)) rfl)⟩
abbrev M_X0_mayStep : Km := (yX0_mayStep, cX0_mayStep, 3, some .boolean)
theorem m_X0_mayStep : kMdV M_X0_mayStep 2 := ⟨(kTbl_in (kwt_6 _ (List.mem_of_getElem? (i := 30) rfl)) rfl), (kTbl_in (kwt_1 _ (List.mem_of_getElem? (i := 3) rfl)) rfl), ⟨by decide +kernel, by decide +kernel, by decide +kernel⟩, (kTbl_in (kwt_6 _ (List.mem_of_getElem? (i := 28) rfl)) rfl), (kTbl_in (kwt_6 _ (List.mem_of_getElem? (i := 29) rfl)) rfl)⟩
abbrev M_X0_putCutSet : Km := (yX0_putCutSet, cX0_putCutSet, 3, none)
theorem m_X0_putCutSet : kMdV M_X0_putCutSet 1 := ⟨(kTbl_in (kwt_5 _ (List.mem_of_getElem? (i := 225) rfl)) rfl), (kTbl_in (kwt_1 _ (List.mem_of_getElem? (i := 3) rfl)) rfl), ⟨by decide +kernel, by decide +kernel, by decide +kernel⟩, (kTbl_in (kwt_5 _ (List.mem_of_getElem? (i := 223) rfl)) rfl), (kTbl_in (kwt_5 _ (List.mem_of_getElem? (i := 224) rfl)) rfl)⟩
abbrev M_X0_ripeSet : Km := (yX0_ripeSet, cX0_ripeSet, 3, some .int)
theorem m_X0_ripeSet : kMdV M_X0_ripeSet 0 := ⟨(kTbl_in (kwt_5 _ (List.mem_of_getElem? (i := 76) rfl)) rfl), (kTbl_in (kwt_1 _ (List.mem_of_getElem? (i := 3) rfl)) rfl), ⟨by decide +kernel, by decide +kernel, by decide +kernel⟩, (kTbl_in (kwt_5 _ (List.mem_of_getElem? (i := 74) rfl)) rfl), (kTbl_in (kwt_5 _ (List.mem_of_getElem? (i := 75) rfl)) rfl)⟩
abbrev M_X0_stepHand : Km := (yX0_stepHand, cX0_stepHand, 3, none)
theorem m_X0_stepHand : kMdV M_X0_stepHand 2 := ⟨(kTbl_in (kwt_6 _ (List.mem_of_getElem? (i := 39) rfl)) rfl), (kTbl_in (kwt_1 _ (List.mem_of_getElem? (i := 3) rfl)) rfl), ⟨by decide +kernel, by decide +kernel, by decide +kernel⟩, (kTbl_in (kwt_6 _ (List.mem_of_getElem? (i := 37) rfl)) rfl), (kTbl_in (kwt_6 _ (List.mem_of_getElem? (i := 38) rfl)) rfl)⟩
abbrev M_X10_init : Km := (yX10_init, cX10_init, 1, none)
theorem m_X10_init : kMdI M_X10_init 0 := ⟨(kTbl_in (kwt_3 _ (List.mem_of_getElem? (i := 48) rfl)) rfl), (kTbl_in (kwt_1 _ (List.mem_of_getElem? (i := 12) rfl)) rfl), ⟨by decide +kernel, by decide +kernel, by decide +kernel⟩, (kTbl_in (kwt_3 _ (List.mem_of_getElem? (i := 47) rfl)) rfl), rfl, rfl⟩
abbrev M_X10_make : Km := (yX10_make, cX10_make, 4, none)
theorem m_X10_make : kMdV M_X10_make 2 := ⟨(kTbl_in (kwt_3 _ (List.mem_of_getElem? (i := 153) rfl)) rfl), (kTbl_in (kwt_1 _ (List.mem_of_getElem? (i := 12) rfl)) rfl), ⟨by decide +kernel, by decide +kernel, by decide +kernel⟩, (kTbl_in (kwt_3 _ (List.mem_of_getElem? (i := 151) rfl)) rfl), (kTbl_in (kwt_3 _ (List.mem_of_getElem? (i := 152) rfl)) rfl)⟩
abbrev M_X10_put : Km := (yX10_put, cX10_put, 4, none)
theorem m_X10_put : kMdV M_X10_put 2 := ⟨(kTbl_in (kwt_3 _ (List.mem_of_getElem? (i := 169) rfl)) rfl), (kTbl_in (kwt_1 _ (List.mem_of_getElem? (i := 12) rfl)) rfl), ⟨by decide +kernel, by decide +kernel, by decide +kernel⟩, (kTbl_in (kwt_3 _ (List.mem_of_getElem? (i := 167) rfl)) rfl), (kTbl_in (kwt_3 _ (List.mem_of_getElem? (i := 168) rfl)) rfl)⟩
abbrev M_X11_blow : Km := (yX11_blow, cX11_blow, 4, some .boolean)
theorem m_X11_blow : kMdV M_X11_blow 3 := ⟨(kTbl_in (kwt_6 _ (List.mem_of_getElem? (i := 55) rfl)) rfl), (kTbl_in (kwt_1 _ (List.mem_of_getElem? (i := 1) rfl)) rfl), ⟨by decide +kernel, by decide +kernel, by decide +kernel⟩, (kTbl_in (kwt_6 _ (List.mem_of_getElem? (i := 53) rfl)) rfl), (kTbl_in (kwt_6 _ (List.mem_of_getElem? (i := 54) rfl)) rfl)⟩
abbrev M_X11_bottom : Km := (yX11_bottom, cX11_bottom, 1, some .long)
theorem m_X11_bottom : kMdV M_X11_bottom 0 := ⟨(kTbl_in (kwt_3 _ (List.mem_of_getElem? (i := 137) rfl)) rfl), (kTbl_in (kwt_1 _ (List.mem_of_getElem? (i := 1) rfl)) rfl), ⟨by decide +kernel, by decide +kernel, by decide +kernel⟩, (kTbl_in (kwt_3 _ (List.mem_of_getElem? (i := 135) rfl)) rfl), (kTbl_in (kwt_3 _ (List.mem_of_getElem? (i := 136) rfl)) rfl)⟩
abbrev M_X11_busiest : Km := (yX11_busiest, cX11_busiest, 5, some .int)
theorem m_X11_busiest : kMdV M_X11_busiest 0 := ⟨(kTbl_in (kwt_5 _ (List.mem_of_getElem? (i := 200) rfl)) rfl), (kTbl_in (kwt_1 _ (List.mem_of_getElem? (i := 1) rfl)) rfl), ⟨by decide +kernel, by decide +kernel, by decide +kernel⟩, (kTbl_in (kwt_5 _ (List.mem_of_getElem? (i := 198) rfl)) rfl), (kTbl_in (kwt_5 _ (List.mem_of_getElem? (i := 199) rfl)) rfl)⟩
abbrev M_X11_county : Km := (yX11_county, cX11_county, 3, some .int)
theorem m_X11_county : kMdV M_X11_county 1 := ⟨(kTbl_in (kwt_3 _ (List.mem_of_getElem? (i := 196) rfl)) rfl), (kTbl_in (kwt_1 _ (List.mem_of_getElem? (i := 1) rfl)) rfl), ⟨by decide +kernel, by decide +kernel, by decide +kernel⟩, (kTbl_in (kwt_3 _ (List.mem_of_getElem? (i := 194) rfl)) rfl), (kTbl_in (kwt_3 _ (List.mem_of_getElem? (i := 195) rfl)) rfl)⟩
abbrev M_X11_cover : Km := (yX11_cover, cX11_cover, 5, some .int)
theorem m_X11_cover : kMdV M_X11_cover 3 := ⟨(kTbl_in (kwt_6 _ (List.mem_of_getElem? (i := 142) rfl)) rfl), (kTbl_in (kwt_1 _ (List.mem_of_getElem? (i := 1) rfl)) rfl), ⟨by decide +kernel, by decide +kernel, by decide +kernel⟩, (kTbl_in (kwt_6 _ (List.mem_of_getElem? (i := 140) rfl)) rfl), (kTbl_in (kwt_6 _ (List.mem_of_getElem? (i := 141) rfl)) rfl)⟩
abbrev M_X11_coverSet : Km := (yX11_coverSet, cX11_coverSet, 5, some .int)
theorem m_X11_coverSet : kMdV M_X11_coverSet 3 := ⟨(kTbl_in (kwt_6 _ (List.mem_of_getElem? (i := 166) rfl)) rfl), (kTbl_in (kwt_1 _ (List.mem_of_getElem? (i := 1) rfl)) rfl), ⟨by decide +kernel, by decide +kernel, by decide +kernel⟩, (kTbl_in (kwt_6 _ (List.mem_of_getElem? (i := 164) rfl)) rfl), (kTbl_in (kwt_6 _ (List.mem_of_getElem? (i := 165) rfl)) rfl)⟩
abbrev M_X11_coverStatus : Km := (yX11_coverStatus, cX11_coverStatus, 5, some .int)
theorem m_X11_coverStatus : kMdV M_X11_coverStatus 3 := ⟨(kTbl_in (kwt_6 _ (List.mem_of_getElem? (i := 146) rfl)) rfl), (kTbl_in (kwt_1 _ (List.mem_of_getElem? (i := 1) rfl)) rfl), ⟨by decide +kernel, by decide +kernel, by decide +kernel⟩, (kTbl_in (kwt_6 _ (List.mem_of_getElem? (i := 145) rfl)) rfl), (kTbl_in (kwp_3 (yX11_coverStatus, 19) (List.mem_of_getElem? (i := 10) rfl)) rfl)⟩
abbrev M_X11_crop : Km := (yX11_crop, cX11_crop, 4, some .int)
theorem m_X11_crop : kMdV M_X11_crop 2 := ⟨(kTbl_in (kwt_5 _ (List.mem_of_getElem? (i := 100) rfl)) rfl), (kTbl_in (kwt_1 _ (List.mem_of_getElem? (i := 1) rfl)) rfl), ⟨by decide +kernel, by decide +kernel, by decide +kernel⟩, (kTbl_in (kwt_5 _ (List.mem_of_getElem? (i := 98) rfl)) rfl), (kTbl_in (kwt_5 _ (List.mem_of_getElem? (i := 99) rfl)) rfl)⟩
abbrev M_X11_crosses : Km := (yX11_crosses, cX11_crosses, 4, some .int)
theorem m_X11_crosses : kMdV M_X11_crosses 3 := ⟨(kTbl_in (kwt_5 _ (List.mem_of_getElem? (i := 175) rfl)) rfl), (kTbl_in (kwt_1 _ (List.mem_of_getElem? (i := 1) rfl)) rfl), ⟨by decide +kernel, by decide +kernel, by decide +kernel⟩, (kTbl_in (kwt_5 _ (List.mem_of_getElem? (i := 173) rfl)) rfl), (kTbl_in (kwt_5 _ (List.mem_of_getElem? (i := 174) rfl)) rfl)⟩
abbrev M_X11_cut : Km := (yX11_cut, cX11_cut, 3, some .boolean)
theorem m_X11_cut : kMdV M_X11_cut 2 := ⟨(kTbl_in (kwt_6 _ (List.mem_of_getElem? (i := 47) rfl)) rfl), (kTbl_in (kwt_1 _ (List.mem_of_getElem? (i := 1) rfl)) rfl), ⟨by decide +kernel, by decide +kernel, by decide +kernel⟩, (kTbl_in (kwt_6 _ (List.mem_of_getElem? (i := 45) rfl)) rfl), (kTbl_in (kwt_6 _ (List.mem_of_getElem? (i := 46) rfl)) rfl)⟩
abbrev M_X11_cutIn : Km := (yX11_cutIn, cX11_cutIn, 3, some .int)
theorem m_X11_cutIn : kMdV M_X11_cutIn 1 := ⟨(kTbl_in (kwt_6 _ (List.mem_of_getElem? (i := 117) rfl)) rfl), (kTbl_in (kwt_1 _ (List.mem_of_getElem? (i := 1) rfl)) rfl), ⟨by decide +kernel, by decide +kernel, by decide +kernel⟩, (kTbl_in (kwt_6 _ (List.mem_of_getElem? (i := 115) rfl)) rfl), (kTbl_in (kwt_6 _ (List.mem_of_getElem? (i := 116) rfl)) rfl)⟩
abbrev M_X11_deny : Km := (yX11_deny, cX11_deny, 2, some .int)
theorem m_X11_deny : kMdV M_X11_deny 1 := ⟨(kTbl_in (kwt_3 _ (List.mem_of_getElem? (i := 177) rfl)) rfl), (kTbl_in (kwt_1 _ (List.mem_of_getElem? (i := 1) rfl)) rfl), ⟨by decide +kernel, by decide +kernel, by decide +kernel⟩, (kTbl_in (kwt_3 _ (List.mem_of_getElem? (i := 176) rfl)) rfl), (kTbl_in (kwp_1 (yX11_deny, 19) (List.mem_of_getElem? (i := 4) rfl)) rfl)⟩
abbrev M_X11_disputed : Km := (yX11_disputed, cX11_disputed, 2, some .int)
theorem m_X11_disputed : kMdV M_X11_disputed 1 := ⟨(kTbl_in (kwt_5 _ (List.mem_of_getElem? (i := 161) rfl)) rfl), (kTbl_in (kwt_1 _ (List.mem_of_getElem? (i := 1) rfl)) rfl), ⟨by decide +kernel, by decide +kernel, by decide +kernel⟩, (kTbl_in (kwt_5 _ (List.mem_of_getElem? (i := 159) rfl)) rfl), (kTbl_in (kwt_5 _ (List.mem_of_getElem? (i := 160) rfl)) rfl)⟩
abbrev M_X11_doomed : Km := (yX11_doomed, cX11_doomed, 1, some .int)
theorem m_X11_doomed : kMdV M_X11_doomed 0 := ⟨(kTbl_in (kwt_5 _ (List.mem_of_getElem? (i := 183) rfl)) rfl), (kTbl_in (kwt_1 _ (List.mem_of_getElem? (i := 1) rfl)) rfl), ⟨by decide +kernel, by decide +kernel, by decide +kernel⟩, (kTbl_in (kwt_5 _ (List.mem_of_getElem? (i := 181) rfl)) rfl), (kTbl_in (kwt_5 _ (List.mem_of_getElem? (i := 182) rfl)) rfl)⟩
abbrev M_X11_duel : Km := (yX11_duel, cX11_duel, 4, some .int)
theorem m_X11_duel : kMdV M_X11_duel 3 := ⟨(kTbl_in (kwt_6 _ (List.mem_of_getElem? (i := 228) rfl)) rfl), (kTbl_in (kwt_1 _ (List.mem_of_getElem? (i := 1) rfl)) rfl), ⟨by decide +kernel, by decide +kernel, by decide +kernel⟩, (kTbl_in (kwt_6 _ (List.mem_of_getElem? (i := 226) rfl)) rfl), (kTbl_in (kwt_6 _ (List.mem_of_getElem? (i := 227) rfl)) rfl)⟩
abbrev M_X11_duelStep : Km := (yX11_duelStep, cX11_duelStep, 4, some .int)
theorem m_X11_duelStep : kMdV M_X11_duelStep 3 := ⟨(kTbl_in (kwt_7 _ (List.mem_of_getElem? (i := 1) rfl)) rfl), (kTbl_in (kwt_1 _ (List.mem_of_getElem? (i := 1) rfl)) rfl), ⟨by decide +kernel, by decide +kernel, by decide +kernel⟩, (kTbl_in (kwt_6 _ (List.mem_of_getElem? (i := 239) rfl)) rfl), (kTbl_in (kwt_7 _ (List.mem_of_getElem? (i := 0) rfl)) rfl)⟩
abbrev M_X11_estate : Km := (yX11_estate, cX11_estate, 3, some .int)
theorem m_X11_estate : kMdV M_X11_estate 2 := ⟨(kTbl_in (kwt_5 _ (List.mem_of_getElem? (i := 145) rfl)) rfl), (kTbl_in (kwt_1 _ (List.mem_of_getElem? (i := 1) rfl)) rfl), ⟨by decide +kernel, by decide +kernel, by decide +kernel⟩, (kTbl_in (kwt_5 _ (List.mem_of_getElem? (i := 143) rfl)) rfl), (kTbl_in (kwt_5 _ (List.mem_of_getElem? (i := 144) rfl)) rfl)⟩
abbrev M_X11_fault : Km := (yX11_fault, cX11_fault, 2, some .int)
theorem m_X11_fault : kMdV M_X11_fault 1 := ⟨(kTbl_in (kwt_5 _ (List.mem_of_getElem? (i := 17) rfl)) rfl), (kTbl_in (kwt_1 _ (List.mem_of_getElem? (i := 1) rfl)) rfl), ⟨by decide +kernel, by decide +kernel, by decide +kernel⟩, (kTbl_in (kwt_5 _ (List.mem_of_getElem? (i := 15) rfl)) rfl), (kTbl_in (kwt_5 _ (List.mem_of_getElem? (i := 16) rfl)) rfl)⟩
abbrev M_X11_feed : Km := (yX11_feed, cX11_feed, 6, some .int)
theorem m_X11_feed : kMdV M_X11_feed 5 := ⟨(kTbl_in (kwt_3 _ (List.mem_of_getElem? (i := 188) rfl)) rfl), (kTbl_in (kwt_1 _ (List.mem_of_getElem? (i := 1) rfl)) rfl), ⟨by decide +kernel, by decide +kernel, by decide +kernel⟩, (kTbl_in (kwt_3 _ (List.mem_of_getElem? (i := 186) rfl)) rfl), (kTbl_in (kwt_3 _ (List.mem_of_getElem? (i := 187) rfl)) rfl)⟩
abbrev M_X11_fieldNumber : Km := (yX11_fieldNumber, cX11_fieldNumber, 3, some .int)
theorem m_X11_fieldNumber : kMdV M_X11_fieldNumber 2 := ⟨(kTbl_in (kwt_6 _ (List.mem_of_getElem? (i := 43) rfl)) rfl), (kTbl_in (kwt_1 _ (List.mem_of_getElem? (i := 1) rfl)) rfl), ⟨by decide +kernel, by decide +kernel, by decide +kernel⟩, (kTbl_in (kwt_6 _ (List.mem_of_getElem? (i := 42) rfl)) rfl), (kTbl_in (kwp_3 (yX11_fieldNumber, 19) (List.mem_of_getElem? (i := 5) rfl)) rfl)⟩
abbrev M_X11_fly : Km := (yX11_fly, cX11_fly, 5, some .int)
theorem m_X11_fly : kMdV M_X11_fly 4 := ⟨(kTbl_in (kwt_6 _ (List.mem_of_getElem? (i := 121) rfl)) rfl), (kTbl_in (kwt_1 _ (List.mem_of_getElem? (i := 1) rfl)) rfl), ⟨by decide +kernel, by decide +kernel, by decide +kernel⟩, (kTbl_in (kwt_6 _ (List.mem_of_getElem? (i := 119) rfl)) rfl), (kTbl_in (kwt_6 _ (List.mem_of_getElem? (i := 120) rfl)) rfl)⟩
abbrev M_X11_flyAt : Km := (yX11_flyAt, cX11_flyAt, 2, some .int)
theorem m_X11_flyAt : kMdV M_X11_flyAt 1 := ⟨(kTbl_in (kwt_6 _ (List.mem_of_getElem? (i := 138) rfl)) rfl), (kTbl_in (kwt_1 _ (List.mem_of_getElem? (i := 1) rfl)) rfl), ⟨by decide +kernel, by decide +kernel, by decide +kernel⟩, (kTbl_in (kwt_6 _ (List.mem_of_getElem? (i := 136) rfl)) rfl), (kTbl_in (kwt_6 _ (List.mem_of_getElem? (i := 137) rfl)) rfl)⟩
abbrev M_X11_give : Km := (yX11_give, cX11_give, 2, some .int)
theorem m_X11_give : kMdV M_X11_give 1 := ⟨(kTbl_in (kwt_4 _ (List.mem_of_getElem? (i := 184) rfl)) rfl), (kTbl_in (kwt_1 _ (List.mem_of_getElem? (i := 1) rfl)) rfl), ⟨by decide +kernel, by decide +kernel, by decide +kernel⟩, (kTbl_in (kwt_4 _ (List.mem_of_getElem? (i := 183) rfl)) rfl), (kTbl_in (kwp_2 (yX11_give, 19) (List.mem_of_getElem? (i := 5) rfl)) rfl)⟩
abbrev M_X11_goAhead : Km := (yX11_goAhead, cX11_goAhead, 2, none)
theorem m_X11_goAhead : kMdV M_X11_goAhead 1 := ⟨(kTbl_in (kwt_6 _ (List.mem_of_getElem? (i := 109) rfl)) rfl), (kTbl_in (kwt_1 _ (List.mem_of_getElem? (i := 1) rfl)) rfl), ⟨by decide +kernel, by decide +kernel, by decide +kernel⟩, (kTbl_in (kwt_6 _ (List.mem_of_getElem? (i := 108) rfl)) rfl), (kTbl_in (kwp_3 (yX11_goAhead, 19) (List.mem_of_getElem? (i := 8) rfl)) rfl)⟩
abbrev M_X11_grant : Km := (yX11_grant, cX11_grant, 1, some .boolean)
theorem m_X11_grant : kMdV M_X11_grant 0 := ⟨(kTbl_in (kwt_3 _ (List.mem_of_getElem? (i := 157) rfl)) rfl), (kTbl_in (kwt_1 _ (List.mem_of_getElem? (i := 1) rfl)) rfl), ⟨by decide +kernel, by decide +kernel, by decide +kernel⟩, (kTbl_in (kwt_3 _ (List.mem_of_getElem? (i := 156) rfl)) rfl), (kTbl_in (kwp_1 (yX11_grant, 19) (List.mem_of_getElem? (i := 2) rfl)) rfl)⟩
abbrev M_X11_greatest : Km := (yX11_greatest, cX11_greatest, 5, some .int)
theorem m_X11_greatest : kMdV M_X11_greatest 0 := ⟨(kTbl_in (kwt_5 _ (List.mem_of_getElem? (i := 205) rfl)) rfl), (kTbl_in (kwt_1 _ (List.mem_of_getElem? (i := 1) rfl)) rfl), ⟨by decide +kernel, by decide +kernel, by decide +kernel⟩, (kTbl_in (kwt_5 _ (List.mem_of_getElem? (i := 203) rfl)) rfl), (kTbl_in (kwt_5 _ (List.mem_of_getElem? (i := 204) rfl)) rfl)⟩
abbrev M_X11_hour : Km := (yX11_hour, cX11_hour, 2, some .int)
theorem m_X11_hour : kMdV M_X11_hour 1 := ⟨(kTbl_in (kwt_5 _ (List.mem_of_getElem? (i := 209) rfl)) rfl), (kTbl_in (kwt_1 _ (List.mem_of_getElem? (i := 1) rfl)) rfl), ⟨by decide +kernel, by decide +kernel, by decide +kernel⟩, (kTbl_in (kwt_5 _ (List.mem_of_getElem? (i := 207) rfl)) rfl), (kTbl_in (kwt_5 _ (List.mem_of_getElem? (i := 208) rfl)) rfl)⟩
abbrev M_X11_init : Km := (yX11_init, cX11_init, 2, none)
theorem m_X11_init : kMdI M_X11_init 0 := ⟨(kTbl_in (kwt_1 _ (List.mem_of_getElem? (i := 25) rfl)) rfl), (kTbl_in (kwt_1 _ (List.mem_of_getElem? (i := 1) rfl)) rfl), ⟨by decide +kernel, by decide +kernel, by decide +kernel⟩, (kTbl_in (kwt_1 _ (List.mem_of_getElem? (i := 24) rfl)) rfl), rfl, rfl⟩
abbrev M_X11_isAhead : Km := (yX11_isAhead, cX11_isAhead, 2, some .boolean)
theorem m_X11_isAhead : kMdV M_X11_isAhead 1 := ⟨(kTbl_in (kwt_6 _ (List.mem_of_getElem? (i := 83) rfl)) rfl), (kTbl_in (kwt_1 _ (List.mem_of_getElem? (i := 1) rfl)) rfl), ⟨by decide +kernel, by decide +kernel, by decide +kernel⟩, (kTbl_in (kwt_6 _ (List.mem_of_getElem? (i := 82) rfl)) rfl), (kTbl_in (kwp_3 (yX11_isAhead, 19) (List.mem_of_getElem? (i := 6) rfl)) rfl)⟩
abbrev M_X11_isHourOfDay : Km := (yX11_isHourOfDay, cX11_isHourOfDay, 2, some .boolean)
theorem m_X11_isHourOfDay : kMdV M_X11_isHourOfDay 1 := ⟨(kTbl_in (kwt_5 _ (List.mem_of_getElem? (i := 88) rfl)) rfl), (kTbl_in (kwt_1 _ (List.mem_of_getElem? (i := 1) rfl)) rfl), ⟨by decide +kernel, by decide +kernel, by decide +kernel⟩, (kTbl_in (kwt_5 _ (List.mem_of_getElem? (i := 87) rfl)) rfl), (kTbl_in (kwp_3 (yX11_isHourOfDay, 19) (List.mem_of_getElem? (i := 1) rfl)) rfl)⟩
abbrev M_X11_isTray : Km := (yX11_isTray, cX11_isTray, 2, some .boolean)
theorem m_X11_isTray : kMdV M_X11_isTray 1 := ⟨(kTbl_in (kwt_3 _ (List.mem_of_getElem? (i := 145) rfl)) rfl), (kTbl_in (kwt_1 _ (List.mem_of_getElem? (i := 1) rfl)) rfl), ⟨by decide +kernel, by decide +kernel, by decide +kernel⟩, (kTbl_in (kwt_3 _ (List.mem_of_getElem? (i := 144) rfl)) rfl), (kTbl_in (kwp_1 (yX11_isTray, 19) (List.mem_of_getElem? (i := 0) rfl)) rfl)⟩
abbrev M_X11_kite : Km := (yX11_kite, cX11_kite, 4, some .int)
theorem m_X11_kite : kMdV M_X11_kite 2 := ⟨(kTbl_in (kwt_5 _ (List.mem_of_getElem? (i := 92) rfl)) rfl), (kTbl_in (kwt_1 _ (List.mem_of_getElem? (i := 1) rfl)) rfl), ⟨by decide +kernel, by decide +kernel, by decide +kernel⟩, (kTbl_in (kwt_5 _ (List.mem_of_getElem? (i := 90) rfl)) rfl), (kTbl_in (kwt_5 _ (List.mem_of_getElem? (i := 91) rfl)) rfl)⟩
abbrev M_X11_lease : Km := (yX11_lease, cX11_lease, 3, some .boolean)
theorem m_X11_lease : kMdV M_X11_lease 2 := ⟨(kTbl_in (kwt_6 _ (List.mem_of_getElem? (i := 63) rfl)) rfl), (kTbl_in (kwt_1 _ (List.mem_of_getElem? (i := 1) rfl)) rfl), ⟨by decide +kernel, by decide +kernel, by decide +kernel⟩, (kTbl_in (kwt_6 _ (List.mem_of_getElem? (i := 61) rfl)) rfl), (kTbl_in (kwt_6 _ (List.mem_of_getElem? (i := 62) rfl)) rfl)⟩
abbrev M_X11_leaseOf : Km := (yX11_leaseOf, cX11_leaseOf, 7, some .int)
theorem m_X11_leaseOf : kMdV M_X11_leaseOf 4 := ⟨(kTbl_in (kwt_6 _ (List.mem_of_getElem? (i := 79) rfl)) rfl), (kTbl_in (kwt_1 _ (List.mem_of_getElem? (i := 1) rfl)) rfl), ⟨by decide +kernel, by decide +kernel, by decide +kernel⟩, (kTbl_in (kwt_6 _ (List.mem_of_getElem? (i := 77) rfl)) rfl), (kTbl_in (kwt_6 _ (List.mem_of_getElem? (i := 78) rfl)) rfl)⟩
abbrev M_X11_live : Km := (yX11_live, cX11_live, 2, some .int)
theorem m_X11_live : kMdV M_X11_live 1 := ⟨(kTbl_in (kwt_7 _ (List.mem_of_getElem? (i := 26) rfl)) rfl), (kTbl_in (kwt_1 _ (List.mem_of_getElem? (i := 1) rfl)) rfl), ⟨by decide +kernel, by decide +kernel, by decide +kernel⟩, (kTbl_in (kwt_7 _ (List.mem_of_getElem? (i := 24) rfl)) rfl), (kTbl_in (kwt_7 _ (List.mem_of_getElem? (i := 25) rfl)) rfl)⟩
abbrev M_X11_lived : Km := (yX11_lived, cX11_lived, 2, some .int)
theorem m_X11_lived : kMdV M_X11_lived 1 := ⟨(kTbl_in (kwt_7 _ (List.mem_of_getElem? (i := 69) rfl)) rfl), (kTbl_in (kwt_1 _ (List.mem_of_getElem? (i := 1) rfl)) rfl), ⟨by decide +kernel, by decide +kernel, by decide +kernel⟩, (kTbl_in (kwt_7 _ (List.mem_of_getElem? (i := 67) rfl)) rfl), (kTbl_in (kwt_7 _ (List.mem_of_getElem? (i := 68) rfl)) rfl)⟩
abbrev M_X11_lookNow : Km := (yX11_lookNow, cX11_lookNow, 1, none)
theorem m_X11_lookNow : kMdV M_X11_lookNow 0 := ⟨(kTbl_in (kwt_5 _ (List.mem_of_getElem? (i := 25) rfl)) rfl), (kTbl_in (kwt_1 _ (List.mem_of_getElem? (i := 1) rfl)) rfl), ⟨by decide +kernel, by decide +kernel, by decide +kernel⟩, (kTbl_in (kwt_5 _ (List.mem_of_getElem? (i := 24) rfl)) rfl), (kTbl_in (kwp_2 (yX11_lookNow, 19) (List.mem_of_getElem? (i := 14) rfl)) rfl)⟩
abbrev M_X11_lulls : Km := (yX11_lulls, cX11_lulls, 4, some .int)
theorem m_X11_lulls : kMdV M_X11_lulls 1 := ⟨(kTbl_in (kwt_5 _ (List.mem_of_getElem? (i := 196) rfl)) rfl), (kTbl_in (kwt_1 _ (List.mem_of_getElem? (i := 1) rfl)) rfl), ⟨by decide +kernel, by decide +kernel, by decide +kernel⟩, (kTbl_in (kwt_5 _ (List.mem_of_getElem? (i := 194) rfl)) rfl), (kTbl_in (kwt_5 _ (List.mem_of_getElem? (i := 195) rfl)) rfl)⟩
abbrev M_X11_mark : Km := (yX11_mark, cX11_mark, 1, some .int)
theorem m_X11_mark : kMdV M_X11_mark 0 := ⟨(kTbl_in (kwt_7 _ (List.mem_of_getElem? (i := 77) rfl)) rfl), (kTbl_in (kwt_1 _ (List.mem_of_getElem? (i := 1) rfl)) rfl), ⟨by decide +kernel, by decide +kernel, by decide +kernel⟩, (kTbl_in (kwt_7 _ (List.mem_of_getElem? (i := 75) rfl)) rfl), (kTbl_in (kwt_7 _ (List.mem_of_getElem? (i := 76) rfl)) rfl)⟩
abbrev M_X11_mean : Km := (yX11_mean, cX11_mean, 7, some .boolean)
theorem m_X11_mean : kMdV M_X11_mean 3 := ⟨(kTbl_in (kwt_7 _ (List.mem_of_getElem? (i := 73) rfl)) rfl), (kTbl_in (kwt_1 _ (List.mem_of_getElem? (i := 1) rfl)) rfl), ⟨by decide +kernel, by decide +kernel, by decide +kernel⟩, (kTbl_in (kwt_7 _ (List.mem_of_getElem? (i := 71) rfl)) rfl), (kTbl_in (kwt_7 _ (List.mem_of_getElem? (i := 72) rfl)) rfl)⟩
abbrev M_X11_needed : Km := (yX11_needed, cX11_needed, 5, some .int)
theorem m_X11_needed : kMdV M_X11_needed 0 := ⟨(kTbl_in (kwt_7 _ (List.mem_of_getElem? (i := 5) rfl)) rfl), (kTbl_in (kwt_1 _ (List.mem_of_getElem? (i := 1) rfl)) rfl), ⟨by decide +kernel, by decide +kernel, by decide +kernel⟩, (kTbl_in (kwt_7 _ (List.mem_of_getElem? (i := 3) rfl)) rfl), (kTbl_in (kwt_7 _ (List.mem_of_getElem? (i := 4) rfl)) rfl)⟩
abbrev M_X11_nobodys : Km := (yX11_nobodys, cX11_nobodys, 2, some .int)
theorem m_X11_nobodys : kMdV M_X11_nobodys 1 := ⟨(kTbl_in (kwt_5 _ (List.mem_of_getElem? (i := 153) rfl)) rfl), (kTbl_in (kwt_1 _ (List.mem_of_getElem? (i := 1) rfl)) rfl), ⟨by decide +kernel, by decide +kernel, by decide +kernel⟩, (kTbl_in (kwt_5 _ (List.mem_of_getElem? (i := 151) rfl)) rfl), (kTbl_in (kwt_5 _ (List.mem_of_getElem? (i := 152) rfl)) rfl)⟩
abbrev M_X11_owner : Km := (yX11_owner, cX11_owner, 5, some .int)
theorem m_X11_owner : kMdV M_X11_owner 3 := ⟨(kTbl_in (kwt_5 _ (List.mem_of_getElem? (i := 121) rfl)) rfl), (kTbl_in (kwt_1 _ (List.mem_of_getElem? (i := 1) rfl)) rfl), ⟨by decide +kernel, by decide +kernel, by decide +kernel⟩, (kTbl_in (kwt_5 _ (List.mem_of_getElem? (i := 119) rfl)) rfl), (kTbl_in (kwt_5 _ (List.mem_of_getElem? (i := 120) rfl)) rfl)⟩
abbrev M_X11_placeStatus : Km := (yX11_placeStatus, cX11_placeStatus, 3, some .int)
theorem m_X11_placeStatus : kMdV M_X11_placeStatus 2 := ⟨(kTbl_in (kwt_3 _ (List.mem_of_getElem? (i := 165) rfl)) rfl), (kTbl_in (kwt_1 _ (List.mem_of_getElem? (i := 1) rfl)) rfl), ⟨by decide +kernel, by decide +kernel, by decide +kernel⟩, (kTbl_in (kwt_3 _ (List.mem_of_getElem? (i := 164) rfl)) rfl), (kTbl_in (kwp_1 (yX11_placeStatus, 19) (List.mem_of_getElem? (i := 3) rfl)) rfl)⟩
abbrev M_X11_plant : Km := (yX11_plant, cX11_plant, 2, some .int)
theorem m_X11_plant : kMdV M_X11_plant 1 := ⟨(kTbl_in (kwt_6 _ (List.mem_of_getElem? (i := 87) rfl)) rfl), (kTbl_in (kwt_1 _ (List.mem_of_getElem? (i := 1) rfl)) rfl), ⟨by decide +kernel, by decide +kernel, by decide +kernel⟩, (kTbl_in (kwt_6 _ (List.mem_of_getElem? (i := 85) rfl)) rfl), (kTbl_in (kwt_6 _ (List.mem_of_getElem? (i := 86) rfl)) rfl)⟩
abbrev M_X11_planted : Km := (yX11_planted, cX11_planted, 2, some .int)
theorem m_X11_planted : kMdV M_X11_planted 1 := ⟨(kTbl_in (kwt_6 _ (List.mem_of_getElem? (i := 101) rfl)) rfl), (kTbl_in (kwt_1 _ (List.mem_of_getElem? (i := 1) rfl)) rfl), ⟨by decide +kernel, by decide +kernel, by decide +kernel⟩, (kTbl_in (kwt_6 _ (List.mem_of_getElem? (i := 99) rfl)) rfl), (kTbl_in (kwt_6 _ (List.mem_of_getElem? (i := 100) rfl)) rfl)⟩
abbrev M_X11_pour : Km := (yX11_pour, cX11_pour, 8, some .boolean)
theorem m_X11_pour : kMdV M_X11_pour 5 := ⟨(kTbl_in (kwt_3 _ (List.mem_of_getElem? (i := 181) rfl)) rfl), (kTbl_in (kwt_1 _ (List.mem_of_getElem? (i := 1) rfl)) rfl), ⟨by decide +kernel, by decide +kernel, by decide +kernel⟩, (kTbl_in (kwt_3 _ (List.mem_of_getElem? (i := 179) rfl)) rfl), (kTbl_in (kwt_3 _ (List.mem_of_getElem? (i := 180) rfl)) rfl)⟩
abbrev M_X11_purseIn : Km := (yX11_purseIn, cX11_purseIn, 3, some .int)
theorem m_X11_purseIn : kMdV M_X11_purseIn 2 := ⟨(kTbl_in (kwt_6 _ (List.mem_of_getElem? (i := 105) rfl)) rfl), (kTbl_in (kwt_1 _ (List.mem_of_getElem? (i := 1) rfl)) rfl), ⟨by decide +kernel, by decide +kernel, by decide +kernel⟩, (kTbl_in (kwt_6 _ (List.mem_of_getElem? (i := 103) rfl)) rfl), (kTbl_in (kwt_6 _ (List.mem_of_getElem? (i := 104) rfl)) rfl)⟩
abbrev M_X11_putOnTape : Km := (yX11_putOnTape, cX11_putOnTape, 3, none)
theorem m_X11_putOnTape : kMdV M_X11_putOnTape 1 := ⟨(kTbl_in (kwt_3 _ (List.mem_of_getElem? (i := 192) rfl)) rfl), (kTbl_in (kwt_1 _ (List.mem_of_getElem? (i := 1) rfl)) rfl), ⟨by decide +kernel, by decide +kernel, by decide +kernel⟩, (kTbl_in (kwt_3 _ (List.mem_of_getElem? (i := 191) rfl)) rfl), (kTbl_in (kwp_1 (yX11_putOnTape, 19) (List.mem_of_getElem? (i := 5) rfl)) rfl)⟩
abbrev M_X11_read : Km := (yX11_read, cX11_read, 4, some .long)
theorem m_X11_read : kMdV M_X11_read 2 := ⟨(kTbl_in (kwt_3 _ (List.mem_of_getElem? (i := 173) rfl)) rfl), (kTbl_in (kwt_1 _ (List.mem_of_getElem? (i := 1) rfl)) rfl), ⟨by decide +kernel, by decide +kernel, by decide +kernel⟩, (kTbl_in (kwt_3 _ (List.mem_of_getElem? (i := 171) rfl)) rfl), (kTbl_in (kwt_3 _ (List.mem_of_getElem? (i := 172) rfl)) rfl)⟩
abbrev M_X11_reap : Km := (yX11_reap, cX11_reap, 4, some .int)
theorem m_X11_reap : kMdV M_X11_reap 1 := ⟨(kTbl_in (kwt_6 _ (List.mem_of_getElem? (i := 67) rfl)) rfl), (kTbl_in (kwt_1 _ (List.mem_of_getElem? (i := 1) rfl)) rfl), ⟨by decide +kernel, by decide +kernel, by decide +kernel⟩, (kTbl_in (kwt_6 _ (List.mem_of_getElem? (i := 65) rfl)) rfl), (kTbl_in (kwt_6 _ (List.mem_of_getElem? (i := 66) rfl)) rfl)⟩
abbrev M_X11_refuse : Km := (yX11_refuse, cX11_refuse, 2, some .boolean)
theorem m_X11_refuse : kMdV M_X11_refuse 1 := ⟨(kTbl_in (kwt_3 _ (List.mem_of_getElem? (i := 149) rfl)) rfl), (kTbl_in (kwt_1 _ (List.mem_of_getElem? (i := 1) rfl)) rfl), ⟨by decide +kernel, by decide +kernel, by decide +kernel⟩, (kTbl_in (kwt_3 _ (List.mem_of_getElem? (i := 148) rfl)) rfl), (kTbl_in (kwp_1 (yX11_refuse, 19) (List.mem_of_getElem? (i := 1) rfl)) rfl)⟩
abbrev M_X11_ripe : Km := (yX11_ripe, cX11_ripe, 4, some .int)
theorem m_X11_ripe : kMdV M_X11_ripe 1 := ⟨(kTbl_in (kwt_6 _ (List.mem_of_getElem? (i := 73) rfl)) rfl), (kTbl_in (kwt_1 _ (List.mem_of_getElem? (i := 1) rfl)) rfl), ⟨by decide +kernel, by decide +kernel, by decide +kernel⟩, (kTbl_in (kwt_6 _ (List.mem_of_getElem? (i := 71) rfl)) rfl), (kTbl_in (kwt_6 _ (List.mem_of_getElem? (i := 72) rfl)) rfl)⟩
abbrev M_X11_rule : Km := (yX11_rule, cX11_rule, 2, some .boolean)
theorem m_X11_rule : kMdV M_X11_rule 1 := ⟨(kTbl_in (kwt_6 _ (List.mem_of_getElem? (i := 59) rfl)) rfl), (kTbl_in (kwt_1 _ (List.mem_of_getElem? (i := 1) rfl)) rfl), ⟨by decide +kernel, by decide +kernel, by decide +kernel⟩, (kTbl_in (kwt_6 _ (List.mem_of_getElem? (i := 57) rfl)) rfl), (kTbl_in (kwt_6 _ (List.mem_of_getElem? (i := 58) rfl)) rfl)⟩
abbrev M_X11_seasons : Km := (yX11_seasons, cX11_seasons, 3, some .int)
theorem m_X11_seasons : kMdV M_X11_seasons 1 := ⟨(kTbl_in (kwt_4 _ (List.mem_of_getElem? (i := 188) rfl)) rfl), (kTbl_in (kwt_1 _ (List.mem_of_getElem? (i := 1) rfl)) rfl), ⟨by decide +kernel, by decide +kernel, by decide +kernel⟩, (kTbl_in (kwt_4 _ (List.mem_of_getElem? (i := 186) rfl)) rfl), (kTbl_in (kwt_4 _ (List.mem_of_getElem? (i := 187) rfl)) rfl)⟩
abbrev M_X11_sell : Km := (yX11_sell, cX11_sell, 4, some .int)
theorem m_X11_sell : kMdV M_X11_sell 2 := ⟨(kTbl_in (kwt_6 _ (List.mem_of_getElem? (i := 51) rfl)) rfl), (kTbl_in (kwt_1 _ (List.mem_of_getElem? (i := 1) rfl)) rfl), ⟨by decide +kernel, by decide +kernel, by decide +kernel⟩, (kTbl_in (kwt_6 _ (List.mem_of_getElem? (i := 49) rfl)) rfl), (kTbl_in (kwt_6 _ (List.mem_of_getElem? (i := 50) rfl)) rfl)⟩
abbrev M_X11_settle : Km := (yX11_settle, cX11_settle, 2, some .int)
theorem m_X11_settle : kMdV M_X11_settle 1 := ⟨(kTbl_in (kwt_6 _ (List.mem_of_getElem? (i := 170) rfl)) rfl), (kTbl_in (kwt_1 _ (List.mem_of_getElem? (i := 1) rfl)) rfl), ⟨by decide +kernel, by decide +kernel, by decide +kernel⟩, (kTbl_in (kwt_6 _ (List.mem_of_getElem? (i := 168) rfl)) rfl), (kTbl_in (kwt_6 _ (List.mem_of_getElem? (i := 169) rfl)) rfl)⟩
abbrev M_X11_shaded : Km := (yX11_shaded, cX11_shaded, 4, some .boolean)
theorem m_X11_shaded : kMdV M_X11_shaded 0 := ⟨(kTbl_in (kwt_7 _ (List.mem_of_getElem? (i := 21) rfl)) rfl), (kTbl_in (kwt_1 _ (List.mem_of_getElem? (i := 1) rfl)) rfl), ⟨by decide +kernel, by decide +kernel, by decide +kernel⟩, (kTbl_in (kwt_7 _ (List.mem_of_getElem? (i := 19) rfl)) rfl), (kTbl_in (kwt_7 _ (List.mem_of_getElem? (i := 20) rfl)) rfl)⟩
abbrev M_X11_shaders : Km := (yX11_shaders, cX11_shaders, 4, some .int)
theorem m_X11_shaders : kMdV M_X11_shaders 3 := ⟨(kTbl_in (kwt_5 _ (List.mem_of_getElem? (i := 137) rfl)) rfl), (kTbl_in (kwt_1 _ (List.mem_of_getElem? (i := 1) rfl)) rfl), ⟨by decide +kernel, by decide +kernel, by decide +kernel⟩, (kTbl_in (kwt_5 _ (List.mem_of_getElem? (i := 135) rfl)) rfl), (kTbl_in (kwt_5 _ (List.mem_of_getElem? (i := 136) rfl)) rfl)⟩
abbrev M_X11_share : Km := (yX11_share, cX11_share, 5, some .boolean)
theorem m_X11_share : kMdV M_X11_share 1 := ⟨(kTbl_in (kwt_7 _ (List.mem_of_getElem? (i := 13) rfl)) rfl), (kTbl_in (kwt_1 _ (List.mem_of_getElem? (i := 1) rfl)) rfl), ⟨by decide +kernel, by decide +kernel, by decide +kernel⟩, (kTbl_in (kwt_7 _ (List.mem_of_getElem? (i := 11) rfl)) rfl), (kTbl_in (kwt_7 _ (List.mem_of_getElem? (i := 12) rfl)) rfl)⟩
abbrev M_X11_stands : Km := (yX11_stands, cX11_stands, 4, some .int)
theorem m_X11_stands : kMdV M_X11_stands 3 := ⟨(kTbl_in (kwt_5 _ (List.mem_of_getElem? (i := 116) rfl)) rfl), (kTbl_in (kwt_1 _ (List.mem_of_getElem? (i := 1) rfl)) rfl), ⟨by decide +kernel, by decide +kernel, by decide +kernel⟩, (kTbl_in (kwt_5 _ (List.mem_of_getElem? (i := 114) rfl)) rfl), (kTbl_in (kwt_5 _ (List.mem_of_getElem? (i := 115) rfl)) rfl)⟩
abbrev M_X11_status : Km := (yX11_status, cX11_status, 1, some .int)
theorem m_X11_status : kMdV M_X11_status 0 := ⟨(kTbl_in (kwt_3 _ (List.mem_of_getElem? (i := 129) rfl)) rfl), (kTbl_in (kwt_1 _ (List.mem_of_getElem? (i := 1) rfl)) rfl), ⟨by decide +kernel, by decide +kernel, by decide +kernel⟩, (kTbl_in (kwt_3 _ (List.mem_of_getElem? (i := 127) rfl)) rfl), (kTbl_in (kwt_3 _ (List.mem_of_getElem? (i := 128) rfl)) rfl)⟩
abbrev M_X11_strip : Km := (yX11_strip, cX11_strip, 6, some .int)
theorem m_X11_strip : kMdV M_X11_strip 3 := ⟨(kTbl_in (kwt_6 _ (List.mem_of_getElem? (i := 186) rfl)) rfl), (kTbl_in (kwt_1 _ (List.mem_of_getElem? (i := 1) rfl)) rfl), ⟨by decide +kernel, by decide +kernel, by decide +kernel⟩, (kTbl_in (kwt_6 _ (List.mem_of_getElem? (i := 184) rfl)) rfl), (kTbl_in (kwt_6 _ (List.mem_of_getElem? (i := 185) rfl)) rfl)⟩
abbrev M_X11_stripTrayStatus : Km := (yX11_stripTrayStatus, cX11_stripTrayStatus, 2, some .int)
theorem m_X11_stripTrayStatus : kMdV M_X11_stripTrayStatus 1 := ⟨(kTbl_in (kwt_6 _ (List.mem_of_getElem? (i := 191) rfl)) rfl), (kTbl_in (kwt_1 _ (List.mem_of_getElem? (i := 1) rfl)) rfl), ⟨by decide +kernel, by decide +kernel, by decide +kernel⟩, (kTbl_in (kwt_6 _ (List.mem_of_getElem? (i := 190) rfl)) rfl), (kTbl_in (kwp_3 (yX11_stripTrayStatus, 19) (List.mem_of_getElem? (i := 13) rfl)) rfl)⟩
abbrev M_X11_strips : Km := (yX11_strips, cX11_strips, 2, some .int)
theorem m_X11_strips : kMdV M_X11_strips 1 := ⟨(kTbl_in (kwt_6 _ (List.mem_of_getElem? (i := 224) rfl)) rfl), (kTbl_in (kwt_1 _ (List.mem_of_getElem? (i := 1) rfl)) rfl), ⟨by decide +kernel, by decide +kernel, by decide +kernel⟩, (kTbl_in (kwt_6 _ (List.mem_of_getElem? (i := 222) rfl)) rfl), (kTbl_in (kwt_6 _ (List.mem_of_getElem? (i := 223) rfl)) rfl)⟩
abbrev M_X11_suspects : Km := (yX11_suspects, cX11_suspects, 6, some .int)
theorem m_X11_suspects : kMdV M_X11_suspects 2 := ⟨(kTbl_in (kwt_6 _ (List.mem_of_getElem? (i := 203) rfl)) rfl), (kTbl_in (kwt_1 _ (List.mem_of_getElem? (i := 1) rfl)) rfl), ⟨by decide +kernel, by decide +kernel, by decide +kernel⟩, (kTbl_in (kwt_6 _ (List.mem_of_getElem? (i := 201) rfl)) rfl), (kTbl_in (kwt_6 _ (List.mem_of_getElem? (i := 202) rfl)) rfl)⟩
abbrev M_X11_tellFraction : Km := (yX11_tellFraction, cX11_tellFraction, 12, none)
theorem m_X11_tellFraction : kMdV M_X11_tellFraction 2 := ⟨(kTbl_in (kwt_7 _ (List.mem_of_getElem? (i := 17) rfl)) rfl), (kTbl_in (kwt_1 _ (List.mem_of_getElem? (i := 1) rfl)) rfl), ⟨by decide +kernel, by decide +kernel, by decide +kernel⟩, (kTbl_in (kwt_7 _ (List.mem_of_getElem? (i := 16) rfl)) rfl), (kTbl_in (kwp_4 (yX11_tellFraction, 19) (List.mem_of_getElem? (i := 0) rfl)) rfl)⟩
abbrev M_X11_telling : Km := (yX11_telling, cX11_telling, 5, some .int)
theorem m_X11_telling : kMdV M_X11_telling 0 := ⟨(kTbl_in (kwt_6 _ (List.mem_of_getElem? (i := 211) rfl)) rfl), (kTbl_in (kwt_1 _ (List.mem_of_getElem? (i := 1) rfl)) rfl), ⟨by decide +kernel, by decide +kernel, by decide +kernel⟩, (kTbl_in (kwt_6 _ (List.mem_of_getElem? (i := 209) rfl)) rfl), (kTbl_in (kwt_6 _ (List.mem_of_getElem? (i := 210) rfl)) rfl)⟩
abbrev M_X11_tenant : Km := (yX11_tenant, cX11_tenant, 4, some .int)
theorem m_X11_tenant : kMdV M_X11_tenant 2 := ⟨(kTbl_in (kwt_5 _ (List.mem_of_getElem? (i := 108) rfl)) rfl), (kTbl_in (kwt_1 _ (List.mem_of_getElem? (i := 1) rfl)) rfl), ⟨by decide +kernel, by decide +kernel, by decide +kernel⟩, (kTbl_in (kwt_5 _ (List.mem_of_getElem? (i := 106) rfl)) rfl), (kTbl_in (kwt_5 _ (List.mem_of_getElem? (i := 107) rfl)) rfl)⟩
abbrev M_X11_tenantIn : Km := (yX11_tenantIn, cX11_tenantIn, 3, some .int)
theorem m_X11_tenantIn : kMdV M_X11_tenantIn 2 := ⟨(kTbl_in (kwt_6 _ (List.mem_of_getElem? (i := 113) rfl)) rfl), (kTbl_in (kwt_1 _ (List.mem_of_getElem? (i := 1) rfl)) rfl), ⟨by decide +kernel, by decide +kernel, by decide +kernel⟩, (kTbl_in (kwt_6 _ (List.mem_of_getElem? (i := 111) rfl)) rfl), (kTbl_in (kwt_6 _ (List.mem_of_getElem? (i := 112) rfl)) rfl)⟩
abbrev M_X11_told : Km := (yX11_told, cX11_told, 2, some .int)
theorem m_X11_told : kMdV M_X11_told 1 := ⟨(kTbl_in (kwt_5 _ (List.mem_of_getElem? (i := 21) rfl)) rfl), (kTbl_in (kwt_1 _ (List.mem_of_getElem? (i := 1) rfl)) rfl), ⟨by decide +kernel, by decide +kernel, by decide +kernel⟩, (kTbl_in (kwt_5 _ (List.mem_of_getElem? (i := 19) rfl)) rfl), (kTbl_in (kwt_5 _ (List.mem_of_getElem? (i := 20) rfl)) rfl)⟩
abbrev M_X11_top : Km := (yX11_top, cX11_top, 1, some .long)
theorem m_X11_top : kMdV M_X11_top 0 := ⟨(kTbl_in (kwt_3 _ (List.mem_of_getElem? (i := 133) rfl)) rfl), (kTbl_in (kwt_1 _ (List.mem_of_getElem? (i := 1) rfl)) rfl), ⟨by decide +kernel, by decide +kernel, by decide +kernel⟩, (kTbl_in (kwt_3 _ (List.mem_of_getElem? (i := 131) rfl)) rfl), (kTbl_in (kwt_3 _ (List.mem_of_getElem? (i := 132) rfl)) rfl)⟩
abbrev M_X11_tray : Km := (yX11_tray, cX11_tray, 4, some .boolean)
theorem m_X11_tray : kMdV M_X11_tray 3 := ⟨(kTbl_in (kwt_3 _ (List.mem_of_getElem? (i := 141) rfl)) rfl), (kTbl_in (kwt_1 _ (List.mem_of_getElem? (i := 1) rfl)) rfl), ⟨by decide +kernel, by decide +kernel, by decide +kernel⟩, (kTbl_in (kwt_3 _ (List.mem_of_getElem? (i := 139) rfl)) rfl), (kTbl_in (kwt_3 _ (List.mem_of_getElem? (i := 140) rfl)) rfl)⟩
abbrev M_X11_undo : Km := (yX11_undo, cX11_undo, 1, some .int)
theorem m_X11_undo : kMdV M_X11_undo 0 := ⟨(kTbl_in (kwt_7 _ (List.mem_of_getElem? (i := 81) rfl)) rfl), (kTbl_in (kwt_1 _ (List.mem_of_getElem? (i := 1) rfl)) rfl), ⟨by decide +kernel, by decide +kernel, by decide +kernel⟩, (kTbl_in (kwt_7 _ (List.mem_of_getElem? (i := 79) rfl)) rfl), (kTbl_in (kwt_7 _ (List.mem_of_getElem? (i := 80) rfl)) rfl)⟩
abbrev M_X11_walk : Km := (yX11_walk, cX11_walk, 3, some .int)
theorem m_X11_walk : kMdV M_X11_walk 2 := ⟨(kTbl_in (kwt_6 _ (List.mem_of_getElem? (i := 26) rfl)) rfl), (kTbl_in (kwt_1 _ (List.mem_of_getElem? (i := 1) rfl)) rfl), ⟨by decide +kernel, by decide +kernel, by decide +kernel⟩, (kTbl_in (kwt_6 _ (List.mem_of_getElem? (i := 24) rfl)) rfl), (kTbl_in (kwt_6 _ (List.mem_of_getElem? (i := 25) rfl)) rfl)⟩
abbrev M_X11_wind : Km := (yX11_wind, cX11_wind, 3, some .int)
theorem m_X11_wind : kMdV M_X11_wind 2 := ⟨(kTbl_in (kwt_5 _ (List.mem_of_getElem? (i := 84) rfl)) rfl), (kTbl_in (kwt_1 _ (List.mem_of_getElem? (i := 1) rfl)) rfl), ⟨by decide +kernel, by decide +kernel, by decide +kernel⟩, (kTbl_in (kwt_5 _ (List.mem_of_getElem? (i := 82) rfl)) rfl), (kTbl_in (kwt_5 _ (List.mem_of_getElem? (i := 83) rfl)) rfl)⟩
abbrev M_X11_write : Km := (yX11_write, cX11_write, 6, some .boolean)
theorem m_X11_write : kMdV M_X11_write 3 := ⟨(kTbl_in (kwt_3 _ (List.mem_of_getElem? (i := 161) rfl)) rfl), (kTbl_in (kwt_1 _ (List.mem_of_getElem? (i := 1) rfl)) rfl), ⟨by decide +kernel, by decide +kernel, by decide +kernel⟩, (kTbl_in (kwt_3 _ (List.mem_of_getElem? (i := 159) rfl)) rfl), (kTbl_in (kwt_3 _ (List.mem_of_getElem? (i := 160) rfl)) rfl)⟩
abbrev M_X12_aCrop : Km := (yX12_aCrop, cX12_aCrop, 2, some .boolean)
theorem m_X12_aCrop : kMdV M_X12_aCrop 0 := ⟨(kTbl_in (kwt_8 _ (List.mem_of_getElem? (i := 124) rfl)) rfl), (kTbl_in (kwt_1 _ (List.mem_of_getElem? (i := 13) rfl)) rfl), ⟨by decide +kernel, by decide +kernel, by decide +kernel⟩, (kTbl_in (kwt_8 _ (List.mem_of_getElem? (i := 123) rfl)) rfl), (kTbl_in (kwp_5 (yX12_aCrop, 42) (List.mem_of_getElem? (i := 13) rfl)) rfl)⟩
abbrev M_X12_aKite : Km := (yX12_aKite, cX12_aKite, 2, some .boolean)
theorem m_X12_aKite : kMdV M_X12_aKite 0 := ⟨(kTbl_in (kwt_8 _ (List.mem_of_getElem? (i := 96) rfl)) rfl), (kTbl_in (kwt_1 _ (List.mem_of_getElem? (i := 13) rfl)) rfl), ⟨by decide +kernel, by decide +kernel, by decide +kernel⟩, (kTbl_in (kwt_8 _ (List.mem_of_getElem? (i := 95) rfl)) rfl), (kTbl_in (kwp_5 (yX12_aKite, 42) (List.mem_of_getElem? (i := 6) rfl)) rfl)⟩
abbrev M_X12_aTenant : Km := (yX12_aTenant, cX12_aTenant, 2, some .boolean)
theorem m_X12_aTenant : kMdV M_X12_aTenant 0 := ⟨(kTbl_in (kwt_8 _ (List.mem_of_getElem? (i := 128) rfl)) rfl), (kTbl_in (kwt_1 _ (List.mem_of_getElem? (i := 13) rfl)) rfl), ⟨by decide +kernel, by decide +kernel, by decide +kernel⟩, (kTbl_in (kwt_8 _ (List.mem_of_getElem? (i := 127) rfl)) rfl), (kTbl_in (kwp_5 (yX12_aTenant, 42) (List.mem_of_getElem? (i := 14) rfl)) rfl)⟩
abbrev M_X12_aWind : Km := (yX12_aWind, cX12_aWind, 3, some .boolean)
theorem m_X12_aWind : kMdV M_X12_aWind 0 := ⟨(kTbl_in (kwt_8 _ (List.mem_of_getElem? (i := 92) rfl)) rfl), (kTbl_in (kwt_1 _ (List.mem_of_getElem? (i := 13) rfl)) rfl), ⟨by decide +kernel, by decide +kernel, by decide +kernel⟩, (kTbl_in (kwt_8 _ (List.mem_of_getElem? (i := 91) rfl)) rfl), (kTbl_in (kwp_5 (yX12_aWind, 42) (List.mem_of_getElem? (i := 5) rfl)) rfl)⟩
abbrev M_X12_ahead : Km := (yX12_ahead, cX12_ahead, 2, none)
theorem m_X12_ahead : kMdV M_X12_ahead 0 := ⟨(kTbl_in (kwt_8 _ (List.mem_of_getElem? (i := 45) rfl)) rfl), (kTbl_in (kwt_1 _ (List.mem_of_getElem? (i := 13) rfl)) rfl), ⟨by decide +kernel, by decide +kernel, by decide +kernel⟩, (kTbl_in (kwt_8 _ (List.mem_of_getElem? (i := 44) rfl)) rfl), (kTbl_in (kwp_4 (yX12_ahead, 42) (List.mem_of_getElem? (i := 12) rfl)) rfl)⟩
abbrev M_X12_areTwo : Km := (yX12_areTwo, cX12_areTwo, 3, some .boolean)
theorem m_X12_areTwo : kMdV M_X12_areTwo 2 := ⟨(kTbl_in (kwt_9 _ (List.mem_of_getElem? (i := 85) rfl)) rfl), (kTbl_in (kwt_1 _ (List.mem_of_getElem? (i := 13) rfl)) rfl), ⟨by decide +kernel, by decide +kernel, by decide +kernel⟩, (kTbl_in (kwt_9 _ (List.mem_of_getElem? (i := 84) rfl)) rfl), (kTbl_in (kwp_7 (yX12_areTwo, 42) (List.mem_of_getElem? (i := 14) rfl)) rfl)⟩
abbrev M_X12_begins : Km := (yX12_begins, cX12_begins, 4, some .boolean)
theorem m_X12_begins : kMdV M_X12_begins 2 := ⟨(kTbl_in (kwt_8 _ (List.mem_of_getElem? (i := 41) rfl)) rfl), (kTbl_in (kwt_1 _ (List.mem_of_getElem? (i := 13) rfl)) rfl), ⟨by decide +kernel, by decide +kernel, by decide +kernel⟩, (kTbl_in (kwt_8 _ (List.mem_of_getElem? (i := 40) rfl)) rfl), (kTbl_in (kwp_4 (yX12_begins, 42) (List.mem_of_getElem? (i := 11) rfl)) rfl)⟩
abbrev M_X12_behindEnds : Km := (yX12_behindEnds, cX12_behindEnds, 5, some .int)
theorem m_X12_behindEnds : kMdV M_X12_behindEnds 1 := ⟨(kTbl_in (kwt_10 _ (List.mem_of_getElem? (i := 161) rfl)) rfl), (kTbl_in (kwt_1 _ (List.mem_of_getElem? (i := 13) rfl)) rfl), ⟨by decide +kernel, by decide +kernel, by decide +kernel⟩, (kTbl_in (kwt_10 _ (List.mem_of_getElem? (i := 160) rfl)) rfl), (kTbl_in (kwp_10 (yX12_behindEnds, 42) (List.mem_of_getElem? (i := 5) rfl)) rfl)⟩
abbrev M_X12_bits : Km := (yX12_bits, cX12_bits, 3, some .int)
theorem m_X12_bits : kMdS M_X12_bits 1 := ⟨(kTbl_in (kwt_9 _ (List.mem_of_getElem? (i := 53) rfl)) rfl), (kTbl_in (kwt_1 _ (List.mem_of_getElem? (i := 13) rfl)) rfl), ⟨by decide +kernel, by decide +kernel, by decide +kernel⟩, (kTbl_in (kwt_9 _ (List.mem_of_getElem? (i := 52) rfl)) rfl)⟩
abbrev M_X12_blow : Km := (yX12_blow, cX12_blow, 4, some .boolean)
theorem m_X12_blow : kMdV M_X12_blow 3 := ⟨(kTbl_in (kwt_9 _ (List.mem_of_getElem? (i := 180) rfl)) rfl), (kTbl_in (kwt_1 _ (List.mem_of_getElem? (i := 13) rfl)) rfl), ⟨by decide +kernel, by decide +kernel, by decide +kernel⟩, (kTbl_in (kwt_9 _ (List.mem_of_getElem? (i := 178) rfl)) rfl), (kTbl_in (kwt_9 _ (List.mem_of_getElem? (i := 179) rfl)) rfl)⟩
abbrev M_X12_bottom : Km := (yX12_bottom, cX12_bottom, 1, some .long)
theorem m_X12_bottom : kMdV M_X12_bottom 0 := ⟨(kTbl_in (kwt_7 _ (List.mem_of_getElem? (i := 230) rfl)) rfl), (kTbl_in (kwt_1 _ (List.mem_of_getElem? (i := 13) rfl)) rfl), ⟨by decide +kernel, by decide +kernel, by decide +kernel⟩, (kTbl_in (kwt_7 _ (List.mem_of_getElem? (i := 228) rfl)) rfl), (kTbl_in (kwt_7 _ (List.mem_of_getElem? (i := 229) rfl)) rfl)⟩
abbrev M_X12_busiest : Km := (yX12_busiest, cX12_busiest, 3, some .int)
theorem m_X12_busiest : kMdV M_X12_busiest 0 := ⟨(kTbl_in (kwt_9 _ (List.mem_of_getElem? (i := 112) rfl)) rfl), (kTbl_in (kwt_1 _ (List.mem_of_getElem? (i := 13) rfl)) rfl), ⟨by decide +kernel, by decide +kernel, by decide +kernel⟩, (kTbl_in (kwt_9 _ (List.mem_of_getElem? (i := 110) rfl)) rfl), (kTbl_in (kwt_9 _ (List.mem_of_getElem? (i := 111) rfl)) rfl)⟩
abbrev M_X12_byteAt : Km := (yX12_byteAt, cX12_byteAt, 2, some .int)
theorem m_X12_byteAt : kMdV M_X12_byteAt 1 := ⟨(kTbl_in (kwt_8 _ (List.mem_of_getElem? (i := 49) rfl)) rfl), (kTbl_in (kwt_1 _ (List.mem_of_getElem? (i := 13) rfl)) rfl), ⟨by decide +kernel, by decide +kernel, by decide +kernel⟩, (kTbl_in (kwt_8 _ (List.mem_of_getElem? (i := 48) rfl)) rfl), (kTbl_in (kwp_4 (yX12_byteAt, 42) (List.mem_of_getElem? (i := 13) rfl)) rfl)⟩
abbrev M_X12_columnOf : Km := (yX12_columnOf, cX12_columnOf, 4, some .int)
theorem m_X12_columnOf : kMdV M_X12_columnOf 2 := ⟨(kTbl_in (kwt_9 _ (List.mem_of_getElem? (i := 8) rfl)) rfl), (kTbl_in (kwt_1 _ (List.mem_of_getElem? (i := 13) rfl)) rfl), ⟨by decide +kernel, by decide +kernel, by decide +kernel⟩, (kTbl_in (kwt_9 _ (List.mem_of_getElem? (i := 7) rfl)) rfl), (kTbl_in (kwp_7 (yX12_columnOf, 42) (List.mem_of_getElem? (i := 2) rfl)) rfl)⟩
abbrev M_X12_copies : Km := (yX12_copies, cX12_copies, 4, none)
theorem m_X12_copies : kMdV M_X12_copies 2 := ⟨(kTbl_in (kwt_10 _ (List.mem_of_getElem? (i := 177) rfl)) rfl), (kTbl_in (kwt_1 _ (List.mem_of_getElem? (i := 13) rfl)) rfl), ⟨by decide +kernel, by decide +kernel, by decide +kernel⟩, (kTbl_in (kwt_10 _ (List.mem_of_getElem? (i := 176) rfl)) rfl), (kTbl_in (kwp_10 (yX12_copies, 42) (List.mem_of_getElem? (i := 6) rfl)) rfl)⟩
abbrev M_X12_county : Km := (yX12_county, cX12_county, 4, some .int)
theorem m_X12_county : kMdV M_X12_county 1 := ⟨(kTbl_in (kwt_8 _ (List.mem_of_getElem? (i := 37) rfl)) rfl), (kTbl_in (kwt_1 _ (List.mem_of_getElem? (i := 13) rfl)) rfl), ⟨by decide +kernel, by decide +kernel, by decide +kernel⟩, (kTbl_in (kwt_8 _ (List.mem_of_getElem? (i := 35) rfl)) rfl), (kTbl_in (kwt_8 _ (List.mem_of_getElem? (i := 36) rfl)) rfl)⟩
abbrev M_X12_countyPart : Km := (yX12_countyPart, cX12_countyPart, 3, some .boolean)
theorem m_X12_countyPart : kMdV M_X12_countyPart 0 := ⟨(kTbl_in (kwt_8 _ (List.mem_of_getElem? (i := 65) rfl)) rfl), (kTbl_in (kwt_1 _ (List.mem_of_getElem? (i := 13) rfl)) rfl), ⟨by decide +kernel, by decide +kernel, by decide +kernel⟩, (kTbl_in (kwt_8 _ (List.mem_of_getElem? (i := 64) rfl)) rfl), (kTbl_in (kwp_4 (yX12_countyPart, 42) (List.mem_of_getElem? (i := 15) rfl)) rfl)⟩
abbrev M_X12_cover : Km := (yX12_cover, cX12_cover, 6, some .int)
theorem m_X12_cover : kMdV M_X12_cover 3 := ⟨(kTbl_in (kwt_10 _ (List.mem_of_getElem? (i := 27) rfl)) rfl), (kTbl_in (kwt_1 _ (List.mem_of_getElem? (i := 13) rfl)) rfl), ⟨by decide +kernel, by decide +kernel, by decide +kernel⟩, (kTbl_in (kwt_10 _ (List.mem_of_getElem? (i := 25) rfl)) rfl), (kTbl_in (kwt_10 _ (List.mem_of_getElem? (i := 26) rfl)) rfl)⟩
abbrev M_X12_coverOf : Km := (yX12_coverOf, cX12_coverOf, 8, some .int)
theorem m_X12_coverOf : kMdV M_X12_coverOf 3 := ⟨(kTbl_in (kwt_10 _ (List.mem_of_getElem? (i := 37) rfl)) rfl), (kTbl_in (kwt_1 _ (List.mem_of_getElem? (i := 13) rfl)) rfl), ⟨by decide +kernel, by decide +kernel, by decide +kernel⟩, (kTbl_in (kwt_10 _ (List.mem_of_getElem? (i := 36) rfl)) rfl), (kTbl_in (kwp_9 (yX12_coverOf, 42) (List.mem_of_getElem? (i := 3) rfl)) rfl)⟩
abbrev M_X12_coverSet : Km := (yX12_coverSet, cX12_coverSet, 5, some .int)
theorem m_X12_coverSet : kMdV M_X12_coverSet 3 := ⟨(kTbl_in (kwt_10 _ (List.mem_of_getElem? (i := 41) rfl)) rfl), (kTbl_in (kwt_1 _ (List.mem_of_getElem? (i := 13) rfl)) rfl), ⟨by decide +kernel, by decide +kernel, by decide +kernel⟩, (kTbl_in (kwt_10 _ (List.mem_of_getElem? (i := 39) rfl)) rfl), (kTbl_in (kwt_10 _ (List.mem_of_getElem? (i := 40) rfl)) rfl)⟩
abbrev M_X12_crop : Km := (yX12_crop, cX12_crop, 3, some .int)
theorem m_X12_crop : kMdV M_X12_crop 2 := ⟨(kTbl_in (kwt_8 _ (List.mem_of_getElem? (i := 225) rfl)) rfl), (kTbl_in (kwt_1 _ (List.mem_of_getElem? (i := 13) rfl)) rfl), ⟨by decide +kernel, by decide +kernel, by decide +kernel⟩, (kTbl_in (kwt_8 _ (List.mem_of_getElem? (i := 223) rfl)) rfl), (kTbl_in (kwt_8 _ (List.mem_of_getElem? (i := 224) rfl)) rfl)⟩
abbrev M_X12_cropRow : Km := (yX12_cropRow, cX12_cropRow, 1, some .int)
theorem m_X12_cropRow : kMdS M_X12_cropRow 1 := ⟨(kTbl_in (kwt_8 _ (List.mem_of_getElem? (i := 206) rfl)) rfl), (kTbl_in (kwt_1 _ (List.mem_of_getElem? (i := 13) rfl)) rfl), ⟨by decide +kernel, by decide +kernel, by decide +kernel⟩, (kTbl_in (kwt_8 _ (List.mem_of_getElem? (i := 205) rfl)) rfl)⟩
abbrev M_X12_crosses : Km := (yX12_crosses, cX12_crosses, 4, some .int)
theorem m_X12_crosses : kMdV M_X12_crosses 3 := ⟨(kTbl_in (kwt_9 _ (List.mem_of_getElem? (i := 81) rfl)) rfl), (kTbl_in (kwt_1 _ (List.mem_of_getElem? (i := 13) rfl)) rfl), ⟨by decide +kernel, by decide +kernel, by decide +kernel⟩, (kTbl_in (kwt_9 _ (List.mem_of_getElem? (i := 79) rfl)) rfl), (kTbl_in (kwt_9 _ (List.mem_of_getElem? (i := 80) rfl)) rfl)⟩
abbrev M_X12_cut : Km := (yX12_cut, cX12_cut, 3, some .boolean)
theorem m_X12_cut : kMdV M_X12_cut 2 := ⟨(kTbl_in (kwt_9 _ (List.mem_of_getElem? (i := 166) rfl)) rfl), (kTbl_in (kwt_1 _ (List.mem_of_getElem? (i := 13) rfl)) rfl), ⟨by decide +kernel, by decide +kernel, by decide +kernel⟩, (kTbl_in (kwt_9 _ (List.mem_of_getElem? (i := 164) rfl)) rfl), (kTbl_in (kwt_9 _ (List.mem_of_getElem? (i := 165) rfl)) rfl)⟩
abbrev M_X12_cutIn : Km := (yX12_cutIn, cX12_cutIn, 2, some .int)
theorem m_X12_cutIn : kMdV M_X12_cutIn 1 := ⟨(kTbl_in (kwt_9 _ (List.mem_of_getElem? (i := 215) rfl)) rfl), (kTbl_in (kwt_1 _ (List.mem_of_getElem? (i := 13) rfl)) rfl), ⟨by decide +kernel, by decide +kernel, by decide +kernel⟩, (kTbl_in (kwt_9 _ (List.mem_of_getElem? (i := 213) rfl)) rfl), (kTbl_in (kwt_9 _ (List.mem_of_getElem? (i := 214) rfl)) rfl)⟩
abbrev M_X12_cuts : Km := (yX12_cuts, cX12_cuts, 3, some .int)
theorem m_X12_cuts : kMdV M_X12_cuts 0 := ⟨(kTbl_in (kwt_9 _ (List.mem_of_getElem? (i := 136) rfl)) rfl), (kTbl_in (kwt_1 _ (List.mem_of_getElem? (i := 13) rfl)) rfl), ⟨by decide +kernel, by decide +kernel, by decide +kernel⟩, (kTbl_in (kwt_9 _ (List.mem_of_getElem? (i := 135) rfl)) rfl), (kTbl_in (kwp_8 (yX12_cuts, 42) (List.mem_of_getElem? (i := 4) rfl)) rfl)⟩
abbrev M_X12_disputed : Km := (yX12_disputed, cX12_disputed, 5, some .int)
theorem m_X12_disputed : kMdV M_X12_disputed 1 := ⟨(kTbl_in (kwt_9 _ (List.mem_of_getElem? (i := 77) rfl)) rfl), (kTbl_in (kwt_1 _ (List.mem_of_getElem? (i := 13) rfl)) rfl), ⟨by decide +kernel, by decide +kernel, by decide +kernel⟩, (kTbl_in (kwt_9 _ (List.mem_of_getElem? (i := 75) rfl)) rfl), (kTbl_in (kwt_9 _ (List.mem_of_getElem? (i := 76) rfl)) rfl)⟩
abbrev M_X12_doCross : Km := (yX12_doCross, cX12_doCross, 4, some .boolean)
theorem m_X12_doCross : kMdV M_X12_doCross 3 := ⟨(kTbl_in (kwt_9 _ (List.mem_of_getElem? (i := 89) rfl)) rfl), (kTbl_in (kwt_1 _ (List.mem_of_getElem? (i := 13) rfl)) rfl), ⟨by decide +kernel, by decide +kernel, by decide +kernel⟩, (kTbl_in (kwt_9 _ (List.mem_of_getElem? (i := 88) rfl)) rfl), (kTbl_in (kwp_7 (yX12_doCross, 42) (List.mem_of_getElem? (i := 15) rfl)) rfl)⟩
abbrev M_X12_does : Km := (yX12_does, cX12_does, 3, some .boolean)
theorem m_X12_does : kMdV M_X12_does 1 := ⟨(kTbl_in (kwt_10 _ (List.mem_of_getElem? (i := 140) rfl)) rfl), (kTbl_in (kwt_1 _ (List.mem_of_getElem? (i := 13) rfl)) rfl), ⟨by decide +kernel, by decide +kernel, by decide +kernel⟩, (kTbl_in (kwt_10 _ (List.mem_of_getElem? (i := 139) rfl)) rfl), (kTbl_in (kwp_10 (yX12_does, 42) (List.mem_of_getElem? (i := 0) rfl)) rfl)⟩
abbrev M_X12_doesShade : Km := (yX12_doesShade, cX12_doesShade, 6, some .boolean)
theorem m_X12_doesShade : kMdV M_X12_doesShade 4 := ⟨(kTbl_in (kwt_9 _ (List.mem_of_getElem? (i := 40) rfl)) rfl), (kTbl_in (kwt_1 _ (List.mem_of_getElem? (i := 13) rfl)) rfl), ⟨by decide +kernel, by decide +kernel, by decide +kernel⟩, (kTbl_in (kwt_9 _ (List.mem_of_getElem? (i := 39) rfl)) rfl), (kTbl_in (kwp_7 (yX12_doesShade, 42) (List.mem_of_getElem? (i := 9) rfl)) rfl)⟩
abbrev M_X12_doomed : Km := (yX12_doomed, cX12_doomed, 1, some .int)
theorem m_X12_doomed : kMdV M_X12_doomed 0 := ⟨(kTbl_in (kwt_9 _ (List.mem_of_getElem? (i := 100) rfl)) rfl), (kTbl_in (kwt_1 _ (List.mem_of_getElem? (i := 13) rfl)) rfl), ⟨by decide +kernel, by decide +kernel, by decide +kernel⟩, (kTbl_in (kwt_9 _ (List.mem_of_getElem? (i := 98) rfl)) rfl), (kTbl_in (kwt_9 _ (List.mem_of_getElem? (i := 99) rfl)) rfl)⟩
abbrev M_X12_doomedNow : Km := (yX12_doomedNow, cX12_doomedNow, 4, some .int)
theorem m_X12_doomedNow : kMdV M_X12_doomedNow 0 := ⟨(kTbl_in (kwt_9 _ (List.mem_of_getElem? (i := 104) rfl)) rfl), (kTbl_in (kwt_1 _ (List.mem_of_getElem? (i := 13) rfl)) rfl), ⟨by decide +kernel, by decide +kernel, by decide +kernel⟩, (kTbl_in (kwt_9 _ (List.mem_of_getElem? (i := 103) rfl)) rfl), (kTbl_in (kwp_8 (yX12_doomedNow, 42) (List.mem_of_getElem? (i := 1) rfl)) rfl)⟩
abbrev M_X12_draw : Km := (yX12_draw, cX12_draw, 2, some .int)
theorem m_X12_draw : kMdV M_X12_draw 1 := ⟨(kTbl_in (kwt_10 _ (List.mem_of_getElem? (i := 152) rfl)) rfl), (kTbl_in (kwt_1 _ (List.mem_of_getElem? (i := 13) rfl)) rfl), ⟨by decide +kernel, by decide +kernel, by decide +kernel⟩, (kTbl_in (kwt_10 _ (List.mem_of_getElem? (i := 151) rfl)) rfl), (kTbl_in (kwp_10 (yX12_draw, 42) (List.mem_of_getElem? (i := 3) rfl)) rfl)⟩
abbrev M_X12_duel : Km := (yX12_duel, cX12_duel, 4, some .int)
theorem m_X12_duel : kMdV M_X12_duel 3 := ⟨(kTbl_in (kwt_10 _ (List.mem_of_getElem? (i := 93) rfl)) rfl), (kTbl_in (kwt_1 _ (List.mem_of_getElem? (i := 13) rfl)) rfl), ⟨by decide +kernel, by decide +kernel, by decide +kernel⟩, (kTbl_in (kwt_10 _ (List.mem_of_getElem? (i := 91) rfl)) rfl), (kTbl_in (kwt_10 _ (List.mem_of_getElem? (i := 92) rfl)) rfl)⟩
abbrev M_X12_duelOf : Km := (yX12_duelOf, cX12_duelOf, 9, some .int)
theorem m_X12_duelOf : kMdV M_X12_duelOf 3 := ⟨(kTbl_in (kwt_10 _ (List.mem_of_getElem? (i := 101) rfl)) rfl), (kTbl_in (kwt_1 _ (List.mem_of_getElem? (i := 13) rfl)) rfl), ⟨by decide +kernel, by decide +kernel, by decide +kernel⟩, (kTbl_in (kwt_10 _ (List.mem_of_getElem? (i := 100) rfl)) rfl), (kTbl_in (kwp_9 (yX12_duelOf, 42) (List.mem_of_getElem? (i := 12) rfl)) rfl)⟩
abbrev M_X12_duelStep : Km := (yX12_duelStep, cX12_duelStep, 4, some .int)
theorem m_X12_duelStep : kMdV M_X12_duelStep 3 := ⟨(kTbl_in (kwt_10 _ (List.mem_of_getElem? (i := 106) rfl)) rfl), (kTbl_in (kwt_1 _ (List.mem_of_getElem? (i := 13) rfl)) rfl), ⟨by decide +kernel, by decide +kernel, by decide +kernel⟩, (kTbl_in (kwt_10 _ (List.mem_of_getElem? (i := 104) rfl)) rfl), (kTbl_in (kwt_10 _ (List.mem_of_getElem? (i := 105) rfl)) rfl)⟩
abbrev M_X12_duelled : Km := (yX12_duelled, cX12_duelled, 5, some .int)
theorem m_X12_duelled : kMdV M_X12_duelled 3 := ⟨(kTbl_in (kwt_10 _ (List.mem_of_getElem? (i := 97) rfl)) rfl), (kTbl_in (kwt_1 _ (List.mem_of_getElem? (i := 13) rfl)) rfl), ⟨by decide +kernel, by decide +kernel, by decide +kernel⟩, (kTbl_in (kwt_10 _ (List.mem_of_getElem? (i := 96) rfl)) rfl), (kTbl_in (kwp_9 (yX12_duelled, 42) (List.mem_of_getElem? (i := 11) rfl)) rfl)⟩
abbrev M_X12_earns : Km := (yX12_earns, cX12_earns, 3, none)
theorem m_X12_earns : kMdV M_X12_earns 2 := ⟨(kTbl_in (kwt_9 _ (List.mem_of_getElem? (i := 140) rfl)) rfl), (kTbl_in (kwt_1 _ (List.mem_of_getElem? (i := 13) rfl)) rfl), ⟨by decide +kernel, by decide +kernel, by decide +kernel⟩, (kTbl_in (kwt_9 _ (List.mem_of_getElem? (i := 139) rfl)) rfl), (kTbl_in (kwp_8 (yX12_earns, 42) (List.mem_of_getElem? (i := 5) rfl)) rfl)⟩
abbrev M_X12_estate : Km := (yX12_estate, cX12_estate, 3, some .int)
theorem m_X12_estate : kMdV M_X12_estate 2 := ⟨(kTbl_in (kwt_9 _ (List.mem_of_getElem? (i := 65) rfl)) rfl), (kTbl_in (kwt_1 _ (List.mem_of_getElem? (i := 13) rfl)) rfl), ⟨by decide +kernel, by decide +kernel, by decide +kernel⟩, (kTbl_in (kwt_9 _ (List.mem_of_getElem? (i := 63) rfl)) rfl), (kTbl_in (kwt_9 _ (List.mem_of_getElem? (i := 64) rfl)) rfl)⟩
abbrev M_X12_estateOf : Km := (yX12_estateOf, cX12_estateOf, 6, some .int)
theorem m_X12_estateOf : kMdV M_X12_estateOf 2 := ⟨(kTbl_in (kwt_9 _ (List.mem_of_getElem? (i := 69) rfl)) rfl), (kTbl_in (kwt_1 _ (List.mem_of_getElem? (i := 13) rfl)) rfl), ⟨by decide +kernel, by decide +kernel, by decide +kernel⟩, (kTbl_in (kwt_9 _ (List.mem_of_getElem? (i := 68) rfl)) rfl), (kTbl_in (kwp_7 (yX12_estateOf, 42) (List.mem_of_getElem? (i := 13) rfl)) rfl)⟩
abbrev M_X12_fails : Km := (yX12_fails, cX12_fails, 2, some .boolean)
theorem m_X12_fails : kMdV M_X12_fails 1 := ⟨(kTbl_in (kwt_8 _ (List.mem_of_getElem? (i := 76) rfl)) rfl), (kTbl_in (kwt_1 _ (List.mem_of_getElem? (i := 13) rfl)) rfl), ⟨by decide +kernel, by decide +kernel, by decide +kernel⟩, (kTbl_in (kwt_8 _ (List.mem_of_getElem? (i := 75) rfl)) rfl), (kTbl_in (kwp_5 (yX12_fails, 42) (List.mem_of_getElem? (i := 1) rfl)) rfl)⟩
abbrev M_X12_farFrom : Km := (yX12_farFrom, cX12_farFrom, 3, some .int)
theorem m_X12_farFrom : kMdV M_X12_farFrom 2 := ⟨(kTbl_in (kwt_9 _ (List.mem_of_getElem? (i := 16) rfl)) rfl), (kTbl_in (kwt_1 _ (List.mem_of_getElem? (i := 13) rfl)) rfl), ⟨by decide +kernel, by decide +kernel, by decide +kernel⟩, (kTbl_in (kwt_9 _ (List.mem_of_getElem? (i := 15) rfl)) rfl), (kTbl_in (kwp_7 (yX12_farFrom, 42) (List.mem_of_getElem? (i := 4) rfl)) rfl)⟩
abbrev M_X12_fault : Km := (yX12_fault, cX12_fault, 2, some .int)
theorem m_X12_fault : kMdV M_X12_fault 1 := ⟨(kTbl_in (kwt_8 _ (List.mem_of_getElem? (i := 33) rfl)) rfl), (kTbl_in (kwt_1 _ (List.mem_of_getElem? (i := 13) rfl)) rfl), ⟨by decide +kernel, by decide +kernel, by decide +kernel⟩, (kTbl_in (kwt_8 _ (List.mem_of_getElem? (i := 31) rfl)) rfl), (kTbl_in (kwt_8 _ (List.mem_of_getElem? (i := 32) rfl)) rfl)⟩
abbrev M_X12_feed : Km := (yX12_feed, cX12_feed, 6, some .int)
theorem m_X12_feed : kMdV M_X12_feed 5 := ⟨(kTbl_in (kwt_8 _ (List.mem_of_getElem? (i := 25) rfl)) rfl), (kTbl_in (kwt_1 _ (List.mem_of_getElem? (i := 13) rfl)) rfl), ⟨by decide +kernel, by decide +kernel, by decide +kernel⟩, (kTbl_in (kwt_8 _ (List.mem_of_getElem? (i := 23) rfl)) rfl), (kTbl_in (kwt_8 _ (List.mem_of_getElem? (i := 24) rfl)) rfl)⟩
abbrev M_X12_fieldTo : Km := (yX12_fieldTo, cX12_fieldTo, 2, some .boolean)
theorem m_X12_fieldTo : kMdV M_X12_fieldTo 1 := ⟨(kTbl_in (kwt_8 _ (List.mem_of_getElem? (i := 116) rfl)) rfl), (kTbl_in (kwt_1 _ (List.mem_of_getElem? (i := 13) rfl)) rfl), ⟨by decide +kernel, by decide +kernel, by decide +kernel⟩, (kTbl_in (kwt_8 _ (List.mem_of_getElem? (i := 115) rfl)) rfl), (kTbl_in (kwp_5 (yX12_fieldTo, 42) (List.mem_of_getElem? (i := 11) rfl)) rfl)⟩
abbrev M_X12_fields : Km := (yX12_fields, cX12_fields, 1, some .int)
theorem m_X12_fields : kMdV M_X12_fields 0 := ⟨(kTbl_in (kwt_9 _ (List.mem_of_getElem? (i := 116) rfl)) rfl), (kTbl_in (kwt_1 _ (List.mem_of_getElem? (i := 13) rfl)) rfl), ⟨by decide +kernel, by decide +kernel, by decide +kernel⟩, (kTbl_in (kwt_9 _ (List.mem_of_getElem? (i := 115) rfl)) rfl), (kTbl_in (kwp_8 (yX12_fields, 42) (List.mem_of_getElem? (i := 2) rfl)) rfl)⟩
abbrev M_X12_findHere : Km := (yX12_findHere, cX12_findHere, 4, some .int)
theorem m_X12_findHere : kMdV M_X12_findHere 2 := ⟨(kTbl_in (kwt_8 _ (List.mem_of_getElem? (i := 108) rfl)) rfl), (kTbl_in (kwt_1 _ (List.mem_of_getElem? (i := 13) rfl)) rfl), ⟨by decide +kernel, by decide +kernel, by decide +kernel⟩, (kTbl_in (kwt_8 _ (List.mem_of_getElem? (i := 107) rfl)) rfl), (kTbl_in (kwp_5 (yX12_findHere, 42) (List.mem_of_getElem? (i := 9) rfl)) rfl)⟩
abbrev M_X12_flies : Km := (yX12_flies, cX12_flies, 9, some .int)
theorem m_X12_flies : kMdV M_X12_flies 5 := ⟨(kTbl_in (kwt_10 _ (List.mem_of_getElem? (i := 19) rfl)) rfl), (kTbl_in (kwt_1 _ (List.mem_of_getElem? (i := 13) rfl)) rfl), ⟨by decide +kernel, by decide +kernel, by decide +kernel⟩, (kTbl_in (kwt_10 _ (List.mem_of_getElem? (i := 18) rfl)) rfl), (kTbl_in (kwp_9 (yX12_flies, 42) (List.mem_of_getElem? (i := 1) rfl)) rfl)⟩
abbrev M_X12_fly : Km := (yX12_fly, cX12_fly, 10, some .int)
theorem m_X12_fly : kMdV M_X12_fly 4 := ⟨(kTbl_in (kwt_10 _ (List.mem_of_getElem? (i := 14) rfl)) rfl), (kTbl_in (kwt_1 _ (List.mem_of_getElem? (i := 13) rfl)) rfl), ⟨by decide +kernel, by decide +kernel, by decide +kernel⟩, (kTbl_in (kwt_10 _ (List.mem_of_getElem? (i := 12) rfl)) rfl), (kTbl_in (kwt_10 _ (List.mem_of_getElem? (i := 13) rfl)) rfl)⟩
abbrev M_X12_flyAt : Km := (yX12_flyAt, cX12_flyAt, 2, some .int)
theorem m_X12_flyAt : kMdV M_X12_flyAt 1 := ⟨(kTbl_in (kwt_10 _ (List.mem_of_getElem? (i := 23) rfl)) rfl), (kTbl_in (kwt_1 _ (List.mem_of_getElem? (i := 13) rfl)) rfl), ⟨by decide +kernel, by decide +kernel, by decide +kernel⟩, (kTbl_in (kwt_10 _ (List.mem_of_getElem? (i := 21) rfl)) rfl), (kTbl_in (kwt_10 _ (List.mem_of_getElem? (i := 22) rfl)) rfl)⟩
abbrev M_X12_four : Km := (yX12_four, cX12_four, 3, none)
theorem m_X12_four : kMdV M_X12_four 1 := ⟨(kTbl_in (kwt_8 _ (List.mem_of_getElem? (i := 29) rfl)) rfl), (kTbl_in (kwt_1 _ (List.mem_of_getElem? (i := 13) rfl)) rfl), ⟨by decide +kernel, by decide +kernel, by decide +kernel⟩, (kTbl_in (kwt_8 _ (List.mem_of_getElem? (i := 28) rfl)) rfl), (kTbl_in (kwp_4 (yX12_four, 42) (List.mem_of_getElem? (i := 10) rfl)) rfl)⟩
abbrev M_X12_gives : Km := (yX12_gives, cX12_gives, 2, some .int)
theorem m_X12_gives : kMdV M_X12_gives 1 := ⟨(kTbl_in (kwt_8 _ (List.mem_of_getElem? (i := 148) rfl)) rfl), (kTbl_in (kwt_1 _ (List.mem_of_getElem? (i := 13) rfl)) rfl), ⟨by decide +kernel, by decide +kernel, by decide +kernel⟩, (kTbl_in (kwt_8 _ (List.mem_of_getElem? (i := 147) rfl)) rfl), (kTbl_in (kwp_6 (yX12_gives, 42) (List.mem_of_getElem? (i := 3) rfl)) rfl)⟩
abbrev M_X12_gives0 : Km := (yX12_gives0, cX12_gives0, 7, none)
theorem m_X12_gives0 : kMdV M_X12_gives0 2 := ⟨(kTbl_in (kwt_10 _ (List.mem_of_getElem? (i := 57) rfl)) rfl), (kTbl_in (kwt_1 _ (List.mem_of_getElem? (i := 13) rfl)) rfl), ⟨by decide +kernel, by decide +kernel, by decide +kernel⟩, (kTbl_in (kwt_10 _ (List.mem_of_getElem? (i := 56) rfl)) rfl), (kTbl_in (kwp_9 (yX12_gives0, 42) (List.mem_of_getElem? (i := 6) rfl)) rfl)⟩
abbrev M_X12_goes : Km := (yX12_goes, cX12_goes, 9, none)
theorem m_X12_goes : kMdV M_X12_goes 1 := ⟨(kTbl_in (kwt_9 _ (List.mem_of_getElem? (i := 144) rfl)) rfl), (kTbl_in (kwt_1 _ (List.mem_of_getElem? (i := 13) rfl)) rfl), ⟨by decide +kernel, by decide +kernel, by decide +kernel⟩, (kTbl_in (kwt_9 _ (List.mem_of_getElem? (i := 143) rfl)) rfl), (kTbl_in (kwp_8 (yX12_goes, 42) (List.mem_of_getElem? (i := 6) rfl)) rfl)⟩
abbrev M_X12_goesBy : Km := (yX12_goesBy, cX12_goesBy, 5, some .int)
theorem m_X12_goesBy : kMdV M_X12_goesBy 0 := ⟨(kTbl_in (kwt_9 _ (List.mem_of_getElem? (i := 132) rfl)) rfl), (kTbl_in (kwt_1 _ (List.mem_of_getElem? (i := 13) rfl)) rfl), ⟨by decide +kernel, by decide +kernel, by decide +kernel⟩, (kTbl_in (kwt_9 _ (List.mem_of_getElem? (i := 131) rfl)) rfl), (kTbl_in (kwp_8 (yX12_goesBy, 42) (List.mem_of_getElem? (i := 3) rfl)) rfl)⟩
abbrev M_X12_goesOn : Km := (yX12_goesOn, cX12_goesOn, 3, none)
theorem m_X12_goesOn : kMdV M_X12_goesOn 1 := ⟨(kTbl_in (kwt_10 _ (List.mem_of_getElem? (i := 6) rfl)) rfl), (kTbl_in (kwt_1 _ (List.mem_of_getElem? (i := 13) rfl)) rfl), ⟨by decide +kernel, by decide +kernel, by decide +kernel⟩, (kTbl_in (kwt_10 _ (List.mem_of_getElem? (i := 5) rfl)) rfl), (kTbl_in (kwp_9 (yX12_goesOn, 42) (List.mem_of_getElem? (i := 0) rfl)) rfl)⟩
abbrev M_X12_greatest : Km := (yX12_greatest, cX12_greatest, 3, some .int)
theorem m_X12_greatest : kMdV M_X12_greatest 0 := ⟨(kTbl_in (kwt_9 _ (List.mem_of_getElem? (i := 120) rfl)) rfl), (kTbl_in (kwt_1 _ (List.mem_of_getElem? (i := 13) rfl)) rfl), ⟨by decide +kernel, by decide +kernel, by decide +kernel⟩, (kTbl_in (kwt_9 _ (List.mem_of_getElem? (i := 118) rfl)) rfl), (kTbl_in (kwt_9 _ (List.mem_of_getElem? (i := 119) rfl)) rfl)⟩
abbrev M_X12_holds : Km := (yX12_holds, cX12_holds, 5, some .boolean)
theorem m_X12_holds : kMdV M_X12_holds 1 := ⟨(kTbl_in (kwt_10 _ (List.mem_of_getElem? (i := 157) rfl)) rfl), (kTbl_in (kwt_1 _ (List.mem_of_getElem? (i := 13) rfl)) rfl), ⟨by decide +kernel, by decide +kernel, by decide +kernel⟩, (kTbl_in (kwt_10 _ (List.mem_of_getElem? (i := 156) rfl)) rfl), (kTbl_in (kwp_10 (yX12_holds, 42) (List.mem_of_getElem? (i := 4) rfl)) rfl)⟩
abbrev M_X12_hour : Km := (yX12_hour, cX12_hour, 4, some .int)
theorem m_X12_hour : kMdV M_X12_hour 1 := ⟨(kTbl_in (kwt_9 _ (List.mem_of_getElem? (i := 124) rfl)) rfl), (kTbl_in (kwt_1 _ (List.mem_of_getElem? (i := 13) rfl)) rfl), ⟨by decide +kernel, by decide +kernel, by decide +kernel⟩, (kTbl_in (kwt_9 _ (List.mem_of_getElem? (i := 122) rfl)) rfl), (kTbl_in (kwt_9 _ (List.mem_of_getElem? (i := 123) rfl)) rfl)⟩
abbrev M_X12_hoursGo : Km := (yX12_hoursGo, cX12_hoursGo, 3, some .boolean)
theorem m_X12_hoursGo : kMdV M_X12_hoursGo 1 := ⟨(kTbl_in (kwt_10 _ (List.mem_of_getElem? (i := 144) rfl)) rfl), (kTbl_in (kwt_1 _ (List.mem_of_getElem? (i := 13) rfl)) rfl), ⟨by decide +kernel, by decide +kernel, by decide +kernel⟩, (kTbl_in (kwt_10 _ (List.mem_of_getElem? (i := 143) rfl)) rfl), (kTbl_in (kwp_10 (yX12_hoursGo, 42) (List.mem_of_getElem? (i := 1) rfl)) rfl)⟩
abbrev M_X12_hoursTill : Km := (yX12_hoursTill, cX12_hoursTill, 5, some .int)
theorem m_X12_hoursTill : kMdV M_X12_hoursTill 3 := ⟨(kTbl_in (kwt_9 _ (List.mem_of_getElem? (i := 203) rfl)) rfl), (kTbl_in (kwt_1 _ (List.mem_of_getElem? (i := 13) rfl)) rfl), ⟨by decide +kernel, by decide +kernel, by decide +kernel⟩, (kTbl_in (kwt_9 _ (List.mem_of_getElem? (i := 202) rfl)) rfl), (kTbl_in (kwp_8 (yX12_hoursTill, 42) (List.mem_of_getElem? (i := 11) rfl)) rfl)⟩
abbrev M_X12_inWords : Km := (yX12_inWords, cX12_inWords, 7, some .int)
theorem m_X12_inWords : kMdV M_X12_inWords 1 := ⟨(kTbl_in (kwt_8 _ (List.mem_of_getElem? (i := 70) rfl)) rfl), (kTbl_in (kwt_1 _ (List.mem_of_getElem? (i := 13) rfl)) rfl), ⟨by decide +kernel, by decide +kernel, by decide +kernel⟩, (kTbl_in (kwt_8 _ (List.mem_of_getElem? (i := 69) rfl)) rfl), (kTbl_in (kwp_5 (yX12_inWords, 42) (List.mem_of_getElem? (i := 0) rfl)) rfl)⟩
abbrev M_X12_init : Km := (yX12_init, cX12_init, 1, none)
theorem m_X12_init : kMdI M_X12_init 0 := ⟨(kTbl_in (kwt_7 _ (List.mem_of_getElem? (i := 86) rfl)) rfl), (kTbl_in (kwt_1 _ (List.mem_of_getElem? (i := 13) rfl)) rfl), ⟨by decide +kernel, by decide +kernel, by decide +kernel⟩, (kTbl_in (kwt_7 _ (List.mem_of_getElem? (i := 85) rfl)) rfl), rfl, rfl⟩
abbrev M_X12_is : Km := (yX12_is, cX12_is, 2, some .boolean)
theorem m_X12_is : kMdV M_X12_is 1 := ⟨(kTbl_in (kwt_8 _ (List.mem_of_getElem? (i := 1) rfl)) rfl), (kTbl_in (kwt_1 _ (List.mem_of_getElem? (i := 13) rfl)) rfl), ⟨by decide +kernel, by decide +kernel, by decide +kernel⟩, (kTbl_in (kwt_8 _ (List.mem_of_getElem? (i := 0) rfl)) rfl), (kTbl_in (kwp_4 (yX12_is, 42) (List.mem_of_getElem? (i := 8) rfl)) rfl)⟩
abbrev M_X12_isBorne : Km := (yX12_isBorne, cX12_isBorne, 3, some .boolean)
theorem m_X12_isBorne : kMdV M_X12_isBorne 2 := ⟨(kTbl_in (kwt_8 _ (List.mem_of_getElem? (i := 199) rfl)) rfl), (kTbl_in (kwt_1 _ (List.mem_of_getElem? (i := 13) rfl)) rfl), ⟨by decide +kernel, by decide +kernel, by decide +kernel⟩, (kTbl_in (kwt_8 _ (List.mem_of_getElem? (i := 198) rfl)) rfl), (kTbl_in (kwp_6 (yX12_isBorne, 42) (List.mem_of_getElem? (i := 13) rfl)) rfl)⟩
abbrev M_X12_isCrop : Km := (yX12_isCrop, cX12_isCrop, 2, some .boolean)
theorem m_X12_isCrop : kMdV M_X12_isCrop 1 := ⟨(kTbl_in (kwt_8 _ (List.mem_of_getElem? (i := 229) rfl)) rfl), (kTbl_in (kwt_1 _ (List.mem_of_getElem? (i := 13) rfl)) rfl), ⟨by decide +kernel, by decide +kernel, by decide +kernel⟩, (kTbl_in (kwt_8 _ (List.mem_of_getElem? (i := 228) rfl)) rfl), (kTbl_in (kwp_7 (yX12_isCrop, 42) (List.mem_of_getElem? (i := 0) rfl)) rfl)⟩
abbrev M_X12_isCut : Km := (yX12_isCut, cX12_isCut, 2, some .boolean)
theorem m_X12_isCut : kMdV M_X12_isCut 1 := ⟨(kTbl_in (kwt_8 _ (List.mem_of_getElem? (i := 188) rfl)) rfl), (kTbl_in (kwt_1 _ (List.mem_of_getElem? (i := 13) rfl)) rfl), ⟨by decide +kernel, by decide +kernel, by decide +kernel⟩, (kTbl_in (kwt_8 _ (List.mem_of_getElem? (i := 187) rfl)) rfl), (kTbl_in (kwp_6 (yX12_isCut, 42) (List.mem_of_getElem? (i := 11) rfl)) rfl)⟩
abbrev M_X12_isDigit : Km := (yX12_isDigit, cX12_isDigit, 1, some .boolean)
theorem m_X12_isDigit : kMdS M_X12_isDigit 1 := ⟨(kTbl_in (kwt_8 _ (List.mem_of_getElem? (i := 55) rfl)) rfl), (kTbl_in (kwt_1 _ (List.mem_of_getElem? (i := 13) rfl)) rfl), ⟨by decide +kernel, by decide +kernel, by decide +kernel⟩, (kTbl_in (kwt_8 _ (List.mem_of_getElem? (i := 54) rfl)) rfl)⟩
abbrev M_X12_isField : Km := (yX12_isField, cX12_isField, 3, some .boolean)
theorem m_X12_isField : kMdV M_X12_isField 2 := ⟨(kTbl_in (kwt_9 _ (List.mem_of_getElem? (i := 28) rfl)) rfl), (kTbl_in (kwt_1 _ (List.mem_of_getElem? (i := 13) rfl)) rfl), ⟨by decide +kernel, by decide +kernel, by decide +kernel⟩, (kTbl_in (kwt_9 _ (List.mem_of_getElem? (i := 27) rfl)) rfl), (kTbl_in (kwp_7 (yX12_isField, 42) (List.mem_of_getElem? (i := 6) rfl)) rfl)⟩
abbrev M_X12_isFor : Km := (yX12_isFor, cX12_isFor, 4, some .boolean)
theorem m_X12_isFor : kMdV M_X12_isFor 3 := ⟨(kTbl_in (kwt_10 _ (List.mem_of_getElem? (i := 53) rfl)) rfl), (kTbl_in (kwt_1 _ (List.mem_of_getElem? (i := 13) rfl)) rfl), ⟨by decide +kernel, by decide +kernel, by decide +kernel⟩, (kTbl_in (kwt_10 _ (List.mem_of_getElem? (i := 52) rfl)) rfl), (kTbl_in (kwp_9 (yX12_isFor, 42) (List.mem_of_getElem? (i := 5) rfl)) rfl)⟩
abbrev M_X12_isFrom : Km := (yX12_isFrom, cX12_isFrom, 6, some .boolean)
theorem m_X12_isFrom : kMdS M_X12_isFrom 3 := ⟨(kTbl_in (kwt_9 _ (List.mem_of_getElem? (i := 128) rfl)) rfl), (kTbl_in (kwt_1 _ (List.mem_of_getElem? (i := 13) rfl)) rfl), ⟨by decide +kernel, by decide +kernel, by decide +kernel⟩, (kTbl_in (kwt_9 _ (List.mem_of_getElem? (i := 127) rfl)) rfl)⟩
abbrev M_X12_isHour : Km := (yX12_isHour, cX12_isHour, 1, some .boolean)
theorem m_X12_isHour : kMdS M_X12_isHour 1 := ⟨(kTbl_in (kwt_8 _ (List.mem_of_getElem? (i := 213) rfl)) rfl), (kTbl_in (kwt_1 _ (List.mem_of_getElem? (i := 13) rfl)) rfl), ⟨by decide +kernel, by decide +kernel, by decide +kernel⟩, (kTbl_in (kwt_8 _ (List.mem_of_getElem? (i := 212) rfl)) rfl)⟩
abbrev M_X12_isIn : Km := (yX12_isIn, cX12_isIn, 3, some .boolean)
theorem m_X12_isIn : kMdV M_X12_isIn 2 := ⟨(kTbl_in (kwt_9 _ (List.mem_of_getElem? (i := 50) rfl)) rfl), (kTbl_in (kwt_1 _ (List.mem_of_getElem? (i := 13) rfl)) rfl), ⟨by decide +kernel, by decide +kernel, by decide +kernel⟩, (kTbl_in (kwt_9 _ (List.mem_of_getElem? (i := 49) rfl)) rfl), (kTbl_in (kwp_7 (yX12_isIn, 42) (List.mem_of_getElem? (i := 11) rfl)) rfl)⟩
abbrev M_X12_isKite : Km := (yX12_isKite, cX12_isKite, 2, some .boolean)
theorem m_X12_isKite : kMdV M_X12_isKite 1 := ⟨(kTbl_in (kwt_8 _ (List.mem_of_getElem? (i := 221) rfl)) rfl), (kTbl_in (kwt_1 _ (List.mem_of_getElem? (i := 13) rfl)) rfl), ⟨by decide +kernel, by decide +kernel, by decide +kernel⟩, (kTbl_in (kwt_8 _ (List.mem_of_getElem? (i := 220) rfl)) rfl), (kTbl_in (kwp_6 (yX12_isKite, 42) (List.mem_of_getElem? (i := 15) rfl)) rfl)⟩
abbrev M_X12_isName : Km := (yX12_isName, cX12_isName, 2, some .boolean)
theorem m_X12_isName : kMdV M_X12_isName 1 := ⟨(kTbl_in (kwt_8 _ (List.mem_of_getElem? (i := 104) rfl)) rfl), (kTbl_in (kwt_1 _ (List.mem_of_getElem? (i := 13) rfl)) rfl), ⟨by decide +kernel, by decide +kernel, by decide +kernel⟩, (kTbl_in (kwt_8 _ (List.mem_of_getElem? (i := 103) rfl)) rfl), (kTbl_in (kwp_5 (yX12_isName, 42) (List.mem_of_getElem? (i := 8) rfl)) rfl)⟩
abbrev M_X12_isRipe : Km := (yX12_isRipe, cX12_isRipe, 2, some .boolean)
theorem m_X12_isRipe : kMdV M_X12_isRipe 1 := ⟨(kTbl_in (kwt_8 _ (List.mem_of_getElem? (i := 203) rfl)) rfl), (kTbl_in (kwt_1 _ (List.mem_of_getElem? (i := 13) rfl)) rfl), ⟨by decide +kernel, by decide +kernel, by decide +kernel⟩, (kTbl_in (kwt_8 _ (List.mem_of_getElem? (i := 202) rfl)) rfl), (kTbl_in (kwp_6 (yX12_isRipe, 42) (List.mem_of_getElem? (i := 14) rfl)) rfl)⟩
abbrev M_X12_isRow : Km := (yX12_isRow, cX12_isRow, 2, some .boolean)
theorem m_X12_isRow : kMdV M_X12_isRow 1 := ⟨(kTbl_in (kwt_10 _ (List.mem_of_getElem? (i := 69) rfl)) rfl), (kTbl_in (kwt_1 _ (List.mem_of_getElem? (i := 13) rfl)) rfl), ⟨by decide +kernel, by decide +kernel, by decide +kernel⟩, (kTbl_in (kwt_10 _ (List.mem_of_getElem? (i := 68) rfl)) rfl), (kTbl_in (kwp_9 (yX12_isRow, 42) (List.mem_of_getElem? (i := 8) rfl)) rfl)⟩
abbrev M_X12_isSign : Km := (yX12_isSign, cX12_isSign, 2, some .boolean)
theorem m_X12_isSign : kMdV M_X12_isSign 1 := ⟨(kTbl_in (kwt_8 _ (List.mem_of_getElem? (i := 140) rfl)) rfl), (kTbl_in (kwt_1 _ (List.mem_of_getElem? (i := 13) rfl)) rfl), ⟨by decide +kernel, by decide +kernel, by decide +kernel⟩, (kTbl_in (kwt_8 _ (List.mem_of_getElem? (i := 139) rfl)) rfl), (kTbl_in (kwp_6 (yX12_isSign, 42) (List.mem_of_getElem? (i := 1) rfl)) rfl)⟩
abbrev M_X12_isSmall : Km := (yX12_isSmall, cX12_isSmall, 1, some .boolean)
theorem m_X12_isSmall : kMdS M_X12_isSmall 1 := ⟨(kTbl_in (kwt_8 _ (List.mem_of_getElem? (i := 52) rfl)) rfl), (kTbl_in (kwt_1 _ (List.mem_of_getElem? (i := 13) rfl)) rfl), ⟨by decide +kernel, by decide +kernel, by decide +kernel⟩, (kTbl_in (kwt_8 _ (List.mem_of_getElem? (i := 51) rfl)) rfl)⟩
abbrev M_X12_isSpan : Km := (yX12_isSpan, cX12_isSpan, 1, some .boolean)
theorem m_X12_isSpan : kMdS M_X12_isSpan 1 := ⟨(kTbl_in (kwt_9 _ (List.mem_of_getElem? (i := 222) rfl)) rfl), (kTbl_in (kwt_1 _ (List.mem_of_getElem? (i := 13) rfl)) rfl), ⟨by decide +kernel, by decide +kernel, by decide +kernel⟩, (kTbl_in (kwt_9 _ (List.mem_of_getElem? (i := 221) rfl)) rfl)⟩
abbrev M_X12_isTenant : Km := (yX12_isTenant, cX12_isTenant, 2, some .boolean)
theorem m_X12_isTenant : kMdV M_X12_isTenant 1 := ⟨(kTbl_in (kwt_8 _ (List.mem_of_getElem? (i := 237) rfl)) rfl), (kTbl_in (kwt_1 _ (List.mem_of_getElem? (i := 13) rfl)) rfl), ⟨by decide +kernel, by decide +kernel, by decide +kernel⟩, (kTbl_in (kwt_8 _ (List.mem_of_getElem? (i := 236) rfl)) rfl), (kTbl_in (kwp_7 (yX12_isTenant, 42) (List.mem_of_getElem? (i := 1) rfl)) rfl)⟩
abbrev M_X12_isThere : Km := (yX12_isThere, cX12_isThere, 2, some .boolean)
theorem m_X12_isThere : kMdV M_X12_isThere 1 := ⟨(kTbl_in (kwt_8 _ (List.mem_of_getElem? (i := 120) rfl)) rfl), (kTbl_in (kwt_1 _ (List.mem_of_getElem? (i := 13) rfl)) rfl), ⟨by decide +kernel, by decide +kernel, by decide +kernel⟩, (kTbl_in (kwt_8 _ (List.mem_of_getElem? (i := 119) rfl)) rfl), (kTbl_in (kwp_5 (yX12_isThere, 42) (List.mem_of_getElem? (i := 12) rfl)) rfl)⟩
abbrev M_X12_isTray : Km := (yX12_isTray, cX12_isTray, 1, some .boolean)
theorem m_X12_isTray : kMdS M_X12_isTray 1 := ⟨(kTbl_in (kwt_7 _ (List.mem_of_getElem? (i := 237) rfl)) rfl), (kTbl_in (kwt_1 _ (List.mem_of_getElem? (i := 13) rfl)) rfl), ⟨by decide +kernel, by decide +kernel, by decide +kernel⟩, (kTbl_in (kwt_7 _ (List.mem_of_getElem? (i := 236) rfl)) rfl)⟩
abbrev M_X12_isUp : Km := (yX12_isUp, cX12_isUp, 3, some .boolean)
theorem m_X12_isUp : kMdV M_X12_isUp 2 := ⟨(kTbl_in (kwt_8 _ (List.mem_of_getElem? (i := 184) rfl)) rfl), (kTbl_in (kwt_1 _ (List.mem_of_getElem? (i := 13) rfl)) rfl), ⟨by decide +kernel, by decide +kernel, by decide +kernel⟩, (kTbl_in (kwt_8 _ (List.mem_of_getElem? (i := 183) rfl)) rfl), (kTbl_in (kwp_6 (yX12_isUp, 42) (List.mem_of_getElem? (i := 10) rfl)) rfl)⟩
abbrev M_X12_keeps : Km := (yX12_keeps, cX12_keeps, 3, none)
theorem m_X12_keeps : kMdV M_X12_keeps 1 := ⟨(kTbl_in (kwt_9 _ (List.mem_of_getElem? (i := 207) rfl)) rfl), (kTbl_in (kwt_1 _ (List.mem_of_getElem? (i := 13) rfl)) rfl), ⟨by decide +kernel, by decide +kernel, by decide +kernel⟩, (kTbl_in (kwt_9 _ (List.mem_of_getElem? (i := 206) rfl)) rfl), (kTbl_in (kwp_8 (yX12_keeps, 42) (List.mem_of_getElem? (i := 12) rfl)) rfl)⟩
abbrev M_X12_kite : Km := (yX12_kite, cX12_kite, 3, some .int)
theorem m_X12_kite : kMdV M_X12_kite 2 := ⟨(kTbl_in (kwt_8 _ (List.mem_of_getElem? (i := 217) rfl)) rfl), (kTbl_in (kwt_1 _ (List.mem_of_getElem? (i := 13) rfl)) rfl), ⟨by decide +kernel, by decide +kernel, by decide +kernel⟩, (kTbl_in (kwt_8 _ (List.mem_of_getElem? (i := 215) rfl)) rfl), (kTbl_in (kwt_8 _ (List.mem_of_getElem? (i := 216) rfl)) rfl)⟩
abbrev M_X12_kiteRow : Km := (yX12_kiteRow, cX12_kiteRow, 1, some .int)
theorem m_X12_kiteRow : kMdS M_X12_kiteRow 1 := ⟨(kTbl_in (kwt_8 _ (List.mem_of_getElem? (i := 195) rfl)) rfl), (kTbl_in (kwt_1 _ (List.mem_of_getElem? (i := 13) rfl)) rfl), ⟨by decide +kernel, by decide +kernel, by decide +kernel⟩, (kTbl_in (kwt_8 _ (List.mem_of_getElem? (i := 194) rfl)) rfl)⟩
abbrev M_X12_kiteTo : Km := (yX12_kiteTo, cX12_kiteTo, 2, some .boolean)
theorem m_X12_kiteTo : kMdV M_X12_kiteTo 1 := ⟨(kTbl_in (kwt_8 _ (List.mem_of_getElem? (i := 164) rfl)) rfl), (kTbl_in (kwt_1 _ (List.mem_of_getElem? (i := 13) rfl)) rfl), ⟨by decide +kernel, by decide +kernel, by decide +kernel⟩, (kTbl_in (kwt_8 _ (List.mem_of_getElem? (i := 163) rfl)) rfl), (kTbl_in (kwp_6 (yX12_kiteTo, 42) (List.mem_of_getElem? (i := 6) rfl)) rfl)⟩
abbrev M_X12_laysHours : Km := (yX12_laysHours, cX12_laysHours, 7, none)
theorem m_X12_laysHours : kMdV M_X12_laysHours 2 := ⟨(kTbl_in (kwt_9 _ (List.mem_of_getElem? (i := 226) rfl)) rfl), (kTbl_in (kwt_1 _ (List.mem_of_getElem? (i := 13) rfl)) rfl), ⟨by decide +kernel, by decide +kernel, by decide +kernel⟩, (kTbl_in (kwt_9 _ (List.mem_of_getElem? (i := 225) rfl)) rfl), (kTbl_in (kwp_8 (yX12_laysHours, 42) (List.mem_of_getElem? (i := 14) rfl)) rfl)⟩
abbrev M_X12_lease : Km := (yX12_lease, cX12_lease, 3, some .boolean)
theorem m_X12_lease : kMdV M_X12_lease 2 := ⟨(kTbl_in (kwt_9 _ (List.mem_of_getElem? (i := 191) rfl)) rfl), (kTbl_in (kwt_1 _ (List.mem_of_getElem? (i := 13) rfl)) rfl), ⟨by decide +kernel, by decide +kernel, by decide +kernel⟩, (kTbl_in (kwt_9 _ (List.mem_of_getElem? (i := 189) rfl)) rfl), (kTbl_in (kwt_9 _ (List.mem_of_getElem? (i := 190) rfl)) rfl)⟩
abbrev M_X12_leaseOf : Km := (yX12_leaseOf, cX12_leaseOf, 5, some .int)
theorem m_X12_leaseOf : kMdV M_X12_leaseOf 4 := ⟨(kTbl_in (kwt_9 _ (List.mem_of_getElem? (i := 219) rfl)) rfl), (kTbl_in (kwt_1 _ (List.mem_of_getElem? (i := 13) rfl)) rfl), ⟨by decide +kernel, by decide +kernel, by decide +kernel⟩, (kTbl_in (kwt_9 _ (List.mem_of_getElem? (i := 217) rfl)) rfl), (kTbl_in (kwt_9 _ (List.mem_of_getElem? (i := 218) rfl)) rfl)⟩
abbrev M_X12_live : Km := (yX12_live, cX12_live, 3, some .int)
theorem m_X12_live : kMdV M_X12_live 1 := ⟨(kTbl_in (kwt_10 _ (List.mem_of_getElem? (i := 131) rfl)) rfl), (kTbl_in (kwt_1 _ (List.mem_of_getElem? (i := 13) rfl)) rfl), ⟨by decide +kernel, by decide +kernel, by decide +kernel⟩, (kTbl_in (kwt_10 _ (List.mem_of_getElem? (i := 129) rfl)) rfl), (kTbl_in (kwt_10 _ (List.mem_of_getElem? (i := 130) rfl)) rfl)⟩
abbrev M_X12_lived : Km := (yX12_lived, cX12_lived, 2, some .int)
theorem m_X12_lived : kMdV M_X12_lived 1 := ⟨(kTbl_in (kwt_10 _ (List.mem_of_getElem? (i := 165) rfl)) rfl), (kTbl_in (kwt_1 _ (List.mem_of_getElem? (i := 13) rfl)) rfl), ⟨by decide +kernel, by decide +kernel, by decide +kernel⟩, (kTbl_in (kwt_10 _ (List.mem_of_getElem? (i := 163) rfl)) rfl), (kTbl_in (kwt_10 _ (List.mem_of_getElem? (i := 164) rfl)) rfl)⟩
abbrev M_X12_lives : Km := (yX12_lives, cX12_lives, 4, none)
theorem m_X12_lives : kMdV M_X12_lives 1 := ⟨(kTbl_in (kwt_10 _ (List.mem_of_getElem? (i := 136) rfl)) rfl), (kTbl_in (kwt_1 _ (List.mem_of_getElem? (i := 13) rfl)) rfl), ⟨by decide +kernel, by decide +kernel, by decide +kernel⟩, (kTbl_in (kwt_10 _ (List.mem_of_getElem? (i := 135) rfl)) rfl), (kTbl_in (kwp_9 (yX12_lives, 42) (List.mem_of_getElem? (i := 15) rfl)) rfl)⟩
abbrev M_X12_lostBy : Km := (yX12_lostBy, cX12_lostBy, 6, some .int)
theorem m_X12_lostBy : kMdV M_X12_lostBy 1 := ⟨(kTbl_in (kwt_10 _ (List.mem_of_getElem? (i := 114) rfl)) rfl), (kTbl_in (kwt_1 _ (List.mem_of_getElem? (i := 13) rfl)) rfl), ⟨by decide +kernel, by decide +kernel, by decide +kernel⟩, (kTbl_in (kwt_10 _ (List.mem_of_getElem? (i := 113) rfl)) rfl), (kTbl_in (kwp_9 (yX12_lostBy, 42) (List.mem_of_getElem? (i := 13) rfl)) rfl)⟩
abbrev M_X12_lulls : Km := (yX12_lulls, cX12_lulls, 4, some .int)
theorem m_X12_lulls : kMdV M_X12_lulls 1 := ⟨(kTbl_in (kwt_9 _ (List.mem_of_getElem? (i := 108) rfl)) rfl), (kTbl_in (kwt_1 _ (List.mem_of_getElem? (i := 13) rfl)) rfl), ⟨by decide +kernel, by decide +kernel, by decide +kernel⟩, (kTbl_in (kwt_9 _ (List.mem_of_getElem? (i := 106) rfl)) rfl), (kTbl_in (kwt_9 _ (List.mem_of_getElem? (i := 107) rfl)) rfl)⟩
abbrev M_X12_mark : Km := (yX12_mark, cX12_mark, 1, some .int)
theorem m_X12_mark : kMdV M_X12_mark 0 := ⟨(kTbl_in (kwt_10 _ (List.mem_of_getElem? (i := 173) rfl)) rfl), (kTbl_in (kwt_1 _ (List.mem_of_getElem? (i := 13) rfl)) rfl), ⟨by decide +kernel, by decide +kernel, by decide +kernel⟩, (kTbl_in (kwt_10 _ (List.mem_of_getElem? (i := 171) rfl)) rfl), (kTbl_in (kwt_10 _ (List.mem_of_getElem? (i := 172) rfl)) rfl)⟩
abbrev M_X12_mean : Km := (yX12_mean, cX12_mean, 7, some .boolean)
theorem m_X12_mean : kMdV M_X12_mean 3 := ⟨(kTbl_in (kwt_10 _ (List.mem_of_getElem? (i := 169) rfl)) rfl), (kTbl_in (kwt_1 _ (List.mem_of_getElem? (i := 13) rfl)) rfl), ⟨by decide +kernel, by decide +kernel, by decide +kernel⟩, (kTbl_in (kwt_10 _ (List.mem_of_getElem? (i := 167) rfl)) rfl), (kTbl_in (kwt_10 _ (List.mem_of_getElem? (i := 168) rfl)) rfl)⟩
abbrev M_X12_nameHere : Km := (yX12_nameHere, cX12_nameHere, 4, some .long)
theorem m_X12_nameHere : kMdV M_X12_nameHere 0 := ⟨(kTbl_in (kwt_8 _ (List.mem_of_getElem? (i := 112) rfl)) rfl), (kTbl_in (kwt_1 _ (List.mem_of_getElem? (i := 13) rfl)) rfl), ⟨by decide +kernel, by decide +kernel, by decide +kernel⟩, (kTbl_in (kwt_8 _ (List.mem_of_getElem? (i := 111) rfl)) rfl), (kTbl_in (kwp_5 (yX12_nameHere, 42) (List.mem_of_getElem? (i := 10) rfl)) rfl)⟩
abbrev M_X12_narrowed : Km := (yX12_narrowed, cX12_narrowed, 3, some .long)
theorem m_X12_narrowed : kMdS M_X12_narrowed 2 := ⟨(kTbl_in (kwt_8 _ (List.mem_of_getElem? (i := 12) rfl)) rfl), (kTbl_in (kwt_1 _ (List.mem_of_getElem? (i := 13) rfl)) rfl), ⟨by decide +kernel, by decide +kernel, by decide +kernel⟩, (kTbl_in (kwt_8 _ (List.mem_of_getElem? (i := 11) rfl)) rfl)⟩
abbrev M_X12_nears : Km := (yX12_nears, cX12_nears, 5, none)
theorem m_X12_nears : kMdV M_X12_nears 3 := ⟨(kTbl_in (kwt_9 _ (List.mem_of_getElem? (i := 153) rfl)) rfl), (kTbl_in (kwt_1 _ (List.mem_of_getElem? (i := 13) rfl)) rfl), ⟨by decide +kernel, by decide +kernel, by decide +kernel⟩, (kTbl_in (kwt_9 _ (List.mem_of_getElem? (i := 152) rfl)) rfl), (kTbl_in (kwp_8 (yX12_nears, 42) (List.mem_of_getElem? (i := 8) rfl)) rfl)⟩
abbrev M_X12_needed : Km := (yX12_needed, cX12_needed, 3, some .int)
theorem m_X12_needed : kMdV M_X12_needed 0 := ⟨(kTbl_in (kwt_10 _ (List.mem_of_getElem? (i := 110) rfl)) rfl), (kTbl_in (kwt_1 _ (List.mem_of_getElem? (i := 13) rfl)) rfl), ⟨by decide +kernel, by decide +kernel, by decide +kernel⟩, (kTbl_in (kwt_10 _ (List.mem_of_getElem? (i := 108) rfl)) rfl), (kTbl_in (kwt_10 _ (List.mem_of_getElem? (i := 109) rfl)) rfl)⟩
abbrev M_X12_newOne : Km := (yX12_newOne, cX12_newOne, 4, some .boolean)
theorem m_X12_newOne : kMdV M_X12_newOne 3 := ⟨(kTbl_in (kwt_8 _ (List.mem_of_getElem? (i := 100) rfl)) rfl), (kTbl_in (kwt_1 _ (List.mem_of_getElem? (i := 13) rfl)) rfl), ⟨by decide +kernel, by decide +kernel, by decide +kernel⟩, (kTbl_in (kwt_8 _ (List.mem_of_getElem? (i := 99) rfl)) rfl), (kTbl_in (kwp_5 (yX12_newOne, 42) (List.mem_of_getElem? (i := 7) rfl)) rfl)⟩
abbrev M_X12_nobodys : Km := (yX12_nobodys, cX12_nobodys, 2, some .int)
theorem m_X12_nobodys : kMdV M_X12_nobodys 1 := ⟨(kTbl_in (kwt_9 _ (List.mem_of_getElem? (i := 73) rfl)) rfl), (kTbl_in (kwt_1 _ (List.mem_of_getElem? (i := 13) rfl)) rfl), ⟨by decide +kernel, by decide +kernel, by decide +kernel⟩, (kTbl_in (kwt_9 _ (List.mem_of_getElem? (i := 71) rfl)) rfl), (kTbl_in (kwt_9 _ (List.mem_of_getElem? (i := 72) rfl)) rfl)⟩
abbrev M_X12_now : Km := (yX12_now, cX12_now, 1, some .int)
theorem m_X12_now : kMdV M_X12_now 0 := ⟨(kTbl_in (kwt_8 _ (List.mem_of_getElem? (i := 180) rfl)) rfl), (kTbl_in (kwt_1 _ (List.mem_of_getElem? (i := 13) rfl)) rfl), ⟨by decide +kernel, by decide +kernel, by decide +kernel⟩, (kTbl_in (kwt_8 _ (List.mem_of_getElem? (i := 179) rfl)) rfl), (kTbl_in (kwp_6 (yX12_now, 42) (List.mem_of_getElem? (i := 9) rfl)) rfl)⟩
abbrev M_X12_number : Km := (yX12_number, cX12_number, 4, some .boolean)
theorem m_X12_number : kMdV M_X12_number 3 := ⟨(kTbl_in (kwt_8 _ (List.mem_of_getElem? (i := 84) rfl)) rfl), (kTbl_in (kwt_1 _ (List.mem_of_getElem? (i := 13) rfl)) rfl), ⟨by decide +kernel, by decide +kernel, by decide +kernel⟩, (kTbl_in (kwt_8 _ (List.mem_of_getElem? (i := 83) rfl)) rfl), (kTbl_in (kwp_5 (yX12_number, 42) (List.mem_of_getElem? (i := 3) rfl)) rfl)⟩
abbrev M_X12_of : Km := (yX12_of, cX12_of, 3, some .int)
theorem m_X12_of : kMdV M_X12_of 2 := ⟨(kTbl_in (kwt_8 _ (List.mem_of_getElem? (i := 192) rfl)) rfl), (kTbl_in (kwt_1 _ (List.mem_of_getElem? (i := 13) rfl)) rfl), ⟨by decide +kernel, by decide +kernel, by decide +kernel⟩, (kTbl_in (kwt_8 _ (List.mem_of_getElem? (i := 191) rfl)) rfl), (kTbl_in (kwp_6 (yX12_of, 42) (List.mem_of_getElem? (i := 12) rfl)) rfl)⟩
abbrev M_X12_oldOne : Km := (yX12_oldOne, cX12_oldOne, 4, some .boolean)
theorem m_X12_oldOne : kMdV M_X12_oldOne 3 := ⟨(kTbl_in (kwt_8 _ (List.mem_of_getElem? (i := 132) rfl)) rfl), (kTbl_in (kwt_1 _ (List.mem_of_getElem? (i := 13) rfl)) rfl), ⟨by decide +kernel, by decide +kernel, by decide +kernel⟩, (kTbl_in (kwt_8 _ (List.mem_of_getElem? (i := 131) rfl)) rfl), (kTbl_in (kwp_5 (yX12_oldOne, 42) (List.mem_of_getElem? (i := 15) rfl)) rfl)⟩
abbrev M_X12_orNone : Km := (yX12_orNone, cX12_orNone, 2, some .int)
theorem m_X12_orNone : kMdV M_X12_orNone 1 := ⟨(kTbl_in (kwt_9 _ (List.mem_of_getElem? (i := 57) rfl)) rfl), (kTbl_in (kwt_1 _ (List.mem_of_getElem? (i := 13) rfl)) rfl), ⟨by decide +kernel, by decide +kernel, by decide +kernel⟩, (kTbl_in (kwt_9 _ (List.mem_of_getElem? (i := 56) rfl)) rfl), (kTbl_in (kwp_7 (yX12_orNone, 42) (List.mem_of_getElem? (i := 12) rfl)) rfl)⟩
abbrev M_X12_owner : Km := (yX12_owner, cX12_owner, 4, some .int)
theorem m_X12_owner : kMdV M_X12_owner 3 := ⟨(kTbl_in (kwt_9 _ (List.mem_of_getElem? (i := 24) rfl)) rfl), (kTbl_in (kwt_1 _ (List.mem_of_getElem? (i := 13) rfl)) rfl), ⟨by decide +kernel, by decide +kernel, by decide +kernel⟩, (kTbl_in (kwt_9 _ (List.mem_of_getElem? (i := 22) rfl)) rfl), (kTbl_in (kwt_9 _ (List.mem_of_getElem? (i := 23) rfl)) rfl)⟩
abbrev M_X12_ownerBy : Km := (yX12_ownerBy, cX12_ownerBy, 4, some .int)
theorem m_X12_ownerBy : kMdV M_X12_ownerBy 1 := ⟨(kTbl_in (kwt_9 _ (List.mem_of_getElem? (i := 46) rfl)) rfl), (kTbl_in (kwt_1 _ (List.mem_of_getElem? (i := 13) rfl)) rfl), ⟨by decide +kernel, by decide +kernel, by decide +kernel⟩, (kTbl_in (kwt_9 _ (List.mem_of_getElem? (i := 45) rfl)) rfl), (kTbl_in (kwp_7 (yX12_ownerBy, 42) (List.mem_of_getElem? (i := 10) rfl)) rfl)⟩
abbrev M_X12_ownerOf : Km := (yX12_ownerOf, cX12_ownerOf, 4, some .int)
theorem m_X12_ownerOf : kMdV M_X12_ownerOf 3 := ⟨(kTbl_in (kwt_9 _ (List.mem_of_getElem? (i := 32) rfl)) rfl), (kTbl_in (kwt_1 _ (List.mem_of_getElem? (i := 13) rfl)) rfl), ⟨by decide +kernel, by decide +kernel, by decide +kernel⟩, (kTbl_in (kwt_9 _ (List.mem_of_getElem? (i := 31) rfl)) rfl), (kTbl_in (kwp_7 (yX12_ownerOf, 42) (List.mem_of_getElem? (i := 7) rfl)) rfl)⟩
abbrev M_X12_parts : Km := (yX12_parts, cX12_parts, 5, some .boolean)
theorem m_X12_parts : kMdV M_X12_parts 3 := ⟨(kTbl_in (kwt_9 _ (List.mem_of_getElem? (i := 93) rfl)) rfl), (kTbl_in (kwt_1 _ (List.mem_of_getElem? (i := 13) rfl)) rfl), ⟨by decide +kernel, by decide +kernel, by decide +kernel⟩, (kTbl_in (kwt_9 _ (List.mem_of_getElem? (i := 92) rfl)) rfl), (kTbl_in (kwp_8 (yX12_parts, 42) (List.mem_of_getElem? (i := 0) rfl)) rfl)⟩
abbrev M_X12_plain : Km := (yX12_plain, cX12_plain, 3, none)
theorem m_X12_plain : kMdV M_X12_plain 1 := ⟨(kTbl_in (kwt_7 _ (List.mem_of_getElem? (i := 91) rfl)) rfl), (kTbl_in (kwt_1 _ (List.mem_of_getElem? (i := 13) rfl)) rfl), ⟨by decide +kernel, by decide +kernel, by decide +kernel⟩, (kTbl_in (kwt_7 _ (List.mem_of_getElem? (i := 90) rfl)) rfl), (kTbl_in (kwp_4 (yX12_plain, 42) (List.mem_of_getElem? (i := 7) rfl)) rfl)⟩
abbrev M_X12_plant : Km := (yX12_plant, cX12_plant, 2, some .int)
theorem m_X12_plant : kMdV M_X12_plant 1 := ⟨(kTbl_in (kwt_9 _ (List.mem_of_getElem? (i := 230) rfl)) rfl), (kTbl_in (kwt_1 _ (List.mem_of_getElem? (i := 13) rfl)) rfl), ⟨by decide +kernel, by decide +kernel, by decide +kernel⟩, (kTbl_in (kwt_9 _ (List.mem_of_getElem? (i := 228) rfl)) rfl), (kTbl_in (kwt_9 _ (List.mem_of_getElem? (i := 229) rfl)) rfl)⟩
abbrev M_X12_plantOf : Km := (yX12_plantOf, cX12_plantOf, 4, some .int)
theorem m_X12_plantOf : kMdV M_X12_plantOf 1 := ⟨(kTbl_in (kwt_9 _ (List.mem_of_getElem? (i := 234) rfl)) rfl), (kTbl_in (kwt_1 _ (List.mem_of_getElem? (i := 13) rfl)) rfl), ⟨by decide +kernel, by decide +kernel, by decide +kernel⟩, (kTbl_in (kwt_9 _ (List.mem_of_getElem? (i := 233) rfl)) rfl), (kTbl_in (kwp_8 (yX12_plantOf, 42) (List.mem_of_getElem? (i := 15) rfl)) rfl)⟩
abbrev M_X12_planted : Km := (yX12_planted, cX12_planted, 3, some .int)
theorem m_X12_planted : kMdV M_X12_planted 1 := ⟨(kTbl_in (kwt_9 _ (List.mem_of_getElem? (i := 238) rfl)) rfl), (kTbl_in (kwt_1 _ (List.mem_of_getElem? (i := 13) rfl)) rfl), ⟨by decide +kernel, by decide +kernel, by decide +kernel⟩, (kTbl_in (kwt_9 _ (List.mem_of_getElem? (i := 236) rfl)) rfl), (kTbl_in (kwt_9 _ (List.mem_of_getElem? (i := 237) rfl)) rfl)⟩
abbrev M_X12_pour : Km := (yX12_pour, cX12_pour, 8, some .boolean)
theorem m_X12_pour : kMdV M_X12_pour 5 := ⟨(kTbl_in (kwt_8 _ (List.mem_of_getElem? (i := 21) rfl)) rfl), (kTbl_in (kwt_1 _ (List.mem_of_getElem? (i := 13) rfl)) rfl), ⟨by decide +kernel, by decide +kernel, by decide +kernel⟩, (kTbl_in (kwt_8 _ (List.mem_of_getElem? (i := 19) rfl)) rfl), (kTbl_in (kwt_8 _ (List.mem_of_getElem? (i := 20) rfl)) rfl)⟩
abbrev M_X12_purseIn : Km := (yX12_purseIn, cX12_purseIn, 4, some .int)
theorem m_X12_purseIn : kMdV M_X12_purseIn 2 := ⟨(kTbl_in (kwt_10 _ (List.mem_of_getElem? (i := 2) rfl)) rfl), (kTbl_in (kwt_1 _ (List.mem_of_getElem? (i := 13) rfl)) rfl), ⟨by decide +kernel, by decide +kernel, by decide +kernel⟩, (kTbl_in (kwt_10 _ (List.mem_of_getElem? (i := 0) rfl)) rfl), (kTbl_in (kwt_10 _ (List.mem_of_getElem? (i := 1) rfl)) rfl)⟩
abbrev M_X12_read : Km := (yX12_read, cX12_read, 3, some .long)
theorem m_X12_read : kMdV M_X12_read 2 := ⟨(kTbl_in (kwt_8 _ (List.mem_of_getElem? (i := 16) rfl)) rfl), (kTbl_in (kwt_1 _ (List.mem_of_getElem? (i := 13) rfl)) rfl), ⟨by decide +kernel, by decide +kernel, by decide +kernel⟩, (kTbl_in (kwt_8 _ (List.mem_of_getElem? (i := 14) rfl)) rfl), (kTbl_in (kwt_8 _ (List.mem_of_getElem? (i := 15) rfl)) rfl)⟩
abbrev M_X12_reap : Km := (yX12_reap, cX12_reap, 4, some .int)
theorem m_X12_reap : kMdV M_X12_reap 1 := ⟨(kTbl_in (kwt_9 _ (List.mem_of_getElem? (i := 195) rfl)) rfl), (kTbl_in (kwt_1 _ (List.mem_of_getElem? (i := 13) rfl)) rfl), ⟨by decide +kernel, by decide +kernel, by decide +kernel⟩, (kTbl_in (kwt_9 _ (List.mem_of_getElem? (i := 193) rfl)) rfl), (kTbl_in (kwt_9 _ (List.mem_of_getElem? (i := 194) rfl)) rfl)⟩
abbrev M_X12_refuse : Km := (yX12_refuse, cX12_refuse, 2, some .int)
theorem m_X12_refuse : kMdV M_X12_refuse 1 := ⟨(kTbl_in (kwt_8 _ (List.mem_of_getElem? (i := 61) rfl)) rfl), (kTbl_in (kwt_1 _ (List.mem_of_getElem? (i := 13) rfl)) rfl), ⟨by decide +kernel, by decide +kernel, by decide +kernel⟩, (kTbl_in (kwt_8 _ (List.mem_of_getElem? (i := 60) rfl)) rfl), (kTbl_in (kwp_4 (yX12_refuse, 42) (List.mem_of_getElem? (i := 14) rfl)) rfl)⟩
abbrev M_X12_restores : Km := (yX12_restores, cX12_restores, 3, none)
theorem m_X12_restores : kMdV M_X12_restores 1 := ⟨(kTbl_in (kwt_9 _ (List.mem_of_getElem? (i := 211) rfl)) rfl), (kTbl_in (kwt_1 _ (List.mem_of_getElem? (i := 13) rfl)) rfl), ⟨by decide +kernel, by decide +kernel, by decide +kernel⟩, (kTbl_in (kwt_9 _ (List.mem_of_getElem? (i := 210) rfl)) rfl), (kTbl_in (kwp_8 (yX12_restores, 42) (List.mem_of_getElem? (i := 13) rfl)) rfl)⟩
abbrev M_X12_ripe : Km := (yX12_ripe, cX12_ripe, 2, some .int)
theorem m_X12_ripe : kMdV M_X12_ripe 1 := ⟨(kTbl_in (kwt_9 _ (List.mem_of_getElem? (i := 199) rfl)) rfl), (kTbl_in (kwt_1 _ (List.mem_of_getElem? (i := 13) rfl)) rfl), ⟨by decide +kernel, by decide +kernel, by decide +kernel⟩, (kTbl_in (kwt_9 _ (List.mem_of_getElem? (i := 197) rfl)) rfl), (kTbl_in (kwt_9 _ (List.mem_of_getElem? (i := 198) rfl)) rfl)⟩
abbrev M_X12_rowOf : Km := (yX12_rowOf, cX12_rowOf, 4, some .int)
theorem m_X12_rowOf : kMdV M_X12_rowOf 2 := ⟨(kTbl_in (kwt_9 _ (List.mem_of_getElem? (i := 20) rfl)) rfl), (kTbl_in (kwt_1 _ (List.mem_of_getElem? (i := 13) rfl)) rfl), ⟨by decide +kernel, by decide +kernel, by decide +kernel⟩, (kTbl_in (kwt_9 _ (List.mem_of_getElem? (i := 19) rfl)) rfl), (kTbl_in (kwp_7 (yX12_rowOf, 42) (List.mem_of_getElem? (i := 5) rfl)) rfl)⟩
abbrev M_X12_rule : Km := (yX12_rule, cX12_rule, 2, some .boolean)
theorem m_X12_rule : kMdV M_X12_rule 1 := ⟨(kTbl_in (kwt_9 _ (List.mem_of_getElem? (i := 186) rfl)) rfl), (kTbl_in (kwt_1 _ (List.mem_of_getElem? (i := 13) rfl)) rfl), ⟨by decide +kernel, by decide +kernel, by decide +kernel⟩, (kTbl_in (kwt_9 _ (List.mem_of_getElem? (i := 184) rfl)) rfl), (kTbl_in (kwt_9 _ (List.mem_of_getElem? (i := 185) rfl)) rfl)⟩
abbrev M_X12_seasonOrder : Km := (yX12_seasonOrder, cX12_seasonOrder, 3, some .boolean)
theorem m_X12_seasonOrder : kMdV M_X12_seasonOrder 2 := ⟨(kTbl_in (kwt_8 _ (List.mem_of_getElem? (i := 160) rfl)) rfl), (kTbl_in (kwt_1 _ (List.mem_of_getElem? (i := 13) rfl)) rfl), ⟨by decide +kernel, by decide +kernel, by decide +kernel⟩, (kTbl_in (kwt_8 _ (List.mem_of_getElem? (i := 159) rfl)) rfl), (kTbl_in (kwp_6 (yX12_seasonOrder, 42) (List.mem_of_getElem? (i := 5) rfl)) rfl)⟩
abbrev M_X12_seasonStep : Km := (yX12_seasonStep, cX12_seasonStep, 6, some .boolean)
theorem m_X12_seasonStep : kMdV M_X12_seasonStep 0 := ⟨(kTbl_in (kwt_8 _ (List.mem_of_getElem? (i := 156) rfl)) rfl), (kTbl_in (kwt_1 _ (List.mem_of_getElem? (i := 13) rfl)) rfl), ⟨by decide +kernel, by decide +kernel, by decide +kernel⟩, (kTbl_in (kwt_8 _ (List.mem_of_getElem? (i := 155) rfl)) rfl), (kTbl_in (kwp_6 (yX12_seasonStep, 42) (List.mem_of_getElem? (i := 4) rfl)) rfl)⟩
abbrev M_X12_seasons : Km := (yX12_seasons, cX12_seasons, 4, some .int)
theorem m_X12_seasons : kMdV M_X12_seasons 1 := ⟨(kTbl_in (kwt_8 _ (List.mem_of_getElem? (i := 152) rfl)) rfl), (kTbl_in (kwt_1 _ (List.mem_of_getElem? (i := 13) rfl)) rfl), ⟨by decide +kernel, by decide +kernel, by decide +kernel⟩, (kTbl_in (kwt_8 _ (List.mem_of_getElem? (i := 150) rfl)) rfl), (kTbl_in (kwt_8 _ (List.mem_of_getElem? (i := 151) rfl)) rfl)⟩
abbrev M_X12_sell : Km := (yX12_sell, cX12_sell, 3, some .int)
theorem m_X12_sell : kMdV M_X12_sell 2 := ⟨(kTbl_in (kwt_9 _ (List.mem_of_getElem? (i := 174) rfl)) rfl), (kTbl_in (kwt_1 _ (List.mem_of_getElem? (i := 13) rfl)) rfl), ⟨by decide +kernel, by decide +kernel, by decide +kernel⟩, (kTbl_in (kwt_9 _ (List.mem_of_getElem? (i := 172) rfl)) rfl), (kTbl_in (kwt_9 _ (List.mem_of_getElem? (i := 173) rfl)) rfl)⟩
abbrev M_X12_setOf : Km := (yX12_setOf, cX12_setOf, 4, some .int)
theorem m_X12_setOf : kMdV M_X12_setOf 1 := ⟨(kTbl_in (kwt_8 _ (List.mem_of_getElem? (i := 176) rfl)) rfl), (kTbl_in (kwt_1 _ (List.mem_of_getElem? (i := 13) rfl)) rfl), ⟨by decide +kernel, by decide +kernel, by decide +kernel⟩, (kTbl_in (kwt_8 _ (List.mem_of_getElem? (i := 175) rfl)) rfl), (kTbl_in (kwp_6 (yX12_setOf, 42) (List.mem_of_getElem? (i := 8) rfl)) rfl)⟩
abbrev M_X12_settle : Km := (yX12_settle, cX12_settle, 4, some .int)
theorem m_X12_settle : kMdV M_X12_settle 1 := ⟨(kTbl_in (kwt_10 _ (List.mem_of_getElem? (i := 45) rfl)) rfl), (kTbl_in (kwt_1 _ (List.mem_of_getElem? (i := 13) rfl)) rfl), ⟨by decide +kernel, by decide +kernel, by decide +kernel⟩, (kTbl_in (kwt_10 _ (List.mem_of_getElem? (i := 43) rfl)) rfl), (kTbl_in (kwt_10 _ (List.mem_of_getElem? (i := 44) rfl)) rfl)⟩
abbrev M_X12_settles : Km := (yX12_settles, cX12_settles, 6, some .boolean)
theorem m_X12_settles : kMdV M_X12_settles 2 := ⟨(kTbl_in (kwt_10 _ (List.mem_of_getElem? (i := 49) rfl)) rfl), (kTbl_in (kwt_1 _ (List.mem_of_getElem? (i := 13) rfl)) rfl), ⟨by decide +kernel, by decide +kernel, by decide +kernel⟩, (kTbl_in (kwt_10 _ (List.mem_of_getElem? (i := 48) rfl)) rfl), (kTbl_in (kwp_9 (yX12_settles, 42) (List.mem_of_getElem? (i := 4) rfl)) rfl)⟩
abbrev M_X12_shaded : Km := (yX12_shaded, cX12_shaded, 3, some .boolean)
theorem m_X12_shaded : kMdV M_X12_shaded 0 := ⟨(kTbl_in (kwt_10 _ (List.mem_of_getElem? (i := 126) rfl)) rfl), (kTbl_in (kwt_1 _ (List.mem_of_getElem? (i := 13) rfl)) rfl), ⟨by decide +kernel, by decide +kernel, by decide +kernel⟩, (kTbl_in (kwt_10 _ (List.mem_of_getElem? (i := 124) rfl)) rfl), (kTbl_in (kwt_10 _ (List.mem_of_getElem? (i := 125) rfl)) rfl)⟩
abbrev M_X12_shaders : Km := (yX12_shaders, cX12_shaders, 4, some .int)
theorem m_X12_shaders : kMdV M_X12_shaders 3 := ⟨(kTbl_in (kwt_9 _ (List.mem_of_getElem? (i := 61) rfl)) rfl), (kTbl_in (kwt_1 _ (List.mem_of_getElem? (i := 13) rfl)) rfl), ⟨by decide +kernel, by decide +kernel, by decide +kernel⟩, (kTbl_in (kwt_9 _ (List.mem_of_getElem? (i := 59) rfl)) rfl), (kTbl_in (kwt_9 _ (List.mem_of_getElem? (i := 60) rfl)) rfl)⟩
abbrev M_X12_shadersOf : Km := (yX12_shadersOf, cX12_shadersOf, 6, some .int)
theorem m_X12_shadersOf : kMdV M_X12_shadersOf 3 := ⟨(kTbl_in (kwt_9 _ (List.mem_of_getElem? (i := 36) rfl)) rfl), (kTbl_in (kwt_1 _ (List.mem_of_getElem? (i := 13) rfl)) rfl), ⟨by decide +kernel, by decide +kernel, by decide +kernel⟩, (kTbl_in (kwt_9 _ (List.mem_of_getElem? (i := 35) rfl)) rfl), (kTbl_in (kwp_7 (yX12_shadersOf, 42) (List.mem_of_getElem? (i := 8) rfl)) rfl)⟩
abbrev M_X12_share : Km := (yX12_share, cX12_share, 4, some .boolean)
theorem m_X12_share : kMdV M_X12_share 1 := ⟨(kTbl_in (kwt_10 _ (List.mem_of_getElem? (i := 118) rfl)) rfl), (kTbl_in (kwt_1 _ (List.mem_of_getElem? (i := 13) rfl)) rfl), ⟨by decide +kernel, by decide +kernel, by decide +kernel⟩, (kTbl_in (kwt_10 _ (List.mem_of_getElem? (i := 116) rfl)) rfl), (kTbl_in (kwt_10 _ (List.mem_of_getElem? (i := 117) rfl)) rfl)⟩
abbrev M_X12_side : Km := (yX12_side, cX12_side, 7, some .int)
theorem m_X12_side : kMdS M_X12_side 6 := ⟨(kTbl_in (kwt_9 _ (List.mem_of_getElem? (i := 96) rfl)) rfl), (kTbl_in (kwt_1 _ (List.mem_of_getElem? (i := 13) rfl)) rfl), ⟨by decide +kernel, by decide +kernel, by decide +kernel⟩, (kTbl_in (kwt_9 _ (List.mem_of_getElem? (i := 95) rfl)) rfl)⟩
abbrev M_X12_stands : Km := (yX12_stands, cX12_stands, 4, some .int)
theorem m_X12_stands : kMdV M_X12_stands 3 := ⟨(kTbl_in (kwt_9 _ (List.mem_of_getElem? (i := 4) rfl)) rfl), (kTbl_in (kwt_1 _ (List.mem_of_getElem? (i := 13) rfl)) rfl), ⟨by decide +kernel, by decide +kernel, by decide +kernel⟩, (kTbl_in (kwt_9 _ (List.mem_of_getElem? (i := 2) rfl)) rfl), (kTbl_in (kwt_9 _ (List.mem_of_getElem? (i := 3) rfl)) rfl)⟩
abbrev M_X12_status : Km := (yX12_status, cX12_status, 1, some .int)
theorem m_X12_status : kMdV M_X12_status 0 := ⟨(kTbl_in (kwt_7 _ (List.mem_of_getElem? (i := 222) rfl)) rfl), (kTbl_in (kwt_1 _ (List.mem_of_getElem? (i := 13) rfl)) rfl), ⟨by decide +kernel, by decide +kernel, by decide +kernel⟩, (kTbl_in (kwt_7 _ (List.mem_of_getElem? (i := 220) rfl)) rfl), (kTbl_in (kwt_7 _ (List.mem_of_getElem? (i := 221) rfl)) rfl)⟩
abbrev M_X12_stepsTo : Km := (yX12_stepsTo, cX12_stepsTo, 4, some .int)
theorem m_X12_stepsTo : kMdV M_X12_stepsTo 3 := ⟨(kTbl_in (kwt_9 _ (List.mem_of_getElem? (i := 149) rfl)) rfl), (kTbl_in (kwt_1 _ (List.mem_of_getElem? (i := 13) rfl)) rfl), ⟨by decide +kernel, by decide +kernel, by decide +kernel⟩, (kTbl_in (kwt_9 _ (List.mem_of_getElem? (i := 148) rfl)) rfl), (kTbl_in (kwp_8 (yX12_stepsTo, 42) (List.mem_of_getElem? (i := 7) rfl)) rfl)⟩
abbrev M_X12_strip : Km := (yX12_strip, cX12_strip, 6, some .int)
theorem m_X12_strip : kMdV M_X12_strip 3 := ⟨(kTbl_in (kwt_10 _ (List.mem_of_getElem? (i := 61) rfl)) rfl), (kTbl_in (kwt_1 _ (List.mem_of_getElem? (i := 13) rfl)) rfl), ⟨by decide +kernel, by decide +kernel, by decide +kernel⟩, (kTbl_in (kwt_10 _ (List.mem_of_getElem? (i := 59) rfl)) rfl), (kTbl_in (kwt_10 _ (List.mem_of_getElem? (i := 60) rfl)) rfl)⟩
abbrev M_X12_stripAt : Km := (yX12_stripAt, cX12_stripAt, 6, some .int)
theorem m_X12_stripAt : kMdV M_X12_stripAt 3 := ⟨(kTbl_in (kwt_10 _ (List.mem_of_getElem? (i := 73) rfl)) rfl), (kTbl_in (kwt_1 _ (List.mem_of_getElem? (i := 13) rfl)) rfl), ⟨by decide +kernel, by decide +kernel, by decide +kernel⟩, (kTbl_in (kwt_10 _ (List.mem_of_getElem? (i := 72) rfl)) rfl), (kTbl_in (kwp_9 (yX12_stripAt, 42) (List.mem_of_getElem? (i := 9) rfl)) rfl)⟩
abbrev M_X12_strips : Km := (yX12_strips, cX12_strips, 2, some .int)
theorem m_X12_strips : kMdV M_X12_strips 1 := ⟨(kTbl_in (kwt_10 _ (List.mem_of_getElem? (i := 89) rfl)) rfl), (kTbl_in (kwt_1 _ (List.mem_of_getElem? (i := 13) rfl)) rfl), ⟨by decide +kernel, by decide +kernel, by decide +kernel⟩, (kTbl_in (kwt_10 _ (List.mem_of_getElem? (i := 87) rfl)) rfl), (kTbl_in (kwt_10 _ (List.mem_of_getElem? (i := 88) rfl)) rfl)⟩
abbrev M_X12_stripsIn : Km := (yX12_stripsIn, cX12_stripsIn, 8, some .int)
theorem m_X12_stripsIn : kMdV M_X12_stripsIn 1 := ⟨(kTbl_in (kwt_10 _ (List.mem_of_getElem? (i := 85) rfl)) rfl), (kTbl_in (kwt_1 _ (List.mem_of_getElem? (i := 13) rfl)) rfl), ⟨by decide +kernel, by decide +kernel, by decide +kernel⟩, (kTbl_in (kwt_10 _ (List.mem_of_getElem? (i := 84) rfl)) rfl), (kTbl_in (kwp_9 (yX12_stripsIn, 42) (List.mem_of_getElem? (i := 10) rfl)) rfl)⟩
abbrev M_X12_suspects : Km := (yX12_suspects, cX12_suspects, 8, some .int)
theorem m_X12_suspects : kMdV M_X12_suspects 2 := ⟨(kTbl_in (kwt_10 _ (List.mem_of_getElem? (i := 77) rfl)) rfl), (kTbl_in (kwt_1 _ (List.mem_of_getElem? (i := 13) rfl)) rfl), ⟨by decide +kernel, by decide +kernel, by decide +kernel⟩, (kTbl_in (kwt_10 _ (List.mem_of_getElem? (i := 75) rfl)) rfl), (kTbl_in (kwt_10 _ (List.mem_of_getElem? (i := 76) rfl)) rfl)⟩
abbrev M_X12_taken : Km := (yX12_taken, cX12_taken, 2, some .int)
theorem m_X12_taken : kMdV M_X12_taken 1 := ⟨(kTbl_in (kwt_8 _ (List.mem_of_getElem? (i := 144) rfl)) rfl), (kTbl_in (kwt_1 _ (List.mem_of_getElem? (i := 13) rfl)) rfl), ⟨by decide +kernel, by decide +kernel, by decide +kernel⟩, (kTbl_in (kwt_8 _ (List.mem_of_getElem? (i := 143) rfl)) rfl), (kTbl_in (kwp_6 (yX12_taken, 42) (List.mem_of_getElem? (i := 2) rfl)) rfl)⟩
abbrev M_X12_telling : Km := (yX12_telling, cX12_telling, 5, some .int)
theorem m_X12_telling : kMdV M_X12_telling 0 := ⟨(kTbl_in (kwt_10 _ (List.mem_of_getElem? (i := 81) rfl)) rfl), (kTbl_in (kwt_1 _ (List.mem_of_getElem? (i := 13) rfl)) rfl), ⟨by decide +kernel, by decide +kernel, by decide +kernel⟩, (kTbl_in (kwt_10 _ (List.mem_of_getElem? (i := 79) rfl)) rfl), (kTbl_in (kwt_10 _ (List.mem_of_getElem? (i := 80) rfl)) rfl)⟩
abbrev M_X12_tellsBy : Km := (yX12_tellsBy, cX12_tellsBy, 11, some .boolean)
theorem m_X12_tellsBy : kMdV M_X12_tellsBy 2 := ⟨(kTbl_in (kwt_10 _ (List.mem_of_getElem? (i := 122) rfl)) rfl), (kTbl_in (kwt_1 _ (List.mem_of_getElem? (i := 13) rfl)) rfl), ⟨by decide +kernel, by decide +kernel, by decide +kernel⟩, (kTbl_in (kwt_10 _ (List.mem_of_getElem? (i := 121) rfl)) rfl), (kTbl_in (kwp_9 (yX12_tellsBy, 42) (List.mem_of_getElem? (i := 14) rfl)) rfl)⟩
abbrev M_X12_tenant : Km := (yX12_tenant, cX12_tenant, 3, some .int)
theorem m_X12_tenant : kMdV M_X12_tenant 2 := ⟨(kTbl_in (kwt_8 _ (List.mem_of_getElem? (i := 233) rfl)) rfl), (kTbl_in (kwt_1 _ (List.mem_of_getElem? (i := 13) rfl)) rfl), ⟨by decide +kernel, by decide +kernel, by decide +kernel⟩, (kTbl_in (kwt_8 _ (List.mem_of_getElem? (i := 231) rfl)) rfl), (kTbl_in (kwt_8 _ (List.mem_of_getElem? (i := 232) rfl)) rfl)⟩
abbrev M_X12_tenantIn : Km := (yX12_tenantIn, cX12_tenantIn, 4, some .int)
theorem m_X12_tenantIn : kMdV M_X12_tenantIn 2 := ⟨(kTbl_in (kwt_10 _ (List.mem_of_getElem? (i := 10) rfl)) rfl), (kTbl_in (kwt_1 _ (List.mem_of_getElem? (i := 13) rfl)) rfl), ⟨by decide +kernel, by decide +kernel, by decide +kernel⟩, (kTbl_in (kwt_10 _ (List.mem_of_getElem? (i := 8) rfl)) rfl), (kTbl_in (kwt_10 _ (List.mem_of_getElem? (i := 9) rfl)) rfl)⟩
abbrev M_X12_tenantRow : Km := (yX12_tenantRow, cX12_tenantRow, 1, some .int)
theorem m_X12_tenantRow : kMdS M_X12_tenantRow 1 := ⟨(kTbl_in (kwt_9 _ (List.mem_of_getElem? (i := 0) rfl)) rfl), (kTbl_in (kwt_1 _ (List.mem_of_getElem? (i := 13) rfl)) rfl), ⟨by decide +kernel, by decide +kernel, by decide +kernel⟩, (kTbl_in (kwt_8 _ (List.mem_of_getElem? (i := 239) rfl)) rfl)⟩
abbrev M_X12_test : Km := (yX12_test, cX12_test, 3, some .boolean)
theorem m_X12_test : kMdV M_X12_test 1 := ⟨(kTbl_in (kwt_8 _ (List.mem_of_getElem? (i := 168) rfl)) rfl), (kTbl_in (kwt_1 _ (List.mem_of_getElem? (i := 13) rfl)) rfl), ⟨by decide +kernel, by decide +kernel, by decide +kernel⟩, (kTbl_in (kwt_8 _ (List.mem_of_getElem? (i := 167) rfl)) rfl), (kTbl_in (kwp_6 (yX12_test, 42) (List.mem_of_getElem? (i := 7) rfl)) rfl)⟩
abbrev M_X12_theLand : Km := (yX12_theLand, cX12_theLand, 1, some .boolean)
theorem m_X12_theLand : kMdV M_X12_theLand 0 := ⟨(kTbl_in (kwt_8 _ (List.mem_of_getElem? (i := 80) rfl)) rfl), (kTbl_in (kwt_1 _ (List.mem_of_getElem? (i := 13) rfl)) rfl), ⟨by decide +kernel, by decide +kernel, by decide +kernel⟩, (kTbl_in (kwt_8 _ (List.mem_of_getElem? (i := 79) rfl)) rfl), (kTbl_in (kwp_5 (yX12_theLand, 42) (List.mem_of_getElem? (i := 2) rfl)) rfl)⟩
abbrev M_X12_told : Km := (yX12_told, cX12_told, 2, some .int)
theorem m_X12_told : kMdV M_X12_told 1 := ⟨(kTbl_in (kwt_8 _ (List.mem_of_getElem? (i := 172) rfl)) rfl), (kTbl_in (kwt_1 _ (List.mem_of_getElem? (i := 13) rfl)) rfl), ⟨by decide +kernel, by decide +kernel, by decide +kernel⟩, (kTbl_in (kwt_8 _ (List.mem_of_getElem? (i := 170) rfl)) rfl), (kTbl_in (kwt_8 _ (List.mem_of_getElem? (i := 171) rfl)) rfl)⟩
abbrev M_X12_top : Km := (yX12_top, cX12_top, 1, some .long)
theorem m_X12_top : kMdV M_X12_top 0 := ⟨(kTbl_in (kwt_7 _ (List.mem_of_getElem? (i := 226) rfl)) rfl), (kTbl_in (kwt_1 _ (List.mem_of_getElem? (i := 13) rfl)) rfl), ⟨by decide +kernel, by decide +kernel, by decide +kernel⟩, (kTbl_in (kwt_7 _ (List.mem_of_getElem? (i := 224) rfl)) rfl), (kTbl_in (kwt_7 _ (List.mem_of_getElem? (i := 225) rfl)) rfl)⟩
abbrev M_X12_tray : Km := (yX12_tray, cX12_tray, 5, some .boolean)
theorem m_X12_tray : kMdV M_X12_tray 3 := ⟨(kTbl_in (kwt_7 _ (List.mem_of_getElem? (i := 234) rfl)) rfl), (kTbl_in (kwt_1 _ (List.mem_of_getElem? (i := 13) rfl)) rfl), ⟨by decide +kernel, by decide +kernel, by decide +kernel⟩, (kTbl_in (kwt_7 _ (List.mem_of_getElem? (i := 232) rfl)) rfl), (kTbl_in (kwt_7 _ (List.mem_of_getElem? (i := 233) rfl)) rfl)⟩
abbrev M_X12_turned : Km := (yX12_turned, cX12_turned, 3, some .int)
theorem m_X12_turned : kMdV M_X12_turned 2 := ⟨(kTbl_in (kwt_9 _ (List.mem_of_getElem? (i := 12) rfl)) rfl), (kTbl_in (kwt_1 _ (List.mem_of_getElem? (i := 13) rfl)) rfl), ⟨by decide +kernel, by decide +kernel, by decide +kernel⟩, (kTbl_in (kwt_9 _ (List.mem_of_getElem? (i := 11) rfl)) rfl), (kTbl_in (kwp_7 (yX12_turned, 42) (List.mem_of_getElem? (i := 3) rfl)) rfl)⟩
abbrev M_X12_turnsCut : Km := (yX12_turnsCut, cX12_turnsCut, 3, some .boolean)
theorem m_X12_turnsCut : kMdV M_X12_turnsCut 2 := ⟨(kTbl_in (kwt_9 _ (List.mem_of_getElem? (i := 170) rfl)) rfl), (kTbl_in (kwt_1 _ (List.mem_of_getElem? (i := 13) rfl)) rfl), ⟨by decide +kernel, by decide +kernel, by decide +kernel⟩, (kTbl_in (kwt_9 _ (List.mem_of_getElem? (i := 169) rfl)) rfl), (kTbl_in (kwp_8 (yX12_turnsCut, 42) (List.mem_of_getElem? (i := 10) rfl)) rfl)⟩
abbrev M_X12_undo : Km := (yX12_undo, cX12_undo, 1, some .int)
theorem m_X12_undo : kMdV M_X12_undo 0 := ⟨(kTbl_in (kwt_10 _ (List.mem_of_getElem? (i := 181) rfl)) rfl), (kTbl_in (kwt_1 _ (List.mem_of_getElem? (i := 13) rfl)) rfl), ⟨by decide +kernel, by decide +kernel, by decide +kernel⟩, (kTbl_in (kwt_10 _ (List.mem_of_getElem? (i := 179) rfl)) rfl), (kTbl_in (kwt_10 _ (List.mem_of_getElem? (i := 180) rfl)) rfl)⟩
abbrev M_X12_walk : Km := (yX12_walk, cX12_walk, 3, some .int)
theorem m_X12_walk : kMdV M_X12_walk 2 := ⟨(kTbl_in (kwt_9 _ (List.mem_of_getElem? (i := 157) rfl)) rfl), (kTbl_in (kwt_1 _ (List.mem_of_getElem? (i := 13) rfl)) rfl), ⟨by decide +kernel, by decide +kernel, by decide +kernel⟩, (kTbl_in (kwt_9 _ (List.mem_of_getElem? (i := 155) rfl)) rfl), (kTbl_in (kwt_9 _ (List.mem_of_getElem? (i := 156) rfl)) rfl)⟩
abbrev M_X12_walks : Km := (yX12_walks, cX12_walks, 5, some .boolean)
theorem m_X12_walks : kMdV M_X12_walks 2 := ⟨(kTbl_in (kwt_9 _ (List.mem_of_getElem? (i := 162) rfl)) rfl), (kTbl_in (kwt_1 _ (List.mem_of_getElem? (i := 13) rfl)) rfl), ⟨by decide +kernel, by decide +kernel, by decide +kernel⟩, (kTbl_in (kwt_9 _ (List.mem_of_getElem? (i := 161) rfl)) rfl), (kTbl_in (kwp_8 (yX12_walks, 42) (List.mem_of_getElem? (i := 9) rfl)) rfl)⟩
abbrev M_X12_walksBy : Km := (yX12_walksBy, cX12_walksBy, 3, some .boolean)
theorem m_X12_walksBy : kMdV M_X12_walksBy 2 := ⟨(kTbl_in (kwt_10 _ (List.mem_of_getElem? (i := 148) rfl)) rfl), (kTbl_in (kwt_1 _ (List.mem_of_getElem? (i := 13) rfl)) rfl), ⟨by decide +kernel, by decide +kernel, by decide +kernel⟩, (kTbl_in (kwt_10 _ (List.mem_of_getElem? (i := 147) rfl)) rfl), (kTbl_in (kwp_10 (yX12_walksBy, 42) (List.mem_of_getElem? (i := 2) rfl)) rfl)⟩
abbrev M_X12_wantSign : Km := (yX12_wantSign, cX12_wantSign, 2, some .boolean)
theorem m_X12_wantSign : kMdV M_X12_wantSign 1 := ⟨(kTbl_in (kwt_8 _ (List.mem_of_getElem? (i := 136) rfl)) rfl), (kTbl_in (kwt_1 _ (List.mem_of_getElem? (i := 13) rfl)) rfl), ⟨by decide +kernel, by decide +kernel, by decide +kernel⟩, (kTbl_in (kwt_8 _ (List.mem_of_getElem? (i := 135) rfl)) rfl), (kTbl_in (kwp_6 (yX12_wantSign, 42) (List.mem_of_getElem? (i := 0) rfl)) rfl)⟩
abbrev M_X12_wantWord : Km := (yX12_wantWord, cX12_wantWord, 3, some .boolean)
theorem m_X12_wantWord : kMdV M_X12_wantWord 2 := ⟨(kTbl_in (kwt_8 _ (List.mem_of_getElem? (i := 88) rfl)) rfl), (kTbl_in (kwt_1 _ (List.mem_of_getElem? (i := 13) rfl)) rfl), ⟨by decide +kernel, by decide +kernel, by decide +kernel⟩, (kTbl_in (kwt_8 _ (List.mem_of_getElem? (i := 87) rfl)) rfl), (kTbl_in (kwp_5 (yX12_wantWord, 42) (List.mem_of_getElem? (i := 4) rfl)) rfl)⟩
abbrev M_X12_wind : Km := (yX12_wind, cX12_wind, 3, some .int)
theorem m_X12_wind : kMdV M_X12_wind 2 := ⟨(kTbl_in (kwt_8 _ (List.mem_of_getElem? (i := 210) rfl)) rfl), (kTbl_in (kwt_1 _ (List.mem_of_getElem? (i := 13) rfl)) rfl), ⟨by decide +kernel, by decide +kernel, by decide +kernel⟩, (kTbl_in (kwt_8 _ (List.mem_of_getElem? (i := 208) rfl)) rfl), (kTbl_in (kwt_8 _ (List.mem_of_getElem? (i := 209) rfl)) rfl)⟩
abbrev M_X12_write : Km := (yX12_write, cX12_write, 6, some .boolean)
theorem m_X12_write : kMdV M_X12_write 3 := ⟨(kTbl_in (kwt_8 _ (List.mem_of_getElem? (i := 5) rfl)) rfl), (kTbl_in (kwt_1 _ (List.mem_of_getElem? (i := 13) rfl)) rfl), ⟨by decide +kernel, by decide +kernel, by decide +kernel⟩, (kTbl_in (kwt_8 _ (List.mem_of_getElem? (i := 3) rfl)) rfl), (kTbl_in (kwt_8 _ (List.mem_of_getElem? (i := 4) rfl)) rfl)⟩
abbrev M_X12_wrongCover : Km := (yX12_wrongCover, cX12_wrongCover, 5, some .int)
theorem m_X12_wrongCover : kMdV M_X12_wrongCover 3 := ⟨(kTbl_in (kwt_10 _ (List.mem_of_getElem? (i := 31) rfl)) rfl), (kTbl_in (kwt_1 _ (List.mem_of_getElem? (i := 13) rfl)) rfl), ⟨by decide +kernel, by decide +kernel, by decide +kernel⟩, (kTbl_in (kwt_10 _ (List.mem_of_getElem? (i := 30) rfl)) rfl), (kTbl_in (kwp_9 (yX12_wrongCover, 42) (List.mem_of_getElem? (i := 2) rfl)) rfl)⟩
abbrev M_X12_wrongPlace : Km := (yX12_wrongPlace, cX12_wrongPlace, 3, some .int)
theorem m_X12_wrongPlace : kMdV M_X12_wrongPlace 2 := ⟨(kTbl_in (kwt_8 _ (List.mem_of_getElem? (i := 9) rfl)) rfl), (kTbl_in (kwt_1 _ (List.mem_of_getElem? (i := 13) rfl)) rfl), ⟨by decide +kernel, by decide +kernel, by decide +kernel⟩, (kTbl_in (kwt_8 _ (List.mem_of_getElem? (i := 8) rfl)) rfl), (kTbl_in (kwp_4 (yX12_wrongPlace, 42) (List.mem_of_getElem? (i := 9) rfl)) rfl)⟩
abbrev M_X12_wrongStrip : Km := (yX12_wrongStrip, cX12_wrongStrip, 3, some .int)
theorem m_X12_wrongStrip : kMdV M_X12_wrongStrip 2 := ⟨(kTbl_in (kwt_10 _ (List.mem_of_getElem? (i := 65) rfl)) rfl), (kTbl_in (kwt_1 _ (List.mem_of_getElem? (i := 13) rfl)) rfl), ⟨by decide +kernel, by decide +kernel, by decide +kernel⟩, (kTbl_in (kwt_10 _ (List.mem_of_getElem? (i := 64) rfl)) rfl), (kTbl_in (kwp_9 (yX12_wrongStrip, 42) (List.mem_of_getElem? (i := 7) rfl)) rfl)⟩
abbrev M_X1_init : Km := (yX1_init, cX1_init, 3, none)
theorem m_X1_init : kMdI M_X1_init 2 := ⟨(kTbl_in (kwt_2 _ (List.mem_of_getElem? (i := 69) rfl)) rfl), (kTbl_in (kwt_1 _ (List.mem_of_getElem? (i := 7) rfl)) rfl), ⟨by decide +kernel, by decide +kernel, by decide +kernel⟩, (kTbl_in (kwt_2 _ (List.mem_of_getElem? (i := 68) rfl)) rfl), rfl, rfl⟩
abbrev M_X1_readAll : Km := (yX1_readAll, cX1_readAll, 3, some .boolean)
theorem m_X1_readAll : kMdV M_X1_readAll 0 := ⟨(kTbl_in (kwt_3 _ (List.mem_of_getElem? (i := 222) rfl)) rfl), (kTbl_in (kwt_1 _ (List.mem_of_getElem? (i := 7) rfl)) rfl), ⟨by decide +kernel, by decide +kernel, by decide +kernel⟩, (kTbl_in (kwt_3 _ (List.mem_of_getElem? (i := 220) rfl)) rfl), (kTbl_in (kwt_3 _ (List.mem_of_getElem? (i := 221) rfl)) rfl)⟩
abbrev M_X1_readCrop : Km := (yX1_readCrop, cX1_readCrop, 1, some .boolean)
theorem m_X1_readCrop : kMdV M_X1_readCrop 0 := ⟨(kTbl_in (kwt_4 _ (List.mem_of_getElem? (i := 129) rfl)) rfl), (kTbl_in (kwt_1 _ (List.mem_of_getElem? (i := 7) rfl)) rfl), ⟨by decide +kernel, by decide +kernel, by decide +kernel⟩, (kTbl_in (kwt_4 _ (List.mem_of_getElem? (i := 128) rfl)) rfl), (kTbl_in (kwp_2 (yX1_readCrop, 7) (List.mem_of_getElem? (i := 2) rfl)) rfl)⟩
abbrev M_X1_readField : Km := (yX1_readField, cX1_readField, 1, some .boolean)
theorem m_X1_readField : kMdV M_X1_readField 0 := ⟨(kTbl_in (kwt_4 _ (List.mem_of_getElem? (i := 106) rfl)) rfl), (kTbl_in (kwt_1 _ (List.mem_of_getElem? (i := 7) rfl)) rfl), ⟨by decide +kernel, by decide +kernel, by decide +kernel⟩, (kTbl_in (kwt_4 _ (List.mem_of_getElem? (i := 105) rfl)) rfl), (kTbl_in (kwp_2 (yX1_readField, 7) (List.mem_of_getElem? (i := 0) rfl)) rfl)⟩
abbrev M_X1_readKite : Km := (yX1_readKite, cX1_readKite, 2, some .boolean)
theorem m_X1_readKite : kMdV M_X1_readKite 0 := ⟨(kTbl_in (kwt_4 _ (List.mem_of_getElem? (i := 77) rfl)) rfl), (kTbl_in (kwt_1 _ (List.mem_of_getElem? (i := 7) rfl)) rfl), ⟨by decide +kernel, by decide +kernel, by decide +kernel⟩, (kTbl_in (kwt_4 _ (List.mem_of_getElem? (i := 76) rfl)) rfl), (kTbl_in (kwp_1 (yX1_readKite, 7) (List.mem_of_getElem? (i := 13) rfl)) rfl)⟩
abbrev M_X1_readLand : Km := (yX1_readLand, cX1_readLand, 1, some .boolean)
theorem m_X1_readLand : kMdV M_X1_readLand 0 := ⟨(kTbl_in (kwt_4 _ (List.mem_of_getElem? (i := 150) rfl)) rfl), (kTbl_in (kwt_1 _ (List.mem_of_getElem? (i := 7) rfl)) rfl), ⟨by decide +kernel, by decide +kernel, by decide +kernel⟩, (kTbl_in (kwt_4 _ (List.mem_of_getElem? (i := 149) rfl)) rfl), (kTbl_in (kwp_2 (yX1_readLand, 7) (List.mem_of_getElem? (i := 4) rfl)) rfl)⟩
abbrev M_X1_readLaw : Km := (yX1_readLaw, cX1_readLaw, 1, some .boolean)
theorem m_X1_readLaw : kMdV M_X1_readLaw 0 := ⟨(kTbl_in (kwt_4 _ (List.mem_of_getElem? (i := 72) rfl)) rfl), (kTbl_in (kwt_1 _ (List.mem_of_getElem? (i := 7) rfl)) rfl), ⟨by decide +kernel, by decide +kernel, by decide +kernel⟩, (kTbl_in (kwt_4 _ (List.mem_of_getElem? (i := 71) rfl)) rfl), (kTbl_in (kwp_1 (yX1_readLaw, 7) (List.mem_of_getElem? (i := 12) rfl)) rfl)⟩
abbrev M_X1_readNewName : Km := (yX1_readNewName, cX1_readNewName, 1, some .boolean)
theorem m_X1_readNewName : kMdV M_X1_readNewName 0 := ⟨(kTbl_in (kwt_4 _ (List.mem_of_getElem? (i := 81) rfl)) rfl), (kTbl_in (kwt_1 _ (List.mem_of_getElem? (i := 7) rfl)) rfl), ⟨by decide +kernel, by decide +kernel, by decide +kernel⟩, (kTbl_in (kwt_4 _ (List.mem_of_getElem? (i := 80) rfl)) rfl), (kTbl_in (kwp_1 (yX1_readNewName, 7) (List.mem_of_getElem? (i := 14) rfl)) rfl)⟩
abbrev M_X1_readNoon : Km := (yX1_readNoon, cX1_readNoon, 1, some .boolean)
theorem m_X1_readNoon : kMdV M_X1_readNoon 0 := ⟨(kTbl_in (kwt_4 _ (List.mem_of_getElem? (i := 66) rfl)) rfl), (kTbl_in (kwt_1 _ (List.mem_of_getElem? (i := 7) rfl)) rfl), ⟨by decide +kernel, by decide +kernel, by decide +kernel⟩, (kTbl_in (kwt_4 _ (List.mem_of_getElem? (i := 65) rfl)) rfl), (kTbl_in (kwp_1 (yX1_readNoon, 7) (List.mem_of_getElem? (i := 11) rfl)) rfl)⟩
abbrev M_X1_readPart : Km := (yX1_readPart, cX1_readPart, 1, some .boolean)
theorem m_X1_readPart : kMdV M_X1_readPart 0 := ⟨(kTbl_in (kwt_3 _ (List.mem_of_getElem? (i := 235) rfl)) rfl), (kTbl_in (kwt_1 _ (List.mem_of_getElem? (i := 7) rfl)) rfl), ⟨by decide +kernel, by decide +kernel, by decide +kernel⟩, (kTbl_in (kwt_3 _ (List.mem_of_getElem? (i := 234) rfl)) rfl), (kTbl_in (kwp_1 (yX1_readPart, 7) (List.mem_of_getElem? (i := 9) rfl)) rfl)⟩
abbrev M_X1_readTenant : Km := (yX1_readTenant, cX1_readTenant, 2, some .boolean)
theorem m_X1_readTenant : kMdV M_X1_readTenant 0 := ⟨(kTbl_in (kwt_4 _ (List.mem_of_getElem? (i := 139) rfl)) rfl), (kTbl_in (kwt_1 _ (List.mem_of_getElem? (i := 7) rfl)) rfl), ⟨by decide +kernel, by decide +kernel, by decide +kernel⟩, (kTbl_in (kwt_4 _ (List.mem_of_getElem? (i := 138) rfl)) rfl), (kTbl_in (kwp_2 (yX1_readTenant, 7) (List.mem_of_getElem? (i := 3) rfl)) rfl)⟩
abbrev M_X1_readTrait : Km := (yX1_readTrait, cX1_readTrait, 3, some .boolean)
theorem m_X1_readTrait : kMdV M_X1_readTrait 2 := ⟨(kTbl_in (kwt_4 _ (List.mem_of_getElem? (i := 121) rfl)) rfl), (kTbl_in (kwt_1 _ (List.mem_of_getElem? (i := 7) rfl)) rfl), ⟨by decide +kernel, by decide +kernel, by decide +kernel⟩, (kTbl_in (kwt_4 _ (List.mem_of_getElem? (i := 120) rfl)) rfl), (kTbl_in (kwp_2 (yX1_readTrait, 7) (List.mem_of_getElem? (i := 1) rfl)) rfl)⟩
abbrev M_X1_readWind : Km := (yX1_readWind, cX1_readWind, 2, some .boolean)
theorem m_X1_readWind : kMdV M_X1_readWind 0 := ⟨(kTbl_in (kwt_4 _ (List.mem_of_getElem? (i := 52) rfl)) rfl), (kTbl_in (kwt_1 _ (List.mem_of_getElem? (i := 7) rfl)) rfl), ⟨by decide +kernel, by decide +kernel, by decide +kernel⟩, (kTbl_in (kwt_4 _ (List.mem_of_getElem? (i := 51) rfl)) rfl), (kTbl_in (kwp_1 (yX1_readWind, 7) (List.mem_of_getElem? (i := 10) rfl)) rfl)⟩
abbrev M_X2_begin : Km := (yX2_begin, cX2_begin, 6, none)
theorem m_X2_begin : kMdV M_X2_begin 4 := ⟨(kTbl_in (kwt_4 _ (List.mem_of_getElem? (i := 134) rfl)) rfl), (kTbl_in (kwt_1 _ (List.mem_of_getElem? (i := 5) rfl)) rfl), ⟨by decide +kernel, by decide +kernel, by decide +kernel⟩, (kTbl_in (kwt_4 _ (List.mem_of_getElem? (i := 132) rfl)) rfl), (kTbl_in (kwt_4 _ (List.mem_of_getElem? (i := 133) rfl)) rfl)⟩
abbrev M_X2_copy : Km := (yX2_copy, cX2_copy, 2, none)
theorem m_X2_copy : kMdV M_X2_copy 1 := ⟨(kTbl_in (kwt_4 _ (List.mem_of_getElem? (i := 172) rfl)) rfl), (kTbl_in (kwt_1 _ (List.mem_of_getElem? (i := 5) rfl)) rfl), ⟨by decide +kernel, by decide +kernel, by decide +kernel⟩, (kTbl_in (kwt_4 _ (List.mem_of_getElem? (i := 170) rfl)) rfl), (kTbl_in (kwt_4 _ (List.mem_of_getElem? (i := 171) rfl)) rfl)⟩
abbrev M_X2_grow : Km := (yX2_grow, cX2_grow, 1, none)
theorem m_X2_grow : kMdV M_X2_grow 0 := ⟨(kTbl_in (kwt_5 _ (List.mem_of_getElem? (i := 236) rfl)) rfl), (kTbl_in (kwt_1 _ (List.mem_of_getElem? (i := 5) rfl)) rfl), ⟨by decide +kernel, by decide +kernel, by decide +kernel⟩, (kTbl_in (kwt_5 _ (List.mem_of_getElem? (i := 234) rfl)) rfl), (kTbl_in (kwt_5 _ (List.mem_of_getElem? (i := 235) rfl)) rfl)⟩
abbrev M_X2_init : Km := (yX2_init, cX2_init, 1, none)
theorem m_X2_init : kMdI M_X2_init 0 := ⟨(kTbl_in (kwt_1 _ (List.mem_of_getElem? (i := 156) rfl)) rfl), (kTbl_in (kwt_1 _ (List.mem_of_getElem? (i := 5) rfl)) rfl), ⟨by decide +kernel, by decide +kernel, by decide +kernel⟩, (kTbl_in (kwt_1 _ (List.mem_of_getElem? (i := 155) rfl)) rfl), rfl, rfl⟩
abbrev M_X2_isRipe : Km := (yX2_isRipe, cX2_isRipe, 1, some .boolean)
theorem m_X2_isRipe : kMdV M_X2_isRipe 0 := ⟨(kTbl_in (kwt_5 _ (List.mem_of_getElem? (i := 80) rfl)) rfl), (kTbl_in (kwt_1 _ (List.mem_of_getElem? (i := 5) rfl)) rfl), ⟨by decide +kernel, by decide +kernel, by decide +kernel⟩, (kTbl_in (kwt_5 _ (List.mem_of_getElem? (i := 78) rfl)) rfl), (kTbl_in (kwt_5 _ (List.mem_of_getElem? (i := 79) rfl)) rfl)⟩
abbrev M_X3_begin : Km := (yX3_begin, cX3_begin, 5, none)
theorem m_X3_begin : kMdV M_X3_begin 3 := ⟨(kTbl_in (kwt_4 _ (List.mem_of_getElem? (i := 116) rfl)) rfl), (kTbl_in (kwt_1 _ (List.mem_of_getElem? (i := 4) rfl)) rfl), ⟨by decide +kernel, by decide +kernel, by decide +kernel⟩, (kTbl_in (kwt_4 _ (List.mem_of_getElem? (i := 114) rfl)) rfl), (kTbl_in (kwt_4 _ (List.mem_of_getElem? (i := 115) rfl)) rfl)⟩
abbrev M_X3_copy : Km := (yX3_copy, cX3_copy, 2, none)
theorem m_X3_copy : kMdV M_X3_copy 1 := ⟨(kTbl_in (kwt_4 _ (List.mem_of_getElem? (i := 168) rfl)) rfl), (kTbl_in (kwt_1 _ (List.mem_of_getElem? (i := 4) rfl)) rfl), ⟨by decide +kernel, by decide +kernel, by decide +kernel⟩, (kTbl_in (kwt_4 _ (List.mem_of_getElem? (i := 166) rfl)) rfl), (kTbl_in (kwt_4 _ (List.mem_of_getElem? (i := 167) rfl)) rfl)⟩
abbrev M_X3_earn : Km := (yX3_earn, cX3_earn, 2, none)
theorem m_X3_earn : kMdV M_X3_earn 1 := ⟨(kTbl_in (kwt_6 _ (List.mem_of_getElem? (i := 1) rfl)) rfl), (kTbl_in (kwt_1 _ (List.mem_of_getElem? (i := 4) rfl)) rfl), ⟨by decide +kernel, by decide +kernel, by decide +kernel⟩, (kTbl_in (kwt_5 _ (List.mem_of_getElem? (i := 239) rfl)) rfl), (kTbl_in (kwt_6 _ (List.mem_of_getElem? (i := 0) rfl)) rfl)⟩
abbrev M_X3_init : Km := (yX3_init, cX3_init, 1, none)
theorem m_X3_init : kMdI M_X3_init 0 := ⟨(kTbl_in (kwt_1 _ (List.mem_of_getElem? (i := 91) rfl)) rfl), (kTbl_in (kwt_1 _ (List.mem_of_getElem? (i := 4) rfl)) rfl), ⟨by decide +kernel, by decide +kernel, by decide +kernel⟩, (kTbl_in (kwt_1 _ (List.mem_of_getElem? (i := 90) rfl)) rfl), rfl, rfl⟩
abbrev M_X4_behindEnd : Km := (yX4_behindEnd, cX4_behindEnd, 4, some .int)
theorem m_X4_behindEnd : kMdV M_X4_behindEnd 2 := ⟨(kTbl_in (kwt_7 _ (List.mem_of_getElem? (i := 35) rfl)) rfl), (kTbl_in (kwt_1 _ (List.mem_of_getElem? (i := 10) rfl)) rfl), ⟨by decide +kernel, by decide +kernel, by decide +kernel⟩, (kTbl_in (kwt_7 _ (List.mem_of_getElem? (i := 34) rfl)) rfl), (kTbl_in (kwp_4 (yX4_behindEnd, 9) (List.mem_of_getElem? (i := 1) rfl)) rfl)⟩
abbrev M_X4_behindStep : Km := (yX4_behindStep, cX4_behindStep, 7, some .int)
theorem m_X4_behindStep : kMdV M_X4_behindStep 4 := ⟨(kTbl_in (kwt_7 _ (List.mem_of_getElem? (i := 39) rfl)) rfl), (kTbl_in (kwt_1 _ (List.mem_of_getElem? (i := 10) rfl)) rfl), ⟨by decide +kernel, by decide +kernel, by decide +kernel⟩, (kTbl_in (kwt_7 _ (List.mem_of_getElem? (i := 38) rfl)) rfl), (kTbl_in (kwp_4 (yX4_behindStep, 9) (List.mem_of_getElem? (i := 2) rfl)) rfl)⟩
abbrev M_X4_drawStep : Km := (yX4_drawStep, cX4_drawStep, 1, some .int)
theorem m_X4_drawStep : kMdV M_X4_drawStep 0 := ⟨(kTbl_in (kwt_7 _ (List.mem_of_getElem? (i := 55) rfl)) rfl), (kTbl_in (kwt_1 _ (List.mem_of_getElem? (i := 10) rfl)) rfl), ⟨by decide +kernel, by decide +kernel, by decide +kernel⟩, (kTbl_in (kwt_7 _ (List.mem_of_getElem? (i := 54) rfl)) rfl), (kTbl_in (kwp_4 (yX4_drawStep, 9) (List.mem_of_getElem? (i := 5) rfl)) rfl)⟩
abbrev M_X4_holds : Km := (yX4_holds, cX4_holds, 7, some .boolean)
theorem m_X4_holds : kMdV M_X4_holds 4 := ⟨(kTbl_in (kwt_7 _ (List.mem_of_getElem? (i := 60) rfl)) rfl), (kTbl_in (kwt_1 _ (List.mem_of_getElem? (i := 10) rfl)) rfl), ⟨by decide +kernel, by decide +kernel, by decide +kernel⟩, (kTbl_in (kwt_7 _ (List.mem_of_getElem? (i := 59) rfl)) rfl), (kTbl_in (kwp_4 (yX4_holds, 9) (List.mem_of_getElem? (i := 6) rfl)) rfl)⟩
abbrev M_X4_init : Km := (yX4_init, cX4_init, 1, none)
theorem m_X4_init : kMdI M_X4_init 0 := ⟨(kTbl_in (kwt_2 _ (List.mem_of_getElem? (i := 173) rfl)) rfl), (kTbl_in (kwt_1 _ (List.mem_of_getElem? (i := 10) rfl)) rfl), ⟨by decide +kernel, by decide +kernel, by decide +kernel⟩, (kTbl_in (kwt_2 _ (List.mem_of_getElem? (i := 172) rfl)) rfl), rfl, rfl⟩
abbrev M_X4_putCut : Km := (yX4_putCut, cX4_putCut, 3, none)
theorem m_X4_putCut : kMdV M_X4_putCut 2 := ⟨(kTbl_in (kwt_7 _ (List.mem_of_getElem? (i := 51) rfl)) rfl), (kTbl_in (kwt_1 _ (List.mem_of_getElem? (i := 10) rfl)) rfl), ⟨by decide +kernel, by decide +kernel, by decide +kernel⟩, (kTbl_in (kwt_7 _ (List.mem_of_getElem? (i := 50) rfl)) rfl), (kTbl_in (kwp_4 (yX4_putCut, 9) (List.mem_of_getElem? (i := 4) rfl)) rfl)⟩
abbrev M_X4_run : Km := (yX4_run, cX4_run, 7, none)
theorem m_X4_run : kMdV M_X4_run 4 := ⟨(kTbl_in (kwt_7 _ (List.mem_of_getElem? (i := 30) rfl)) rfl), (kTbl_in (kwt_1 _ (List.mem_of_getElem? (i := 10) rfl)) rfl), ⟨by decide +kernel, by decide +kernel, by decide +kernel⟩, (kTbl_in (kwt_7 _ (List.mem_of_getElem? (i := 28) rfl)) rfl), (kTbl_in (kwt_7 _ (List.mem_of_getElem? (i := 29) rfl)) rfl)⟩
abbrev M_X4_stepOrMiss : Km := (yX4_stepOrMiss, cX4_stepOrMiss, 4, none)
theorem m_X4_stepOrMiss : kMdV M_X4_stepOrMiss 3 := ⟨(kTbl_in (kwt_7 _ (List.mem_of_getElem? (i := 45) rfl)) rfl), (kTbl_in (kwt_1 _ (List.mem_of_getElem? (i := 10) rfl)) rfl), ⟨by decide +kernel, by decide +kernel, by decide +kernel⟩, (kTbl_in (kwt_7 _ (List.mem_of_getElem? (i := 44) rfl)) rfl), (kTbl_in (kwp_4 (yX4_stepOrMiss, 9) (List.mem_of_getElem? (i := 3) rfl)) rfl)⟩
abbrev M_X5_areAlike : Km := (yX5_areAlike, cX5_areAlike, 4, some .boolean)
theorem m_X5_areAlike : kMdV M_X5_areAlike 2 := ⟨(kTbl_in (kwt_6 _ (List.mem_of_getElem? (i := 220) rfl)) rfl), (kTbl_in (kwt_1 _ (List.mem_of_getElem? (i := 11) rfl)) rfl), ⟨by decide +kernel, by decide +kernel, by decide +kernel⟩, (kTbl_in (kwt_6 _ (List.mem_of_getElem? (i := 219) rfl)) rfl), (kTbl_in (kwp_3 (yX5_areAlike, 18) (List.mem_of_getElem? (i := 14) rfl)) rfl)⟩
abbrev M_X5_countOwnedFields : Km := (yX5_countOwnedFields, cX5_countOwnedFields, 3, none)
theorem m_X5_countOwnedFields : kMdV M_X5_countOwnedFields 0 := ⟨(kTbl_in (kwt_6 _ (List.mem_of_getElem? (i := 96) rfl)) rfl), (kTbl_in (kwt_1 _ (List.mem_of_getElem? (i := 11) rfl)) rfl), ⟨by decide +kernel, by decide +kernel, by decide +kernel⟩, (kTbl_in (kwt_6 _ (List.mem_of_getElem? (i := 95) rfl)) rfl), (kTbl_in (kwp_3 (yX5_countOwnedFields, 18) (List.mem_of_getElem? (i := 7) rfl)) rfl)⟩
abbrev M_X5_countStrips : Km := (yX5_countStrips, cX5_countStrips, 5, none)
theorem m_X5_countStrips : kMdV M_X5_countStrips 1 := ⟨(kTbl_in (kwt_6 _ (List.mem_of_getElem? (i := 195) rfl)) rfl), (kTbl_in (kwt_1 _ (List.mem_of_getElem? (i := 11) rfl)) rfl), ⟨by decide +kernel, by decide +kernel, by decide +kernel⟩, (kTbl_in (kwt_6 _ (List.mem_of_getElem? (i := 193) rfl)) rfl), (kTbl_in (kwt_6 _ (List.mem_of_getElem? (i := 194) rfl)) rfl)⟩
abbrev M_X5_init : Km := (yX5_init, cX5_init, 3, none)
theorem m_X5_init : kMdI M_X5_init 2 := ⟨(kTbl_in (kwt_2 _ (List.mem_of_getElem? (i := 214) rfl)) rfl), (kTbl_in (kwt_1 _ (List.mem_of_getElem? (i := 11) rfl)) rfl), ⟨by decide +kernel, by decide +kernel, by decide +kernel⟩, (kTbl_in (kwt_2 _ (List.mem_of_getElem? (i := 213) rfl)) rfl), rfl, rfl⟩
abbrev M_X5_isCovering : Km := (yX5_isCovering, cX5_isCovering, 4, some .boolean)
theorem m_X5_isCovering : kMdV M_X5_isCovering 2 := ⟨(kTbl_in (kwt_6 _ (List.mem_of_getElem? (i := 161) rfl)) rfl), (kTbl_in (kwt_1 _ (List.mem_of_getElem? (i := 11) rfl)) rfl), ⟨by decide +kernel, by decide +kernel, by decide +kernel⟩, (kTbl_in (kwt_6 _ (List.mem_of_getElem? (i := 160) rfl)) rfl), (kTbl_in (kwp_3 (yX5_isCovering, 18) (List.mem_of_getElem? (i := 11) rfl)) rfl)⟩
abbrev M_X5_isStrip : Km := (yX5_isStrip, cX5_isStrip, 4, some .boolean)
theorem m_X5_isStrip : kMdV M_X5_isStrip 2 := ⟨(kTbl_in (kwt_6 _ (List.mem_of_getElem? (i := 207) rfl)) rfl), (kTbl_in (kwt_1 _ (List.mem_of_getElem? (i := 11) rfl)) rfl), ⟨by decide +kernel, by decide +kernel, by decide +kernel⟩, (kTbl_in (kwt_6 _ (List.mem_of_getElem? (i := 205) rfl)) rfl), (kTbl_in (kwt_6 _ (List.mem_of_getElem? (i := 206) rfl)) rfl)⟩
abbrev M_X5_mostSettled : Km := (yX5_mostSettled, cX5_mostSettled, 4, some .int)
theorem m_X5_mostSettled : kMdV M_X5_mostSettled 1 := ⟨(kTbl_in (kwt_6 _ (List.mem_of_getElem? (i := 174) rfl)) rfl), (kTbl_in (kwt_1 _ (List.mem_of_getElem? (i := 11) rfl)) rfl), ⟨by decide +kernel, by decide +kernel, by decide +kernel⟩, (kTbl_in (kwt_6 _ (List.mem_of_getElem? (i := 172) rfl)) rfl), (kTbl_in (kwt_6 _ (List.mem_of_getElem? (i := 173) rfl)) rfl)⟩
abbrev M_X5_offerField : Km := (yX5_offerField, cX5_offerField, 8, none)
theorem m_X5_offerField : kMdV M_X5_offerField 3 := ⟨(kTbl_in (kwt_6 _ (List.mem_of_getElem? (i := 180) rfl)) rfl), (kTbl_in (kwt_1 _ (List.mem_of_getElem? (i := 11) rfl)) rfl), ⟨by decide +kernel, by decide +kernel, by decide +kernel⟩, (kTbl_in (kwt_6 _ (List.mem_of_getElem? (i := 179) rfl)) rfl), (kTbl_in (kwp_3 (yX5_offerField, 18) (List.mem_of_getElem? (i := 12) rfl)) rfl)⟩
abbrev M_X5_playOut : Km := (yX5_playOut, cX5_playOut, 10, some .int)
theorem m_X5_playOut : kMdV M_X5_playOut 3 := ⟨(kTbl_in (kwt_6 _ (List.mem_of_getElem? (i := 236) rfl)) rfl), (kTbl_in (kwt_1 _ (List.mem_of_getElem? (i := 11) rfl)) rfl), ⟨by decide +kernel, by decide +kernel, by decide +kernel⟩, (kTbl_in (kwt_6 _ (List.mem_of_getElem? (i := 235) rfl)) rfl), (kTbl_in (kwp_3 (yX5_playOut, 18) (List.mem_of_getElem? (i := 15) rfl)) rfl)⟩
abbrev M_X5_seekCover : Km := (yX5_seekCover, cX5_seekCover, 5, some .boolean)
theorem m_X5_seekCover : kMdV M_X5_seekCover 2 := ⟨(kTbl_in (kwt_6 _ (List.mem_of_getElem? (i := 155) rfl)) rfl), (kTbl_in (kwt_1 _ (List.mem_of_getElem? (i := 11) rfl)) rfl), ⟨by decide +kernel, by decide +kernel, by decide +kernel⟩, (kTbl_in (kwt_6 _ (List.mem_of_getElem? (i := 153) rfl)) rfl), (kTbl_in (kwt_6 _ (List.mem_of_getElem? (i := 154) rfl)) rfl)⟩
abbrev M_X5_seekDuel : Km := (yX5_seekDuel, cX5_seekDuel, 4, none)
theorem m_X5_seekDuel : kMdV M_X5_seekDuel 3 := ⟨(kTbl_in (kwt_6 _ (List.mem_of_getElem? (i := 232) rfl)) rfl), (kTbl_in (kwt_1 _ (List.mem_of_getElem? (i := 11) rfl)) rfl), ⟨by decide +kernel, by decide +kernel, by decide +kernel⟩, (kTbl_in (kwt_6 _ (List.mem_of_getElem? (i := 230) rfl)) rfl), (kTbl_in (kwt_6 _ (List.mem_of_getElem? (i := 231) rfl)) rfl)⟩
abbrev M_X5_seekFlight : Km := (yX5_seekFlight, cX5_seekFlight, 5, none)
theorem m_X5_seekFlight : kMdV M_X5_seekFlight 4 := ⟨(kTbl_in (kwt_6 _ (List.mem_of_getElem? (i := 125) rfl)) rfl), (kTbl_in (kwt_1 _ (List.mem_of_getElem? (i := 11) rfl)) rfl), ⟨by decide +kernel, by decide +kernel, by decide +kernel⟩, (kTbl_in (kwt_6 _ (List.mem_of_getElem? (i := 123) rfl)) rfl), (kTbl_in (kwt_6 _ (List.mem_of_getElem? (i := 124) rfl)) rfl)⟩
abbrev M_X5_seekPlanting : Km := (yX5_seekPlanting, cX5_seekPlanting, 4, none)
theorem m_X5_seekPlanting : kMdV M_X5_seekPlanting 1 := ⟨(kTbl_in (kwt_6 _ (List.mem_of_getElem? (i := 91) rfl)) rfl), (kTbl_in (kwt_1 _ (List.mem_of_getElem? (i := 11) rfl)) rfl), ⟨by decide +kernel, by decide +kernel, by decide +kernel⟩, (kTbl_in (kwt_6 _ (List.mem_of_getElem? (i := 89) rfl)) rfl), (kTbl_in (kwt_6 _ (List.mem_of_getElem? (i := 90) rfl)) rfl)⟩
abbrev M_X5_tryFlight : Km := (yX5_tryFlight, cX5_tryFlight, 9, none)
theorem m_X5_tryFlight : kMdV M_X5_tryFlight 2 := ⟨(kTbl_in (kwt_6 _ (List.mem_of_getElem? (i := 129) rfl)) rfl), (kTbl_in (kwt_1 _ (List.mem_of_getElem? (i := 11) rfl)) rfl), ⟨by decide +kernel, by decide +kernel, by decide +kernel⟩, (kTbl_in (kwt_6 _ (List.mem_of_getElem? (i := 128) rfl)) rfl), (kTbl_in (kwp_3 (yX5_tryFlight, 18) (List.mem_of_getElem? (i := 9) rfl)) rfl)⟩
abbrev M_X5_unlikeStrips : Km := (yX5_unlikeStrips, cX5_unlikeStrips, 6, some .int)
theorem m_X5_unlikeStrips : kMdV M_X5_unlikeStrips 1 := ⟨(kTbl_in (kwt_6 _ (List.mem_of_getElem? (i := 215) rfl)) rfl), (kTbl_in (kwt_1 _ (List.mem_of_getElem? (i := 11) rfl)) rfl), ⟨by decide +kernel, by decide +kernel, by decide +kernel⟩, (kTbl_in (kwt_6 _ (List.mem_of_getElem? (i := 213) rfl)) rfl), (kTbl_in (kwt_6 _ (List.mem_of_getElem? (i := 214) rfl)) rfl)⟩
abbrev M_X6_fail : Km := (yX6_fail, cX6_fail, 2, some .boolean)
theorem m_X6_fail : kMdV M_X6_fail 1 := ⟨(kTbl_in (kwt_4 _ (List.mem_of_getElem? (i := 61) rfl)) rfl), (kTbl_in (kwt_1 _ (List.mem_of_getElem? (i := 2) rfl)) rfl), ⟨by decide +kernel, by decide +kernel, by decide +kernel⟩, (kTbl_in (kwt_4 _ (List.mem_of_getElem? (i := 59) rfl)) rfl), (kTbl_in (kwt_4 _ (List.mem_of_getElem? (i := 60) rfl)) rfl)⟩
abbrev M_X6_init : Km := (yX6_init, cX6_init, 1, none)
theorem m_X6_init : kMdI M_X6_init 0 := ⟨(kTbl_in (kwt_1 _ (List.mem_of_getElem? (i := 35) rfl)) rfl), (kTbl_in (kwt_1 _ (List.mem_of_getElem? (i := 2) rfl)) rfl), ⟨by decide +kernel, by decide +kernel, by decide +kernel⟩, (kTbl_in (kwt_1 _ (List.mem_of_getElem? (i := 34) rfl)) rfl), rfl, rfl⟩
abbrev M_X6_isAtEnd : Km := (yX6_isAtEnd, cX6_isAtEnd, 1, some .boolean)
theorem m_X6_isAtEnd : kMdV M_X6_isAtEnd 0 := ⟨(kTbl_in (kwt_3 _ (List.mem_of_getElem? (i := 227) rfl)) rfl), (kTbl_in (kwt_1 _ (List.mem_of_getElem? (i := 2) rfl)) rfl), ⟨by decide +kernel, by decide +kernel, by decide +kernel⟩, (kTbl_in (kwt_3 _ (List.mem_of_getElem? (i := 225) rfl)) rfl), (kTbl_in (kwt_3 _ (List.mem_of_getElem? (i := 226) rfl)) rfl)⟩
abbrev M_X6_isNameHere : Km := (yX6_isNameHere, cX6_isNameHere, 1, some .boolean)
theorem m_X6_isNameHere : kMdV M_X6_isNameHere 0 := ⟨(kTbl_in (kwt_4 _ (List.mem_of_getElem? (i := 85) rfl)) rfl), (kTbl_in (kwt_1 _ (List.mem_of_getElem? (i := 2) rfl)) rfl), ⟨by decide +kernel, by decide +kernel, by decide +kernel⟩, (kTbl_in (kwt_4 _ (List.mem_of_getElem? (i := 83) rfl)) rfl), (kTbl_in (kwt_4 _ (List.mem_of_getElem? (i := 84) rfl)) rfl)⟩
abbrev M_X6_isReserved : Km := (yX6_isReserved, cX6_isReserved, 4, some .boolean)
theorem m_X6_isReserved : kMdV M_X6_isReserved 0 := ⟨(kTbl_in (kwt_4 _ (List.mem_of_getElem? (i := 89) rfl)) rfl), (kTbl_in (kwt_1 _ (List.mem_of_getElem? (i := 2) rfl)) rfl), ⟨by decide +kernel, by decide +kernel, by decide +kernel⟩, (kTbl_in (kwt_4 _ (List.mem_of_getElem? (i := 88) rfl)) rfl), (kTbl_in (kwp_1 (yX6_isReserved, 10) (List.mem_of_getElem? (i := 15) rfl)) rfl)⟩
abbrev M_X6_isSign : Km := (yX6_isSign, cX6_isSign, 2, some .boolean)
theorem m_X6_isSign : kMdV M_X6_isSign 1 := ⟨(kTbl_in (kwt_3 _ (List.mem_of_getElem? (i := 218) rfl)) rfl), (kTbl_in (kwt_1 _ (List.mem_of_getElem? (i := 2) rfl)) rfl), ⟨by decide +kernel, by decide +kernel, by decide +kernel⟩, (kTbl_in (kwt_3 _ (List.mem_of_getElem? (i := 217) rfl)) rfl), (kTbl_in (kwp_1 (yX6_isSign, 10) (List.mem_of_getElem? (i := 8) rfl)) rfl)⟩
abbrev M_X6_isSignOf : Km := (yX6_isSignOf, cX6_isSignOf, 2, some .boolean)
theorem m_X6_isSignOf : kMdV M_X6_isSignOf 1 := ⟨(kTbl_in (kwt_4 _ (List.mem_of_getElem? (i := 159) rfl)) rfl), (kTbl_in (kwt_1 _ (List.mem_of_getElem? (i := 2) rfl)) rfl), ⟨by decide +kernel, by decide +kernel, by decide +kernel⟩, (kTbl_in (kwt_4 _ (List.mem_of_getElem? (i := 157) rfl)) rfl), (kTbl_in (kwt_4 _ (List.mem_of_getElem? (i := 158) rfl)) rfl)⟩
abbrev M_X6_isWord : Km := (yX6_isWord, cX6_isWord, 3, some .boolean)
theorem m_X6_isWord : kMdV M_X6_isWord 1 := ⟨(kTbl_in (kwt_4 _ (List.mem_of_getElem? (i := 0) rfl)) rfl), (kTbl_in (kwt_1 _ (List.mem_of_getElem? (i := 2) rfl)) rfl), ⟨by decide +kernel, by decide +kernel, by decide +kernel⟩, (kTbl_in (kwt_3 _ (List.mem_of_getElem? (i := 238) rfl)) rfl), (kTbl_in (kwt_3 _ (List.mem_of_getElem? (i := 239) rfl)) rfl)⟩
abbrev M_X6_next : Km := (yX6_next, cX6_next, 1, none)
theorem m_X6_next : kMdV M_X6_next 0 := ⟨(kTbl_in (kwt_3 _ (List.mem_of_getElem? (i := 205) rfl)) rfl), (kTbl_in (kwt_1 _ (List.mem_of_getElem? (i := 2) rfl)) rfl), ⟨by decide +kernel, by decide +kernel, by decide +kernel⟩, (kTbl_in (kwt_3 _ (List.mem_of_getElem? (i := 203) rfl)) rfl), (kTbl_in (kwt_3 _ (List.mem_of_getElem? (i := 204) rfl)) rfl)⟩
abbrev M_X6_nextNumber : Km := (yX6_nextNumber, cX6_nextNumber, 1, none)
theorem m_X6_nextNumber : kMdV M_X6_nextNumber 0 := ⟨(kTbl_in (kwt_3 _ (List.mem_of_getElem? (i := 214) rfl)) rfl), (kTbl_in (kwt_1 _ (List.mem_of_getElem? (i := 2) rfl)) rfl), ⟨by decide +kernel, by decide +kernel, by decide +kernel⟩, (kTbl_in (kwt_3 _ (List.mem_of_getElem? (i := 213) rfl)) rfl), (kTbl_in (kwp_1 (yX6_nextNumber, 10) (List.mem_of_getElem? (i := 7) rfl)) rfl)⟩
abbrev M_X6_nextWord : Km := (yX6_nextWord, cX6_nextWord, 1, none)
theorem m_X6_nextWord : kMdV M_X6_nextWord 0 := ⟨(kTbl_in (kwt_3 _ (List.mem_of_getElem? (i := 209) rfl)) rfl), (kTbl_in (kwt_1 _ (List.mem_of_getElem? (i := 2) rfl)) rfl), ⟨by decide +kernel, by decide +kernel, by decide +kernel⟩, (kTbl_in (kwt_3 _ (List.mem_of_getElem? (i := 208) rfl)) rfl), (kTbl_in (kwp_1 (yX6_nextWord, 10) (List.mem_of_getElem? (i := 6) rfl)) rfl)⟩
abbrev M_X6_open : Km := (yX6_open, cX6_open, 3, none)
theorem m_X6_open : kMdV M_X6_open 2 := ⟨(kTbl_in (kwt_3 _ (List.mem_of_getElem? (i := 200) rfl)) rfl), (kTbl_in (kwt_1 _ (List.mem_of_getElem? (i := 2) rfl)) rfl), ⟨by decide +kernel, by decide +kernel, by decide +kernel⟩, (kTbl_in (kwt_3 _ (List.mem_of_getElem? (i := 198) rfl)) rfl), (kTbl_in (kwt_3 _ (List.mem_of_getElem? (i := 199) rfl)) rfl)⟩
abbrev M_X6_takeNumber : Km := (yX6_takeNumber, cX6_takeNumber, 3, some .boolean)
theorem m_X6_takeNumber : kMdV M_X6_takeNumber 2 := ⟨(kTbl_in (kwt_4 _ (List.mem_of_getElem? (i := 57) rfl)) rfl), (kTbl_in (kwt_1 _ (List.mem_of_getElem? (i := 2) rfl)) rfl), ⟨by decide +kernel, by decide +kernel, by decide +kernel⟩, (kTbl_in (kwt_4 _ (List.mem_of_getElem? (i := 55) rfl)) rfl), (kTbl_in (kwt_4 _ (List.mem_of_getElem? (i := 56) rfl)) rfl)⟩
abbrev M_X6_takeSign : Km := (yX6_takeSign, cX6_takeSign, 2, some .boolean)
theorem m_X6_takeSign : kMdV M_X6_takeSign 1 := ⟨(kTbl_in (kwt_4 _ (List.mem_of_getElem? (i := 155) rfl)) rfl), (kTbl_in (kwt_1 _ (List.mem_of_getElem? (i := 2) rfl)) rfl), ⟨by decide +kernel, by decide +kernel, by decide +kernel⟩, (kTbl_in (kwt_4 _ (List.mem_of_getElem? (i := 153) rfl)) rfl), (kTbl_in (kwt_4 _ (List.mem_of_getElem? (i := 154) rfl)) rfl)⟩
abbrev M_X6_takeWord : Km := (yX6_takeWord, cX6_takeWord, 2, some .boolean)
theorem m_X6_takeWord : kMdV M_X6_takeWord 1 := ⟨(kTbl_in (kwt_4 _ (List.mem_of_getElem? (i := 111) rfl)) rfl), (kTbl_in (kwt_1 _ (List.mem_of_getElem? (i := 2) rfl)) rfl), ⟨by decide +kernel, by decide +kernel, by decide +kernel⟩, (kTbl_in (kwt_4 _ (List.mem_of_getElem? (i := 109) rfl)) rfl), (kTbl_in (kwt_4 _ (List.mem_of_getElem? (i := 110) rfl)) rfl)⟩
abbrev M_X7_clear : Km := (yX7_clear, cX7_clear, 1, none)
theorem m_X7_clear : kMdV M_X7_clear 0 := ⟨(kTbl_in (kwt_4 _ (List.mem_of_getElem? (i := 180) rfl)) rfl), (kTbl_in (kwt_1 _ (List.mem_of_getElem? (i := 9) rfl)) rfl), ⟨by decide +kernel, by decide +kernel, by decide +kernel⟩, (kTbl_in (kwt_4 _ (List.mem_of_getElem? (i := 178) rfl)) rfl), (kTbl_in (kwt_4 _ (List.mem_of_getElem? (i := 179) rfl)) rfl)⟩
abbrev M_X7_copy : Km := (yX7_copy, cX7_copy, 2, none)
theorem m_X7_copy : kMdV M_X7_copy 1 := ⟨(kTbl_in (kwt_5 _ (List.mem_of_getElem? (i := 12) rfl)) rfl), (kTbl_in (kwt_1 _ (List.mem_of_getElem? (i := 9) rfl)) rfl), ⟨by decide +kernel, by decide +kernel, by decide +kernel⟩, (kTbl_in (kwt_5 _ (List.mem_of_getElem? (i := 10) rfl)) rfl), (kTbl_in (kwt_5 _ (List.mem_of_getElem? (i := 11) rfl)) rfl)⟩
abbrev M_X7_init : Km := (yX7_init, cX7_init, 1, none)
theorem m_X7_init : kMdI M_X7_init 0 := ⟨(kTbl_in (kwt_2 _ (List.mem_of_getElem? (i := 128) rfl)) rfl), (kTbl_in (kwt_1 _ (List.mem_of_getElem? (i := 9) rfl)) rfl), ⟨by decide +kernel, by decide +kernel, by decide +kernel⟩, (kTbl_in (kwt_2 _ (List.mem_of_getElem? (i := 127) rfl)) rfl), rfl, rfl⟩
abbrev M_X7_kindOf : Km := (yX7_kindOf, cX7_kindOf, 2, some .int)
theorem m_X7_kindOf : kMdV M_X7_kindOf 1 := ⟨(kTbl_in (kwt_4 _ (List.mem_of_getElem? (i := 210) rfl)) rfl), (kTbl_in (kwt_1 _ (List.mem_of_getElem? (i := 9) rfl)) rfl), ⟨by decide +kernel, by decide +kernel, by decide +kernel⟩, (kTbl_in (kwt_4 _ (List.mem_of_getElem? (i := 209) rfl)) rfl), (kTbl_in (kwp_2 (yX7_kindOf, 10) (List.mem_of_getElem? (i := 8) rfl)) rfl)⟩
abbrev M_X7_readAll : Km := (yX7_readAll, cX7_readAll, 5, some .boolean)
theorem m_X7_readAll : kMdV M_X7_readAll 2 := ⟨(kTbl_in (kwt_4 _ (List.mem_of_getElem? (i := 192) rfl)) rfl), (kTbl_in (kwt_1 _ (List.mem_of_getElem? (i := 9) rfl)) rfl), ⟨by decide +kernel, by decide +kernel, by decide +kernel⟩, (kTbl_in (kwt_4 _ (List.mem_of_getElem? (i := 190) rfl)) rfl), (kTbl_in (kwt_4 _ (List.mem_of_getElem? (i := 191) rfl)) rfl)⟩
abbrev M_X7_readEnd : Km := (yX7_readEnd, cX7_readEnd, 2, some .boolean)
theorem m_X7_readEnd : kMdV M_X7_readEnd 1 := ⟨(kTbl_in (kwt_4 _ (List.mem_of_getElem? (i := 200) rfl)) rfl), (kTbl_in (kwt_1 _ (List.mem_of_getElem? (i := 9) rfl)) rfl), ⟨by decide +kernel, by decide +kernel, by decide +kernel⟩, (kTbl_in (kwt_4 _ (List.mem_of_getElem? (i := 199) rfl)) rfl), (kTbl_in (kwp_2 (yX7_readEnd, 10) (List.mem_of_getElem? (i := 6) rfl)) rfl)⟩
abbrev M_X7_readKite : Km := (yX7_readKite, cX7_readKite, 3, some .boolean)
theorem m_X7_readKite : kMdV M_X7_readKite 2 := ⟨(kTbl_in (kwt_4 _ (List.mem_of_getElem? (i := 231) rfl)) rfl), (kTbl_in (kwt_1 _ (List.mem_of_getElem? (i := 9) rfl)) rfl), ⟨by decide +kernel, by decide +kernel, by decide +kernel⟩, (kTbl_in (kwt_4 _ (List.mem_of_getElem? (i := 230) rfl)) rfl), (kTbl_in (kwp_2 (yX7_readKite, 10) (List.mem_of_getElem? (i := 11) rfl)) rfl)⟩
abbrev M_X7_readNumber : Km := (yX7_readNumber, cX7_readNumber, 4, some .boolean)
theorem m_X7_readNumber : kMdV M_X7_readNumber 3 := ⟨(kTbl_in (kwt_4 _ (List.mem_of_getElem? (i := 226) rfl)) rfl), (kTbl_in (kwt_1 _ (List.mem_of_getElem? (i := 9) rfl)) rfl), ⟨by decide +kernel, by decide +kernel, by decide +kernel⟩, (kTbl_in (kwt_4 _ (List.mem_of_getElem? (i := 225) rfl)) rfl), (kTbl_in (kwp_2 (yX7_readNumber, 10) (List.mem_of_getElem? (i := 10) rfl)) rfl)⟩
abbrev M_X7_readRest : Km := (yX7_readRest, cX7_readRest, 3, some .boolean)
theorem m_X7_readRest : kMdV M_X7_readRest 2 := ⟨(kTbl_in (kwt_4 _ (List.mem_of_getElem? (i := 222) rfl)) rfl), (kTbl_in (kwt_1 _ (List.mem_of_getElem? (i := 9) rfl)) rfl), ⟨by decide +kernel, by decide +kernel, by decide +kernel⟩, (kTbl_in (kwt_4 _ (List.mem_of_getElem? (i := 221) rfl)) rfl), (kTbl_in (kwp_2 (yX7_readRest, 10) (List.mem_of_getElem? (i := 9) rfl)) rfl)⟩
abbrev M_X7_readStepWord : Km := (yX7_readStepWord, cX7_readStepWord, 3, some .boolean)
theorem m_X7_readStepWord : kMdV M_X7_readStepWord 1 := ⟨(kTbl_in (kwt_4 _ (List.mem_of_getElem? (i := 206) rfl)) rfl), (kTbl_in (kwt_1 _ (List.mem_of_getElem? (i := 9) rfl)) rfl), ⟨by decide +kernel, by decide +kernel, by decide +kernel⟩, (kTbl_in (kwt_4 _ (List.mem_of_getElem? (i := 205) rfl)) rfl), (kTbl_in (kwp_2 (yX7_readStepWord, 10) (List.mem_of_getElem? (i := 7) rfl)) rfl)⟩
abbrev M_X7_readTest : Km := (yX7_readTest, cX7_readTest, 3, some .boolean)
theorem m_X7_readTest : kMdV M_X7_readTest 2 := ⟨(kTbl_in (kwt_5 _ (List.mem_of_getElem? (i := 1) rfl)) rfl), (kTbl_in (kwt_1 _ (List.mem_of_getElem? (i := 9) rfl)) rfl), ⟨by decide +kernel, by decide +kernel, by decide +kernel⟩, (kTbl_in (kwt_5 _ (List.mem_of_getElem? (i := 0) rfl)) rfl), (kTbl_in (kwp_2 (yX7_readTest, 10) (List.mem_of_getElem? (i := 13) rfl)) rfl)⟩
abbrev M_X7_readThing : Km := (yX7_readThing, cX7_readThing, 3, some .boolean)
theorem m_X7_readThing : kMdV M_X7_readThing 2 := ⟨(kTbl_in (kwt_4 _ (List.mem_of_getElem? (i := 237) rfl)) rfl), (kTbl_in (kwt_1 _ (List.mem_of_getElem? (i := 9) rfl)) rfl), ⟨by decide +kernel, by decide +kernel, by decide +kernel⟩, (kTbl_in (kwt_4 _ (List.mem_of_getElem? (i := 236) rfl)) rfl), (kTbl_in (kwp_2 (yX7_readThing, 10) (List.mem_of_getElem? (i := 12) rfl)) rfl)⟩
abbrev M_X8_castShade : Km := (yX8_castShade, cX8_castShade, 2, none)
theorem m_X8_castShade : kMdV M_X8_castShade 0 := ⟨(kTbl_in (kwt_5 _ (List.mem_of_getElem? (i := 56) rfl)) rfl), (kTbl_in (kwt_1 _ (List.mem_of_getElem? (i := 8) rfl)) rfl), ⟨by decide +kernel, by decide +kernel, by decide +kernel⟩, (kTbl_in (kwt_5 _ (List.mem_of_getElem? (i := 54) rfl)) rfl), (kTbl_in (kwt_5 _ (List.mem_of_getElem? (i := 55) rfl)) rfl)⟩
abbrev M_X8_castShadeOf : Km := (yX8_castShadeOf, cX8_castShadeOf, 7, none)
theorem m_X8_castShadeOf : kMdV M_X8_castShadeOf 1 := ⟨(kTbl_in (kwt_5 _ (List.mem_of_getElem? (i := 64) rfl)) rfl), (kTbl_in (kwt_1 _ (List.mem_of_getElem? (i := 8) rfl)) rfl), ⟨by decide +kernel, by decide +kernel, by decide +kernel⟩, (kTbl_in (kwt_5 _ (List.mem_of_getElem? (i := 63) rfl)) rfl), (kTbl_in (kwp_2 (yX8_castShadeOf, 7) (List.mem_of_getElem? (i := 15) rfl)) rfl)⟩
abbrev M_X8_crossedSet : Km := (yX8_crossedSet, cX8_crossedSet, 4, some .int)
theorem m_X8_crossedSet : kMdV M_X8_crossedSet 0 := ⟨(kTbl_in (kwt_5 _ (List.mem_of_getElem? (i := 187) rfl)) rfl), (kTbl_in (kwt_1 _ (List.mem_of_getElem? (i := 8) rfl)) rfl), ⟨by decide +kernel, by decide +kernel, by decide +kernel⟩, (kTbl_in (kwt_5 _ (List.mem_of_getElem? (i := 185) rfl)) rfl), (kTbl_in (kwt_5 _ (List.mem_of_getElem? (i := 186) rfl)) rfl)⟩
abbrev M_X8_disputedFields : Km := (yX8_disputedFields, cX8_disputedFields, 3, some .int)
theorem m_X8_disputedFields : kMdV M_X8_disputedFields 0 := ⟨(kTbl_in (kwt_5 _ (List.mem_of_getElem? (i := 165) rfl)) rfl), (kTbl_in (kwt_1 _ (List.mem_of_getElem? (i := 8) rfl)) rfl), ⟨by decide +kernel, by decide +kernel, by decide +kernel⟩, (kTbl_in (kwt_5 _ (List.mem_of_getElem? (i := 163) rfl)) rfl), (kTbl_in (kwt_5 _ (List.mem_of_getElem? (i := 164) rfl)) rfl)⟩
abbrev M_X8_doCross : Km := (yX8_doCross, cX8_doCross, 14, some .boolean)
theorem m_X8_doCross : kMdV M_X8_doCross 2 := ⟨(kTbl_in (kwt_5 _ (List.mem_of_getElem? (i := 179) rfl)) rfl), (kTbl_in (kwt_1 _ (List.mem_of_getElem? (i := 8) rfl)) rfl), ⟨by decide +kernel, by decide +kernel, by decide +kernel⟩, (kTbl_in (kwt_5 _ (List.mem_of_getElem? (i := 177) rfl)) rfl), (kTbl_in (kwt_5 _ (List.mem_of_getElem? (i := 178) rfl)) rfl)⟩
abbrev M_X8_drop : Km := (yX8_drop, cX8_drop, 2, none)
theorem m_X8_drop : kMdV M_X8_drop 1 := ⟨(kTbl_in (kwt_5 _ (List.mem_of_getElem? (i := 52) rfl)) rfl), (kTbl_in (kwt_1 _ (List.mem_of_getElem? (i := 8) rfl)) rfl), ⟨by decide +kernel, by decide +kernel, by decide +kernel⟩, (kTbl_in (kwt_5 _ (List.mem_of_getElem? (i := 50) rfl)) rfl), (kTbl_in (kwt_5 _ (List.mem_of_getElem? (i := 51) rfl)) rfl)⟩
abbrev M_X8_fieldsOf : Km := (yX8_fieldsOf, cX8_fieldsOf, 4, some .int)
theorem m_X8_fieldsOf : kMdV M_X8_fieldsOf 1 := ⟨(kTbl_in (kwt_5 _ (List.mem_of_getElem? (i := 149) rfl)) rfl), (kTbl_in (kwt_1 _ (List.mem_of_getElem? (i := 8) rfl)) rfl), ⟨by decide +kernel, by decide +kernel, by decide +kernel⟩, (kTbl_in (kwt_5 _ (List.mem_of_getElem? (i := 147) rfl)) rfl), (kTbl_in (kwt_5 _ (List.mem_of_getElem? (i := 148) rfl)) rfl)⟩
abbrev M_X8_init : Km := (yX8_init, cX8_init, 2, none)
theorem m_X8_init : kMdI M_X8_init 1 := ⟨(kTbl_in (kwt_2 _ (List.mem_of_getElem? (i := 97) rfl)) rfl), (kTbl_in (kwt_1 _ (List.mem_of_getElem? (i := 8) rfl)) rfl), ⟨by decide +kernel, by decide +kernel, by decide +kernel⟩, (kTbl_in (kwt_2 _ (List.mem_of_getElem? (i := 96) rfl)) rfl), rfl, rfl⟩
abbrev M_X8_isUp : Km := (yX8_isUp, cX8_isUp, 2, some .boolean)
theorem m_X8_isUp : kMdV M_X8_isUp 1 := ⟨(kTbl_in (kwt_5 _ (List.mem_of_getElem? (i := 60) rfl)) rfl), (kTbl_in (kwt_1 _ (List.mem_of_getElem? (i := 8) rfl)) rfl), ⟨by decide +kernel, by decide +kernel, by decide +kernel⟩, (kTbl_in (kwt_5 _ (List.mem_of_getElem? (i := 58) rfl)) rfl), (kTbl_in (kwt_5 _ (List.mem_of_getElem? (i := 59) rfl)) rfl)⟩
abbrev M_X8_look : Km := (yX8_look, cX8_look, 3, none)
theorem m_X8_look : kMdV M_X8_look 2 := ⟨(kTbl_in (kwt_5 _ (List.mem_of_getElem? (i := 33) rfl)) rfl), (kTbl_in (kwt_1 _ (List.mem_of_getElem? (i := 8) rfl)) rfl), ⟨by decide +kernel, by decide +kernel, by decide +kernel⟩, (kTbl_in (kwt_5 _ (List.mem_of_getElem? (i := 31) rfl)) rfl), (kTbl_in (kwt_5 _ (List.mem_of_getElem? (i := 32) rfl)) rfl)⟩
abbrev M_X8_lookPastCuts : Km := (yX8_lookPastCuts, cX8_lookPastCuts, 3, none)
theorem m_X8_lookPastCuts : kMdV M_X8_lookPastCuts 2 := ⟨(kTbl_in (kwt_6 _ (List.mem_of_getElem? (i := 199) rfl)) rfl), (kTbl_in (kwt_1 _ (List.mem_of_getElem? (i := 8) rfl)) rfl), ⟨by decide +kernel, by decide +kernel, by decide +kernel⟩, (kTbl_in (kwt_6 _ (List.mem_of_getElem? (i := 197) rfl)) rfl), (kTbl_in (kwt_6 _ (List.mem_of_getElem? (i := 198) rfl)) rfl)⟩
abbrev M_X8_nearestOf : Km := (yX8_nearestOf, cX8_nearestOf, 6, some .int)
theorem m_X8_nearestOf : kMdV M_X8_nearestOf 1 := ⟨(kTbl_in (kwt_6 _ (List.mem_of_getElem? (i := 10) rfl)) rfl), (kTbl_in (kwt_1 _ (List.mem_of_getElem? (i := 8) rfl)) rfl), ⟨by decide +kernel, by decide +kernel, by decide +kernel⟩, (kTbl_in (kwt_6 _ (List.mem_of_getElem? (i := 8) rfl)) rfl), (kTbl_in (kwt_6 _ (List.mem_of_getElem? (i := 9) rfl)) rfl)⟩
abbrev M_X8_ownedFields : Km := (yX8_ownedFields, cX8_ownedFields, 3, some .int)
theorem m_X8_ownedFields : kMdV M_X8_ownedFields 0 := ⟨(kTbl_in (kwt_5 _ (List.mem_of_getElem? (i := 157) rfl)) rfl), (kTbl_in (kwt_1 _ (List.mem_of_getElem? (i := 8) rfl)) rfl), ⟨by decide +kernel, by decide +kernel, by decide +kernel⟩, (kTbl_in (kwt_5 _ (List.mem_of_getElem? (i := 155) rfl)) rfl), (kTbl_in (kwt_5 _ (List.mem_of_getElem? (i := 156) rfl)) rfl)⟩
abbrev M_X8_ownerOf : Km := (yX8_ownerOf, cX8_ownerOf, 3, some .int)
theorem m_X8_ownerOf : kMdV M_X8_ownerOf 2 := ⟨(kTbl_in (kwt_5 _ (List.mem_of_getElem? (i := 133) rfl)) rfl), (kTbl_in (kwt_1 _ (List.mem_of_getElem? (i := 8) rfl)) rfl), ⟨by decide +kernel, by decide +kernel, by decide +kernel⟩, (kTbl_in (kwt_5 _ (List.mem_of_getElem? (i := 131) rfl)) rfl), (kTbl_in (kwt_5 _ (List.mem_of_getElem? (i := 132) rfl)) rfl)⟩
abbrev M_X8_ownerWith : Km := (yX8_ownerWith, cX8_ownerWith, 5, some .int)
theorem m_X8_ownerWith : kMdV M_X8_ownerWith 2 := ⟨(kTbl_in (kwt_5 _ (List.mem_of_getElem? (i := 71) rfl)) rfl), (kTbl_in (kwt_1 _ (List.mem_of_getElem? (i := 8) rfl)) rfl), ⟨by decide +kernel, by decide +kernel, by decide +kernel⟩, (kTbl_in (kwt_5 _ (List.mem_of_getElem? (i := 70) rfl)) rfl), (kTbl_in (kwp_3 (yX8_ownerWith, 7) (List.mem_of_getElem? (i := 0) rfl)) rfl)⟩
abbrev M_X8_raise : Km := (yX8_raise, cX8_raise, 10, none)
theorem m_X8_raise : kMdV M_X8_raise 3 := ⟨(kTbl_in (kwt_5 _ (List.mem_of_getElem? (i := 41) rfl)) rfl), (kTbl_in (kwt_1 _ (List.mem_of_getElem? (i := 8) rfl)) rfl), ⟨by decide +kernel, by decide +kernel, by decide +kernel⟩, (kTbl_in (kwt_5 _ (List.mem_of_getElem? (i := 39) rfl)) rfl), (kTbl_in (kwt_5 _ (List.mem_of_getElem? (i := 40) rfl)) rfl)⟩
abbrev M_X8_shadedAloneBy : Km := (yX8_shadedAloneBy, cX8_shadedAloneBy, 4, some .int)
theorem m_X8_shadedAloneBy : kMdV M_X8_shadedAloneBy 1 := ⟨(kTbl_in (kwt_7 _ (List.mem_of_getElem? (i := 9) rfl)) rfl), (kTbl_in (kwt_1 _ (List.mem_of_getElem? (i := 8) rfl)) rfl), ⟨by decide +kernel, by decide +kernel, by decide +kernel⟩, (kTbl_in (kwt_7 _ (List.mem_of_getElem? (i := 7) rfl)) rfl), (kTbl_in (kwt_7 _ (List.mem_of_getElem? (i := 8) rfl)) rfl)⟩
abbrev M_X8_shadersOf : Km := (yX8_shadersOf, cX8_shadersOf, 3, some .int)
theorem m_X8_shadersOf : kMdV M_X8_shadersOf 2 := ⟨(kTbl_in (kwt_5 _ (List.mem_of_getElem? (i := 141) rfl)) rfl), (kTbl_in (kwt_1 _ (List.mem_of_getElem? (i := 8) rfl)) rfl), ⟨by decide +kernel, by decide +kernel, by decide +kernel⟩, (kTbl_in (kwt_5 _ (List.mem_of_getElem? (i := 139) rfl)) rfl), (kTbl_in (kwt_5 _ (List.mem_of_getElem? (i := 140) rfl)) rfl)⟩
abbrev M_X8_shorterOf : Km := (yX8_shorterOf, cX8_shorterOf, 4, some .int)
theorem m_X8_shorterOf : kMdV M_X8_shorterOf 2 := ⟨(kTbl_in (kwt_5 _ (List.mem_of_getElem? (i := 192) rfl)) rfl), (kTbl_in (kwt_1 _ (List.mem_of_getElem? (i := 8) rfl)) rfl), ⟨by decide +kernel, by decide +kernel, by decide +kernel⟩, (kTbl_in (kwt_5 _ (List.mem_of_getElem? (i := 191) rfl)) rfl), (kTbl_in (kwp_3 (yX8_shorterOf, 7) (List.mem_of_getElem? (i := 2) rfl)) rfl)⟩
abbrev M_X9_begin : Km := (yX9_begin, cX9_begin, 6, none)
theorem m_X9_begin : kMdV M_X9_begin 4 := ⟨(kTbl_in (kwt_4 _ (List.mem_of_getElem? (i := 145) rfl)) rfl), (kTbl_in (kwt_1 _ (List.mem_of_getElem? (i := 6) rfl)) rfl), ⟨by decide +kernel, by decide +kernel, by decide +kernel⟩, (kTbl_in (kwt_4 _ (List.mem_of_getElem? (i := 143) rfl)) rfl), (kTbl_in (kwt_4 _ (List.mem_of_getElem? (i := 144) rfl)) rfl)⟩
abbrev M_X9_copy : Km := (yX9_copy, cX9_copy, 2, none)
theorem m_X9_copy : kMdV M_X9_copy 1 := ⟨(kTbl_in (kwt_4 _ (List.mem_of_getElem? (i := 176) rfl)) rfl), (kTbl_in (kwt_1 _ (List.mem_of_getElem? (i := 6) rfl)) rfl), ⟨by decide +kernel, by decide +kernel, by decide +kernel⟩, (kTbl_in (kwt_4 _ (List.mem_of_getElem? (i := 174) rfl)) rfl), (kTbl_in (kwt_4 _ (List.mem_of_getElem? (i := 175) rfl)) rfl)⟩
abbrev M_X9_init : Km := (yX9_init, cX9_init, 1, none)
theorem m_X9_init : kMdI M_X9_init 0 := ⟨(kTbl_in (kwt_1 _ (List.mem_of_getElem? (i := 184) rfl)) rfl), (kTbl_in (kwt_1 _ (List.mem_of_getElem? (i := 6) rfl)) rfl), ⟨by decide +kernel, by decide +kernel, by decide +kernel⟩, (kTbl_in (kwt_1 _ (List.mem_of_getElem? (i := 183) rfl)) rfl), rfl, rfl⟩
abbrev M_X9_stepTowards : Km := (yX9_stepTowards, cX9_stepTowards, 3, none)
theorem m_X9_stepTowards : kMdV M_X9_stepTowards 2 := ⟨(kTbl_in (kwt_6 _ (List.mem_of_getElem? (i := 22) rfl)) rfl), (kTbl_in (kwt_1 _ (List.mem_of_getElem? (i := 6) rfl)) rfl), ⟨by decide +kernel, by decide +kernel, by decide +kernel⟩, (kTbl_in (kwt_6 _ (List.mem_of_getElem? (i := 20) rfl)) rfl), (kTbl_in (kwt_6 _ (List.mem_of_getElem? (i := 21) rfl)) rfl)⟩
abbrev M_X9_stepsTo : Km := (yX9_stepsTo, cX9_stepsTo, 3, some .int)
theorem m_X9_stepsTo : kMdV M_X9_stepsTo 2 := ⟨(kTbl_in (kwt_6 _ (List.mem_of_getElem? (i := 15) rfl)) rfl), (kTbl_in (kwt_1 _ (List.mem_of_getElem? (i := 6) rfl)) rfl), ⟨by decide +kernel, by decide +kernel, by decide +kernel⟩, (kTbl_in (kwt_6 _ (List.mem_of_getElem? (i := 13) rfl)) rfl), (kTbl_in (kwt_6 _ (List.mem_of_getElem? (i := 14) rfl)) rfl)⟩
theorem l_J0_335 : Cond.methodLink RJ0 335 yJ0_coder_7d493 ∈ kTbl := (kTbl_in (kwt_4 _ (List.mem_of_getElem? (i := 5) rfl)) rfl)
theorem l_J0_492 : Cond.methodLink RJ0 492 yJ0_isLatin1_aae02 ∈ kTbl := (kTbl_in (kwt_4 _ (List.mem_of_getElem? (i := 15) rfl)) rfl)
theorem l_J0_495 : Cond.methodLink RJ0 495 yJ1_charAt_3b067 ∈ kTbl := (kTbl_in (kwt_4 _ (List.mem_of_getElem? (i := 19) rfl)) rfl)
theorem l_J0_1059 : Cond.methodLink RJ0 1059 yJ3_checkIndex_8e157 ∈ kTbl := (kTbl_in (kwt_4 _ (List.mem_of_getElem? (i := 27) rfl)) rfl)
theorem l_J1_9 : Cond.methodLink RJ1 9 yJ0_checkIndex_df160 ∈ kTbl := (kTbl_in (kwt_4 _ (List.mem_of_getElem? (i := 22) rfl)) rfl)
theorem l_J2_414 : Cond.methodLink RJ2 414 yJ0_checkIndex_df160 ∈ kTbl := (kTbl_in (kwt_4 _ (List.mem_of_getElem? (i := 39) rfl)) rfl)
theorem l_L_9 : Cond.methodLink RL 9 yX11_init ∈ kTbl := (kTbl_in (kwt_1 _ (List.mem_of_getElem? (i := 23) rfl)) rfl)
theorem l_L_12 : Cond.methodLink RL 12 yX12_init ∈ kTbl := (kTbl_in (kwt_7 _ (List.mem_of_getElem? (i := 84) rfl)) rfl)
theorem l_L_13 : Cond.methodLink RL 13 yX11_status ∈ kTbl := (kTbl_in (kwt_3 _ (List.mem_of_getElem? (i := 126) rfl)) rfl)
theorem l_L_17 : Cond.methodLink RL 17 yX12_status ∈ kTbl := (kTbl_in (kwt_7 _ (List.mem_of_getElem? (i := 219) rfl)) rfl)
theorem l_L_18 : Cond.methodLink RL 18 yX11_top ∈ kTbl := (kTbl_in (kwt_3 _ (List.mem_of_getElem? (i := 130) rfl)) rfl)
theorem l_L_22 : Cond.methodLink RL 22 yX12_top ∈ kTbl := (kTbl_in (kwt_7 _ (List.mem_of_getElem? (i := 223) rfl)) rfl)
theorem l_L_23 : Cond.methodLink RL 23 yX11_bottom ∈ kTbl := (kTbl_in (kwt_3 _ (List.mem_of_getElem? (i := 134) rfl)) rfl)
theorem l_L_26 : Cond.methodLink RL 26 yX12_bottom ∈ kTbl := (kTbl_in (kwt_7 _ (List.mem_of_getElem? (i := 227) rfl)) rfl)
theorem l_L_27 : Cond.methodLink RL 27 yX11_tray ∈ kTbl := (kTbl_in (kwt_3 _ (List.mem_of_getElem? (i := 138) rfl)) rfl)
theorem l_L_31 : Cond.methodLink RL 31 yX12_tray ∈ kTbl := (kTbl_in (kwt_7 _ (List.mem_of_getElem? (i := 231) rfl)) rfl)
theorem l_L_34 : Cond.methodLink RL 34 yX11_write ∈ kTbl := (kTbl_in (kwt_3 _ (List.mem_of_getElem? (i := 158) rfl)) rfl)
theorem l_L_38 : Cond.methodLink RL 38 yX12_write ∈ kTbl := (kTbl_in (kwt_8 _ (List.mem_of_getElem? (i := 2) rfl)) rfl)
theorem l_L_39 : Cond.methodLink RL 39 yX11_read ∈ kTbl := (kTbl_in (kwt_3 _ (List.mem_of_getElem? (i := 170) rfl)) rfl)
theorem l_L_43 : Cond.methodLink RL 43 yX12_read ∈ kTbl := (kTbl_in (kwt_8 _ (List.mem_of_getElem? (i := 13) rfl)) rfl)
theorem l_L_44 : Cond.methodLink RL 44 yX11_pour ∈ kTbl := (kTbl_in (kwt_3 _ (List.mem_of_getElem? (i := 178) rfl)) rfl)
theorem l_L_48 : Cond.methodLink RL 48 yX12_pour ∈ kTbl := (kTbl_in (kwt_8 _ (List.mem_of_getElem? (i := 18) rfl)) rfl)
theorem l_L_49 : Cond.methodLink RL 49 yX11_feed ∈ kTbl := (kTbl_in (kwt_3 _ (List.mem_of_getElem? (i := 185) rfl)) rfl)
theorem l_L_53 : Cond.methodLink RL 53 yX12_feed ∈ kTbl := (kTbl_in (kwt_8 _ (List.mem_of_getElem? (i := 22) rfl)) rfl)
theorem l_L_54 : Cond.methodLink RL 54 yX11_county ∈ kTbl := (kTbl_in (kwt_3 _ (List.mem_of_getElem? (i := 193) rfl)) rfl)
theorem l_L_58 : Cond.methodLink RL 58 yX12_county ∈ kTbl := (kTbl_in (kwt_8 _ (List.mem_of_getElem? (i := 34) rfl)) rfl)
theorem l_L_59 : Cond.methodLink RL 59 yX11_seasons ∈ kTbl := (kTbl_in (kwt_4 _ (List.mem_of_getElem? (i := 185) rfl)) rfl)
theorem l_L_62 : Cond.methodLink RL 62 yX12_seasons ∈ kTbl := (kTbl_in (kwt_8 _ (List.mem_of_getElem? (i := 149) rfl)) rfl)
theorem l_L_63 : Cond.methodLink RL 63 yX11_fault ∈ kTbl := (kTbl_in (kwt_5 _ (List.mem_of_getElem? (i := 14) rfl)) rfl)
theorem l_L_66 : Cond.methodLink RL 66 yX12_fault ∈ kTbl := (kTbl_in (kwt_8 _ (List.mem_of_getElem? (i := 30) rfl)) rfl)
theorem l_L_67 : Cond.methodLink RL 67 yX11_told ∈ kTbl := (kTbl_in (kwt_5 _ (List.mem_of_getElem? (i := 18) rfl)) rfl)
theorem l_L_70 : Cond.methodLink RL 70 yX12_told ∈ kTbl := (kTbl_in (kwt_8 _ (List.mem_of_getElem? (i := 169) rfl)) rfl)
theorem l_L_71 : Cond.methodLink RL 71 yX11_wind ∈ kTbl := (kTbl_in (kwt_5 _ (List.mem_of_getElem? (i := 81) rfl)) rfl)
theorem l_L_75 : Cond.methodLink RL 75 yX12_wind ∈ kTbl := (kTbl_in (kwt_8 _ (List.mem_of_getElem? (i := 207) rfl)) rfl)
theorem l_L_76 : Cond.methodLink RL 76 yX11_kite ∈ kTbl := (kTbl_in (kwt_5 _ (List.mem_of_getElem? (i := 89) rfl)) rfl)
theorem l_L_79 : Cond.methodLink RL 79 yX12_kite ∈ kTbl := (kTbl_in (kwt_8 _ (List.mem_of_getElem? (i := 214) rfl)) rfl)
theorem l_L_80 : Cond.methodLink RL 80 yX11_crop ∈ kTbl := (kTbl_in (kwt_5 _ (List.mem_of_getElem? (i := 97) rfl)) rfl)
theorem l_L_83 : Cond.methodLink RL 83 yX12_crop ∈ kTbl := (kTbl_in (kwt_8 _ (List.mem_of_getElem? (i := 222) rfl)) rfl)
theorem l_L_84 : Cond.methodLink RL 84 yX11_tenant ∈ kTbl := (kTbl_in (kwt_5 _ (List.mem_of_getElem? (i := 105) rfl)) rfl)
theorem l_L_87 : Cond.methodLink RL 87 yX12_tenant ∈ kTbl := (kTbl_in (kwt_8 _ (List.mem_of_getElem? (i := 230) rfl)) rfl)
theorem l_L_88 : Cond.methodLink RL 88 yX11_stands ∈ kTbl := (kTbl_in (kwt_5 _ (List.mem_of_getElem? (i := 113) rfl)) rfl)
theorem l_L_92 : Cond.methodLink RL 92 yX12_stands ∈ kTbl := (kTbl_in (kwt_9 _ (List.mem_of_getElem? (i := 1) rfl)) rfl)
theorem l_L_93 : Cond.methodLink RL 93 yX11_owner ∈ kTbl := (kTbl_in (kwt_5 _ (List.mem_of_getElem? (i := 118) rfl)) rfl)
theorem l_L_96 : Cond.methodLink RL 96 yX12_owner ∈ kTbl := (kTbl_in (kwt_9 _ (List.mem_of_getElem? (i := 21) rfl)) rfl)
theorem l_L_97 : Cond.methodLink RL 97 yX11_shaders ∈ kTbl := (kTbl_in (kwt_5 _ (List.mem_of_getElem? (i := 134) rfl)) rfl)
theorem l_L_100 : Cond.methodLink RL 100 yX12_shaders ∈ kTbl := (kTbl_in (kwt_9 _ (List.mem_of_getElem? (i := 58) rfl)) rfl)
theorem l_L_101 : Cond.methodLink RL 101 yX11_estate ∈ kTbl := (kTbl_in (kwt_5 _ (List.mem_of_getElem? (i := 142) rfl)) rfl)
theorem l_L_104 : Cond.methodLink RL 104 yX12_estate ∈ kTbl := (kTbl_in (kwt_9 _ (List.mem_of_getElem? (i := 62) rfl)) rfl)
theorem l_L_105 : Cond.methodLink RL 105 yX11_nobodys ∈ kTbl := (kTbl_in (kwt_5 _ (List.mem_of_getElem? (i := 150) rfl)) rfl)
theorem l_L_108 : Cond.methodLink RL 108 yX12_nobodys ∈ kTbl := (kTbl_in (kwt_9 _ (List.mem_of_getElem? (i := 70) rfl)) rfl)
theorem l_L_109 : Cond.methodLink RL 109 yX11_disputed ∈ kTbl := (kTbl_in (kwt_5 _ (List.mem_of_getElem? (i := 158) rfl)) rfl)
theorem l_L_112 : Cond.methodLink RL 112 yX12_disputed ∈ kTbl := (kTbl_in (kwt_9 _ (List.mem_of_getElem? (i := 74) rfl)) rfl)
theorem l_L_113 : Cond.methodLink RL 113 yX11_crosses ∈ kTbl := (kTbl_in (kwt_5 _ (List.mem_of_getElem? (i := 172) rfl)) rfl)
theorem l_L_116 : Cond.methodLink RL 116 yX12_crosses ∈ kTbl := (kTbl_in (kwt_9 _ (List.mem_of_getElem? (i := 78) rfl)) rfl)
theorem l_L_117 : Cond.methodLink RL 117 yX11_doomed ∈ kTbl := (kTbl_in (kwt_5 _ (List.mem_of_getElem? (i := 180) rfl)) rfl)
theorem l_L_120 : Cond.methodLink RL 120 yX12_doomed ∈ kTbl := (kTbl_in (kwt_9 _ (List.mem_of_getElem? (i := 97) rfl)) rfl)
theorem l_L_121 : Cond.methodLink RL 121 yX11_lulls ∈ kTbl := (kTbl_in (kwt_5 _ (List.mem_of_getElem? (i := 193) rfl)) rfl)
theorem l_L_124 : Cond.methodLink RL 124 yX12_lulls ∈ kTbl := (kTbl_in (kwt_9 _ (List.mem_of_getElem? (i := 105) rfl)) rfl)
theorem l_L_125 : Cond.methodLink RL 125 yX11_busiest ∈ kTbl := (kTbl_in (kwt_5 _ (List.mem_of_getElem? (i := 197) rfl)) rfl)
theorem l_L_128 : Cond.methodLink RL 128 yX12_busiest ∈ kTbl := (kTbl_in (kwt_9 _ (List.mem_of_getElem? (i := 109) rfl)) rfl)
theorem l_L_129 : Cond.methodLink RL 129 yX11_greatest ∈ kTbl := (kTbl_in (kwt_5 _ (List.mem_of_getElem? (i := 202) rfl)) rfl)
theorem l_L_132 : Cond.methodLink RL 132 yX12_greatest ∈ kTbl := (kTbl_in (kwt_9 _ (List.mem_of_getElem? (i := 117) rfl)) rfl)
theorem l_L_133 : Cond.methodLink RL 133 yX11_hour ∈ kTbl := (kTbl_in (kwt_5 _ (List.mem_of_getElem? (i := 206) rfl)) rfl)
theorem l_L_136 : Cond.methodLink RL 136 yX12_hour ∈ kTbl := (kTbl_in (kwt_9 _ (List.mem_of_getElem? (i := 121) rfl)) rfl)
theorem l_L_137 : Cond.methodLink RL 137 yX11_walk ∈ kTbl := (kTbl_in (kwt_6 _ (List.mem_of_getElem? (i := 23) rfl)) rfl)
theorem l_L_140 : Cond.methodLink RL 140 yX12_walk ∈ kTbl := (kTbl_in (kwt_9 _ (List.mem_of_getElem? (i := 154) rfl)) rfl)
theorem l_L_141 : Cond.methodLink RL 141 yX11_cut ∈ kTbl := (kTbl_in (kwt_6 _ (List.mem_of_getElem? (i := 44) rfl)) rfl)
theorem l_L_145 : Cond.methodLink RL 145 yX12_cut ∈ kTbl := (kTbl_in (kwt_9 _ (List.mem_of_getElem? (i := 163) rfl)) rfl)
theorem l_L_146 : Cond.methodLink RL 146 yX11_sell ∈ kTbl := (kTbl_in (kwt_6 _ (List.mem_of_getElem? (i := 48) rfl)) rfl)
theorem l_L_149 : Cond.methodLink RL 149 yX12_sell ∈ kTbl := (kTbl_in (kwt_9 _ (List.mem_of_getElem? (i := 171) rfl)) rfl)
theorem l_L_150 : Cond.methodLink RL 150 yX11_blow ∈ kTbl := (kTbl_in (kwt_6 _ (List.mem_of_getElem? (i := 52) rfl)) rfl)
theorem l_L_153 : Cond.methodLink RL 153 yX12_blow ∈ kTbl := (kTbl_in (kwt_9 _ (List.mem_of_getElem? (i := 177) rfl)) rfl)
theorem l_L_154 : Cond.methodLink RL 154 yX11_rule ∈ kTbl := (kTbl_in (kwt_6 _ (List.mem_of_getElem? (i := 56) rfl)) rfl)
theorem l_L_158 : Cond.methodLink RL 158 yX12_rule ∈ kTbl := (kTbl_in (kwt_9 _ (List.mem_of_getElem? (i := 183) rfl)) rfl)
theorem l_L_159 : Cond.methodLink RL 159 yX11_lease ∈ kTbl := (kTbl_in (kwt_6 _ (List.mem_of_getElem? (i := 60) rfl)) rfl)
theorem l_L_163 : Cond.methodLink RL 163 yX12_lease ∈ kTbl := (kTbl_in (kwt_9 _ (List.mem_of_getElem? (i := 188) rfl)) rfl)
theorem l_L_164 : Cond.methodLink RL 164 yX11_reap ∈ kTbl := (kTbl_in (kwt_6 _ (List.mem_of_getElem? (i := 64) rfl)) rfl)
theorem l_L_167 : Cond.methodLink RL 167 yX12_reap ∈ kTbl := (kTbl_in (kwt_9 _ (List.mem_of_getElem? (i := 192) rfl)) rfl)
theorem l_L_168 : Cond.methodLink RL 168 yX11_ripe ∈ kTbl := (kTbl_in (kwt_6 _ (List.mem_of_getElem? (i := 70) rfl)) rfl)
theorem l_L_171 : Cond.methodLink RL 171 yX12_ripe ∈ kTbl := (kTbl_in (kwt_9 _ (List.mem_of_getElem? (i := 196) rfl)) rfl)
theorem l_L_172 : Cond.methodLink RL 172 yX11_leaseOf ∈ kTbl := (kTbl_in (kwt_6 _ (List.mem_of_getElem? (i := 76) rfl)) rfl)
theorem l_L_176 : Cond.methodLink RL 176 yX12_leaseOf ∈ kTbl := (kTbl_in (kwt_9 _ (List.mem_of_getElem? (i := 216) rfl)) rfl)
theorem l_L_177 : Cond.methodLink RL 177 yX11_plant ∈ kTbl := (kTbl_in (kwt_6 _ (List.mem_of_getElem? (i := 84) rfl)) rfl)
theorem l_L_180 : Cond.methodLink RL 180 yX12_plant ∈ kTbl := (kTbl_in (kwt_9 _ (List.mem_of_getElem? (i := 227) rfl)) rfl)
theorem l_L_181 : Cond.methodLink RL 181 yX11_planted ∈ kTbl := (kTbl_in (kwt_6 _ (List.mem_of_getElem? (i := 98) rfl)) rfl)
theorem l_L_184 : Cond.methodLink RL 184 yX12_planted ∈ kTbl := (kTbl_in (kwt_9 _ (List.mem_of_getElem? (i := 235) rfl)) rfl)
theorem l_L_185 : Cond.methodLink RL 185 yX11_purseIn ∈ kTbl := (kTbl_in (kwt_6 _ (List.mem_of_getElem? (i := 102) rfl)) rfl)
theorem l_L_188 : Cond.methodLink RL 188 yX12_purseIn ∈ kTbl := (kTbl_in (kwt_9 _ (List.mem_of_getElem? (i := 239) rfl)) rfl)
theorem l_L_189 : Cond.methodLink RL 189 yX11_tenantIn ∈ kTbl := (kTbl_in (kwt_6 _ (List.mem_of_getElem? (i := 110) rfl)) rfl)
theorem l_L_192 : Cond.methodLink RL 192 yX12_tenantIn ∈ kTbl := (kTbl_in (kwt_10 _ (List.mem_of_getElem? (i := 7) rfl)) rfl)
theorem l_L_193 : Cond.methodLink RL 193 yX11_cutIn ∈ kTbl := (kTbl_in (kwt_6 _ (List.mem_of_getElem? (i := 114) rfl)) rfl)
theorem l_L_196 : Cond.methodLink RL 196 yX12_cutIn ∈ kTbl := (kTbl_in (kwt_9 _ (List.mem_of_getElem? (i := 212) rfl)) rfl)
theorem l_L_197 : Cond.methodLink RL 197 yX11_fly ∈ kTbl := (kTbl_in (kwt_6 _ (List.mem_of_getElem? (i := 118) rfl)) rfl)
theorem l_L_200 : Cond.methodLink RL 200 yX12_fly ∈ kTbl := (kTbl_in (kwt_10 _ (List.mem_of_getElem? (i := 11) rfl)) rfl)
theorem l_L_201 : Cond.methodLink RL 201 yX11_flyAt ∈ kTbl := (kTbl_in (kwt_6 _ (List.mem_of_getElem? (i := 135) rfl)) rfl)
theorem l_L_204 : Cond.methodLink RL 204 yX12_flyAt ∈ kTbl := (kTbl_in (kwt_10 _ (List.mem_of_getElem? (i := 20) rfl)) rfl)
theorem l_L_205 : Cond.methodLink RL 205 yX11_cover ∈ kTbl := (kTbl_in (kwt_6 _ (List.mem_of_getElem? (i := 139) rfl)) rfl)
theorem l_L_208 : Cond.methodLink RL 208 yX12_cover ∈ kTbl := (kTbl_in (kwt_10 _ (List.mem_of_getElem? (i := 24) rfl)) rfl)
theorem l_L_209 : Cond.methodLink RL 209 yX11_coverSet ∈ kTbl := (kTbl_in (kwt_6 _ (List.mem_of_getElem? (i := 163) rfl)) rfl)
theorem l_L_212 : Cond.methodLink RL 212 yX12_coverSet ∈ kTbl := (kTbl_in (kwt_10 _ (List.mem_of_getElem? (i := 38) rfl)) rfl)
theorem l_L_213 : Cond.methodLink RL 213 yX11_settle ∈ kTbl := (kTbl_in (kwt_6 _ (List.mem_of_getElem? (i := 167) rfl)) rfl)
theorem l_L_216 : Cond.methodLink RL 216 yX12_settle ∈ kTbl := (kTbl_in (kwt_10 _ (List.mem_of_getElem? (i := 42) rfl)) rfl)
theorem l_L_217 : Cond.methodLink RL 217 yX11_strip ∈ kTbl := (kTbl_in (kwt_6 _ (List.mem_of_getElem? (i := 183) rfl)) rfl)
theorem l_L_220 : Cond.methodLink RL 220 yX12_strip ∈ kTbl := (kTbl_in (kwt_10 _ (List.mem_of_getElem? (i := 58) rfl)) rfl)
theorem l_L_221 : Cond.methodLink RL 221 yX11_suspects ∈ kTbl := (kTbl_in (kwt_6 _ (List.mem_of_getElem? (i := 200) rfl)) rfl)
theorem l_L_224 : Cond.methodLink RL 224 yX12_suspects ∈ kTbl := (kTbl_in (kwt_10 _ (List.mem_of_getElem? (i := 74) rfl)) rfl)
theorem l_L_225 : Cond.methodLink RL 225 yX11_telling ∈ kTbl := (kTbl_in (kwt_6 _ (List.mem_of_getElem? (i := 208) rfl)) rfl)
theorem l_L_228 : Cond.methodLink RL 228 yX12_telling ∈ kTbl := (kTbl_in (kwt_10 _ (List.mem_of_getElem? (i := 78) rfl)) rfl)
theorem l_L_229 : Cond.methodLink RL 229 yX11_strips ∈ kTbl := (kTbl_in (kwt_6 _ (List.mem_of_getElem? (i := 221) rfl)) rfl)
theorem l_L_232 : Cond.methodLink RL 232 yX12_strips ∈ kTbl := (kTbl_in (kwt_10 _ (List.mem_of_getElem? (i := 86) rfl)) rfl)
theorem l_L_233 : Cond.methodLink RL 233 yX11_duel ∈ kTbl := (kTbl_in (kwt_6 _ (List.mem_of_getElem? (i := 225) rfl)) rfl)
theorem l_L_236 : Cond.methodLink RL 236 yX12_duel ∈ kTbl := (kTbl_in (kwt_10 _ (List.mem_of_getElem? (i := 90) rfl)) rfl)
theorem l_L_237 : Cond.methodLink RL 237 yX11_duelStep ∈ kTbl := (kTbl_in (kwt_6 _ (List.mem_of_getElem? (i := 238) rfl)) rfl)
theorem l_L_240 : Cond.methodLink RL 240 yX12_duelStep ∈ kTbl := (kTbl_in (kwt_10 _ (List.mem_of_getElem? (i := 103) rfl)) rfl)
theorem l_L_241 : Cond.methodLink RL 241 yX11_needed ∈ kTbl := (kTbl_in (kwt_7 _ (List.mem_of_getElem? (i := 2) rfl)) rfl)
theorem l_L_244 : Cond.methodLink RL 244 yX12_needed ∈ kTbl := (kTbl_in (kwt_10 _ (List.mem_of_getElem? (i := 107) rfl)) rfl)
theorem l_L_245 : Cond.methodLink RL 245 yX11_share ∈ kTbl := (kTbl_in (kwt_7 _ (List.mem_of_getElem? (i := 10) rfl)) rfl)
theorem l_L_248 : Cond.methodLink RL 248 yX12_share ∈ kTbl := (kTbl_in (kwt_10 _ (List.mem_of_getElem? (i := 115) rfl)) rfl)
theorem l_L_249 : Cond.methodLink RL 249 yX11_shaded ∈ kTbl := (kTbl_in (kwt_7 _ (List.mem_of_getElem? (i := 18) rfl)) rfl)
theorem l_L_253 : Cond.methodLink RL 253 yX12_shaded ∈ kTbl := (kTbl_in (kwt_10 _ (List.mem_of_getElem? (i := 123) rfl)) rfl)
theorem l_L_254 : Cond.methodLink RL 254 yX11_live ∈ kTbl := (kTbl_in (kwt_7 _ (List.mem_of_getElem? (i := 23) rfl)) rfl)
theorem l_L_257 : Cond.methodLink RL 257 yX12_live ∈ kTbl := (kTbl_in (kwt_10 _ (List.mem_of_getElem? (i := 128) rfl)) rfl)
theorem l_L_258 : Cond.methodLink RL 258 yX11_lived ∈ kTbl := (kTbl_in (kwt_7 _ (List.mem_of_getElem? (i := 66) rfl)) rfl)
theorem l_L_261 : Cond.methodLink RL 261 yX12_lived ∈ kTbl := (kTbl_in (kwt_10 _ (List.mem_of_getElem? (i := 162) rfl)) rfl)
theorem l_L_262 : Cond.methodLink RL 262 yX11_mean ∈ kTbl := (kTbl_in (kwt_7 _ (List.mem_of_getElem? (i := 70) rfl)) rfl)
theorem l_L_265 : Cond.methodLink RL 265 yX12_mean ∈ kTbl := (kTbl_in (kwt_10 _ (List.mem_of_getElem? (i := 166) rfl)) rfl)
theorem l_L_266 : Cond.methodLink RL 266 yX11_mark ∈ kTbl := (kTbl_in (kwt_7 _ (List.mem_of_getElem? (i := 74) rfl)) rfl)
theorem l_L_269 : Cond.methodLink RL 269 yX12_mark ∈ kTbl := (kTbl_in (kwt_10 _ (List.mem_of_getElem? (i := 170) rfl)) rfl)
theorem l_L_270 : Cond.methodLink RL 270 yX11_undo ∈ kTbl := (kTbl_in (kwt_7 _ (List.mem_of_getElem? (i := 78) rfl)) rfl)
theorem l_L_273 : Cond.methodLink RL 273 yX12_undo ∈ kTbl := (kTbl_in (kwt_10 _ (List.mem_of_getElem? (i := 178) rfl)) rfl)
theorem l_X0_64 : Cond.methodLink RX0 64 yX0_clear ∈ kTbl := (kTbl_in (kwt_1 _ (List.mem_of_getElem? (i := 218) rfl)) rfl)
theorem l_X0_73 : Cond.methodLink RX0 73 yX3_copy ∈ kTbl := (kTbl_in (kwt_4 _ (List.mem_of_getElem? (i := 165) rfl)) rfl)
theorem l_X0_77 : Cond.methodLink RX0 77 yX2_copy ∈ kTbl := (kTbl_in (kwt_4 _ (List.mem_of_getElem? (i := 169) rfl)) rfl)
theorem l_X0_80 : Cond.methodLink RX0 80 yX9_copy ∈ kTbl := (kTbl_in (kwt_4 _ (List.mem_of_getElem? (i := 173) rfl)) rfl)
theorem l_X0_83 : Cond.methodLink RX0 83 yX0_hasRow ∈ kTbl := (kTbl_in (kwt_5 _ (List.mem_of_getElem? (i := 126) rfl)) rfl)
theorem l_X0_89 : Cond.methodLink RX0 89 yX0_hasField ∈ kTbl := (kTbl_in (kwt_6 _ (List.mem_of_getElem? (i := 35) rfl)) rfl)
theorem l_X0_97 : Cond.methodLink RX0 97 yX0_kiteNamed ∈ kTbl := (kTbl_in (kwt_4 _ (List.mem_of_getElem? (i := 95) rfl)) rfl)
theorem l_X0_101 : Cond.methodLink RX0 101 yX0_cropNamed ∈ kTbl := (kTbl_in (kwt_4 _ (List.mem_of_getElem? (i := 99) rfl)) rfl)
theorem l_X0_110 : Cond.methodLink RX0 110 yX2_isRipe ∈ kTbl := (kTbl_in (kwt_5 _ (List.mem_of_getElem? (i := 77) rfl)) rfl)
theorem l_X0_129 : Cond.methodLink RX0 129 yX0_loseCrossed ∈ kTbl := (kTbl_in (kwt_5 _ (List.mem_of_getElem? (i := 214) rfl)) rfl)
theorem l_X0_133 : Cond.methodLink RX0 133 yX0_growCrops ∈ kTbl := (kTbl_in (kwt_5 _ (List.mem_of_getElem? (i := 228) rfl)) rfl)
theorem l_X0_137 : Cond.methodLink RX0 137 yX0_follow ∈ kTbl := (kTbl_in (kwt_6 _ (List.mem_of_getElem? (i := 3) rfl)) rfl)
theorem l_X0_141 : Cond.methodLink RX0 141 yX0_hourOfDay ∈ kTbl := (kTbl_in (kwt_5 _ (List.mem_of_getElem? (i := 218) rfl)) rfl)
theorem l_X0_145 : Cond.methodLink RX0 145 yX0_cutSet ∈ kTbl := (kTbl_in (kwt_5 _ (List.mem_of_getElem? (i := 219) rfl)) rfl)
theorem l_X0_148 : Cond.methodLink RX0 148 yX8_raise ∈ kTbl := (kTbl_in (kwt_5 _ (List.mem_of_getElem? (i := 220) rfl)) rfl)
theorem l_X0_154 : Cond.methodLink RX0 154 yX8_crossedSet ∈ kTbl := (kTbl_in (kwt_5 _ (List.mem_of_getElem? (i := 221) rfl)) rfl)
theorem l_X0_157 : Cond.methodLink RX0 157 yX0_putCutSet ∈ kTbl := (kTbl_in (kwt_5 _ (List.mem_of_getElem? (i := 222) rfl)) rfl)
theorem l_X0_161 : Cond.methodLink RX0 161 yX8_drop ∈ kTbl := (kTbl_in (kwt_5 _ (List.mem_of_getElem? (i := 226) rfl)) rfl)
theorem l_X0_164 : Cond.methodLink RX0 164 yX8_castShade ∈ kTbl := (kTbl_in (kwt_5 _ (List.mem_of_getElem? (i := 227) rfl)) rfl)
theorem l_X0_169 : Cond.methodLink RX0 169 yX8_ownerOf ∈ kTbl := (kTbl_in (kwt_5 _ (List.mem_of_getElem? (i := 232) rfl)) rfl)
theorem l_X0_173 : Cond.methodLink RX0 173 yX2_grow ∈ kTbl := (kTbl_in (kwt_5 _ (List.mem_of_getElem? (i := 233) rfl)) rfl)
theorem l_X0_176 : Cond.methodLink RX0 176 yX3_earn ∈ kTbl := (kTbl_in (kwt_5 _ (List.mem_of_getElem? (i := 238) rfl)) rfl)
theorem l_X0_187 : Cond.methodLink RX0 187 yX8_nearestOf ∈ kTbl := (kTbl_in (kwt_6 _ (List.mem_of_getElem? (i := 7) rfl)) rfl)
theorem l_X0_194 : Cond.methodLink RX0 194 yX9_stepTowards ∈ kTbl := (kTbl_in (kwt_6 _ (List.mem_of_getElem? (i := 19) rfl)) rfl)
theorem l_X1_37 : Cond.methodLink RX1 37 yX0_clear ∈ kTbl := (kTbl_in (kwt_3 _ (List.mem_of_getElem? (i := 223) rfl)) rfl)
theorem l_X1_42 : Cond.methodLink RX1 42 yX6_isAtEnd ∈ kTbl := (kTbl_in (kwt_3 _ (List.mem_of_getElem? (i := 224) rfl)) rfl)
theorem l_X1_48 : Cond.methodLink RX1 48 yX0_hasLand ∈ kTbl := (kTbl_in (kwt_3 _ (List.mem_of_getElem? (i := 228) rfl)) rfl)
theorem l_X1_51 : Cond.methodLink RX1 51 yX1_readPart ∈ kTbl := (kTbl_in (kwt_3 _ (List.mem_of_getElem? (i := 232) rfl)) rfl)
theorem l_X1_54 : Cond.methodLink RX1 54 yX1_readLand ∈ kTbl := (kTbl_in (kwt_4 _ (List.mem_of_getElem? (i := 147) rfl)) rfl)
theorem l_X1_57 : Cond.methodLink RX1 57 yX6_takeSign ∈ kTbl := (kTbl_in (kwt_4 _ (List.mem_of_getElem? (i := 152) rfl)) rfl)
theorem l_X1_63 : Cond.methodLink RX1 63 yX6_isWord ∈ kTbl := (kTbl_in (kwt_3 _ (List.mem_of_getElem? (i := 237) rfl)) rfl)
theorem l_X1_67 : Cond.methodLink RX1 67 yX1_readWind ∈ kTbl := (kTbl_in (kwt_4 _ (List.mem_of_getElem? (i := 49) rfl)) rfl)
theorem l_X1_72 : Cond.methodLink RX1 72 yX1_readNoon ∈ kTbl := (kTbl_in (kwt_4 _ (List.mem_of_getElem? (i := 63) rfl)) rfl)
theorem l_X1_77 : Cond.methodLink RX1 77 yX1_readLaw ∈ kTbl := (kTbl_in (kwt_4 _ (List.mem_of_getElem? (i := 69) rfl)) rfl)
theorem l_X1_82 : Cond.methodLink RX1 82 yX1_readKite ∈ kTbl := (kTbl_in (kwt_4 _ (List.mem_of_getElem? (i := 74) rfl)) rfl)
theorem l_X1_87 : Cond.methodLink RX1 87 yX1_readCrop ∈ kTbl := (kTbl_in (kwt_4 _ (List.mem_of_getElem? (i := 126) rfl)) rfl)
theorem l_X1_92 : Cond.methodLink RX1 92 yX1_readTenant ∈ kTbl := (kTbl_in (kwt_4 _ (List.mem_of_getElem? (i := 136) rfl)) rfl)
theorem l_X1_97 : Cond.methodLink RX1 97 yX6_fail ∈ kTbl := (kTbl_in (kwt_4 _ (List.mem_of_getElem? (i := 67) rfl)) rfl)
theorem l_X1_101 : Cond.methodLink RX1 101 yX6_takeWord ∈ kTbl := (kTbl_in (kwt_4 _ (List.mem_of_getElem? (i := 108) rfl)) rfl)
theorem l_X1_104 : Cond.methodLink RX1 104 yX6_takeNumber ∈ kTbl := (kTbl_in (kwt_4 _ (List.mem_of_getElem? (i := 54) rfl)) rfl)
theorem l_X1_119 : Cond.methodLink RX1 119 yX6_next ∈ kTbl := (kTbl_in (kwt_4 _ (List.mem_of_getElem? (i := 53) rfl)) rfl)
theorem l_X1_136 : Cond.methodLink RX1 136 yX1_readNewName ∈ kTbl := (kTbl_in (kwt_4 _ (List.mem_of_getElem? (i := 78) rfl)) rfl)
theorem l_X1_139 : Cond.methodLink RX1 139 yX1_readField ∈ kTbl := (kTbl_in (kwt_4 _ (List.mem_of_getElem? (i := 103) rfl)) rfl)
theorem l_X1_146 : Cond.methodLink RX1 146 yX3_begin ∈ kTbl := (kTbl_in (kwt_4 _ (List.mem_of_getElem? (i := 113) rfl)) rfl)
theorem l_X1_154 : Cond.methodLink RX1 154 yX1_readTrait ∈ kTbl := (kTbl_in (kwt_4 _ (List.mem_of_getElem? (i := 118) rfl)) rfl)
theorem l_X1_184 : Cond.methodLink RX1 184 yX2_begin ∈ kTbl := (kTbl_in (kwt_4 _ (List.mem_of_getElem? (i := 131) rfl)) rfl)
theorem l_X1_194 : Cond.methodLink RX1 194 yX6_isNameHere ∈ kTbl := (kTbl_in (kwt_4 _ (List.mem_of_getElem? (i := 82) rfl)) rfl)
theorem l_X1_198 : Cond.methodLink RX1 198 yX0_kiteNamed ∈ kTbl := (kTbl_in (kwt_4 _ (List.mem_of_getElem? (i := 141) rfl)) rfl)
theorem l_X1_206 : Cond.methodLink RX1 206 yX9_begin ∈ kTbl := (kTbl_in (kwt_4 _ (List.mem_of_getElem? (i := 142) rfl)) rfl)
theorem l_X1_209 : Cond.methodLink RX1 209 yX0_hasName ∈ kTbl := (kTbl_in (kwt_4 _ (List.mem_of_getElem? (i := 91) rfl)) rfl)
theorem l_X11_42 : Cond.methodLink RX11 42 yX0_init ∈ kTbl := (kTbl_in (kwt_1 _ (List.mem_of_getElem? (i := 78) rfl)) rfl)
theorem l_X11_52 : Cond.methodLink RX11 52 yX1_init ∈ kTbl := (kTbl_in (kwt_2 _ (List.mem_of_getElem? (i := 67) rfl)) rfl)
theorem l_X11_61 : Cond.methodLink RX11 61 yX8_init ∈ kTbl := (kTbl_in (kwt_2 _ (List.mem_of_getElem? (i := 95) rfl)) rfl)
theorem l_X11_90 : Cond.methodLink RX11 90 yX5_init ∈ kTbl := (kTbl_in (kwt_2 _ (List.mem_of_getElem? (i := 212) rfl)) rfl)
theorem l_X11_109 : Cond.methodLink RX11 109 yX11_isTray ∈ kTbl := (kTbl_in (kwt_3 _ (List.mem_of_getElem? (i := 142) rfl)) rfl)
theorem l_X11_113 : Cond.methodLink RX11 113 yX11_refuse ∈ kTbl := (kTbl_in (kwt_3 _ (List.mem_of_getElem? (i := 146) rfl)) rfl)
theorem l_X11_116 : Cond.methodLink RX11 116 yX10_make ∈ kTbl := (kTbl_in (kwt_3 _ (List.mem_of_getElem? (i := 150) rfl)) rfl)
theorem l_X11_120 : Cond.methodLink RX11 120 yX11_grant ∈ kTbl := (kTbl_in (kwt_3 _ (List.mem_of_getElem? (i := 154) rfl)) rfl)
theorem l_X11_124 : Cond.methodLink RX11 124 yX11_placeStatus ∈ kTbl := (kTbl_in (kwt_3 _ (List.mem_of_getElem? (i := 162) rfl)) rfl)
theorem l_X11_128 : Cond.methodLink RX11 128 yX10_put ∈ kTbl := (kTbl_in (kwt_3 _ (List.mem_of_getElem? (i := 166) rfl)) rfl)
theorem l_X11_132 : Cond.methodLink RX11 132 yX11_deny ∈ kTbl := (kTbl_in (kwt_3 _ (List.mem_of_getElem? (i := 174) rfl)) rfl)
theorem l_X11_156 : Cond.methodLink RX11 156 yX11_putOnTape ∈ kTbl := (kTbl_in (kwt_3 _ (List.mem_of_getElem? (i := 189) rfl)) rfl)
theorem l_X11_160 : Cond.methodLink RX11 160 yX6_open ∈ kTbl := (kTbl_in (kwt_3 _ (List.mem_of_getElem? (i := 197) rfl)) rfl)
theorem l_X11_164 : Cond.methodLink RX11 164 yX1_readAll ∈ kTbl := (kTbl_in (kwt_3 _ (List.mem_of_getElem? (i := 219) rfl)) rfl)
theorem l_X11_167 : Cond.methodLink RX11 167 yX0_copy ∈ kTbl := (kTbl_in (kwt_4 _ (List.mem_of_getElem? (i := 160) rfl)) rfl)
theorem l_X11_170 : Cond.methodLink RX11 170 yX7_clear ∈ kTbl := (kTbl_in (kwt_4 _ (List.mem_of_getElem? (i := 177) rfl)) rfl)
theorem l_X11_176 : Cond.methodLink RX11 176 yX11_give ∈ kTbl := (kTbl_in (kwt_4 _ (List.mem_of_getElem? (i := 181) rfl)) rfl)
theorem l_X11_179 : Cond.methodLink RX11 179 yX7_readAll ∈ kTbl := (kTbl_in (kwt_4 _ (List.mem_of_getElem? (i := 189) rfl)) rfl)
theorem l_X11_182 : Cond.methodLink RX11 182 yX7_copy ∈ kTbl := (kTbl_in (kwt_5 _ (List.mem_of_getElem? (i := 9) rfl)) rfl)
theorem l_X11_215 : Cond.methodLink RX11 215 yX11_lookNow ∈ kTbl := (kTbl_in (kwt_5 _ (List.mem_of_getElem? (i := 22) rfl)) rfl)
theorem l_X11_221 : Cond.methodLink RX11 221 yX0_cutSet ∈ kTbl := (kTbl_in (kwt_5 _ (List.mem_of_getElem? (i := 72) rfl)) rfl)
theorem l_X11_225 : Cond.methodLink RX11 225 yX0_ripeSet ∈ kTbl := (kTbl_in (kwt_5 _ (List.mem_of_getElem? (i := 73) rfl)) rfl)
theorem l_X11_228 : Cond.methodLink RX11 228 yX11_isHourOfDay ∈ kTbl := (kTbl_in (kwt_5 _ (List.mem_of_getElem? (i := 85) rfl)) rfl)
theorem l_X11_238 : Cond.methodLink RX11 238 yX0_hasKite ∈ kTbl := (kTbl_in (kwt_5 _ (List.mem_of_getElem? (i := 93) rfl)) rfl)
theorem l_X11_271 : Cond.methodLink RX11 271 yX0_hasCrop ∈ kTbl := (kTbl_in (kwt_5 _ (List.mem_of_getElem? (i := 101) rfl)) rfl)
theorem l_X11_288 : Cond.methodLink RX11 288 yX0_hasTenant ∈ kTbl := (kTbl_in (kwt_5 _ (List.mem_of_getElem? (i := 109) rfl)) rfl)
theorem l_X11_308 : Cond.methodLink RX11 308 yX8_look ∈ kTbl := (kTbl_in (kwt_5 _ (List.mem_of_getElem? (i := 30) rfl)) rfl)
theorem l_X11_312 : Cond.methodLink RX11 312 yX8_isUp ∈ kTbl := (kTbl_in (kwt_5 _ (List.mem_of_getElem? (i := 117) rfl)) rfl)
theorem l_X11_321 : Cond.methodLink RX11 321 yX0_hasField ∈ kTbl := (kTbl_in (kwt_5 _ (List.mem_of_getElem? (i := 122) rfl)) rfl)
theorem l_X11_325 : Cond.methodLink RX11 325 yX8_ownerOf ∈ kTbl := (kTbl_in (kwt_5 _ (List.mem_of_getElem? (i := 130) rfl)) rfl)
theorem l_X11_328 : Cond.methodLink RX11 328 yX8_shadersOf ∈ kTbl := (kTbl_in (kwt_5 _ (List.mem_of_getElem? (i := 138) rfl)) rfl)
theorem l_X11_331 : Cond.methodLink RX11 331 yX8_fieldsOf ∈ kTbl := (kTbl_in (kwt_5 _ (List.mem_of_getElem? (i := 146) rfl)) rfl)
theorem l_X11_334 : Cond.methodLink RX11 334 yX8_ownedFields ∈ kTbl := (kTbl_in (kwt_5 _ (List.mem_of_getElem? (i := 154) rfl)) rfl)
theorem l_X11_337 : Cond.methodLink RX11 337 yX8_disputedFields ∈ kTbl := (kTbl_in (kwt_5 _ (List.mem_of_getElem? (i := 162) rfl)) rfl)
theorem l_X11_340 : Cond.methodLink RX11 340 yX8_doCross ∈ kTbl := (kTbl_in (kwt_5 _ (List.mem_of_getElem? (i := 176) rfl)) rfl)
theorem l_X11_343 : Cond.methodLink RX11 343 yX8_crossedSet ∈ kTbl := (kTbl_in (kwt_5 _ (List.mem_of_getElem? (i := 184) rfl)) rfl)
theorem l_X11_346 : Cond.methodLink RX11 346 yX0_hasLand ∈ kTbl := (kTbl_in (kwt_5 _ (List.mem_of_getElem? (i := 201) rfl)) rfl)
theorem l_X11_349 : Cond.methodLink RX11 349 yX0_goBy ∈ kTbl := (kTbl_in (kwt_5 _ (List.mem_of_getElem? (i := 210) rfl)) rfl)
theorem l_X11_353 : Cond.methodLink RX11 353 yX0_mayStep ∈ kTbl := (kTbl_in (kwt_6 _ (List.mem_of_getElem? (i := 27) rfl)) rfl)
theorem l_X11_356 : Cond.methodLink RX11 356 yX0_stepHand ∈ kTbl := (kTbl_in (kwt_6 _ (List.mem_of_getElem? (i := 36) rfl)) rfl)
theorem l_X11_359 : Cond.methodLink RX11 359 yX11_fieldNumber ∈ kTbl := (kTbl_in (kwt_6 _ (List.mem_of_getElem? (i := 40) rfl)) rfl)
theorem l_X11_365 : Cond.methodLink RX11 365 yX2_isRipe ∈ kTbl := (kTbl_in (kwt_6 _ (List.mem_of_getElem? (i := 68) rfl)) rfl)
theorem l_X11_368 : Cond.methodLink RX11 368 yX3_earn ∈ kTbl := (kTbl_in (kwt_6 _ (List.mem_of_getElem? (i := 69) rfl)) rfl)
theorem l_X11_371 : Cond.methodLink RX11 371 yX0_loseCrossed ∈ kTbl := (kTbl_in (kwt_6 _ (List.mem_of_getElem? (i := 74) rfl)) rfl)
theorem l_X11_375 : Cond.methodLink RX11 375 yX2_grow ∈ kTbl := (kTbl_in (kwt_6 _ (List.mem_of_getElem? (i := 75) rfl)) rfl)
theorem l_X11_378 : Cond.methodLink RX11 378 yX11_isAhead ∈ kTbl := (kTbl_in (kwt_6 _ (List.mem_of_getElem? (i := 80) rfl)) rfl)
theorem l_X11_381 : Cond.methodLink RX11 381 yX5_seekPlanting ∈ kTbl := (kTbl_in (kwt_6 _ (List.mem_of_getElem? (i := 88) rfl)) rfl)
theorem l_X11_390 : Cond.methodLink RX11 390 yX11_goAhead ∈ kTbl := (kTbl_in (kwt_6 _ (List.mem_of_getElem? (i := 106) rfl)) rfl)
theorem l_X11_393 : Cond.methodLink RX11 393 yX5_seekFlight ∈ kTbl := (kTbl_in (kwt_6 _ (List.mem_of_getElem? (i := 122) rfl)) rfl)
theorem l_X11_406 : Cond.methodLink RX11 406 yX11_coverStatus ∈ kTbl := (kTbl_in (kwt_6 _ (List.mem_of_getElem? (i := 143) rfl)) rfl)
theorem l_X11_413 : Cond.methodLink RX11 413 yJ6_bitCount_0f7a4 ∈ kTbl := (kTbl_in (kwt_6 _ (List.mem_of_getElem? (i := 162) rfl)) rfl)
theorem l_X11_418 : Cond.methodLink RX11 418 yX5_mostSettled ∈ kTbl := (kTbl_in (kwt_6 _ (List.mem_of_getElem? (i := 171) rfl)) rfl)
theorem l_X11_421 : Cond.methodLink RX11 421 yX0_hasRow ∈ kTbl := (kTbl_in (kwt_6 _ (List.mem_of_getElem? (i := 187) rfl)) rfl)
theorem l_X11_424 : Cond.methodLink RX11 424 yX11_stripTrayStatus ∈ kTbl := (kTbl_in (kwt_6 _ (List.mem_of_getElem? (i := 188) rfl)) rfl)
theorem l_X11_427 : Cond.methodLink RX11 427 yX5_countStrips ∈ kTbl := (kTbl_in (kwt_6 _ (List.mem_of_getElem? (i := 192) rfl)) rfl)
theorem l_X11_434 : Cond.methodLink RX11 434 yX5_isStrip ∈ kTbl := (kTbl_in (kwt_6 _ (List.mem_of_getElem? (i := 204) rfl)) rfl)
theorem l_X11_438 : Cond.methodLink RX11 438 yX5_unlikeStrips ∈ kTbl := (kTbl_in (kwt_6 _ (List.mem_of_getElem? (i := 212) rfl)) rfl)
theorem l_X11_441 : Cond.methodLink RX11 441 yX5_seekDuel ∈ kTbl := (kTbl_in (kwt_6 _ (List.mem_of_getElem? (i := 229) rfl)) rfl)
theorem l_X11_451 : Cond.methodLink RX11 451 yX8_shadedAloneBy ∈ kTbl := (kTbl_in (kwt_7 _ (List.mem_of_getElem? (i := 6) rfl)) rfl)
theorem l_X11_454 : Cond.methodLink RX11 454 yX11_tellFraction ∈ kTbl := (kTbl_in (kwt_7 _ (List.mem_of_getElem? (i := 14) rfl)) rfl)
theorem l_X11_461 : Cond.methodLink RX11 461 yX4_run ∈ kTbl := (kTbl_in (kwt_7 _ (List.mem_of_getElem? (i := 27) rfl)) rfl)
theorem l_X11_480 : Cond.methodLink RX11 480 yX0_hasFieldNumber ∈ kTbl := (kTbl_in (kwt_6 _ (List.mem_of_getElem? (i := 147) rfl)) rfl)
theorem l_X11_484 : Cond.methodLink RX11 484 yX5_seekCover ∈ kTbl := (kTbl_in (kwt_6 _ (List.mem_of_getElem? (i := 152) rfl)) rfl)
theorem l_X11_488 : Cond.methodLink RX11 488 yX0_hourOfDay ∈ kTbl := (kTbl_in (kwt_5 _ (List.mem_of_getElem? (i := 26) rfl)) rfl)
theorem l_X12_83 : Cond.methodLink RX12 83 yX12_plain ∈ kTbl := (kTbl_in (kwt_7 _ (List.mem_of_getElem? (i := 88) rfl)) rfl)
theorem l_X12_93 : Cond.methodLink RX12 93 yX12_refuse ∈ kTbl := (kTbl_in (kwt_8 _ (List.mem_of_getElem? (i := 58) rfl)) rfl)
theorem l_X12_97 : Cond.methodLink RX12 97 yX12_gives ∈ kTbl := (kTbl_in (kwt_8 _ (List.mem_of_getElem? (i := 145) rfl)) rfl)
theorem l_X12_100 : Cond.methodLink RX12 100 yX12_is ∈ kTbl := (kTbl_in (kwt_7 _ (List.mem_of_getElem? (i := 238) rfl)) rfl)
theorem l_X12_104 : Cond.methodLink RX12 104 yX12_isTray ∈ kTbl := (kTbl_in (kwt_7 _ (List.mem_of_getElem? (i := 235) rfl)) rfl)
theorem l_X12_107 : Cond.methodLink RX12 107 yX12_wrongPlace ∈ kTbl := (kTbl_in (kwt_8 _ (List.mem_of_getElem? (i := 6) rfl)) rfl)
theorem l_X12_111 : Cond.methodLink RX12 111 yX12_narrowed ∈ kTbl := (kTbl_in (kwt_8 _ (List.mem_of_getElem? (i := 10) rfl)) rfl)
theorem l_X12_120 : Cond.methodLink RX12 120 yX12_four ∈ kTbl := (kTbl_in (kwt_8 _ (List.mem_of_getElem? (i := 26) rfl)) rfl)
theorem l_X12_129 : Cond.methodLink RX12 129 yX12_byteAt ∈ kTbl := (kTbl_in (kwt_8 _ (List.mem_of_getElem? (i := 46) rfl)) rfl)
theorem l_X12_141 : Cond.methodLink RX12 141 yX12_isSmall ∈ kTbl := (kTbl_in (kwt_8 _ (List.mem_of_getElem? (i := 50) rfl)) rfl)
theorem l_X12_144 : Cond.methodLink RX12 144 yX12_isDigit ∈ kTbl := (kTbl_in (kwt_8 _ (List.mem_of_getElem? (i := 53) rfl)) rfl)
theorem l_X12_148 : Cond.methodLink RX12 148 yJ9_min_7cf53 ∈ kTbl := (kTbl_in (kwt_8 _ (List.mem_of_getElem? (i := 57) rfl)) rfl)
theorem l_X12_153 : Cond.methodLink RX12 153 yJ0_length_8abf5 ∈ kTbl := (kTbl_in (kwt_8 _ (List.mem_of_getElem? (i := 71) rfl)) rfl)
theorem l_X12_159 : Cond.methodLink RX12 159 yJ0_charAt_5068e ∈ kTbl := (kTbl_in (kwt_8 _ (List.mem_of_getElem? (i := 72) rfl)) rfl)
theorem l_X12_169 : Cond.methodLink RX12 169 yX12_ahead ∈ kTbl := (kTbl_in (kwt_8 _ (List.mem_of_getElem? (i := 42) rfl)) rfl)
theorem l_X12_172 : Cond.methodLink RX12 172 yX12_isSign ∈ kTbl := (kTbl_in (kwt_8 _ (List.mem_of_getElem? (i := 137) rfl)) rfl)
theorem l_X12_175 : Cond.methodLink RX12 175 yX12_fails ∈ kTbl := (kTbl_in (kwt_8 _ (List.mem_of_getElem? (i := 73) rfl)) rfl)
theorem l_X12_178 : Cond.methodLink RX12 178 yX12_inWords ∈ kTbl := (kTbl_in (kwt_8 _ (List.mem_of_getElem? (i := 67) rfl)) rfl)
theorem l_X12_182 : Cond.methodLink RX12 182 yX12_nameHere ∈ kTbl := (kTbl_in (kwt_8 _ (List.mem_of_getElem? (i := 109) rfl)) rfl)
theorem l_X12_188 : Cond.methodLink RX12 188 yX12_isName ∈ kTbl := (kTbl_in (kwt_8 _ (List.mem_of_getElem? (i := 101) rfl)) rfl)
theorem l_X12_192 : Cond.methodLink RX12 192 yX12_findHere ∈ kTbl := (kTbl_in (kwt_8 _ (List.mem_of_getElem? (i := 105) rfl)) rfl)
theorem l_X12_195 : Cond.methodLink RX12 195 yX12_wantWord ∈ kTbl := (kTbl_in (kwt_8 _ (List.mem_of_getElem? (i := 85) rfl)) rfl)
theorem l_X12_199 : Cond.methodLink RX12 199 yX12_number ∈ kTbl := (kTbl_in (kwt_8 _ (List.mem_of_getElem? (i := 81) rfl)) rfl)
theorem l_X12_203 : Cond.methodLink RX12 203 yX12_newOne ∈ kTbl := (kTbl_in (kwt_8 _ (List.mem_of_getElem? (i := 97) rfl)) rfl)
theorem l_X12_206 : Cond.methodLink RX12 206 yX12_fieldTo ∈ kTbl := (kTbl_in (kwt_8 _ (List.mem_of_getElem? (i := 113) rfl)) rfl)
theorem l_X12_209 : Cond.methodLink RX12 209 yX12_isThere ∈ kTbl := (kTbl_in (kwt_8 _ (List.mem_of_getElem? (i := 117) rfl)) rfl)
theorem l_X12_212 : Cond.methodLink RX12 212 yX12_oldOne ∈ kTbl := (kTbl_in (kwt_8 _ (List.mem_of_getElem? (i := 129) rfl)) rfl)
theorem l_X12_218 : Cond.methodLink RX12 218 yX12_theLand ∈ kTbl := (kTbl_in (kwt_8 _ (List.mem_of_getElem? (i := 77) rfl)) rfl)
theorem l_X12_222 : Cond.methodLink RX12 222 yX12_aWind ∈ kTbl := (kTbl_in (kwt_8 _ (List.mem_of_getElem? (i := 89) rfl)) rfl)
theorem l_X12_225 : Cond.methodLink RX12 225 yX12_aKite ∈ kTbl := (kTbl_in (kwt_8 _ (List.mem_of_getElem? (i := 93) rfl)) rfl)
theorem l_X12_228 : Cond.methodLink RX12 228 yX12_aCrop ∈ kTbl := (kTbl_in (kwt_8 _ (List.mem_of_getElem? (i := 121) rfl)) rfl)
theorem l_X12_231 : Cond.methodLink RX12 231 yX12_aTenant ∈ kTbl := (kTbl_in (kwt_8 _ (List.mem_of_getElem? (i := 125) rfl)) rfl)
theorem l_X12_234 : Cond.methodLink RX12 234 yX12_wantSign ∈ kTbl := (kTbl_in (kwt_8 _ (List.mem_of_getElem? (i := 133) rfl)) rfl)
theorem l_X12_237 : Cond.methodLink RX12 237 yX12_begins ∈ kTbl := (kTbl_in (kwt_8 _ (List.mem_of_getElem? (i := 38) rfl)) rfl)
theorem l_X12_241 : Cond.methodLink RX12 241 yX12_countyPart ∈ kTbl := (kTbl_in (kwt_8 _ (List.mem_of_getElem? (i := 62) rfl)) rfl)
theorem l_X12_244 : Cond.methodLink RX12 244 yX12_taken ∈ kTbl := (kTbl_in (kwt_8 _ (List.mem_of_getElem? (i := 141) rfl)) rfl)
theorem l_X12_247 : Cond.methodLink RX12 247 yX12_kiteTo ∈ kTbl := (kTbl_in (kwt_8 _ (List.mem_of_getElem? (i := 161) rfl)) rfl)
theorem l_X12_250 : Cond.methodLink RX12 250 yX12_test ∈ kTbl := (kTbl_in (kwt_8 _ (List.mem_of_getElem? (i := 165) rfl)) rfl)
theorem l_X12_259 : Cond.methodLink RX12 259 yX12_seasonOrder ∈ kTbl := (kTbl_in (kwt_8 _ (List.mem_of_getElem? (i := 157) rfl)) rfl)
theorem l_X12_262 : Cond.methodLink RX12 262 yX12_seasonStep ∈ kTbl := (kTbl_in (kwt_8 _ (List.mem_of_getElem? (i := 153) rfl)) rfl)
theorem l_X12_265 : Cond.methodLink RX12 265 yX12_kiteRow ∈ kTbl := (kTbl_in (kwt_8 _ (List.mem_of_getElem? (i := 193) rfl)) rfl)
theorem l_X12_268 : Cond.methodLink RX12 268 yX12_of ∈ kTbl := (kTbl_in (kwt_8 _ (List.mem_of_getElem? (i := 189) rfl)) rfl)
theorem l_X12_271 : Cond.methodLink RX12 271 yX12_isCut ∈ kTbl := (kTbl_in (kwt_8 _ (List.mem_of_getElem? (i := 185) rfl)) rfl)
theorem l_X12_274 : Cond.methodLink RX12 274 yX12_isBorne ∈ kTbl := (kTbl_in (kwt_8 _ (List.mem_of_getElem? (i := 196) rfl)) rfl)
theorem l_X12_277 : Cond.methodLink RX12 277 yX12_turned ∈ kTbl := (kTbl_in (kwt_9 _ (List.mem_of_getElem? (i := 9) rfl)) rfl)
theorem l_X12_280 : Cond.methodLink RX12 280 yX12_farFrom ∈ kTbl := (kTbl_in (kwt_9 _ (List.mem_of_getElem? (i := 13) rfl)) rfl)
theorem l_X12_283 : Cond.methodLink RX12 283 yJ9_max_7cf53 ∈ kTbl := (kTbl_in (kwt_9 _ (List.mem_of_getElem? (i := 41) rfl)) rfl)
theorem l_X12_286 : Cond.methodLink RX12 286 yX12_columnOf ∈ kTbl := (kTbl_in (kwt_9 _ (List.mem_of_getElem? (i := 5) rfl)) rfl)
theorem l_X12_289 : Cond.methodLink RX12 289 yJ9_abs_0f7a4 ∈ kTbl := (kTbl_in (kwt_9 _ (List.mem_of_getElem? (i := 42) rfl)) rfl)
theorem l_X12_292 : Cond.methodLink RX12 292 yX12_rowOf ∈ kTbl := (kTbl_in (kwt_9 _ (List.mem_of_getElem? (i := 17) rfl)) rfl)
theorem l_X12_295 : Cond.methodLink RX12 295 yX12_doesShade ∈ kTbl := (kTbl_in (kwt_9 _ (List.mem_of_getElem? (i := 37) rfl)) rfl)
theorem l_X12_299 : Cond.methodLink RX12 299 yX12_isIn ∈ kTbl := (kTbl_in (kwt_9 _ (List.mem_of_getElem? (i := 47) rfl)) rfl)
theorem l_X12_302 : Cond.methodLink RX12 302 yX12_bits ∈ kTbl := (kTbl_in (kwt_9 _ (List.mem_of_getElem? (i := 51) rfl)) rfl)
theorem l_X12_305 : Cond.methodLink RX12 305 yX12_shadersOf ∈ kTbl := (kTbl_in (kwt_9 _ (List.mem_of_getElem? (i := 33) rfl)) rfl)
theorem l_X12_309 : Cond.methodLink RX12 309 yX12_ownerBy ∈ kTbl := (kTbl_in (kwt_9 _ (List.mem_of_getElem? (i := 43) rfl)) rfl)
theorem l_X12_312 : Cond.methodLink RX12 312 yX12_ownerOf ∈ kTbl := (kTbl_in (kwt_9 _ (List.mem_of_getElem? (i := 29) rfl)) rfl)
theorem l_X12_315 : Cond.methodLink RX12 315 yX12_side ∈ kTbl := (kTbl_in (kwt_9 _ (List.mem_of_getElem? (i := 94) rfl)) rfl)
theorem l_X12_319 : Cond.methodLink RX12 319 yX12_isUp ∈ kTbl := (kTbl_in (kwt_8 _ (List.mem_of_getElem? (i := 181) rfl)) rfl)
theorem l_X12_322 : Cond.methodLink RX12 322 yX12_parts ∈ kTbl := (kTbl_in (kwt_9 _ (List.mem_of_getElem? (i := 90) rfl)) rfl)
theorem l_X12_325 : Cond.methodLink RX12 325 yX12_now ∈ kTbl := (kTbl_in (kwt_8 _ (List.mem_of_getElem? (i := 177) rfl)) rfl)
theorem l_X12_328 : Cond.methodLink RX12 328 yX12_doCross ∈ kTbl := (kTbl_in (kwt_9 _ (List.mem_of_getElem? (i := 86) rfl)) rfl)
theorem l_X12_331 : Cond.methodLink RX12 331 yX12_isRipe ∈ kTbl := (kTbl_in (kwt_8 _ (List.mem_of_getElem? (i := 200) rfl)) rfl)
theorem l_X12_334 : Cond.methodLink RX12 334 yX12_cropRow ∈ kTbl := (kTbl_in (kwt_8 _ (List.mem_of_getElem? (i := 204) rfl)) rfl)
theorem l_X12_337 : Cond.methodLink RX12 337 yX12_setOf ∈ kTbl := (kTbl_in (kwt_8 _ (List.mem_of_getElem? (i := 173) rfl)) rfl)
theorem l_X12_340 : Cond.methodLink RX12 340 yX12_isHour ∈ kTbl := (kTbl_in (kwt_8 _ (List.mem_of_getElem? (i := 211) rfl)) rfl)
theorem l_X12_343 : Cond.methodLink RX12 343 yX12_isKite ∈ kTbl := (kTbl_in (kwt_8 _ (List.mem_of_getElem? (i := 218) rfl)) rfl)
theorem l_X12_346 : Cond.methodLink RX12 346 yX12_isCrop ∈ kTbl := (kTbl_in (kwt_8 _ (List.mem_of_getElem? (i := 226) rfl)) rfl)
theorem l_X12_349 : Cond.methodLink RX12 349 yX12_isTenant ∈ kTbl := (kTbl_in (kwt_8 _ (List.mem_of_getElem? (i := 234) rfl)) rfl)
theorem l_X12_352 : Cond.methodLink RX12 352 yX12_tenantRow ∈ kTbl := (kTbl_in (kwt_8 _ (List.mem_of_getElem? (i := 238) rfl)) rfl)
theorem l_X12_355 : Cond.methodLink RX12 355 yX12_isField ∈ kTbl := (kTbl_in (kwt_9 _ (List.mem_of_getElem? (i := 25) rfl)) rfl)
theorem l_X12_358 : Cond.methodLink RX12 358 yX12_orNone ∈ kTbl := (kTbl_in (kwt_9 _ (List.mem_of_getElem? (i := 54) rfl)) rfl)
theorem l_X12_361 : Cond.methodLink RX12 361 yX12_estateOf ∈ kTbl := (kTbl_in (kwt_9 _ (List.mem_of_getElem? (i := 66) rfl)) rfl)
theorem l_X12_364 : Cond.methodLink RX12 364 yX12_areTwo ∈ kTbl := (kTbl_in (kwt_9 _ (List.mem_of_getElem? (i := 82) rfl)) rfl)
theorem l_X12_367 : Cond.methodLink RX12 367 yX12_doomedNow ∈ kTbl := (kTbl_in (kwt_9 _ (List.mem_of_getElem? (i := 101) rfl)) rfl)
theorem l_X12_370 : Cond.methodLink RX12 370 yX12_fields ∈ kTbl := (kTbl_in (kwt_9 _ (List.mem_of_getElem? (i := 113) rfl)) rfl)
theorem l_X12_373 : Cond.methodLink RX12 373 yX12_earns ∈ kTbl := (kTbl_in (kwt_9 _ (List.mem_of_getElem? (i := 137) rfl)) rfl)
theorem l_X12_378 : Cond.methodLink RX12 378 yX12_stepsTo ∈ kTbl := (kTbl_in (kwt_9 _ (List.mem_of_getElem? (i := 146) rfl)) rfl)
theorem l_X12_381 : Cond.methodLink RX12 381 yX12_nears ∈ kTbl := (kTbl_in (kwt_9 _ (List.mem_of_getElem? (i := 150) rfl)) rfl)
theorem l_X12_385 : Cond.methodLink RX12 385 yX12_cuts ∈ kTbl := (kTbl_in (kwt_9 _ (List.mem_of_getElem? (i := 133) rfl)) rfl)
theorem l_X12_388 : Cond.methodLink RX12 388 yX12_goes ∈ kTbl := (kTbl_in (kwt_9 _ (List.mem_of_getElem? (i := 141) rfl)) rfl)
theorem l_X12_393 : Cond.methodLink RX12 393 yX12_isFrom ∈ kTbl := (kTbl_in (kwt_9 _ (List.mem_of_getElem? (i := 126) rfl)) rfl)
theorem l_X12_397 : Cond.methodLink RX12 397 yX12_goesBy ∈ kTbl := (kTbl_in (kwt_9 _ (List.mem_of_getElem? (i := 129) rfl)) rfl)
theorem l_X12_402 : Cond.methodLink RX12 402 yX12_walks ∈ kTbl := (kTbl_in (kwt_9 _ (List.mem_of_getElem? (i := 159) rfl)) rfl)
theorem l_X12_405 : Cond.methodLink RX12 405 yX12_turnsCut ∈ kTbl := (kTbl_in (kwt_9 _ (List.mem_of_getElem? (i := 167) rfl)) rfl)
theorem l_X12_419 : Cond.methodLink RX12 419 yX12_keeps ∈ kTbl := (kTbl_in (kwt_9 _ (List.mem_of_getElem? (i := 204) rfl)) rfl)
theorem l_X12_422 : Cond.methodLink RX12 422 yX12_restores ∈ kTbl := (kTbl_in (kwt_9 _ (List.mem_of_getElem? (i := 208) rfl)) rfl)
theorem l_X12_425 : Cond.methodLink RX12 425 yX12_hoursTill ∈ kTbl := (kTbl_in (kwt_9 _ (List.mem_of_getElem? (i := 200) rfl)) rfl)
theorem l_X12_428 : Cond.methodLink RX12 428 yX12_isSpan ∈ kTbl := (kTbl_in (kwt_9 _ (List.mem_of_getElem? (i := 220) rfl)) rfl)
theorem l_X12_431 : Cond.methodLink RX12 431 yX12_laysHours ∈ kTbl := (kTbl_in (kwt_9 _ (List.mem_of_getElem? (i := 223) rfl)) rfl)
theorem l_X12_434 : Cond.methodLink RX12 434 yX12_plantOf ∈ kTbl := (kTbl_in (kwt_9 _ (List.mem_of_getElem? (i := 231) rfl)) rfl)
theorem l_X12_437 : Cond.methodLink RX12 437 yX12_goesOn ∈ kTbl := (kTbl_in (kwt_10 _ (List.mem_of_getElem? (i := 3) rfl)) rfl)
theorem l_X12_442 : Cond.methodLink RX12 442 yX12_flies ∈ kTbl := (kTbl_in (kwt_10 _ (List.mem_of_getElem? (i := 16) rfl)) rfl)
theorem l_X12_453 : Cond.methodLink RX12 453 yX12_wrongCover ∈ kTbl := (kTbl_in (kwt_10 _ (List.mem_of_getElem? (i := 28) rfl)) rfl)
theorem l_X12_456 : Cond.methodLink RX12 456 yX12_coverOf ∈ kTbl := (kTbl_in (kwt_10 _ (List.mem_of_getElem? (i := 34) rfl)) rfl)
theorem l_X12_459 : Cond.methodLink RX12 459 yX12_isFor ∈ kTbl := (kTbl_in (kwt_10 _ (List.mem_of_getElem? (i := 50) rfl)) rfl)
theorem l_X12_462 : Cond.methodLink RX12 462 yX12_gives0 ∈ kTbl := (kTbl_in (kwt_10 _ (List.mem_of_getElem? (i := 54) rfl)) rfl)
theorem l_X12_465 : Cond.methodLink RX12 465 yX12_settles ∈ kTbl := (kTbl_in (kwt_10 _ (List.mem_of_getElem? (i := 46) rfl)) rfl)
theorem l_X12_468 : Cond.methodLink RX12 468 yX12_isRow ∈ kTbl := (kTbl_in (kwt_10 _ (List.mem_of_getElem? (i := 66) rfl)) rfl)
theorem l_X12_471 : Cond.methodLink RX12 471 yX12_wrongStrip ∈ kTbl := (kTbl_in (kwt_10 _ (List.mem_of_getElem? (i := 62) rfl)) rfl)
theorem l_X12_474 : Cond.methodLink RX12 474 yX12_stripAt ∈ kTbl := (kTbl_in (kwt_10 _ (List.mem_of_getElem? (i := 70) rfl)) rfl)
theorem l_X12_477 : Cond.methodLink RX12 477 yX12_stripsIn ∈ kTbl := (kTbl_in (kwt_10 _ (List.mem_of_getElem? (i := 82) rfl)) rfl)
theorem l_X12_484 : Cond.methodLink RX12 484 yX12_duelOf ∈ kTbl := (kTbl_in (kwt_10 _ (List.mem_of_getElem? (i := 98) rfl)) rfl)
theorem l_X12_487 : Cond.methodLink RX12 487 yX12_duelled ∈ kTbl := (kTbl_in (kwt_10 _ (List.mem_of_getElem? (i := 94) rfl)) rfl)
theorem l_X12_490 : Cond.methodLink RX12 490 yX12_lostBy ∈ kTbl := (kTbl_in (kwt_10 _ (List.mem_of_getElem? (i := 111) rfl)) rfl)
theorem l_X12_493 : Cond.methodLink RX12 493 yX12_tellsBy ∈ kTbl := (kTbl_in (kwt_10 _ (List.mem_of_getElem? (i := 119) rfl)) rfl)
theorem l_X12_503 : Cond.methodLink RX12 503 yX12_hoursGo ∈ kTbl := (kTbl_in (kwt_10 _ (List.mem_of_getElem? (i := 141) rfl)) rfl)
theorem l_X12_506 : Cond.methodLink RX12 506 yX12_walksBy ∈ kTbl := (kTbl_in (kwt_10 _ (List.mem_of_getElem? (i := 145) rfl)) rfl)
theorem l_X12_509 : Cond.methodLink RX12 509 yX12_draw ∈ kTbl := (kTbl_in (kwt_10 _ (List.mem_of_getElem? (i := 149) rfl)) rfl)
theorem l_X12_515 : Cond.methodLink RX12 515 yX12_does ∈ kTbl := (kTbl_in (kwt_10 _ (List.mem_of_getElem? (i := 137) rfl)) rfl)
theorem l_X12_518 : Cond.methodLink RX12 518 yX12_holds ∈ kTbl := (kTbl_in (kwt_10 _ (List.mem_of_getElem? (i := 154) rfl)) rfl)
theorem l_X12_521 : Cond.methodLink RX12 521 yX12_behindEnds ∈ kTbl := (kTbl_in (kwt_10 _ (List.mem_of_getElem? (i := 158) rfl)) rfl)
theorem l_X12_526 : Cond.methodLink RX12 526 yX12_lives ∈ kTbl := (kTbl_in (kwt_10 _ (List.mem_of_getElem? (i := 133) rfl)) rfl)
theorem l_X12_536 : Cond.methodLink RX12 536 yX12_copies ∈ kTbl := (kTbl_in (kwt_10 _ (List.mem_of_getElem? (i := 174) rfl)) rfl)
theorem l_X2_28 : Cond.methodLink RX2 28 yJ9_min_7cf53 ∈ kTbl := (kTbl_in (kwt_5 _ (List.mem_of_getElem? (i := 237) rfl)) rfl)
theorem l_X3_44 : Cond.methodLink RX3 44 yJ9_min_7cf53 ∈ kTbl := (kTbl_in (kwt_6 _ (List.mem_of_getElem? (i := 2) rfl)) rfl)
theorem l_X4_50 : Cond.methodLink RX4 50 yX4_behindEnd ∈ kTbl := (kTbl_in (kwt_7 _ (List.mem_of_getElem? (i := 32) rfl)) rfl)
theorem l_X4_54 : Cond.methodLink RX4 54 yX4_behindStep ∈ kTbl := (kTbl_in (kwt_7 _ (List.mem_of_getElem? (i := 36) rfl)) rfl)
theorem l_X4_72 : Cond.methodLink RX4 72 yX0_goBy ∈ kTbl := (kTbl_in (kwt_7 _ (List.mem_of_getElem? (i := 40) rfl)) rfl)
theorem l_X4_76 : Cond.methodLink RX4 76 yJ6_bitCount_0f7a4 ∈ kTbl := (kTbl_in (kwt_7 _ (List.mem_of_getElem? (i := 41) rfl)) rfl)
theorem l_X4_82 : Cond.methodLink RX4 82 yX4_stepOrMiss ∈ kTbl := (kTbl_in (kwt_7 _ (List.mem_of_getElem? (i := 42) rfl)) rfl)
theorem l_X4_90 : Cond.methodLink RX4 90 yX4_putCut ∈ kTbl := (kTbl_in (kwt_7 _ (List.mem_of_getElem? (i := 48) rfl)) rfl)
theorem l_X4_94 : Cond.methodLink RX4 94 yX4_drawStep ∈ kTbl := (kTbl_in (kwt_7 _ (List.mem_of_getElem? (i := 52) rfl)) rfl)
theorem l_X4_98 : Cond.methodLink RX4 98 yX4_holds ∈ kTbl := (kTbl_in (kwt_7 _ (List.mem_of_getElem? (i := 57) rfl)) rfl)
theorem l_X4_102 : Cond.methodLink RX4 102 yX0_mayStep ∈ kTbl := (kTbl_in (kwt_7 _ (List.mem_of_getElem? (i := 46) rfl)) rfl)
theorem l_X4_106 : Cond.methodLink RX4 106 yX0_stepHand ∈ kTbl := (kTbl_in (kwt_7 _ (List.mem_of_getElem? (i := 47) rfl)) rfl)
theorem l_X4_125 : Cond.methodLink RX4 125 yX2_isRipe ∈ kTbl := (kTbl_in (kwt_7 _ (List.mem_of_getElem? (i := 61) rfl)) rfl)
theorem l_X4_131 : Cond.methodLink RX4 131 yX0_hourOfDay ∈ kTbl := (kTbl_in (kwt_7 _ (List.mem_of_getElem? (i := 62) rfl)) rfl)
theorem l_X4_134 : Cond.methodLink RX4 134 yX0_cutSet ∈ kTbl := (kTbl_in (kwt_7 _ (List.mem_of_getElem? (i := 63) rfl)) rfl)
theorem l_X4_137 : Cond.methodLink RX4 137 yX8_raise ∈ kTbl := (kTbl_in (kwt_7 _ (List.mem_of_getElem? (i := 64) rfl)) rfl)
theorem l_X4_142 : Cond.methodLink RX4 142 yX8_isUp ∈ kTbl := (kTbl_in (kwt_7 _ (List.mem_of_getElem? (i := 65) rfl)) rfl)
theorem l_X5_72 : Cond.methodLink RX5 72 yX0_loseCrossed ∈ kTbl := (kTbl_in (kwt_6 _ (List.mem_of_getElem? (i := 92) rfl)) rfl)
theorem l_X5_81 : Cond.methodLink RX5 81 yX5_countOwnedFields ∈ kTbl := (kTbl_in (kwt_6 _ (List.mem_of_getElem? (i := 93) rfl)) rfl)
theorem l_X5_90 : Cond.methodLink RX5 90 yX8_ownerOf ∈ kTbl := (kTbl_in (kwt_6 _ (List.mem_of_getElem? (i := 97) rfl)) rfl)
theorem l_X5_96 : Cond.methodLink RX5 96 yX5_tryFlight ∈ kTbl := (kTbl_in (kwt_6 _ (List.mem_of_getElem? (i := 126) rfl)) rfl)
theorem l_X5_118 : Cond.methodLink RX5 118 yX0_cutSet ∈ kTbl := (kTbl_in (kwt_6 _ (List.mem_of_getElem? (i := 131) rfl)) rfl)
theorem l_X5_122 : Cond.methodLink RX5 122 yX0_mayStep ∈ kTbl := (kTbl_in (kwt_6 _ (List.mem_of_getElem? (i := 132) rfl)) rfl)
theorem l_X5_126 : Cond.methodLink RX5 126 yX0_stepHand ∈ kTbl := (kTbl_in (kwt_6 _ (List.mem_of_getElem? (i := 133) rfl)) rfl)
theorem l_X5_129 : Cond.methodLink RX5 129 yX0_putCutSet ∈ kTbl := (kTbl_in (kwt_6 _ (List.mem_of_getElem? (i := 134) rfl)) rfl)
theorem l_X5_133 : Cond.methodLink RX5 133 yX8_shadersOf ∈ kTbl := (kTbl_in (kwt_6 _ (List.mem_of_getElem? (i := 156) rfl)) rfl)
theorem l_X5_136 : Cond.methodLink RX5 136 yJ6_bitCount_0f7a4 ∈ kTbl := (kTbl_in (kwt_6 _ (List.mem_of_getElem? (i := 157) rfl)) rfl)
theorem l_X5_142 : Cond.methodLink RX5 142 yX5_isCovering ∈ kTbl := (kTbl_in (kwt_6 _ (List.mem_of_getElem? (i := 158) rfl)) rfl)
theorem l_X5_145 : Cond.methodLink RX5 145 yX0_hourOfDay ∈ kTbl := (kTbl_in (kwt_6 _ (List.mem_of_getElem? (i := 175) rfl)) rfl)
theorem l_X5_148 : Cond.methodLink RX5 148 yX8_look ∈ kTbl := (kTbl_in (kwt_6 _ (List.mem_of_getElem? (i := 176) rfl)) rfl)
theorem l_X5_152 : Cond.methodLink RX5 152 yX5_offerField ∈ kTbl := (kTbl_in (kwt_6 _ (List.mem_of_getElem? (i := 177) rfl)) rfl)
theorem l_X5_156 : Cond.methodLink RX5 156 yJ9_max_7cf53 ∈ kTbl := (kTbl_in (kwt_6 _ (List.mem_of_getElem? (i := 182) rfl)) rfl)
theorem l_X5_173 : Cond.methodLink RX5 173 yX9_stepsTo ∈ kTbl := (kTbl_in (kwt_6 _ (List.mem_of_getElem? (i := 181) rfl)) rfl)
theorem l_X5_176 : Cond.methodLink RX5 176 yX8_lookPastCuts ∈ kTbl := (kTbl_in (kwt_6 _ (List.mem_of_getElem? (i := 196) rfl)) rfl)
theorem l_X5_182 : Cond.methodLink RX5 182 yX5_countStrips ∈ kTbl := (kTbl_in (kwt_6 _ (List.mem_of_getElem? (i := 216) rfl)) rfl)
theorem l_X5_185 : Cond.methodLink RX5 185 yX5_areAlike ∈ kTbl := (kTbl_in (kwt_6 _ (List.mem_of_getElem? (i := 217) rfl)) rfl)
theorem l_X5_188 : Cond.methodLink RX5 188 yX5_playOut ∈ kTbl := (kTbl_in (kwt_6 _ (List.mem_of_getElem? (i := 233) rfl)) rfl)
theorem l_X5_192 : Cond.methodLink RX5 192 yX8_fieldsOf ∈ kTbl := (kTbl_in (kwt_6 _ (List.mem_of_getElem? (i := 237) rfl)) rfl)
theorem l_X6_50 : Cond.methodLink RX6 50 yX6_next ∈ kTbl := (kTbl_in (kwt_3 _ (List.mem_of_getElem? (i := 202) rfl)) rfl)
theorem l_X6_53 : Cond.methodLink RX6 53 yX6_nextWord ∈ kTbl := (kTbl_in (kwt_3 _ (List.mem_of_getElem? (i := 206) rfl)) rfl)
theorem l_X6_56 : Cond.methodLink RX6 56 yX6_nextNumber ∈ kTbl := (kTbl_in (kwt_3 _ (List.mem_of_getElem? (i := 211) rfl)) rfl)
theorem l_X6_59 : Cond.methodLink RX6 59 yX6_isSign ∈ kTbl := (kTbl_in (kwt_3 _ (List.mem_of_getElem? (i := 215) rfl)) rfl)
theorem l_X6_65 : Cond.methodLink RX6 65 yJ0_length_8abf5 ∈ kTbl := (kTbl_in (kwt_4 _ (List.mem_of_getElem? (i := 1) rfl)) rfl)
theorem l_X6_70 : Cond.methodLink RX6 70 yJ0_charAt_5068e ∈ kTbl := (kTbl_in (kwt_4 _ (List.mem_of_getElem? (i := 11) rfl)) rfl)
theorem l_X6_76 : Cond.methodLink RX6 76 yX6_isWord ∈ kTbl := (kTbl_in (kwt_4 _ (List.mem_of_getElem? (i := 112) rfl)) rfl)
theorem l_X6_80 : Cond.methodLink RX6 80 yX6_fail ∈ kTbl := (kTbl_in (kwt_4 _ (List.mem_of_getElem? (i := 58) rfl)) rfl)
theorem l_X6_83 : Cond.methodLink RX6 83 yX6_isSignOf ∈ kTbl := (kTbl_in (kwt_4 _ (List.mem_of_getElem? (i := 156) rfl)) rfl)
theorem l_X6_87 : Cond.methodLink RX6 87 yX6_isReserved ∈ kTbl := (kTbl_in (kwt_4 _ (List.mem_of_getElem? (i := 86) rfl)) rfl)
theorem l_X7_50 : Cond.methodLink RX7 50 yX7_clear ∈ kTbl := (kTbl_in (kwt_4 _ (List.mem_of_getElem? (i := 193) rfl)) rfl)
theorem l_X7_53 : Cond.methodLink RX7 53 yX6_isAtEnd ∈ kTbl := (kTbl_in (kwt_4 _ (List.mem_of_getElem? (i := 194) rfl)) rfl)
theorem l_X7_61 : Cond.methodLink RX7 61 yX6_isWord ∈ kTbl := (kTbl_in (kwt_4 _ (List.mem_of_getElem? (i := 196) rfl)) rfl)
theorem l_X7_65 : Cond.methodLink RX7 65 yX7_readEnd ∈ kTbl := (kTbl_in (kwt_4 _ (List.mem_of_getElem? (i := 197) rfl)) rfl)
theorem l_X7_69 : Cond.methodLink RX7 69 yX7_readStepWord ∈ kTbl := (kTbl_in (kwt_4 _ (List.mem_of_getElem? (i := 203) rfl)) rfl)
theorem l_X7_72 : Cond.methodLink RX7 72 yX7_readRest ∈ kTbl := (kTbl_in (kwt_4 _ (List.mem_of_getElem? (i := 219) rfl)) rfl)
theorem l_X7_76 : Cond.methodLink RX7 76 yX6_takeSign ∈ kTbl := (kTbl_in (kwt_5 _ (List.mem_of_getElem? (i := 8) rfl)) rfl)
theorem l_X7_80 : Cond.methodLink RX7 80 yX6_fail ∈ kTbl := (kTbl_in (kwt_4 _ (List.mem_of_getElem? (i := 201) rfl)) rfl)
theorem l_X7_84 : Cond.methodLink RX7 84 yX6_next ∈ kTbl := (kTbl_in (kwt_4 _ (List.mem_of_getElem? (i := 202) rfl)) rfl)
theorem l_X7_87 : Cond.methodLink RX7 87 yX7_kindOf ∈ kTbl := (kTbl_in (kwt_4 _ (List.mem_of_getElem? (i := 207) rfl)) rfl)
theorem l_X7_107 : Cond.methodLink RX7 107 yX7_readNumber ∈ kTbl := (kTbl_in (kwt_4 _ (List.mem_of_getElem? (i := 223) rfl)) rfl)
theorem l_X7_111 : Cond.methodLink RX7 111 yX7_readKite ∈ kTbl := (kTbl_in (kwt_4 _ (List.mem_of_getElem? (i := 228) rfl)) rfl)
theorem l_X7_114 : Cond.methodLink RX7 114 yX7_readTest ∈ kTbl := (kTbl_in (kwt_4 _ (List.mem_of_getElem? (i := 238) rfl)) rfl)
theorem l_X7_119 : Cond.methodLink RX7 119 yX6_isNameHere ∈ kTbl := (kTbl_in (kwt_4 _ (List.mem_of_getElem? (i := 232) rfl)) rfl)
theorem l_X7_126 : Cond.methodLink RX7 126 yX0_cropNamed ∈ kTbl := (kTbl_in (kwt_5 _ (List.mem_of_getElem? (i := 3) rfl)) rfl)
theorem l_X7_132 : Cond.methodLink RX7 132 yX7_readThing ∈ kTbl := (kTbl_in (kwt_4 _ (List.mem_of_getElem? (i := 234) rfl)) rfl)
theorem l_X7_140 : Cond.methodLink RX7 140 yX6_takeWord ∈ kTbl := (kTbl_in (kwt_5 _ (List.mem_of_getElem? (i := 6) rfl)) rfl)
theorem l_X7_143 : Cond.methodLink RX7 143 yX6_isSignOf ∈ kTbl := (kTbl_in (kwt_5 _ (List.mem_of_getElem? (i := 7) rfl)) rfl)
theorem l_X7_146 : Cond.methodLink RX7 146 yX6_takeNumber ∈ kTbl := (kTbl_in (kwt_4 _ (List.mem_of_getElem? (i := 227) rfl)) rfl)
theorem l_X7_153 : Cond.methodLink RX7 153 yX0_kiteNamed ∈ kTbl := (kTbl_in (kwt_4 _ (List.mem_of_getElem? (i := 233) rfl)) rfl)
theorem l_X8_35 : Cond.methodLink RX8 35 yX0_cutSet ∈ kTbl := (kTbl_in (kwt_5 _ (List.mem_of_getElem? (i := 34) rfl)) rfl)
theorem l_X8_41 : Cond.methodLink RX8 41 yX8_raise ∈ kTbl := (kTbl_in (kwt_5 _ (List.mem_of_getElem? (i := 38) rfl)) rfl)
theorem l_X8_45 : Cond.methodLink RX8 45 yX8_castShade ∈ kTbl := (kTbl_in (kwt_5 _ (List.mem_of_getElem? (i := 53) rfl)) rfl)
theorem l_X8_87 : Cond.methodLink RX8 87 yJ9_max_7cf53 ∈ kTbl := (kTbl_in (kwt_5 _ (List.mem_of_getElem? (i := 46) rfl)) rfl)
theorem l_X8_96 : Cond.methodLink RX8 96 yX8_drop ∈ kTbl := (kTbl_in (kwt_5 _ (List.mem_of_getElem? (i := 49) rfl)) rfl)
theorem l_X8_100 : Cond.methodLink RX8 100 yX8_isUp ∈ kTbl := (kTbl_in (kwt_5 _ (List.mem_of_getElem? (i := 57) rfl)) rfl)
theorem l_X8_104 : Cond.methodLink RX8 104 yX8_castShadeOf ∈ kTbl := (kTbl_in (kwt_5 _ (List.mem_of_getElem? (i := 61) rfl)) rfl)
theorem l_X8_110 : Cond.methodLink RX8 110 yJ9_min_7cf53 ∈ kTbl := (kTbl_in (kwt_5 _ (List.mem_of_getElem? (i := 65) rfl)) rfl)
theorem l_X8_116 : Cond.methodLink RX8 116 yX8_ownerWith ∈ kTbl := (kTbl_in (kwt_5 _ (List.mem_of_getElem? (i := 68) rfl)) rfl)
theorem l_X8_122 : Cond.methodLink RX8 122 yJ6_bitCount_0f7a4 ∈ kTbl := (kTbl_in (kwt_5 _ (List.mem_of_getElem? (i := 166) rfl)) rfl)
theorem l_X8_128 : Cond.methodLink RX8 128 yX8_ownerOf ∈ kTbl := (kTbl_in (kwt_6 _ (List.mem_of_getElem? (i := 11) rfl)) rfl)
theorem l_X8_136 : Cond.methodLink RX8 136 yX9_stepsTo ∈ kTbl := (kTbl_in (kwt_6 _ (List.mem_of_getElem? (i := 12) rfl)) rfl)
theorem l_X8_139 : Cond.methodLink RX8 139 yX8_doCross ∈ kTbl := (kTbl_in (kwt_5 _ (List.mem_of_getElem? (i := 188) rfl)) rfl)
theorem l_X8_143 : Cond.methodLink RX8 143 yX8_shorterOf ∈ kTbl := (kTbl_in (kwt_5 _ (List.mem_of_getElem? (i := 189) rfl)) rfl)
theorem l_X9_29 : Cond.methodLink RX9 29 yJ9_abs_0f7a4 ∈ kTbl := (kTbl_in (kwt_6 _ (List.mem_of_getElem? (i := 16) rfl)) rfl)
