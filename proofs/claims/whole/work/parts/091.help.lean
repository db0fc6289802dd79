def kIsX (a : Int) (code : Nat) : Prop := 0 ≤ a ∧ a.toNat < 205 ∧ (shX.getD a.toNat (99, 0)).1 = code
def kArX (a : Int) (code len : Nat) : Prop := kIsX a code ∧ (shX.getD a.toNat (99, 0)).2 = len ∧ len < 2147483648
theorem kLX {σ : Kmem} {a : Int} {code : Nat} (h : kIsX a code) : kIs WX σ a code := h
theorem kLXa {σ : Kmem} {a : Int} {code len : Nat} (h : kArX a code len) : kAr WX σ a code len := h
theorem kx_0 {σ : Kmem} : kIs WX σ 0 11 := ⟨by decide, (by show Int.toNat _ < 205; decide), by decide⟩
theorem kxa_1 {σ : Kmem} : kAr WX σ 1 24 4 := ⟨⟨by decide, (by show Int.toNat _ < 205; decide), by decide⟩, by decide, by decide⟩
theorem kxa_2 {σ : Kmem} : kAr WX σ 2 22 900 := ⟨⟨by decide, (by show Int.toNat _ < 205; decide), by decide⟩, by decide, by decide⟩
theorem kx_3 {σ : Kmem} : kIs WX σ 3 6 := ⟨by decide, (by show Int.toNat _ < 205; decide), by decide⟩
theorem kxa_4 {σ : Kmem} : kAr WX σ 4 22 900 := ⟨⟨by decide, (by show Int.toNat _ < 205; decide), by decide⟩, by decide, by decide⟩
theorem kxa_6 {σ : Kmem} : kAr WX σ 6 20 12 := ⟨⟨by decide, (by show Int.toNat _ < 205; decide), by decide⟩, by decide, by decide⟩
theorem kxa_7 {σ : Kmem} : kAr WX σ 7 20 12 := ⟨⟨by decide, (by show Int.toNat _ < 205; decide), by decide⟩, by decide, by decide⟩
theorem kxa_8 {σ : Kmem} : kAr WX σ 8 27 6 := ⟨⟨by decide, (by show Int.toNat _ < 205; decide), by decide⟩, by decide, by decide⟩
theorem kxa_9 {σ : Kmem} : kAr WX σ 9 28 8 := ⟨⟨by decide, (by show Int.toNat _ < 205; decide), by decide⟩, by decide, by decide⟩
theorem kxa_10 {σ : Kmem} : kAr WX σ 10 29 6 := ⟨⟨by decide, (by show Int.toNat _ < 205; decide), by decide⟩, by decide, by decide⟩
theorem kxa_32 {σ : Kmem} : kAr WX σ 32 20 12 := ⟨⟨by decide, (by show Int.toNat _ < 205; decide), by decide⟩, by decide, by decide⟩
theorem kxa_33 {σ : Kmem} : kAr WX σ 33 20 12 := ⟨⟨by decide, (by show Int.toNat _ < 205; decide), by decide⟩, by decide, by decide⟩
theorem kxa_34 {σ : Kmem} : kAr WX σ 34 27 6 := ⟨⟨by decide, (by show Int.toNat _ < 205; decide), by decide⟩, by decide, by decide⟩
theorem kxa_35 {σ : Kmem} : kAr WX σ 35 28 8 := ⟨⟨by decide, (by show Int.toNat _ < 205; decide), by decide⟩, by decide, by decide⟩
theorem kxa_36 {σ : Kmem} : kAr WX σ 36 29 6 := ⟨⟨by decide, (by show Int.toNat _ < 205; decide), by decide⟩, by decide, by decide⟩
theorem kx_57 {σ : Kmem} : kIs WX σ 57 1 := ⟨by decide, (by show Int.toNat _ < 205; decide), by decide⟩
theorem kx_58 {σ : Kmem} : kIs WX σ 58 8 := ⟨by decide, (by show Int.toNat _ < 205; decide), by decide⟩
theorem kxa_59 {σ : Kmem} : kAr WX σ 59 20 6 := ⟨⟨by decide, (by show Int.toNat _ < 205; decide), by decide⟩, by decide, by decide⟩
theorem kxa_60 {σ : Kmem} : kAr WX σ 60 20 6 := ⟨⟨by decide, (by show Int.toNat _ < 205; decide), by decide⟩, by decide, by decide⟩
theorem kxa_61 {σ : Kmem} : kAr WX σ 61 20 6 := ⟨⟨by decide, (by show Int.toNat _ < 205; decide), by decide⟩, by decide, by decide⟩
theorem kxa_62 {σ : Kmem} : kAr WX σ 62 20 63 := ⟨⟨by decide, (by show Int.toNat _ < 205; decide), by decide⟩, by decide, by decide⟩
theorem kxa_63 {σ : Kmem} : kAr WX σ 63 20 63 := ⟨⟨by decide, (by show Int.toNat _ < 205; decide), by decide⟩, by decide, by decide⟩
theorem kxa_65 {σ : Kmem} : kAr WX σ 65 20 60 := ⟨⟨by decide, (by show Int.toNat _ < 205; decide), by decide⟩, by decide, by decide⟩
theorem kxa_66 {σ : Kmem} : kAr WX σ 66 20 60 := ⟨⟨by decide, (by show Int.toNat _ < 205; decide), by decide⟩, by decide, by decide⟩
theorem kxa_67 {σ : Kmem} : kAr WX σ 67 20 60 := ⟨⟨by decide, (by show Int.toNat _ < 205; decide), by decide⟩, by decide, by decide⟩
theorem kxa_68 {σ : Kmem} : kAr WX σ 68 20 60 := ⟨⟨by decide, (by show Int.toNat _ < 205; decide), by decide⟩, by decide, by decide⟩
theorem kxa_69 {σ : Kmem} : kAr WX σ 69 20 60 := ⟨⟨by decide, (by show Int.toNat _ < 205; decide), by decide⟩, by decide, by decide⟩
theorem kxa_70 {σ : Kmem} : kAr WX σ 70 20 3 := ⟨⟨by decide, (by show Int.toNat _ < 205; decide), by decide⟩, by decide, by decide⟩
theorem kxa_72 {σ : Kmem} : kAr WX σ 72 20 60 := ⟨⟨by decide, (by show Int.toNat _ < 205; decide), by decide⟩, by decide, by decide⟩
theorem kxa_73 {σ : Kmem} : kAr WX σ 73 20 60 := ⟨⟨by decide, (by show Int.toNat _ < 205; decide), by decide⟩, by decide, by decide⟩
theorem kxa_74 {σ : Kmem} : kAr WX σ 74 20 60 := ⟨⟨by decide, (by show Int.toNat _ < 205; decide), by decide⟩, by decide, by decide⟩
theorem kxa_75 {σ : Kmem} : kAr WX σ 75 20 60 := ⟨⟨by decide, (by show Int.toNat _ < 205; decide), by decide⟩, by decide, by decide⟩
theorem kxa_76 {σ : Kmem} : kAr WX σ 76 20 60 := ⟨⟨by decide, (by show Int.toNat _ < 205; decide), by decide⟩, by decide, by decide⟩
theorem kxa_77 {σ : Kmem} : kAr WX σ 77 20 3 := ⟨⟨by decide, (by show Int.toNat _ < 205; decide), by decide⟩, by decide, by decide⟩
theorem kxa_79 {σ : Kmem} : kAr WX σ 79 20 60 := ⟨⟨by decide, (by show Int.toNat _ < 205; decide), by decide⟩, by decide, by decide⟩
theorem kxa_81 {σ : Kmem} : kAr WX σ 81 20 60 := ⟨⟨by decide, (by show Int.toNat _ < 205; decide), by decide⟩, by decide, by decide⟩
theorem kx_82 {σ : Kmem} : kIs WX σ 82 5 := ⟨by decide, (by show Int.toNat _ < 205; decide), by decide⟩
theorem kxa_83 {σ : Kmem} : kAr WX σ 83 20 63 := ⟨⟨by decide, (by show Int.toNat _ < 205; decide), by decide⟩, by decide, by decide⟩
theorem kxa_84 {σ : Kmem} : kAr WX σ 84 20 5 := ⟨⟨by decide, (by show Int.toNat _ < 205; decide), by decide⟩, by decide, by decide⟩
theorem kxa_85 {σ : Kmem} : kAr WX σ 85 20 5 := ⟨⟨by decide, (by show Int.toNat _ < 205; decide), by decide⟩, by decide, by decide⟩
theorem kxa_86 {σ : Kmem} : kAr WX σ 86 20 5 := ⟨⟨by decide, (by show Int.toNat _ < 205; decide), by decide⟩, by decide, by decide⟩
theorem kxa_87 {σ : Kmem} : kAr WX σ 87 20 20 := ⟨⟨by decide, (by show Int.toNat _ < 205; decide), by decide⟩, by decide, by decide⟩
theorem kxa_88 {σ : Kmem} : kAr WX σ 88 23 64 := ⟨⟨by decide, (by show Int.toNat _ < 205; decide), by decide⟩, by decide, by decide⟩
theorem kxa_89 {σ : Kmem} : kAr WX σ 89 30 6 := ⟨⟨by decide, (by show Int.toNat _ < 205; decide), by decide⟩, by decide, by decide⟩
theorem kxa_90 {σ : Kmem} : kAr WX σ 90 20 9 := ⟨⟨by decide, (by show Int.toNat _ < 205; decide), by decide⟩, by decide, by decide⟩
theorem kxa_91 {σ : Kmem} : kAr WX σ 91 20 9 := ⟨⟨by decide, (by show Int.toNat _ < 205; decide), by decide⟩, by decide, by decide⟩
theorem kxa_92 {σ : Kmem} : kAr WX σ 92 20 9 := ⟨⟨by decide, (by show Int.toNat _ < 205; decide), by decide⟩, by decide, by decide⟩
theorem kxa_93 {σ : Kmem} : kAr WX σ 93 20 9 := ⟨⟨by decide, (by show Int.toNat _ < 205; decide), by decide⟩, by decide, by decide⟩
theorem kxa_94 {σ : Kmem} : kAr WX σ 94 20 9 := ⟨⟨by decide, (by show Int.toNat _ < 205; decide), by decide⟩, by decide, by decide⟩
theorem kxa_95 {σ : Kmem} : kAr WX σ 95 20 9 := ⟨⟨by decide, (by show Int.toNat _ < 205; decide), by decide⟩, by decide, by decide⟩
theorem kxa_96 {σ : Kmem} : kAr WX σ 96 25 3 := ⟨⟨by decide, (by show Int.toNat _ < 205; decide), by decide⟩, by decide, by decide⟩
theorem kxa_97 {σ : Kmem} : kAr WX σ 97 26 3 := ⟨⟨by decide, (by show Int.toNat _ < 205; decide), by decide⟩, by decide, by decide⟩
theorem kxa_99 {σ : Kmem} : kAr WX σ 99 21 60 := ⟨⟨by decide, (by show Int.toNat _ < 205; decide), by decide⟩, by decide, by decide⟩
theorem kxa_101 {σ : Kmem} : kAr WX σ 101 21 60 := ⟨⟨by decide, (by show Int.toNat _ < 205; decide), by decide⟩, by decide, by decide⟩
theorem kxa_103 {σ : Kmem} : kAr WX σ 103 21 60 := ⟨⟨by decide, (by show Int.toNat _ < 205; decide), by decide⟩, by decide, by decide⟩
theorem kxa_105 {σ : Kmem} : kAr WX σ 105 21 60 := ⟨⟨by decide, (by show Int.toNat _ < 205; decide), by decide⟩, by decide, by decide⟩
theorem kxa_107 {σ : Kmem} : kAr WX σ 107 20 12 := ⟨⟨by decide, (by show Int.toNat _ < 205; decide), by decide⟩, by decide, by decide⟩
theorem kxa_108 {σ : Kmem} : kAr WX σ 108 20 12 := ⟨⟨by decide, (by show Int.toNat _ < 205; decide), by decide⟩, by decide, by decide⟩
theorem kxa_109 {σ : Kmem} : kAr WX σ 109 27 6 := ⟨⟨by decide, (by show Int.toNat _ < 205; decide), by decide⟩, by decide, by decide⟩
theorem kxa_110 {σ : Kmem} : kAr WX σ 110 28 8 := ⟨⟨by decide, (by show Int.toNat _ < 205; decide), by decide⟩, by decide, by decide⟩
theorem kxa_111 {σ : Kmem} : kAr WX σ 111 29 6 := ⟨⟨by decide, (by show Int.toNat _ < 205; decide), by decide⟩, by decide, by decide⟩
theorem kxa_133 {σ : Kmem} : kAr WX σ 133 20 60 := ⟨⟨by decide, (by show Int.toNat _ < 205; decide), by decide⟩, by decide, by decide⟩
theorem kxa_134 {σ : Kmem} : kAr WX σ 134 20 60 := ⟨⟨by decide, (by show Int.toNat _ < 205; decide), by decide⟩, by decide, by decide⟩
theorem kxa_135 {σ : Kmem} : kAr WX σ 135 20 60 := ⟨⟨by decide, (by show Int.toNat _ < 205; decide), by decide⟩, by decide, by decide⟩
theorem kxa_136 {σ : Kmem} : kAr WX σ 136 20 60 := ⟨⟨by decide, (by show Int.toNat _ < 205; decide), by decide⟩, by decide, by decide⟩
theorem kxa_137 {σ : Kmem} : kAr WX σ 137 20 60 := ⟨⟨by decide, (by show Int.toNat _ < 205; decide), by decide⟩, by decide, by decide⟩
theorem kxa_138 {σ : Kmem} : kAr WX σ 138 20 3 := ⟨⟨by decide, (by show Int.toNat _ < 205; decide), by decide⟩, by decide, by decide⟩
theorem kxa_140 {σ : Kmem} : kAr WX σ 140 20 12 := ⟨⟨by decide, (by show Int.toNat _ < 205; decide), by decide⟩, by decide, by decide⟩
theorem kxa_141 {σ : Kmem} : kAr WX σ 141 20 12 := ⟨⟨by decide, (by show Int.toNat _ < 205; decide), by decide⟩, by decide, by decide⟩
theorem kxa_142 {σ : Kmem} : kAr WX σ 142 27 6 := ⟨⟨by decide, (by show Int.toNat _ < 205; decide), by decide⟩, by decide, by decide⟩
theorem kxa_143 {σ : Kmem} : kAr WX σ 143 28 8 := ⟨⟨by decide, (by show Int.toNat _ < 205; decide), by decide⟩, by decide, by decide⟩
theorem kxa_144 {σ : Kmem} : kAr WX σ 144 29 6 := ⟨⟨by decide, (by show Int.toNat _ < 205; decide), by decide⟩, by decide, by decide⟩
theorem kxa_166 {σ : Kmem} : kAr WX σ 166 20 60 := ⟨⟨by decide, (by show Int.toNat _ < 205; decide), by decide⟩, by decide, by decide⟩
theorem kxa_167 {σ : Kmem} : kAr WX σ 167 20 60 := ⟨⟨by decide, (by show Int.toNat _ < 205; decide), by decide⟩, by decide, by decide⟩
theorem kxa_168 {σ : Kmem} : kAr WX σ 168 20 60 := ⟨⟨by decide, (by show Int.toNat _ < 205; decide), by decide⟩, by decide, by decide⟩
theorem kxa_169 {σ : Kmem} : kAr WX σ 169 20 60 := ⟨⟨by decide, (by show Int.toNat _ < 205; decide), by decide⟩, by decide, by decide⟩
theorem kxa_170 {σ : Kmem} : kAr WX σ 170 20 60 := ⟨⟨by decide, (by show Int.toNat _ < 205; decide), by decide⟩, by decide, by decide⟩
theorem kxa_171 {σ : Kmem} : kAr WX σ 171 20 3 := ⟨⟨by decide, (by show Int.toNat _ < 205; decide), by decide⟩, by decide, by decide⟩
theorem kxa_173 {σ : Kmem} : kAr WX σ 173 20 12 := ⟨⟨by decide, (by show Int.toNat _ < 205; decide), by decide⟩, by decide, by decide⟩
theorem kxa_174 {σ : Kmem} : kAr WX σ 174 20 12 := ⟨⟨by decide, (by show Int.toNat _ < 205; decide), by decide⟩, by decide, by decide⟩
theorem kxa_175 {σ : Kmem} : kAr WX σ 175 27 6 := ⟨⟨by decide, (by show Int.toNat _ < 205; decide), by decide⟩, by decide, by decide⟩
theorem kxa_176 {σ : Kmem} : kAr WX σ 176 28 8 := ⟨⟨by decide, (by show Int.toNat _ < 205; decide), by decide⟩, by decide, by decide⟩
theorem kxa_177 {σ : Kmem} : kAr WX σ 177 29 6 := ⟨⟨by decide, (by show Int.toNat _ < 205; decide), by decide⟩, by decide, by decide⟩
theorem kxa_199 {σ : Kmem} : kAr WX σ 199 20 60 := ⟨⟨by decide, (by show Int.toNat _ < 205; decide), by decide⟩, by decide, by decide⟩
theorem kxa_200 {σ : Kmem} : kAr WX σ 200 20 60 := ⟨⟨by decide, (by show Int.toNat _ < 205; decide), by decide⟩, by decide, by decide⟩
theorem kxa_201 {σ : Kmem} : kAr WX σ 201 20 60 := ⟨⟨by decide, (by show Int.toNat _ < 205; decide), by decide⟩, by decide, by decide⟩
theorem kxa_202 {σ : Kmem} : kAr WX σ 202 20 60 := ⟨⟨by decide, (by show Int.toNat _ < 205; decide), by decide⟩, by decide, by decide⟩
theorem kxa_203 {σ : Kmem} : kAr WX σ 203 20 60 := ⟨⟨by decide, (by show Int.toNat _ < 205; decide), by decide⟩, by decide, by decide⟩
theorem kxa_204 {σ : Kmem} : kAr WX σ 204 20 3 := ⟨⟨by decide, (by show Int.toNat _ < 205; decide), by decide⟩, by decide, by decide⟩
theorem km_0 {σ : Kmem} : kIs WM σ 0 12 := ⟨by decide, (by show Int.toNat _ < 21; decide), by decide⟩
theorem kma_1 {σ : Kmem} : kAr WM σ 1 20 3598 := ⟨⟨by decide, (by show Int.toNat _ < 21; decide), by decide⟩, by decide, by decide⟩
theorem kma_2 {σ : Kmem} : kAr WM σ 2 21 120 := ⟨⟨by decide, (by show Int.toNat _ < 21; decide), by decide⟩, by decide, by decide⟩
theorem kma_3 {σ : Kmem} : kAr WM σ 3 20 4 := ⟨⟨by decide, (by show Int.toNat _ < 21; decide), by decide⟩, by decide, by decide⟩
theorem kma_4 {σ : Kmem} : kAr WM σ 4 20 4 := ⟨⟨by decide, (by show Int.toNat _ < 21; decide), by decide⟩, by decide, by decide⟩
theorem kma_5 {σ : Kmem} : kAr WM σ 5 21 240 := ⟨⟨by decide, (by show Int.toNat _ < 21; decide), by decide⟩, by decide, by decide⟩
theorem kma_6 {σ : Kmem} : kAr WM σ 6 22 900 := ⟨⟨by decide, (by show Int.toNat _ < 21; decide), by decide⟩, by decide, by decide⟩
theorem kma_7 {σ : Kmem} : kAr WM σ 7 22 900 := ⟨⟨by decide, (by show Int.toNat _ < 21; decide), by decide⟩, by decide, by decide⟩
theorem kma_8 {σ : Kmem} : kAr WM σ 8 20 3 := ⟨⟨by decide, (by show Int.toNat _ < 21; decide), by decide⟩, by decide, by decide⟩
theorem kma_9 {σ : Kmem} : kAr WM σ 9 20 70 := ⟨⟨by decide, (by show Int.toNat _ < 21; decide), by decide⟩, by decide, by decide⟩
theorem kma_10 {σ : Kmem} : kAr WM σ 10 20 5 := ⟨⟨by decide, (by show Int.toNat _ < 21; decide), by decide⟩, by decide, by decide⟩
theorem kma_11 {σ : Kmem} : kAr WM σ 11 20 70 := ⟨⟨by decide, (by show Int.toNat _ < 21; decide), by decide⟩, by decide, by decide⟩
theorem kma_12 {σ : Kmem} : kAr WM σ 12 20 70 := ⟨⟨by decide, (by show Int.toNat _ < 21; decide), by decide⟩, by decide, by decide⟩
theorem kma_13 {σ : Kmem} : kAr WM σ 13 20 6 := ⟨⟨by decide, (by show Int.toNat _ < 21; decide), by decide⟩, by decide, by decide⟩
theorem kma_14 {σ : Kmem} : kAr WM σ 14 20 5 := ⟨⟨by decide, (by show Int.toNat _ < 21; decide), by decide⟩, by decide, by decide⟩
theorem kma_15 {σ : Kmem} : kAr WM σ 15 20 5 := ⟨⟨by decide, (by show Int.toNat _ < 21; decide), by decide⟩, by decide, by decide⟩
theorem kma_16 {σ : Kmem} : kAr WM σ 16 20 5 := ⟨⟨by decide, (by show Int.toNat _ < 21; decide), by decide⟩, by decide, by decide⟩
theorem kma_17 {σ : Kmem} : kAr WM σ 17 20 5 := ⟨⟨by decide, (by show Int.toNat _ < 21; decide), by decide⟩, by decide, by decide⟩
theorem kma_18 {σ : Kmem} : kAr WM σ 18 20 80 := ⟨⟨by decide, (by show Int.toNat _ < 21; decide), by decide⟩, by decide, by decide⟩
theorem kma_19 {σ : Kmem} : kAr WM σ 19 20 5 := ⟨⟨by decide, (by show Int.toNat _ < 21; decide), by decide⟩, by decide, by decide⟩
theorem kma_20 {σ : Kmem} : kAr WM σ 20 20 5 := ⟨⟨by decide, (by show Int.toNat _ < 21; decide), by decide⟩, by decide, by decide⟩
theorem rx_0_3 {σ : Kmem} : WX.2.1 σ 0 3 = 1 := rfl
theorem rx_0_4 {σ : Kmem} : WX.2.1 σ 0 4 = 2 := rfl
theorem rx_0_6 {σ : Kmem} : WX.2.1 σ 0 6 = 3 := rfl
theorem rx_0_7 {σ : Kmem} : WX.2.1 σ 0 7 = 5 := rfl
theorem rx_0_8 {σ : Kmem} : WX.2.1 σ 0 8 = 31 := rfl
theorem rx_0_9 {σ : Kmem} : WX.2.1 σ 0 9 = 57 := rfl
theorem rx_0_10 {σ : Kmem} : WX.2.1 σ 0 10 = 58 := rfl
theorem rx_0_11 {σ : Kmem} : WX.2.1 σ 0 11 = 64 := rfl
theorem rx_0_12 {σ : Kmem} : WX.2.1 σ 0 12 = 71 := rfl
theorem rx_0_13 {σ : Kmem} : WX.2.1 σ 0 13 = 78 := rfl
theorem rx_0_14 {σ : Kmem} : WX.2.1 σ 0 14 = 80 := rfl
theorem rx_0_15 {σ : Kmem} : WX.2.1 σ 0 15 = 82 := rfl
theorem rx_0_16 {σ : Kmem} : WX.2.1 σ 0 16 = 96 := rfl
theorem rx_0_17 {σ : Kmem} : WX.2.1 σ 0 17 = 97 := rfl
theorem rx_3_0 {σ : Kmem} : WX.2.1 σ 3 0 = 4 := rfl
theorem rx_57_0 {σ : Kmem} : WX.2.1 σ 57 0 = 3 := rfl
theorem rx_57_1 {σ : Kmem} : WX.2.1 σ 57 1 = 31 := rfl
theorem rx_82_0 {σ : Kmem} : WX.2.1 σ 82 0 = 31 := rfl
theorem rx_82_1 {σ : Kmem} : WX.2.1 σ 82 1 = 58 := rfl
theorem rx_82_4 {σ : Kmem} : WX.2.1 σ 82 4 = 83 := rfl
theorem rx_82_5 {σ : Kmem} : WX.2.1 σ 82 5 = 84 := rfl
theorem rx_82_8 {σ : Kmem} : WX.2.1 σ 82 8 = 85 := rfl
theorem rx_82_13 {σ : Kmem} : WX.2.1 σ 82 13 = 86 := rfl
theorem rx_82_15 {σ : Kmem} : WX.2.1 σ 82 15 = 87 := rfl
theorem rx_82_16 {σ : Kmem} : WX.2.1 σ 82 16 = 88 := rfl
theorem rx_82_17 {σ : Kmem} : WX.2.1 σ 82 17 = 89 := rfl
theorem rx_58_2 {σ : Kmem} : WX.2.1 σ 58 2 = 59 := rfl
theorem rx_58_3 {σ : Kmem} : WX.2.1 σ 58 3 = 60 := rfl
theorem rx_58_4 {σ : Kmem} : WX.2.1 σ 58 4 = 61 := rfl
theorem rx_58_5 {σ : Kmem} : WX.2.1 σ 58 5 = 62 := rfl
theorem rx_58_6 {σ : Kmem} : WX.2.1 σ 58 6 = 63 := rfl
theorem rm_0_0 {σ : Kmem} : WM.2.1 σ 0 0 = 1 := rfl
theorem rm_0_1 {σ : Kmem} : WM.2.1 σ 0 1 = 2 := rfl
theorem rm_0_5 {σ : Kmem} : WM.2.1 σ 0 5 = 3 := rfl
theorem rm_0_6 {σ : Kmem} : WM.2.1 σ 0 6 = 4 := rfl
theorem rm_0_7 {σ : Kmem} : WM.2.1 σ 0 7 = 5 := rfl
theorem rm_0_8 {σ : Kmem} : WM.2.1 σ 0 8 = 6 := rfl
theorem rm_0_9 {σ : Kmem} : WM.2.1 σ 0 9 = 7 := rfl
theorem rm_0_21 {σ : Kmem} : WM.2.1 σ 0 21 = 8 := rfl
theorem rm_0_24 {σ : Kmem} : WM.2.1 σ 0 24 = 9 := rfl
theorem rm_0_25 {σ : Kmem} : WM.2.1 σ 0 25 = 10 := rfl
theorem rm_0_27 {σ : Kmem} : WM.2.1 σ 0 27 = 11 := rfl
theorem rm_0_28 {σ : Kmem} : WM.2.1 σ 0 28 = 12 := rfl
theorem rm_0_29 {σ : Kmem} : WM.2.1 σ 0 29 = 13 := rfl
theorem rm_0_30 {σ : Kmem} : WM.2.1 σ 0 30 = 14 := rfl
theorem rm_0_31 {σ : Kmem} : WM.2.1 σ 0 31 = 15 := rfl
theorem rm_0_32 {σ : Kmem} : WM.2.1 σ 0 32 = 16 := rfl
theorem rm_0_33 {σ : Kmem} : WM.2.1 σ 0 33 = 17 := rfl
theorem rm_0_37 {σ : Kmem} : WM.2.1 σ 0 37 = 18 := rfl
theorem rm_0_38 {σ : Kmem} : WM.2.1 σ 0 38 = 19 := rfl
theorem rm_0_39 {σ : Kmem} : WM.2.1 σ 0 39 = 20 := rfl
theorem isC_5 : isC 5 := by unfold isC; decide
theorem isC_31 : isC 31 := by unfold isC; decide
theorem isC_106 : isC 106 := by unfold isC; decide
theorem isC_139 : isC 139 := by unfold isC; decide
theorem isC_172 : isC 172 := by unfold isC; decide
theorem isC_n {c : Int} (h : isC c) : c ≠ 0 := by rcases h with rfl | rfl | rfl | rfl | rfl <;> decide
theorem isS_64 : isS 64 := by unfold isS; decide
theorem isS_71 : isS 71 := by unfold isS; decide
theorem isS_132 : isS 132 := by unfold isS; decide
theorem isS_165 : isS 165 := by unfold isS; decide
theorem isS_198 : isS 198 := by unfold isS; decide
theorem isS_n {c : Int} (h : isS c) : c ≠ 0 := by rcases h with rfl | rfl | rfl | rfl | rfl <;> decide
theorem isT_98 : isT 98 := by unfold isT; decide
theorem isT_100 : isT 100 := by unfold isT; decide
theorem isT_102 : isT 102 := by unfold isT; decide
theorem isT_104 : isT 104 := by unfold isT; decide
theorem isT_n {c : Int} (h : isT c) : c ≠ 0 := by rcases h with rfl | rfl | rfl | rfl <;> decide
theorem isLf_78 : isLf 78 := by unfold isLf; decide
theorem isLf_80 : isLf 80 := by unfold isLf; decide
theorem isLf_n {c : Int} (h : isLf c) : c ≠ 0 := by rcases h with rfl | rfl <;> decide
theorem isC_p {c : Int} (h : isC c) : 0 < c ∧ c < 180 := by rcases h with rfl | rfl | rfl | rfl | rfl <;> decide
theorem sky_c (σ : Kmem) : WX.2.1 σ 58 0 = σ 58 0 := rfl
theorem sky_put {σ : Kmem} {c : Int} (h : isC c) : kPutsR WX σ 58 0 c := by
  have e0 : WX.2.1 (kup σ 58 ((0 : Nat) : Int) c) ((Int.toNat 58 : Nat) : Int) ((0 : Nat) : Int) = kup σ 58 0 c 58 0 := rfl
  refine ⟨e0.trans kup_eq, isC_n h, fun b k hb hr => ?_⟩
  show rfX _ _ _ = rfX _ _ _
  unfold rfX
  split
  · rename_i e
    exact absurd ⟨by omega, by omega⟩ hb
  · rfl
theorem adP_n {i : Int} (hi : 0 ≤ i ∧ i < 6) : 90 + i ≠ 0 := by omega
theorem kcmp_r (a b : Int) : rI (kcmp a b) := by unfold kcmp rI; split <;> (try split) <;> omega
theorem kcmp_eq_t {a b : Int} : kcmp a b = 0 ↔ a = b := by unfold kcmp; split <;> (try split) <;> omega
theorem kcmp_eq_f {a b : Int} : kcmp a b ≠ 0 ↔ a ≠ b := by unfold kcmp; split <;> (try split) <;> omega
theorem kcmp_ne_t {a b : Int} : kcmp a b ≠ 0 ↔ a ≠ b := by unfold kcmp; split <;> (try split) <;> omega
theorem kcmp_ne_f {a b : Int} : kcmp a b = 0 ↔ a = b := by unfold kcmp; split <;> (try split) <;> omega
theorem kcmp_lt_t {a b : Int} : kcmp a b < 0 ↔ a < b := by unfold kcmp; split <;> (try split) <;> omega
theorem kcmp_lt_f {a b : Int} : 0 ≤ kcmp a b ↔ b ≤ a := by unfold kcmp; split <;> (try split) <;> omega
theorem kcmp_ge_t {a b : Int} : 0 ≤ kcmp a b ↔ b ≤ a := by unfold kcmp; split <;> (try split) <;> omega
theorem kcmp_ge_f {a b : Int} : kcmp a b < 0 ↔ a < b := by unfold kcmp; split <;> (try split) <;> omega
theorem kcmp_gt_t {a b : Int} : 0 < kcmp a b ↔ b < a := by unfold kcmp; split <;> (try split) <;> omega
theorem kcmp_gt_f {a b : Int} : kcmp a b ≤ 0 ↔ a ≤ b := by unfold kcmp; split <;> (try split) <;> omega
theorem kcmp_le_t {a b : Int} : kcmp a b ≤ 0 ↔ a ≤ b := by unfold kcmp; split <;> (try split) <;> omega
theorem kcmp_le_f {a b : Int} : 0 < kcmp a b ↔ b < a := by unfold kcmp; split <;> (try split) <;> omega
def kst0 (k : Int) : Int := ([0, 0, 1, 0, -1] : List Int).getD k.toNat 0
theorem kst0_v {k : Int} (h : 0 ≤ k ∧ k < 5) : ([0, 0, 1, 0, -1] : List Int32).getD k.toNat 0 = Int32.ofInt (kst0 k) := by
  have h : k = 0 ∨ k = 1 ∨ k = 2 ∨ k = 3 ∨ k = 4 := by omega
  rcases h with rfl | rfl | rfl | rfl | rfl <;> rfl
def kst1 (k : Int) : Int := ([0, -1, 0, 1, 0] : List Int).getD k.toNat 0
theorem kst1_v {k : Int} (h : 0 ≤ k ∧ k < 5) : ([0, -1, 0, 1, 0] : List Int32).getD k.toNat 0 = Int32.ofInt (kst1 k) := by
  have h : k = 0 ∨ k = 1 ∨ k = 2 ∨ k = 3 ∨ k = 4 := by omega
  rcases h with rfl | rfl | rfl | rfl | rfl <;> rfl
def kst2 (k : Int) : Int := ([0, 1, 1, 1, 0, -1, -1, -1] : List Int).getD k.toNat 0
theorem kst2_v {k : Int} (h : 0 ≤ k ∧ k < 8) : ([0, 1, 1, 1, 0, -1, -1, -1] : List Int32).getD k.toNat 0 = Int32.ofInt (kst2 k) := by
  have h : k = 0 ∨ k = 1 ∨ k = 2 ∨ k = 3 ∨ k = 4 ∨ k = 5 ∨ k = 6 ∨ k = 7 := by omega
  rcases h with rfl | rfl | rfl | rfl | rfl | rfl | rfl | rfl <;> rfl
def kst3 (k : Int) : Int := ([-1, -1, 0, 1, 1, 1, 0, -1] : List Int).getD k.toNat 0
theorem kst3_v {k : Int} (h : 0 ≤ k ∧ k < 8) : ([-1, -1, 0, 1, 1, 1, 0, -1] : List Int32).getD k.toNat 0 = Int32.ofInt (kst3 k) := by
  have h : k = 0 ∨ k = 1 ∨ k = 2 ∨ k = 3 ∨ k = 4 ∨ k = 5 ∨ k = 6 ∨ k = 7 := by omega
  rcases h with rfl | rfl | rfl | rfl | rfl | rfl | rfl | rfl <;> rfl
theorem kn_X0_117 : Cond.fieldLinkNest RX0 117 "KiteLand" "STEP_ACROSS" "[I" "KiteLand" ∈ kNest := List.mem_filter.mpr ⟨kwt_6 _ (List.mem_of_getElem? (i := 31) rfl), rfl⟩
theorem kn_X0_123 : Cond.fieldLinkNest RX0 123 "KiteLand" "STEP_DOWN" "[I" "KiteLand" ∈ kNest := List.mem_filter.mpr ⟨kwt_6 _ (List.mem_of_getElem? (i := 33) rfl), rfl⟩
theorem kn_X8_72 : Cond.fieldLinkNest RX8 72 "KiteLand" "WIND_ACROSS" "[I" "KiteLand" ∈ kNest := List.mem_filter.mpr ⟨kwt_5 _ (List.mem_of_getElem? (i := 42) rfl), rfl⟩
theorem kn_X8_78 : Cond.fieldLinkNest RX8 78 "KiteLand" "WIND_DOWN" "[I" "KiteLand" ∈ kNest := List.mem_filter.mpr ⟨kwt_5 _ (List.mem_of_getElem? (i := 44) rfl), rfl⟩
theorem kn_X11_35 : Cond.methodLinkNest RX11 35 yX6_init "KiteLand" ∈ kNest := List.mem_filter.mpr ⟨kwt_1 _ (List.mem_of_getElem? (i := 33) rfl), rfl⟩
theorem kn_X11_70 : Cond.methodLinkNest RX11 70 yX7_init "KiteLand" ∈ kNest := List.mem_filter.mpr ⟨kwt_2 _ (List.mem_of_getElem? (i := 126) rfl), rfl⟩
theorem kn_X11_80 : Cond.methodLinkNest RX11 80 yX4_init "KiteLand" ∈ kNest := List.mem_filter.mpr ⟨kwt_2 _ (List.mem_of_getElem? (i := 171) rfl), rfl⟩
theorem kn_X11_108 : Cond.methodLinkNest RX11 108 yX10_init "KiteLand" ∈ kNest := List.mem_filter.mpr ⟨kwt_3 _ (List.mem_of_getElem? (i := 46) rfl), rfl⟩
theorem l_cp_X11_150 : Cond.methodLink RX11 150 arraycopyName ∈ kTbl := kTbl_in (kwt_3 _ (List.mem_of_getElem? (i := 182) rfl)) rfl
theorem kn_X0_61 : Cond.methodLinkNest RX0 61 yX3_init "KiteLand" ∈ kNest := List.mem_filter.mpr ⟨kwt_1 _ (List.mem_of_getElem? (i := 89) rfl), rfl⟩
theorem kn_X0_62 : Cond.methodLinkNest RX0 62 yX2_init "KiteLand" ∈ kNest := List.mem_filter.mpr ⟨kwt_1 _ (List.mem_of_getElem? (i := 154) rfl), rfl⟩
theorem kn_X0_63 : Cond.methodLinkNest RX0 63 yX9_init "KiteLand" ∈ kNest := List.mem_filter.mpr ⟨kwt_1 _ (List.mem_of_getElem? (i := 182) rfl), rfl⟩
theorem l_cp_X0_67 : Cond.methodLink RX0 67 arraycopyName ∈ kTbl := kTbl_in (kwt_4 _ (List.mem_of_getElem? (i := 164) rfl)) rfl
theorem l_cp_X5_100 : Cond.methodLink RX5 100 arraycopyName ∈ kTbl := kTbl_in (kwt_6 _ (List.mem_of_getElem? (i := 130) rfl)) rfl
theorem l_cp_X6_44 : Cond.methodLink RX6 44 arraycopyName ∈ kTbl := kTbl_in (kwt_3 _ (List.mem_of_getElem? (i := 201) rfl)) rfl
theorem l_cp_X7_44 : Cond.methodLink RX7 44 arraycopyName ∈ kTbl := kTbl_in (kwt_5 _ (List.mem_of_getElem? (i := 13) rfl)) rfl
theorem l_cp_nat : Cond.native arraycopyName ∈ kTbl := kTbl_in (kwt_3 _ (List.mem_of_getElem? (i := 184) rfl)) (by first | rfl | decide +kernel)
theorem l_cp_st : Cond.static arraycopyName ∈ kTbl := kTbl_in (kwt_3 _ (List.mem_of_getElem? (i := 183) rfl)) (by first | rfl | decide +kernel)
theorem l_cp_in : Cond.initialized "java/lang/System" ∈ kTbl := kTbl_in (kwt_1 _ (List.mem_of_getElem? (i := 14) rfl)) (by first | rfl | decide +kernel)
theorem l_JS_38 : Cond.fieldLink "java/lang/String" 38 "java/lang/String" "COMPACT_STRINGS" "Z" ∈ kTbl := kTbl_in (kwt_4 _ (List.mem_of_getElem? (i := 9) rfl)) rfl
theorem l_JS_1053 : Cond.fieldLink "java/lang/String" 1053 "jdk/internal/util/Preconditions" "SIOOBE_FORMATTER" "Ljava/util/function/BiFunction;" ∈ kTbl := kTbl_in (kwt_4 _ (List.mem_of_getElem? (i := 25) rfl)) rfl
theorem l_JS_9 : Cond.fieldLink "java/lang/String" 9 "java/lang/String" "value" "[B" ∈ kTbl := kTbl_in (kwt_10 _ (List.mem_of_getElem? (i := 183) rfl)) rfl
theorem l_JS_15 : Cond.fieldLink "java/lang/String" 15 "java/lang/String" "coder" "B" ∈ kTbl := kTbl_in (kwt_10 _ (List.mem_of_getElem? (i := 184) rfl)) rfl
/-- the String constants: how long, what stands at a place -/
def kStrD (i : Nat) : String × Nat × String × List Int32 := kStrs.getD i ("", 0, "", [])
theorem kStrs_at {i : Nat} {q : String × Nat × String × List Int32} (h : kStrs[i]? = some q) : kStrs[i]? = some (kStrD i) := by unfold kStrD; rw [List.getD_eq_getElem?_getD, h]; rfl
def kslen (i : Nat) : Int := ((kStrD i).2.2.2.length : Int)
def ksat (i : Nat) (k : Int) : Int := ((kStrD i).2.2.2.getD k.toNat 0).toInt
theorem kStrs_len : ∀ i, i < 29 → (kStrD i).2.2.2.length < 200 ∧ ∀ b ∈ (kStrD i).2.2.2, 0 ≤ b.toInt ∧ b.toInt < 128 := by decide +kernel
theorem kStrs_lt {i : Nat} {q : String × Nat × String × List Int32} (h : kStrs[i]? = some q) : i < 29 := (List.getElem?_eq_some_iff.mp h).1
theorem kslen_r {i : Nat} (h : i < 29) : 0 ≤ kslen i ∧ kslen i < 200 := by
  have := (kStrs_len i h).1
  unfold kslen
  omega
theorem ksat_r {i : Nat} {k : Int} (h : i < 29) : 0 ≤ ksat i k ∧ ksat i k < 128 := by
  unfold ksat
  by_cases hk : k.toNat < (kStrD i).2.2.2.length
  · rw [List.getD_eq_getElem?_getD, List.getElem?_eq_getElem hk]
    exact (kStrs_len i h).2 _ (List.getElem_mem hk)
  · rw [List.getD_eq_getElem?_getD, List.getElem?_eq_none (by omega)]
    decide
