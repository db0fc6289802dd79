/-! KiteLandModel.duelOf(III)I -/
theorem e_X12_duelOf_0 : decode cX12_duelOf 0 = .ok (.iconst 0, 1) ∧ decode cX12_duelOf 1 = .ok (.istore 4, 2) ∧ decode cX12_duelOf 3 = .ok (.aload_n 0, 1) ∧ decode cX12_duelOf 4 = .ok (.getfield 62, 3) ∧ decode cX12_duelOf 7 = .ok (.iconst 0, 1) ∧ decode cX12_duelOf 8 = .ok (.iconst (-1), 1) ∧ decode cX12_duelOf 9 = .ok (.iastore, 1) ∧ decode cX12_duelOf 10 = .ok (.aload_n 0, 1) ∧ decode cX12_duelOf 11 = .ok (.getfield 65, 3) ∧ decode cX12_duelOf 14 = .ok (.iconst 0, 1) := by decide +kernel
theorem e_X12_duelOf_1 : decode cX12_duelOf 15 = .ok (.ldc_w 480, 3) ∧ decode cX12_duelOf 18 = .ok (.iastore, 1) ∧ decode cX12_duelOf 19 = .ok (.iload 4, 2) ∧ decode cX12_duelOf 21 = .ok (.iconst 2, 1) ∧ decode cX12_duelOf 22 = .ok (.irem, 1) ∧ decode cX12_duelOf 23 = .ok (.ifCond .ne 7, 3) ∧ decode cX12_duelOf 26 = .ok (.iload_n 1, 1) ∧ decode cX12_duelOf 27 = .ok (.goto 4, 3) ∧ decode cX12_duelOf 30 = .ok (.iload_n 2, 1) ∧ decode cX12_duelOf 31 = .ok (.istore 5, 2) := by decide +kernel
theorem e_X12_duelOf_2 : decode cX12_duelOf 33 = .ok (.iconst 0, 1) ∧ decode cX12_duelOf 34 = .ok (.istore 6, 2) ∧ decode cX12_duelOf 36 = .ok (.iload 4, 2) ∧ decode cX12_duelOf 38 = .ok (.iload_n 3, 1) ∧ decode cX12_duelOf 39 = .ok (.if_icmp .ge 76, 3) ∧ decode cX12_duelOf 42 = .ok (.iload 6, 2) ∧ decode cX12_duelOf 44 = .ok (.ifCond .ne 71, 3) ∧ decode cX12_duelOf 47 = .ok (.aload_n 0, 1) ∧ decode cX12_duelOf 48 = .ok (.getfield 62, 3) ∧ decode cX12_duelOf 51 = .ok (.iload 4, 2) := by decide +kernel
theorem e_X12_duelOf_3 : decode cX12_duelOf 53 = .ok (.iaload, 1) ∧ decode cX12_duelOf 54 = .ok (.iconst 4, 1) ∧ decode cX12_duelOf 55 = .ok (.if_icmp .ge 60, 3) ∧ decode cX12_duelOf 58 = .ok (.aload_n 0, 1) ∧ decode cX12_duelOf 59 = .ok (.getfield 62, 3) ∧ decode cX12_duelOf 62 = .ok (.iload 4, 2) ∧ decode cX12_duelOf 64 = .ok (.dup2, 1) ∧ decode cX12_duelOf 65 = .ok (.iaload, 1) ∧ decode cX12_duelOf 66 = .ok (.iconst 1, 1) ∧ decode cX12_duelOf 67 = .ok (.iadd, 1) := by decide +kernel
theorem e_X12_duelOf_4 : decode cX12_duelOf 68 = .ok (.iastore, 1) ∧ decode cX12_duelOf 69 = .ok (.aload_n 0, 1) ∧ decode cX12_duelOf 70 = .ok (.getfield 68, 3) ∧ decode cX12_duelOf 73 = .ok (.iload 4, 2) ∧ decode cX12_duelOf 75 = .ok (.aload_n 0, 1) ∧ decode cX12_duelOf 76 = .ok (.iload 5, 2) ∧ decode cX12_duelOf 78 = .ok (.iconst 0, 1) ∧ decode cX12_duelOf 79 = .ok (.invokevirtual 268, 3) ∧ decode cX12_duelOf 82 = .ok (.iastore, 1) ∧ decode cX12_duelOf 83 = .ok (.aload_n 0, 1) := by decide +kernel
theorem e_X12_duelOf_5 : decode cX12_duelOf 84 = .ok (.getfield 71, 3) ∧ decode cX12_duelOf 87 = .ok (.iload 4, 2) ∧ decode cX12_duelOf 89 = .ok (.aload_n 0, 1) ∧ decode cX12_duelOf 90 = .ok (.iload 5, 2) ∧ decode cX12_duelOf 92 = .ok (.iconst 1, 1) ∧ decode cX12_duelOf 93 = .ok (.invokevirtual 268, 3) ∧ decode cX12_duelOf 96 = .ok (.iastore, 1) ∧ decode cX12_duelOf 97 = .ok (.aload_n 0, 1) ∧ decode cX12_duelOf 98 = .ok (.iload 5, 2) ∧ decode cX12_duelOf 100 = .ok (.aload_n 0, 1) := by decide +kernel
theorem e_X12_duelOf_6 : decode cX12_duelOf 101 = .ok (.getfield 62, 3) ∧ decode cX12_duelOf 104 = .ok (.iload 4, 2) ∧ decode cX12_duelOf 106 = .ok (.iaload, 1) ∧ decode cX12_duelOf 107 = .ok (.invokevirtual 402, 3) ∧ decode cX12_duelOf 110 = .ok (.istore 6, 2) ∧ decode cX12_duelOf 112 = .ok (.goto (-76), 3) ∧ decode cX12_duelOf 115 = .ok (.iload 6, 2) ∧ decode cX12_duelOf 117 = .ok (.ifCond .eq 27, 3) ∧ decode cX12_duelOf 120 = .ok (.iinc 4 1, 3) ∧ decode cX12_duelOf 123 = .ok (.aload_n 0, 1) := by decide +kernel
theorem e_X12_duelOf_7 : decode cX12_duelOf 124 = .ok (.getfield 62, 3) ∧ decode cX12_duelOf 127 = .ok (.iload 4, 2) ∧ decode cX12_duelOf 129 = .ok (.iconst (-1), 1) ∧ decode cX12_duelOf 130 = .ok (.iastore, 1) ∧ decode cX12_duelOf 131 = .ok (.aload_n 0, 1) ∧ decode cX12_duelOf 132 = .ok (.getfield 65, 3) ∧ decode cX12_duelOf 135 = .ok (.iload 4, 2) ∧ decode cX12_duelOf 137 = .ok (.ldc_w 480, 3) ∧ decode cX12_duelOf 140 = .ok (.iastore, 1) ∧ decode cX12_duelOf 141 = .ok (.goto (-122), 3) := by decide +kernel
theorem e_X12_duelOf_8 : decode cX12_duelOf 144 = .ok (.iload 4, 2) ∧ decode cX12_duelOf 146 = .ok (.iload_n 3, 1) ∧ decode cX12_duelOf 147 = .ok (.if_icmp .ne 25, 3) ∧ decode cX12_duelOf 150 = .ok (.aload_n 0, 1) ∧ decode cX12_duelOf 151 = .ok (.iload_n 1, 1) ∧ decode cX12_duelOf 152 = .ok (.aload_n 0, 1) ∧ decode cX12_duelOf 153 = .ok (.invokevirtual 325, 3) ∧ decode cX12_duelOf 156 = .ok (.invokevirtual 361, 3) ∧ decode cX12_duelOf 159 = .ok (.aload_n 0, 1) ∧ decode cX12_duelOf 160 = .ok (.iload_n 2, 1) := by decide +kernel
theorem e_X12_duelOf_9 : decode cX12_duelOf 161 = .ok (.aload_n 0, 1) ∧ decode cX12_duelOf 162 = .ok (.invokevirtual 325, 3) ∧ decode cX12_duelOf 165 = .ok (.invokevirtual 361, 3) ∧ decode cX12_duelOf 168 = .ok (.isub, 1) ∧ decode cX12_duelOf 169 = .ok (.goto 28, 3) ∧ decode cX12_duelOf 172 = .ok (.iload 4, 2) ∧ decode cX12_duelOf 174 = .ok (.iconst 2, 1) ∧ decode cX12_duelOf 175 = .ok (.irem, 1) ∧ decode cX12_duelOf 176 = .ok (.ifCond .ne 13, 3) ∧ decode cX12_duelOf 179 = .ok (.aload_n 0, 1) := by decide +kernel
theorem e_X12_duelOf_10 : decode cX12_duelOf 180 = .ok (.getfield 65, 3) ∧ decode cX12_duelOf 183 = .ok (.iload 4, 2) ∧ decode cX12_duelOf 185 = .ok (.iaload, 1) ∧ decode cX12_duelOf 186 = .ok (.goto 11, 3) ∧ decode cX12_duelOf 189 = .ok (.aload_n 0, 1) ∧ decode cX12_duelOf 190 = .ok (.getfield 65, 3) ∧ decode cX12_duelOf 193 = .ok (.iload 4, 2) ∧ decode cX12_duelOf 195 = .ok (.iaload, 1) ∧ decode cX12_duelOf 196 = .ok (.ineg, 1) ∧ decode cX12_duelOf 197 = .ok (.istore 7, 2) := by decide +kernel
theorem e_X12_duelOf_11 : decode cX12_duelOf 199 = .ok (.iload 4, 2) ∧ decode cX12_duelOf 201 = .ok (.ifCond .ne 6, 3) ∧ decode cX12_duelOf 204 = .ok (.iload 7, 2) ∧ decode cX12_duelOf 206 = .ok (.ireturn, 1) ∧ decode cX12_duelOf 207 = .ok (.iinc 4 (-1), 3) ∧ decode cX12_duelOf 210 = .ok (.iload 4, 2) ∧ decode cX12_duelOf 212 = .ok (.iconst 2, 1) ∧ decode cX12_duelOf 213 = .ok (.irem, 1) ∧ decode cX12_duelOf 214 = .ok (.ifCond .ne 7, 3) ∧ decode cX12_duelOf 217 = .ok (.iload_n 1, 1) := by decide +kernel
theorem e_X12_duelOf_12 : decode cX12_duelOf 218 = .ok (.goto 4, 3) ∧ decode cX12_duelOf 221 = .ok (.iload_n 2, 1) ∧ decode cX12_duelOf 222 = .ok (.istore 5, 2) ∧ decode cX12_duelOf 224 = .ok (.aload_n 0, 1) ∧ decode cX12_duelOf 225 = .ok (.getfield 7, 3) ∧ decode cX12_duelOf 228 = .ok (.iload 5, 2) ∧ decode cX12_duelOf 230 = .ok (.invokestatic 265, 3) ∧ decode cX12_duelOf 233 = .ok (.aload_n 0, 1) ∧ decode cX12_duelOf 234 = .ok (.getfield 68, 3) ∧ decode cX12_duelOf 237 = .ok (.iload 4, 2) := by decide +kernel
theorem e_X12_duelOf_13 : decode cX12_duelOf 239 = .ok (.iaload, 1) ∧ decode cX12_duelOf 240 = .ok (.iastore, 1) ∧ decode cX12_duelOf 241 = .ok (.aload_n 0, 1) ∧ decode cX12_duelOf 242 = .ok (.getfield 7, 3) ∧ decode cX12_duelOf 245 = .ok (.iload 5, 2) ∧ decode cX12_duelOf 247 = .ok (.invokestatic 265, 3) ∧ decode cX12_duelOf 250 = .ok (.iconst 1, 1) ∧ decode cX12_duelOf 251 = .ok (.iadd, 1) ∧ decode cX12_duelOf 252 = .ok (.aload_n 0, 1) ∧ decode cX12_duelOf 253 = .ok (.getfield 71, 3) := by decide +kernel
theorem e_X12_duelOf_14 : decode cX12_duelOf 256 = .ok (.iload 4, 2) ∧ decode cX12_duelOf 258 = .ok (.iaload, 1) ∧ decode cX12_duelOf 259 = .ok (.iastore, 1) ∧ decode cX12_duelOf 260 = .ok (.iload 4, 2) ∧ decode cX12_duelOf 262 = .ok (.iconst 2, 1) ∧ decode cX12_duelOf 263 = .ok (.irem, 1) ∧ decode cX12_duelOf 264 = .ok (.ifCond .ne 8, 3) ∧ decode cX12_duelOf 267 = .ok (.iload 7, 2) ∧ decode cX12_duelOf 269 = .ok (.goto 6, 3) ∧ decode cX12_duelOf 272 = .ok (.iload 7, 2) := by decide +kernel
theorem e_X12_duelOf_15 : decode cX12_duelOf 274 = .ok (.ineg, 1) ∧ decode cX12_duelOf 275 = .ok (.istore 8, 2) ∧ decode cX12_duelOf 277 = .ok (.iload 8, 2) ∧ decode cX12_duelOf 279 = .ok (.aload_n 0, 1) ∧ decode cX12_duelOf 280 = .ok (.getfield 65, 3) ∧ decode cX12_duelOf 283 = .ok (.iload 4, 2) ∧ decode cX12_duelOf 285 = .ok (.iaload, 1) ∧ decode cX12_duelOf 286 = .ok (.if_icmp .gt 6, 3) ∧ decode cX12_duelOf 289 = .ok (.goto (-270), 3) ∧ decode cX12_duelOf 292 = .ok (.aload_n 0, 1) := by decide +kernel
theorem e_X12_duelOf_16 : decode cX12_duelOf 293 = .ok (.getfield 65, 3) ∧ decode cX12_duelOf 296 = .ok (.iload 4, 2) ∧ decode cX12_duelOf 298 = .ok (.iload 8, 2) ∧ decode cX12_duelOf 300 = .ok (.iastore, 1) ∧ decode cX12_duelOf 301 = .ok (.iload 4, 2) ∧ decode cX12_duelOf 303 = .ok (.ifCond .ne 13, 3) ∧ decode cX12_duelOf 306 = .ok (.aload_n 0, 1) ∧ decode cX12_duelOf 307 = .ok (.aload_n 0, 1) ∧ decode cX12_duelOf 308 = .ok (.getfield 62, 3) ∧ decode cX12_duelOf 311 = .ok (.iconst 0, 1) := by decide +kernel
theorem e_X12_duelOf_17 : decode cX12_duelOf 312 = .ok (.iaload, 1) ∧ decode cX12_duelOf 313 = .ok (.putfield 481, 3) ∧ decode cX12_duelOf 316 = .ok (.goto (-297), 3) := by decide +kernel
abbrev E_X12_duelOf_19 (G : Kg) (l1 l2 l3 l4 : Int) (σ : Kmem) (Q : Int → Kmem → Prop) : Prop := Ex G WM M_X12_duelOf 8 0 0 19 [(0, vA G 0), (1, vI l1), (2, vI l2), (3, vI l3), (4, vI l4)] [] σ Q
abbrev E_X12_duelOf_36 (G : Kg) (l1 l2 l3 l4 l5 l6 : Int) (σ : Kmem) (Q : Int → Kmem → Prop) : Prop := Ex G WM M_X12_duelOf 8 0 0 36 [(0, vA G 0), (1, vI l1), (2, vI l2), (3, vI l3), (4, vI l4), (5, vI l5), (6, vI l6)] [] σ Q
abbrev E_X12_duelOf_115 (G : Kg) (l1 l2 l3 l4 l6 : Int) (σ : Kmem) (Q : Int → Kmem → Prop) : Prop := Ex G WM M_X12_duelOf 8 0 0 115 [(0, vA G 0), (1, vI l1), (2, vI l2), (3, vI l3), (4, vI l4), (6, vI l6)] [] σ Q
abbrev E_X12_duelOf_222 (G : Kg) (l1 l2 l3 l4 l7 p0 : Int) (σ : Kmem) (Q : Int → Kmem → Prop) : Prop := Ex G WM M_X12_duelOf 8 0 0 222 [(0, vA G 0), (1, vI l1), (2, vI l2), (3, vI l3), (4, vI l4), (7, vI l7)] [vI p0] σ Q
theorem S_X12_duelOf {G : Kg} {σ : Kmem} {Q : Int → Kmem → Prop} {l1 l2 l3 : Int}  (h : ∀ s1 : Kmem, s1 = (kup σ 14 0 (-1)) → ∀ s3 : Kmem, s3 = (kup s1 15 0 (-1000000)) → E_X12_duelOf_19 G l1 l2 l3 0 s3 Q) : Run G WM M_X12_duelOf 8 0 0 [vA G 0, vI l1, vI l2, vI l3] σ Q := by
  refine Run.of (by decide +kernel) (by show (4 : Nat) ≤ 9; decide) ?_
  show Ex G WM M_X12_duelOf 8 0 0 0 [(0, vA G 0), (1, vI l1), (2, vI l2), (3, vI l3)] [] σ Q
  refine R_iconst e_X12_duelOf_0.1 ?_
  refine R_istore (ls2 := [(4, vI 0), (0, vA G 0), (1, vI l1), (2, vI l2), (3, vI l3)]) e_X12_duelOf_0.2.1 (by decide) rfl ?_
  refine R_aload_n e_X12_duelOf_0.2.2.1 1 rfl ?_
  refine R_getA 12 30 14 e_X12_duelOf_0.2.2.2.1 f_X12_62 km_0 (fun _ _ => rfl) rm_0_30 (by decide) ?_
  refine R_iconst e_X12_duelOf_0.2.2.2.2.1 ?_
  refine R_iconst e_X12_duelOf_0.2.2.2.2.2.1 ?_
  refine R_iast 5 WM_ok e_X12_duelOf_0.2.2.2.2.2.2.1 kma_14 (by decide) ?_
  obtain ⟨s1, e2⟩ : ∃ z : Kmem, z = (kup σ 14 0 (-1)) := ⟨_, rfl⟩
  rw [← e2]
  replace h := h s1 e2
  refine R_aload_n e_X12_duelOf_0.2.2.2.2.2.2.2.1 1 rfl ?_
  refine R_getA 12 31 15 e_X12_duelOf_0.2.2.2.2.2.2.2.2.1 f_X12_65 km_0 (fun _ _ => rfl) rm_0_31 (by decide) ?_
  refine R_iconst e_X12_duelOf_0.2.2.2.2.2.2.2.2.2 ?_
  refine R_ldc_w (-1000000) k_X12_480 e_X12_duelOf_1.1 ?_
  refine R_iast 5 WM_ok e_X12_duelOf_1.2.1 kma_15 (by decide) ?_
  obtain ⟨s3, e4⟩ : ∃ z : Kmem, z = (kup s1 15 0 (-1000000)) := ⟨_, rfl⟩
  rw [← e4]
  replace h := h s3 e4
  refine R_ls (ls2 := [(0, vA G 0), (1, vI l1), (2, vI l2), (3, vI l3), (4, vI 0)]) [1, 2, 3, 4, 0] rfl ?_
  exact h
theorem S_X12_duelOf_19 {G : Kg} {σ : Kmem} {Q : Int → Kmem → Prop} {l1 l2 l3 l4 : Int}  (h : (0 ≤ l4 ∧ l4 ≤ 2147483647) ∧ (rI (l4 % 2)) ∧ ((l4 % 2 ≠ 0 → E_X12_duelOf_36 G l1 l2 l3 l4 l2 0 σ Q) ∧ (l4 % 2 = 0 → E_X12_duelOf_36 G l1 l2 l3 l4 l1 0 σ Q))) : E_X12_duelOf_19 G l1 l2 l3 l4 σ Q := by
  refine R_iload e_X12_duelOf_1.2.2.1 4 rfl ?_
  refine R_iconst e_X12_duelOf_1.2.2.2.1 ?_
  obtain ⟨q5, h⟩ := h
  refine R_irem e_X12_duelOf_1.2.2.2.2.1 q5 (by decide) ?_
  obtain ⟨q6, h⟩ := h
  refine R_if_ne 30 e_X12_duelOf_1.2.2.2.2.2.1 (by decide) q6  (fun q => ?_) (fun q => ?_)
  · replace h := h.1 q
    refine R_iload_n e_X12_duelOf_1.2.2.2.2.2.2.2.2.1 2 rfl ?_
    refine R_istore (ls2 := [(5, vI l2), (0, vA G 0), (1, vI l1), (2, vI l2), (3, vI l3), (4, vI l4)]) e_X12_duelOf_1.2.2.2.2.2.2.2.2.2 (by decide) rfl ?_
    refine R_iconst e_X12_duelOf_2.1 ?_
    refine R_istore (ls2 := [(6, vI 0), (5, vI l2), (0, vA G 0), (1, vI l1), (2, vI l2), (3, vI l3), (4, vI l4)]) e_X12_duelOf_2.2.1 (by decide) rfl ?_
    refine R_ls (ls2 := [(0, vA G 0), (1, vI l1), (2, vI l2), (3, vI l3), (4, vI l4), (5, vI l2), (6, vI 0)]) [2, 3, 4, 5, 6, 1, 0] rfl ?_
    exact h
  · replace h := h.2 q
    refine R_iload_n e_X12_duelOf_1.2.2.2.2.2.2.1 1 rfl ?_
    refine R_goto 31 e_X12_duelOf_1.2.2.2.2.2.2.2.1 (by decide) ?_
    refine R_istore (ls2 := [(5, vI l1), (0, vA G 0), (1, vI l1), (2, vI l2), (3, vI l3), (4, vI l4)]) e_X12_duelOf_1.2.2.2.2.2.2.2.2.2 (by decide) rfl ?_
    refine R_iconst e_X12_duelOf_2.1 ?_
    refine R_istore (ls2 := [(6, vI 0), (5, vI l1), (0, vA G 0), (1, vI l1), (2, vI l2), (3, vI l3), (4, vI l4)]) e_X12_duelOf_2.2.1 (by decide) rfl ?_
    refine R_ls (ls2 := [(0, vA G 0), (1, vI l1), (2, vI l2), (3, vI l3), (4, vI l4), (5, vI l1), (6, vI 0)]) [2, 3, 4, 5, 6, 1, 0] rfl ?_
    exact h
theorem S_X12_duelOf_36 {G : Kg} {σ : Kmem} {Q : Int → Kmem → Prop} {l1 l2 l3 l4 l5 l6 : Int}  (h : (rI l4) ∧ (rI l3) ∧ ((l3 ≤ l4 → E_X12_duelOf_115 G l1 l2 l3 l4 l6 σ Q) ∧ (l4 < l3 → (rI l6) ∧ ((l6 ≠ 0 → E_X12_duelOf_115 G l1 l2 l3 l4 l6 σ Q) ∧ (l6 = 0 → (0 ≤ l4 ∧ l4 < 5) ∧ (rI (σ 14 l4)) ∧ ((4 ≤ σ 14 l4 → E_X12_duelOf_115 G l1 l2 l3 l4 l6 σ Q) ∧ (σ 14 l4 < 4 → (0 ≤ l4 ∧ l4 < 5) ∧ (0 ≤ l4 ∧ l4 < 5) ∧ ∀ s14 : Kmem, s14 = (kup σ 14 l4 ((σ 14 l4) + 1)) → (0 ≤ (34 + (9 * l5)) + 0 ∧ (34 + (9 * l5)) + 0 < 3598) ∧ (0 ≤ l4 ∧ l4 < 5) ∧ ∀ s22 : Kmem, s22 = (kup s14 16 l4 (s14 1 ((34 + (9 * l5)) + 0))) → (0 ≤ (34 + (9 * l5)) + 1 ∧ (34 + (9 * l5)) + 1 < 3598) ∧ (0 ≤ l4 ∧ l4 < 5) ∧ ∀ s30 : Kmem, s30 = (kup s22 17 l4 (s22 1 ((34 + (9 * l5)) + 1))) → (0 ≤ l4 ∧ l4 < 5) ∧ (wf (s30 1) ∧ sKt (s30 1) (l5) ∧ rI ((s30 14 l4))) ∧ E_X12_duelOf_36 G l1 l2 l3 l4 l5 (kb (sMay (s30 1) (l5) ((s30 14 l4)))) (kst s30 1 (kif (sMay (s30 1) (l5) ((s30 14 l4))) (sWalk (s30 1) (l5) ((s30 14 l4))) (s30 1))) Q))))))) : E_X12_duelOf_36 G l1 l2 l3 l4 l5 l6 σ Q := by
  refine R_iload e_X12_duelOf_2.2.2.1 4 rfl ?_
  refine R_iload_n e_X12_duelOf_2.2.2.2.1 3 rfl ?_
  obtain ⟨q7, h⟩ := h
  obtain ⟨q8, h⟩ := h
  refine R_icmp_ge 115 e_X12_duelOf_2.2.2.2.2.1 (by decide) q7 q8 (fun q => ?_) (fun q => ?_)
  · replace h := h.1 q
    refine R_ls (ls2 := [(0, vA G 0), (1, vI l1), (2, vI l2), (3, vI l3), (4, vI l4), (6, vI l6)]) [0, 1, 2, 3, 4, 6] rfl ?_
    exact h
  · replace h := h.2 q
    refine R_iload e_X12_duelOf_2.2.2.2.2.2.1 6 rfl ?_
    obtain ⟨q9, h⟩ := h
    refine R_if_ne 115 e_X12_duelOf_2.2.2.2.2.2.2.1 (by decide) q9  (fun q => ?_) (fun q => ?_)
    · replace h := h.1 q
      refine R_ls (ls2 := [(0, vA G 0), (1, vI l1), (2, vI l2), (3, vI l3), (4, vI l4), (6, vI l6)]) [0, 1, 2, 3, 4, 6] rfl ?_
      exact h
    · replace h := h.2 q
      refine R_aload_n e_X12_duelOf_2.2.2.2.2.2.2.2.1 0 rfl ?_
      refine R_getA 12 30 14 e_X12_duelOf_2.2.2.2.2.2.2.2.2.1 f_X12_62 km_0 (fun _ _ => rfl) rm_0_30 (by decide) ?_
      refine R_iload e_X12_duelOf_2.2.2.2.2.2.2.2.2.2 4 rfl ?_
      obtain ⟨q10, h⟩ := h
      refine R_iald 5 e_X12_duelOf_3.1 kma_14 q10 ?_
      refine R_iconst e_X12_duelOf_3.2.1 ?_
      obtain ⟨q11, h⟩ := h
      refine R_icmp_ge 115 e_X12_duelOf_3.2.2.1 (by decide) q11 (by decide) (fun q => ?_) (fun q => ?_)
      · replace h := h.1 q
        refine R_ls (ls2 := [(0, vA G 0), (1, vI l1), (2, vI l2), (3, vI l3), (4, vI l4), (6, vI l6)]) [0, 1, 2, 3, 4, 6] rfl ?_
        exact h
      · replace h := h.2 q
        refine R_aload_n e_X12_duelOf_3.2.2.2.1 0 rfl ?_
        refine R_getA 12 30 14 e_X12_duelOf_3.2.2.2.2.1 f_X12_62 km_0 (fun _ _ => rfl) rm_0_30 (by decide) ?_
        refine R_iload e_X12_duelOf_3.2.2.2.2.2.1 4 rfl ?_
        refine R_dup2 e_X12_duelOf_3.2.2.2.2.2.2.1 rfl rfl ?_
        obtain ⟨q12, h⟩ := h
        refine R_iald 5 e_X12_duelOf_3.2.2.2.2.2.2.2.1 kma_14 q12 ?_
        refine R_iconst e_X12_duelOf_3.2.2.2.2.2.2.2.2.1 ?_
        refine R_iadd e_X12_duelOf_3.2.2.2.2.2.2.2.2.2 ?_
        obtain ⟨q13, h⟩ := h
        refine R_iast 5 WM_ok e_X12_duelOf_4.1 kma_14 q13 ?_
        obtain ⟨s14, e15⟩ : ∃ z : Kmem, z = (kup σ 14 l4 ((σ 14 l4) + 1)) := ⟨_, rfl⟩
        rw [← e15]
        replace h := h s14 e15
        refine R_aload_n e_X12_duelOf_4.2.1 0 rfl ?_
        refine R_getA 12 32 16 e_X12_duelOf_4.2.2.1 f_X12_68 km_0 (fun _ _ => rfl) rm_0_32 (by decide) ?_
        refine R_iload e_X12_duelOf_4.2.2.2.1 4 rfl ?_
        refine R_aload_n e_X12_duelOf_4.2.2.2.2.1 0 rfl ?_
        refine R_iload e_X12_duelOf_4.2.2.2.2.2.1 5 rfl ?_
        refine R_iconst e_X12_duelOf_4.2.2.2.2.2.2.1 ?_
        refine R_callV (mc := 0) (ms := 0) (mc' := 0) (ms' := 0) (M' := M_X12_of) (d' := 1) (as := [vI l5, vI 0]) (st := [vI l4, vA G 16]) 12 2 e_X12_duelOf_4.2.2.2.2.2.2.2.1 (kCVof m_X12_of l_X12_268) rfl (by decide) km_0 (by decide) (by decide) rfl rfl (by show (2 : Nat) ≤ 8; decide) ?_
        obtain ⟨q20, h⟩ := h
        refine S_X12_of ⟨q20, ?_⟩
        refine R_eqs (st2 := [vI (s14 1 ((34 + (9 * l5)) + 0)), vI l4, vA G 16]) (σ2 := s14) rfl rfl ?_
        obtain ⟨q21, h⟩ := h
        refine R_iast 5 WM_ok e_X12_duelOf_4.2.2.2.2.2.2.2.2.1 kma_16 q21 ?_
        obtain ⟨s22, e23⟩ : ∃ z : Kmem, z = (kup s14 16 l4 (s14 1 ((34 + (9 * l5)) + 0))) := ⟨_, rfl⟩
        rw [← e23]
        replace h := h s22 e23
        refine R_aload_n e_X12_duelOf_4.2.2.2.2.2.2.2.2.2 0 rfl ?_
        refine R_getA 12 33 17 e_X12_duelOf_5.1 f_X12_71 km_0 (fun _ _ => rfl) rm_0_33 (by decide) ?_
        refine R_iload e_X12_duelOf_5.2.1 4 rfl ?_
        refine R_aload_n e_X12_duelOf_5.2.2.1 0 rfl ?_
        refine R_iload e_X12_duelOf_5.2.2.2.1 5 rfl ?_
        refine R_iconst e_X12_duelOf_5.2.2.2.2.1 ?_
        refine R_callV (mc := 0) (ms := 0) (mc' := 0) (ms' := 0) (M' := M_X12_of) (d' := 1) (as := [vI l5, vI 1]) (st := [vI l4, vA G 17]) 12 2 e_X12_duelOf_5.2.2.2.2.2.1 (kCVof m_X12_of l_X12_268) rfl (by decide) km_0 (by decide) (by decide) rfl rfl (by show (2 : Nat) ≤ 8; decide) ?_
        obtain ⟨q28, h⟩ := h
        refine S_X12_of ⟨q28, ?_⟩
        refine R_eqs (st2 := [vI (s22 1 ((34 + (9 * l5)) + 1)), vI l4, vA G 17]) (σ2 := s22) rfl rfl ?_
        obtain ⟨q29, h⟩ := h
        refine R_iast 5 WM_ok e_X12_duelOf_5.2.2.2.2.2.2.1 kma_17 q29 ?_
        obtain ⟨s30, e31⟩ : ∃ z : Kmem, z = (kup s22 17 l4 (s22 1 ((34 + (9 * l5)) + 1))) := ⟨_, rfl⟩
        rw [← e31]
        replace h := h s30 e31
        refine R_aload_n e_X12_duelOf_5.2.2.2.2.2.2.2.1 0 rfl ?_
        refine R_iload e_X12_duelOf_5.2.2.2.2.2.2.2.2.1 5 rfl ?_
        refine R_aload_n e_X12_duelOf_5.2.2.2.2.2.2.2.2.2 0 rfl ?_
        refine R_getA 12 30 14 e_X12_duelOf_6.1 f_X12_62 km_0 (fun _ _ => rfl) rm_0_30 (by decide) ?_
        refine R_iload e_X12_duelOf_6.2.1 4 rfl ?_
        obtain ⟨q32, h⟩ := h
        refine R_iald 5 e_X12_duelOf_6.2.2.1 kma_14 q32 ?_
        obtain ⟨q35, h⟩ := h
        refine R_callV (mc := 0) (ms := 0) (mc' := 0) (ms' := 0) (M' := M_X12_walks) (d' := 2) (as := [vI l5, vI (s30 14 l4)]) (st := []) 12 2 e_X12_duelOf_6.2.2.2.1 (kCVof m_X12_walks l_X12_402) rfl (by decide) km_0 (by decide) (by decide) rfl rfl (by show (0 : Nat) ≤ 8; decide) ?_
        refine Run.mono (P_X12_walks q35) (fun r s e => ?_)
        obtain ⟨e1, e2⟩ := e
        refine R_eqs (st2 := [vI (kb (sMay (s30 1) (l5) ((s30 14 l4))))]) (σ2 := (kst s30 1 (kif (sMay (s30 1) (l5) ((s30 14 l4))) (sWalk (s30 1) (l5) ((s30 14 l4))) (s30 1)))) (by rw [e1]; rfl) e2 ?_
        refine R_istore (ls2 := [(6, vI (kb (sMay (s30 1) (l5) ((s30 14 l4))))), (0, vA G 0), (1, vI l1), (2, vI l2), (3, vI l3), (4, vI l4), (5, vI l5)]) e_X12_duelOf_6.2.2.2.2.1 (by decide) rfl ?_
        refine R_goto 36 e_X12_duelOf_6.2.2.2.2.2.1 (by decide) ?_
        refine R_ls (ls2 := [(0, vA G 0), (1, vI l1), (2, vI l2), (3, vI l3), (4, vI l4), (5, vI l5), (6, vI (kb (sMay (s30 1) (l5) ((s30 14 l4)))))]) [1, 2, 3, 4, 5, 6, 0] rfl ?_
        exact h
theorem S_X12_duelOf_115 {G : Kg} {σ : Kmem} {Q : Int → Kmem → Prop} {l1 l2 l3 l4 l6 : Int}  (h : (rI l6) ∧ ((l6 = 0 → (rI l4) ∧ (rI l3) ∧ ((l4 ≠ l3 → (0 ≤ l4 ∧ l4 ≤ 2147483647) ∧ (rI (l4 % 2)) ∧ ((l4 % 2 ≠ 0 → (0 ≤ l4 ∧ l4 < 5) ∧ ((l4 ≠ 0 → (0 ≤ l4 + (-1) ∧ l4 + (-1) ≤ 2147483647) ∧ (rI ((l4 + (-1)) % 2)) ∧ (((l4 + (-1)) % 2 ≠ 0 → E_X12_duelOf_222 G l1 l2 l3 (l4 + (-1)) (-(σ 15 l4)) l2 σ Q) ∧ ((l4 + (-1)) % 2 = 0 → E_X12_duelOf_222 G l1 l2 l3 (l4 + (-1)) (-(σ 15 l4)) l1 σ Q))) ∧ (l4 = 0 → Q (-(σ 15 l4)) σ))) ∧ (l4 % 2 = 0 → (0 ≤ l4 ∧ l4 < 5) ∧ ((l4 ≠ 0 → (0 ≤ l4 + (-1) ∧ l4 + (-1) ≤ 2147483647) ∧ (rI ((l4 + (-1)) % 2)) ∧ (((l4 + (-1)) % 2 ≠ 0 → E_X12_duelOf_222 G l1 l2 l3 (l4 + (-1)) (σ 15 l4) l2 σ Q) ∧ ((l4 + (-1)) % 2 = 0 → E_X12_duelOf_222 G l1 l2 l3 (l4 + (-1)) (σ 15 l4) l1 σ Q))) ∧ (l4 = 0 → Q (σ 15 l4) σ))))) ∧ (l4 = l3 → (0 ≤ σ 1 7 ∧ σ 1 7 ≤ 2147483647) ∧ (wf (σ 1) ∧ rI (l1) ∧ sHr (((σ 1 7) % 12))) ∧ (0 ≤ σ 1 7 ∧ σ 1 7 ≤ 2147483647) ∧ (wf (σ 1) ∧ rI (l2) ∧ sHr (((σ 1 7) % 12))) ∧ ((l4 ≠ 0 → (0 ≤ l4 + (-1) ∧ l4 + (-1) ≤ 2147483647) ∧ (rI ((l4 + (-1)) % 2)) ∧ (((l4 + (-1)) % 2 ≠ 0 → E_X12_duelOf_222 G l1 l2 l3 (l4 + (-1)) ((sEst (σ 1) (l1) (((σ 1 7) % 12))) - (sEst (σ 1) (l2) (((σ 1 7) % 12)))) l2 σ Q) ∧ ((l4 + (-1)) % 2 = 0 → E_X12_duelOf_222 G l1 l2 l3 (l4 + (-1)) ((sEst (σ 1) (l1) (((σ 1 7) % 12))) - (sEst (σ 1) (l2) (((σ 1 7) % 12)))) l1 σ Q))) ∧ (l4 = 0 → Q ((sEst (σ 1) (l1) (((σ 1 7) % 12))) - (sEst (σ 1) (l2) (((σ 1 7) % 12)))) σ))))) ∧ (l6 ≠ 0 → (0 ≤ l4 + 1 ∧ l4 + 1 < 5) ∧ ∀ s62 : Kmem, s62 = (kup σ 14 (l4 + 1) (-1)) → (0 ≤ l4 + 1 ∧ l4 + 1 < 5) ∧ ∀ s65 : Kmem, s65 = (kup s62 15 (l4 + 1) (-1000000)) → E_X12_duelOf_19 G l1 l2 l3 (l4 + 1) s65 Q))) : E_X12_duelOf_115 G l1 l2 l3 l4 l6 σ Q := by
  refine R_iload e_X12_duelOf_6.2.2.2.2.2.2.1 5 rfl ?_
  obtain ⟨q36, h⟩ := h
  refine R_if_eq 144 e_X12_duelOf_6.2.2.2.2.2.2.2.1 (by decide) q36  (fun q => ?_) (fun q => ?_)
  · replace h := h.1 q
    refine R_iload e_X12_duelOf_8.1 4 rfl ?_
    refine R_iload_n e_X12_duelOf_8.2.1 3 rfl ?_
    obtain ⟨q37, h⟩ := h
    obtain ⟨q38, h⟩ := h
    refine R_icmp_ne 172 e_X12_duelOf_8.2.2.1 (by decide) q37 q38 (fun q => ?_) (fun q => ?_)
    · replace h := h.1 q
      refine R_iload e_X12_duelOf_9.2.2.2.2.2.1 4 rfl ?_
      refine R_iconst e_X12_duelOf_9.2.2.2.2.2.2.1 ?_
      obtain ⟨q39, h⟩ := h
      refine R_irem e_X12_duelOf_9.2.2.2.2.2.2.2.1 q39 (by decide) ?_
      obtain ⟨q40, h⟩ := h
      refine R_if_ne 189 e_X12_duelOf_9.2.2.2.2.2.2.2.2.1 (by decide) q40  (fun q => ?_) (fun q => ?_)
      · replace h := h.1 q
        refine R_aload_n e_X12_duelOf_10.2.2.2.2.1 0 rfl ?_
        refine R_getA 12 31 15 e_X12_duelOf_10.2.2.2.2.2.1 f_X12_65 km_0 (fun _ _ => rfl) rm_0_31 (by decide) ?_
        refine R_iload e_X12_duelOf_10.2.2.2.2.2.2.1 4 rfl ?_
        obtain ⟨q41, h⟩ := h
        refine R_iald 5 e_X12_duelOf_10.2.2.2.2.2.2.2.1 kma_15 q41 ?_
        refine R_ineg e_X12_duelOf_10.2.2.2.2.2.2.2.2.1 ?_
        refine R_istore (ls2 := [(7, vI (-(σ 15 l4))), (0, vA G 0), (1, vI l1), (2, vI l2), (3, vI l3), (4, vI l4), (6, vI l6)]) e_X12_duelOf_10.2.2.2.2.2.2.2.2.2 (by decide) rfl ?_
        refine R_iload e_X12_duelOf_11.1 5 rfl ?_
        refine R_if_ne 207 e_X12_duelOf_11.2.1 (by decide) q37  (fun q => ?_) (fun q => ?_)
        · replace h := h.1 q
          refine R_iinc (ls2 := [(4, vI (l4 + (-1))), (7, vI (-(σ 15 l4))), (0, vA G 0), (1, vI l1), (2, vI l2), (3, vI l3), (6, vI l6)]) e_X12_duelOf_11.2.2.2.2.1 5 rfl (by decide) rfl ?_
          refine R_iload e_X12_duelOf_11.2.2.2.2.2.1 0 rfl ?_
          refine R_iconst e_X12_duelOf_11.2.2.2.2.2.2.1 ?_
          obtain ⟨q42, h⟩ := h
          refine R_irem e_X12_duelOf_11.2.2.2.2.2.2.2.1 q42 (by decide) ?_
          obtain ⟨q43, h⟩ := h
          refine R_if_ne 221 e_X12_duelOf_11.2.2.2.2.2.2.2.2.1 (by decide) q43  (fun q => ?_) (fun q => ?_)
          · replace h := h.1 q
            refine R_iload_n e_X12_duelOf_12.2.1 4 rfl ?_
            refine R_ls (ls2 := [(0, vA G 0), (1, vI l1), (2, vI l2), (3, vI l3), (4, vI (l4 + (-1))), (7, vI (-(σ 15 l4)))]) [2, 3, 4, 5, 0, 1] rfl ?_
            exact h
          · replace h := h.2 q
            refine R_iload_n e_X12_duelOf_11.2.2.2.2.2.2.2.2.2 3 rfl ?_
            refine R_goto 222 e_X12_duelOf_12.1 (by decide) ?_
            refine R_ls (ls2 := [(0, vA G 0), (1, vI l1), (2, vI l2), (3, vI l3), (4, vI (l4 + (-1))), (7, vI (-(σ 15 l4)))]) [2, 3, 4, 5, 0, 1] rfl ?_
            exact h
        · replace h := h.2 q
          refine R_iload e_X12_duelOf_11.2.2.1 0 rfl ?_
          exact R_ireturn e_X12_duelOf_11.2.2.2.1 rfl h
      · replace h := h.2 q
        refine R_aload_n e_X12_duelOf_9.2.2.2.2.2.2.2.2.2 0 rfl ?_
        refine R_getA 12 31 15 e_X12_duelOf_10.1 f_X12_65 km_0 (fun _ _ => rfl) rm_0_31 (by decide) ?_
        refine R_iload e_X12_duelOf_10.2.1 4 rfl ?_
        obtain ⟨q44, h⟩ := h
        refine R_iald 5 e_X12_duelOf_10.2.2.1 kma_15 q44 ?_
        refine R_goto 197 e_X12_duelOf_10.2.2.2.1 (by decide) ?_
        refine R_istore (ls2 := [(7, vI (σ 15 l4)), (0, vA G 0), (1, vI l1), (2, vI l2), (3, vI l3), (4, vI l4), (6, vI l6)]) e_X12_duelOf_10.2.2.2.2.2.2.2.2.2 (by decide) rfl ?_
        refine R_iload e_X12_duelOf_11.1 5 rfl ?_
        refine R_if_ne 207 e_X12_duelOf_11.2.1 (by decide) q37  (fun q => ?_) (fun q => ?_)
        · replace h := h.1 q
          refine R_iinc (ls2 := [(4, vI (l4 + (-1))), (7, vI (σ 15 l4)), (0, vA G 0), (1, vI l1), (2, vI l2), (3, vI l3), (6, vI l6)]) e_X12_duelOf_11.2.2.2.2.1 5 rfl (by decide) rfl ?_
          refine R_iload e_X12_duelOf_11.2.2.2.2.2.1 0 rfl ?_
          refine R_iconst e_X12_duelOf_11.2.2.2.2.2.2.1 ?_
          obtain ⟨q45, h⟩ := h
          refine R_irem e_X12_duelOf_11.2.2.2.2.2.2.2.1 q45 (by decide) ?_
          obtain ⟨q46, h⟩ := h
          refine R_if_ne 221 e_X12_duelOf_11.2.2.2.2.2.2.2.2.1 (by decide) q46  (fun q => ?_) (fun q => ?_)
          · replace h := h.1 q
            refine R_iload_n e_X12_duelOf_12.2.1 4 rfl ?_
            refine R_ls (ls2 := [(0, vA G 0), (1, vI l1), (2, vI l2), (3, vI l3), (4, vI (l4 + (-1))), (7, vI (σ 15 l4))]) [2, 3, 4, 5, 0, 1] rfl ?_
            exact h
          · replace h := h.2 q
            refine R_iload_n e_X12_duelOf_11.2.2.2.2.2.2.2.2.2 3 rfl ?_
            refine R_goto 222 e_X12_duelOf_12.1 (by decide) ?_
            refine R_ls (ls2 := [(0, vA G 0), (1, vI l1), (2, vI l2), (3, vI l3), (4, vI (l4 + (-1))), (7, vI (σ 15 l4))]) [2, 3, 4, 5, 0, 1] rfl ?_
            exact h
        · replace h := h.2 q
          refine R_iload e_X12_duelOf_11.2.2.1 0 rfl ?_
          exact R_ireturn e_X12_duelOf_11.2.2.2.1 rfl h
    · replace h := h.2 q
      refine R_aload_n e_X12_duelOf_8.2.2.2.1 0 rfl ?_
      refine R_iload_n e_X12_duelOf_8.2.2.2.2.1 1 rfl ?_
      refine R_aload_n e_X12_duelOf_8.2.2.2.2.2.1 0 rfl ?_
      refine R_callV (mc := 0) (ms := 0) (mc' := 0) (ms' := 0) (M' := M_X12_now) (d' := 0) (as := []) (st := [vI l1, vA G 0]) 12 0 e_X12_duelOf_8.2.2.2.2.2.2.1 (kCVof m_X12_now l_X12_325) rfl (by decide) km_0 (by decide) (by decide) rfl rfl (by show (2 : Nat) ≤ 8; decide) ?_
      obtain ⟨q49, h⟩ := h
      refine S_X12_now ⟨q49, ?_⟩
      refine R_eqs (st2 := [vI ((σ 1 7) % 12), vI l1, vA G 0]) (σ2 := σ) rfl rfl ?_
      obtain ⟨q52, h⟩ := h
      refine R_callV (mc := 0) (ms := 0) (mc' := 0) (ms' := 0) (M' := M_X12_estateOf) (d' := 7) (as := [vI l1, vI ((σ 1 7) % 12)]) (st := []) 12 2 e_X12_duelOf_8.2.2.2.2.2.2.2.1 (kCVof m_X12_estateOf l_X12_361) rfl (by decide) km_0 (by decide) (by decide) rfl rfl (by show (0 : Nat) ≤ 8; decide) ?_
      refine Run.mono (P_X12_estateOf q52) (fun r s e => ?_)
      obtain ⟨e1, e2⟩ := e
      refine R_eqs (st2 := [vI (sEst (σ 1) (l1) (((σ 1 7) % 12)))]) (σ2 := σ) (by rw [e1]; rfl) e2 ?_
      refine R_aload_n e_X12_duelOf_8.2.2.2.2.2.2.2.2.1 0 rfl ?_
      refine R_iload_n e_X12_duelOf_8.2.2.2.2.2.2.2.2.2 2 rfl ?_
      refine R_aload_n e_X12_duelOf_9.1 0 rfl ?_
      refine R_callV (mc := 0) (ms := 0) (mc' := 0) (ms' := 0) (M' := M_X12_now) (d' := 0) (as := []) (st := [vI l2, vA G 0, vI (sEst (σ 1) (l1) (((σ 1 7) % 12)))]) 12 0 e_X12_duelOf_9.2.1 (kCVof m_X12_now l_X12_325) rfl (by decide) km_0 (by decide) (by decide) rfl rfl (by show (3 : Nat) ≤ 8; decide) ?_
      obtain ⟨q55, h⟩ := h
      refine S_X12_now ⟨q55, ?_⟩
      refine R_eqs (st2 := [vI ((σ 1 7) % 12), vI l2, vA G 0, vI (sEst (σ 1) (l1) (((σ 1 7) % 12)))]) (σ2 := σ) rfl rfl ?_
      obtain ⟨q58, h⟩ := h
      refine R_callV (mc := 0) (ms := 0) (mc' := 0) (ms' := 0) (M' := M_X12_estateOf) (d' := 7) (as := [vI l2, vI ((σ 1 7) % 12)]) (st := [vI (sEst (σ 1) (l1) (((σ 1 7) % 12)))]) 12 2 e_X12_duelOf_9.2.2.1 (kCVof m_X12_estateOf l_X12_361) rfl (by decide) km_0 (by decide) (by decide) rfl rfl (by show (1 : Nat) ≤ 8; decide) ?_
      refine Run.mono (P_X12_estateOf q58) (fun r s e => ?_)
      obtain ⟨e1, e2⟩ := e
      refine R_eqs (st2 := [vI (sEst (σ 1) (l2) (((σ 1 7) % 12))), vI (sEst (σ 1) (l1) (((σ 1 7) % 12)))]) (σ2 := σ) (by rw [e1]; rfl) e2 ?_
      refine R_isub e_X12_duelOf_9.2.2.2.1 ?_
      refine R_goto 197 e_X12_duelOf_9.2.2.2.2.1 (by decide) ?_
      refine R_istore (ls2 := [(7, vI ((sEst (σ 1) (l1) (((σ 1 7) % 12))) - (sEst (σ 1) (l2) (((σ 1 7) % 12))))), (0, vA G 0), (1, vI l1), (2, vI l2), (3, vI l3), (4, vI l4), (6, vI l6)]) e_X12_duelOf_10.2.2.2.2.2.2.2.2.2 (by decide) rfl ?_
      refine R_iload e_X12_duelOf_11.1 5 rfl ?_
      refine R_if_ne 207 e_X12_duelOf_11.2.1 (by decide) q37  (fun q => ?_) (fun q => ?_)
      · replace h := h.1 q
        refine R_iinc (ls2 := [(4, vI (l4 + (-1))), (7, vI ((sEst (σ 1) (l1) (((σ 1 7) % 12))) - (sEst (σ 1) (l2) (((σ 1 7) % 12))))), (0, vA G 0), (1, vI l1), (2, vI l2), (3, vI l3), (6, vI l6)]) e_X12_duelOf_11.2.2.2.2.1 5 rfl (by decide) rfl ?_
        refine R_iload e_X12_duelOf_11.2.2.2.2.2.1 0 rfl ?_
        refine R_iconst e_X12_duelOf_11.2.2.2.2.2.2.1 ?_
        obtain ⟨q59, h⟩ := h
        refine R_irem e_X12_duelOf_11.2.2.2.2.2.2.2.1 q59 (by decide) ?_
        obtain ⟨q60, h⟩ := h
        refine R_if_ne 221 e_X12_duelOf_11.2.2.2.2.2.2.2.2.1 (by decide) q60  (fun q => ?_) (fun q => ?_)
        · replace h := h.1 q
          refine R_iload_n e_X12_duelOf_12.2.1 4 rfl ?_
          refine R_ls (ls2 := [(0, vA G 0), (1, vI l1), (2, vI l2), (3, vI l3), (4, vI (l4 + (-1))), (7, vI ((sEst (σ 1) (l1) (((σ 1 7) % 12))) - (sEst (σ 1) (l2) (((σ 1 7) % 12)))))]) [2, 3, 4, 5, 0, 1] rfl ?_
          exact h
        · replace h := h.2 q
          refine R_iload_n e_X12_duelOf_11.2.2.2.2.2.2.2.2.2 3 rfl ?_
          refine R_goto 222 e_X12_duelOf_12.1 (by decide) ?_
          refine R_ls (ls2 := [(0, vA G 0), (1, vI l1), (2, vI l2), (3, vI l3), (4, vI (l4 + (-1))), (7, vI ((sEst (σ 1) (l1) (((σ 1 7) % 12))) - (sEst (σ 1) (l2) (((σ 1 7) % 12)))))]) [2, 3, 4, 5, 0, 1] rfl ?_
          exact h
      · replace h := h.2 q
        refine R_iload e_X12_duelOf_11.2.2.1 0 rfl ?_
        exact R_ireturn e_X12_duelOf_11.2.2.2.1 rfl h
  · replace h := h.2 q
    refine R_iinc (ls2 := [(4, vI (l4 + 1)), (0, vA G 0), (1, vI l1), (2, vI l2), (3, vI l3), (6, vI l6)]) e_X12_duelOf_6.2.2.2.2.2.2.2.2.1 4 rfl (by decide) rfl ?_
    refine R_aload_n e_X12_duelOf_6.2.2.2.2.2.2.2.2.2 1 rfl ?_
    refine R_getA 12 30 14 e_X12_duelOf_7.1 f_X12_62 km_0 (fun _ _ => rfl) rm_0_30 (by decide) ?_
    refine R_iload e_X12_duelOf_7.2.1 0 rfl ?_
    refine R_iconst e_X12_duelOf_7.2.2.1 ?_
    obtain ⟨q61, h⟩ := h
    refine R_iast 5 WM_ok e_X12_duelOf_7.2.2.2.1 kma_14 q61 ?_
    obtain ⟨s62, e63⟩ : ∃ z : Kmem, z = (kup σ 14 (l4 + 1) (-1)) := ⟨_, rfl⟩
    rw [← e63]
    replace h := h s62 e63
    refine R_aload_n e_X12_duelOf_7.2.2.2.2.1 1 rfl ?_
    refine R_getA 12 31 15 e_X12_duelOf_7.2.2.2.2.2.1 f_X12_65 km_0 (fun _ _ => rfl) rm_0_31 (by decide) ?_
    refine R_iload e_X12_duelOf_7.2.2.2.2.2.2.1 0 rfl ?_
    refine R_ldc_w (-1000000) k_X12_480 e_X12_duelOf_7.2.2.2.2.2.2.2.1 ?_
    obtain ⟨q64, h⟩ := h
    refine R_iast 5 WM_ok e_X12_duelOf_7.2.2.2.2.2.2.2.2.1 kma_15 q64 ?_
    obtain ⟨s65, e66⟩ : ∃ z : Kmem, z = (kup s62 15 (l4 + 1) (-1000000)) := ⟨_, rfl⟩
    rw [← e66]
    replace h := h s65 e66
    refine R_goto 19 e_X12_duelOf_7.2.2.2.2.2.2.2.2.2 (by decide) ?_
    refine R_ls (ls2 := [(0, vA G 0), (1, vI l1), (2, vI l2), (3, vI l3), (4, vI (l4 + 1))]) [1, 2, 3, 4, 0] rfl ?_
    exact h
theorem S_X12_duelOf_222 {G : Kg} {σ : Kmem} {Q : Int → Kmem → Prop} {l1 l2 l3 l4 l7 p0 : Int}  (h : (0 ≤ l4 ∧ l4 < 5) ∧ (0 ≤ 34 + (9 * p0) ∧ 34 + (9 * p0) < 3598) ∧ ∀ s71 : Kmem, s71 = (kup σ 1 (34 + (9 * p0)) (σ 16 l4)) → (0 ≤ l4 ∧ l4 < 5) ∧ (0 ≤ (34 + (9 * p0)) + 1 ∧ (34 + (9 * p0)) + 1 < 3598) ∧ ∀ s77 : Kmem, s77 = (kup s71 1 ((34 + (9 * p0)) + 1) (s71 17 l4)) → (0 ≤ l4 ∧ l4 ≤ 2147483647) ∧ (rI (l4 % 2)) ∧ ((l4 % 2 ≠ 0 → (0 ≤ l4 ∧ l4 < 5) ∧ (rI (-l7)) ∧ (rI (s77 15 l4)) ∧ ((s77 15 l4 < -l7 → (0 ≤ l4 ∧ l4 < 5) ∧ ∀ s85 : Kmem, s85 = (kup s77 15 l4 (-l7)) → (rI l4) ∧ ((l4 ≠ 0 → E_X12_duelOf_19 G l1 l2 l3 l4 s85 Q) ∧ (l4 = 0 → ∀ s88 : Kmem, s88 = (kup s85 0 34 (s85 14 0)) → E_X12_duelOf_19 G l1 l2 l3 l4 s88 Q))) ∧ (-l7 ≤ s77 15 l4 → E_X12_duelOf_19 G l1 l2 l3 l4 s77 Q))) ∧ (l4 % 2 = 0 → (0 ≤ l4 ∧ l4 < 5) ∧ (rI l7) ∧ (rI (s77 15 l4)) ∧ ((s77 15 l4 < l7 → (0 ≤ l4 ∧ l4 < 5) ∧ ∀ s94 : Kmem, s94 = (kup s77 15 l4 l7) → (rI l4) ∧ ((l4 ≠ 0 → E_X12_duelOf_19 G l1 l2 l3 l4 s94 Q) ∧ (l4 = 0 → ∀ s97 : Kmem, s97 = (kup s94 0 34 (s94 14 0)) → E_X12_duelOf_19 G l1 l2 l3 l4 s97 Q))) ∧ (l7 ≤ s77 15 l4 → E_X12_duelOf_19 G l1 l2 l3 l4 s77 Q))))) : E_X12_duelOf_222 G l1 l2 l3 l4 l7 p0 σ Q := by
  refine R_istore (ls2 := [(5, vI p0), (0, vA G 0), (1, vI l1), (2, vI l2), (3, vI l3), (4, vI l4), (7, vI l7)]) e_X12_duelOf_12.2.2.1 (by decide) rfl ?_
  refine R_aload_n e_X12_duelOf_12.2.2.2.1 1 rfl ?_
  refine R_getA 12 0 1 e_X12_duelOf_12.2.2.2.2.1 f_X12_7 km_0 (fun _ _ => rfl) rm_0_0 (by decide) ?_
  refine R_iload e_X12_duelOf_12.2.2.2.2.2.1 0 rfl ?_
  refine R_callS (mc := 0) (ms := 0) (mc' := 0) (ms' := 0) (M' := M_X12_kiteRow) (d' := 0) (as := [vI p0]) (st := [vA G 1]) 1 e_X12_duelOf_12.2.2.2.2.2.2.1 (kCSof m_X12_kiteRow l_X12_265) (by decide) (by decide) rfl rfl (by show (1 : Nat) ≤ 8; decide) ?_
  refine S_X12_kiteRow ?_
  refine R_eqs (st2 := [vI (34 + (9 * p0)), vA G 1]) (σ2 := σ) rfl rfl ?_
  refine R_aload_n e_X12_duelOf_12.2.2.2.2.2.2.2.1 1 rfl ?_
  refine R_getA 12 32 16 e_X12_duelOf_12.2.2.2.2.2.2.2.2.1 f_X12_68 km_0 (fun _ _ => rfl) rm_0_32 (by decide) ?_
  refine R_iload e_X12_duelOf_12.2.2.2.2.2.2.2.2.2 5 rfl ?_
  obtain ⟨q69, h⟩ := h
  refine R_iald 5 e_X12_duelOf_13.1 kma_16 q69 ?_
  obtain ⟨q70, h⟩ := h
  refine R_iast 3598 WM_ok e_X12_duelOf_13.2.1 kma_1 q70 ?_
  obtain ⟨s71, e72⟩ : ∃ z : Kmem, z = (kup σ 1 (34 + (9 * p0)) (σ 16 l4)) := ⟨_, rfl⟩
  rw [← e72]
  replace h := h s71 e72
  refine R_aload_n e_X12_duelOf_13.2.2.1 1 rfl ?_
  refine R_getA 12 0 1 e_X12_duelOf_13.2.2.2.1 f_X12_7 km_0 (fun _ _ => rfl) rm_0_0 (by decide) ?_
  refine R_iload e_X12_duelOf_13.2.2.2.2.1 0 rfl ?_
  refine R_callS (mc := 0) (ms := 0) (mc' := 0) (ms' := 0) (M' := M_X12_kiteRow) (d' := 0) (as := [vI p0]) (st := [vA G 1]) 1 e_X12_duelOf_13.2.2.2.2.2.1 (kCSof m_X12_kiteRow l_X12_265) (by decide) (by decide) rfl rfl (by show (1 : Nat) ≤ 8; decide) ?_
  refine S_X12_kiteRow ?_
  refine R_eqs (st2 := [vI (34 + (9 * p0)), vA G 1]) (σ2 := s71) rfl rfl ?_
  refine R_iconst e_X12_duelOf_13.2.2.2.2.2.2.1 ?_
  refine R_iadd e_X12_duelOf_13.2.2.2.2.2.2.2.1 ?_
  refine R_aload_n e_X12_duelOf_13.2.2.2.2.2.2.2.2.1 1 rfl ?_
  refine R_getA 12 33 17 e_X12_duelOf_13.2.2.2.2.2.2.2.2.2 f_X12_71 km_0 (fun _ _ => rfl) rm_0_33 (by decide) ?_
  refine R_iload e_X12_duelOf_14.1 5 rfl ?_
  obtain ⟨q75, h⟩ := h
  refine R_iald 5 e_X12_duelOf_14.2.1 kma_17 q75 ?_
  obtain ⟨q76, h⟩ := h
  refine R_iast 3598 WM_ok e_X12_duelOf_14.2.2.1 kma_1 q76 ?_
  obtain ⟨s77, e78⟩ : ∃ z : Kmem, z = (kup s71 1 ((34 + (9 * p0)) + 1) (s71 17 l4)) := ⟨_, rfl⟩
  rw [← e78]
  replace h := h s77 e78
  refine R_iload e_X12_duelOf_14.2.2.2.1 5 rfl ?_
  refine R_iconst e_X12_duelOf_14.2.2.2.2.1 ?_
  obtain ⟨q79, h⟩ := h
  refine R_irem e_X12_duelOf_14.2.2.2.2.2.1 q79 (by decide) ?_
  obtain ⟨q80, h⟩ := h
  refine R_if_ne 272 e_X12_duelOf_14.2.2.2.2.2.2.1 (by decide) q80  (fun q => ?_) (fun q => ?_)
  · replace h := h.1 q
    refine R_iload e_X12_duelOf_14.2.2.2.2.2.2.2.2.2 6 rfl ?_
    refine R_ineg e_X12_duelOf_15.1 ?_
    refine R_istore (ls2 := [(8, vI (-l7)), (5, vI p0), (0, vA G 0), (1, vI l1), (2, vI l2), (3, vI l3), (4, vI l4), (7, vI l7)]) e_X12_duelOf_15.2.1 (by decide) rfl ?_
    refine R_iload e_X12_duelOf_15.2.2.1 0 rfl ?_
    refine R_aload_n e_X12_duelOf_15.2.2.2.1 2 rfl ?_
    refine R_getA 12 31 15 e_X12_duelOf_15.2.2.2.2.1 f_X12_65 km_0 (fun _ _ => rfl) rm_0_31 (by decide) ?_
    refine R_iload e_X12_duelOf_15.2.2.2.2.2.1 6 rfl ?_
    obtain ⟨q81, h⟩ := h
    refine R_iald 5 e_X12_duelOf_15.2.2.2.2.2.2.1 kma_15 q81 ?_
    obtain ⟨q82, h⟩ := h
    obtain ⟨q83, h⟩ := h
    refine R_icmp_gt 292 e_X12_duelOf_15.2.2.2.2.2.2.2.1 (by decide) q82 q83 (fun q => ?_) (fun q => ?_)
    · replace h := h.1 q
      refine R_aload_n e_X12_duelOf_15.2.2.2.2.2.2.2.2.2 2 rfl ?_
      refine R_getA 12 31 15 e_X12_duelOf_16.1 f_X12_65 km_0 (fun _ _ => rfl) rm_0_31 (by decide) ?_
      refine R_iload e_X12_duelOf_16.2.1 6 rfl ?_
      refine R_iload e_X12_duelOf_16.2.2.1 0 rfl ?_
      obtain ⟨q84, h⟩ := h
      refine R_iast 5 WM_ok e_X12_duelOf_16.2.2.2.1 kma_15 q84 ?_
      obtain ⟨s85, e86⟩ : ∃ z : Kmem, z = (kup s77 15 l4 (-l7)) := ⟨_, rfl⟩
      rw [← e86]
      replace h := h s85 e86
      refine R_iload e_X12_duelOf_16.2.2.2.2.1 6 rfl ?_
      obtain ⟨q87, h⟩ := h
      refine R_if_ne 316 e_X12_duelOf_16.2.2.2.2.2.1 (by decide) q87  (fun q => ?_) (fun q => ?_)
      · replace h := h.1 q
        refine R_goto 19 e_X12_duelOf_17.2.2 (by decide) ?_
        refine R_ls (ls2 := [(0, vA G 0), (1, vI l1), (2, vI l2), (3, vI l3), (4, vI l4)]) [2, 3, 4, 5, 6] rfl ?_
        exact h
      · replace h := h.2 q
        refine R_aload_n e_X12_duelOf_16.2.2.2.2.2.2.1 2 rfl ?_
        refine R_aload_n e_X12_duelOf_16.2.2.2.2.2.2.2.1 2 rfl ?_
        refine R_getA 12 30 14 e_X12_duelOf_16.2.2.2.2.2.2.2.2.1 f_X12_62 km_0 (fun _ _ => rfl) rm_0_30 (by decide) ?_
        refine R_iconst e_X12_duelOf_16.2.2.2.2.2.2.2.2.2 ?_
        refine R_iald 5 e_X12_duelOf_17.1 kma_14 (by decide) ?_
        refine R_putI 12 34 34 WM_ok e_X12_duelOf_17.2.1 f_X12_481 km_0 rfl rfl rfl ?_
        obtain ⟨s88, e89⟩ : ∃ z : Kmem, z = (kup s85 0 34 (s85 14 0)) := ⟨_, rfl⟩
        rw [← e89]
        replace h := h s88 e89
        refine R_goto 19 e_X12_duelOf_17.2.2 (by decide) ?_
        refine R_ls (ls2 := [(0, vA G 0), (1, vI l1), (2, vI l2), (3, vI l3), (4, vI l4)]) [2, 3, 4, 5, 6] rfl ?_
        exact h
    · replace h := h.2 q
      refine R_goto 19 e_X12_duelOf_15.2.2.2.2.2.2.2.2.1 (by decide) ?_
      refine R_ls (ls2 := [(0, vA G 0), (1, vI l1), (2, vI l2), (3, vI l3), (4, vI l4)]) [2, 3, 4, 5, 6] rfl ?_
      exact h
  · replace h := h.2 q
    refine R_iload e_X12_duelOf_14.2.2.2.2.2.2.2.1 6 rfl ?_
    refine R_goto 275 e_X12_duelOf_14.2.2.2.2.2.2.2.2.1 (by decide) ?_
    refine R_istore (ls2 := [(8, vI l7), (5, vI p0), (0, vA G 0), (1, vI l1), (2, vI l2), (3, vI l3), (4, vI l4), (7, vI l7)]) e_X12_duelOf_15.2.1 (by decide) rfl ?_
    refine R_iload e_X12_duelOf_15.2.2.1 0 rfl ?_
    refine R_aload_n e_X12_duelOf_15.2.2.2.1 2 rfl ?_
    refine R_getA 12 31 15 e_X12_duelOf_15.2.2.2.2.1 f_X12_65 km_0 (fun _ _ => rfl) rm_0_31 (by decide) ?_
    refine R_iload e_X12_duelOf_15.2.2.2.2.2.1 6 rfl ?_
    obtain ⟨q90, h⟩ := h
    refine R_iald 5 e_X12_duelOf_15.2.2.2.2.2.2.1 kma_15 q90 ?_
    obtain ⟨q91, h⟩ := h
    obtain ⟨q92, h⟩ := h
    refine R_icmp_gt 292 e_X12_duelOf_15.2.2.2.2.2.2.2.1 (by decide) q91 q92 (fun q => ?_) (fun q => ?_)
    · replace h := h.1 q
      refine R_aload_n e_X12_duelOf_15.2.2.2.2.2.2.2.2.2 2 rfl ?_
      refine R_getA 12 31 15 e_X12_duelOf_16.1 f_X12_65 km_0 (fun _ _ => rfl) rm_0_31 (by decide) ?_
      refine R_iload e_X12_duelOf_16.2.1 6 rfl ?_
      refine R_iload e_X12_duelOf_16.2.2.1 0 rfl ?_
      obtain ⟨q93, h⟩ := h
      refine R_iast 5 WM_ok e_X12_duelOf_16.2.2.2.1 kma_15 q93 ?_
      obtain ⟨s94, e95⟩ : ∃ z : Kmem, z = (kup s77 15 l4 l7) := ⟨_, rfl⟩
      rw [← e95]
      replace h := h s94 e95
      refine R_iload e_X12_duelOf_16.2.2.2.2.1 6 rfl ?_
      obtain ⟨q96, h⟩ := h
      refine R_if_ne 316 e_X12_duelOf_16.2.2.2.2.2.1 (by decide) q96  (fun q => ?_) (fun q => ?_)
      · replace h := h.1 q
        refine R_goto 19 e_X12_duelOf_17.2.2 (by decide) ?_
        refine R_ls (ls2 := [(0, vA G 0), (1, vI l1), (2, vI l2), (3, vI l3), (4, vI l4)]) [2, 3, 4, 5, 6] rfl ?_
        exact h
      · replace h := h.2 q
        refine R_aload_n e_X12_duelOf_16.2.2.2.2.2.2.1 2 rfl ?_
        refine R_aload_n e_X12_duelOf_16.2.2.2.2.2.2.2.1 2 rfl ?_
        refine R_getA 12 30 14 e_X12_duelOf_16.2.2.2.2.2.2.2.2.1 f_X12_62 km_0 (fun _ _ => rfl) rm_0_30 (by decide) ?_
        refine R_iconst e_X12_duelOf_16.2.2.2.2.2.2.2.2.2 ?_
        refine R_iald 5 e_X12_duelOf_17.1 kma_14 (by decide) ?_
        refine R_putI 12 34 34 WM_ok e_X12_duelOf_17.2.1 f_X12_481 km_0 rfl rfl rfl ?_
        obtain ⟨s97, e98⟩ : ∃ z : Kmem, z = (kup s94 0 34 (s94 14 0)) := ⟨_, rfl⟩
        rw [← e98]
        replace h := h s97 e98
        refine R_goto 19 e_X12_duelOf_17.2.2 (by decide) ?_
        refine R_ls (ls2 := [(0, vA G 0), (1, vI l1), (2, vI l2), (3, vI l3), (4, vI l4)]) [2, 3, 4, 5, 6] rfl ?_
        exact h
    · replace h := h.2 q
      refine R_goto 19 e_X12_duelOf_15.2.2.2.2.2.2.2.2.1 (by decide) ?_
      refine R_ls (ls2 := [(0, vA G 0), (1, vI l1), (2, vI l2), (3, vI l3), (4, vI l4)]) [2, 3, 4, 5, 6] rfl ?_
      exact h
