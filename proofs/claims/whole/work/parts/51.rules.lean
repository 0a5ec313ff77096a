/-! ===== rules out of the class's world ===== -/
def cap : Nat → Nat
  | 0 => 10
  | 1 => 15
  | 2 => 22
  | _ => 33
def LZ (h : AH) (li n : Nat) (el : Nat → Nat) : Prop := (n = 0 ∧ fr h li 1 = some 9200 ∧ ∀ i, i < 8 → kd h (400 + 8 * li + i) = 0) ∨
  ∃ i, i < 4 ∧ fr h li 1 = some (400 + 8 * li + i) ∧ kd h (400 + 8 * li + i) = 23 ∧ ln h (400 + 8 * li + i) = cap i ∧ n ≤ cap i ∧ (∀ j, j < n → ar h (400 + 8 * li + i) j = some (el j)) ∧ ∀ i', i < i' → i' < 8 → kd h (400 + 8 * li + i') = 0
def oB : List (Nat × Nat × Nat × Nat) := [(200, 0, 5, 8), (210, 46, 5, 8), (300, 26, 4, 24), (330, 26, 20, 24), (390, 26, 20, 24)]
def OB (h : AH) (σ : SG) : Prop := ∀ q ∈ oB, (∀ j, j < ct σ q.2.1 → kd h (q.1 + j) = q.2.2.1) ∧ ∀ j, ct σ q.2.1 ≤ j → j < q.2.2.2 → kd h (q.1 + j) = 0
def crK (c : Int32) : Nat := if c = 1 then 6 else if c = 2 then 7 else if c = 3 then 2 else 3
def CR (h : AH) (σ : SG) : Prop := (∀ j, j < cn σ 26 → (kd h (360 + j) = crK (σ.2 29 j) ∧ fr h (360 + j) 2 = some (390 + j) ∧ ln h (390 + j) = 20 ∧ ln h (330 + j) = 16 ∧ fr h (300 + j) 4 = some (360 + j) ∧ fr h (300 + j) 5 = some (330 + j)) ∧ fi h (300 + j) 0 = nI j ∧ fi h (360 + j) 0 = nI j ∧ fi h (360 + j) 1 = σ.2 30 j) ∧ ∀ j, cn σ 26 ≤ j → j < 24 → kd h (360 + j) = 0
def AC (h : AH) (σ : SG) : Prop := (fr h 1 15 = none ∧ σ.1 64 = 0) ∨ ∃ j, j < cn σ 26 ∧ fr h 1 15 = some (360 + j) ∧ fi h (360 + j) 3 = σ.1 64 ∧ ∀ i, i < 20 → nI i < σ.1 64 → ai h (390 + j) i = σ.2 65 i
/-- the number of the cell that telling i tells of: rain first, then greens -/
def cix (σ : SG) (i : Nat) : Nat := (if σ.2 8 i = 0 then 0 else 1536) + (σ.2 9 i).toNatClampNeg
def vAt (σ : SG) : Nat → Nat → Int32
  | 0, _ => -1
  | k + 1, c => if cix σ k = c then σ.2 10 k else vAt σ k c
def lN_ (σ : SG) : Nat → Nat → Nat
  | 0, _ => 0
  | k + 1, c => if cix σ k = c then k + 1 else lN_ σ k c
def TT (h : AH) (σ : SG) : Prop := (∀ c, c < 2304 → ai h 30 c = nI (lN_ σ (cn σ 7) c)) ∧ ∀ n, n < cn σ 7 → ai h 31 (n + 1) = nI (lN_ σ n (cix σ n)) ∧ ai h 32 (n + 1) = σ.2 10 n
def sx (b : Int32) : Int32 := b.toInt8.toInt32
def TP (h : AH) (σ : SG) : Prop := ∀ i, i < 100 → ai h 33 i = sx (σ.2 62 i)
def TM1 (h : AH) (σ : SG) (b t : Nat) : Prop := (kd h b = 12 ∧ kd h (b + 1) = 20 ∧ kd h (b + 2) = 20 ∧ kd h (b + 3) = 20 ∧ kd h (b + 4) = 21 ∧ kd h (b + 5) = 20) ∧ (∀ d, d < 5 → ln h (b + 1 + d) = 4 ∧ fr h b (6 + d) = some (b + 1 + d)) ∧
  (fi h b 0 = σ.2 14 t ∧ fi h b 1 = σ.2 15 t ∧ fi h b 5 = σ.2 19 t) ∧ (∀ i, i < cs σ t → ai h (b + 2) i = σ.2 21 (4 * t + i) ∧ ai h (b + 3) i = σ.2 22 (4 * t + i)) ∧
  ((σ.2 14 t = 0 ∧ ∀ i, i < cs σ t → ai h (b + 1) i = σ.2 20 (4 * t + i) - 8 ∧ ai h (b + 4) i = 1 - σ.2 24 (4 * t + i) ∧ ai h (b + 5) i = σ.2 23 (4 * t + i)) ∨
   (σ.2 14 t = 1 ∧ ai h (b + 1) 0 = 0 ∧ fi h b 2 = σ.2 16 t ∧ fi h b 3 = σ.2 17 t ∧ fi h b 4 = σ.2 18 t))
def TU (h : AH) (u : Nat) : Prop := (∀ i, u ≤ i → i < 600 → ∀ d, d < 6 → kd h (1000 + 8 * i + d) = 0) ∧ ∀ i, i < u → kd h (1000 + 8 * i) ≠ 0
def TM (h : AH) (σ : SG) (tr : Nat → Nat) (u : Nat) : Prop := LZ h 11 (cn σ 13) (fun t => 1000 + 8 * tr t) ∧ (∀ t, t < cn σ 13 → tr t < u ∧ TM1 h σ (1000 + 8 * tr t) t) ∧ TU h u
def CS (h : AH) (σ : SG) (tr : Nat → Nat) (u : Nat) : Prop := KS h ∧ ST h ∧ DD h σ ∧ OB h σ ∧ CR h σ ∧ AC h σ ∧ TT h σ ∧ TP h σ ∧ TM h σ tr u ∧ LZ h 10 (cn σ 0) (fun j => 200 + j) ∧ LZ h 12 (cn σ 26) (fun j => 300 + j) ∧ LZ h 13 (cn σ 46) (fun j => 210 + j)
section
variable {h : AH} {σ : SG} {tr : Nat → Nat} {u : Nat}
theorem CS.k (C : CS h σ tr u) : KS h := C.1
theorem CS.d (C : CS h σ tr u) : DD h σ := C.2.2.1
theorem kk1 (C : CS h σ tr u) : kd h 1 = 13 := C.1.2.1 (1, 13) (by decide)
theorem kk10 (C : CS h σ tr u) : kd h 10 = 1 := C.1.2.1 (10, 1) (by decide)
theorem kk11 (C : CS h σ tr u) : kd h 11 = 1 := C.1.2.1 (11, 1) (by decide)
theorem kk12 (C : CS h σ tr u) : kd h 12 = 1 := C.1.2.1 (12, 1) (by decide)
theorem kk13 (C : CS h σ tr u) : kd h 13 = 1 := C.1.2.1 (13, 1) (by decide)
theorem kk14 (C : CS h σ tr u) : kd h 14 = 11 := C.1.2.1 (14, 11) (by decide)
theorem kk15 (C : CS h σ tr u) : kd h 15 = 10 := C.1.2.1 (15, 10) (by decide)
theorem kk16 (C : CS h σ tr u) : kd h 16 = 20 := C.1.2.1 (16, 20) (by decide)
theorem kk17 (C : CS h σ tr u) : kd h 17 = 20 := C.1.2.1 (17, 20) (by decide)
theorem kk18 (C : CS h σ tr u) : kd h 18 = 9 := C.1.2.1 (18, 9) (by decide)
theorem kk19 (C : CS h σ tr u) : kd h 19 = 9 := C.1.2.1 (19, 9) (by decide)
theorem kk20 (C : CS h σ tr u) : kd h 20 = 9 := C.1.2.1 (20, 9) (by decide)
theorem kk21 (C : CS h σ tr u) : kd h 21 = 9 := C.1.2.1 (21, 9) (by decide)
theorem kk22 (C : CS h σ tr u) : kd h 22 = 24 := C.1.2.1 (22, 24) (by decide)
theorem kk23 (C : CS h σ tr u) : kd h 23 = 8 := C.1.2.1 (23, 8) (by decide)
theorem kk24 (C : CS h σ tr u) : kd h 24 = 8 := C.1.2.1 (24, 8) (by decide)
theorem kk25 (C : CS h σ tr u) : kd h 25 = 8 := C.1.2.1 (25, 8) (by decide)
theorem kk26 (C : CS h σ tr u) : kd h 26 = 20 := C.1.2.1 (26, 20) (by decide)
theorem kk27 (C : CS h σ tr u) : kd h 27 = 20 := C.1.2.1 (27, 20) (by decide)
theorem kk28 (C : CS h σ tr u) : kd h 28 = 20 := C.1.2.1 (28, 20) (by decide)
theorem kk29 (C : CS h σ tr u) : kd h 29 = 20 := C.1.2.1 (29, 20) (by decide)
theorem kk30 (C : CS h σ tr u) : kd h 30 = 20 := C.1.2.1 (30, 20) (by decide)
theorem kk31 (C : CS h σ tr u) : kd h 31 = 20 := C.1.2.1 (31, 20) (by decide)
theorem kk32 (C : CS h σ tr u) : kd h 32 = 20 := C.1.2.1 (32, 20) (by decide)
theorem kk33 (C : CS h σ tr u) : kd h 33 = 22 := C.1.2.1 (33, 22) (by decide)
theorem kk34 (C : CS h σ tr u) : kd h 34 = 20 := C.1.2.1 (34, 20) (by decide)
theorem kk35 (C : CS h σ tr u) : kd h 35 = 20 := C.1.2.1 (35, 20) (by decide)
theorem kk36 (C : CS h σ tr u) : kd h 36 = 20 := C.1.2.1 (36, 20) (by decide)
theorem kk37 (C : CS h σ tr u) : kd h 37 = 20 := C.1.2.1 (37, 20) (by decide)
theorem kk38 (C : CS h σ tr u) : kd h 38 = 20 := C.1.2.1 (38, 20) (by decide)
theorem kk39 (C : CS h σ tr u) : kd h 39 = 20 := C.1.2.1 (39, 20) (by decide)
theorem kk40 (C : CS h σ tr u) : kd h 40 = 20 := C.1.2.1 (40, 20) (by decide)
theorem kr1_0 (C : CS h σ tr u) : xgr h 1 12 0 = some 10 := by unfold xgr; rw [if_pos (kk1 C)]; exact C.1.1 (1, 0, 10) (by decide)
theorem kr1_1 (C : CS h σ tr u) : xgr h 1 12 1 = some 11 := by unfold xgr; rw [if_pos (kk1 C)]; exact C.1.1 (1, 1, 11) (by decide)
theorem kr1_2 (C : CS h σ tr u) : xgr h 1 12 2 = some 12 := by unfold xgr; rw [if_pos (kk1 C)]; exact C.1.1 (1, 2, 12) (by decide)
theorem kr1_3 (C : CS h σ tr u) : xgr h 1 12 3 = some 13 := by unfold xgr; rw [if_pos (kk1 C)]; exact C.1.1 (1, 3, 13) (by decide)
theorem kr1_4 (C : CS h σ tr u) : xgr h 1 12 4 = some 14 := by unfold xgr; rw [if_pos (kk1 C)]; exact C.1.1 (1, 4, 14) (by decide)
theorem kr1_5 (C : CS h σ tr u) : xgr h 1 12 5 = some 15 := by unfold xgr; rw [if_pos (kk1 C)]; exact C.1.1 (1, 5, 15) (by decide)
theorem kr1_6 (C : CS h σ tr u) : xgr h 1 12 6 = some 16 := by unfold xgr; rw [if_pos (kk1 C)]; exact C.1.1 (1, 6, 16) (by decide)
theorem kr1_7 (C : CS h σ tr u) : xgr h 1 12 7 = some 17 := by unfold xgr; rw [if_pos (kk1 C)]; exact C.1.1 (1, 7, 17) (by decide)
theorem kr1_8 (C : CS h σ tr u) : xgr h 1 12 8 = some 18 := by unfold xgr; rw [if_pos (kk1 C)]; exact C.1.1 (1, 8, 18) (by decide)
theorem kr1_9 (C : CS h σ tr u) : xgr h 1 12 9 = some 19 := by unfold xgr; rw [if_pos (kk1 C)]; exact C.1.1 (1, 9, 19) (by decide)
theorem kr1_10 (C : CS h σ tr u) : xgr h 1 12 10 = some 20 := by unfold xgr; rw [if_pos (kk1 C)]; exact C.1.1 (1, 10, 20) (by decide)
theorem kr1_11 (C : CS h σ tr u) : xgr h 1 12 11 = some 21 := by unfold xgr; rw [if_pos (kk1 C)]; exact C.1.1 (1, 11, 21) (by decide)
theorem kr1_12 (C : CS h σ tr u) : xgr h 1 12 12 = some 22 := by unfold xgr; rw [if_pos (kk1 C)]; exact C.1.1 (1, 12, 22) (by decide)
theorem kr1_16 (C : CS h σ tr u) : xgr h 1 12 16 = some 26 := by unfold xgr; rw [if_pos (kk1 C)]; exact C.1.1 (1, 16, 26) (by decide)
theorem kr1_17 (C : CS h σ tr u) : xgr h 1 12 17 = some 27 := by unfold xgr; rw [if_pos (kk1 C)]; exact C.1.1 (1, 17, 27) (by decide)
theorem kr1_18 (C : CS h σ tr u) : xgr h 1 12 18 = some 28 := by unfold xgr; rw [if_pos (kk1 C)]; exact C.1.1 (1, 18, 28) (by decide)
theorem kr1_19 (C : CS h σ tr u) : xgr h 1 12 19 = some 29 := by unfold xgr; rw [if_pos (kk1 C)]; exact C.1.1 (1, 19, 29) (by decide)
theorem kr14_0 (C : CS h σ tr u) : xgr h 14 10 0 = some 30 := by unfold xgr; rw [if_pos (kk14 C)]; exact C.1.1 (14, 0, 30) (by decide)
theorem kr14_1 (C : CS h σ tr u) : xgr h 14 10 1 = some 31 := by unfold xgr; rw [if_pos (kk14 C)]; exact C.1.1 (14, 1, 31) (by decide)
theorem kr14_2 (C : CS h σ tr u) : xgr h 14 10 2 = some 32 := by unfold xgr; rw [if_pos (kk14 C)]; exact C.1.1 (14, 2, 32) (by decide)
theorem kr15_0 (C : CS h σ tr u) : xgr h 15 9 0 = some 33 := by unfold xgr; rw [if_pos (kk15 C)]; exact C.1.1 (15, 0, 33) (by decide)
theorem kr18_2 (C : CS h σ tr u) : xgr h 18 8 2 = some 34 := by unfold xgr; rw [if_pos (kk18 C)]; exact C.1.1 (18, 2, 34) (by decide)
theorem kr19_2 (C : CS h σ tr u) : xgr h 19 8 2 = some 35 := by unfold xgr; rw [if_pos (kk19 C)]; exact C.1.1 (19, 2, 35) (by decide)
theorem kr20_2 (C : CS h σ tr u) : xgr h 20 8 2 = some 36 := by unfold xgr; rw [if_pos (kk20 C)]; exact C.1.1 (20, 2, 36) (by decide)
theorem kr21_2 (C : CS h σ tr u) : xgr h 21 8 2 = some 37 := by unfold xgr; rw [if_pos (kk21 C)]; exact C.1.1 (21, 2, 37) (by decide)
theorem kr23_2 (C : CS h σ tr u) : xgr h 23 7 2 = some 38 := by unfold xgr; rw [if_pos (kk23 C)]; exact C.1.1 (23, 2, 38) (by decide)
theorem kr24_2 (C : CS h σ tr u) : xgr h 24 7 2 = some 39 := by unfold xgr; rw [if_pos (kk24 C)]; exact C.1.1 (24, 2, 39) (by decide)
theorem kr25_2 (C : CS h σ tr u) : xgr h 25 7 2 = some 40 := by unfold xgr; rw [if_pos (kk25 C)]; exact C.1.1 (25, 2, 40) (by decide)
theorem ki1_13 (C : CS h σ tr u) : xgi h 1 12 13 = some (σ.1 54) := by unfold xgi; rw [if_pos (kk1 C)]; exact congrArg some (C.d.1 (1, 13, 54) (by decide))
theorem ki1_14 (C : CS h σ tr u) : xgi h 1 12 14 = some (σ.1 61) := by unfold xgi; rw [if_pos (kk1 C)]; exact congrArg some (C.d.1 (1, 14, 61) (by decide))
theorem ki10_2 (C : CS h σ tr u) : xgi h 10 0 2 = some (σ.1 0) := by unfold xgi; rw [if_pos (kk10 C)]; exact congrArg some (C.d.1 (10, 2, 0) (by decide))
theorem ki11_2 (C : CS h σ tr u) : xgi h 11 0 2 = some (σ.1 13) := by unfold xgi; rw [if_pos (kk11 C)]; exact congrArg some (C.d.1 (11, 2, 13) (by decide))
theorem ki12_2 (C : CS h σ tr u) : xgi h 12 0 2 = some (σ.1 26) := by unfold xgi; rw [if_pos (kk12 C)]; exact congrArg some (C.d.1 (12, 2, 26) (by decide))
theorem ki13_2 (C : CS h σ tr u) : xgi h 13 0 2 = some (σ.1 46) := by unfold xgi; rw [if_pos (kk13 C)]; exact congrArg some (C.d.1 (13, 2, 46) (by decide))
theorem ki14_3 (C : CS h σ tr u) : xgi h 14 10 3 = some (σ.1 7) := by unfold xgi; rw [if_pos (kk14 C)]; exact congrArg some (C.d.1 (14, 3, 7) (by decide))
theorem ki15_1 (C : CS h σ tr u) : xgi h 15 9 1 = some (σ.1 63) := by unfold xgi; rw [if_pos (kk15 C)]; exact congrArg some (C.d.1 (15, 1, 63) (by decide))
theorem ki18_3 (C : CS h σ tr u) : xgi h 18 8 3 = some (σ.1 36) := by unfold xgi; rw [if_pos (kk18 C)]; exact congrArg some (C.d.1 (18, 3, 36) (by decide))
theorem ki19_3 (C : CS h σ tr u) : xgi h 19 8 3 = some (σ.1 41) := by unfold xgi; rw [if_pos (kk19 C)]; exact congrArg some (C.d.1 (19, 3, 41) (by decide))
theorem ki20_3 (C : CS h σ tr u) : xgi h 20 8 3 = some (σ.1 49) := by unfold xgi; rw [if_pos (kk20 C)]; exact congrArg some (C.d.1 (20, 3, 49) (by decide))
theorem ki21_3 (C : CS h σ tr u) : xgi h 21 8 3 = some (σ.1 55) := by unfold xgi; rw [if_pos (kk21 C)]; exact congrArg some (C.d.1 (21, 3, 55) (by decide))
theorem kz10 (C : CS h σ tr u) : f_Jx4a65c_size_8abf5 h 10 = some (σ.1 0) := by unfold f_Jx4a65c_size_8abf5; rw [if_pos (kk10 C), ki10_2 C]; rfl
theorem kz11 (C : CS h σ tr u) : f_Jx4a65c_size_8abf5 h 11 = some (σ.1 13) := by unfold f_Jx4a65c_size_8abf5; rw [if_pos (kk11 C), ki11_2 C]; rfl
theorem kz12 (C : CS h σ tr u) : f_Jx4a65c_size_8abf5 h 12 = some (σ.1 26) := by unfold f_Jx4a65c_size_8abf5; rw [if_pos (kk12 C), ki12_2 C]; rfl
theorem kz13 (C : CS h σ tr u) : f_Jx4a65c_size_8abf5 h 13 = some (σ.1 46) := by unfold f_Jx4a65c_size_8abf5; rw [if_pos (kk13 C), ki13_2 C]; rfl
theorem LZ.get {h : AH} {li n j : Nat} {el : Nat → Nat} (L : LZ h li n el) (hk : kd h li = 1) (hz : fi h li 2 = nI n) (hn : n < 2 ^ 31) (hj : j < n) : f_Jx4a65c_get_915e3 h li (nI j) = some (el j) := by
  rcases L with ⟨h0, -⟩ | ⟨i, hi, e1, e2, e3, e4, e5, -⟩
  · omega
  · have hc : cap i < 2 ^ 31 := by unfold cap; split <;> decide
    have e6 : f_Jx4a65c_elementData_915e3 h li (nI j) = some (el j) := by
      unfold f_Jx4a65c_elementData_915e3
      rw [if_pos hk]
      unfold xgr
      rw [if_pos hk, e1, obs]
      unfold xaa
      rw [if_pos ⟨Or.inl e2, by rw [e3]; exact nI_in (by omega) hc⟩, nI_clamp (by omega), e5 j hj]
      rfl
    unfold f_Jx4a65c_get_915e3
    rw [if_pos hk]
    unfold xgi
    rw [if_pos hk, obs, hz]
    unfold f_J15_checkIndex_7cf53 f_J3_checkIndex_8e157
    rw [if_neg (nI_pos (by omega)), if_pos (nI_lt hj hn), obs, obs, e6, obs]
theorem CS.oj (C : CS h σ tr u) {b c k m j : Nat} (hq : (b, c, k, m) ∈ oB) (hj : j < ct σ c) : kd h (b + j) = k := (C.2.2.2.1 _ hq).1 j hj
theorem kg10 (C : CS h σ tr u) (W : CT σ) {j : Nat} (hj : j < cn σ 0) : f_Jx4a65c_get_915e3 h 10 (nI j) = some (200 + j) := LZ.get (el := fun j => 200 + j) C.2.2.2.2.2.2.2.2.2.1 (kk10 C) (by rw [C.d.1 (10, 2, 0) (by decide)]; exact W.g.1) (by have := W.g.2; omega) hj
theorem kg12 (C : CS h σ tr u) (W : CT σ) {j : Nat} (hj : j < cn σ 26) : f_Jx4a65c_get_915e3 h 12 (nI j) = some (300 + j) := LZ.get (el := fun j => 300 + j) C.2.2.2.2.2.2.2.2.2.2.1 (kk12 C) (by rw [C.d.1 (12, 2, 26) (by decide)]; exact W.f.1) (by have := W.f.2; omega) hj
theorem kg13 (C : CS h σ tr u) (W : CT σ) {j : Nat} (hj : j < cn σ 46) : f_Jx4a65c_get_915e3 h 13 (nI j) = some (210 + j) := LZ.get (el := fun j => 210 + j) C.2.2.2.2.2.2.2.2.2.2.2 (kk13 C) (by rw [C.d.1 (13, 2, 46) (by decide)]; exact W.s.1) (by have := W.s.2; omega) hj
theorem kg11 (C : CS h σ tr u) (W : CT σ) {j : Nat} (hj : j < cn σ 13) : f_Jx4a65c_get_915e3 h 11 (nI j) = some (1000 + 8 * tr j) := LZ.get (el := fun j => 1000 + 8 * tr j) C.2.2.2.2.2.2.2.2.1.1 (kk11 C) (by rw [C.d.1 (11, 2, 13) (by decide)]; exact W.t.1) (by have := W.t.2; omega) hj
theorem kf200_0 (C : CS h σ tr u) {j : Nat} (hj : j < cn σ 0) : xgi h (200 + j) 4 0 = some (σ.2 1 j) := by unfold xgi; rw [if_pos (C.oj (b := 200) (c := 0) (k := 5) (m := 8) (by decide) hj)]; exact congrArg some (C.d.2.2.1 (200, 0, 1, 0, 8) (by decide) j hj)
theorem kf200_1 (C : CS h σ tr u) {j : Nat} (hj : j < cn σ 0) : xgi h (200 + j) 4 1 = some (σ.2 2 j) := by unfold xgi; rw [if_pos (C.oj (b := 200) (c := 0) (k := 5) (m := 8) (by decide) hj)]; exact congrArg some (C.d.2.2.1 (200, 1, 2, 0, 8) (by decide) j hj)
theorem kf200_2 (C : CS h σ tr u) {j : Nat} (hj : j < cn σ 0) : xgi h (200 + j) 4 2 = some (σ.2 3 j) := by unfold xgi; rw [if_pos (C.oj (b := 200) (c := 0) (k := 5) (m := 8) (by decide) hj)]; exact congrArg some (C.d.2.2.1 (200, 2, 3, 0, 8) (by decide) j hj)
theorem kf200_3 (C : CS h σ tr u) {j : Nat} (hj : j < cn σ 0) : xgi h (200 + j) 4 3 = some (σ.2 4 j) := by unfold xgi; rw [if_pos (C.oj (b := 200) (c := 0) (k := 5) (m := 8) (by decide) hj)]; exact congrArg some (C.d.2.2.1 (200, 3, 4, 0, 8) (by decide) j hj)
theorem kf210_0 (C : CS h σ tr u) {j : Nat} (hj : j < cn σ 46) : xgi h (210 + j) 4 0 = some (σ.2 47 j) := by unfold xgi; rw [if_pos (C.oj (b := 210) (c := 46) (k := 5) (m := 8) (by decide) hj)]; exact congrArg some (C.d.2.2.1 (210, 0, 47, 46, 8) (by decide) j hj)
theorem kf210_1 (C : CS h σ tr u) {j : Nat} (hj : j < cn σ 46) : xgi h (210 + j) 4 1 = some (σ.2 48 j) := by unfold xgi; rw [if_pos (C.oj (b := 210) (c := 46) (k := 5) (m := 8) (by decide) hj)]; exact congrArg some (C.d.2.2.1 (210, 1, 48, 46, 8) (by decide) j hj)
theorem kf300_1 (C : CS h σ tr u) {j : Nat} (hj : j < cn σ 26) : xgi h (300 + j) 3 1 = some (σ.2 27 j) := by unfold xgi; rw [if_pos (C.oj (b := 300) (c := 26) (k := 4) (m := 24) (by decide) hj)]; exact congrArg some (C.d.2.2.1 (300, 1, 27, 26, 24) (by decide) j hj)
theorem kf300_2 (C : CS h σ tr u) {j : Nat} (hj : j < cn σ 26) : xgi h (300 + j) 3 2 = some (σ.2 28 j) := by unfold xgi; rw [if_pos (C.oj (b := 300) (c := 26) (k := 4) (m := 24) (by decide) hj)]; exact congrArg some (C.d.2.2.1 (300, 2, 28, 26, 24) (by decide) j hj)
theorem kf300_3 (C : CS h σ tr u) {j : Nat} (hj : j < cn σ 26) : xgi h (300 + j) 3 3 = some (σ.2 30 j) := by unfold xgi; rw [if_pos (C.oj (b := 300) (c := 26) (k := 4) (m := 24) (by decide) hj)]; exact congrArg some (C.d.2.2.1 (300, 3, 30, 26, 24) (by decide) j hj)
theorem kf300_6 (C : CS h σ tr u) {j : Nat} (hj : j < cn σ 26) : xgi h (300 + j) 3 6 = some (σ.2 31 j) := by unfold xgi; rw [if_pos (C.oj (b := 300) (c := 26) (k := 4) (m := 24) (by decide) hj)]; exact congrArg some (C.d.2.2.1 (300, 6, 31, 26, 24) (by decide) j hj)
theorem kf300_7 (C : CS h σ tr u) {j : Nat} (hj : j < cn σ 26) : xgi h (300 + j) 3 7 = some (σ.2 32 j) := by unfold xgi; rw [if_pos (C.oj (b := 300) (c := 26) (k := 4) (m := 24) (by decide) hj)]; exact congrArg some (C.d.2.2.1 (300, 7, 32, 26, 24) (by decide) j hj)
theorem kf300_8 (C : CS h σ tr u) {j : Nat} (hj : j < cn σ 26) : xgi h (300 + j) 3 8 = some (σ.2 33 j) := by unfold xgi; rw [if_pos (C.oj (b := 300) (c := 26) (k := 4) (m := 24) (by decide) hj)]; exact congrArg some (C.d.2.2.1 (300, 8, 33, 26, 24) (by decide) j hj)
theorem kc200 (C : CS h σ tr u) {j : Nat} (hj : j < cn σ 0) : xcc h (200 + j) 4 = some () := by unfold xcc; rw [if_pos (C.oj (b := 200) (c := 0) (k := 5) (m := 8) (by decide) hj)]
theorem kd200 (C : CS h σ tr u) {j : Nat} (hj : j < cn σ 0) : kd h (200 + j) = 5 := C.oj (b := 200) (c := 0) (k := 5) (m := 8) (by decide) hj
theorem kc210 (C : CS h σ tr u) {j : Nat} (hj : j < cn σ 46) : xcc h (210 + j) 4 = some () := by unfold xcc; rw [if_pos (C.oj (b := 210) (c := 46) (k := 5) (m := 8) (by decide) hj)]
theorem kd210 (C : CS h σ tr u) {j : Nat} (hj : j < cn σ 46) : kd h (210 + j) = 5 := C.oj (b := 210) (c := 46) (k := 5) (m := 8) (by decide) hj
theorem kc300 (C : CS h σ tr u) {j : Nat} (hj : j < cn σ 26) : xcc h (300 + j) 3 = some () := by unfold xcc; rw [if_pos (C.oj (b := 300) (c := 26) (k := 4) (m := 24) (by decide) hj)]
theorem kd300 (C : CS h σ tr u) {j : Nat} (hj : j < cn σ 26) : kd h (300 + j) = 4 := C.oj (b := 300) (c := 26) (k := 4) (m := 24) (by decide) hj
theorem kf300_0 (C : CS h σ tr u) {j : Nat} (hj : j < cn σ 26) : xgi h (300 + j) 3 0 = some (nI j) := by unfold xgi; rw [if_pos (kd300 C hj), (C.2.2.2.2.1.1 j hj).2.1]
theorem kq300_4 (C : CS h σ tr u) {j : Nat} (hj : j < cn σ 26) : xgr h (300 + j) 3 4 = some (360 + j) := by unfold xgr; rw [if_pos (kd300 C hj), (C.2.2.2.2.1.1 j hj).1.2.2.2.2.1]
theorem kq300_5 (C : CS h σ tr u) {j : Nat} (hj : j < cn σ 26) : xgr h (300 + j) 3 5 = some (330 + j) := by unfold xgr; rw [if_pos (kd300 C hj), (C.2.2.2.2.1.1 j hj).1.2.2.2.2.2]
theorem kst (C : CS h σ tr u) {j s : Nat} (hj : j < cn σ 26) (hs : s < 16) : xia h (330 + j) (nI s) = some (σ.2 34 (16 * j + s)) := by
  unfold xia
  rw [if_pos ⟨Or.inl (C.oj (b := 330) (c := 26) (k := 20) (m := 24) (by decide) hj), by rw [(C.2.2.2.2.1.1 j hj).1.2.2.2.1]; exact nI_in hs (by decide)⟩, nI_clamp (by omega)]
  exact congrArg some (C.d.2.2.2.2 (330, 16, 34, 26, 24) (by decide) j hj s hs)
theorem xia_of {h : AH} {r n L : Nat} {v : Int32} (hk : kd h r = 20) (hl : ln h r = L) (hn : n < L) (hL : L < 2 ^ 31) (e : ai h r n = v) : xia h r (nI n) = some v := by
  unfold xia
  rw [if_pos ⟨Or.inl hk, by rw [hl]; exact nI_in hn hL⟩, nI_clamp (by omega), e]
theorem xis_of {h : AH} {r n L : Nat} {v : Int32} (hk : kd h r = 20) (hl : ln h r = L) (hn : n < L) (hL : L < 2 ^ 31) : xis h r (nI n) v = some (sai h r n v) := by
  unfold xis
  rw [if_pos ⟨hk, by rw [hl]; exact nI_in hn hL⟩, nI_clamp (by omega)]
theorem kl (C : CS h σ tr u) {r n : Nat} (hq : (r, n) ∈ cln) : ln h r = n := C.1.2.2.1 (r, n) hq
theorem kx16 (C : CS h σ tr u) {j : Nat} (hj : j < 4) : xia h 16 (nI j) = some (σ.2 5 j) := xia_of (kk16 C) (kl C (by decide)) hj (by decide) (by have := C.d.2.2.2.1 (16, 1, 0, 5, 4) (by decide) j hj; rwa [Nat.one_mul, Nat.add_zero] at this)
theorem ks16 (C : CS h σ tr u) {j : Nat} {v : Int32} (hj : j < 4) : xis h 16 (nI j) v = some (sai h 16 j v) := xis_of (kk16 C) (kl C (by decide)) hj (by decide)
theorem kx17 (C : CS h σ tr u) {j : Nat} (hj : j < 4) : xia h 17 (nI j) = some (σ.2 35 j) := xia_of (kk17 C) (kl C (by decide)) hj (by decide) (by have := C.d.2.2.2.1 (17, 1, 0, 35, 4) (by decide) j hj; rwa [Nat.one_mul, Nat.add_zero] at this)
theorem ks17 (C : CS h σ tr u) {j : Nat} {v : Int32} (hj : j < 4) : xis h 17 (nI j) v = some (sai h 17 j v) := xis_of (kk17 C) (kl C (by decide)) hj (by decide)
theorem kw18 (C : CS h σ tr u) : xgi h 18 8 1 = some 4 := by unfold xgi; rw [if_pos (kk18 C)]; exact congrArg some (C.d.2.1 (18, 1, 4) (by decide))
theorem km18 (C : CS h σ tr u) : xgi h 18 8 0 = some 60 := by unfold xgi; rw [if_pos (kk18 C)]; exact congrArg some (C.d.2.1 (18, 0, 60) (by decide))
theorem kw19 (C : CS h σ tr u) : xgi h 19 8 1 = some 4 := by unfold xgi; rw [if_pos (kk19 C)]; exact congrArg some (C.d.2.1 (19, 1, 4) (by decide))
theorem km19 (C : CS h σ tr u) : xgi h 19 8 0 = some 80 := by unfold xgi; rw [if_pos (kk19 C)]; exact congrArg some (C.d.2.1 (19, 0, 80) (by decide))
theorem kw20 (C : CS h σ tr u) : xgi h 20 8 1 = some 4 := by unfold xgi; rw [if_pos (kk20 C)]; exact congrArg some (C.d.2.1 (20, 1, 4) (by decide))
theorem km20 (C : CS h σ tr u) : xgi h 20 8 0 = some 200 := by unfold xgi; rw [if_pos (kk20 C)]; exact congrArg some (C.d.2.1 (20, 0, 200) (by decide))
theorem kw21 (C : CS h σ tr u) : xgi h 21 8 1 = some 5 := by unfold xgi; rw [if_pos (kk21 C)]; exact congrArg some (C.d.2.1 (21, 1, 5) (by decide))
theorem km21 (C : CS h σ tr u) : xgi h 21 8 0 = some 20 := by unfold xgi; rw [if_pos (kk21 C)]; exact congrArg some (C.d.2.1 (21, 0, 20) (by decide))
theorem ka18_0 (C : CS h σ tr u) {j : Nat} (hj : j < 60) : f_X7_at h 18 (nI j) 0 = some (σ.2 37 j) := by
  have e := C.d.2.2.2.1 (34, 4, 0, 37, 60) (by decide) j hj
  have e2 : xia h 34 (nI (4 * j + 0)) = some (σ.2 37 j) := xia_of (kk34 C) (kl C (by decide)) (show 4 * j + 0 < 240 by omega) (by decide) e
  unfold f_X7_at
  rw [if_pos (kk18 C), kr18_2 C, obs, kw18 C, obs, show nI j * 4 + 0 = nI (4 * j + 0) by rw [show (4 : Int32) = nI 4 by decide, show (0 : Int32) = nI 0 by decide, nI_mul, nI_add, Nat.mul_comm], e2, obs]
theorem ka18_1 (C : CS h σ tr u) {j : Nat} (hj : j < 60) : f_X7_at h 18 (nI j) 1 = some (σ.2 39 j) := by
  have e := C.d.2.2.2.1 (34, 4, 1, 39, 60) (by decide) j hj
  have e2 : xia h 34 (nI (4 * j + 1)) = some (σ.2 39 j) := xia_of (kk34 C) (kl C (by decide)) (show 4 * j + 1 < 240 by omega) (by decide) e
  unfold f_X7_at
  rw [if_pos (kk18 C), kr18_2 C, obs, kw18 C, obs, show nI j * 4 + 1 = nI (4 * j + 1) by rw [show (4 : Int32) = nI 4 by decide, show (1 : Int32) = nI 1 by decide, nI_mul, nI_add, Nat.mul_comm], e2, obs]
theorem ka18_2 (C : CS h σ tr u) {j : Nat} (hj : j < 60) : f_X7_at h 18 (nI j) 2 = some (σ.2 38 j) := by
  have e := C.d.2.2.2.1 (34, 4, 2, 38, 60) (by decide) j hj
  have e2 : xia h 34 (nI (4 * j + 2)) = some (σ.2 38 j) := xia_of (kk34 C) (kl C (by decide)) (show 4 * j + 2 < 240 by omega) (by decide) e
  unfold f_X7_at
  rw [if_pos (kk18 C), kr18_2 C, obs, kw18 C, obs, show nI j * 4 + 2 = nI (4 * j + 2) by rw [show (4 : Int32) = nI 4 by decide, show (2 : Int32) = nI 2 by decide, nI_mul, nI_add, Nat.mul_comm], e2, obs]
theorem ka18_3 (C : CS h σ tr u) {j : Nat} (hj : j < 60) : f_X7_at h 18 (nI j) 3 = some (σ.2 40 j) := by
  have e := C.d.2.2.2.1 (34, 4, 3, 40, 60) (by decide) j hj
  have e2 : xia h 34 (nI (4 * j + 3)) = some (σ.2 40 j) := xia_of (kk34 C) (kl C (by decide)) (show 4 * j + 3 < 240 by omega) (by decide) e
  unfold f_X7_at
  rw [if_pos (kk18 C), kr18_2 C, obs, kw18 C, obs, show nI j * 4 + 3 = nI (4 * j + 3) by rw [show (4 : Int32) = nI 4 by decide, show (3 : Int32) = nI 3 by decide, nI_mul, nI_add, Nat.mul_comm], e2, obs]
theorem ka19_0 (C : CS h σ tr u) {j : Nat} (hj : j < 80) : f_X7_at h 19 (nI j) 0 = some (σ.2 42 j) := by
  have e := C.d.2.2.2.1 (35, 4, 0, 42, 80) (by decide) j hj
  have e2 : xia h 35 (nI (4 * j + 0)) = some (σ.2 42 j) := xia_of (kk35 C) (kl C (by decide)) (show 4 * j + 0 < 320 by omega) (by decide) e
  unfold f_X7_at
  rw [if_pos (kk19 C), kr19_2 C, obs, kw19 C, obs, show nI j * 4 + 0 = nI (4 * j + 0) by rw [show (4 : Int32) = nI 4 by decide, show (0 : Int32) = nI 0 by decide, nI_mul, nI_add, Nat.mul_comm], e2, obs]
theorem ka19_1 (C : CS h σ tr u) {j : Nat} (hj : j < 80) : f_X7_at h 19 (nI j) 1 = some (σ.2 43 j) := by
  have e := C.d.2.2.2.1 (35, 4, 1, 43, 80) (by decide) j hj
  have e2 : xia h 35 (nI (4 * j + 1)) = some (σ.2 43 j) := xia_of (kk35 C) (kl C (by decide)) (show 4 * j + 1 < 320 by omega) (by decide) e
  unfold f_X7_at
  rw [if_pos (kk19 C), kr19_2 C, obs, kw19 C, obs, show nI j * 4 + 1 = nI (4 * j + 1) by rw [show (4 : Int32) = nI 4 by decide, show (1 : Int32) = nI 1 by decide, nI_mul, nI_add, Nat.mul_comm], e2, obs]
theorem ka19_2 (C : CS h σ tr u) {j : Nat} (hj : j < 80) : f_X7_at h 19 (nI j) 2 = some (σ.2 44 j) := by
  have e := C.d.2.2.2.1 (35, 4, 2, 44, 80) (by decide) j hj
  have e2 : xia h 35 (nI (4 * j + 2)) = some (σ.2 44 j) := xia_of (kk35 C) (kl C (by decide)) (show 4 * j + 2 < 320 by omega) (by decide) e
  unfold f_X7_at
  rw [if_pos (kk19 C), kr19_2 C, obs, kw19 C, obs, show nI j * 4 + 2 = nI (4 * j + 2) by rw [show (4 : Int32) = nI 4 by decide, show (2 : Int32) = nI 2 by decide, nI_mul, nI_add, Nat.mul_comm], e2, obs]
theorem ka19_3 (C : CS h σ tr u) {j : Nat} (hj : j < 80) : f_X7_at h 19 (nI j) 3 = some (σ.2 45 j) := by
  have e := C.d.2.2.2.1 (35, 4, 3, 45, 80) (by decide) j hj
  have e2 : xia h 35 (nI (4 * j + 3)) = some (σ.2 45 j) := xia_of (kk35 C) (kl C (by decide)) (show 4 * j + 3 < 320 by omega) (by decide) e
  unfold f_X7_at
  rw [if_pos (kk19 C), kr19_2 C, obs, kw19 C, obs, show nI j * 4 + 3 = nI (4 * j + 3) by rw [show (4 : Int32) = nI 4 by decide, show (3 : Int32) = nI 3 by decide, nI_mul, nI_add, Nat.mul_comm], e2, obs]
theorem ka20_0 (C : CS h σ tr u) {j : Nat} (hj : j < 200) : f_X7_at h 20 (nI j) 0 = some (σ.2 50 j) := by
  have e := C.d.2.2.2.1 (36, 4, 0, 50, 200) (by decide) j hj
  have e2 : xia h 36 (nI (4 * j + 0)) = some (σ.2 50 j) := xia_of (kk36 C) (kl C (by decide)) (show 4 * j + 0 < 800 by omega) (by decide) e
  unfold f_X7_at
  rw [if_pos (kk20 C), kr20_2 C, obs, kw20 C, obs, show nI j * 4 + 0 = nI (4 * j + 0) by rw [show (4 : Int32) = nI 4 by decide, show (0 : Int32) = nI 0 by decide, nI_mul, nI_add, Nat.mul_comm], e2, obs]
theorem ka20_1 (C : CS h σ tr u) {j : Nat} (hj : j < 200) : f_X7_at h 20 (nI j) 1 = some (σ.2 51 j) := by
  have e := C.d.2.2.2.1 (36, 4, 1, 51, 200) (by decide) j hj
  have e2 : xia h 36 (nI (4 * j + 1)) = some (σ.2 51 j) := xia_of (kk36 C) (kl C (by decide)) (show 4 * j + 1 < 800 by omega) (by decide) e
  unfold f_X7_at
  rw [if_pos (kk20 C), kr20_2 C, obs, kw20 C, obs, show nI j * 4 + 1 = nI (4 * j + 1) by rw [show (4 : Int32) = nI 4 by decide, show (1 : Int32) = nI 1 by decide, nI_mul, nI_add, Nat.mul_comm], e2, obs]
theorem ka20_2 (C : CS h σ tr u) {j : Nat} (hj : j < 200) : f_X7_at h 20 (nI j) 2 = some (σ.2 52 j) := by
  have e := C.d.2.2.2.1 (36, 4, 2, 52, 200) (by decide) j hj
  have e2 : xia h 36 (nI (4 * j + 2)) = some (σ.2 52 j) := xia_of (kk36 C) (kl C (by decide)) (show 4 * j + 2 < 800 by omega) (by decide) e
  unfold f_X7_at
  rw [if_pos (kk20 C), kr20_2 C, obs, kw20 C, obs, show nI j * 4 + 2 = nI (4 * j + 2) by rw [show (4 : Int32) = nI 4 by decide, show (2 : Int32) = nI 2 by decide, nI_mul, nI_add, Nat.mul_comm], e2, obs]
theorem ka20_3 (C : CS h σ tr u) {j : Nat} (hj : j < 200) : f_X7_at h 20 (nI j) 3 = some (σ.2 53 j) := by
  have e := C.d.2.2.2.1 (36, 4, 3, 53, 200) (by decide) j hj
  have e2 : xia h 36 (nI (4 * j + 3)) = some (σ.2 53 j) := xia_of (kk36 C) (kl C (by decide)) (show 4 * j + 3 < 800 by omega) (by decide) e
  unfold f_X7_at
  rw [if_pos (kk20 C), kr20_2 C, obs, kw20 C, obs, show nI j * 4 + 3 = nI (4 * j + 3) by rw [show (4 : Int32) = nI 4 by decide, show (3 : Int32) = nI 3 by decide, nI_mul, nI_add, Nat.mul_comm], e2, obs]
theorem ka21_0 (C : CS h σ tr u) {j : Nat} (hj : j < 20) : f_X7_at h 21 (nI j) 0 = some (σ.2 56 j) := by
  have e := C.d.2.2.2.1 (37, 5, 0, 56, 20) (by decide) j hj
  have e2 : xia h 37 (nI (5 * j + 0)) = some (σ.2 56 j) := xia_of (kk37 C) (kl C (by decide)) (show 5 * j + 0 < 100 by omega) (by decide) e
  unfold f_X7_at
  rw [if_pos (kk21 C), kr21_2 C, obs, kw21 C, obs, show nI j * 5 + 0 = nI (5 * j + 0) by rw [show (5 : Int32) = nI 5 by decide, show (0 : Int32) = nI 0 by decide, nI_mul, nI_add, Nat.mul_comm], e2, obs]
theorem ka21_1 (C : CS h σ tr u) {j : Nat} (hj : j < 20) : f_X7_at h 21 (nI j) 1 = some (σ.2 57 j) := by
  have e := C.d.2.2.2.1 (37, 5, 1, 57, 20) (by decide) j hj
  have e2 : xia h 37 (nI (5 * j + 1)) = some (σ.2 57 j) := xia_of (kk37 C) (kl C (by decide)) (show 5 * j + 1 < 100 by omega) (by decide) e
  unfold f_X7_at
  rw [if_pos (kk21 C), kr21_2 C, obs, kw21 C, obs, show nI j * 5 + 1 = nI (5 * j + 1) by rw [show (5 : Int32) = nI 5 by decide, show (1 : Int32) = nI 1 by decide, nI_mul, nI_add, Nat.mul_comm], e2, obs]
theorem ka21_2 (C : CS h σ tr u) {j : Nat} (hj : j < 20) : f_X7_at h 21 (nI j) 2 = some (σ.2 58 j) := by
  have e := C.d.2.2.2.1 (37, 5, 2, 58, 20) (by decide) j hj
  have e2 : xia h 37 (nI (5 * j + 2)) = some (σ.2 58 j) := xia_of (kk37 C) (kl C (by decide)) (show 5 * j + 2 < 100 by omega) (by decide) e
  unfold f_X7_at
  rw [if_pos (kk21 C), kr21_2 C, obs, kw21 C, obs, show nI j * 5 + 2 = nI (5 * j + 2) by rw [show (5 : Int32) = nI 5 by decide, show (2 : Int32) = nI 2 by decide, nI_mul, nI_add, Nat.mul_comm], e2, obs]
theorem ka21_3 (C : CS h σ tr u) {j : Nat} (hj : j < 20) : f_X7_at h 21 (nI j) 3 = some (σ.2 59 j) := by
  have e := C.d.2.2.2.1 (37, 5, 3, 59, 20) (by decide) j hj
  have e2 : xia h 37 (nI (5 * j + 3)) = some (σ.2 59 j) := xia_of (kk37 C) (kl C (by decide)) (show 5 * j + 3 < 100 by omega) (by decide) e
  unfold f_X7_at
  rw [if_pos (kk21 C), kr21_2 C, obs, kw21 C, obs, show nI j * 5 + 3 = nI (5 * j + 3) by rw [show (5 : Int32) = nI 5 by decide, show (3 : Int32) = nI 3 by decide, nI_mul, nI_add, Nat.mul_comm], e2, obs]
theorem ka21_4 (C : CS h σ tr u) {j : Nat} (hj : j < 20) : f_X7_at h 21 (nI j) 4 = some (σ.2 60 j) := by
  have e := C.d.2.2.2.1 (37, 5, 4, 60, 20) (by decide) j hj
  have e2 : xia h 37 (nI (5 * j + 4)) = some (σ.2 60 j) := xia_of (kk37 C) (kl C (by decide)) (show 5 * j + 4 < 100 by omega) (by decide) e
  unfold f_X7_at
  rw [if_pos (kk21 C), kr21_2 C, obs, kw21 C, obs, show nI j * 5 + 4 = nI (5 * j + 4) by rw [show (5 : Int32) = nI 5 by decide, show (4 : Int32) = nI 4 by decide, nI_mul, nI_add, Nat.mul_comm], e2, obs]
theorem ky22 (C : CS h σ tr u) {j : Nat} (hj : j < 3) : xaa h 22 (nI j) = some (23 + j) := by
  unfold xaa
  rw [if_pos ⟨Or.inr (kk22 C), by rw [kl C (n := 3) (by decide)]; exact nI_in hj (by decide)⟩, nI_clamp (by omega), C.1.2.2.2 j hj]
theorem kd23 (C : CS h σ tr u) {j : Nat} (hj : j < 3) : kd h (23 + j) = 8 := by
  rcases j with _ | _ | _ | j
  · exact kk23 C
  · exact kk24 C
  · exact kk25 C
  · omega
theorem kf23_0 (C : CS h σ tr u) {j : Nat} (hj : j < 3) : xgi h (23 + j) 7 0 = some (σ.2 66 j) := by unfold xgi; rw [if_pos (kd23 C hj)]; exact congrArg some (C.d.2.2.1 (23, 0, 66, 103, 3) (by decide) j hj)
theorem kf23_1 (C : CS h σ tr u) {j : Nat} (hj : j < 3) : xgi h (23 + j) 7 1 = some (σ.2 67 j) := by unfold xgi; rw [if_pos (kd23 C hj)]; exact congrArg some (C.d.2.2.1 (23, 1, 67, 103, 3) (by decide) j hj)
theorem kq23_2 (C : CS h σ tr u) {j : Nat} (hj : j < 3) : xgr h (23 + j) 7 2 = some (38 + j) := by
  rcases j with _ | _ | _ | j
  · exact kr23_2 C
  · exact kr24_2 C
  · exact kr25_2 C
  · omega
theorem kd38 (C : CS h σ tr u) {j : Nat} (hj : j < 3) : kd h (38 + j) = 20 ∧ ln h (38 + j) = 40 := by
  rcases j with _ | _ | _ | j
  · exact ⟨kk38 C, kl C (by decide)⟩
  · exact ⟨kk39 C, kl C (by decide)⟩
  · exact ⟨kk40 C, kl C (by decide)⟩
  · omega
theorem kx38 (C : CS h σ tr u) {j i : Nat} (hj : j < 3) (hi : i < 40) : xia h (38 + j) (nI i) = some (σ.2 68 (40 * j + i)) := xia_of (kd38 C hj).1 (kd38 C hj).2 hi (by decide) (C.d.2.2.2.2 (38, 40, 68, 103, 3) (by decide) j hj i hi)
theorem kdry (C : CS h σ tr u) {j : Nat} (hj : j < 4) : xia h 9001 (nI j) = some (DRYL.getD j 0) := by
  obtain ⟨e1, e2, e3⟩ := C.2.1.1
  unfold xia
  rw [if_pos ⟨Or.inr e1, by rw [e2]; exact nI_in hj (by decide)⟩, nI_clamp (by omega), e3 j hj]
theorem kmos (C : CS h σ tr u) {j : Nat} (hj : j < 4) : xia h 9002 (nI j) = some (MOSL.getD j 0) := by
  obtain ⟨e1, e2, e3⟩ := C.2.1.2.1
  unfold xia
  rw [if_pos ⟨Or.inr e1, by rw [e2]; exact nI_in hj (by decide)⟩, nI_clamp (by omega), e3 j hj]
end
