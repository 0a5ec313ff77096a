def SRI : List Nat := [506, 561, 562, 563, 568, 569, 574, 575, 580, 581, 582, 583, 584, 585, 586, 587]
def NMI : List Nat := [63, 84, 127, 374, 448, 1007]
def CAIc : List Nat := [1916, 1917, 1918, 1919, 1920, 1921, 1922, 1923, 1924, 1925, 1926, 1927, 1928, 1929, 1930, 1931, 1935, 1936, 1937, 1938, 1939]
theorem st_sr : ∀ i, i < 16 → tables_1[SRI.getD i 0]? = some (Cond.stringRef "RainCover$Tape" (SIX.getD i 0) (STX.getD i "")) := by decide +kernel
theorem st_nm : NML.map (fun q => Cond.methodLinkNest q.1 q.2.1 q.2.2.1 q.2.2.2) = NMI.filterMap (fun i => tables_1[i]?) := by decide +kernel
theorem st_ca : CAL.map (fun q => Cond.castable q.1 q.2) = CAIc.filterMap (fun i => tables_1[i]?) := by decide +kernel
theorem st_nc : ∀ q ∈ NCL, Cond.not (.castable q.1 q.2) ∈ flatC (Jvm.Cond.and given_1 narrow_1) := by decide +kernel
theorem st_ex : ∀ i, i < 16 → Cond.exactly (Term.string "RainCover$Tape" (SIX.getD i 0)) "java/lang/String" ∈ flatC (Jvm.Cond.and given_1 narrow_1) := by decide +kernel
theorem st_co : ∀ i, i < 16 → Cond.eq (.field (Term.string "RainCover$Tape" (SIX.getD i 0)) "java/lang/String" "coder" "B") (.int 0) ∈ flatC (Jvm.Cond.and given_1 narrow_1) := by decide +kernel
theorem st_ar : ∀ i, i < 16 → Cond.arrayOf (.field (Term.string "RainCover$Tape" (SIX.getD i 0)) "java/lang/String" "value" "[B") .byte ∈ flatC (Jvm.Cond.and given_1 narrow_1) := by decide +kernel
theorem st_le : ∀ i, i < 16 → Cond.eq (.length (.field (Term.string "RainCover$Tape" (SIX.getD i 0)) "java/lang/String" "value" "[B")) (.int (Int32.ofNat (SLEN.getD i 0))) ∈ flatC (Jvm.Cond.and given_1 narrow_1) := by decide +kernel
theorem st_el : ∀ i, i < 16 → ∀ j, j < SLEN.getD i 0 → Cond.eq (.elem (.field (Term.string "RainCover$Tape" (SIX.getD i 0)) "java/lang/String" "value" "[B") (.int (Int32.ofNat j))) (.int ((SBYT.getD i []).getD j 0)) ∈ flatC (Jvm.Cond.and given_1 narrow_1) := by decide +kernel
def isNE : Cond → Bool
  | .not (.eq (.string _ _) (.string _ _)) => true
  | _ => false
def NEL : List (Nat × Nat) := [(41, 54), (41, 59), (54, 59), (41, 64), (54, 64), (59, 64), (41, 118), (54, 118), (59, 118), (64, 118), (41, 70), (54, 70), (59, 70), (64, 70), (118, 70), (41, 82), (54, 82), (59, 82), (64, 82), (118, 82), (70, 82), (41, 84), (54, 84), (59, 84), (64, 84), (118, 84), (70, 84), (82, 84), (41, 91), (54, 91), (59, 91), (64, 91), (118, 91), (70, 91), (82, 91), (84, 91), (41, 93), (54, 93), (59, 93), (64, 93), (118, 93), (70, 93), (82, 93), (84, 93), (91, 93), (41, 95), (54, 95), (59, 95), (64, 95), (118, 95), (70, 95), (82, 95), (84, 95), (91, 95), (93, 95), (41, 97), (54, 97), (59, 97), (64, 97), (118, 97), (70, 97), (82, 97), (84, 97), (91, 97), (93, 97), (95, 97), (41, 105), (54, 105), (59, 105), (64, 105), (118, 105), (70, 105), (82, 105), (84, 105), (91, 105), (93, 105), (95, 105), (97, 105), (41, 111), (54, 111), (59, 111), (64, 111), (118, 111), (70, 111), (82, 111), (84, 111), (91, 111), (93, 111), (95, 111), (97, 111), (105, 111), (41, 113), (54, 113), (59, 113), (64, 113), (118, 113), (70, 113), (82, 113), (84, 113), (91, 113), (93, 113), (95, 113), (97, 113), (105, 113), (111, 113), (41, 89), (54, 89), (59, 89), (64, 89), (118, 89), (70, 89), (82, 89), (84, 89), (91, 89), (93, 89), (95, 89), (97, 89), (105, 89), (111, 89), (113, 89)]
theorem st_nl : (flatC (Jvm.Cond.and given_1 narrow_1)).filter isNE = NEL.map (fun q => Cond.not (Cond.eq (Term.string "RainCover$Tape" q.1) (Term.string "RainCover$Tape" q.2))) := by decide +kernel
theorem st_np : ∀ i, i < 16 → ∀ j, j < 16 → (j ≤ i ∨ (SIX.getD i 0, SIX.getD j 0) ∈ NEL) := by decide +kernel
theorem st_ne (i : Nat) (hi : i < 16) (j : Nat) (hj : j < 16) (h : i < j) : Cond.not (Cond.eq (Term.string "RainCover$Tape" (SIX.getD i 0)) (Term.string "RainCover$Tape" (SIX.getD j 0))) ∈ flatC (Jvm.Cond.and given_1 narrow_1) := by
  have k : Cond.not (Cond.eq (Term.string "RainCover$Tape" (SIX.getD i 0)) (Term.string "RainCover$Tape" (SIX.getD j 0))) ∈ (flatC (Jvm.Cond.and given_1 narrow_1)).filter isNE := by
    rw [st_nl]
    exact List.mem_map.mpr ⟨(SIX.getD i 0, SIX.getD j 0), (st_np i hi j hj).resolve_left (by omega), rfl⟩
  exact (List.mem_filter.mp k).1
