/-! ===== the start ===== -/
def rhos (g : GG) (r : Nat) : Nat := if r < 9003 then groA g (r - 9000) else if r < 9116 then gadK g (r - 9100) else if r < 9136 then gadV g (r - 9120) else if r = 9200 then ged g else if r = 9300 then gmo g else gsf g
theorem hs_kd (L : Nat) (xs : Nat → Int32) (r : Nat) : kd (hstart L xs) r = if r = 9000 ∨ r = 9001 ∨ r = 9002 then 30 else if 9100 ≤ r ∧ r < 9116 then 40 else if 9120 ≤ r ∧ r < 9136 then 41 else if r = 9200 then 33 else if r = 9300 ∨ r = 9301 then 50 else 0 := rfl
theorem hs_ln (L : Nat) (xs : Nat → Int32) (r : Nat) : ln (hstart L xs) r = if r = 9000 then L else if r = 9001 ∨ r = 9002 then 4 else if 9120 ≤ r ∧ r < 9136 then SLEN.getD (r - 9120) 0 else 0 := rfl
theorem hs_ai (L : Nat) (xs : Nat → Int32) (r : Nat) : ai (hstart L xs) r = if r = 9000 then xs else if r = 9001 then (fun j => ([100, 80, 120, 60] : List Int32).getD j 0) else if r = 9002 then (fun j => ([198, 9999, 300, 100] : List Int32).getD j 0) else if 9120 ≤ r ∧ r < 9136 then (fun j => (SBYT.getD (r - 9120) []).getD j 0) else fun _ => 0 := rfl
theorem hs_kinds (L : Nat) (xs : Nat → Int32) (r : Nat) : ((r = 9000 ∨ r = 9001 ∨ r = 9002) ∧ kd (hstart L xs) r = 30) ∨ ((9100 ≤ r ∧ r < 9116) ∧ kd (hstart L xs) r = 40) ∨ ((9120 ≤ r ∧ r < 9136) ∧ kd (hstart L xs) r = 41) ∨ (r = 9200 ∧ kd (hstart L xs) r = 33) ∨ ((r = 9300 ∨ r = 9301) ∧ kd (hstart L xs) r = 50) ∨ kd (hstart L xs) r = 0 := by
  rw [hs_kd]
  by_cases h1 : r = 9000 ∨ r = 9001 ∨ r = 9002
  · rw [if_pos h1]; exact Or.inl ⟨h1, rfl⟩
  rw [if_neg h1]
  by_cases h2 : 9100 ≤ r ∧ r < 9116
  · rw [if_pos h2]; exact Or.inr (Or.inl ⟨h2, rfl⟩)
  rw [if_neg h2]
  by_cases h3 : 9120 ≤ r ∧ r < 9136
  · rw [if_pos h3]; exact Or.inr (Or.inr (Or.inl ⟨h3, rfl⟩))
  rw [if_neg h3]
  by_cases h4 : r = 9200
  · rw [if_pos h4]; exact Or.inr (Or.inr (Or.inr (Or.inl ⟨h4, rfl⟩)))
  rw [if_neg h4]
  by_cases h5 : r = 9300 ∨ r = 9301
  · rw [if_pos h5]; exact Or.inr (Or.inr (Or.inr (Or.inr (Or.inl ⟨h5, rfl⟩))))
  rw [if_neg h5]
  exact Or.inr (Or.inr (Or.inr (Or.inr (Or.inr rfl))))
theorem start_ROh {g : GG} {L : Nat} {xs : Nat → Int32} (h0 : groN g 0 = L) (h1 : groF g 0 = xs) (h2 : groN g 1 = 4) (h3 : groN g 2 = 4) (h4 : groF g 1 = fun j => ([100, 80, 120, 60] : List Int32).getD j 0) (h5 : groF g 2 = fun j => ([198, 9999, 300, 100] : List Int32).getD j 0) : ROh g (rhos g) (hstart L xs) := by
  have K := hs_kinds L xs
  refine ⟨fun i hi => ?_, fun r hr => ?_, fun i hi => ?_, fun r hr => ?_, ⟨rfl, rfl, rfl⟩, fun r hr => ?_, fun r => ?_, fun i hi => ?_, fun r hr => ?_, ⟨rfl, rfl⟩, ⟨rfl, rfl⟩, fun r hr => ?_⟩
  · rcases (show i = 0 ∨ i = 1 ∨ i = 2 by omega) with rfl | rfl | rfl
    · exact ⟨rfl, rfl, h0.symm, h1.symm⟩
    · exact ⟨rfl, rfl, h2.symm, h4.symm⟩
    · exact ⟨rfl, rfl, h3.symm, h5.symm⟩
  · have k := K r
    exact ⟨r - 9000, by omega, by omega⟩
  · refine ⟨?_, ?_⟩
    · unfold rhos
      rw [if_neg (by omega), if_pos (by omega), show 9100 + i - 9100 = i by omega]
    · have k := K (9100 + i)
      rw [hs_kd, if_neg (by omega), if_pos (by omega)]
  · have k := K r
    exact ⟨r - 9100, by omega, by omega⟩
  · have k := K r
    omega
  · have k := K r
    rcases k with ⟨-, k⟩ | ⟨-, k⟩ | ⟨-, k⟩ | ⟨-, k⟩ | ⟨-, k⟩ | k
    · exact Or.inr (Or.inr (Or.inl k))
    · exact Or.inr (Or.inr (Or.inr (Or.inr (Or.inl k))))
    · exact Or.inr (Or.inr (Or.inr (Or.inr (Or.inr (Or.inl k)))))
    · exact Or.inr (Or.inr (Or.inr (Or.inl k)))
    · exact Or.inr (Or.inr (Or.inr (Or.inr (Or.inr (Or.inr k)))))
    · exact Or.inl k
  · refine ⟨?_, ?_, ?_, ?_⟩
    · unfold rhos
      rw [if_neg (by omega), if_neg (by omega), if_pos (by omega), show 9120 + i - 9120 = i by omega]
    · rw [hs_kd, if_neg (by omega), if_neg (by omega), if_pos (by omega)]
    · rw [hs_ln, if_neg (by omega), if_neg (by omega), if_pos (by omega), show 9120 + i - 9120 = i by omega]
    · rw [hs_ai, if_neg (by omega), if_neg (by omega), if_neg (by omega), if_pos (by omega), show 9120 + i - 9120 = i by omega]
  · have k := K r
    exact ⟨r - 9120, by omega, by omega⟩
  · have k := K r
    omega
theorem start_HV {g : GG} {H : Heap} {L : Nat} {xs : Nat → Int32} (h0 : groN g 0 = L) (h1 : groF g 0 = xs) (h2 : groN g 1 = 4) (h3 : groN g 2 = 4) (h4 : groF g 1 = fun j => ([100, 80, 120, 60] : List Int32).getD j 0) (h5 : groF g 2 = fun j => ([198, 9999, 300, 100] : List Int32).getD j 0) : HV g (rhos g) (hstart L xs) H := by
  refine ⟨[], List.nodup_nil, fun r => ⟨fun h => (by cases h), fun h => ?_⟩, fun k q h => ?_, ⟨fun i j p q h => ?_, fun k q h => ?_⟩, start_ROh h0 h1 h2 h3 h4 h5, ⟨fun j k r h => ?_, fun j k r h => ?_⟩⟩
  · exfalso
    have k := hs_kinds L xs r
    unfold lvk at h
    omega
  · simp at h
  · simp at h
  · simp at h
  · exact absurd (show (none : Option Nat) = some r from h) (by simp)
  · exact absurd (show (none : Option Nat) = some r from h) (by simp)
