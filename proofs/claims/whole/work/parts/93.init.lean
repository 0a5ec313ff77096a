/-! ===== the start: the class ===== -/
section
variable {L N : Nat} {xs : Nat → Int32}
def hstart (L : Nat) (xs : Nat → Int32) : AH :=
  (fun r => if r = 9000 ∨ r = 9001 ∨ r = 9002 then 30 else if 9100 ≤ r ∧ r < 9116 then 40 else if 9120 ≤ r ∧ r < 9136 then 41 else if r = 9200 then 33 else if r = 9300 ∨ r = 9301 then 50 else 0,
   fun r => if r = 9000 then L else if r = 9001 ∨ r = 9002 then 4 else if 9120 ≤ r ∧ r < 9136 then SLEN.getD (r - 9120) 0 else 0,
   fun _ _ => 0, fun _ _ => none,
   fun r => if r = 9000 then xs else if r = 9001 then (fun j => ([100, 80, 120, 60] : List Int32).getD j 0) else if r = 9002 then (fun j => ([198, 9999, 300, 100] : List Int32).getD j 0) else if 9120 ≤ r ∧ r < 9136 then (fun j => (SBYT.getD (r - 9120) []).getD j 0) else fun _ => 0,
   fun _ _ => none)
def H0 (L : Nat) (xs : Nat → Int32) : AH := mkc (hstart L xs) 1 13 0
theorem t1 : (f_X11_init (H0 L xs) 1).isSome = true := rfl
end
