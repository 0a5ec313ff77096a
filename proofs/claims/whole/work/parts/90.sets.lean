/-! ===== public: best ===== -/
section
variable {L N : Nat} {xs : Nat → Int32} {h h' : AH} {σ σ' : SG} {tr : Nat → Nat} {u n : Nat}
def b8 (S i : Nat) : Nat := S / 2 ^ i % 2
def mir (S : Nat) : Nat := 128 * b8 S 0 + 64 * b8 S 1 + 32 * b8 S 2 + 16 * b8 S 3 + 8 * b8 S 4 + 4 * b8 S 5 + 2 * b8 S 6 + b8 S 7
def pop8 (S : Nat) : Nat := b8 S 0 + b8 S 1 + b8 S 2 + b8 S 3 + b8 S 4 + b8 S 5 + b8 S 6 + b8 S 7
theorem b8_lt {S i : Nat} : b8 S i < 2 := Nat.mod_lt _ (by decide)
theorem mir_lt {S : Nat} : mir S < 256 := by
  have := @b8_lt S 0
  have := @b8_lt S 1
  have := @b8_lt S 2
  have := @b8_lt S 3
  have := @b8_lt S 4
  have := @b8_lt S 5
  have := @b8_lt S 6
  have := @b8_lt S 7
  unfold mir
  omega
theorem mir_f : ∀ S : Fin 256, mir (mir S.val) = S.val := by decide +kernel
theorem mir_mir {S : Nat} (hS : S < 256) : mir (mir S) = S := mir_f ⟨S, hS⟩
theorem mir_inj {S T : Nat} (hS : S < 256) (hT : T < 256) (e : mir S = mir T) : S = T := by rw [← mir_mir hS, e, mir_mir hT]
theorem sh_f : ∀ S : Fin 256, ∀ i : Fin 8, ((nI S.val >>> (nI i.val &&& 31)) &&& 1 : Int32) = nI (b8 S.val i.val) := by decide +kernel
theorem shB {S i : Nat} (hS : S < 256) (hi : i < 8) : ((nI S >>> (nI i &&& 31)) &&& 1 : Int32) = nI (b8 S i) := sh_f ⟨S, hS⟩ ⟨i, hi⟩
theorem sc_f : ∀ S : Fin 256, ∀ i : Fin 8, ((nI S.val >>> ((7 - nI i.val) &&& 31)) &&& 1 : Int32) = nI (b8 (mir S.val) i.val) := by decide +kernel
theorem shC {S i : Nat} (hS : S < 256) (hi : i < 8) : ((nI S >>> ((7 - nI i) &&& 31)) &&& 1 : Int32) = nI (b8 (mir S) i) := sc_f ⟨S, hS⟩ ⟨i, hi⟩
def ah0 : AH := (fun _ => 0, fun _ => 0, fun _ _ => 0, fun _ _ => none, fun _ _ => 0, fun _ _ => none)
theorem bc_f : ∀ S : Fin 256, f_J6_bitCount_0f7a4 ah0 (nI S.val) = some (nI (pop8 (mir S.val))) := by decide +kernel
theorem bcM {S : Nat} (hS : S < 256) : f_J6_bitCount_0f7a4 h (nI S) = some (nI (pop8 (mir S))) := bc_f ⟨S, hS⟩
theorem mk_f : ∀ k : Fin 9, ∀ S : Fin 256, (nI S.val &&& ((1 <<< ((8 - nI k.val) &&& 31)) - 1 : Int32) = 0) ↔ mir S.val < 2 ^ k.val := by decide +kernel
theorem mkM {k S : Nat} (hk : k < 9) (hS : S < 256) : (nI S &&& ((1 <<< ((8 - nI k) &&& 31)) - 1 : Int32) = 0) ↔ mir S < 2 ^ k := mk_f ⟨k, hk⟩ ⟨S, hS⟩
theorem p2_f : ∀ k : Fin 9, ((1 : Int32) <<< (nI k.val &&& 31)) = nI (2 ^ k.val) := by decide +kernel
theorem p2M {k : Nat} (hk : k < 9) : ((1 : Int32) <<< (nI k &&& 31)) = nI (2 ^ k) := p2_f ⟨k, hk⟩
theorem pw_f : ∀ k : Fin 9, 2 ^ k.val ≤ 256 := by decide
def Y255 (i : Nat) : Int32 := if i < 256 then nI (255 - i) else -1
theorem y_f : ∀ i : Fin 256, nI (255 - i.val) + (-1) = Y255 (i.val + 1) := by decide +kernel
theorem y255S {i : Nat} (hi : i < 256) : nI (255 - i) + (-1) = Y255 (i + 1) := y_f ⟨i, hi⟩
theorem pp_f : ∀ p : Fin 5, pop8 (2 ^ p.val - 1) = p.val := by decide
theorem r_bits {S : Nat} (hS : S < 256) (hN : 100 < N) : f_X12_bits h N (nI S) = some (nI (pop8 S)) := by
  have e := lpB (fun n i x => f_X12_bits_b4 h N n (nI S) x (nI i)) (fun i x => x + nI (b8 S i)) 8 (fun x => some x) (by
    intro n x
    simp (disch := omega) only [f_X12_bits_b4, f_X12_bits_b4_body, obs, b10, b01, bm, if_true_, if_false_, eq_self, not_true_eq_false, not_false_eq_true, true_or, or_true, or_false, false_or, and_true, true_and, and_false, false_and, or_self, and_self, Bool.false_eq_true, ite_self, n25, n20, n24, n100, lt8, nI_leI, Nat.le_refl]) (by
    intro n i x hi
    have hn : ¬ 8 ≤ i := by omega
    simp (disch := omega) only [f_X12_bits_b4, f_X12_bits_b4_body, obs, b10, b01, bm, if_true_, if_false_, eq_self, not_true_eq_false, not_false_eq_true, true_or, or_true, or_false, false_or, and_true, true_and, and_false, false_and, or_self, and_self, Bool.false_eq_true, ite_self, n25, n20, n24, n100, lt8, nI_leI, hn, shB hS, nI_1]) (m := 8) (N := N) (i := 0) (a := 0) (by omega) (by omega)
  have e' : f_X12_bits h N (nI S) = some (itr (fun i x => x + nI (b8 S i)) 0 8 0) := e
  rw [e']
  simp only [itr]
  rw [show (0 : Int32) = nI 0 by decide]
  simp only [nI_add]
  unfold pop8
  rw [Nat.zero_add]
theorem r_ahead {S T : Nat} (hS : S < 256) (hT : T < 256) (hne : S ≠ T) : ∀ (m i n : Nat), i + m = 8 → m < n → (∀ j, j < i → b8 S j = b8 T j) → f_X12_isAhead_b2 h N n (nI S) (nI T) (nI i) = some (if mir T < mir S then 1 else 0) := by
  intro m
  induction m with
  | zero =>
    intro i n hi hn hb
    have : i = 8 := by omega
    subst this
    exfalso
    apply hne
    apply mir_inj hS hT
    unfold mir
    rw [hb 0 (by omega), hb 1 (by omega), hb 2 (by omega), hb 3 (by omega), hb 4 (by omega), hb 5 (by omega), hb 6 (by omega), hb 7 (by omega)]
  | succ m ih =>
    intro i n hi hn hb
    obtain ⟨n, rfl⟩ : ∃ n', n = n' + 1 := ⟨n - 1, by omega⟩
    show f_X12_isAhead_b2_body h N (f_X12_isAhead_b2 h N n) (nI S) (nI T) (nI i) = _
    unfold f_X12_isAhead_b2_body
    rw [shB hS (by omega), shB hT (by omega)]
    have l1 := @b8_lt S i
    have l2 := @b8_lt T i
    by_cases e : b8 S i = b8 T i
    · rw [if_pos (by rw [e]), nI_1]
      exact ih (i + 1) n (by omega) (by omega) (fun j hj => by
        by_cases ej : j = i
        · rw [ej]; exact e
        · exact hb j (by omega))
    · rw [if_neg (by rw [nI_eq (by omega) (by omega)]; exact e)]
      have key : mir T < mir S ↔ b8 S i = 1 := by
        have k0 : ∀ j, b8 S j < 2 := fun j => b8_lt
        have k1 : ∀ j, b8 T j < 2 := fun j => b8_lt
        have s0 := k0 0
        have s1 := k0 1
        have s2 := k0 2
        have s3 := k0 3
        have s4 := k0 4
        have s5 := k0 5
        have s6 := k0 6
        have s7 := k0 7
        have t0 := k1 0
        have t1 := k1 1
        have t2 := k1 2
        have t3 := k1 3
        have t4 := k1 4
        have t5 := k1 5
        have t6 := k1 6
        have t7 := k1 7
        have q0 : 0 < i → b8 S 0 = b8 T 0 := hb 0
        have q1 : 1 < i → b8 S 1 = b8 T 1 := hb 1
        have q2 : 2 < i → b8 S 2 = b8 T 2 := hb 2
        have q3 : 3 < i → b8 S 3 = b8 T 3 := hb 3
        have q4 : 4 < i → b8 S 4 = b8 T 4 := hb 4
        have q5 : 5 < i → b8 S 5 = b8 T 5 := hb 5
        have q6 : 6 < i → b8 S 6 = b8 T 6 := hb 6
        have hi8 : i = 0 ∨ i = 1 ∨ i = 2 ∨ i = 3 ∨ i = 4 ∨ i = 5 ∨ i = 6 ∨ i = 7 := by omega
        unfold mir
        rcases hi8 with rfl | rfl | rfl | rfl | rfl | rfl | rfl | rfl <;> omega
      by_cases q : b8 S i = 1
      · rw [q, if_pos (show nI 1 = 1 by decide), if_pos (key.mpr q)]
      · rw [if_neg (by rw [show (1 : Int32) = nI 1 by decide, nI_eq (by omega) (by omega)]; exact q), if_neg (fun z => q (key.mp z))]
def memb (S : Nat) : Nat → Nat → Nat → Int32
  | 0, _, _ => -1
  | m + 1, c, i => if b8 S i = 1 then (if c = 0 then nI i else memb S m (c - 1) (i + 1)) else memb S m c (i + 1)
theorem c_hasSite {S i : Nat} (hS : S < 256) (hi : i < 8) : f_X11_hasSite h (nI S) (nI i) = some (if b8 (mir S) i = 1 then 1 else 0) := by
  have l1 := @b8_lt (mir S) i
  unfold f_X11_hasSite
  rw [shC hS hi]
  by_cases q : b8 (mir S) i = 1
  · rw [q, if_pos (show nI 1 = 1 by decide), if_pos rfl]
  · rw [if_neg (by rw [show (1 : Int32) = nI 1 by decide, nI_eq (by omega) (by omega)]; exact q), if_neg q]
theorem c_memb {S q : Nat} (hS : S < 256) (hq : q < 5) : ∀ (m i n c x : Nat), i + m = 8 → m < n → x + c = q → f_X11_memberOf_b4 h N n (nI S) (nI q) (nI x) (nI i) = some (memb (mir S) m c i) := by
  intro m
  induction m with
  | zero =>
    intro i n c x hi hn hx
    obtain ⟨n, rfl⟩ : ∃ n', n = n' + 1 := ⟨n - 1, by omega⟩
    have : i = 8 := by omega
    subst this
    show f_X11_memberOf_b4_body h N (f_X11_memberOf_b4 h N n) (nI S) (nI q) (nI x) (nI 8) = _
    unfold f_X11_memberOf_b4_body
    rw [if_pos (by decide)]
    rfl
  | succ m ih =>
    intro i n c x hi hn hx
    obtain ⟨n, rfl⟩ : ∃ n', n = n' + 1 := ⟨n - 1, by omega⟩
    show f_X11_memberOf_b4_body h N (f_X11_memberOf_b4 h N n) (nI S) (nI q) (nI x) (nI i) = _
    unfold f_X11_memberOf_b4_body f_X11_memberOf_b31 memb
    rw [if_neg (by rw [lt8, nI_leI (by omega) (by omega)]; omega), c_hasSite hS (by omega), obs]
    by_cases e : b8 (mir S) i = 1
    · rw [if_pos e, if_pos e, if_neg (by decide)]
      by_cases e2 : c = 0
      · rw [if_pos (by rw [show x = q by omega]), if_pos e2]
      · rw [if_neg (by rw [nI_eq (by omega) (by omega)]; omega), if_neg e2, nI_1, nI_1]
        exact ih (i + 1) n (c - 1) (x + 1) (by omega) (by omega) (by omega)
    · rw [if_neg e, if_neg e, if_pos rfl, nI_1]
      exact ih (i + 1) n c x (by omega) (by omega) hx
theorem r_memb {S k : Nat} (H : RS h σ) (hk : σ.1 46 = nI k) (hk8 : k < 9) (hS : S < 256) : ∀ (m i n c : Nat), i + m = k → m < n → c < 5 → f_X12_best_b119 h N n 100 (nI S) (nI (c + 1)) (nI i) = some (memb S m c i) := by
  intro m
  induction m with
  | zero =>
    intro i n c hi hn hc
    obtain ⟨n, rfl⟩ : ∃ n', n = n' + 1 := ⟨n - 1, by omega⟩
    have : i = k := by omega
    subst this
    show f_X12_best_b119_body h N (f_X12_best_b119 h N n) 100 (nI S) (nI (c + 1)) (nI i) = _
    unfold f_X12_best_b119_body
    rw [RS.gi H, obs, hk, if_pos (Int32.le_refl _)]
    rfl
  | succ m ih =>
    intro i n c hi hn hc
    obtain ⟨n, rfl⟩ : ∃ n', n = n' + 1 := ⟨n - 1, by omega⟩
    show f_X12_best_b119_body h N (f_X12_best_b119 h N n) 100 (nI S) (nI (c + 1)) (nI i) = _
    unfold f_X12_best_b119_body memb
    have l1 := @b8_lt S i
    rw [RS.gi H, obs, hk, if_neg (by rw [nI_leI (by omega) (by omega)]; omega), shB hS (by omega)]
    by_cases e : b8 S i = 1
    · have e1 : nI (c + 1) - nI 1 = nI c := nI_pred c
      rw [if_pos e, e, e1]
      by_cases e2 : c = 0
      · rw [if_pos (by rw [e2]; rfl), if_pos e2]
      · rw [if_neg (by rw [show (0 : Int32) = nI 0 by decide, nI_eq (by omega) (by omega)]; exact e2), if_neg e2, nI_1]
        have := ih (i + 1) n (c - 1) (by omega) (by omega) (by omega)
        rwa [show c - 1 + 1 = c by omega] at this
    · have e0 : b8 S i = 0 := by omega
      have e1 : nI (c + 1) - nI 0 = nI (c + 1) := Int32.sub_zero _
      rw [if_neg e, e0, e1, if_neg (by rw [show (0 : Int32) = nI 0 by decide, nI_eq (by omega) (by omega)]; omega), nI_1]
      exact ih (i + 1) n c (by omega) (by omega) hc
theorem memb_z {S : Nat} : ∀ (e c i : Nat), (∀ j, i ≤ j → b8 S j = 0) → memb S e c i = -1
  | 0, _, _, _ => rfl
  | e + 1, c, i, hz => by
    unfold memb
    rw [if_neg (by rw [hz i (by omega)]; decide)]
    exact memb_z e c (i + 1) (fun j hj => hz j (by omega))
theorem memb_m {S e : Nat} : ∀ (m c i : Nat), (∀ j, i + m ≤ j → b8 S j = 0) → memb S (m + e) c i = memb S m c i
  | 0, c, i, hz => by
    rw [Nat.zero_add]
    exact memb_z e c i (fun j hj => hz j (by omega))
  | m + 1, c, i, hz => by
    rw [show m + 1 + e = m + e + 1 by omega]
    unfold memb
    rw [memb_m m (c - 1) (i + 1) (fun j hj => hz j (by omega)), memb_m m c (i + 1) (fun j hj => hz j (by omega))]
theorem b8_z {S k j : Nat} (hS : S < 2 ^ k) (hj : k ≤ j) : b8 S j = 0 := by
  unfold b8
  rw [Nat.div_eq_of_lt (Nat.lt_of_lt_of_le hS (Nat.pow_le_pow_right (by omega) hj))]
end
