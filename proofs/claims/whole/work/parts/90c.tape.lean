/-! ===== the tape: words and numbers ===== -/
section
variable {L N : Nat} {xs : Nat → Int32} {h h' h0 : AH} {σ σ' y : SG} {tr : Nat → Nat} {u n : Nat} {s : Nat × Bool}
def tb (σ : SG) (p : Nat) : Int32 := if cn σ 63 ≤ p then -1 else σ.2 62 p
def nx (σ : SG) (p : Nat) : Int32 := if cn σ 63 ≤ p then -1 else sx (σ.2 62 p)
def wdS (σ : SG) : List Int32 → Nat × Bool → Nat × Bool
  | [], s => s
  | c :: cs, s => if s.2 = true then s else if tb σ s.1 = c then wdS σ cs (s.1 + 1, false) else (s.1, true)
def nmG (σ : SG) : Nat → Nat → Int32 → Nat → Int32 × Nat × Nat
  | 0, c, v, p => (v, c, p)
  | r + 1, c, v, p => if 48 ≤ tb σ p ∧ tb σ p ≤ 57 then nmG σ r (c + 1) (v * 10 + tb σ p - 48) (p + 1) else (v, c, p)
def nmS (σ : SG) (m : Nat) (s : Nat × Bool) : Int32 × (Nat × Bool) := if s.2 = true then (0, s) else ((nmG σ m 0 0 s.1).1, (nmG σ m 0 0 s.1).2.2, decide ((nmG σ m 0 0 s.1).2.1 = 0))
theorem wdS_t {ws : List Int32} (e : s.2 = true) : wdS σ ws s = s := by
  cases ws with
  | nil => rfl
  | cons c cs => unfold wdS; rw [if_pos e]
theorem nmS_t {m : Nat} (e : s.2 = true) : nmS σ m s = (0, s) := if_pos e
/-- what of the tape stands while it is read -/
def TC (h : AH) (σ : SG) : Prop := (kd h 15 = 10 ∧ fr h 15 0 = some 33 ∧ kd h 33 = 22 ∧ ln h 33 = 100 ∧ fi h 15 1 = nI (cn σ 63)) ∧ (∀ i, i < 100 → ai h 33 i = sx (σ.2 62 i)) ∧ cn σ 63 ≤ 100 ∧ (∀ i, i < 100 → bd (σ.2 62 i) 256) ∧
  ∀ i, i < 16 → kd h (9100 + i) = 40 ∧ kd h (9120 + i) = 41 ∧ ln h (9120 + i) = SLEN.getD i 0 ∧ ai h (9120 + i) = fun j => (SBYT.getD i []).getD j 0
def TS (h : AH) (s : Nat × Bool) : Prop := fi h 15 2 = nI s.1 ∧ fi h 15 3 = bI s.2
def FW (h h' : AH) : Prop := (kd h' = kd h ∧ ln h' = ln h ∧ fr h' = fr h ∧ ar h' = ar h ∧ ai h' = ai h) ∧ ∀ r k, ¬ (r = 15 ∧ (k = 2 ∨ k = 3)) → fi h' r k = fi h r k
theorem FW.refl : FW h h := ⟨⟨rfl, rfl, rfl, rfl, rfl⟩, fun _ _ _ => rfl⟩
theorem FW.trans {h1 h2 h3 : AH} (a : FW h1 h2) (b : FW h2 h3) : FW h1 h3 := by
  obtain ⟨⟨a1, a2, a3, a4, a5⟩, a6⟩ := a
  obtain ⟨⟨b1, b2, b3, b4, b5⟩, b6⟩ := b
  exact ⟨⟨b1.trans a1, b2.trans a2, b3.trans a3, b4.trans a4, b5.trans a5⟩, fun r k hk => (b6 r k hk).trans (a6 r k hk)⟩
theorem TC.fw (T : TC h σ) (F : FW h h') : TC h' σ := by
  obtain ⟨⟨f1, f2, f3, f4, f5⟩, f6⟩ := F
  unfold TC at T ⊢
  rw [f1, f2, f3, f5, f6 15 1 (by omega)]
  exact T
theorem FW.w2 {x : Int32} : FW h (sfi h 15 2 x) := ⟨⟨rfl, rfl, rfl, rfl, rfl⟩, fun r k hk => by rw [fi_sfi, if_neg (by omega)]⟩
theorem FW.w3 {x : Int32} : FW h (sfi h 15 3 x) := ⟨⟨rfl, rfl, rfl, rfl, rfl⟩, fun r k hk => by rw [fi_sfi, if_neg (by omega)]⟩
theorem sx_f : ∀ k : Fin 256, (k.val < 128 → sx (nI k.val) = nI k.val) ∧ (128 ≤ k.val → sx (nI k.val) < 0) := by decide +kernel
theorem nx_eq (T : TC h σ) {p c : Nat} (hc : c < 128) : nx σ p = nI c ↔ tb σ p = nI c := by
  unfold nx tb
  by_cases q : cn σ 63 ≤ p
  · rw [if_pos q, if_pos q]
  · rw [if_neg q, if_neg q]
    obtain ⟨k, hk, e⟩ := T.2.2.2.1 p (by have := T.2.2.1; omega)
    rw [e]
    by_cases q2 : k < 128
    · rw [(sx_f ⟨k, hk⟩).1 q2]
    · have l := (sx_f ⟨k, hk⟩).2 (show 128 ≤ k by omega)
      constructor
      · intro z
        rw [show sx (nI k) = nI c from z] at l
        exact absurd l (nI_pos (by omega))
      · intro z
        rw [nI_eq (by omega) (by omega)] at z
        omega
theorem nx_dg (T : TC h σ) {p : Nat} : (¬ nx σ p < 48 ∧ ¬ 57 < nx σ p) ↔ (48 ≤ tb σ p ∧ tb σ p ≤ 57) := by
  unfold nx tb
  by_cases q : cn σ 63 ≤ p
  · rw [if_pos q, if_pos q]
    constructor
    · intro z; exact absurd (show (-1 : Int32) < 48 by decide) z.1
    · intro z; exact absurd z.1 (by decide)
  · rw [if_neg q, if_neg q]
    obtain ⟨k, hk, e⟩ := T.2.2.2.1 p (by have := T.2.2.1; omega)
    rw [e]
    by_cases q2 : k < 128
    · rw [(sx_f ⟨k, hk⟩).1 q2, Int32.not_lt, Int32.not_lt]
    · have l := (sx_f ⟨k, hk⟩).2 (show 128 ≤ k by omega)
      have l' : sx (nI k) < 0 := l
      constructor
      · intro z; exact absurd (Int32.lt_trans l' (show (0 : Int32) < 48 by decide)) z.1
      · intro z
        have := z.2
        rw [show (57 : Int32) = nI 57 by decide, nI_leI (by omega) (by omega)] at this
        omega
theorem nx_tb (T : TC h σ) {p : Nat} (d : 48 ≤ tb σ p ∧ tb σ p ≤ 57) : nx σ p = tb σ p ∧ p < cn σ 63 := by
  unfold nx tb at *
  by_cases q : cn σ 63 ≤ p
  · rw [if_pos q] at d
    exact absurd d.1 (by decide)
  · rw [if_neg q] at d ⊢
    rw [if_neg q]
    obtain ⟨k, hk, e⟩ := T.2.2.2.1 p (by have := T.2.2.1; omega)
    rw [e] at d ⊢
    have := d.2
    rw [show (57 : Int32) = nI 57 by decide, nI_leI (by omega) (by omega)] at this
    exact ⟨(sx_f ⟨k, hk⟩).1 (show k < 128 by omega), by omega⟩
theorem tb_lt {p c : Nat} (hc : c < 128) (e : tb σ p = nI c) : p < cn σ 63 := by
  unfold tb at e
  by_cases q : cn σ 63 ≤ p
  · rw [if_pos q] at e
    exact absurd e.symm (nI_neg (by omega))
  · omega
theorem c_next (T : TC h σ) (Z : TS h s) (hs : s.1 ≤ cn σ 63) : f_X8_next h 15 = some (nx σ s.1) := by
  obtain ⟨⟨k1, k2, k3, k4, k5⟩, t2, t3, -⟩ := T
  unfold f_X8_next nx
  rw [if_pos k1, xgi_ok k1, Z.1, obs, xgi_ok k1, k5, obs]
  by_cases q : cn σ 63 ≤ s.1
  · rw [if_pos q, if_pos (by rw [nI_leI (by omega) (by omega)]; exact q)]
  · rw [if_neg q, if_neg (by rw [nI_leI (by omega) (by omega)]; exact q), xgr_ok k1, k2, obs, obs]
    unfold xba
    rw [if_pos ⟨Or.inr (Or.inl k3), by rw [k4]; exact nI_in (by omega) (by decide)⟩, nI_clamp (by omega), t2 _ (by omega), obs]
/-- the words: their letters -/
theorem sb_f : ∀ i : Fin 16, (SBYT.getD i.val []).length = SLEN.getD i.val 0 ∧ SLEN.getD i.val 0 ≤ 8 := by decide
def isAs (v : Int32) : Prop := (((v &&& 255) : Int32).toUInt32 % 65536).toInt32 = v ∧ narrow .char (.int v) = .int v ∧ ∃ k, k < 128 ∧ v = nI k
theorem as_f : ∀ k : Fin 128, (((nI k.val &&& 255) : Int32).toUInt32 % 65536).toInt32 = nI k.val ∧ narrow .char (.int (nI k.val)) = .int (nI k.val) := by decide +kernel
theorem sc_b : ∀ i : Fin 16, ∀ j : Fin 8, j.val < SLEN.getD i.val 0 → ∃ k : Fin 128, (SBYT.getD i.val []).getD j.val 0 = nI k.val := by decide +kernel
theorem sb_as {i j : Nat} (hi : i < 16) (hj : j < SLEN.getD i 0) : isAs ((SBYT.getD i []).getD j 0) := by
  have l := (sb_f ⟨i, hi⟩).2
  have hj8 : j < 8 := Nat.lt_of_lt_of_le hj l
  obtain ⟨k, e⟩ := sc_b ⟨i, hi⟩ ⟨j, hj8⟩ hj
  have e' : (SBYT.getD i []).getD j 0 = nI k.val := e
  unfold isAs
  rw [e']
  exact ⟨(as_f k).1, (as_f k).2, k.val, k.isLt, rfl⟩
theorem c_len (T : TC h σ) {i : Nat} (hi : i < 16) : f_J0_length_8abf5 h (9100 + i) = some (nI (SLEN.getD i 0)) := by
  obtain ⟨k1, k2, k3, k4⟩ := T.2.2.2.2 i hi
  have e : 9100 + i + 20 = 9120 + i := by omega
  unfold f_J0_length_8abf5 f_J0_coder_7d493 xsv xsc xal
  rw [if_pos k1, if_pos k1, obs, e, if_pos (Or.inr (Or.inr (Or.inr k2))), obs, if_pos k1, if_neg (by decide), if_pos k1, obs, if_pos (by decide), obs, k3]
  have t : ∀ i : Fin 16, (nI (SLEN.getD i.val 0) >>> ((0 : Int32) &&& 31)) = nI (SLEN.getD i.val 0) := by decide +kernel
  exact congrArg some (t ⟨i, hi⟩)
theorem c_charAt (T : TC h σ) {i j : Nat} (hi : i < 16) (hj : j < SLEN.getD i 0) : f_J0_charAt_5068e h (9100 + i) (nI j) = some ((SBYT.getD i []).getD j 0) := by
  obtain ⟨k1, k2, k3, k4⟩ := T.2.2.2.2 i hi
  obtain ⟨a1, a2, -⟩ := sb_as hi hj
  have l := (sb_f ⟨i, hi⟩).2
  have hj8 : j < 8 := Nat.lt_of_lt_of_le hj l
  have l8 : SLEN.getD i 0 ≤ 8 := l
  have e : 9100 + i + 20 = 9120 + i := by omega
  have xl : xal h (9120 + i) = some (nI (SLEN.getD i 0)) := by unfold xal; rw [if_pos (Or.inr (Or.inr (Or.inr k2))), k3]
  have xb : xba h (9120 + i) (nI j) = some ((SBYT.getD i []).getD j 0) := by
    unfold xba
    rw [if_pos ⟨Or.inr (Or.inr k2), by rw [k3]; exact nI_in hj (by omega)⟩, nI_clamp (by omega), k4]
  unfold f_J0_charAt_5068e f_J0_isLatin1_aae02 xsv xsc
  rw [if_pos k1, if_pos k1, if_neg (by decide), if_pos k1, obs, if_pos rfl, obs, if_neg (by decide), if_pos k1, obs, e]
  unfold f_J1_charAt_3b067 f_J0_checkIndex_df160 f_J3_checkIndex_8e157
  rw [xl, obs, if_neg (nI_pos (by omega)), if_pos (by rw [nI_ltI (by omega) (by omega)]; exact hj), obs, obs, xb, obs, a1, if_pos a2, obs, if_pos a2]
theorem c_wordL {i : Nat} (hi : i < 16) : ∀ (ws : List Int32) (j n : Nat) (h : AH) (s : Nat × Bool), j + ws.length = SLEN.getD i 0 → (SBYT.getD i []).drop j = ws → ws.length + 1 < n → TC h σ → TS h s → s.1 ≤ cn σ 63 → ∃ h', f_X8_word_b2 N n h 15 (9100 + i) (nI j) = some h' ∧ TS h' (wdS σ ws s) ∧ (wdS σ ws s).1 ≤ cn σ 63 ∧ FW h h' := by
  have l8 : SLEN.getD i 0 ≤ 8 := (sb_f ⟨i, hi⟩).2
  have ll : (SBYT.getD i []).length = SLEN.getD i 0 := (sb_f ⟨i, hi⟩).1
  intro ws
  induction ws with
  | nil =>
    intro j n h s hj hd hn T Z hs
    obtain ⟨n, rfl⟩ : ∃ n', n = n' + 1 := ⟨n - 1, by omega⟩
    refine ⟨h, ?_, Z, hs, FW.refl⟩
    have : j = SLEN.getD i 0 := by simpa using hj
    show f_X8_word_b2_body N (f_X8_word_b2 N n) h 15 (9100 + i) (nI j) = _
    unfold f_X8_word_b2_body
    rw [c_len T hi, obs, if_pos (by rw [this]; exact Int32.le_refl _)]
  | cons c cs ih =>
    intro j n h s hj hd hn T Z hs
    obtain ⟨n, rfl⟩ : ∃ n', n = n' + 1 := ⟨n - 1, by omega⟩
    rw [List.length_cons] at hj hn
    have k15 := T.1.1
    have hlt : j < (SBYT.getD i []).length := by omega
    have hc : (SBYT.getD i []).getD j 0 = c := by
      have := List.drop_eq_getElem_cons hlt
      rw [hd] at this
      injection this with t1 t2
      rw [List.getD_eq_getElem?_getD, List.getElem?_eq_getElem hlt]
      exact t1.symm
    have hd2 : (SBYT.getD i []).drop (j + 1) = cs := by
      have := List.drop_eq_getElem_cons hlt
      rw [hd] at this
      injection this with t1 t2
      exact t2.symm
    obtain ⟨-, -, k, hk, ek⟩ := sb_as hi (show j < SLEN.getD i 0 by omega)
    rw [hc] at ek
    have hnj : ¬ nI (SLEN.getD i 0) ≤ nI j := by rw [nI_leI (by omega) (by omega)]; omega
    have pre : f_X8_word_b2 N (n + 1) h 15 (9100 + i) (nI j) = (if bI s.2 = 0 then (if nx σ s.1 = c then (xpi h 15 9 2 (nI s.1 + 1)).bind fun h9 => f_X8_word_b2 N n h9 15 (9100 + i) (nI j + 1) else (xpz h 15 9 3 1).bind fun h10 => f_X8_word_b2 N n h10 15 (9100 + i) (nI j + 1)) else some h) := by
      show f_X8_word_b2_body N (f_X8_word_b2 N n) h 15 (9100 + i) (nI j) = _
      unfold f_X8_word_b2_body f_X8_word_b47
      rw [c_len T hi, obs, if_neg hnj, xgi_ok k15, Z.2, obs, c_next T Z hs, obs, c_charAt T hi (by omega), obs, hc, xgi_ok k15, Z.1, obs]
    rcases e2 : s.2
    · rw [e2] at pre
      rw [if_pos (show bI false = 0 by rfl)] at pre
      by_cases q : tb σ s.1 = c
      · have q' : nx σ s.1 = c := by rw [ek] at q ⊢; exact (nx_eq T hk).mpr q
        have hp : s.1 < cn σ 63 := by rw [ek] at q; exact tb_lt hk q
        rw [if_pos q', xpi_ok k15, obs, nI_1, nI_1] at pre
        have Z2 : TS (sfi h 15 2 (nI (s.1 + 1))) (s.1 + 1, false) := ⟨by rw [fi_sfi, if_pos ⟨rfl, rfl⟩], by rw [fi_sfi, if_neg (by omega), Z.2, e2]⟩
        obtain ⟨h2, r1, r2, r3, r4⟩ := ih (j + 1) n (sfi h 15 2 (nI (s.1 + 1))) (s.1 + 1, false) (by omega) hd2 (by omega) (T.fw FW.w2) Z2 (by show s.1 + 1 ≤ _; omega)
        have eW : wdS σ (c :: cs) s = wdS σ cs (s.1 + 1, false) := by
          conv => lhs; unfold wdS
          rw [if_neg (by rw [e2]; decide), if_pos q]
        rw [eW]
        exact ⟨h2, pre.trans r1, r2, r3, FW.w2.trans r4⟩
      · have q' : ¬ nx σ s.1 = c := by rw [ek] at q ⊢; exact fun z => q ((nx_eq T hk).mp z)
        have xz : xpz h 15 9 3 1 = some (sfi h 15 3 1) := by unfold xpz; rw [if_pos ⟨k15, Or.inr rfl⟩]
        rw [if_neg q', xz, obs, nI_1] at pre
        have Z2 : TS (sfi h 15 3 1) (s.1, true) := ⟨by rw [fi_sfi, if_neg (by omega), Z.1], by rw [fi_sfi, if_pos ⟨rfl, rfl⟩]; rfl⟩
        obtain ⟨h2, r1, r2, r3, r4⟩ := ih (j + 1) n (sfi h 15 3 1) (s.1, true) (by omega) hd2 (by omega) (T.fw FW.w3) Z2 hs
        rw [wdS_t rfl] at r2 r3
        have eW : wdS σ (c :: cs) s = (s.1, true) := by
          conv => lhs; unfold wdS
          rw [if_neg (by rw [e2]; decide), if_neg q]
        rw [eW]
        exact ⟨h2, pre.trans r1, r2, r3, FW.w3.trans r4⟩
    · rw [e2] at pre
      rw [if_neg (show ¬ bI true = 0 by decide)] at pre
      rw [wdS_t e2]
      exact ⟨h, pre, Z, hs, FW.refl⟩
theorem c_word {i : Nat} (hi : i < 16) (T : TC h σ) (Z : TS h s) (hs : s.1 ≤ cn σ 63) (hN : 100 < N) : ∃ h', f_X8_word h N 15 (9100 + i) = some h' ∧ TS h' (wdS σ (SBYT.getD i []) s) ∧ (wdS σ (SBYT.getD i []) s).1 ≤ cn σ 63 ∧ FW h h' := by
  have l8 : SLEN.getD i 0 ≤ 8 := (sb_f ⟨i, hi⟩).2
  have ll : (SBYT.getD i []).length = SLEN.getD i 0 := (sb_f ⟨i, hi⟩).1
  obtain ⟨h2, r1, r2, r3, r4⟩ := c_wordL (N := N) hi (SBYT.getD i []) 0 N h s (by omega) rfl (by omega) T Z hs
  refine ⟨h2, ?_, r2, r3, r4⟩
  unfold f_X8_word
  rw [if_pos T.1.1]
  exact r1
theorem c_numL : ∀ (r c m n : Nat) (v : Int32) (h : AH) (p : Nat), c + r = m → m ≤ 4 → r + 1 < n → TC h σ → TS h (p, false) → p ≤ cn σ 63 → ∃ h', f_X8_number_b4 N n h 15 (nI m) v (nI c) = some ((nmG σ r c v p).1, h') ∧ TS h' ((nmG σ r c v p).2.2, decide ((nmG σ r c v p).2.1 = 0)) ∧ (nmG σ r c v p).2.2 ≤ cn σ 63 ∧ FW h h' := by
  intro r
  induction r with
  | zero =>
    intro c m n v h p hc hm hn T Z hp
    obtain ⟨n, rfl⟩ : ∃ n', n = n' + 1 := ⟨n - 1, by omega⟩
    have : c = m := by omega
    subst this
    have pre : f_X8_number_b4 N (n + 1) h 15 (nI c) v (nI c) = f_X8_number_b63 N h 15 v (nI c) := by
      show f_X8_number_b4_body N (f_X8_number_b4 N n) h 15 (nI c) v (nI c) = _
      unfold f_X8_number_b4_body
      rw [if_pos (Int32.le_refl _)]
    rw [pre]
    unfold f_X8_number_b63 nmG
    by_cases q : c = 0
    · subst q
      have xz : xpz h 15 9 3 1 = some (sfi h 15 3 1) := by unfold xpz; rw [if_pos ⟨T.1.1, Or.inr rfl⟩]
      rw [if_pos (by decide), xz, obs]
      exact ⟨_, rfl, ⟨by rw [fi_sfi, if_neg (by omega), Z.1], by rw [fi_sfi, if_pos ⟨rfl, rfl⟩]; rfl⟩, hp, FW.w3⟩
    · rw [if_neg (by rw [show (0 : Int32) = nI 0 by decide, nI_eq (by omega) (by omega)]; exact q)]
      exact ⟨_, rfl, ⟨Z.1, by rw [Z.2]; simp [q]⟩, hp, FW.refl⟩
  | succ r ih =>
    intro c m n v h p hc hm hn T Z hp
    obtain ⟨n, rfl⟩ : ∃ n', n = n' + 1 := ⟨n - 1, by omega⟩
    have k15 := T.1.1
    have hnm : ¬ nI m ≤ nI c := by rw [nI_leI (by omega) (by omega)]; omega
    have fin : ∃ h', f_X8_number_b63 N h 15 v (nI c) = some (v, h') ∧ TS h' (p, decide (c = 0)) ∧ p ≤ cn σ 63 ∧ FW h h' := by
      unfold f_X8_number_b63
      by_cases q : c = 0
      · subst q
        have xz : xpz h 15 9 3 1 = some (sfi h 15 3 1) := by unfold xpz; rw [if_pos ⟨T.1.1, Or.inr rfl⟩]
        rw [if_pos (by decide), xz, obs]
        exact ⟨_, rfl, ⟨by rw [fi_sfi, if_neg (by omega), Z.1], by rw [fi_sfi, if_pos ⟨rfl, rfl⟩]; rfl⟩, hp, FW.w3⟩
      · rw [if_neg (by rw [show (0 : Int32) = nI 0 by decide, nI_eq (by omega) (by omega)]; exact q)]
        exact ⟨_, rfl, ⟨Z.1, by rw [Z.2]; simp [q]⟩, hp, FW.refl⟩
    have pre : f_X8_number_b4 N (n + 1) h 15 (nI m) v (nI c) = (if nx σ p < 48 then f_X8_number_b63 N h 15 v (nI c) else if 57 < nx σ p then f_X8_number_b63 N h 15 v (nI c) else (xpi h 15 9 2 (nI p + 1)).bind fun h10 => f_X8_number_b4 N n h10 15 (nI m) (v * 10 + nx σ p - 48) (nI c + 1)) := by
      show f_X8_number_b4_body N (f_X8_number_b4 N n) h 15 (nI m) v (nI c) = _
      unfold f_X8_number_b4_body
      rw [if_neg hnm, xgi_ok k15, Z.2, obs, if_pos (show bI false = 0 by rfl), c_next T Z hp, obs, obs, obs, xgi_ok k15, Z.1, obs]
    unfold nmG
    by_cases q : 48 ≤ tb σ p ∧ tb σ p ≤ 57
    · have q' := (nx_dg T).mpr q
      obtain ⟨e1, e2⟩ := nx_tb T q
      rw [if_neg q'.1, if_neg q'.2, xpi_ok k15, obs, nI_1, nI_1, e1] at pre
      rw [if_pos q]
      have Z2 : TS (sfi h 15 2 (nI (p + 1))) (p + 1, false) := ⟨by rw [fi_sfi, if_pos ⟨rfl, rfl⟩], by rw [fi_sfi, if_neg (by omega), Z.2]⟩
      obtain ⟨h2, r1, r2, r3, r4⟩ := ih (c + 1) m n (v * 10 + tb σ p - 48) (sfi h 15 2 (nI (p + 1))) (p + 1) (by omega) hm (by omega) (T.fw FW.w2) Z2 (by omega)
      exact ⟨h2, pre.trans r1, r2, r3, FW.w2.trans r4⟩
    · rw [if_neg q]
      obtain ⟨h2, r1, r2, r3, r4⟩ := fin
      refine ⟨h2, ?_, r2, r3, r4⟩
      rw [pre]
      by_cases q1 : nx σ p < 48
      · rw [if_pos q1]; exact r1
      · rw [if_neg q1]
        by_cases q2 : 57 < nx σ p
        · rw [if_pos q2]; exact r1
        · exact absurd ((nx_dg T).mp ⟨q1, q2⟩) q
theorem c_num {m : Nat} (hm : 1 ≤ m ∧ m ≤ 4) (T : TC h σ) (Z : TS h s) (hs : s.1 ≤ cn σ 63) (hN : 100 < N) : ∃ h', f_X8_number h N 15 (nI m) = some ((nmS σ m s).1, h') ∧ TS h' (nmS σ m s).2 ∧ (nmS σ m s).2.1 ≤ cn σ 63 ∧ FW h h' := by
  have k15 := T.1.1
  obtain ⟨p, f⟩ := s
  rcases f
  · obtain ⟨h2, r1, r2, r3, r4⟩ := c_numL (N := N) m 0 m N 0 h p (by omega) hm.2 (by omega) T Z hs
    have eS : nmS σ m (p, false) = ((nmG σ m 0 0 p).1, (nmG σ m 0 0 p).2.2, decide ((nmG σ m 0 0 p).2.1 = 0)) := if_neg (show ¬ (false = true) by decide)
    rw [eS]
    refine ⟨h2, ?_, r2, r3, r4⟩
    unfold f_X8_number
    rw [if_pos k15]
    exact r1
  · rw [nmS_t rfl]
    have xz : xpz h 15 9 3 1 = some (sfi h 15 3 1) := by unfold xpz; rw [if_pos ⟨T.1.1, Or.inr rfl⟩]
    refine ⟨sfi h 15 3 1, ?_, ⟨by rw [fi_sfi, if_neg (by omega), Z.1], by rw [fi_sfi, if_pos ⟨rfl, rfl⟩]; rfl⟩, hs, FW.w3⟩
    unfold f_X8_number
    rw [if_pos k15]
    obtain ⟨n, rfl⟩ : ∃ n', N = n' + 1 := ⟨N - 1, by omega⟩
    show f_X8_number_b4_body (n + 1) (f_X8_number_b4 (n + 1) n) h 15 (nI m) 0 0 = _
    unfold f_X8_number_b4_body f_X8_number_b63
    rw [if_neg (by rw [show (0 : Int32) = nI 0 by decide, nI_leI (by omega) (by omega)]; omega), xgi_ok k15, Z.2, obs, if_neg (show ¬ bI true = 0 by decide), if_pos rfl, xz, obs]
theorem nmG_bd : ∀ (r c : Nat) (v : Int32) (p : Nat), c + r ≤ 4 → bd v (10 ^ c) → bd (nmG σ r c v p).1 10000 := by
  intro r
  induction r with
  | zero =>
    intro c v p hc hv
    exact bd_mono hv (by
      have : (10 : Nat) ^ c ≤ 10 ^ 4 := Nat.pow_le_pow_right (by omega) (by omega)
      omega)
  | succ r ih =>
    intro c v p hc hv
    unfold nmG
    by_cases q : 48 ≤ tb σ p ∧ tb σ p ≤ 57
    · rw [if_pos q]
      refine ih (c + 1) _ (p + 1) (by omega) ?_
      obtain ⟨k, hk, rfl⟩ := hv
      have h4 : (10 : Nat) ^ c ≤ 10 ^ 4 := Nat.pow_le_pow_right (by omega) (by omega)
      obtain ⟨q1, q2⟩ := q
      rw [Int32.le_iff_toInt_le, show (48 : Int32).toInt = 48 by decide] at q1
      rw [Int32.le_iff_toInt_le, show (57 : Int32).toInt = 57 by decide] at q2
      have i1 : (nI k * 10).toInt = 10 * k := by
        rw [show (10 : Int32) = nI 10 by decide, nI_mul, nI_toInt (by omega)]; omega
      have i2 := i3_add (a := nI k * 10) (b := tb σ p) (by omega) (by omega)
      have i3 := i3_sub (a := nI k * 10 + tb σ p) (b := 48) (by rw [show (48 : Int32).toInt = 48 by decide]; omega) (by rw [show (48 : Int32).toInt = 48 by decide]; omega)
      rw [show (48 : Int32).toInt = 48 by decide] at i3
      apply bd_of_int
      rw [i3, i2, i1, Nat.pow_succ]
      omega
    · rw [if_neg q]
      exact bd_mono hv (by
        have : (10 : Nat) ^ c ≤ 10 ^ 4 := Nat.pow_le_pow_right (by omega) (by omega)
        omega)
theorem nmS_bd {m : Nat} (hm : m ≤ 4) : bd (nmS σ m s).1 10000 := by
  unfold nmS
  by_cases q : s.2 = true
  · rw [if_pos q]; exact ⟨0, by omega, lt0⟩
  · rw [if_neg q]; exact nmG_bd m 0 0 s.1 (by omega) ⟨0, by decide, lt0⟩
end
