/-! ===== loops ===== -/
theorem cnt {τ : Type} (F : Nat → Nat → Option τ) (e : Nat) (R : Option τ) (hx : ∀ n, F (n + 1) e = R) (hs : ∀ n i, i < e → F (n + 1) i = F n (i + 1) ∨ F (n + 1) i = R) : ∀ n i, i ≤ e → e - i < n → F n i = R := by
  intro n
  induction n with
  | zero => intro i _ h; omega
  | succ n ih =>
    intro i hi hn
    rcases Nat.lt_or_ge i e with q | q
    · rcases hs n i q with h | h
      · rw [h]; exact ih (i + 1) (by omega) (by omega)
      · exact h
    · have : i = e := by omega
      subst this
      exact hx n
theorem cntS {τ S : Type} (F : Nat → Nat → S → Option τ) (G : Nat → S → Prop) (Q : τ → Prop) (e : Nat) (hx : ∀ n s, G e s → ∃ r, F (n + 1) e s = some r ∧ Q r)
    (hs : ∀ n i s, i < e → G i s → (∃ s', G (i + 1) s' ∧ F (n + 1) i s = F n (i + 1) s') ∨ ∃ r, F (n + 1) i s = some r ∧ Q r) : ∀ n i s, i ≤ e → e - i < n → G i s → ∃ r, F n i s = some r ∧ Q r := by
  intro n
  induction n with
  | zero => intro i s _ h; omega
  | succ n ih =>
    intro i s hi hn hG
    rcases Nat.lt_or_ge i e with q | q
    · rcases hs n i s q hG with ⟨s', h1, h2⟩ | h
      · rw [h2]; exact ih (i + 1) s' (by omega) (by omega) h1
      · exact h
    · have : i = e := by omega
      subst this
      exact hx n s hG
/-! ===== heaps ===== -/
theorem va_up_eq {α : Type} {f : Nat → α} {k : Nat} {v : α} : va_up f k v k = v := if_pos rfl
/-- the reference's state: its ints, and its rows, by the numbers of its fields -/
abbrev SG : Type := (Nat → Int32) × (Nat → Nat → Int32)
def s1 (σ : SG) (k : Nat) (x : Int32) : SG := (va_up σ.1 k x, σ.2)
def s2 (σ : SG) (k j : Nat) (x : Int32) : SG := (σ.1, up2 σ.2 k j x)

def rlen : List Nat := [0, 8, 8, 8, 8, 4, 4, 0, 700, 700, 700, 3072, 1536, 0, 8, 8, 8, 8, 8, 8, 32, 32, 32, 32, 32, 4, 0, 24, 24, 24, 24, 24, 24, 24, 384, 4, 0, 60, 60, 60, 60, 0, 80, 80, 80, 80, 0, 8, 8, 0, 200, 200, 200, 200, 0, 0, 20, 20, 20, 20, 20, 0, 100, 0, 0, 20, 3, 3, 120, 0, 0, 79, 0, 0, 16, 16, 40]
def rkd (k : Nat) : Nat := if k = 8 ∨ k = 14 ∨ k = 24 then 21 else 20
def RS (h : AH) (σ : SG) : Prop := kd h 100 = 14 ∧ (∀ k, k < 77 → rlen.getD k 0 ≠ 0 → fr h 100 k = some (100 + k) ∧ kd h (100 + k) = rkd k ∧ ln h (100 + k) = rlen.getD k 0) ∧ (∀ k, fi h 100 k = σ.1 k) ∧ ∀ k, k < 77 → ai h (100 + k) = σ.2 k
theorem RS.gi {h : AH} {σ : SG} (H : RS h σ) (k : Nat) : xgi h 100 13 k = some (σ.1 k) := by
  unfold xgi
  rw [if_pos H.1, H.2.2.1 k]
theorem RS.gr {h : AH} {σ : SG} (H : RS h σ) (k : Nat) (hk : k < 77) (hl : rlen.getD k 0 ≠ 0) : xgr h 100 13 k = some (100 + k) := by
  unfold xgr
  rw [if_pos H.1, (H.2.1 k hk hl).1]
theorem in_nI {n L : Nat} (h : n < L) (hL : L < 2 ^ 31) : ¬ (nI n < 0 ∨ L ≤ (nI n).toNatClampNeg) := nI_in h hL
theorem RS.ia {h : AH} {σ : SG} (H : RS h σ) (k n : Nat) (hk : k < 77) (hl : n < rlen.getD k 0) (hk2 : rkd k = 20) (hb : rlen.getD k 0 < 2 ^ 31) : xia h (100 + k) (nI n) = some (σ.2 k n) := by
  obtain ⟨-, e2, e3⟩ := H.2.1 k hk (by omega)
  unfold xia
  rw [e2, e3, hk2, if_pos ⟨Or.inl rfl, in_nI hl hb⟩, nI_clamp (by omega), H.2.2.2 k hk]
theorem RS.ba {h : AH} {σ : SG} (H : RS h σ) (k n : Nat) (hk : k < 77) (hl : n < rlen.getD k 0) (hk2 : rkd k = 21) (hb : rlen.getD k 0 < 2 ^ 31) : xba h (100 + k) (nI n) = some (σ.2 k n) := by
  obtain ⟨-, e2, e3⟩ := H.2.1 k hk (by omega)
  unfold xba
  rw [e2, e3, hk2, if_pos ⟨Or.inl rfl, in_nI hl hb⟩, nI_clamp (by omega), H.2.2.2 k hk]
theorem RS.is {h : AH} {σ : SG} (H : RS h σ) (k n : Nat) (x : Int32) (hk : k < 77) (hl : n < rlen.getD k 0) (hk2 : rkd k = 20) (hb : rlen.getD k 0 < 2 ^ 31) : xis h (100 + k) (nI n) x = some (sai h (100 + k) n x) := by
  obtain ⟨-, e2, e3⟩ := H.2.1 k hk (by omega)
  unfold xis
  rw [e2, e3, hk2, if_pos ⟨rfl, in_nI hl hb⟩, nI_clamp (by omega)]
theorem RS.bs {h : AH} {σ : SG} (H : RS h σ) (k n : Nat) (x : Int32) (hx : x = 0 ∨ x = 1) (hk : k < 77) (hl : n < rlen.getD k 0) (hk2 : rkd k = 21) (hb : rlen.getD k 0 < 2 ^ 31) : xbs h (100 + k) (nI n) x = some (sai h (100 + k) n x) := by
  obtain ⟨-, e2, e3⟩ := H.2.1 k hk (by omega)
  unfold xbs
  rw [e2, e3, hk2, if_pos ⟨rfl, in_nI hl hb, hx⟩, nI_clamp (by omega)]
theorem RS.pi {h : AH} {σ : SG} (H : RS h σ) (k : Nat) (x : Int32) : xpi h 100 13 k x = some (sfi h 100 k x) := by
  unfold xpi
  rw [if_pos H.1]
theorem RS.pz {h : AH} {σ : SG} (H : RS h σ) (k : Nat) (x : Int32) (hx : x = 0 ∨ x = 1) : xpz h 100 13 k x = some (sfi h 100 k x) := by
  unfold xpz
  rw [if_pos ⟨H.1, hx⟩]
theorem RS.ai {h : AH} {σ : SG} (H : RS h σ) (k n : Nat) (x : Int32) : RS (sai h (100 + k) n x) (s2 σ k n x) := by
  refine ⟨H.1, H.2.1, H.2.2.1, fun j hj => ?_⟩
  show up2 (CRainCoverLaw_law_r3070_ac19d8.ai h) (100 + k) n x (100 + j) = up2 σ.2 k n x j
  by_cases e : j = k
  · subst e
    rw [up2_eq, up2_eq, H.2.2.2 j hj]
  · rw [up2_ne (by omega), up2_ne e, H.2.2.2 j hj]
theorem RS.fi {h : AH} {σ : SG} (H : RS h σ) (k : Nat) (x : Int32) : RS (sfi h 100 k x) (s1 σ k x) := by
  refine ⟨H.1, H.2.1, fun j => ?_, H.2.2.2⟩
  show up2 (CRainCoverLaw_law_r3070_ac19d8.fi h) 100 k x 100 j = va_up σ.1 k x j
  rw [up2_eq]
  unfold va_up
  by_cases e : j = k
  · rw [if_pos e, if_pos e]
  · rw [if_neg e, if_neg e, H.2.2.1 j]
theorem rg1 {h : AH} {σ : SG} (H : RS h σ) : xgr h 100 13 1 = some 101 := H.gr 1 (by decide) (by decide)
theorem ra1 {h : AH} {σ : SG} (H : RS h σ) {n : Nat} (hn : n < 8) : xia h 101 (nI n) = some (σ.2 1 n) := H.ia 1 n (by decide) hn rfl (by decide)
theorem rw1 {h : AH} {σ : SG} (H : RS h σ) {n : Nat} {x : Int32} (hn : n < 8) : xis h 101 (nI n) x = some (sai h 101 n x) ∧ RS (sai h 101 n x) (s2 σ 1 n x) := ⟨H.is 1 n x (by decide) hn rfl (by decide), H.ai 1 n x⟩
theorem rg2 {h : AH} {σ : SG} (H : RS h σ) : xgr h 100 13 2 = some 102 := H.gr 2 (by decide) (by decide)
theorem ra2 {h : AH} {σ : SG} (H : RS h σ) {n : Nat} (hn : n < 8) : xia h 102 (nI n) = some (σ.2 2 n) := H.ia 2 n (by decide) hn rfl (by decide)
theorem rw2 {h : AH} {σ : SG} (H : RS h σ) {n : Nat} {x : Int32} (hn : n < 8) : xis h 102 (nI n) x = some (sai h 102 n x) ∧ RS (sai h 102 n x) (s2 σ 2 n x) := ⟨H.is 2 n x (by decide) hn rfl (by decide), H.ai 2 n x⟩
theorem rg3 {h : AH} {σ : SG} (H : RS h σ) : xgr h 100 13 3 = some 103 := H.gr 3 (by decide) (by decide)
theorem ra3 {h : AH} {σ : SG} (H : RS h σ) {n : Nat} (hn : n < 8) : xia h 103 (nI n) = some (σ.2 3 n) := H.ia 3 n (by decide) hn rfl (by decide)
theorem rw3 {h : AH} {σ : SG} (H : RS h σ) {n : Nat} {x : Int32} (hn : n < 8) : xis h 103 (nI n) x = some (sai h 103 n x) ∧ RS (sai h 103 n x) (s2 σ 3 n x) := ⟨H.is 3 n x (by decide) hn rfl (by decide), H.ai 3 n x⟩
theorem rg4 {h : AH} {σ : SG} (H : RS h σ) : xgr h 100 13 4 = some 104 := H.gr 4 (by decide) (by decide)
theorem ra4 {h : AH} {σ : SG} (H : RS h σ) {n : Nat} (hn : n < 8) : xia h 104 (nI n) = some (σ.2 4 n) := H.ia 4 n (by decide) hn rfl (by decide)
theorem rw4 {h : AH} {σ : SG} (H : RS h σ) {n : Nat} {x : Int32} (hn : n < 8) : xis h 104 (nI n) x = some (sai h 104 n x) ∧ RS (sai h 104 n x) (s2 σ 4 n x) := ⟨H.is 4 n x (by decide) hn rfl (by decide), H.ai 4 n x⟩
theorem rg5 {h : AH} {σ : SG} (H : RS h σ) : xgr h 100 13 5 = some 105 := H.gr 5 (by decide) (by decide)
theorem ra5 {h : AH} {σ : SG} (H : RS h σ) {n : Nat} (hn : n < 4) : xia h 105 (nI n) = some (σ.2 5 n) := H.ia 5 n (by decide) hn rfl (by decide)
theorem rw5 {h : AH} {σ : SG} (H : RS h σ) {n : Nat} {x : Int32} (hn : n < 4) : xis h 105 (nI n) x = some (sai h 105 n x) ∧ RS (sai h 105 n x) (s2 σ 5 n x) := ⟨H.is 5 n x (by decide) hn rfl (by decide), H.ai 5 n x⟩
theorem rg6 {h : AH} {σ : SG} (H : RS h σ) : xgr h 100 13 6 = some 106 := H.gr 6 (by decide) (by decide)
theorem ra6 {h : AH} {σ : SG} (H : RS h σ) {n : Nat} (hn : n < 4) : xia h 106 (nI n) = some (σ.2 6 n) := H.ia 6 n (by decide) hn rfl (by decide)
theorem rw6 {h : AH} {σ : SG} (H : RS h σ) {n : Nat} {x : Int32} (hn : n < 4) : xis h 106 (nI n) x = some (sai h 106 n x) ∧ RS (sai h 106 n x) (s2 σ 6 n x) := ⟨H.is 6 n x (by decide) hn rfl (by decide), H.ai 6 n x⟩
theorem rg8 {h : AH} {σ : SG} (H : RS h σ) : xgr h 100 13 8 = some 108 := H.gr 8 (by decide) (by decide)
theorem ra8 {h : AH} {σ : SG} (H : RS h σ) {n : Nat} (hn : n < 700) : xba h 108 (nI n) = some (σ.2 8 n) := H.ba 8 n (by decide) hn rfl (by decide)
theorem rw8 {h : AH} {σ : SG} (H : RS h σ) {n : Nat} {x : Int32} (hx : x = 0 ∨ x = 1) (hn : n < 700) : xbs h 108 (nI n) x = some (sai h 108 n x) ∧ RS (sai h 108 n x) (s2 σ 8 n x) := ⟨H.bs 8 n x hx (by decide) hn rfl (by decide), H.ai 8 n x⟩
theorem rg9 {h : AH} {σ : SG} (H : RS h σ) : xgr h 100 13 9 = some 109 := H.gr 9 (by decide) (by decide)
theorem ra9 {h : AH} {σ : SG} (H : RS h σ) {n : Nat} (hn : n < 700) : xia h 109 (nI n) = some (σ.2 9 n) := H.ia 9 n (by decide) hn rfl (by decide)
theorem rw9 {h : AH} {σ : SG} (H : RS h σ) {n : Nat} {x : Int32} (hn : n < 700) : xis h 109 (nI n) x = some (sai h 109 n x) ∧ RS (sai h 109 n x) (s2 σ 9 n x) := ⟨H.is 9 n x (by decide) hn rfl (by decide), H.ai 9 n x⟩
theorem rg10 {h : AH} {σ : SG} (H : RS h σ) : xgr h 100 13 10 = some 110 := H.gr 10 (by decide) (by decide)
theorem ra10 {h : AH} {σ : SG} (H : RS h σ) {n : Nat} (hn : n < 700) : xia h 110 (nI n) = some (σ.2 10 n) := H.ia 10 n (by decide) hn rfl (by decide)
theorem rw10 {h : AH} {σ : SG} (H : RS h σ) {n : Nat} {x : Int32} (hn : n < 700) : xis h 110 (nI n) x = some (sai h 110 n x) ∧ RS (sai h 110 n x) (s2 σ 10 n x) := ⟨H.is 10 n x (by decide) hn rfl (by decide), H.ai 10 n x⟩
theorem rg11 {h : AH} {σ : SG} (H : RS h σ) : xgr h 100 13 11 = some 111 := H.gr 11 (by decide) (by decide)
theorem ra11 {h : AH} {σ : SG} (H : RS h σ) {n : Nat} (hn : n < 3072) : xia h 111 (nI n) = some (σ.2 11 n) := H.ia 11 n (by decide) hn rfl (by decide)
theorem rw11 {h : AH} {σ : SG} (H : RS h σ) {n : Nat} {x : Int32} (hn : n < 3072) : xis h 111 (nI n) x = some (sai h 111 n x) ∧ RS (sai h 111 n x) (s2 σ 11 n x) := ⟨H.is 11 n x (by decide) hn rfl (by decide), H.ai 11 n x⟩
theorem rg12 {h : AH} {σ : SG} (H : RS h σ) : xgr h 100 13 12 = some 112 := H.gr 12 (by decide) (by decide)
theorem ra12 {h : AH} {σ : SG} (H : RS h σ) {n : Nat} (hn : n < 1536) : xia h 112 (nI n) = some (σ.2 12 n) := H.ia 12 n (by decide) hn rfl (by decide)
theorem rw12 {h : AH} {σ : SG} (H : RS h σ) {n : Nat} {x : Int32} (hn : n < 1536) : xis h 112 (nI n) x = some (sai h 112 n x) ∧ RS (sai h 112 n x) (s2 σ 12 n x) := ⟨H.is 12 n x (by decide) hn rfl (by decide), H.ai 12 n x⟩
theorem rg14 {h : AH} {σ : SG} (H : RS h σ) : xgr h 100 13 14 = some 114 := H.gr 14 (by decide) (by decide)
theorem ra14 {h : AH} {σ : SG} (H : RS h σ) {n : Nat} (hn : n < 8) : xba h 114 (nI n) = some (σ.2 14 n) := H.ba 14 n (by decide) hn rfl (by decide)
theorem rw14 {h : AH} {σ : SG} (H : RS h σ) {n : Nat} {x : Int32} (hx : x = 0 ∨ x = 1) (hn : n < 8) : xbs h 114 (nI n) x = some (sai h 114 n x) ∧ RS (sai h 114 n x) (s2 σ 14 n x) := ⟨H.bs 14 n x hx (by decide) hn rfl (by decide), H.ai 14 n x⟩
theorem rg15 {h : AH} {σ : SG} (H : RS h σ) : xgr h 100 13 15 = some 115 := H.gr 15 (by decide) (by decide)
theorem ra15 {h : AH} {σ : SG} (H : RS h σ) {n : Nat} (hn : n < 8) : xia h 115 (nI n) = some (σ.2 15 n) := H.ia 15 n (by decide) hn rfl (by decide)
theorem rw15 {h : AH} {σ : SG} (H : RS h σ) {n : Nat} {x : Int32} (hn : n < 8) : xis h 115 (nI n) x = some (sai h 115 n x) ∧ RS (sai h 115 n x) (s2 σ 15 n x) := ⟨H.is 15 n x (by decide) hn rfl (by decide), H.ai 15 n x⟩
theorem rg16 {h : AH} {σ : SG} (H : RS h σ) : xgr h 100 13 16 = some 116 := H.gr 16 (by decide) (by decide)
theorem ra16 {h : AH} {σ : SG} (H : RS h σ) {n : Nat} (hn : n < 8) : xia h 116 (nI n) = some (σ.2 16 n) := H.ia 16 n (by decide) hn rfl (by decide)
theorem rw16 {h : AH} {σ : SG} (H : RS h σ) {n : Nat} {x : Int32} (hn : n < 8) : xis h 116 (nI n) x = some (sai h 116 n x) ∧ RS (sai h 116 n x) (s2 σ 16 n x) := ⟨H.is 16 n x (by decide) hn rfl (by decide), H.ai 16 n x⟩
theorem rg17 {h : AH} {σ : SG} (H : RS h σ) : xgr h 100 13 17 = some 117 := H.gr 17 (by decide) (by decide)
theorem ra17 {h : AH} {σ : SG} (H : RS h σ) {n : Nat} (hn : n < 8) : xia h 117 (nI n) = some (σ.2 17 n) := H.ia 17 n (by decide) hn rfl (by decide)
theorem rw17 {h : AH} {σ : SG} (H : RS h σ) {n : Nat} {x : Int32} (hn : n < 8) : xis h 117 (nI n) x = some (sai h 117 n x) ∧ RS (sai h 117 n x) (s2 σ 17 n x) := ⟨H.is 17 n x (by decide) hn rfl (by decide), H.ai 17 n x⟩
theorem rg18 {h : AH} {σ : SG} (H : RS h σ) : xgr h 100 13 18 = some 118 := H.gr 18 (by decide) (by decide)
theorem ra18 {h : AH} {σ : SG} (H : RS h σ) {n : Nat} (hn : n < 8) : xia h 118 (nI n) = some (σ.2 18 n) := H.ia 18 n (by decide) hn rfl (by decide)
theorem rw18 {h : AH} {σ : SG} (H : RS h σ) {n : Nat} {x : Int32} (hn : n < 8) : xis h 118 (nI n) x = some (sai h 118 n x) ∧ RS (sai h 118 n x) (s2 σ 18 n x) := ⟨H.is 18 n x (by decide) hn rfl (by decide), H.ai 18 n x⟩
theorem rg19 {h : AH} {σ : SG} (H : RS h σ) : xgr h 100 13 19 = some 119 := H.gr 19 (by decide) (by decide)
theorem ra19 {h : AH} {σ : SG} (H : RS h σ) {n : Nat} (hn : n < 8) : xia h 119 (nI n) = some (σ.2 19 n) := H.ia 19 n (by decide) hn rfl (by decide)
theorem rw19 {h : AH} {σ : SG} (H : RS h σ) {n : Nat} {x : Int32} (hn : n < 8) : xis h 119 (nI n) x = some (sai h 119 n x) ∧ RS (sai h 119 n x) (s2 σ 19 n x) := ⟨H.is 19 n x (by decide) hn rfl (by decide), H.ai 19 n x⟩
theorem rg20 {h : AH} {σ : SG} (H : RS h σ) : xgr h 100 13 20 = some 120 := H.gr 20 (by decide) (by decide)
theorem ra20 {h : AH} {σ : SG} (H : RS h σ) {n : Nat} (hn : n < 32) : xia h 120 (nI n) = some (σ.2 20 n) := H.ia 20 n (by decide) hn rfl (by decide)
theorem rw20 {h : AH} {σ : SG} (H : RS h σ) {n : Nat} {x : Int32} (hn : n < 32) : xis h 120 (nI n) x = some (sai h 120 n x) ∧ RS (sai h 120 n x) (s2 σ 20 n x) := ⟨H.is 20 n x (by decide) hn rfl (by decide), H.ai 20 n x⟩
theorem rg21 {h : AH} {σ : SG} (H : RS h σ) : xgr h 100 13 21 = some 121 := H.gr 21 (by decide) (by decide)
theorem ra21 {h : AH} {σ : SG} (H : RS h σ) {n : Nat} (hn : n < 32) : xia h 121 (nI n) = some (σ.2 21 n) := H.ia 21 n (by decide) hn rfl (by decide)
theorem rw21 {h : AH} {σ : SG} (H : RS h σ) {n : Nat} {x : Int32} (hn : n < 32) : xis h 121 (nI n) x = some (sai h 121 n x) ∧ RS (sai h 121 n x) (s2 σ 21 n x) := ⟨H.is 21 n x (by decide) hn rfl (by decide), H.ai 21 n x⟩
theorem rg22 {h : AH} {σ : SG} (H : RS h σ) : xgr h 100 13 22 = some 122 := H.gr 22 (by decide) (by decide)
theorem ra22 {h : AH} {σ : SG} (H : RS h σ) {n : Nat} (hn : n < 32) : xia h 122 (nI n) = some (σ.2 22 n) := H.ia 22 n (by decide) hn rfl (by decide)
theorem rw22 {h : AH} {σ : SG} (H : RS h σ) {n : Nat} {x : Int32} (hn : n < 32) : xis h 122 (nI n) x = some (sai h 122 n x) ∧ RS (sai h 122 n x) (s2 σ 22 n x) := ⟨H.is 22 n x (by decide) hn rfl (by decide), H.ai 22 n x⟩
theorem rg23 {h : AH} {σ : SG} (H : RS h σ) : xgr h 100 13 23 = some 123 := H.gr 23 (by decide) (by decide)
theorem ra23 {h : AH} {σ : SG} (H : RS h σ) {n : Nat} (hn : n < 32) : xia h 123 (nI n) = some (σ.2 23 n) := H.ia 23 n (by decide) hn rfl (by decide)
theorem rw23 {h : AH} {σ : SG} (H : RS h σ) {n : Nat} {x : Int32} (hn : n < 32) : xis h 123 (nI n) x = some (sai h 123 n x) ∧ RS (sai h 123 n x) (s2 σ 23 n x) := ⟨H.is 23 n x (by decide) hn rfl (by decide), H.ai 23 n x⟩
theorem rg24 {h : AH} {σ : SG} (H : RS h σ) : xgr h 100 13 24 = some 124 := H.gr 24 (by decide) (by decide)
theorem ra24 {h : AH} {σ : SG} (H : RS h σ) {n : Nat} (hn : n < 32) : xba h 124 (nI n) = some (σ.2 24 n) := H.ba 24 n (by decide) hn rfl (by decide)
theorem rw24 {h : AH} {σ : SG} (H : RS h σ) {n : Nat} {x : Int32} (hx : x = 0 ∨ x = 1) (hn : n < 32) : xbs h 124 (nI n) x = some (sai h 124 n x) ∧ RS (sai h 124 n x) (s2 σ 24 n x) := ⟨H.bs 24 n x hx (by decide) hn rfl (by decide), H.ai 24 n x⟩
theorem rg25 {h : AH} {σ : SG} (H : RS h σ) : xgr h 100 13 25 = some 125 := H.gr 25 (by decide) (by decide)
theorem ra25 {h : AH} {σ : SG} (H : RS h σ) {n : Nat} (hn : n < 4) : xia h 125 (nI n) = some (σ.2 25 n) := H.ia 25 n (by decide) hn rfl (by decide)
theorem rw25 {h : AH} {σ : SG} (H : RS h σ) {n : Nat} {x : Int32} (hn : n < 4) : xis h 125 (nI n) x = some (sai h 125 n x) ∧ RS (sai h 125 n x) (s2 σ 25 n x) := ⟨H.is 25 n x (by decide) hn rfl (by decide), H.ai 25 n x⟩
theorem rg27 {h : AH} {σ : SG} (H : RS h σ) : xgr h 100 13 27 = some 127 := H.gr 27 (by decide) (by decide)
theorem ra27 {h : AH} {σ : SG} (H : RS h σ) {n : Nat} (hn : n < 24) : xia h 127 (nI n) = some (σ.2 27 n) := H.ia 27 n (by decide) hn rfl (by decide)
theorem rw27 {h : AH} {σ : SG} (H : RS h σ) {n : Nat} {x : Int32} (hn : n < 24) : xis h 127 (nI n) x = some (sai h 127 n x) ∧ RS (sai h 127 n x) (s2 σ 27 n x) := ⟨H.is 27 n x (by decide) hn rfl (by decide), H.ai 27 n x⟩
theorem rg28 {h : AH} {σ : SG} (H : RS h σ) : xgr h 100 13 28 = some 128 := H.gr 28 (by decide) (by decide)
theorem ra28 {h : AH} {σ : SG} (H : RS h σ) {n : Nat} (hn : n < 24) : xia h 128 (nI n) = some (σ.2 28 n) := H.ia 28 n (by decide) hn rfl (by decide)
theorem rw28 {h : AH} {σ : SG} (H : RS h σ) {n : Nat} {x : Int32} (hn : n < 24) : xis h 128 (nI n) x = some (sai h 128 n x) ∧ RS (sai h 128 n x) (s2 σ 28 n x) := ⟨H.is 28 n x (by decide) hn rfl (by decide), H.ai 28 n x⟩
theorem rg29 {h : AH} {σ : SG} (H : RS h σ) : xgr h 100 13 29 = some 129 := H.gr 29 (by decide) (by decide)
theorem ra29 {h : AH} {σ : SG} (H : RS h σ) {n : Nat} (hn : n < 24) : xia h 129 (nI n) = some (σ.2 29 n) := H.ia 29 n (by decide) hn rfl (by decide)
theorem rw29 {h : AH} {σ : SG} (H : RS h σ) {n : Nat} {x : Int32} (hn : n < 24) : xis h 129 (nI n) x = some (sai h 129 n x) ∧ RS (sai h 129 n x) (s2 σ 29 n x) := ⟨H.is 29 n x (by decide) hn rfl (by decide), H.ai 29 n x⟩
theorem rg30 {h : AH} {σ : SG} (H : RS h σ) : xgr h 100 13 30 = some 130 := H.gr 30 (by decide) (by decide)
theorem ra30 {h : AH} {σ : SG} (H : RS h σ) {n : Nat} (hn : n < 24) : xia h 130 (nI n) = some (σ.2 30 n) := H.ia 30 n (by decide) hn rfl (by decide)
theorem rw30 {h : AH} {σ : SG} (H : RS h σ) {n : Nat} {x : Int32} (hn : n < 24) : xis h 130 (nI n) x = some (sai h 130 n x) ∧ RS (sai h 130 n x) (s2 σ 30 n x) := ⟨H.is 30 n x (by decide) hn rfl (by decide), H.ai 30 n x⟩
theorem rg31 {h : AH} {σ : SG} (H : RS h σ) : xgr h 100 13 31 = some 131 := H.gr 31 (by decide) (by decide)
theorem ra31 {h : AH} {σ : SG} (H : RS h σ) {n : Nat} (hn : n < 24) : xia h 131 (nI n) = some (σ.2 31 n) := H.ia 31 n (by decide) hn rfl (by decide)
theorem rw31 {h : AH} {σ : SG} (H : RS h σ) {n : Nat} {x : Int32} (hn : n < 24) : xis h 131 (nI n) x = some (sai h 131 n x) ∧ RS (sai h 131 n x) (s2 σ 31 n x) := ⟨H.is 31 n x (by decide) hn rfl (by decide), H.ai 31 n x⟩
theorem rg32 {h : AH} {σ : SG} (H : RS h σ) : xgr h 100 13 32 = some 132 := H.gr 32 (by decide) (by decide)
theorem ra32 {h : AH} {σ : SG} (H : RS h σ) {n : Nat} (hn : n < 24) : xia h 132 (nI n) = some (σ.2 32 n) := H.ia 32 n (by decide) hn rfl (by decide)
theorem rw32 {h : AH} {σ : SG} (H : RS h σ) {n : Nat} {x : Int32} (hn : n < 24) : xis h 132 (nI n) x = some (sai h 132 n x) ∧ RS (sai h 132 n x) (s2 σ 32 n x) := ⟨H.is 32 n x (by decide) hn rfl (by decide), H.ai 32 n x⟩
theorem rg33 {h : AH} {σ : SG} (H : RS h σ) : xgr h 100 13 33 = some 133 := H.gr 33 (by decide) (by decide)
theorem ra33 {h : AH} {σ : SG} (H : RS h σ) {n : Nat} (hn : n < 24) : xia h 133 (nI n) = some (σ.2 33 n) := H.ia 33 n (by decide) hn rfl (by decide)
theorem rw33 {h : AH} {σ : SG} (H : RS h σ) {n : Nat} {x : Int32} (hn : n < 24) : xis h 133 (nI n) x = some (sai h 133 n x) ∧ RS (sai h 133 n x) (s2 σ 33 n x) := ⟨H.is 33 n x (by decide) hn rfl (by decide), H.ai 33 n x⟩
theorem rg34 {h : AH} {σ : SG} (H : RS h σ) : xgr h 100 13 34 = some 134 := H.gr 34 (by decide) (by decide)
theorem ra34 {h : AH} {σ : SG} (H : RS h σ) {n : Nat} (hn : n < 384) : xia h 134 (nI n) = some (σ.2 34 n) := H.ia 34 n (by decide) hn rfl (by decide)
theorem rw34 {h : AH} {σ : SG} (H : RS h σ) {n : Nat} {x : Int32} (hn : n < 384) : xis h 134 (nI n) x = some (sai h 134 n x) ∧ RS (sai h 134 n x) (s2 σ 34 n x) := ⟨H.is 34 n x (by decide) hn rfl (by decide), H.ai 34 n x⟩
theorem rg35 {h : AH} {σ : SG} (H : RS h σ) : xgr h 100 13 35 = some 135 := H.gr 35 (by decide) (by decide)
theorem ra35 {h : AH} {σ : SG} (H : RS h σ) {n : Nat} (hn : n < 4) : xia h 135 (nI n) = some (σ.2 35 n) := H.ia 35 n (by decide) hn rfl (by decide)
theorem rw35 {h : AH} {σ : SG} (H : RS h σ) {n : Nat} {x : Int32} (hn : n < 4) : xis h 135 (nI n) x = some (sai h 135 n x) ∧ RS (sai h 135 n x) (s2 σ 35 n x) := ⟨H.is 35 n x (by decide) hn rfl (by decide), H.ai 35 n x⟩
theorem rg37 {h : AH} {σ : SG} (H : RS h σ) : xgr h 100 13 37 = some 137 := H.gr 37 (by decide) (by decide)
theorem ra37 {h : AH} {σ : SG} (H : RS h σ) {n : Nat} (hn : n < 60) : xia h 137 (nI n) = some (σ.2 37 n) := H.ia 37 n (by decide) hn rfl (by decide)
theorem rw37 {h : AH} {σ : SG} (H : RS h σ) {n : Nat} {x : Int32} (hn : n < 60) : xis h 137 (nI n) x = some (sai h 137 n x) ∧ RS (sai h 137 n x) (s2 σ 37 n x) := ⟨H.is 37 n x (by decide) hn rfl (by decide), H.ai 37 n x⟩
theorem rg38 {h : AH} {σ : SG} (H : RS h σ) : xgr h 100 13 38 = some 138 := H.gr 38 (by decide) (by decide)
theorem ra38 {h : AH} {σ : SG} (H : RS h σ) {n : Nat} (hn : n < 60) : xia h 138 (nI n) = some (σ.2 38 n) := H.ia 38 n (by decide) hn rfl (by decide)
theorem rw38 {h : AH} {σ : SG} (H : RS h σ) {n : Nat} {x : Int32} (hn : n < 60) : xis h 138 (nI n) x = some (sai h 138 n x) ∧ RS (sai h 138 n x) (s2 σ 38 n x) := ⟨H.is 38 n x (by decide) hn rfl (by decide), H.ai 38 n x⟩
theorem rg39 {h : AH} {σ : SG} (H : RS h σ) : xgr h 100 13 39 = some 139 := H.gr 39 (by decide) (by decide)
theorem ra39 {h : AH} {σ : SG} (H : RS h σ) {n : Nat} (hn : n < 60) : xia h 139 (nI n) = some (σ.2 39 n) := H.ia 39 n (by decide) hn rfl (by decide)
theorem rw39 {h : AH} {σ : SG} (H : RS h σ) {n : Nat} {x : Int32} (hn : n < 60) : xis h 139 (nI n) x = some (sai h 139 n x) ∧ RS (sai h 139 n x) (s2 σ 39 n x) := ⟨H.is 39 n x (by decide) hn rfl (by decide), H.ai 39 n x⟩
theorem rg40 {h : AH} {σ : SG} (H : RS h σ) : xgr h 100 13 40 = some 140 := H.gr 40 (by decide) (by decide)
theorem ra40 {h : AH} {σ : SG} (H : RS h σ) {n : Nat} (hn : n < 60) : xia h 140 (nI n) = some (σ.2 40 n) := H.ia 40 n (by decide) hn rfl (by decide)
theorem rw40 {h : AH} {σ : SG} (H : RS h σ) {n : Nat} {x : Int32} (hn : n < 60) : xis h 140 (nI n) x = some (sai h 140 n x) ∧ RS (sai h 140 n x) (s2 σ 40 n x) := ⟨H.is 40 n x (by decide) hn rfl (by decide), H.ai 40 n x⟩
theorem rg42 {h : AH} {σ : SG} (H : RS h σ) : xgr h 100 13 42 = some 142 := H.gr 42 (by decide) (by decide)
theorem ra42 {h : AH} {σ : SG} (H : RS h σ) {n : Nat} (hn : n < 80) : xia h 142 (nI n) = some (σ.2 42 n) := H.ia 42 n (by decide) hn rfl (by decide)
theorem rw42 {h : AH} {σ : SG} (H : RS h σ) {n : Nat} {x : Int32} (hn : n < 80) : xis h 142 (nI n) x = some (sai h 142 n x) ∧ RS (sai h 142 n x) (s2 σ 42 n x) := ⟨H.is 42 n x (by decide) hn rfl (by decide), H.ai 42 n x⟩
theorem rg43 {h : AH} {σ : SG} (H : RS h σ) : xgr h 100 13 43 = some 143 := H.gr 43 (by decide) (by decide)
theorem ra43 {h : AH} {σ : SG} (H : RS h σ) {n : Nat} (hn : n < 80) : xia h 143 (nI n) = some (σ.2 43 n) := H.ia 43 n (by decide) hn rfl (by decide)
theorem rw43 {h : AH} {σ : SG} (H : RS h σ) {n : Nat} {x : Int32} (hn : n < 80) : xis h 143 (nI n) x = some (sai h 143 n x) ∧ RS (sai h 143 n x) (s2 σ 43 n x) := ⟨H.is 43 n x (by decide) hn rfl (by decide), H.ai 43 n x⟩
theorem rg44 {h : AH} {σ : SG} (H : RS h σ) : xgr h 100 13 44 = some 144 := H.gr 44 (by decide) (by decide)
theorem ra44 {h : AH} {σ : SG} (H : RS h σ) {n : Nat} (hn : n < 80) : xia h 144 (nI n) = some (σ.2 44 n) := H.ia 44 n (by decide) hn rfl (by decide)
theorem rw44 {h : AH} {σ : SG} (H : RS h σ) {n : Nat} {x : Int32} (hn : n < 80) : xis h 144 (nI n) x = some (sai h 144 n x) ∧ RS (sai h 144 n x) (s2 σ 44 n x) := ⟨H.is 44 n x (by decide) hn rfl (by decide), H.ai 44 n x⟩
theorem rg45 {h : AH} {σ : SG} (H : RS h σ) : xgr h 100 13 45 = some 145 := H.gr 45 (by decide) (by decide)
theorem ra45 {h : AH} {σ : SG} (H : RS h σ) {n : Nat} (hn : n < 80) : xia h 145 (nI n) = some (σ.2 45 n) := H.ia 45 n (by decide) hn rfl (by decide)
theorem rw45 {h : AH} {σ : SG} (H : RS h σ) {n : Nat} {x : Int32} (hn : n < 80) : xis h 145 (nI n) x = some (sai h 145 n x) ∧ RS (sai h 145 n x) (s2 σ 45 n x) := ⟨H.is 45 n x (by decide) hn rfl (by decide), H.ai 45 n x⟩
theorem rg47 {h : AH} {σ : SG} (H : RS h σ) : xgr h 100 13 47 = some 147 := H.gr 47 (by decide) (by decide)
theorem ra47 {h : AH} {σ : SG} (H : RS h σ) {n : Nat} (hn : n < 8) : xia h 147 (nI n) = some (σ.2 47 n) := H.ia 47 n (by decide) hn rfl (by decide)
theorem rw47 {h : AH} {σ : SG} (H : RS h σ) {n : Nat} {x : Int32} (hn : n < 8) : xis h 147 (nI n) x = some (sai h 147 n x) ∧ RS (sai h 147 n x) (s2 σ 47 n x) := ⟨H.is 47 n x (by decide) hn rfl (by decide), H.ai 47 n x⟩
theorem rg48 {h : AH} {σ : SG} (H : RS h σ) : xgr h 100 13 48 = some 148 := H.gr 48 (by decide) (by decide)
theorem ra48 {h : AH} {σ : SG} (H : RS h σ) {n : Nat} (hn : n < 8) : xia h 148 (nI n) = some (σ.2 48 n) := H.ia 48 n (by decide) hn rfl (by decide)
theorem rw48 {h : AH} {σ : SG} (H : RS h σ) {n : Nat} {x : Int32} (hn : n < 8) : xis h 148 (nI n) x = some (sai h 148 n x) ∧ RS (sai h 148 n x) (s2 σ 48 n x) := ⟨H.is 48 n x (by decide) hn rfl (by decide), H.ai 48 n x⟩
theorem rg50 {h : AH} {σ : SG} (H : RS h σ) : xgr h 100 13 50 = some 150 := H.gr 50 (by decide) (by decide)
theorem ra50 {h : AH} {σ : SG} (H : RS h σ) {n : Nat} (hn : n < 200) : xia h 150 (nI n) = some (σ.2 50 n) := H.ia 50 n (by decide) hn rfl (by decide)
theorem rw50 {h : AH} {σ : SG} (H : RS h σ) {n : Nat} {x : Int32} (hn : n < 200) : xis h 150 (nI n) x = some (sai h 150 n x) ∧ RS (sai h 150 n x) (s2 σ 50 n x) := ⟨H.is 50 n x (by decide) hn rfl (by decide), H.ai 50 n x⟩
theorem rg51 {h : AH} {σ : SG} (H : RS h σ) : xgr h 100 13 51 = some 151 := H.gr 51 (by decide) (by decide)
theorem ra51 {h : AH} {σ : SG} (H : RS h σ) {n : Nat} (hn : n < 200) : xia h 151 (nI n) = some (σ.2 51 n) := H.ia 51 n (by decide) hn rfl (by decide)
theorem rw51 {h : AH} {σ : SG} (H : RS h σ) {n : Nat} {x : Int32} (hn : n < 200) : xis h 151 (nI n) x = some (sai h 151 n x) ∧ RS (sai h 151 n x) (s2 σ 51 n x) := ⟨H.is 51 n x (by decide) hn rfl (by decide), H.ai 51 n x⟩
theorem rg52 {h : AH} {σ : SG} (H : RS h σ) : xgr h 100 13 52 = some 152 := H.gr 52 (by decide) (by decide)
theorem ra52 {h : AH} {σ : SG} (H : RS h σ) {n : Nat} (hn : n < 200) : xia h 152 (nI n) = some (σ.2 52 n) := H.ia 52 n (by decide) hn rfl (by decide)
theorem rw52 {h : AH} {σ : SG} (H : RS h σ) {n : Nat} {x : Int32} (hn : n < 200) : xis h 152 (nI n) x = some (sai h 152 n x) ∧ RS (sai h 152 n x) (s2 σ 52 n x) := ⟨H.is 52 n x (by decide) hn rfl (by decide), H.ai 52 n x⟩
theorem rg53 {h : AH} {σ : SG} (H : RS h σ) : xgr h 100 13 53 = some 153 := H.gr 53 (by decide) (by decide)
theorem ra53 {h : AH} {σ : SG} (H : RS h σ) {n : Nat} (hn : n < 200) : xia h 153 (nI n) = some (σ.2 53 n) := H.ia 53 n (by decide) hn rfl (by decide)
theorem rw53 {h : AH} {σ : SG} (H : RS h σ) {n : Nat} {x : Int32} (hn : n < 200) : xis h 153 (nI n) x = some (sai h 153 n x) ∧ RS (sai h 153 n x) (s2 σ 53 n x) := ⟨H.is 53 n x (by decide) hn rfl (by decide), H.ai 53 n x⟩
theorem rg56 {h : AH} {σ : SG} (H : RS h σ) : xgr h 100 13 56 = some 156 := H.gr 56 (by decide) (by decide)
theorem ra56 {h : AH} {σ : SG} (H : RS h σ) {n : Nat} (hn : n < 20) : xia h 156 (nI n) = some (σ.2 56 n) := H.ia 56 n (by decide) hn rfl (by decide)
theorem rw56 {h : AH} {σ : SG} (H : RS h σ) {n : Nat} {x : Int32} (hn : n < 20) : xis h 156 (nI n) x = some (sai h 156 n x) ∧ RS (sai h 156 n x) (s2 σ 56 n x) := ⟨H.is 56 n x (by decide) hn rfl (by decide), H.ai 56 n x⟩
theorem rg57 {h : AH} {σ : SG} (H : RS h σ) : xgr h 100 13 57 = some 157 := H.gr 57 (by decide) (by decide)
theorem ra57 {h : AH} {σ : SG} (H : RS h σ) {n : Nat} (hn : n < 20) : xia h 157 (nI n) = some (σ.2 57 n) := H.ia 57 n (by decide) hn rfl (by decide)
theorem rw57 {h : AH} {σ : SG} (H : RS h σ) {n : Nat} {x : Int32} (hn : n < 20) : xis h 157 (nI n) x = some (sai h 157 n x) ∧ RS (sai h 157 n x) (s2 σ 57 n x) := ⟨H.is 57 n x (by decide) hn rfl (by decide), H.ai 57 n x⟩
theorem rg58 {h : AH} {σ : SG} (H : RS h σ) : xgr h 100 13 58 = some 158 := H.gr 58 (by decide) (by decide)
theorem ra58 {h : AH} {σ : SG} (H : RS h σ) {n : Nat} (hn : n < 20) : xia h 158 (nI n) = some (σ.2 58 n) := H.ia 58 n (by decide) hn rfl (by decide)
theorem rw58 {h : AH} {σ : SG} (H : RS h σ) {n : Nat} {x : Int32} (hn : n < 20) : xis h 158 (nI n) x = some (sai h 158 n x) ∧ RS (sai h 158 n x) (s2 σ 58 n x) := ⟨H.is 58 n x (by decide) hn rfl (by decide), H.ai 58 n x⟩
theorem rg59 {h : AH} {σ : SG} (H : RS h σ) : xgr h 100 13 59 = some 159 := H.gr 59 (by decide) (by decide)
theorem ra59 {h : AH} {σ : SG} (H : RS h σ) {n : Nat} (hn : n < 20) : xia h 159 (nI n) = some (σ.2 59 n) := H.ia 59 n (by decide) hn rfl (by decide)
theorem rw59 {h : AH} {σ : SG} (H : RS h σ) {n : Nat} {x : Int32} (hn : n < 20) : xis h 159 (nI n) x = some (sai h 159 n x) ∧ RS (sai h 159 n x) (s2 σ 59 n x) := ⟨H.is 59 n x (by decide) hn rfl (by decide), H.ai 59 n x⟩
theorem rg60 {h : AH} {σ : SG} (H : RS h σ) : xgr h 100 13 60 = some 160 := H.gr 60 (by decide) (by decide)
theorem ra60 {h : AH} {σ : SG} (H : RS h σ) {n : Nat} (hn : n < 20) : xia h 160 (nI n) = some (σ.2 60 n) := H.ia 60 n (by decide) hn rfl (by decide)
theorem rw60 {h : AH} {σ : SG} (H : RS h σ) {n : Nat} {x : Int32} (hn : n < 20) : xis h 160 (nI n) x = some (sai h 160 n x) ∧ RS (sai h 160 n x) (s2 σ 60 n x) := ⟨H.is 60 n x (by decide) hn rfl (by decide), H.ai 60 n x⟩
theorem rg62 {h : AH} {σ : SG} (H : RS h σ) : xgr h 100 13 62 = some 162 := H.gr 62 (by decide) (by decide)
theorem ra62 {h : AH} {σ : SG} (H : RS h σ) {n : Nat} (hn : n < 100) : xia h 162 (nI n) = some (σ.2 62 n) := H.ia 62 n (by decide) hn rfl (by decide)
theorem rw62 {h : AH} {σ : SG} (H : RS h σ) {n : Nat} {x : Int32} (hn : n < 100) : xis h 162 (nI n) x = some (sai h 162 n x) ∧ RS (sai h 162 n x) (s2 σ 62 n x) := ⟨H.is 62 n x (by decide) hn rfl (by decide), H.ai 62 n x⟩
theorem rg65 {h : AH} {σ : SG} (H : RS h σ) : xgr h 100 13 65 = some 165 := H.gr 65 (by decide) (by decide)
theorem ra65 {h : AH} {σ : SG} (H : RS h σ) {n : Nat} (hn : n < 20) : xia h 165 (nI n) = some (σ.2 65 n) := H.ia 65 n (by decide) hn rfl (by decide)
theorem rw65 {h : AH} {σ : SG} (H : RS h σ) {n : Nat} {x : Int32} (hn : n < 20) : xis h 165 (nI n) x = some (sai h 165 n x) ∧ RS (sai h 165 n x) (s2 σ 65 n x) := ⟨H.is 65 n x (by decide) hn rfl (by decide), H.ai 65 n x⟩
theorem rg66 {h : AH} {σ : SG} (H : RS h σ) : xgr h 100 13 66 = some 166 := H.gr 66 (by decide) (by decide)
theorem ra66 {h : AH} {σ : SG} (H : RS h σ) {n : Nat} (hn : n < 3) : xia h 166 (nI n) = some (σ.2 66 n) := H.ia 66 n (by decide) hn rfl (by decide)
theorem rw66 {h : AH} {σ : SG} (H : RS h σ) {n : Nat} {x : Int32} (hn : n < 3) : xis h 166 (nI n) x = some (sai h 166 n x) ∧ RS (sai h 166 n x) (s2 σ 66 n x) := ⟨H.is 66 n x (by decide) hn rfl (by decide), H.ai 66 n x⟩
theorem rg67 {h : AH} {σ : SG} (H : RS h σ) : xgr h 100 13 67 = some 167 := H.gr 67 (by decide) (by decide)
theorem ra67 {h : AH} {σ : SG} (H : RS h σ) {n : Nat} (hn : n < 3) : xia h 167 (nI n) = some (σ.2 67 n) := H.ia 67 n (by decide) hn rfl (by decide)
theorem rw67 {h : AH} {σ : SG} (H : RS h σ) {n : Nat} {x : Int32} (hn : n < 3) : xis h 167 (nI n) x = some (sai h 167 n x) ∧ RS (sai h 167 n x) (s2 σ 67 n x) := ⟨H.is 67 n x (by decide) hn rfl (by decide), H.ai 67 n x⟩
theorem rg68 {h : AH} {σ : SG} (H : RS h σ) : xgr h 100 13 68 = some 168 := H.gr 68 (by decide) (by decide)
theorem ra68 {h : AH} {σ : SG} (H : RS h σ) {n : Nat} (hn : n < 120) : xia h 168 (nI n) = some (σ.2 68 n) := H.ia 68 n (by decide) hn rfl (by decide)
theorem rw68 {h : AH} {σ : SG} (H : RS h σ) {n : Nat} {x : Int32} (hn : n < 120) : xis h 168 (nI n) x = some (sai h 168 n x) ∧ RS (sai h 168 n x) (s2 σ 68 n x) := ⟨H.is 68 n x (by decide) hn rfl (by decide), H.ai 68 n x⟩
theorem rg71 {h : AH} {σ : SG} (H : RS h σ) : xgr h 100 13 71 = some 171 := H.gr 71 (by decide) (by decide)
theorem ra71 {h : AH} {σ : SG} (H : RS h σ) {n : Nat} (hn : n < 79) : xia h 171 (nI n) = some (σ.2 71 n) := H.ia 71 n (by decide) hn rfl (by decide)
theorem rw71 {h : AH} {σ : SG} (H : RS h σ) {n : Nat} {x : Int32} (hn : n < 79) : xis h 171 (nI n) x = some (sai h 171 n x) ∧ RS (sai h 171 n x) (s2 σ 71 n x) := ⟨H.is 71 n x (by decide) hn rfl (by decide), H.ai 71 n x⟩
theorem rg74 {h : AH} {σ : SG} (H : RS h σ) : xgr h 100 13 74 = some 174 := H.gr 74 (by decide) (by decide)
theorem ra74 {h : AH} {σ : SG} (H : RS h σ) {n : Nat} (hn : n < 16) : xia h 174 (nI n) = some (σ.2 74 n) := H.ia 74 n (by decide) hn rfl (by decide)
theorem rw74 {h : AH} {σ : SG} (H : RS h σ) {n : Nat} {x : Int32} (hn : n < 16) : xis h 174 (nI n) x = some (sai h 174 n x) ∧ RS (sai h 174 n x) (s2 σ 74 n x) := ⟨H.is 74 n x (by decide) hn rfl (by decide), H.ai 74 n x⟩
theorem rg75 {h : AH} {σ : SG} (H : RS h σ) : xgr h 100 13 75 = some 175 := H.gr 75 (by decide) (by decide)
theorem ra75 {h : AH} {σ : SG} (H : RS h σ) {n : Nat} (hn : n < 16) : xia h 175 (nI n) = some (σ.2 75 n) := H.ia 75 n (by decide) hn rfl (by decide)
theorem rw75 {h : AH} {σ : SG} (H : RS h σ) {n : Nat} {x : Int32} (hn : n < 16) : xis h 175 (nI n) x = some (sai h 175 n x) ∧ RS (sai h 175 n x) (s2 σ 75 n x) := ⟨H.is 75 n x (by decide) hn rfl (by decide), H.ai 75 n x⟩
theorem rg76 {h : AH} {σ : SG} (H : RS h σ) : xgr h 100 13 76 = some 176 := H.gr 76 (by decide) (by decide)
theorem ra76 {h : AH} {σ : SG} (H : RS h σ) {n : Nat} (hn : n < 40) : xia h 176 (nI n) = some (σ.2 76 n) := H.ia 76 n (by decide) hn rfl (by decide)
theorem rw76 {h : AH} {σ : SG} (H : RS h σ) {n : Nat} {x : Int32} (hn : n < 40) : xis h 176 (nI n) x = some (sai h 176 n x) ∧ RS (sai h 176 n x) (s2 σ 76 n x) := ⟨H.is 76 n x (by decide) hn rfl (by decide), H.ai 76 n x⟩
