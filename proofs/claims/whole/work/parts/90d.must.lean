/-! ===== the reference reads ===== -/
section
variable {L N : Nat} {xs : Nat → Int32} {h h' h0 : AH} {σ σ' y : SG} {tr : Nat → Nat} {u n : Nat} {s : Nat × Bool}
def tS (y : SG) (s : Nat × Bool) : SG := s1 (s1 y 69 (nI s.1)) 70 (bI s.2)
def TY (σ y : SG) : Prop := y.1 63 = σ.1 63 ∧ y.2 62 = σ.2 62 ∧ y.2 71 = σ.2 71
theorem tS_2 : (tS y s).2 = y.2 := rfl
theorem tS_69 : (tS y s).1 69 = nI s.1 := rfl
theorem tS_70 : (tS y s).1 70 = bI s.2 := rfl
theorem tS_k {k : Nat} (h1 : k ≠ 69) (h2 : k ≠ 70) : (tS y s).1 k = y.1 k := by
  show (if k = 70 then _ else if k = 69 then _ else y.1 k) = _
  rw [if_neg h2, if_neg h1]
theorem tS_w69 {p : Nat} : s1 (tS y s) 69 (nI p) = tS y (p, s.2) := by
  unfold tS s1
  refine Prod.ext (funext fun k => ?_) rfl
  show (if k = 69 then nI p else if k = 70 then bI s.2 else if k = 69 then nI s.1 else y.1 k) = (if k = 70 then bI s.2 else if k = 69 then nI p else y.1 k)
  by_cases e : k = 69
  · subst e; rfl
  · rw [if_neg e, if_neg e, if_neg e]
theorem tS_w70 {f : Bool} : s1 (tS y s) 70 (bI f) = tS y (s.1, f) := by
  unfold tS s1
  refine Prod.ext (funext fun k => ?_) rfl
  show (if k = 70 then bI f else if k = 70 then bI s.2 else if k = 69 then nI s.1 else y.1 k) = (if k = 70 then bI f else if k = 69 then nI s.1 else y.1 k)
  by_cases e : k = 70
  · rw [if_pos e, if_pos e]
  · rw [if_neg e, if_neg e, if_neg e]
theorem tS_s2 {k j : Nat} {x : Int32} : s2 (tS y s) k j x = tS (s2 y k j x) s := rfl
def wst : List Nat := [0, 5, 10, 16, 22, 30, 39, 44, 50, 55, 60, 67, 73]
def wln : List Nat := [4, 4, 5, 5, 7, 8, 4, 5, 4, 4, 6, 5, 5]
/-- the reference's word k is the class's word wcl k -/
def wcl : List Nat := [6, 7, 0, 1, 2, 3, 4, 5, 8, 9, 10, 11, 15]
theorem w_f : ∀ k : Fin 13, (∀ i : Fin 8, i.val < wln.getD k.val 0 → WRDS.getD (wst.getD k.val 0 + i.val) 0 ≠ 0 ∧ WRDS.getD (wst.getD k.val 0 + i.val) 0 = (SBYT.getD (wcl.getD k.val 0) []).getD i.val 0) ∧ WRDS.getD (wst.getD k.val 0 + wln.getD k.val 0) 0 = 0 ∧ wln.getD k.val 0 ≤ 8 ∧ wst.getD k.val 0 + wln.getD k.val 0 < 79 ∧ (SBYT.getD (wcl.getD k.val 0) []).length = wln.getD k.val 0 ∧ (k.val < 12 → wst.getD (k.val + 1) 0 = wst.getD k.val 0 + wln.getD k.val 0 + 1) := by decide +kernel
theorem xpz_ok {r c k : Nat} {f : Bool} (e : kd h r = c + 1) : xpz h r c k (bI f) = some (sfi h r k (bI f)) := by
  unfold xpz
  rw [if_pos ⟨e, by cases f <;> decide⟩]
theorem r_byteAt (H : RS h y) (Y : TY σ y) (hc : σ.1 63 = nI (cn σ 63)) (hl : cn σ 63 ≤ 100) {p : Nat} (hp : p ≤ cn σ 63) : f_X12_byteAt h 100 (nI p) = some (tb σ p) := by
  unfold f_X12_byteAt tb
  rw [if_pos H.1, RS.gi H, Y.1, hc, obs]
  by_cases q : cn σ 63 ≤ p
  · rw [if_pos q, if_pos (by rw [nI_leI (by omega) (by omega)]; exact q)]
  · rw [if_neg q, if_neg (by rw [nI_leI (by omega) (by omega)]; exact q), rg62 H, obs, ra62 H (by omega), obs, Y.2.1]
theorem TY.t (Y : TY σ y) : TY σ (tS y s) := Y
theorem r_scan (H : RS h y) {K : Nat → Int32 → Int32 → Int32 → Option Int32} {k x3 : Int32} : ∀ (m n a : Nat), (∀ j, j < m → y.2 71 (a + j) ≠ 0) → y.2 71 (a + m) = 0 → a + m < 79 → m < n → f_X12_startOf_b9 h N K n 100 k (nI a) x3 = K 100 k (nI (a + m + 1)) (x3 + 1) := by
  intro m
  induction m with
  | zero =>
    intro n a _ hz ha hn
    obtain ⟨n, rfl⟩ : ∃ n', n = n' + 1 := ⟨n - 1, by omega⟩
    show f_X12_startOf_b9_body h N K (f_X12_startOf_b9 h N K n) 100 k (nI a) x3 = _
    unfold f_X12_startOf_b9_body
    rw [rg71 H, obs, ra71 H (by omega), obs, if_pos (show y.2 71 a = 0 from hz), nI_1]
  | succ m ih =>
    intro n a hj hz ha hn
    obtain ⟨n, rfl⟩ : ∃ n', n = n' + 1 := ⟨n - 1, by omega⟩
    show f_X12_startOf_b9_body h N K (f_X12_startOf_b9 h N K n) 100 k (nI a) x3 = _
    unfold f_X12_startOf_b9_body
    rw [rg71 H, obs, ra71 H (by omega), obs, if_neg (show ¬ y.2 71 a = 0 from hj 0 (by omega)), nI_1, ih n (a + 1) (fun j hj' => by
      have := hj (j + 1) (by omega)
      rwa [show a + (j + 1) = a + 1 + j by omega] at this) (by rwa [show a + 1 + m = a + (m + 1) by omega]) (by omega) (by omega), show a + 1 + m + 1 = a + (m + 1) + 1 by omega]
theorem r_startOf (H : RS h y) (hw : ∀ j, j < 79 → y.2 71 j = WRDS.getD j 0) {k : Nat} (hk : k < 13) (hN : 100 < N) : f_X12_startOf h N 100 (nI k) = some (nI (wst.getD k 0)) := by
  have key : ∀ (d j n : Nat), j + d = k → d < n → f_X12_startOf_b4 h N n 100 (nI k) (nI (wst.getD j 0)) (nI j) = some (nI (wst.getD k 0)) := by
    intro d
    induction d with
    | zero =>
      intro j n hj hn
      obtain ⟨n, rfl⟩ : ∃ n', n = n' + 1 := ⟨n - 1, by omega⟩
      have : j = k := by omega
      subst this
      show f_X12_startOf_b4_body h N (f_X12_startOf_b4 h N n) 100 (nI j) (nI (wst.getD j 0)) (nI j) = _
      unfold f_X12_startOf_b4_body
      rw [if_pos (Int32.le_refl _)]
    | succ d ih =>
      intro j n hj hn
      obtain ⟨n, rfl⟩ : ∃ n', n = n' + 1 := ⟨n - 1, by omega⟩
      obtain ⟨f1, f2, f3, f4, f5, f6⟩ := w_f ⟨j, by omega⟩
      simp only [] at f1 f2 f3 f4 f5 f6
      show f_X12_startOf_b4_body h N (f_X12_startOf_b4 h N n) 100 (nI k) (nI (wst.getD j 0)) (nI j) = _
      unfold f_X12_startOf_b4_body
      rw [if_neg (by rw [nI_leI (by omega) (by omega)]; omega), r_scan H (wln.getD j 0) N (wst.getD j 0) (fun i hi => by
        rw [hw _ (by omega)]; exact (f1 ⟨i, by omega⟩ hi).1) (by rw [hw _ (by omega)]; exact f2) f4 (by omega), nI_1, ← f6 (by omega)]
      exact ih (j + 1) n (by omega) (by omega)
  unfold f_X12_startOf
  rw [if_pos H.1]
  exact key k 0 N (by omega) (by omega)
theorem r_mustL (hc : σ.1 63 = nI (cn σ 63)) (hl : cn σ 63 ≤ 100) (Y : TY σ y) (hw : ∀ j, j < 79 → y.2 71 j = WRDS.getD j 0) {k : Nat} (hk : k < 13) : ∀ (ws : List Int32) (j n : Nat) (h : AH) (s : Nat × Bool), j + ws.length = wln.getD k 0 → (SBYT.getD (wcl.getD k 0) []).drop j = ws → ws.length + 1 < n → RS h (tS y s) → s.1 ≤ cn σ 63 → ∃ h', f_X12_must_b6 N n h 100 (nI (wst.getD k 0 + j)) = some h' ∧ RS h' (tS y (wdS σ ws s)) ∧ FRc h h' := by
  obtain ⟨f1, f2, f3, f4, f5, f6⟩ := w_f ⟨k, hk⟩
  simp only [] at f1 f2 f3 f4 f5 f6
  have wi : ∀ i, i < 13 → wcl.getD i 0 < 16 := by
    have t : ∀ i : Fin 13, wcl.getD i.val 0 < 16 := by decide
    exact fun i hi => t ⟨i, hi⟩
  intro ws
  induction ws with
  | nil =>
    intro j n h s hj hd hn H hs
    obtain ⟨n, rfl⟩ : ∃ n', n = n' + 1 := ⟨n - 1, by omega⟩
    refine ⟨h, ?_, H, FRc.refl⟩
    have : j = wln.getD k 0 := by simpa using hj
    subst this
    show f_X12_must_b6_body N (f_X12_must_b6 N n) h 100 (nI (wst.getD k 0 + wln.getD k 0)) = _
    unfold f_X12_must_b6_body
    rw [rg71 H, obs, ra71 H (by omega), obs, tS_2, hw _ (by omega), if_pos f2]
  | cons c cs ih =>
    intro j n h s hj hd hn H hs
    obtain ⟨n, rfl⟩ : ∃ n', n = n' + 1 := ⟨n - 1, by omega⟩
    rw [List.length_cons] at hj hn
    have hlt : j < (SBYT.getD (wcl.getD k 0) []).length := by rw [f5]; omega
    have hc' : (SBYT.getD (wcl.getD k 0) []).getD j 0 = c := by
      have := List.drop_eq_getElem_cons hlt
      rw [hd] at this
      injection this with t1 t2
      rw [List.getD_eq_getElem?_getD, List.getElem?_eq_getElem hlt]
      exact t1.symm
    have hd2 : (SBYT.getD (wcl.getD k 0) []).drop (j + 1) = cs := by
      have := List.drop_eq_getElem_cons hlt
      rw [hd] at this
      injection this with t1 t2
      exact t2.symm
    obtain ⟨g1, g2⟩ := f1 ⟨j, by omega⟩ (show j < _ by omega)
    simp only [] at g1 g2
    rw [hc'] at g2
    have v71 : xia h 171 (nI (wst.getD k 0 + j)) = some c := by rw [ra71 H (by omega), tS_2, hw _ (by omega), g2]
    have nc : ¬ c = 0 := by rw [← g2]; exact g1
    have bA := r_byteAt H (Y.t (s := s)) hc hl hs
    have pre : f_X12_must_b6 N (n + 1) h 100 (nI (wst.getD k 0 + j)) = (if bI s.2 = 0 then (if tb σ s.1 = c then f_X12_must_b45 N (f_X12_must_b6 N n) h 100 (nI (wst.getD k 0 + j)) 0 100 else f_X12_must_b45 N (f_X12_must_b6 N n) h 100 (nI (wst.getD k 0 + j)) 1 100) else some h) := by
      show f_X12_must_b6_body N (f_X12_must_b6 N n) h 100 (nI (wst.getD k 0 + j)) = _
      unfold f_X12_must_b6_body
      rw [rg71 H, obs, v71, obs, if_neg nc, RS.gi H, tS_70, obs, RS.gi H, tS_69, obs, bA, obs, obs, v71, obs]
    rcases e2 : s.2
    · rw [e2] at pre
      rw [if_pos (show bI false = 0 by rfl)] at pre
      by_cases q : tb σ s.1 = c
      · rw [if_pos q] at pre
        obtain ⟨k', hk', ek⟩ : ∃ k, k < 128 ∧ c = nI k := by
          have := (sb_as (i := wcl.getD k 0) (j := j) (wi k hk) (by
            have := (sb_f ⟨wcl.getD k 0, wi k hk⟩).1
            simp only [] at this
            omega)).2.2
          rwa [hc'] at this
        have hp : s.1 < cn σ 63 := by rw [ek] at q; exact tb_lt hk' q
        have H1 : RS (sfi h 100 70 (bI false)) (tS y (s.1, false)) := by rw [← tS_w70]; exact H.fi 70 (bI false)
        have H2 : RS (sfi (sfi h 100 70 (bI false)) 100 69 (nI (s.1 + 1))) (tS y (s.1 + 1, false)) := by
          have := H1.fi 69 (nI (s.1 + 1))
          rwa [tS_w69] at this
        have x1 : xpz h 100 13 70 0 = some (sfi h 100 70 (bI false)) := xpz_ok (f := false) H.1
        have e45 : f_X12_must_b45 N (f_X12_must_b6 N n) h 100 (nI (wst.getD k 0 + j)) 0 100 = f_X12_must_b6 N n (sfi (sfi h 100 70 (bI false)) 100 69 (nI (s.1 + 1))) 100 (nI (wst.getD k 0 + (j + 1))) := by
          unfold f_X12_must_b45 f_X12_must_b65
          rw [x1, obs, RS.gi H1, tS_69, obs, RS.gi H1, tS_70, obs, if_pos (show bI false = 0 by rfl), nI_1, xpi_ok H1.1, obs, nI_1]
          rfl
        obtain ⟨h2, r1, r2, r3⟩ := ih (j + 1) n _ (s.1 + 1, false) (by omega) hd2 (by omega) H2 (by show s.1 + 1 ≤ _; omega)
        have eW : wdS σ (c :: cs) s = wdS σ cs (s.1 + 1, false) := by
          conv => lhs; unfold wdS
          rw [if_neg (by rw [e2]; decide), if_pos q]
        rw [eW]
        exact ⟨h2, (pre.trans e45).trans r1, r2, (FRc.f.trans FRc.f).trans r3⟩
      · rw [if_neg q] at pre
        have H1 : RS (sfi h 100 70 (bI true)) (tS y (s.1, true)) := by rw [← tS_w70]; exact H.fi 70 (bI true)
        have H2 : RS (sfi (sfi h 100 70 (bI true)) 100 69 (nI s.1)) (tS y (s.1, true)) := by
          have := H1.fi 69 (nI s.1)
          rwa [tS_w69] at this
        have x1 : xpz h 100 13 70 1 = some (sfi h 100 70 (bI true)) := xpz_ok (f := true) H.1
        have e45 : f_X12_must_b45 N (f_X12_must_b6 N n) h 100 (nI (wst.getD k 0 + j)) 1 100 = f_X12_must_b6 N n (sfi (sfi h 100 70 (bI true)) 100 69 (nI s.1)) 100 (nI (wst.getD k 0 + (j + 1))) := by
          unfold f_X12_must_b45 f_X12_must_b65
          rw [x1, obs, RS.gi H1, tS_69, obs, RS.gi H1, tS_70, obs, if_neg (show ¬ bI true = 0 by decide), Int32.add_zero, xpi_ok H1.1, obs, nI_1]
          rfl
        obtain ⟨h2, r1, r2, r3⟩ := ih (j + 1) n _ (s.1, true) (by omega) hd2 (by omega) H2 hs
        rw [wdS_t rfl] at r2
        have eW : wdS σ (c :: cs) s = (s.1, true) := by
          conv => lhs; unfold wdS
          rw [if_neg (by rw [e2]; decide), if_neg q]
        rw [eW]
        exact ⟨h2, (pre.trans e45).trans r1, r2, (FRc.f.trans FRc.f).trans r3⟩
    · rw [e2] at pre
      rw [if_neg (show ¬ bI true = 0 by decide)] at pre
      rw [wdS_t e2]
      exact ⟨h, pre, H, FRc.refl⟩
theorem r_must (hc : σ.1 63 = nI (cn σ 63)) (hl : cn σ 63 ≤ 100) (Y : TY σ y) (hw : ∀ j, j < 79 → σ.2 71 j = WRDS.getD j 0) {k : Nat} (hk : k < 13) (H : RS h (tS y s)) (hs : s.1 ≤ cn σ 63) (hN : 100 < N) : ∃ h', f_X12_must h N 100 (nI k) = some h' ∧ RS h' (tS y (wdS σ (SBYT.getD (wcl.getD k 0) []) s)) ∧ FRc h h' := by
  obtain ⟨f1, f2, f3, f4, f5, f6⟩ := w_f ⟨k, hk⟩
  simp only [] at f1 f2 f3 f4 f5 f6
  have hw' : ∀ j, j < 79 → y.2 71 j = WRDS.getD j 0 := by rw [Y.2.2]; exact hw
  obtain ⟨h2, r1, r2, r3⟩ := r_mustL (N := N) hc hl Y hw' hk (SBYT.getD (wcl.getD k 0) []) 0 N h s (by omega) rfl (by omega) H hs
  refine ⟨h2, ?_, r2, r3⟩
  unfold f_X12_must
  rw [if_pos H.1, r_startOf H hw' hk hN, obs]
  exact r1
theorem r_numL (hc : σ.1 63 = nI (cn σ 63)) (hl : cn σ 63 ≤ 100) (Y : TY σ y) (bb : ∀ i, i < 100 → bd (σ.2 62 i) 256) : ∀ (r c m n : Nat) (v : Int32) (h : AH) (p : Nat), c + r = m → m ≤ 4 → r + 1 < n → RS h (tS y (p, false)) → p ≤ cn σ 63 → ∃ h', f_X12_number_b4 N n h 100 (nI m) (nI c) v = some ((nmG σ r c v p).1, h') ∧ RS h' (tS y ((nmG σ r c v p).2.2, decide ((nmG σ r c v p).2.1 = 0))) ∧ FRc h h' := by
  intro r
  have fin : ∀ (c : Nat) (v : Int32) (h : AH) (p : Nat), c ≤ 4 → RS h (tS y (p, false)) → ∃ h', f_X12_number_b67 N h 100 (nI c) v = some (v, h') ∧ RS h' (tS y (p, decide (c = 0))) ∧ FRc h h' := by
    intro c v h p hc4 H
    unfold f_X12_number_b67 f_X12_number_b79 f_X12_number_b84
    rw [RS.gi H, tS_70, obs, if_pos (show bI false = 0 by rfl)]
    by_cases q : c = 0
    · subst q
      have x1 : xpz h 100 13 70 1 = some (sfi h 100 70 (bI true)) := xpz_ok (f := true) H.1
      rw [if_pos (by decide), x1, obs]
      refine ⟨_, rfl, ?_, FRc.f⟩
      have := H.fi 70 (bI true)
      rwa [tS_w70] at this
    · have x1 : xpz h 100 13 70 0 = some (sfi h 100 70 (bI false)) := xpz_ok (f := false) H.1
      rw [if_neg (by rw [show (0 : Int32) = nI 0 by decide, nI_eq (by omega) (by omega)]; exact q), x1, obs]
      refine ⟨_, rfl, ?_, FRc.f⟩
      have := H.fi 70 (bI false)
      rw [tS_w70] at this
      rw [decide_eq_false q]
      exact this
  induction r with
  | zero =>
    intro c m n v h p hcm hm hn H hp
    obtain ⟨n, rfl⟩ : ∃ n', n = n' + 1 := ⟨n - 1, by omega⟩
    have : c = m := by omega
    subst this
    obtain ⟨h2, r1, r2, r3⟩ := fin c v h p hm H
    refine ⟨h2, ?_, r2, r3⟩
    show f_X12_number_b4_body N (f_X12_number_b4 N n) h 100 (nI c) (nI c) v = _
    unfold f_X12_number_b4_body
    rw [RS.gi H, tS_70, obs, if_pos (show bI false = 0 by rfl), if_pos (Int32.le_refl _)]
    exact r1
  | succ r ih =>
    intro c m n v h p hcm hm hn H hp
    obtain ⟨n, rfl⟩ : ∃ n', n = n' + 1 := ⟨n - 1, by omega⟩
    have hnm : ¬ nI m ≤ nI c := by rw [nI_leI (by omega) (by omega)]; omega
    have bA := r_byteAt H (Y.t (s := (p, false))) hc hl hp
    have hin : f_X12_in h (tb σ p) 48 57 = some (if 48 ≤ tb σ p ∧ tb σ p ≤ 57 then 1 else 0) := by
      unfold f_X12_in
      by_cases q1 : tb σ p < 48
      · rw [if_pos q1, if_neg (fun z => absurd q1 (Int32.not_lt.mpr z.1))]
      · rw [if_neg q1]
        by_cases q2 : 57 < tb σ p
        · rw [if_pos q2, if_neg (fun z => absurd q2 (Int32.not_lt.mpr z.2))]
        · rw [if_neg q2, if_pos ⟨Int32.not_lt.mp q1, Int32.not_lt.mp q2⟩]
    have pre : f_X12_number_b4 N (n + 1) h 100 (nI m) (nI c) v = (if (if 48 ≤ tb σ p ∧ tb σ p ≤ 57 then (1 : Int32) else 0) = 0 then f_X12_number_b67 N h 100 (nI c) v else (xpi h 100 13 69 (nI p + 1)).bind fun h11 => f_X12_number_b4 N n h11 100 (nI m) (nI c + 1) (10 * v + tb σ p - 48)) := by
      show f_X12_number_b4_body N (f_X12_number_b4 N n) h 100 (nI m) (nI c) v = _
      unfold f_X12_number_b4_body
      rw [RS.gi H, tS_70, obs, if_pos (show bI false = 0 by rfl), if_neg hnm, RS.gi H, tS_69, obs, bA, obs, hin, obs, obs, bA, obs, obs]
    unfold nmG
    by_cases q : 48 ≤ tb σ p ∧ tb σ p ≤ 57
    · rw [if_pos q, if_neg (by decide), xpi_ok H.1, obs, nI_1, nI_1, Int32.mul_comm] at pre
      rw [if_pos q]
      have hp2 : p < cn σ 63 := by
        unfold tb at q
        by_cases z : cn σ 63 ≤ p
        · rw [if_pos z] at q; exact absurd q.1 (by decide)
        · omega
      have H2 : RS (sfi h 100 69 (nI (p + 1))) (tS y (p + 1, false)) := by
        have := H.fi 69 (nI (p + 1))
        rwa [tS_w69] at this
      obtain ⟨h2, r1, r2, r3⟩ := ih (c + 1) m n (v * 10 + tb σ p - 48) _ (p + 1) (by omega) hm (by omega) H2 (by omega)
      exact ⟨h2, pre.trans r1, r2, FRc.f.trans r3⟩
    · rw [if_neg q, if_pos rfl] at pre
      rw [if_neg q]
      obtain ⟨h2, r1, r2, r3⟩ := fin c v h p (by omega) H
      exact ⟨h2, pre.trans r1, r2, r3⟩
theorem r_num (hc : σ.1 63 = nI (cn σ 63)) (hl : cn σ 63 ≤ 100) (Y : TY σ y) (bb : ∀ i, i < 100 → bd (σ.2 62 i) 256) {m : Nat} (hm : 1 ≤ m ∧ m ≤ 4) (H : RS h (tS y s)) (hs : s.1 ≤ cn σ 63) (hN : 100 < N) : ∃ h', f_X12_number h N 100 (nI m) = some ((nmS σ m s).1, h') ∧ RS h' (tS y (nmS σ m s).2) ∧ FRc h h' := by
  obtain ⟨p, f⟩ := s
  rcases f
  · obtain ⟨h2, r1, r2, r3⟩ := r_numL (N := N) hc hl Y bb m 0 m N 0 h p (by omega) hm.2 (by omega) H hs
    have eS : nmS σ m (p, false) = ((nmG σ m 0 0 p).1, (nmG σ m 0 0 p).2.2, decide ((nmG σ m 0 0 p).2.1 = 0)) := if_neg (show ¬ (false = true) by decide)
    rw [eS]
    refine ⟨h2, ?_, r2, r3⟩
    unfold f_X12_number
    rw [if_pos H.1]
    exact r1
  · rw [nmS_t rfl]
    have x1 : xpz h 100 13 70 1 = some (sfi h 100 70 (bI true)) := xpz_ok (f := true) H.1
    refine ⟨sfi h 100 70 (bI true), ?_, ?_, FRc.f⟩
    · unfold f_X12_number
      rw [if_pos H.1]
      obtain ⟨n, rfl⟩ : ∃ n', N = n' + 1 := ⟨N - 1, by omega⟩
      show f_X12_number_b4_body (n + 1) (f_X12_number_b4 (n + 1) n) h 100 (nI m) 0 0 = _
      unfold f_X12_number_b4_body f_X12_number_b67 f_X12_number_b79 f_X12_number_b84
      rw [RS.gi H, tS_70, obs, if_neg (show ¬ bI true = 0 by decide), obs, if_neg (show ¬ bI true = 0 by decide), x1, obs]
    · have := H.fi 70 (bI true)
      rwa [tS_w70] at this
end
