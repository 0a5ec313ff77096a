/-! ===== cases of a term: the reference ===== -/
section
variable {L N : Nat} {xs : Nat → Int32} {h h' h0 h1 h2 : AH} {σ σ' y : SG} {tr : Nat → Nat} {u n b i t c : Nat} {s : Nat × Bool} {f : Bool}
def TX (σ : SG) : Prop := σ.1 63 = nI (cn σ 63) ∧ cn σ 63 ≤ 100 ∧ (∀ i, i < 100 → bd (σ.2 62 i) 256) ∧ ∀ j, j < 79 → σ.2 71 j = WRDS.getD j 0
theorem R_must (X : TX σ) (Y : TY σ y) {k : Nat} (hk : k < 13) (H : RS h (tS y s)) (hs : s.1 ≤ cn σ 63) (hN : 100 < N) : ∃ h', f_X12_must h N 100 (nI k) = some h' ∧ RS h' (tS y (wdS σ (SBYT.getD (wcl.getD k 0) []) s)) ∧ FRc h h' := r_must X.1 X.2.1 Y X.2.2.2 hk H hs hN
theorem R_num (X : TX σ) (Y : TY σ y) {m : Nat} (hm : 1 ≤ m ∧ m ≤ 4) (H : RS h (tS y s)) (hs : s.1 ≤ cn σ 63) (hN : 100 < N) : ∃ h', f_X12_number h N 100 (nI m) = some ((nmS σ m s).1, h') ∧ RS h' (tS y (nmS σ m s).2) ∧ FRc h h' := r_num X.1 X.2.1 Y X.2.2.1 hm H hs hN
theorem R_byte (X : TX σ) (Y : TY σ y) (H : RS h (tS y s)) (hs : s.1 ≤ cn σ 63) : f_X12_byteAt h 100 (nI s.1) = some (tb σ s.1) := r_byteAt H (Y.t (s := s)) X.1 X.2.1 hs
theorem TY.s2 (Y : TY σ y) {k j : Nat} {x : Int32} (h1 : k ≠ 62) (h2 : k ≠ 71) : TY σ (s2 y k j x) := by
  obtain ⟨y1, y2, y3⟩ := Y
  exact ⟨y1, by rw [s2_row (fun e => h1 e.symm)]; exact y2, by rw [s2_row (fun e => h2 e.symm)]; exact y3⟩
def adv (h : AH) (s : Nat × Bool) (f : Bool) : AH := sfi (sfi h 100 70 (bI f)) 100 69 (nI (if f = true then s.1 else s.1 + 1))
def sT (s : Nat × Bool) (f : Bool) : Nat × Bool := (if f = true then s.1 else s.1 + 1, f)
theorem adv_rs (H : RS h (tS y s)) : RS (adv h s f) (tS y (sT s f)) := by
  have H1 : RS (sfi h 100 70 (bI f)) (tS y (s.1, f)) := by rw [← tS_w70]; exact H.fi 70 (bI f)
  have := H1.fi 69 (nI (if f = true then s.1 else s.1 + 1))
  rwa [tS_w69] at this
theorem adv_fr : FRc h (adv h s f) := FRc.f.trans FRc.f
theorem stepP (H : RS h (tS y s)) (f : Bool) (Kc : AH → Option AH) : ((xpz h 100 13 70 (bI f)).bind fun h12 => (xgi h12 100 13 69).bind fun v13 => (xgi h12 100 13 70).bind fun v14 => if v14 = 0 then (xpi h12 100 13 69 (v13 + 1)).bind Kc else (xpi h12 100 13 69 (v13 + 0)).bind Kc) = Kc (adv h s f) := by
  have H1 : RS (sfi h 100 70 (bI f)) (tS y (s.1, f)) := by rw [← tS_w70]; exact H.fi 70 (bI f)
  rw [xpz_ok H.1, obs, RS.gi H1, tS_69, obs, RS.gi H1, tS_70, obs]
  rcases f
  · rw [if_pos (show bI false = 0 by rfl), nI_1, xpi_ok H1.1, obs]
    rfl
  · rw [if_neg (show ¬ bI true = 0 by decide), Int32.add_zero, xpi_ok H1.1, obs]
    rfl
theorem w1_eq {k : Nat} : wdS σ [nI k] s = if s.2 = true then s else sT s (decide (¬ tb σ s.1 = nI k)) := by
  unfold wdS
  by_cases e : s.2 = true
  · rw [if_pos e, if_pos e]
  · rw [if_neg e, if_neg e]
    by_cases q : tb σ s.1 = nI k
    · rw [if_pos q, decide_eq_false (fun z => z q)]; rfl
    · rw [if_neg q, decide_eq_true q]; rfl
theorem sT_t (e : s.2 = true) : sT s true = s := by
  obtain ⟨p, f⟩ := s
  have : f = true := e
  subst this
  rfl
theorem sT_le (hs : s.1 ≤ cn σ 63) (hf : f = false → s.1 < cn σ 63) : (sT s f).1 ≤ cn σ 63 := by
  unfold sT
  rcases f
  · have := hf rfl
    show s.1 + 1 ≤ _
    omega
  · exact hs
def cBf (N : Nat) (h : AH) (x1 : Int32) : Option AH := (xgi h 100 13 69).bind fun v31 => (f_X12_byteAt h 100 v31).bind fun v32 => (xgi h 100 13 70).bind fun v33 => (if v33 = 0 then (if v32 = 60 then f_X12_readsCase_b192 N h 100 x1 v32 100 else (if v32 = 62 then f_X12_readsCase_b192 N h 100 x1 v32 100 else f_X12_readsCase_b188 N h 100 x1 v32 100)) else f_X12_readsCase_b188 N h 100 x1 v32 100)
def cDf (N : Nat) (h44 : AH) (x1 : Int32) : Option AH := (xgi h44 100 13 70).bind fun v45 => (if v45 = 0 then (xgi h44 100 13 69).bind fun v47 => (f_X12_byteAt h44 100 v47).bind fun v48 => (if v48 = 32 then f_X12_readsCase_b261 N h44 100 x1 0 100 else f_X12_readsCase_b256 N h44 100 x1 100) else f_X12_readsCase_b256 N h44 100 x1 100)
def cEf (N : Nat) (h54 : AH) (x1 : Int32) : Option AH := (xgr h54 100 13 23).bind fun v55 => (f_X12_number h54 N 100 4).bind fun q56 => (xis q56.2 v55 x1 q56.1).bind fun h57 => some h57
theorem b132 (H : RS h (tS y s)) {x1 : Int32} : f_X12_readsCase_b132 N h 100 x1 (bI f) 100 = cBf N (adv h s f) x1 := stepP H f (fun h30 => cBf N h30 x1)
theorem b261 (H : RS h (tS y s)) {x1 : Int32} : f_X12_readsCase_b261 N h 100 x1 (bI f) 100 = cEf N (adv h s f) x1 := stepP H f (fun h30 => cEf N h30 x1)
theorem b193 (H : RS h (tS y s)) {x1 x4 : Int32} : f_X12_readsCase_b193 N h 100 x1 x4 (bI f) 100 = (xgr (adv h s f) 100 13 24).bind (fun v42 => if x4 = 60 then f_X12_readsCase_b234 N (adv h s f) 100 x1 1 x1 v42 else f_X12_readsCase_b234 N (adv h s f) 100 x1 0 x1 v42) := stepP H f (fun h41 => (xgr h41 100 13 24).bind (fun v42 => if x4 = 60 then f_X12_readsCase_b234 N h41 100 x1 1 x1 v42 else f_X12_readsCase_b234 N h41 100 x1 0 x1 v42))
theorem r_cA (X : TX σ) (Y : TY σ y) (H : RS h (tS y s)) (hs : s.1 ≤ cn σ 63) {x1 : Int32} : ∃ h', f_X12_readsCase_b106 N h 100 x1 = cBf N h' x1 ∧ RS h' (tS y (e5 σ s)) ∧ (e5 σ s).1 ≤ cn σ 63 ∧ FRc h h' := by
  have eW : e5 σ s = if s.2 = true then s else sT s (decide (¬ tb σ s.1 = nI 32)) := w1_eq (k := 32)
  unfold f_X12_readsCase_b106 f_X12_readsCase_b127
  rw [RS.gi H, tS_70, obs, RS.gi H, tS_69, obs, R_byte X Y H hs, obs, eW]
  rcases e : s.2
  · rw [if_pos (show bI false = 0 by rfl), if_neg (show ¬ (false = true) by decide)]
    by_cases q : tb σ s.1 = 32
    · have q' : decide (¬ tb σ s.1 = nI 32) = false := decide_eq_false (fun z => z q)
      rw [if_pos q, q']
      exact ⟨_, b132 (f := false) H, adv_rs H, sT_le hs (fun _ => tb_lt (c := 32) (by omega) q), adv_fr⟩
    · have q' : decide (¬ tb σ s.1 = nI 32) = true := decide_eq_true q
      rw [if_neg q, q']
      exact ⟨_, b132 (f := true) H, adv_rs H, sT_le hs (fun z => by cases z), adv_fr⟩
  · rw [if_neg (show ¬ bI true = 0 by decide), if_pos rfl]
    refine ⟨adv h s true, b132 (f := true) H, ?_, hs, adv_fr⟩
    have := adv_rs (f := true) H
    rwa [sT_t e] at this
theorem r_cB (X : TX σ) (Y : TY σ y) (H : RS h (tS y (e5 σ s))) (hs : (e5 σ s).1 ≤ cn σ 63) (hc : c < 32) : ∃ h', cBf N h (nI c) = cDf N h' (nI c) ∧ RS h' (tS (s2 y 24 c (bI (decide (tb σ (e5 σ s).1 = nI 60)))) (e6 σ s)) ∧ (e6 σ s).1 ≤ cn σ 63 ∧ FRc h h' := by
  have key : ∀ f, (e5 σ s).2 = true ∧ f = true ∨ (e5 σ s).2 = false ∧ f = decide (¬ (tb σ (e5 σ s).1 = nI 60 ∨ tb σ (e5 σ s).1 = nI 62)) → cBf N h (nI c) = f_X12_readsCase_b193 N h 100 (nI c) (tb σ (e5 σ s).1) (bI f) 100 := by
    intro f hf
    unfold cBf f_X12_readsCase_b192 f_X12_readsCase_b188
    rw [RS.gi H, tS_69, obs, R_byte X Y H hs, obs, RS.gi H, tS_70, obs]
    rcases hf with ⟨e, rfl⟩ | ⟨e, ef⟩
    · rw [e, if_neg (show ¬ bI true = 0 by decide)]; rfl
    · rw [e, if_pos (show bI false = 0 by rfl)]
      by_cases q1 : tb σ (e5 σ s).1 = 60
      · have : f = false := by rw [ef]; exact decide_eq_false (fun z => z (Or.inl q1))
        rw [if_pos q1, this]; rfl
      · rw [if_neg q1]
        by_cases q2 : tb σ (e5 σ s).1 = 62
        · have : f = false := by rw [ef]; exact decide_eq_false (fun z => z (Or.inr q2))
          rw [if_pos q2, this]; rfl
        · have : f = true := by rw [ef]; exact decide_eq_true (fun z => z.elim q1 q2)
          rw [if_neg q2, this]; rfl
  have tail : ∀ f, cBf N h (nI c) = f_X12_readsCase_b193 N h 100 (nI c) (tb σ (e5 σ s).1) (bI f) 100 → sT (e5 σ s) f = e6 σ s → (f = false → (e5 σ s).1 < cn σ 63) → ∃ h', cBf N h (nI c) = cDf N h' (nI c) ∧ RS h' (tS (s2 y 24 c (bI (decide (tb σ (e5 σ s).1 = nI 60)))) (e6 σ s)) ∧ (e6 σ s).1 ≤ cn σ 63 ∧ FRc h h' := by
    intro f e1 e2 e3
    have HA := adv_rs (f := f) H
    have w := rw24 HA (n := c) (x := bI (decide (tb σ (e5 σ s).1 = nI 60))) (by cases decide (tb σ (e5 σ s).1 = nI 60) <;> decide) hc
    refine ⟨sai (adv h (e5 σ s) f) 124 c (bI (decide (tb σ (e5 σ s).1 = nI 60))), ?_, ?_, ?_, adv_fr.trans (FRc.a (by omega) (by omega))⟩
    · rw [e1, b193 H, rg24 HA, obs]
      by_cases q : tb σ (e5 σ s).1 = 60
      · rw [decide_eq_true (show tb σ (e5 σ s).1 = nI 60 from q)] at w ⊢
        rw [if_pos q]
        unfold f_X12_readsCase_b234
        rw [show (1 : Int32) = bI true by rfl, w.1, obs]
        rfl
      · rw [decide_eq_false (show ¬ tb σ (e5 σ s).1 = nI 60 from q)] at w ⊢
        rw [if_neg q]
        unfold f_X12_readsCase_b234
        show (xbs (adv h (e5 σ s) f) 124 (nI c) (bI false)).bind _ = _
        rw [w.1, obs]
        rfl
    · rw [← e2]; exact w.2
    · rw [← e2]; exact sT_le hs e3
  have e14 : SBYT.getD 14 [] = [nI 60] := by decide
  have e13 : SBYT.getD 13 [] = [nI 62] := by decide
  rcases e : (e5 σ s).2
  · by_cases q : tb σ (e5 σ s).1 = nI 62
    · have eCt : eC σ s = true := decide_eq_true q
      have hf : false = decide (¬ (tb σ (e5 σ s).1 = nI 60 ∨ tb σ (e5 σ s).1 = nI 62)) := (decide_eq_false (fun z => z (Or.inr q))).symm
      refine tail false (key false (Or.inr ⟨e, hf⟩)) ?_ (fun _ => tb_lt (c := 62) (by omega) q)
      unfold e6
      rw [eCt, if_pos rfl, e13, w1_eq, if_neg (by rw [e]; decide), decide_eq_false (fun z => z q)]
    · have eCt : eC σ s = false := decide_eq_false q
      have e6' : e6 σ s = sT (e5 σ s) (decide (¬ tb σ (e5 σ s).1 = nI 60)) := by
        unfold e6
        rw [eCt, if_neg (by decide), e14, w1_eq, if_neg (by rw [e]; decide)]
      by_cases q0 : tb σ (e5 σ s).1 = nI 60
      · have hf : false = decide (¬ (tb σ (e5 σ s).1 = nI 60 ∨ tb σ (e5 σ s).1 = nI 62)) := (decide_eq_false (fun z => z (Or.inl q0))).symm
        refine tail false (key false (Or.inr ⟨e, hf⟩)) ?_ (fun _ => tb_lt (c := 60) (by omega) q0)
        rw [e6', decide_eq_false (fun z => z q0)]
      · have hf : true = decide (¬ (tb σ (e5 σ s).1 = nI 60 ∨ tb σ (e5 σ s).1 = nI 62)) := (decide_eq_true (show ¬ (tb σ (e5 σ s).1 = nI 60 ∨ tb σ (e5 σ s).1 = nI 62) from fun z => z.elim q0 q)).symm
        refine tail true (key true (Or.inr ⟨e, hf⟩)) ?_ (fun z => by cases z)
        rw [e6', decide_eq_true q0]
  · refine tail true (key true (Or.inl ⟨e, rfl⟩)) ?_ (fun z => by cases z)
    unfold e6
    rw [wdS_t e]
    exact sT_t e
theorem r_cC (X : TX σ) (Y : TY σ y) (H : RS h (tS y (e6 σ s))) (hs : (e6 σ s).1 ≤ cn σ 63) {x1 : Int32} : ∃ h', cDf N h x1 = cEf N h' x1 ∧ RS h' (tS y (e7 σ s)) ∧ (e7 σ s).1 ≤ cn σ 63 ∧ FRc h h' := by
  have eW : e7 σ s = if (e6 σ s).2 = true then e6 σ s else sT (e6 σ s) (decide (¬ tb σ (e6 σ s).1 = nI 32)) := w1_eq (k := 32)
  unfold cDf f_X12_readsCase_b256
  rw [RS.gi H, tS_70, obs, RS.gi H, tS_69, obs, R_byte X Y H hs, obs, eW]
  rcases e : (e6 σ s).2
  · rw [if_pos (show bI false = 0 by rfl), if_neg (show ¬ (false = true) by decide)]
    by_cases q : tb σ (e6 σ s).1 = 32
    · have q' : decide (¬ tb σ (e6 σ s).1 = nI 32) = false := decide_eq_false (fun z => z q)
      rw [if_pos q, q']
      exact ⟨_, b261 (f := false) H, adv_rs H, sT_le hs (fun _ => tb_lt (c := 32) (by omega) q), adv_fr⟩
    · have q' : decide (¬ tb σ (e6 σ s).1 = nI 32) = true := decide_eq_true q
      rw [if_neg q, q']
      exact ⟨_, b261 (f := true) H, adv_rs H, sT_le hs (fun z => by cases z), adv_fr⟩
  · rw [if_neg (show ¬ bI true = 0 by decide), if_pos rfl]
    refine ⟨adv h (e6 σ s) true, b261 (f := true) H, ?_, hs, adv_fr⟩
    have := adv_rs (f := true) H
    rwa [sT_t e] at this
theorem wd_le : ∀ (ws : List Int32) (s : Nat × Bool), (∀ c ∈ ws, ∃ k, k < 128 ∧ c = nI k) → s.1 ≤ cn σ 63 → (wdS σ ws s).1 ≤ cn σ 63
  | [], s, _, hs => hs
  | c :: cs, s, hw, hs => by
    unfold wdS
    by_cases e : s.2 = true
    · rw [if_pos e]; exact hs
    · rw [if_neg e]
      by_cases q : tb σ s.1 = c
      · rw [if_pos q]
        obtain ⟨k, hk, ek⟩ := hw c (by simp)
        rw [ek] at q
        have := tb_lt hk q
        exact wd_le cs (s.1 + 1, false) (fun c hc => hw c (by simp [hc])) (by show s.1 + 1 ≤ _; omega)
      · rw [if_neg q]; exact hs
theorem sw_f : ∀ i : Fin 16, ∀ c ∈ SBYT.getD i.val [], ∃ k : Fin 128, c = nI k.val := by decide +kernel
theorem W_le {i : Nat} (hi : i < 16) (hs : s.1 ≤ cn σ 63) : (wdS σ (SBYT.getD i []) s).1 ≤ cn σ 63 := wd_le _ _ (fun c hc => by
  obtain ⟨k, e⟩ := sw_f ⟨i, hi⟩ c hc
  exact ⟨k.val, k.isLt, e⟩) hs
theorem nmG_le : ∀ (r c : Nat) (v : Int32) (p : Nat), p ≤ cn σ 63 → (nmG σ r c v p).2.2 ≤ cn σ 63
  | 0, _, _, _, hp => hp
  | r + 1, c, v, p, hp => by
    unfold nmG
    by_cases q : 48 ≤ tb σ p ∧ tb σ p ≤ 57
    · rw [if_pos q]
      refine nmG_le r (c + 1) _ (p + 1) ?_
      unfold tb at q
      by_cases z : cn σ 63 ≤ p
      · rw [if_pos z] at q; exact absurd q.1 (by decide)
      · omega
    · rw [if_neg q]; exact hp
theorem N_le {m : Nat} (hs : s.1 ≤ cn σ 63) : (nmS σ m s).2.1 ≤ cn σ 63 := by
  unfold nmS
  by_cases q : s.2 = true
  · rw [if_pos q]; exact hs
  · rw [if_neg q]; exact nmG_le m 0 0 s.1 hs
def Yc (y σ : SG) (c : Nat) (s : Nat × Bool) : SG := s2 (s2 (s2 (s2 (s2 y 20 c (nI (8 + kdS σ s))) 21 c (q2 σ s).1) 22 c (q4 σ s).1) 24 c (bI (decide (tb σ (e5 σ (q4 σ s).2).1 = nI 60)))) 23 c (q8 σ s).1
theorem kdS_lt : kdS σ s < 4 := by
  unfold kdS
  split
  · omega
  · split
    · omega
    · split <;> omega
theorem r_cmp (X : TX σ) (Y : TY σ y) (H : RS h (tS y s)) (hs : s.1 ≤ cn σ 63) (hc : c < 32) (hN : 100 < N) : ∃ h', f_X12_readsCase_b106 N h 100 (nI c) = some h' ∧ RS h' (tS (s2 (s2 y 24 c (bI (decide (tb σ (e5 σ s).1 = nI 60)))) 23 c (e8 σ s).1) (e8 σ s).2) ∧ FRc h h' := by
  obtain ⟨h1, r1, H1, l1, F1⟩ := r_cA (N := N) (x1 := nI c) X Y H hs
  obtain ⟨h2, r2, H2, l2, F2⟩ := r_cB (N := N) X Y H1 l1 hc
  have Y2 : TY σ (s2 y 24 c (bI (decide (tb σ (e5 σ s).1 = nI 60)))) := Y.s2 (by decide) (by decide)
  obtain ⟨h3, r3, H3, l3, F3⟩ := r_cC (N := N) (x1 := nI c) X Y2 H2 l2
  obtain ⟨h4, r4, H4, F4⟩ := R_num (N := N) (m := 4) X Y2 (by omega) H3 l3 hN
  have w := rw23 H4 (n := c) (x := (e8 σ s).1) hc
  refine ⟨sai h4 123 c (e8 σ s).1, ?_, w.2, (((F1.trans F2).trans F3).trans F4).trans (FRc.a (by omega) (by omega))⟩
  have r4' : f_X12_number h3 N 100 4 = some ((e8 σ s).1, h4) := r4
  rw [r1, r2, r3]
  unfold cEf
  rw [rg23 H3, obs, r4', obs]
  show (xis h4 123 (nI c) (e8 σ s).1).bind _ = _
  rw [w.1, obs]
theorem q4_le (hs : s.1 ≤ cn σ 63) : (q4 σ s).2.1 ≤ cn σ 63 := by
  have hk := kdS_lt (σ := σ) (s := s)
  have l1 : (q1 σ s).1 ≤ cn σ 63 := W_le (by omega) hs
  unfold q4
  by_cases q : kdS σ s = 3
  · rw [if_pos q]; exact N_le l1
  · rw [if_neg q]; exact N_le (W_le (by omega) (N_le l1))
theorem q4_n (k3 : ¬ kdS σ s = 3) : q4 σ s = nmS σ 2 (wdS σ (SBYT.getD 4 []) (q2 σ s).2) := by
  unfold q4 spS q2
  rw [if_neg k3]
theorem r_b44 (X : TX σ) (Y : TY σ y) (H : RS h (tS y s)) (hs : s.1 ≤ cn σ 63) (hc : c < 32) (hN : 100 < N) : ∃ h', f_X12_readsCase_b44 N h 100 (nI c) (nI (8 + kdS σ s)) = some h' ∧ RS h' (tS (Yc y σ c s) (q8 σ s).2) ∧ FRc h h' := by
  have hk := kdS_lt (σ := σ) (s := s)
  have hwc : wcl.getD (8 + kdS σ s) 0 = 8 + kdS σ s := by
    have t : ∀ k : Fin 4, wcl.getD (8 + k.val) 0 = 8 + k.val := by decide
    exact t ⟨_, hk⟩
  obtain ⟨h1, r1, H1, F1⟩ := R_must (N := N) (k := 8 + kdS σ s) X Y (by omega) H hs hN
  rw [hwc] at H1
  have l1 : (q1 σ s).1 ≤ cn σ 63 := W_le (by omega) hs
  have w1 := rw20 H1 (n := c) (x := nI (8 + kdS σ s)) hc
  have Y1 : TY σ (s2 y 20 c (nI (8 + kdS σ s))) := Y.s2 (by decide) (by decide)
  have H2 : RS (sai h1 120 c (nI (8 + kdS σ s))) (tS (s2 y 20 c (nI (8 + kdS σ s))) (q1 σ s)) := w1.2
  obtain ⟨h3, r3, H3, F3⟩ := R_num (N := N) (m := 2) X Y1 (by omega) H2 l1 hN
  have l3 : (q2 σ s).2.1 ≤ cn σ 63 := N_le l1
  have w3 := rw21 H3 (n := c) (x := (q2 σ s).1) hc
  have Y3 : TY σ (s2 (s2 y 20 c (nI (8 + kdS σ s))) 21 c (q2 σ s).1) := Y1.s2 (by decide) (by decide)
  have H4 : RS (sai h3 121 c (q2 σ s).1) (tS (s2 (s2 y 20 c (nI (8 + kdS σ s))) 21 c (q2 σ s).1) (q2 σ s).2) := w3.2
  have F4 : FRc h (sai h3 121 c (q2 σ s).1) := ((F1.trans (FRc.a (by omega) (by omega))).trans F3).trans (FRc.a (by omega) (by omega))
  have mid : ∃ h5, (if nI (8 + kdS σ s) = 11 then (xgr (sai h3 121 c (q2 σ s).1) 100 13 22).bind fun v13 => (xgr (sai h3 121 c (q2 σ s).1) 100 13 21).bind fun v14 => (xia (sai h3 121 c (q2 σ s).1) v14 (nI c)).bind fun v15 => (xis (sai h3 121 c (q2 σ s).1) v13 (nI c) v15).bind fun h16 => f_X12_readsCase_b106 N h16 100 (nI c) else (f_X12_must (sai h3 121 c (q2 σ s).1) N 100 6).bind fun q17 => (xgr q17 100 13 22).bind fun v18 => (f_X12_number q17 N 100 2).bind fun q19 => (xis q19.2 v18 (nI c) q19.1).bind fun h20 => f_X12_readsCase_b106 N h20 100 (nI c)) = f_X12_readsCase_b106 N h5 100 (nI c) ∧ RS h5 (tS (s2 (s2 (s2 y 20 c (nI (8 + kdS σ s))) 21 c (q2 σ s).1) 22 c (q4 σ s).1) (q4 σ s).2) ∧ FRc (sai h3 121 c (q2 σ s).1) h5 := by
    by_cases k3 : kdS σ s = 3
    · have e4 : q4 σ s = q2 σ s := if_pos k3
      have ra : xia (sai h3 121 c (q2 σ s).1) 121 (nI c) = some (q2 σ s).1 := by
        rw [ra21 H4 hc, tS_2, s2_ite, if_pos ⟨rfl, rfl⟩]
      have w := rw22 H4 (n := c) (x := (q2 σ s).1) hc
      refine ⟨sai (sai h3 121 c (q2 σ s).1) 122 c (q2 σ s).1, ?_, by rw [e4]; exact w.2, FRc.a (by omega) (by omega)⟩
      rw [if_pos (by rw [k3]; decide), rg22 H4, obs, rg21 H4, obs, ra, obs, w.1, obs]
    · have e4 : q4 σ s = nmS σ 2 (wdS σ (SBYT.getD 4 []) (q2 σ s).2) := q4_n k3
      obtain ⟨h5, r5, H5, F5⟩ := R_must (N := N) (k := 6) X Y3 (by omega) H4 l3 hN
      rw [show wcl.getD 6 0 = 4 by decide] at H5
      have l5 : (wdS σ (SBYT.getD 4 []) (q2 σ s).2).1 ≤ cn σ 63 := W_le (by omega) l3
      generalize wdS σ (SBYT.getD 4 []) (q2 σ s).2 = s5 at e4 H5 l5
      obtain ⟨h6, r6, H6, F6⟩ := R_num (N := N) (m := 2) X Y3 (by omega) H5 l5 hN
      rw [← e4] at r6 H6
      have w := rw22 H6 (n := c) (x := (q4 σ s).1) hc
      refine ⟨sai h6 122 c (q4 σ s).1, ?_, w.2, (F5.trans F6).trans (FRc.a (by omega) (by omega))⟩
      have r5' : f_X12_must (sai h3 121 c (q2 σ s).1) N 100 6 = some h5 := by rw [show (6 : Int32) = nI 6 by decide]; exact r5
      have r6' : f_X12_number h5 N 100 2 = some ((q4 σ s).1, h6) := by rw [show (2 : Int32) = nI 2 by decide]; exact r6
      rw [if_neg (by rw [show (11 : Int32) = nI 11 by decide, nI_eq (by omega) (by omega)]; omega), r5', obs, rg22 H5, obs, r6', obs]
      show (xis h6 122 (nI c) (q4 σ s).1).bind _ = _
      rw [w.1, obs]
  obtain ⟨h5, r5, H5, F5⟩ := mid
  have Y5 : TY σ (s2 (s2 (s2 y 20 c (nI (8 + kdS σ s))) 21 c (q2 σ s).1) 22 c (q4 σ s).1) := Y3.s2 (by decide) (by decide)
  obtain ⟨h7, r7, H7, F7⟩ := r_cmp (N := N) X Y5 H5 (q4_le hs) hc hN
  refine ⟨h7, ?_, H7, (F4.trans F5).trans F7⟩
  have r3' : f_X12_number (sai h1 120 c (nI (8 + kdS σ s))) N 100 2 = some ((q2 σ s).1, h3) := r3
  unfold f_X12_readsCase_b44
  rw [r1, obs, rg20 H1, obs, w1.1, obs, rg21 H2, obs, r3', obs]
  show (xis h3 121 (nI c) (q2 σ s).1).bind _ = _
  rw [w3.1, obs, r5, r7]
theorem i115 : (115 : Int32) = nI 115 := by decide
theorem i100 : (100 : Int32) = nI 100 := by decide
theorem i103 : (103 : Int32) = nI 103 := by decide
theorem i8_ : (8 : Int32) = nI (8 + 0) := by decide
theorem i9_ : (9 : Int32) = nI (8 + 1) := by decide
theorem i10_ : (10 : Int32) = nI (8 + 2) := by decide
theorem i11_ : (11 : Int32) = nI (8 + 3) := by decide
theorem r_case (X : TX σ) (Y : TY σ y) (H : RS h (tS y s)) (hs : s.1 ≤ cn σ 63) (hc : c < 32) (hN : 100 < N) : ∃ h', f_X12_readsCase h N 100 (nI c) = some h' ∧ RS h' (tS (Yc y σ c s) (q8 σ s).2) ∧ FRc h h' := by
  obtain ⟨h7, b44, H7, F7⟩ := r_b44 (N := N) X Y H hs hc hN
  refine ⟨h7, ?_, H7, F7⟩
  unfold f_X12_readsCase
  rw [if_pos H.1, RS.gi H, tS_69, obs, R_byte X Y H hs, obs, i115, i100, i103]
  by_cases t3 : tb σ s.1 = nI 115
  · have n1 : ¬ tb σ s.1 = nI 100 := by rw [t3, nI_eq (by decide) (by decide)]; omega
    have n2 : ¬ tb σ s.1 = nI 103 := by rw [t3, nI_eq (by decide) (by decide)]; omega
    have k : kdS σ s = 0 := by unfold kdS; rw [if_neg n1, if_neg n2, if_pos t3]
    rw [k, ← i8_] at b44
    rw [if_pos t3]; exact b44
  · rw [if_neg t3]
    by_cases t1 : tb σ s.1 = nI 100
    · have k : kdS σ s = 1 := by unfold kdS; rw [if_pos t1]
      rw [k, ← i9_] at b44
      rw [if_pos t1]; exact b44
    · rw [if_neg t1]
      by_cases t2 : tb σ s.1 = nI 103
      · have k : kdS σ s = 2 := by unfold kdS; rw [if_neg t1, if_pos t2]
        rw [k, ← i10_] at b44
        rw [if_pos t2]; exact b44
      · have k : kdS σ s = 3 := by unfold kdS; rw [if_neg t1, if_neg t2, if_neg t3]
        rw [k, ← i11_] at b44
        rw [if_neg t2]; exact b44
end
