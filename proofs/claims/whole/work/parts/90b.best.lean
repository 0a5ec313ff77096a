section
variable {L N : Nat} {xs : Nat → Int32} {h h' : AH} {σ σ' : SG} {tr : Nat → Nat} {u n : Nat}
def minS (y D : Int32) : Int32 := if y = -1 then D else if y ≤ D then y else D
def siteD (σ : SG) (f i : Nat) : Int32 := dst (σ.2 27 f) (σ.2 28 f) (σ.2 47 i) (σ.2 48 i)
def smS (σ : SG) (f S i : Nat) (y : Int32) : Int32 := if b8 S i = 1 then minS y (siteD σ f i) else y
def nearV (σ : SG) (S f : Nat) : Int32 := itr (smS σ f S) 0 (cn σ 46) (farO σ f 15)
def acS (σ : SG) (S f : Nat) (acc : Int32) : Int32 := if nearV σ S f = -1 then acc else acc + σ.2 30 f * nearV σ S f
def farV (σ : SG) (S : Nat) : Int32 := itr (acS σ S) 0 (cn σ 26) 0
def fO (σ : SG) (f : Nat) (o : Option Nat) : Int32 := match o with
  | none => -1
  | some g => farD σ f g
theorem siteD_bd (W : WV σ) {f i : Nat} (hf : f < cn σ 26) (hi : i < cn σ 46) : bd (siteD σ f i) 199 := bd_dst (wv27 W hf) (wv28 W hf) (wv47 W hi) (wv48 W hi)
theorem farO_bd (W : WV σ) {f : Nat} {s : Int32} (hf : f < cn σ 26) : farO σ f s = -1 ∨ bd (farO σ f s) 199 := by
  unfold farO
  rcases e : gaugeOf σ f s with _ | g
  · exact Or.inl rfl
  · exact Or.inr (farD_bd W hf (gaugeOf_lt e))
theorem minS_bd {y D : Int32} (b1 : y = -1 ∨ bd y 199) (b2 : bd D 199) : minS y D = -1 ∨ bd (minS y D) 199 := by
  unfold minS
  by_cases q : y = -1
  · rw [if_pos q]; exact Or.inr b2
  · rw [if_neg q]
    by_cases q2 : y ≤ D
    · rw [if_pos q2]; exact b1
    · rw [if_neg q2]; exact Or.inr b2
theorem nearV_bd (W : WV σ) {S f : Nat} (hf : f < cn σ 26) : nearV σ S f = -1 ∨ bd (nearV σ S f) 199 := by
  unfold nearV
  refine itr_inv (fun _ y => y = -1 ∨ bd y 199) (farO_bd W hf) (fun j b _ hj hb => ?_)
  unfold smS
  by_cases q : b8 S j = 1
  · rw [if_pos q]; exact minS_bd hb (siteD_bd W hf (by omega))
  · rw [if_neg q]; exact hb
theorem farV_bd (W : WV σ) {S : Nat} : bd (farV σ S) 1000000 := by
  have hF := W.1.f
  have : bd (farV σ S) (99 * 198 * (0 + cn σ 26) + 1) := by
    unfold farV
    refine itr_inv (fun j y => bd y (99 * 198 * j + 1)) ⟨0, by omega, lt0⟩ (fun j b _ hj hb => ?_)
    unfold acS
    by_cases q : nearV σ S j = -1
    · rw [if_pos q]; exact bd_mono hb (by omega)
    · rw [if_neg q]
      obtain ⟨k, hk, rfl⟩ := hb
      obtain ⟨a, ha, ea⟩ := wv30 W (j := j) (by omega)
      rcases nearV_bd W (S := S) (f := j) (by omega) with q' | ⟨d, hd, ed⟩
      · exact absurd q' q
      · rw [ea, ed, nI_mul, nI_add]
        refine ⟨_, ?_, rfl⟩
        have : a * d ≤ 99 * 198 := Nat.mul_le_mul (by omega) (by omega)
        omega
  exact bd_mono this (by omega)
theorem farV_ne (W : WV σ) {S : Nat} : ¬ farV σ S = -1 := by
  obtain ⟨k, hk, e⟩ := farV_bd W (S := S)
  rw [e]
  exact nI_neg (by omega)
theorem c_gatherGD (C : CS h σ tr u) (W : WV σ) (hN : 1000 < N) : ∃ h', f_X11_gatherGaugeDistances h N 1 = some h' ∧ SCR h h' ∧ ∀ f, f < cn σ 26 → ai h' 29 f = farO σ f 15 := by
  have hF := W.1.f
  unfold f_X11_gatherGaugeDistances
  rw [if_pos (kk1 C)]
  refine (lpS (σ := AH) (α := Unit) (fun n i h _ => f_X11_gatherGaugeDistances_b2 N n h 1 (nI i)) (fun _ a => a) (cn σ 26) (fun h' _ => some h') (fun i h' _ => SCR h h' ∧ ∀ f, f < i → ai h' 29 f = farO σ f 15) ?_ ?_ (cn σ 26) N 0 h () (by omega) (by omega) ⟨SCR.refl, fun w hw => absurd hw (by omega)⟩).elim (fun h' e => ⟨h', e.1, e.2.1, e.2.2⟩)
  · intro n h' _ ⟨S, _⟩
    have C' := C.scr S
    simp (disch := omega) only [f_X11_gatherGaugeDistances_b2, f_X11_gatherGaugeDistances_b2_body, obs, b10, b01, bm, if_true_, if_false_, eq_self, not_true_eq_false, not_false_eq_true, true_or, or_true, or_false, false_or, and_true, true_and, and_false, false_and, or_self, and_self, Bool.false_eq_true, ite_self, n25, n20, n24, n100, kr1_2 C', kz12 C', hF.1, nI_leI, Nat.le_refl]
  · intro n i h' _ hi ⟨S, hw⟩
    have C' := C.scr S
    have hn : ¬ cn σ 26 ≤ i := by omega
    have e2 := c_distG (N := N) (s := 15) C' W hi (by omega)
    have x1 : xis h' 29 (nI i) (farO σ i 15) = some (sai h' 29 i (farO σ i 15)) := xis_of (kk29 C') (kl C' (by decide)) (show i < 24 by omega) (by decide)
    refine ⟨sai h' 29 i (farO σ i 15), ?_, S.trans (SCR.w (by omega) (by omega)), ?_⟩
    · simp (disch := omega) only [f_X11_gatherGaugeDistances_b2, f_X11_gatherGaugeDistances_b2_body, obs, b10, b01, bm, if_true_, if_false_, eq_self, not_true_eq_false, not_false_eq_true, true_or, or_true, or_false, false_or, and_true, true_and, and_false, false_and, or_self, and_self, Bool.false_eq_true, ite_self, n25, n20, n24, n100, kr1_2 C', kr1_19 C', kz12 C', hF.1, nI_leI, hn, kg12 C' W.1, kc300 C', e2, x1, nI_1]
    · intro f hf
      rw [ai_sai]
      by_cases ef : f = i
      · rw [if_pos ⟨rfl, ef⟩, ef]
      · rw [if_neg (fun z => ef z.2)]; exact hw f (by omega)
theorem c_farI (C : CS h σ tr u) (W : WV σ) {M f : Nat} (hM : M < 256) (hf : f < cn σ 26) (hN : 100 < N) (K : Nat → Int32 → Int32 → Int32 → Option Int32) {acc y : Int32} : f_X11_farFor_b39 h N K N 1 (nI M) acc (nI f) (300 + f) y 0 = (if itr (smS σ f (mir M)) 0 (cn σ 46) y = -1 then K 1 (nI M) acc (nI f + 1) else K 1 (nI M) (acc + σ.2 30 f * itr (smS σ f (mir M)) 0 (cn σ 46) y) (nI f + 1)) := by
  have hG := W.1.s
  refine lpB (fun n i y => f_X11_farFor_b39 h N K n 1 (nI M) acc (nI f) (300 + f) y (nI i)) (smS σ f (mir M)) (cn σ 46) (fun y => if y = -1 then K 1 (nI M) acc (nI f + 1) else K 1 (nI M) (acc + σ.2 30 f * y) (nI f + 1)) ?_ ?_ (m := cn σ 46) (N := N) (i := 0) (a := y) (by omega) (by omega)
  · intro n y
    by_cases q : y = -1
    · simp (disch := omega) only [f_X11_farFor_b39, f_X11_farFor_b39_body, f_X11_farFor_b148, obs, b10, b01, bm, if_true_, if_false_, eq_self, not_true_eq_false, not_false_eq_true, true_or, or_true, or_false, false_or, and_true, true_and, and_false, false_and, or_self, and_self, Bool.false_eq_true, ite_self, n25, n20, n24, n100, kr1_3 C, kz13 C, hG.1, nI_leI, Nat.le_refl, q]
    · simp (disch := omega) only [f_X11_farFor_b39, f_X11_farFor_b39_body, f_X11_farFor_b148, obs, b10, b01, bm, if_true_, if_false_, eq_self, not_true_eq_false, not_false_eq_true, true_or, or_true, or_false, false_or, and_true, true_and, and_false, false_and, or_self, and_self, Bool.false_eq_true, ite_self, n25, n20, n24, n100, kr1_3 C, kz13 C, hG.1, nI_leI, Nat.le_refl, q, kf300_3 C]
  · intro n i y hi
    have hn : ¬ cn σ 46 ≤ i := by omega
    have hs := c_hasSite (h := h) (S := M) (i := i) hM (by omega)
    by_cases q0 : b8 (mir M) i = 1
    · by_cases q : y = -1
      · simp (disch := omega) only [f_X11_farFor_b39, f_X11_farFor_b39_body, f_X11_farFor_b121, f_X11_farFor_b125, obs, b10, b01, bm, if_true_, if_false_, eq_self, not_true_eq_false, not_false_eq_true, true_or, or_true, or_false, false_or, and_true, true_and, and_false, false_and, or_self, and_self, Bool.false_eq_true, ite_self, n25, n20, n24, n100, kr1_3 C, kz13 C, hG.1, nI_leI, hn, hs, q0, q, kf300_1 C, kf300_2 C, kg13 C W.1, kc210 C, kf210_0 C, kf210_1 C, c_distance, smS, minS, siteD, nI_1]
      · by_cases q2 : y ≤ dst (σ.2 27 f) (σ.2 28 f) (σ.2 47 i) (σ.2 48 i)
        · simp (disch := omega) only [f_X11_farFor_b39, f_X11_farFor_b39_body, f_X11_farFor_b121, f_X11_farFor_b125, obs, b10, b01, bm, if_true_, if_false_, eq_self, not_true_eq_false, not_false_eq_true, true_or, or_true, or_false, false_or, and_true, true_and, and_false, false_and, or_self, and_self, Bool.false_eq_true, ite_self, n25, n20, n24, n100, kr1_3 C, kz13 C, hG.1, nI_leI, hn, hs, q0, q, q2, kf300_1 C, kf300_2 C, kg13 C W.1, kc210 C, kf210_0 C, kf210_1 C, c_distance, smS, minS, siteD, nI_1]
        · simp (disch := omega) only [f_X11_farFor_b39, f_X11_farFor_b39_body, f_X11_farFor_b121, f_X11_farFor_b125, obs, b10, b01, bm, if_true_, if_false_, eq_self, not_true_eq_false, not_false_eq_true, true_or, or_true, or_false, false_or, and_true, true_and, and_false, false_and, or_self, and_self, Bool.false_eq_true, ite_self, n25, n20, n24, n100, kr1_3 C, kz13 C, hG.1, nI_leI, hn, hs, q0, q, q2, kf300_1 C, kf300_2 C, kg13 C W.1, kc210 C, kf210_0 C, kf210_1 C, c_distance, smS, minS, siteD, nI_1]
    · simp (disch := omega) only [f_X11_farFor_b39, f_X11_farFor_b39_body, f_X11_farFor_b121, f_X11_farFor_b125, obs, b10, b01, bm, if_true_, if_false_, eq_self, not_true_eq_false, not_false_eq_true, true_or, or_true, or_false, false_or, and_true, true_and, and_false, false_and, or_self, and_self, Bool.false_eq_true, ite_self, n25, n20, n24, n100, kr1_3 C, kz13 C, hG.1, nI_leI, hn, hs, q0, smS, nI_1]
theorem c_farFor (C : CS h σ tr u) (W : WV σ) {M : Nat} (hM : M < 256) (hr : ∀ f, f < cn σ 26 → ai h 29 f = farO σ f 15) (hN : 100 < N) : f_X11_farFor h N 1 (nI M) = some (farV σ (mir M)) := by
  have hF := W.1.f
  unfold f_X11_farFor
  rw [if_pos (kk1 C)]
  refine lpB (fun n i y => f_X11_farFor_b4 h N n 1 (nI M) y (nI i)) (acS σ (mir M)) (cn σ 26) (fun y => some y) ?_ ?_ (m := cn σ 26) (N := N) (i := 0) (a := 0) (by omega) (by omega)
  · intro n y
    simp (disch := omega) only [f_X11_farFor_b4, f_X11_farFor_b4_body, obs, b10, b01, bm, if_true_, if_false_, eq_self, not_true_eq_false, not_false_eq_true, true_or, or_true, or_false, false_or, and_true, true_and, and_false, false_and, or_self, and_self, Bool.false_eq_true, ite_self, n25, n20, n24, n100, kr1_2 C, kz12 C, hF.1, nI_leI, Nat.le_refl]
  · intro n i y hi
    have hn : ¬ cn σ 26 ≤ i := by omega
    have x1 : xia h 29 (nI i) = some (farO σ i 15) := xia_of (kk29 C) (kl C (by decide)) (show i < 24 by omega) (by decide) (hr i hi)
    have e := c_farI (N := N) C W hM hi hN (f_X11_farFor_b4 h N n) (acc := y) (y := farO σ i 15)
    have e' : f_X11_farFor_b39 h N (f_X11_farFor_b4 h N n) N 1 (nI M) y (nI i) (300 + i) (farO σ i 15) 0 = (if nearV σ (mir M) i = -1 then f_X11_farFor_b4 h N n 1 (nI M) y (nI i + 1) else f_X11_farFor_b4 h N n 1 (nI M) (y + σ.2 30 i * nearV σ (mir M) i) (nI i + 1)) := e
    by_cases q : nearV σ (mir M) i = -1
    · rw [if_pos q] at e'
      simp (disch := omega) only [f_X11_farFor_b4, f_X11_farFor_b4_body, obs, b10, b01, bm, if_true_, if_false_, eq_self, not_true_eq_false, not_false_eq_true, true_or, or_true, or_false, false_or, and_true, true_and, and_false, false_and, or_self, and_self, Bool.false_eq_true, ite_self, n25, n20, n24, n100, kr1_2 C, kz12 C, hF.1, nI_leI, hn, kg12 C W.1, kc300 C, kr1_19 C, x1, e', acS, q, nI_1]
    · rw [if_neg q] at e'
      simp (disch := omega) only [f_X11_farFor_b4, f_X11_farFor_b4_body, obs, b10, b01, bm, if_true_, if_false_, eq_self, not_true_eq_false, not_false_eq_true, true_or, or_true, or_false, false_or, and_true, true_and, and_false, false_and, or_self, and_self, Bool.false_eq_true, ite_self, n25, n20, n24, n100, kr1_2 C, kz12 C, hF.1, nI_leI, hn, kg12 C W.1, kc300 C, kr1_19 C, x1, e', acS, q, nI_1]
theorem r_farS (H : RS h σ) (W : WV σ) {S f : Nat} (hS : S < 256) (hf : f < cn σ 26) (hN : 100 < N) (K : Nat → Int32 → Int32 → Int32 → Option Int32) {acc y : Int32} : f_X12_far_b90 h N K N 100 (nI S) acc (nI f) y 0 = (if itr (smS σ f S) 0 (cn σ 46) y = -1 then K 100 (nI S) acc (nI f + 1) else K 100 (nI S) (acc + σ.2 30 f * itr (smS σ f S) 0 (cn σ 46) y) (nI f + 1)) := by
  have hG := W.1.s
  have hF := W.1.f
  refine lpB (fun n i y => f_X12_far_b90 h N K n 100 (nI S) acc (nI f) y (nI i)) (smS σ f S) (cn σ 46) (fun y => if y = -1 then K 100 (nI S) acc (nI f + 1) else K 100 (nI S) (acc + σ.2 30 f * y) (nI f + 1)) ?_ ?_ (m := cn σ 46) (N := N) (i := 0) (a := y) (by omega) (by omega)
  · intro n y
    by_cases q : y = -1
    · simp (disch := omega) only [f_X12_far_b90, f_X12_far_b90_body, f_X12_far_b178, obs, b10, b01, bm, if_true_, if_false_, eq_self, not_true_eq_false, not_false_eq_true, true_or, or_true, or_false, false_or, and_true, true_and, and_false, false_and, or_self, and_self, Bool.false_eq_true, ite_self, n25, n20, n24, n100, RS.gi H, hG.1, nI_leI, Nat.le_refl, q, Int32.add_zero]
    · simp (disch := omega) only [f_X12_far_b90, f_X12_far_b90_body, f_X12_far_b178, obs, b10, b01, bm, if_true_, if_false_, eq_self, not_true_eq_false, not_false_eq_true, true_or, or_true, or_false, false_or, and_true, true_and, and_false, false_and, or_self, and_self, Bool.false_eq_true, ite_self, n25, n20, n24, n100, RS.gi H, hG.1, nI_leI, Nat.le_refl, q, rg30 H, ra30 H]
  · intro n i y hi
    have hn : ¬ cn σ 46 ≤ i := by omega
    have l1 := @b8_lt S i
    have e1 : nI (b8 S i) = 1 ↔ b8 S i = 1 := by rw [show (1 : Int32) = nI 1 by decide, nI_eq (by omega) (by omega)]
    by_cases q0 : b8 S i = 1
    · have e1' : (nI 1 = (1 : Int32)) = True := eq_true (by decide)
      by_cases q : y = -1
      · simp (disch := omega) only [f_X12_far_b90, f_X12_far_b90_body, f_X12_far_b143, f_X12_far_b148, f_X12_far_b150, obs, b10, b01, bm, if_true_, if_false_, eq_self, not_true_eq_false, not_false_eq_true, true_or, or_true, or_false, false_or, and_true, true_and, and_false, false_and, or_self, and_self, Bool.false_eq_true, ite_self, n25, n20, n24, n100, RS.gi H, hG.1, nI_leI, hn, rg47 H, ra47 H, rg48 H, ra48 H, r_farFrom H, shB hS, e1', q0, q, smS, minS, siteD, nI_1]
      · by_cases q2 : y ≤ dst (σ.2 27 f) (σ.2 28 f) (σ.2 47 i) (σ.2 48 i)
        · simp (disch := omega) only [f_X12_far_b90, f_X12_far_b90_body, f_X12_far_b143, f_X12_far_b148, f_X12_far_b150, obs, b10, b01, bm, if_true_, if_false_, eq_self, not_true_eq_false, not_false_eq_true, true_or, or_true, or_false, false_or, and_true, true_and, and_false, false_and, or_self, and_self, Bool.false_eq_true, ite_self, n25, n20, n24, n100, RS.gi H, hG.1, nI_leI, hn, rg47 H, ra47 H, rg48 H, ra48 H, r_farFrom H, shB hS, e1', q0, q, q2, smS, minS, siteD, nI_1]
        · simp (disch := omega) only [f_X12_far_b90, f_X12_far_b90_body, f_X12_far_b143, f_X12_far_b148, f_X12_far_b150, obs, b10, b01, bm, if_true_, if_false_, eq_self, not_true_eq_false, not_false_eq_true, true_or, or_true, or_false, false_or, and_true, true_and, and_false, false_and, or_self, and_self, Bool.false_eq_true, ite_self, n25, n20, n24, n100, RS.gi H, hG.1, nI_leI, hn, rg47 H, ra47 H, rg48 H, ra48 H, r_farFrom H, shB hS, e1', q0, q, q2, smS, minS, siteD, nI_1]
    · have e1' : (nI (b8 S i) = 1) = False := eq_false (fun z => q0 (e1.mp z))
      simp (disch := omega) only [f_X12_far_b90, f_X12_far_b90_body, f_X12_far_b143, f_X12_far_b148, f_X12_far_b150, obs, b10, b01, bm, if_true_, if_false_, eq_self, not_true_eq_false, not_false_eq_true, true_or, or_true, or_false, false_or, and_true, true_and, and_false, false_and, or_self, and_self, Bool.false_eq_true, ite_self, n25, n20, n24, n100, RS.gi H, hG.1, nI_leI, hn, rg47 H, ra47 H, rg48 H, ra48 H, r_farFrom H, shB hS, e1', q0, smS, nI_1]
theorem fO_step (W : WV σ) {f i : Nat} {o : Option Nat} (hf : f < cn σ 26) (ho : ∀ b, o = some b → b < cn σ 0) : fO σ f (ggS σ f 15 i o) = (if (15 : Int32) < σ.2 3 i ∨ σ.2 4 i ≤ 15 then fO σ f o else minS (fO σ f o) (farD σ f i)) := by
  unfold ggS
  by_cases q : (15 : Int32) < σ.2 3 i ∨ σ.2 4 i ≤ 15
  · rw [if_neg (fun z => z.1 q), if_pos q]
  · rw [if_neg q]
    rcases o with _ | b
    · rw [if_pos ⟨q, rfl⟩]; rfl
    · obtain ⟨d, hd, ed⟩ := farD_bd W hf (ho b rfl)
      have nb : ¬ farD σ f b = -1 := by rw [ed]; exact nI_neg (by omega)
      show _ = minS (farD σ f b) (farD σ f i)
      unfold minS
      rw [if_neg nb]
      by_cases q2 : farD σ f b ≤ farD σ f i
      · rw [if_pos q2, if_neg (fun z => by have := z.2; simp [bt, q2] at this)]
        rfl
      · rw [if_neg q2, if_pos ⟨q, by simp [bt, q2]⟩]
        rfl
theorem r_farG (H : RS h σ) (W : WV σ) {S f : Nat} (hf : f < cn σ 26) (hN : 100 < N) (K : Nat → Int32 → Int32 → Int32 → Option Int32) {acc : Int32} : f_X12_far_b18 h N K N 100 (nI S) acc (nI f) (-1) 0 = f_X12_far_b90 h N K N 100 (nI S) acc (nI f) (farO σ f 15) 0 := by
  have hG := W.1.g
  have hF := W.1.f
  refine (lpA (fun n i o => f_X12_far_b18 h N K n 100 (nI S) acc (nI f) (fO σ f o) (nI i)) (ggS σ f 15) (cn σ 0) (fun o => f_X12_far_b90 h N K N 100 (nI S) acc (nI f) (fO σ f o) 0) (fun i o => ∀ b, o = some b → b < i) ?_ ?_ (cn σ 0) N 0 none (by omega) (by omega) (by simp)).1
  · intro n o _
    simp (disch := omega) only [f_X12_far_b18, f_X12_far_b18_body, obs, b10, b01, bm, if_true_, if_false_, eq_self, not_true_eq_false, not_false_eq_true, true_or, or_true, or_false, false_or, and_true, true_and, and_false, false_and, or_self, and_self, Bool.false_eq_true, ite_self, n25, n20, n24, n100, RS.gi H, hG.1, nI_leI, Nat.le_refl]
  · intro n i o hi ho
    have hn : ¬ cn σ 0 ≤ i := by omega
    refine ⟨?_, ?_⟩
    · rw [fO_step W hf (fun b hb => by have := ho b hb; omega)]
      by_cases q : (15 : Int32) < σ.2 3 i ∨ σ.2 4 i ≤ 15
      · simp (disch := omega) only [f_X12_far_b18, f_X12_far_b18_body, f_X12_far_b72, f_X12_far_b77, f_X12_far_b79, obs, b10, b01, bm, if_true_, if_false_, eq_self, not_true_eq_false, not_false_eq_true, true_or, or_true, or_false, false_or, and_true, true_and, and_false, false_and, or_self, and_self, Bool.false_eq_true, ite_self, n25, n20, n24, n100, RS.gi H, hG.1, nI_leI, hn, rg1 H, ra1 H, rg2 H, ra2 H, r_farFrom H, r_stands H, q, nI_1]
      · by_cases q1 : fO σ f o = -1
        · simp (disch := omega) only [f_X12_far_b18, f_X12_far_b18_body, f_X12_far_b72, f_X12_far_b77, f_X12_far_b79, obs, b10, b01, bm, if_true_, if_false_, eq_self, not_true_eq_false, not_false_eq_true, true_or, or_true, or_false, false_or, and_true, true_and, and_false, false_and, or_self, and_self, Bool.false_eq_true, ite_self, n25, n20, n24, n100, RS.gi H, hG.1, nI_leI, hn, rg1 H, ra1 H, rg2 H, ra2 H, r_farFrom H, r_stands H, q, q1, minS, farD, nI_1]
        · by_cases q2 : fO σ f o ≤ farD σ f i <;> simp only [farD] at q2 <;> simp (disch := omega) only [f_X12_far_b18, f_X12_far_b18_body, f_X12_far_b72, f_X12_far_b77, f_X12_far_b79, obs, b10, b01, bm, if_true_, if_false_, eq_self, not_true_eq_false, not_false_eq_true, true_or, or_true, or_false, false_or, and_true, true_and, and_false, false_and, or_self, and_self, Bool.false_eq_true, ite_self, n25, n20, n24, n100, RS.gi H, hG.1, nI_leI, hn, rg1 H, ra1 H, rg2 H, ra2 H, r_farFrom H, r_stands H, q, q1, q2, minS, farD, nI_1]
    · intro b hb
      unfold ggS at hb
      split at hb
      · cases hb; omega
      · have := ho b hb; omega
theorem r_far (H : RS h σ) (W : WV σ) {S : Nat} (hS : S < 256) (hN : 100 < N) : f_X12_far h N 100 (nI S) = some (farV σ S) := by
  have hF := W.1.f
  unfold f_X12_far
  rw [if_pos H.1]
  refine lpB (fun n i y => f_X12_far_b4 h N n 100 (nI S) y (nI i)) (acS σ S) (cn σ 26) (fun y => some y) ?_ ?_ (m := cn σ 26) (N := N) (i := 0) (a := 0) (by omega) (by omega)
  · intro n y
    simp (disch := omega) only [f_X12_far_b4, f_X12_far_b4_body, obs, b10, b01, bm, if_true_, if_false_, eq_self, not_true_eq_false, not_false_eq_true, true_or, or_true, or_false, false_or, and_true, true_and, and_false, false_and, or_self, and_self, Bool.false_eq_true, ite_self, n25, n20, n24, n100, RS.gi H, hF.1, nI_leI, Nat.le_refl]
  · intro n i y hi
    have hn : ¬ cn σ 26 ≤ i := by omega
    have e := r_farS (N := N) H W hS hi hN (f_X12_far_b4 h N n) (acc := y) (y := farO σ i 15)
    have e' : f_X12_far_b90 h N (f_X12_far_b4 h N n) N 100 (nI S) y (nI i) (farO σ i 15) 0 = (if nearV σ S i = -1 then f_X12_far_b4 h N n 100 (nI S) y (nI i + 1) else f_X12_far_b4 h N n 100 (nI S) (y + σ.2 30 i * nearV σ S i) (nI i + 1)) := e
    have eg := r_farG (N := N) (S := S) H W hi hN (f_X12_far_b4 h N n) (acc := y)
    by_cases q : nearV σ S i = -1
    · rw [if_pos q] at e'
      simp (disch := omega) only [f_X12_far_b4, f_X12_far_b4_body, obs, b10, b01, bm, if_true_, if_false_, eq_self, not_true_eq_false, not_false_eq_true, true_or, or_true, or_false, false_or, and_true, true_and, and_false, false_and, or_self, and_self, Bool.false_eq_true, ite_self, n25, n20, n24, n100, RS.gi H, hF.1, nI_leI, hn, eg, e', acS, q, nI_1]
    · rw [if_neg q] at e'
      simp (disch := omega) only [f_X12_far_b4, f_X12_far_b4_body, obs, b10, b01, bm, if_true_, if_false_, eq_self, not_true_eq_false, not_false_eq_true, true_or, or_true, or_false, false_or, and_true, true_and, and_false, false_and, or_self, and_self, Bool.false_eq_true, ite_self, n25, n20, n24, n100, RS.gi H, hF.1, nI_leI, hn, eg, e', acS, q, nI_1]
/-- a set may stand: among the sites, of the size -/
def cand (k p S : Nat) : Bool := decide (S < 2 ^ k) && decide (pop8 S = p)
def BST (c : Nat → Bool) (v : Nat → Int32) (P : Nat → Prop) (B : Nat) : Prop := B < 256 ∧ c B = true ∧ P B ∧ ∀ S, S < 256 → c S = true → P S → (v B < v S ∨ (v B = v S ∧ mir S ≤ mir B))
def clB (c : Nat → Bool) (v : Nat → Int32) (i : Nat) (y : Int32 × Int32) : Int32 × Int32 := if c (mir (255 - i)) = true then (if y.2 = -1 then (nI (255 - i), v (mir (255 - i))) else if y.2 ≤ v (mir (255 - i)) then y else (nI (255 - i), v (mir (255 - i)))) else y
def rfB (c : Nat → Bool) (v : Nat → Int32) (S : Nat) (y : Int32 × Int32) : Int32 × Int32 := if c S = true then (if y.1 = -1 then (nI S, v S) else if v S < y.2 then (nI S, v S) else if v S = y.2 then (if y.1.toNatClampNeg < 256 ∧ mir y.1.toNatClampNeg < mir S then (nI S, v S) else y) else y) else y
def CI (c : Nat → Bool) (v : Nat → Int32) (i : Nat) (y : Int32 × Int32) : Prop := (y.2 = -1 ∧ ∀ S, S < 256 → c S = true → mir S < 256 - i) ∨ ∃ B, y = (nI (mir B), v B) ∧ BST c v (fun S => 256 - i ≤ mir S) B
def RI (c : Nat → Bool) (v : Nat → Int32) (j : Nat) (y : Int32 × Int32) : Prop := (y.1 = -1 ∧ ∀ S, S < j → c S = false) ∨ ∃ B, y = (nI B, v B) ∧ BST c v (fun S => S < j) B
variable {c : Nat → Bool} {v : Nat → Int32}
theorem CI.step {i : Nat} {y : Int32 × Int32} (hv : ∀ S, ¬ v S = -1) (hi : i < 256) (I : CI c v i y) : CI c v (i + 1) (clB c v i y) := by
  have m1 : mir (mir (255 - i)) = 255 - i := mir_mir (by omega)
  have ml : mir (255 - i) < 256 := mir_lt
  have hS : ∀ S, S < 256 → 256 - (i + 1) ≤ mir S → 256 - i ≤ mir S ∨ S = mir (255 - i) := by
    intro S h1 h2
    by_cases q : mir S = 255 - i
    · right; rw [← q, mir_mir h1]
    · left; omega
  unfold clB
  by_cases q : c (mir (255 - i)) = true
  · rw [if_pos q]
    rcases I with ⟨e1, e2⟩ | ⟨B, e, b1, b2, b3, b4⟩
    · rw [if_pos e1]
      refine Or.inr ⟨mir (255 - i), by rw [m1], ml, q, by omega, fun S h1 h2 h3 => ?_⟩
      rcases hS S h1 h3 with z | z
      · have := e2 S h1 h2; omega
      · right; rw [z]; exact ⟨rfl, Nat.le_refl _⟩
    · subst e
      rw [if_neg (hv B)]
      by_cases q2 : v B ≤ v (mir (255 - i))
      · rw [if_pos q2]
        refine Or.inr ⟨B, rfl, b1, b2, by omega, fun S h1 h2 h3 => ?_⟩
        rcases hS S h1 h3 with z | z
        · exact b4 S h1 h2 z
        · rw [z, m1]
          by_cases q3 : v B = v (mir (255 - i))
          · right; exact ⟨q3, by omega⟩
          · left
            rcases Int32.lt_or_eq_of_le q2 with z | z
            · exact z
            · exact absurd z q3
      · rw [if_neg q2]
        refine Or.inr ⟨mir (255 - i), by rw [m1], ml, q, by omega, fun S h1 h2 h3 => ?_⟩
        have lt := Int32.not_le.mp q2
        rcases hS S h1 h3 with z | z
        · rcases b4 S h1 h2 z with w | w
          · left; exact Int32.lt_trans lt w
          · left; rw [← w.1]; exact lt
        · right; rw [z]; exact ⟨rfl, Nat.le_refl _⟩
  · rw [if_neg q]
    rcases I with ⟨e1, e2⟩ | ⟨B, e, b1, b2, b3, b4⟩
    · refine Or.inl ⟨e1, fun S h1 h2 => ?_⟩
      have := e2 S h1 h2
      by_cases z : mir S = 255 - i
      · exfalso; apply q; rw [← z, mir_mir h1]; exact h2
      · omega
    · refine Or.inr ⟨B, e, b1, b2, by omega, fun S h1 h2 h3 => ?_⟩
      rcases hS S h1 h3 with z | z
      · exact b4 S h1 h2 z
      · exfalso; apply q; rw [← z]; exact h2
theorem RI.step {j : Nat} {y : Int32 × Int32} (hj : j < 256) (I : RI c v j y) : RI c v (j + 1) (rfB c v j y) := by
  have hS : ∀ S, S < j + 1 → S < j ∨ S = j := fun S h => by omega
  unfold rfB
  by_cases q : c j = true
  · rw [if_pos q]
    rcases I with ⟨e1, e2⟩ | ⟨B, e, b1, b2, b3, b4⟩
    · rw [if_pos e1]
      refine Or.inr ⟨j, rfl, hj, q, by omega, fun S h1 h2 h3 => ?_⟩
      rcases hS S h3 with z | z
      · rw [e2 S z] at h2; cases h2
      · right; rw [z]; exact ⟨rfl, Nat.le_refl _⟩
    · subst e
      have b3' : B < j := b3
      have cl : (nI B).toNatClampNeg = B := nI_clamp (by omega)
      rw [if_neg (nI_neg (by omega))]
      show RI c v (j + 1) (if v j < v B then (nI j, v j) else if v j = v B then (if (nI B).toNatClampNeg < 256 ∧ mir (nI B).toNatClampNeg < mir j then (nI j, v j) else (nI B, v B)) else (nI B, v B))
      rw [cl]
      by_cases q2 : v j < v B
      · rw [if_pos q2]
        refine Or.inr ⟨j, rfl, hj, q, by omega, fun S h1 h2 h3 => ?_⟩
        rcases hS S h3 with z | z
        · rcases b4 S h1 h2 z with w | w
          · left; exact Int32.lt_trans q2 w
          · left; rw [← w.1]; exact q2
        · right; rw [z]; exact ⟨rfl, Nat.le_refl _⟩
      · rw [if_neg q2]
        by_cases q3 : v j = v B
        · rw [if_pos q3]
          by_cases q4 : mir B < mir j
          · rw [if_pos ⟨b1, q4⟩]
            refine Or.inr ⟨j, rfl, hj, q, by omega, fun S h1 h2 h3 => ?_⟩
            rcases hS S h3 with z | z
            · rcases b4 S h1 h2 z with w | w
              · left; rw [q3]; exact w
              · right; rw [q3]; exact ⟨w.1, by omega⟩
            · right; rw [z]; exact ⟨rfl, Nat.le_refl _⟩
          · rw [if_neg (fun z => q4 z.2)]
            refine Or.inr ⟨B, rfl, b1, b2, by omega, fun S h1 h2 h3 => ?_⟩
            rcases hS S h3 with z | z
            · exact b4 S h1 h2 z
            · right; rw [z]; exact ⟨q3.symm, by omega⟩
        · rw [if_neg q3]
          refine Or.inr ⟨B, rfl, b1, b2, by omega, fun S h1 h2 h3 => ?_⟩
          rcases hS S h3 with z | z
          · exact b4 S h1 h2 z
          · left; rw [z]
            rcases Int32.lt_or_eq_of_le (Int32.not_lt.mp q2) with w | w
            · exact w
            · exact absurd w.symm q3
  · rw [if_neg q]
    have q' : c j = false := by
      rcases e : c j
      · rfl
      · exact absurd e q
    rcases I with ⟨e1, e2⟩ | ⟨B, e, b1, b2, b3, b4⟩
    · refine Or.inl ⟨e1, fun S h1 => ?_⟩
      rcases hS S h1 with z | z
      · exact e2 S z
      · rw [z]; exact q'
    · have b3' : B < j := b3
      refine Or.inr ⟨B, e, b1, b2, by omega, fun S h1 h2 h3 => ?_⟩
      rcases hS S h3 with z | z
      · exact b4 S h1 h2 z
      · exfalso; apply q; rw [← z]; exact h2
theorem BST.uniq {P Q : Nat → Prop} {A B : Nat} (a : BST c v P A) (b : BST c v Q B) (pq : ∀ S, S < 256 → c S = true → P S ∧ Q S) : A = B := by
  obtain ⟨a1, a2, -, a4⟩ := a
  obtain ⟨b1, b2, -, b4⟩ := b
  apply mir_inj a1 b1
  rcases a4 B b1 b2 (pq B b1 b2).1 with x | x <;> rcases b4 A a1 a2 (pq A a1 a2).2 with z | z
  · exact (Int32.lt_irrefl (Int32.lt_trans x z)).elim
  · rw [z.1] at x; exact (Int32.lt_irrefl x).elim
  · rw [x.1] at z; exact (Int32.lt_irrefl z).elim
  · omega
theorem c_bestL (C : CS h σ tr u) (W : WV σ) {p : Nat} {q : Int32} (hp : p < 5) (hr : ∀ f, f < cn σ 26 → ai h 29 f = farO σ f 15) (hN : 1000 < N) : ∃ y, f_X11_best_b62 N N h 1 (nI p) q ((1 <<< ((8 - nI (cn σ 46)) &&& 31)) - 1) 0 (-1) 255 = (if q = 0 then some (y.2, h) else (f_X11_memberOf h N y.1 (q - 1)).bind fun v13 => some (v13, h)) ∧ CI (cand (cn σ 46) p) (farV σ) 256 y := by
  have hK := W.1.s
  have e := lpA (fun n i (y : Int32 × Int32) => f_X11_best_b62 N n h 1 (nI p) q ((1 <<< ((8 - nI (cn σ 46)) &&& 31)) - 1) y.1 y.2 (Y255 i)) (clB (cand (cn σ 46) p) (farV σ)) 256 (fun y => if q = 0 then some (y.2, h) else (f_X11_memberOf h N y.1 (q - 1)).bind fun v13 => some (v13, h)) (CI (cand (cn σ 46) p) (farV σ)) ?_ ?_ 256 N 0 (0, -1) (by omega) (by omega) (Or.inl ⟨rfl, fun S h1 _ => mir_lt⟩)
  · exact ⟨_, e.1, e.2⟩
  · intro n y _
    show f_X11_best_b62_body N (f_X11_best_b62 N n) h 1 (nI p) q ((1 <<< ((8 - nI (cn σ 46)) &&& 31)) - 1) y.1 y.2 (Y255 256) = _
    unfold f_X11_best_b62_body
    rw [if_pos (show Y255 256 < 0 by decide)]
  · intro n i y hi I
    refine ⟨?_, I.step (fun S => farV_ne W) hi⟩
    have eY : Y255 i = nI (255 - i) := if_pos hi
    have hM : 255 - i < 256 := by omega
    have ek := mkM (k := cn σ 46) (S := 255 - i) (by omega) hM
    show f_X11_best_b62_body N (f_X11_best_b62 N n) h 1 (nI p) q ((1 <<< ((8 - nI (cn σ 46)) &&& 31)) - 1) y.1 y.2 (Y255 i) = _
    unfold f_X11_best_b62_body f_X11_best_b107 f_X11_best_b115
    rw [eY, if_neg (nI_pos (by omega)), y255S hi]
    unfold clB cand
    by_cases q1 : mir (255 - i) < 2 ^ cn σ 46
    · rw [if_pos (ek.mpr q1), bcM hM, obs]
      have hpop : pop8 (mir (255 - i)) < 9 := by
        have := @b8_lt (mir (255 - i)) 0
        have := @b8_lt (mir (255 - i)) 1
        have := @b8_lt (mir (255 - i)) 2
        have := @b8_lt (mir (255 - i)) 3
        have := @b8_lt (mir (255 - i)) 4
        have := @b8_lt (mir (255 - i)) 5
        have := @b8_lt (mir (255 - i)) 6
        have := @b8_lt (mir (255 - i)) 7
        unfold pop8; omega
      by_cases q2 : pop8 (mir (255 - i)) = p
      · rw [if_pos (by rw [q2]), c_farFor C W hM hr (by omega), obs, if_pos (show (decide (mir (255 - i) < 2 ^ cn σ 46) && decide (pop8 (mir (255 - i)) = p)) = true by simp [q1, q2])]
        by_cases q3 : y.2 = -1
        · rw [if_pos q3, if_pos q3]
        · rw [if_neg q3, if_neg q3]
          by_cases q4 : y.2 ≤ farV σ (mir (255 - i))
          · rw [if_pos q4, if_pos q4]
          · rw [if_neg q4, if_neg q4]
      · rw [if_neg (by rw [nI_eq (by omega) (by omega)]; exact q2), if_neg (show ¬ (decide (mir (255 - i) < 2 ^ cn σ 46) && decide (pop8 (mir (255 - i)) = p)) = true by simp [q2])]
    · rw [if_neg (fun z => q1 (ek.mp z)), if_neg (show ¬ (decide (mir (255 - i) < 2 ^ cn σ 46) && decide (pop8 (mir (255 - i)) = p)) = true by simp [q1])]
theorem r_bestL (H : RS h σ) (W : WV σ) {p : Nat} {q : Int32} (hp : p < 5) (hN : 1000 < N) : ∃ y, f_X12_best_b37 h N N 100 (nI p) q (-1) 0 0 = (if q = 0 then some y.2 else f_X12_best_b119 h N N 100 y.1 q 0) ∧ RI (cand (cn σ 46) p) (farV σ) (2 ^ cn σ 46) y := by
  have hK := W.1.s
  have hpw : 2 ^ cn σ 46 ≤ 256 := pw_f ⟨cn σ 46, by omega⟩
  have e := lpA (fun n i (y : Int32 × Int32) => f_X12_best_b37 h N n 100 (nI p) q y.1 y.2 (nI i)) (rfB (cand (cn σ 46) p) (farV σ)) (2 ^ cn σ 46) (fun y => if q = 0 then some y.2 else f_X12_best_b119 h N N 100 y.1 q 0) (RI (cand (cn σ 46) p) (farV σ)) ?_ ?_ (2 ^ cn σ 46) N 0 (-1, 0) (by omega) (by omega) (Or.inl ⟨rfl, fun S h1 => absurd h1 (by omega)⟩)
  · exact ⟨_, e.1, e.2⟩
  · intro n y _
    show f_X12_best_b37_body h N (f_X12_best_b37 h N n) 100 (nI p) q y.1 y.2 (nI (2 ^ cn σ 46)) = _
    unfold f_X12_best_b37_body
    rw [RS.gi H, obs, hK.1, p2M (by omega), if_pos (Int32.le_refl _)]
  · intro n S y hi I
    refine ⟨?_, I.step (by omega)⟩
    show f_X12_best_b37_body h N (f_X12_best_b37 h N n) 100 (nI p) q y.1 y.2 (nI S) = _
    unfold f_X12_best_b37_body f_X12_best_b93 f_X12_best_b100
    have hS : S < 256 := by omega
    rw [RS.gi H, obs, hK.1, p2M (by omega), if_neg (by rw [nI_leI (by omega) (by omega)]; omega), r_bits hS (by omega), obs, nI_1]
    have hpop : pop8 S < 9 := by
      have := @b8_lt S 0
      have := @b8_lt S 1
      have := @b8_lt S 2
      have := @b8_lt S 3
      have := @b8_lt S 4
      have := @b8_lt S 5
      have := @b8_lt S 6
      have := @b8_lt S 7
      unfold pop8; omega
    unfold rfB cand
    by_cases q2 : pop8 S = p
    · rw [if_pos (by rw [q2]), r_far H W hS (by omega), obs, if_pos (show (decide (S < 2 ^ cn σ 46) && decide (pop8 S = p)) = true by simp [hi, q2])]
      by_cases q3 : y.1 = -1
      · rw [if_pos q3, if_pos q3]
      · rw [if_neg q3, if_neg q3]
        by_cases q4 : farV σ S < y.2
        · rw [if_pos q4, if_pos q4]
        · rw [if_neg q4, if_neg q4]
          by_cases q5 : farV σ S = y.2
          · rw [if_pos q5, if_pos q5]
            rcases I with ⟨e1, -⟩ | ⟨B, e, b1, b2, b3, b4⟩
            · exact absurd e1 q3
            · subst e
              have b3' : B < S := b3
              have cl : (nI B).toNatClampNeg = B := nI_clamp (by omega)
              have ea : f_X12_isAhead h N (nI S) (nI B) = some (if mir B < mir S then 1 else 0) := r_ahead (N := N) (h := h) hS b1 (by omega) 8 0 N (by omega) (by omega) (fun j hj => absurd hj (by omega))
              show (f_X12_isAhead h N (nI S) (nI B)).bind _ = _
              rw [ea, obs]
              show _ = f_X12_best_b37 h N n 100 (nI p) q (if (nI B).toNatClampNeg < 256 ∧ mir (nI B).toNatClampNeg < mir S then (nI S, farV σ S) else (nI B, farV σ B)).1 (if (nI B).toNatClampNeg < 256 ∧ mir (nI B).toNatClampNeg < mir S then (nI S, farV σ S) else (nI B, farV σ B)).2 (nI (S + 1))
              rw [cl]
              by_cases q6 : mir B < mir S
              · rw [if_pos q6, if_neg (by decide), if_pos ⟨b1, q6⟩]
              · rw [if_neg q6, if_pos rfl, if_neg (fun z => q6 z.2)]
          · rw [if_neg q5, if_neg q5]
    · rw [if_neg (by rw [nI_eq (by omega) (by omega)]; exact q2), if_neg (show ¬ (decide (S < 2 ^ cn σ 46) && decide (pop8 S = p)) = true by simp [q2])]
theorem pub_best {a b : Int32} (I : INV L xs h σ tr u n) (hN : 2000 < N) : ∃ v h1, f_X11_best h N 1 a b = some (v, h1) ∧ f_X12_best h1 N 100 a b = some v ∧ INV L xs h1 σ tr u n := by
  obtain ⟨C, H, W, X, S, U⟩ := id I
  have hK := W.1.s
  rcases okC a (n := 5) (by decide) with oa | ⟨oa, p, hp, rfl⟩
  · exact ⟨-5, h, by simp only [f_X11_best, obs, b10, b01, bm, if_true_, if_false_, eq_self, not_true_eq_false, not_false_eq_true, true_or, or_true, or_false, false_or, and_true, true_and, and_false, false_and, or_self, and_self, Bool.false_eq_true, ite_self, n25, n20, n24, n100, kk1 C, ci4, oa], by simp only [f_X12_best, obs, b10, b01, bm, if_true_, if_false_, eq_self, not_true_eq_false, not_false_eq_true, true_or, or_true, or_false, false_or, and_true, true_and, and_false, false_and, or_self, and_self, Bool.false_eq_true, ite_self, n25, n20, n24, n100, RS.kk H, ri4, oa], I⟩
  by_cases q0 : cn σ 46 < p
  · exact ⟨-5, h, by simp (disch := omega) only [f_X11_best, obs, b10, b01, bm, if_true_, if_false_, eq_self, not_true_eq_false, not_false_eq_true, true_or, or_true, or_false, false_or, and_true, true_and, and_false, false_and, or_self, and_self, Bool.false_eq_true, ite_self, n25, n20, n24, n100, kk1 C, ci4, oa, kr1_3 C, kz13 C, hK.1, nI_ltI, q0], by simp (disch := omega) only [f_X12_best, obs, b10, b01, bm, if_true_, if_false_, eq_self, not_true_eq_false, not_false_eq_true, true_or, or_true, or_false, false_or, and_true, true_and, and_false, false_and, or_self, and_self, Bool.false_eq_true, ite_self, n25, n20, n24, n100, RS.kk H, ri4, oa, RS.gi H, hK.1, nI_ltI, q0], I⟩
  rcases okC b (n := 5) (by decide) with ob | ⟨ob, q, hq, rfl⟩
  · exact ⟨-5, h, by simp (disch := omega) only [f_X11_best, obs, b10, b01, bm, if_true_, if_false_, eq_self, not_true_eq_false, not_false_eq_true, true_or, or_true, or_false, false_or, and_true, true_and, and_false, false_and, or_self, and_self, Bool.false_eq_true, ite_self, n25, n20, n24, n100, kk1 C, ci4, oa, kr1_3 C, kz13 C, hK.1, nI_ltI, q0, ob], by simp (disch := omega) only [f_X12_best, obs, b10, b01, bm, if_true_, if_false_, eq_self, not_true_eq_false, not_false_eq_true, true_or, or_true, or_false, false_or, and_true, true_and, and_false, false_and, or_self, and_self, Bool.false_eq_true, ite_self, n25, n20, n24, n100, RS.kk H, ri4, oa, RS.gi H, hK.1, nI_ltI, q0, ob], I⟩
  obtain ⟨h1, e1, S1, hr⟩ := c_gatherGD (N := N) C W (by omega)
  have I1 := I.scr S1
  have C1 := I1.1
  have H1 := I1.2.1
  obtain ⟨y, e2, i2⟩ := c_bestL (N := N) (p := p) (q := nI q) C1 W hp hr (by omega)
  obtain ⟨z, e3, i3⟩ := r_bestL (N := N) (p := p) (q := nI q) H1 W hp (by omega)
  have hpw : 2 ^ cn σ 46 ≤ 256 := pw_f ⟨cn σ 46, by omega⟩
  have hpp : 2 ^ p ≤ 2 ^ cn σ 46 := Nat.pow_le_pow_right (by omega) (by omega)
  have hp0 : 0 < 2 ^ p := Nat.pos_of_ne_zero (by simp)
  have hex : cand (cn σ 46) p (2 ^ p - 1) = true := by
    unfold cand
    have t1 : 2 ^ p - 1 < 2 ^ cn σ 46 := by omega
    have t2 : pop8 (2 ^ p - 1) = p := pp_f ⟨p, hp⟩
    simp [t1, t2]
  obtain ⟨B, eB, hB⟩ : ∃ B, y = (nI (mir B), farV σ B) ∧ BST (cand (cn σ 46) p) (farV σ) (fun S => 256 - 256 ≤ mir S) B := by
    rcases i2 with ⟨-, w⟩ | w
    · have := w (2 ^ p - 1) (by omega) hex; omega
    · exact w
  obtain ⟨A, eA, hA⟩ : ∃ A, z = (nI A, farV σ A) ∧ BST (cand (cn σ 46) p) (farV σ) (fun S => S < 2 ^ cn σ 46) A := by
    rcases i3 with ⟨-, w⟩ | w
    · have := w (2 ^ p - 1) (by omega)
      rw [hex] at this; cases this
    · exact w
  have hAB : B = A := hB.uniq hA (fun S h1 h2 => ⟨by omega, by
    unfold cand at h2
    simp at h2
    exact h2.1⟩)
  subst hAB
  subst eB
  subst eA
  have hB1 := hB.1
  have hB2 : B < 2 ^ cn σ 46 := hA.2.2.1
  have x1 : f_X11_best h N 1 (nI p) (nI q) = f_X11_best_b62 N N h1 1 (nI p) (nI q) ((1 <<< ((8 - nI (cn σ 46)) &&& 31)) - 1) 0 (-1) 255 := by
    simp (disch := omega) only [f_X11_best, obs, b10, b01, bm, if_true_, if_false_, eq_self, not_true_eq_false, not_false_eq_true, true_or, or_true, or_false, false_or, and_true, true_and, and_false, false_and, or_self, and_self, Bool.false_eq_true, ite_self, n25, n20, n24, n100, kk1 C, ci4, oa, kr1_3 C, kz13 C, hK.1, nI_ltI, q0, ob, e1, kr1_3 C1, kz13 C1]
  have x2 : f_X12_best h1 N 100 (nI p) (nI q) = f_X12_best_b37 h1 N N 100 (nI p) (nI q) (-1) 0 0 := by
    simp (disch := omega) only [f_X12_best, obs, b10, b01, bm, if_true_, if_false_, eq_self, not_true_eq_false, not_false_eq_true, true_or, or_true, or_false, false_or, and_true, true_and, and_false, false_and, or_self, and_self, Bool.false_eq_true, ite_self, n25, n20, n24, n100, RS.kk H1, ri4, oa, RS.gi H1, hK.1, nI_ltI, q0, ob]
  by_cases q1 : q = 0
  · subst q1
    refine ⟨farV σ B, h1, ?_, ?_, I1⟩
    · rw [x1, e2, if_pos (by decide)]
    · rw [x2, e3, if_pos (by decide)]
  · have q1' : ¬ nI q = 0 := by rw [show (0 : Int32) = nI 0 by decide, nI_eq (by omega) (by omega)]; exact q1
    have cm : f_X11_memberOf h1 N (nI (mir B)) (nI (q - 1)) = some (memb (mir (mir B)) 8 (q - 1) 0) := c_memb (N := N) (h := h1) mir_lt (by omega) 8 0 N (q - 1) 0 (by omega) (by omega) (by omega)
    have rm : f_X12_best_b119 h1 N N 100 (nI B) (nI (q - 1 + 1)) 0 = some (memb B (cn σ 46) (q - 1) 0) := r_memb (N := N) H1 hK.1 (by omega) hB1 (cn σ 46) 0 N (q - 1) (by omega) (by omega) (by omega)
    rw [show q - 1 + 1 = q by omega] at rm
    have em : memb B (cn σ 46 + (8 - cn σ 46)) (q - 1) 0 = memb B (cn σ 46) (q - 1) 0 := memb_m (cn σ 46) (q - 1) 0 (fun j hj => b8_z hB2 (by omega))
    rw [show cn σ 46 + (8 - cn σ 46) = 8 by omega] at em
    have eq1 : nI q - 1 = nI (q - 1) := by
      obtain ⟨k, rfl⟩ : ∃ k, q = k + 1 := ⟨q - 1, by omega⟩
      exact nI_pred k
    refine ⟨memb B (cn σ 46) (q - 1) 0, h1, ?_, ?_, I1⟩
    · rw [x1, e2, if_neg q1', eq1]
      show (f_X11_memberOf h1 N (nI (mir B)) (nI (q - 1))).bind _ = _
      rw [cm, obs, mir_mir hB1, em]
    · rw [x2, e3, if_neg q1']
      exact rm
end
