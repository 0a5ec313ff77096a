/-! ===== the abstract heap: kinds, lengths, int fields, reference fields, int rows, reference rows ===== -/
abbrev AH : Type := (Nat → Nat) × (Nat → Nat) × (Nat → Nat → Int32) × (Nat → Nat → Option Nat) × (Nat → Nat → Int32) × (Nat → Nat → Option Nat)
def kd (h : AH) : Nat → Nat := h.1
def ln (h : AH) : Nat → Nat := h.2.1
def fi (h : AH) : Nat → Nat → Int32 := h.2.2.1
def fr (h : AH) : Nat → Nat → Option Nat := h.2.2.2.1
def ai (h : AH) : Nat → Nat → Int32 := h.2.2.2.2.1
def ar (h : AH) : Nat → Nat → Option Nat := h.2.2.2.2.2
def up2 {α : Type} (f : Nat → Nat → α) (r k : Nat) (x : α) : Nat → Nat → α := va_up f r (va_up (f r) k x)
def sfi (h : AH) (r k : Nat) (x : Int32) : AH := (h.1, h.2.1, up2 h.2.2.1 r k x, h.2.2.2.1, h.2.2.2.2.1, h.2.2.2.2.2)
def sfr (h : AH) (r k : Nat) (x : Option Nat) : AH := (h.1, h.2.1, h.2.2.1, up2 h.2.2.2.1 r k x, h.2.2.2.2.1, h.2.2.2.2.2)
def sai (h : AH) (r j : Nat) (x : Int32) : AH := (h.1, h.2.1, h.2.2.1, h.2.2.2.1, up2 h.2.2.2.2.1 r j x, h.2.2.2.2.2)
def sar (h : AH) (r j : Nat) (x : Option Nat) : AH := (h.1, h.2.1, h.2.2.1, h.2.2.2.1, h.2.2.2.2.1, up2 h.2.2.2.2.2 r j x)
/-- a new cell of kind c and length n at the role r -/
def mkc (h : AH) (r c n : Nat) : AH := (va_up h.1 r c, va_up h.2.1 r n, va_up h.2.2.1 r (fun _ => 0), va_up h.2.2.2.1 r (fun _ => none), va_up h.2.2.2.2.1 r (fun _ => 0), va_up h.2.2.2.2.2 r (fun _ => none))
/-- the int row at r as a whole -/
def srow (h : AH) (r : Nat) (f : Nat → Int32) : AH := (h.1, h.2.1, h.2.2.1, h.2.2.2.1, va_up h.2.2.2.2.1 r f, h.2.2.2.2.2)
def mv (ρ : Nat → Nat) : Value → Value
  | .ref a => .ref (ρ a)
  | v => v
theorem mv_cat (ρ : Nat → Nat) (v : Value) : (mv ρ v).category = v.category := by cases v <;> rfl
theorem mv_rf (ρ : Nat → Nat) (x : Option Nat) : mv ρ (va_rf x) = va_rf (x.map ρ) := by cases x <;> rfl
def lm (ρ : Nat → Nat) (lc : List (Nat × Value)) : List (Nat × Value) := lc.map (fun q => (q.1, mv ρ q.2))
abbrev GG : Type := va_G × (Nat → ClassId) × Nat × (Nat → Nat) × (Nat → Nat) × (Nat → Nat → Int32) × (Nat → Nat) × (Nat → Nat) × Nat × Nat × Nat
def gD (g : GG) : va_G := g.1
def gcs (g : GG) : Nat → ClassId := g.2.1
def gbase (g : GG) : Nat := g.2.2.1
def groA (g : GG) : Nat → Nat := g.2.2.2.1
def groN (g : GG) : Nat → Nat := g.2.2.2.2.1
def groF (g : GG) : Nat → Nat → Int32 := g.2.2.2.2.2.1
def gadK (g : GG) : Nat → Nat := g.2.2.2.2.2.2.1
def gadV (g : GG) : Nat → Nat := g.2.2.2.2.2.2.2.1
def ged (g : GG) : Nat := g.2.2.2.2.2.2.2.2.1
def gmo (g : GG) : Nat := g.2.2.2.2.2.2.2.2.2.1
def gsf (g : GG) : Nat := g.2.2.2.2.2.2.2.2.2.2
def gA (g : GG) : Nat → Prop := fun q => gbase g ≤ q
def gty (g : GG) : List (ClassId × FieldType) := [(gcs g 0, .int), (gcs g 1, .boolean), (gcs g 2, .byte), (gcs g 3, .object "java/lang/Object"), (gcs g 4, .object "RainCover$Sheet")]
def isRt : List (List Bool) := [[false, true, false], [false, false, true, false], [false, false, true, false], [false, false, false, false, true, true, false, false, false], [false, false, false, false], [false, false, true, false], [false, false, true, false], [false, false, true], [false, false, true, false], [true, false, false, false], [true, true, true, false], [false, false, false, false, false, false, true, true, true, true, true], [true, true, true, true, true, true, true, true, true, true, true, true, true, false, false, true, true, true, true, true], [false, true, true, true, true, true, true, false, true, true, true, true, true, false, true, true, true, true, true, true, true, true, true, true, true, true, false, true, true, true, true, true, true, true, true, true, false, true, true, true, true, false, true, true, true, true, false, true, true, false, true, true, true, true, false, false, true, true, true, true, true, false, true, false, false, true, true, true, true, false, false, true, false, false, true, true, true]]
def nFt : List Nat := [3, 4, 4, 9, 4, 4, 4, 3, 4, 4, 4, 11, 20, 77]
def SLEN : List Nat := [5, 5, 7, 8, 4, 5, 4, 4, 4, 4, 6, 5, 1, 1, 1, 5]
def SBYT : List (List Int32) := [[114, 97, 116, 101, 32], [32, 112, 101, 114, 32], [32, 98, 101, 108, 111, 119, 32], [32, 111, 102, 32, 115, 117, 109, 32], [32, 116, 111, 32], [32, 109, 97, 120, 32], [112, 97, 121, 32], [32, 105, 102, 32], [115, 117, 109, 32], [100, 114, 121, 32], [103, 114, 101, 101, 110, 32], [119, 101, 101, 107, 32], [32], [62], [60], [32, 97, 110, 100, 32]]
def SIX : List Nat := [41, 54, 59, 64, 118, 70, 82, 84, 91, 93, 95, 97, 105, 111, 113, 89]
def STX : List String := ["rate ", " per ", " below ", " of sum ", " to ", " max ", "pay ", " if ", "sum ", "dry ", "green ", "week ", " ", ">", "<", " and "]
def NML : List (String × Nat × MethodName × String) := [("RainCover", 29, ⟨"RainCover$Tellings", "<init>", "()V"⟩, "RainCover"), ("RainCover", 36, ⟨"RainCover$Tape", "<init>", "()V"⟩, "RainCover"), ("RainCover", 68, ⟨"RainCover$Sheet", "<init>", "()V"⟩, "RainCover"), ("RainCover$Sheet", 20, ⟨"RainCover", "within", "(III)Z"⟩, "RainCover"), ("RainCover$Tape", 26, ⟨"RainCover$Term", "<init>", "()V"⟩, "RainCover"), ("RainCover$Table", 25, ⟨"RainCover", "within", "(III)Z"⟩, "RainCover")]
def CAL : List (String × String) := [("RainCover$Maize", "RainCover$Grain"), ("RainCover$Sheet", "java/lang/Object"), ("RainCover", "java/lang/Object"), ("java/util/ArrayList", "java/lang/Object"), ("RainCover$Tellings", "java/lang/Object"), ("RainCover$Tape", "java/lang/Object"), ("RainCover$Table", "java/lang/Object"), ("RainCoverModel", "java/lang/Object"), ("RainCover$Gauge", "java/lang/Object"), ("RainCover$Term", "java/lang/Object"), ("RainCover$Farm", "java/lang/Object"), ("RainCover$Grain", "java/lang/Object"), ("RainCover$Maize", "java/lang/Object"), ("RainCover$Bean", "java/lang/Object"), ("RainCover$Crop", "java/lang/Object"), ("java/lang/String", "java/lang/Object"), ("[I", "java/lang/Object"), ("[B", "java/lang/Object"), ("[LRainCover$Sheet;", "java/lang/Object"), ("[Ljava/lang/Object;", "java/lang/Object"), ("[Z", "java/lang/Object")]
def NCL : List (String × String) := [("RainCover$Bean", "RainCover$Grain"), ("RainCover$Bean", "RainCover$Maize"), ("RainCover$Crop", "RainCover$Grain"), ("RainCover$Crop", "RainCover$Maize"), ("RainCover$Crop", "RainCover$Bean"), ("RainCover$Grain", "RainCover$Maize"), ("RainCover$Grain", "RainCover$Bean"), ("RainCover$Maize", "RainCover$Bean")]
def isR (c k : Nat) : Bool := (isRt.getD c []).getD k false
def nFd (c : Nat) : Nat := nFt.getD c 0
def fv (h : AH) (ρ : Nat → Nat) (r c k : Nat) : Value := if isR c k = true then va_rf ((fr h r k).map ρ) else .int (fi h r k)
def fvs (h : AH) (ρ : Nat → Nat) (r c : Nat) : List Value := (List.range (nFd c)).map (fv h ρ r c)
def ec (g : GG) (h : AH) (ρ : Nat → Nat) (r : Nat) : va_E :=
  if kd h r < 20 then .inr (kd h r - 1, fvs h ρ r (kd h r - 1))
  else if kd h r < 23 then .inl (gcs g (kd h r - 20), (ln h r, .inl (ai h r)))
  else .inl (gcs g (kd h r - 20), (ln h r, .inr (.inr (.inr (.inr (fun j => (ar h r j).map ρ))))))
def cel (g : GG) (h : AH) (ρ : Nat → Nat) (r : Nat) : Nat × va_E := (ρ r, ec g h ρ r)
def lvk (k : Nat) : Prop := 0 < k ∧ k < 30
def ROh (g : GG) (ρ : Nat → Nat) (h : AH) : Prop :=
  (∀ i, i < 3 → ρ (9000 + i) = groA g i ∧ kd h (9000 + i) = 30 ∧ ln h (9000 + i) = groN g i ∧ ai h (9000 + i) = groF g i) ∧
  (∀ r, kd h r = 30 → ∃ i, i < 3 ∧ r = 9000 + i) ∧
  (∀ i, i < 16 → ρ (9100 + i) = gadK g i ∧ kd h (9100 + i) = 40) ∧ (∀ r, kd h r = 40 → ∃ i, i < 16 ∧ r = 9100 + i) ∧
  (ρ 9200 = ged g ∧ kd h 9200 = 33 ∧ ln h 9200 = 0) ∧ (∀ r, kd h r = 33 → r = 9200) ∧ (∀ r, kd h r = 0 ∨ lvk (kd h r) ∨ kd h r = 30 ∨ kd h r = 33 ∨ kd h r = 40 ∨ kd h r = 41 ∨ kd h r = 50) ∧
  (∀ i, i < 16 → ρ (9120 + i) = gadV g i ∧ kd h (9120 + i) = 41 ∧ ln h (9120 + i) = SLEN.getD i 0 ∧ ai h (9120 + i) = fun j => (SBYT.getD i []).getD j 0) ∧ (∀ r, kd h r = 41 → ∃ i, i < 16 ∧ r = 9120 + i) ∧
  (ρ 9300 = gmo g ∧ kd h 9300 = 50) ∧ (ρ 9301 = gsf g ∧ kd h 9301 = 50) ∧ (∀ r, kd h r = 50 → r = 9300 ∨ r = 9301)
def CL (h : AH) : Prop := (∀ j k r, fr h j k = some r → kd h r ≠ 0) ∧ (∀ j k r, ar h j k = some r → kd h r ≠ 0)
def HV (g : GG) (ρ : Nat → Nat) (h : AH) (H : Heap) : Prop :=
  ∃ L : List Nat, L.Nodup ∧ (∀ r, r ∈ L ↔ lvk (kd h r)) ∧ va_P (gD g) vwCl (L.map (cel g h ρ)) H ∧ va_D (gA g) (L.map (cel g h ρ)) ∧ ROh g ρ h ∧ CL h
def ROK (g : GG) (U : State) (H : Heap) : Prop :=
  ((∀ i, i < 3 → va_T .int (groA g i) (groN g i) (fun j => .int (groF g i j)) (gA g) U H) ∧
   va_Z "RainCover" "DRYNESS" "[I" (.ref (groA g 1)) (gA g) U H ∧ va_Z "RainCover" "MOST_LAW" "[I" (.ref (groA g 2)) (gA g) U H ∧
   va_Z "java/util/ArrayList" "DEFAULTCAPACITY_EMPTY_ELEMENTDATA" "[Ljava/lang/Object;" (.ref (ged g)) (gA g) U H ∧
   va_T (.object "java/lang/Object") (ged g) 0 (fun _ => .null) (gA g) U H) ∧
  (vk_S 16 SLEN SBYT (gadK g) (gadV g) (gA g) U H ∧ va_Z "java/lang/String" "COMPACT_STRINGS" "Z" (.int 1) (gA g) U H ∧
   (va_Z "jdk/internal/util/Preconditions" "SIOOBE_FORMATTER" "Ljava/util/function/BiFunction;" .null (gA g) U H ∨ va_Z "jdk/internal/util/Preconditions" "SIOOBE_FORMATTER" "Ljava/util/function/BiFunction;" (.ref (gsf g)) (gA g) U H))
def KX (g : GG) (U : State) : Prop :=
  (∀ i, i < 16 → vk_R "RainCover$Tape" (SIX.getD i 0) (STX.getD i "") (gadK g i) U) ∧
  (∀ q ∈ NML, va_Nw (.methodLinkNest q.1 q.2.1 q.2.2.1 q.2.2.2) U) ∧ (∀ q ∈ CAL, va_Nw (.castable q.1 q.2) U) ∧ (∀ q ∈ NCL, va_Nc q.1 q.2 U) ∧
  va_AO "java/lang/Object" U ∧ va_AO "RainCover$Sheet" U ∧ va_Mi "[Ljava/lang/Object;" (gmo g) U ∧ va_Dc U
def KK (g : GG) (U : State) : Prop := va_K (gD g) vwCl (gty g) U ∧ ROK g U U.heap ∧ KX g U ∧ gbase g ≤ U.heap.size
def UW : List Cond := lw_tbl.filter goodWord
theorem UW_good {ws : List Cond} (h : ∀ w ∈ ws, w ∈ UW) : GoodIn UW ws := fun w hw => ⟨h w hw, good_of_word (List.mem_filter.mp (h w hw)).2⟩
theorem ROK.mvk {g : GG} {u U : State} {H H1 : Heap} (hvm : u.vm.Alike U.vm) (hq : ∀ a : Nat, a < H.size → ¬ gA g a → H1[a]? = H[a]?) (h : ROK g u H) : ROK g U H1 := by
  obtain ⟨⟨h1, h2, h3, h4, h5⟩, h6, h7, h8⟩ := h
  refine ⟨⟨fun i hi => ((h1 i hi).moved hvm).kept hq, (h2.moved hvm).kept hq, (h3.moved hvm).kept hq, (h4.moved hvm).kept hq, (h5.moved hvm).kept hq⟩, (h6.moved hvm).kept hq, (h7.moved hvm).kept hq, ?_⟩
  rcases h8 with h | h
  · exact Or.inl ((h.moved hvm).kept hq)
  · exact Or.inr ((h.moved hvm).kept hq)
theorem KX.warm {g : GG} {s U : State} (hW : s.WarmedH U.vm) (h : KX g s) : KX g U := by
  obtain ⟨h1, h2, h3, h4, h5, h6, h7, h8⟩ := h
  exact ⟨fun i hi => (h1 i hi).warm hW, fun q hq => va_Nw.warmM hW (h2 q hq), fun q hq => va_Nw.warmC hW (h3 q hq), fun q hq => (h4 q hq).moved hW.alike, h5.moved hW.alike, h6.moved hW.alike, h7.moved hW.alike, h8.moved hW.alike⟩
theorem KX.same {g : GG} {s U : State} (e : U.vm = s.vm) (h : KX g s) : KX g U := by
  obtain ⟨h1, h2, h3, h4, h5, h6, h7, h8⟩ := h
  have ha : s.vm.Alike U.vm := e ▸ Vm.Alike.refl s.vm
  exact ⟨fun i hi => (h1 i hi).same e, fun q hq => va_Nw.same rfl e.symm (h2 q hq), fun q hq => va_Nw.same rfl e.symm (h3 q hq), fun q hq => (h4 q hq).moved ha, h5.moved ha, h6.moved ha, h7.moved ha, h8.moved ha⟩
theorem KK.warm {g : GG} {s U : State} (hW : s.WarmedH U.vm) (hz : s.heap.size ≤ U.heap.size) (hq : ∀ a : Nat, a < s.heap.size → ¬ gA g a → U.heap[a]? = s.heap[a]?) (h : KK g s) : KK g U :=
  ⟨va_K.moved hW.alike h.1, h.2.1.mvk hW.alike hq, h.2.2.1.warm hW, Nat.le_trans h.2.2.2 hz⟩
theorem KK.same {g : GG} {s U : State} (e : U.vm = s.vm) (eh : U.heap = s.heap) (h : KK g s) : KK g U :=
  ⟨va_K.moved (e ▸ Vm.Alike.refl s.vm) h.1, h.2.1.mvk (e ▸ Vm.Alike.refl s.vm) (fun a _ _ => by rw [eh]), h.2.2.1.same e, by rw [eh]; exact h.2.2.2⟩
/-! ===== the judgement ===== -/
abbrev MI : Type := String × ByteArray × Nat × Option FieldType × Room × Nat × Nat × Bool
def AG (al : Bool) (ρ0 : Nat → Nat) (h0 : AH) (ρ : Nat → Nat) (h : AH) : Prop := if al = true then ∀ r, kd h0 r ≠ 0 → ρ r = ρ0 r ∧ kd h r ≠ 0 else ρ = ρ0 ∧ kd h = kd h0
theorem AG.rf {al : Bool} {ρ : Nat → Nat} {h : AH} : AG al ρ h ρ h := by
  unfold AG
  split
  · exact fun r hr => ⟨rfl, hr⟩
  · exact ⟨rfl, rfl⟩
def PostB (g : GG) (al : Bool) (ρ0 : Nat → Nat) (h0 : AH) (q : Option Value × AH) : Array Value → State → Outcome → State → Prop := fun _ st oc t =>
  (∃ ρ', AG al ρ0 h0 ρ' q.2 ∧ oc = .returned (q.1.map (mv ρ')) ∧ HV g ρ' q.2 t.heap) ∧ va_F (gA g) st t
def PreB (g : GG) (ρ : Nat → Nat) (h : AH) (U : State) : Prop := HV g ρ h U.heap ∧ KK g U
theorem PreB.blind {g : GG} {ρ : Nat → Nat} {h : AH} {av : List Value} : FrameBlind (va_Pc av (PreB g ρ h)) := fun _ _ _ _ q => ⟨q.1, q.2.1, q.2.2.same rfl rfl⟩
def Ctx (g : GG) (mi : MI) (p : Program) (s : State) (m : MethodId) (args : Array Value) (meth : Method) (c : Code) : Prop :=
  p.tables.exec = Jvm.exec ∧ c.code = mi.2.1 ∧ c.maxLocals = mi.2.2.1 ∧ s.vm.findClass mi.1 = some m.cls ∧ (∀ w ∈ UW, w.before args s = true) ∧ meth.sig.returnType = mi.2.2.2.1 ∧ meth.locks = false ∧ KK g s ∧ (mi.2.2.2.2.2.2.2 = true → meth.name = "<init>")
def AO {τ : Type} (l : Launch) (g : GG) (mi : MI) (al : Bool) (h0 : AH) (pc : Nat) (lc : List (Nat × Value)) (st : List Value) (h : AH) (k n : Nat) (rt : τ → Option Value × AH) (o : Option τ) : Prop :=
  ∀ out, o = some out → ∀ (p : Program) (e : Env) (s : State) (m : MethodId) (args : Array Value) (below : List Frame) (meth : Method) (c : Code) (ρ0 ρ : Nat → Nat) (H : Heap) (locs : List Loc) (ls : Array Slot),
    Ctx g mi p s m args meth c → AG al ρ0 h0 ρ h → HV g ρ h H → va_S (gA g) s.heap H locs → lv_has ls mi.2.2.1 (lm ρ lc) →
    W p l e mi.2.2.2.2.1 s m args below meth c H locs k n (MQ below (PostB g al ρ0 h0 (rt out)) args s mi.2.2.2.2.2.1 mi.2.2.2.2.2.2.1 (gA g)) (F0 m pc ls (st.map (mv ρ)))
def CN {τ : Type} (l : Launch) (g : GG) (y : MethodName) (mi : MI) (al : Bool) (as : List Value) (h : AH) (rt : τ → Option Value × AH) (o : Option τ) : Prop :=
  ∀ out, o = some out → ∀ ρ : Nat → Nat, Met l y (Cond.code y mi.2.1 mi.2.2.1 mi.2.2.2.1 :: UW) mi.2.2.2.2.1 (va_Pc (as.map (mv ρ)) (PreB g ρ h)) (PostB g al ρ h (rt out)) mi.2.2.2.2.2.1 mi.2.2.2.2.2.2.1 (gA g)
theorem lm_args (ρ : Nat → Nat) : ∀ (as : List Value) (i : Nat), lv_args i (as.map (mv ρ)) = lm ρ (lv_args i as) := by
  intro as
  induction as with
  | nil => intro i; rfl
  | cons v as ih =>
    intro i
    show lv_args i (mv ρ v :: as.map (mv ρ)) = lm ρ (lv_args i (v :: as))
    simp only [lv_args, lm, List.map_cons, mv_cat] at ih ⊢
    rw [ih]
theorem lg_sl_len (ρ : Nat → Nat) : ∀ (as : List Value), (lg_sl (as.map (mv ρ))).length = (lg_sl as).length := by
  intro as
  induction as with
  | nil => rfl
  | cons v as ih => cases v <;> simp_all [lg_sl, mv, List.map_cons, Value.category]
/-- a contract out of the walk of its body -/
theorem CN.of {τ : Type} {l : Launch} {g : GG} {y : MethodName} {mi : MI} {al : Bool} {as : List Value} {h : AH} {rt : τ → Option Value × AH} {o : Option τ} (hy : plainName y.cls = true) (hown : y.cls = mi.1) (hini : mi.2.2.2.2.2.2.2 = true → y.name = "<init>") (hlen : (lg_sl as).length ≤ mi.2.2.1)
    (k : AO l g mi al h 0 (lv_args 0 as) [] h 0 0 rt o) : CN l g y mi al as h rt o := by
  intro out ho ρ
  refine Met.ofW (cc := mi.2.1) (maxL := mi.2.2.1) (ret := mi.2.2.2.1) hy rfl ?_
  intro p e s m args below meth c s₁ B hml hv
  obtain ⟨rfl, hV, hK⟩ := hv
  have hts := atoms_spec (ws := Cond.code y mi.2.1 mi.2.2.1 mi.2.2.2.1 :: UW) B.pre
  rw [lg_entry_eq]
  refine k out ho p e s m _ below meth c ρ ρ s.heap [] _ ⟨B.exec, B.bytes, hml, by rw [← hown]; exact findClass_of_methodNamed B.named, fun w hw => hts w (List.mem_cons_of_mem _ hw), B.returns, B.notSynchronized, hK, fun hi => by rw [← hini hi]; exact (name_of_methodNamed B.named B.method).1⟩ AG.rf hV va_S.rf ?_
  rw [← lm_args]
  exact lv_entry (as.map (mv ρ)) (n := mi.2.2.1) (by rw [lg_sl_len]; exact hlen)
