/-! THE SHORT MACHINE. Values of the walk: references are places in a small heap (a list of cells, in the order in which they are made); .float stands for the law's script, .retAddr for a reference that isn't looked at. -/
def mv (base b : Nat) : Value → Value
  | .ref a => .ref (base + a)
  | .float _ => .ref b
  | .retAddr q => .ref q
  | v => v
abbrev ME : Type := (Nat × vp_A) ⊕ (Nat × List Value)
abbrev MH : Type := List ME
def ma (base : Nat) : vp_A → vp_A
  | (n, .inr (.inr (.inr (.inr f)))) => (n, .inr (.inr (.inr (.inr (fun i => (f i).map (fun a => base + a))))))
  | a => a
def me (cy : Nat → ClassId) (base b : Nat) : ME → va_E
  | .inl (t, a) => .inl (cy t, ma base a)
  | .inr (ci, fs) => .inr (ci, fs.map (mv base b))
def mw (cy : Nat → ClassId) (base b : Nat) (h : MH) : va_W := h.mapIdx (fun i c => (base + i, me cy base b c))
theorem mv_cat (base b : Nat) (v : Value) : (mv base b v).category = v.category := by cases v <;> rfl
theorem mw_get {cy : Nat → ClassId} {base b : Nat} {h : MH} {i : Nat} {c : ME} (hc : h[i]? = some c) : (mw cy base b h)[i]? = some (base + i, me cy base b c) := by
  simp [mw, List.getElem?_mapIdx, hc]
theorem mw_of {cy : Nat → ClassId} {base b : Nat} {h : MH} {i : Nat} {q : Nat × va_E} (hc : (mw cy base b h)[i]? = some q) : ∃ c, h[i]? = some c ∧ q = (base + i, me cy base b c) := by
  simp only [mw, List.getElem?_mapIdx, Option.map_eq_some_iff] at hc
  obtain ⟨c, h1, h2⟩ := hc
  exact ⟨c, h1, h2.symm⟩
theorem mw_set {cy : Nat → ClassId} {base b : Nat} {h : MH} {i : Nat} {c : ME} : (mw cy base b h).set i (base + i, me cy base b c) = mw cy base b (h.set i c) := by
  apply List.ext_getElem?
  intro j
  by_cases hj : i = j
  · subst hj
    by_cases hl : i < h.length
    · simp [mw, List.getElem?_set, List.getElem?_mapIdx, hl]
    · simp [mw, List.getElem?_set, List.getElem?_mapIdx, hl]
  · simp [mw, List.getElem?_set, List.getElem?_mapIdx, hj]
theorem mw_push {cy : Nat → ClassId} {base b : Nat} {h : MH} {c : ME} : mw cy base b (h ++ [c]) = mw cy base b h ++ [(base + h.length, me cy base b c)] := by
  simp [mw, List.mapIdx_append]
theorem mw_D {cy : Nat → ClassId} {base b : Nat} {h : MH} : va_D (fun q : Nat => base ≤ q) (mw cy base b h) := by
  refine ⟨fun i j p q hi hj hpq => ?_, fun k q hk => ?_⟩
  · obtain ⟨c, -, e1⟩ := mw_of hi
    obtain ⟨c', -, e2⟩ := mw_of hj
    rw [e1, e2] at hpq
    simp only at hpq
    omega
  · obtain ⟨c, -, e1⟩ := mw_of hk
    rw [e1]
    simp only
    omega
/-! methods: name, code, locals, answer, table -/
abbrev Mt : Type := MethodName × ByteArray × Nat × Option FieldType × List (Nat × Nat × Nat × Nat)
abbrev Mc (M : Mt) : ByteArray := M.2.1
abbrev Mn (M : Mt) : Nat := M.2.2.1
abbrev Mr (M : Mt) : Option FieldType := M.2.2.2.1
abbrev Mh (M : Mt) : List (Nat × Nat × Nat × Nat) := M.2.2.2.2
def Mw (M : Mt) : Cond := if Mh M = [] then .code M.1 (Mc M) (Mn M) (Mr M) else .codeWith M.1 (Mc M) (Mn M) (Mr M) (Mh M)
def mtys (cy : Nat → ClassId) : List (ClassId × FieldType) := [(cy 0, .int), (cy 1, .boolean), (cy 2, .long), (cy 3, .object RX5), (cy 4, .object RX7), (cy 5, .object RX1), (cy 6, .object RX2), (cy 7, .object RX4), (cy 8, .object RX0)]
/-! what the tables say beyond the good words -/
def eN : String := "java/util/NoSuchElementException"
def eA : String := "java/lang/IllegalArgumentException"
def eS : String := "java/lang/IllegalStateException"
def eI : String := "java/lang/IndexOutOfBoundsException"
def eU : String := "java/lang/UnsupportedOperationException"
def eR : String := "java/lang/RuntimeException"
def eX : String := "java/lang/Exception"
def fwd : List Cond := [.castable eN eN, .castable eA eA, .castable eS eS, .castable eI eI, .castable eU eU, .declares (Bundle.init0 eR), .declares (Bundle.init0 eX), .declares (Bundle.init0 Bundle.tN)]
def nsl : List (String × Nat × MethodName × String) := [(RX6, 21, yX5_init, RX9), (RX7, 25, yX4_init, RX9), (RX4, 20, yX3_init, RX9), (RX1, 11, yX8_init, RX9), (RX1, 48, yX0_init, RX9)]
def aol : List String := [RX5, RX7, RX1, RX2, RX4, RX0]
def ncl : List (String × String) := [(eA, eN), (eS, eN), (eI, eN), (eU, eN), (eU, eS)]
def Kf (D : va_G) (cy : Nat → ClassId) (U : State) : Prop :=
  va_K D vwCl (mtys cy) U ∧ (∀ w ∈ fwd, va_Nw w U) ∧ (∀ q ∈ nsl, va_Nw (.methodLinkNest q.1 q.2.1 q.2.2.1 q.2.2.2) U) ∧ (∀ C ∈ aol, va_AO C U) ∧ ∀ q ∈ ncl, va_Nc q.1 q.2 U
theorem face_at {s U : State} {w : Cond} (hW : s.WarmedH U.vm) (h1 : w.onTables = true) (h2 : w.keepsFace = true) (h : va_Nw w s) : va_Nw w U :=
  va_Nw.same h1 (rfl : (s.setVm U.vm).vm = U.vm) (Cond.before_shiftedFace (State.Shifted.of_warmed hW) w h2 h)
theorem Kf.moved {D : va_G} {cy : Nat → ClassId} {s U : State} (hW : s.WarmedH U.vm) (h : Kf D cy s) : Kf D cy U := by
  obtain ⟨h1, h2, h3, h4, h5⟩ := h
  refine ⟨va_K.moved hW.alike h1, fun w hw => ?_, fun q hq => va_Nw.warmM hW (h3 q hq), fun C hC => va_AO.moved hW.alike (h4 C hC), fun q hq => va_Nc.moved hW.alike (h5 q hq)⟩
  have hk : (fwd.all fun w => w.onTables && w.keepsFace) = true := by decide +kernel
  have := List.all_eq_true.mp hk w hw
  simp only [Bool.and_eq_true] at this
  exact face_at hW this.1 this.2 (h2 w hw)
/-! heap and world -/
def Hd (D : va_G) (cy : Nat → ClassId) (base b : Nat) (h : MH) (H : Heap) : Prop := va_P D vwCl (mw cy base b h) H ∧ base ≤ H.size
abbrev XS : Type := Nat × (Nat → Int32)
def Zs (X : XS) (base b : Nat) (U : State) (H : Heap) : Prop := vx_Zq Bundle.tN "UNASSIGNED_STACK" Bundle.steD (fun q : Nat => base ≤ q) U H ∧ vx_Zq Bundle.tN "SUPPRESSED_SENTINEL" Bundle.listD (fun q : Nat => base ≤ q) U H ∧ va_X b X.1 X.2 U H ∧ b < base
theorem Zs.kept {X : XS} {base b : Nat} {U : State} {H H1 : Heap} (h : Zs X base b U H) (hq : ∀ a : Nat, a < H.size → ¬ base ≤ a → H1[a]? = H[a]?) : Zs X base b U H1 := by
  obtain ⟨h1, h2, h3, h4⟩ := h
  have hb : b < H.size := by
    obtain ⟨scr, e, -⟩ := h3
    exact (Array.getElem?_eq_some_iff.mp e).1
  exact ⟨h1.kept hq, h2.kept hq, h3.kept (hq b hb (by omega)), h4⟩
theorem Zs.moved {X : XS} {base b : Nat} {u U : State} {H : Heap} (hvm : u.vm.Alike U.vm) (h : Zs X base b u H) : Zs X base b U H := ⟨h.1.moved hvm, h.2.1.moved hvm, h.2.2.1.moved hvm, h.2.2.2⟩
/-! contracts -/
abbrev Rs : Type := (Option Value ⊕ String) × MH × Nat × Nat
def PcR (X : XS) (D : va_G) (cy : Nat → ClassId) (base b : Nat) (al : Bool) (args : List Value) (h : MH) : Array Value → State → Prop := fun v U =>
  v = (args.map (mv base b)).toArray ∧ Kf D cy U ∧ Hd D cy base b h U.heap ∧ Zs X base b U U.heap ∧ (al = true → U.heap.size = base + h.length)
def QcR (D : va_G) (cy : Nat → ClassId) (base b : Nat) (r : Rs) : Array Value → State → Outcome → State → Prop := fun _ st oc t =>
  va_F (fun q : Nat => base ≤ q) st t ∧ ∃ v : Option Value, r.1 = .inl v ∧ oc = .returned (v.map (mv base b)) ∧ Hd D cy base b r.2.1 t.heap
def XcR (D : va_G) (cy : Nat → ClassId) (base b : Nat) (r : Rs) : String → State → State → Prop := fun E st t =>
  va_F (fun q : Nat => base ≤ q) st t ∧ r.1 = .inr E ∧ Hd D cy base b r.2.1 t.heap
def rmd (d mc ms : Nat) : Room := { frames := d, cells := mc, slots := ms, locals := 34 * d }
def Call (X : XS) (M : Mt) (al : Bool) (d : Nat) (args : List Value) (h : MH) (r : Rs) : Prop :=
  ∀ (l : Launch) (D : va_G) (cy : Nat → ClassId) (base b : Nat), l.stackTraces = false →
    vx_Met l M.1 (Mw M :: wsL_law) (rmd d r.2.2.1 r.2.2.2) (PcR X D cy base b al args h) (QcR D cy base b r) (XcR D cy base b r) r.2.2.1 r.2.2.2 (fun q : Nat => base ≤ q)
def LV (base b nL : Nat) (ls : Array Slot) (lv : List (Option Value)) : Prop :=
  ls.size = nL ∧ lv_wf ls ∧ ∀ (i : Nat) (v : Value), lv[i]? = some (some v) → v.category = 1 ∧ ls[i]? = some (.val (mv base b v))
def Cx (X : XS) (M : Mt) (d mc ms : Nat) (l : Launch) (D : va_G) (cy : Nat → ClassId) (base b : Nat) (p : Program) (R : Room) (s : State) (m : MethodId) (args : Array Value) (meth : Method) (c : Code) : Prop :=
  p.tables.exec = Jvm.exec ∧ c.code = Mc M ∧ c.maxLocals = Mn M ∧ s.vm.findClass M.1.cls = some m.cls ∧ (∀ w ∈ wsL_law, w.before args s = true) ∧ meth.sig.returnType = Mr M ∧ meth.locks = false ∧ meth.name = M.1.name ∧
  c.exceptionTable.toList = tableOf (Mh M) ∧ (d ≤ R.frames ∧ 34 * d ≤ R.locals ∧ mc ≤ R.cells ∧ ms ≤ R.slots) ∧ l.stackTraces = false ∧ Kf D cy s ∧ Zs X base b s s.heap ∧ base ≤ s.heap.size
def Ex (X : XS) (M : Mt) (al : Bool) (d pc : Nat) (lv : List (Option Value)) (st : List Value) (h : MH) (k n : Nat) (r : Rs) : Prop :=
  ∀ (l : Launch) (D : va_G) (cy : Nat → ClassId) (base b : Nat) (p : Program) (e : Env) (R : Room) (s : State) (m : MethodId) (args : Array Value) (below : List Frame) (meth : Method) (c : Code) (H : Heap) (locs : List Loc) (ls : Array Slot),
    Cx X M d r.2.2.1 r.2.2.2 l D cy base b p R s m args meth c → LV base b (Mn M) ls lv → Hd D cy base b h H → va_S (fun q : Nat => base ≤ q) s.heap H locs → (al = true → s.heap.size + k = base + h.length) →
    W p l e R s m args below meth c H locs k n (vx_MQ below (QcR D cy base b r) (XcR D cy base b r) args s r.2.2.1 r.2.2.2 (fun q : Nat => base ≤ q)) (F0 m pc ls (st.map (mv base b)))
/-! locals -/
def lvl (base b : Nat) (lv : List (Option Value)) : List (Nat × Value) := lv.zipIdx.filterMap (fun q => q.1.map (fun v => (q.2, mv base b v)))
theorem lvl_mem {base b : Nat} {lv : List (Option Value)} {j : Nat} {v : Value} (h : lv[j]? = some (some v)) : (j, mv base b v) ∈ lvl base b lv :=
  List.mem_filterMap.mpr ⟨(some v, j), List.mem_zipIdx_iff_getElem?.mpr h, rfl⟩
theorem LV.has {base b nL : Nat} {ls : Array Slot} {lv : List (Option Value)} (h : LV base b nL ls lv) : lv_has ls nL (lvl base b lv) := by
  refine ⟨h.1, h.2.1, fun q hq => ?_⟩
  obtain ⟨⟨o, j⟩, h1, h2⟩ := List.mem_filterMap.mp hq
  have h3 := List.mem_zipIdx_iff_getElem?.mp h1
  cases o with
  | none => cases h2
  | some v =>
    cases h2
    exact (h.2.2 j v h3).2
theorem LV.put {base b nL : Nat} {ls ls' : Array Slot} {lv : List (Option Value)} {i : Nat} {v : Value} (h : LV base b nL ls lv) (hc : v.category = 1)
    (h' : lv_has ls' nL ((i, mv base b v) :: (lvl base b lv).filter (fun q => !(q.1 == i) && !(q.1 + 1 == i && q.2.category == 2)))) : LV base b nL ls' (lv.set i (some v)) := by
  refine ⟨h'.1, h'.2.1, fun j w hw => ?_⟩
  rw [List.getElem?_set] at hw
  by_cases hj : i = j
  · subst hj
    rw [if_pos rfl] at hw
    by_cases hl : i < lv.length
    · rw [if_pos hl] at hw
      cases hw
      exact ⟨hc, h'.2.2 (i, mv base b v) List.mem_cons_self⟩
    · rw [if_neg hl] at hw
      cases hw
  · rw [if_neg hj] at hw
    have hc1 := (h.2.2 j w hw).1
    refine ⟨hc1, h'.2.2 (j, mv base b w) (List.mem_cons_of_mem _ (List.mem_filter.mpr ⟨lvl_mem hw, ?_⟩))⟩
    have e1 : (j == i) = false := by simp; omega
    have e2 : ((mv base b w).category == 2) = false := by rw [mv_cat, hc1]; rfl
    simp [e1, e2]
