section XH
variable {X : XS} {M : Mt} {al : Bool} {d pc k n : Nat} {lv lv' : List (Option Value)} {st : List Value} {h : MH} {r : Rs}
def CLq (q : vw_C) : Prop := (∀ w ∈ u_ws q.1 q.2.1 q.2.2, w ∈ wsL_law) ∧ (∃ ty0 : Nat → FieldType, ∀ k, k < q.2.2 → parseFieldDescriptor (q.2.1 k).2.2.1 = some (ty0 k)) ∧ ∀ a, a < q.2.2 → ∀ b, b < q.2.2 → a ≠ b → (q.2.1 a).2.1 ≠ (q.2.1 b).2.1
theorem cl_all {ci : Nat} {q : vw_C} (h : vwCl[ci]? = some q) : CLq q := match ci, h with
  | 0, h => by cases h; exact ⟨inlX0, ⟨tyX0, tyX0_ok⟩, nmX0⟩
  | 1, h => by cases h; exact ⟨inlX1, ⟨tyX1, tyX1_ok⟩, nmX1⟩
  | 2, h => by cases h; exact ⟨inlX2, ⟨tyX2, tyX2_ok⟩, nmX2⟩
  | 3, h => by cases h; exact ⟨inlX3, ⟨tyX3, tyX3_ok⟩, nmX3⟩
  | 4, h => by cases h; exact ⟨inlX4, ⟨tyX4, tyX4_ok⟩, nmX4⟩
  | 5, h => by cases h; exact ⟨inlX5, ⟨tyX5, tyX5_ok⟩, nmX5⟩
  | 6, h => by cases h; exact ⟨inlX6, ⟨tyX6, tyX6_ok⟩, nmX6⟩
  | 7, h => by cases h; exact ⟨inlX7, ⟨tyX7, tyX7_ok⟩, nmX7⟩
  | 8, h => by cases h; exact ⟨inlX8, ⟨tyX8, tyX8_ok⟩, nmX8⟩
  | 9, h => by cases h; exact ⟨inlX9, ⟨tyX9, tyX9_ok⟩, nmX9⟩
  | 10, h => by cases h; exact ⟨inlX10, ⟨tyX10, tyX10_ok⟩, nmX10⟩
  | n + 11, h => by simp [vwCl] at h
/-- a field's entry: of class ci, its field kf -/
def FL (own : String) (idx ci kf : Nat) : Prop := ∃ q : vw_C, vwCl[ci]? = some q ∧ kf < q.2.2 ∧ Cond.fieldLink own idx (q.2.1 kf).1 (q.2.1 kf).2.1 (q.2.1 kf).2.2.1 ∈ wsL_law
theorem Cx.K {d mc ms : Nat} {l : Launch} {D : va_G} {cy : Nat → ClassId} {base b : Nat} {p : Program} {R : Room} {s : State} {m : MethodId} {args : Array Value} {meth : Method} {c : Code} (C : Cx X M d mc ms l D cy base b p R s m args meth c) : Kf D cy s := C.2.2.2.2.2.2.2.2.2.2.2.1
theorem Cx.Z {d mc ms : Nat} {l : Launch} {D : va_G} {cy : Nat → ClassId} {base b : Nat} {p : Program} {R : Room} {s : State} {m : MethodId} {args : Array Value} {meth : Method} {c : Code} (C : Cx X M d mc ms l D cy base b p R s m args meth c) : Zs X base b s s.heap := C.2.2.2.2.2.2.2.2.2.2.2.2.1
theorem Cx.R {d mc ms : Nat} {l : Launch} {D : va_G} {cy : Nat → ClassId} {base b : Nat} {p : Program} {R : Room} {s : State} {m : MethodId} {args : Array Value} {meth : Method} {c : Code} (C : Cx X M d mc ms l D cy base b p R s m args meth c) : d ≤ R.frames ∧ 34 * d ≤ R.locals ∧ mc ≤ R.cells ∧ ms ≤ R.slots := C.2.2.2.2.2.2.2.2.2.1
theorem Cx.T {d mc ms : Nat} {l : Launch} {D : va_G} {cy : Nat → ClassId} {base b : Nat} {p : Program} {R : Room} {s : State} {m : MethodId} {args : Array Value} {meth : Method} {c : Code} (C : Cx X M d mc ms l D cy base b p R s m args meth c) : c.exceptionTable.toList = tableOf (Mh M) := C.2.2.2.2.2.2.2.2.1
theorem x_get {a ci kf idx : Nat} {fs : List Value} {v : Value} (hd : decode (Mc M) pc = .ok (.getfield idx, 3)) (hf : FL M.1.cls idx ci kf) (hc : h[a]? = some (.inr (ci, fs))) (hv : fs[kf]? = some v)
    (kk : Ex X M al d (pc + 3) lv (v :: st) h k n r) : Ex X M al d pc lv (.ref a :: st) h k n r := by
  intro l D cy base b p e R s m args below meth c H locs ls C hl hH hS hA
  obtain ⟨⟨C0, T0, N0⟩, hq, hk, hlk⟩ := hf
  exact va_get C.1 C.2.1 C.2.2.2.2.1 (cl_all hq).1 C.2.2.2.1 C.K.1 hH.1 a (mw_get hc) hq kf hk (C.2.2.2.2.1 _ hlk) (fun _ z => z) (v := mv base b v) (by rw [List.getElem?_map, hv]; rfl) hd
    (kk l D cy base b p e R s m args below meth c H locs ls C hl hH hS hA)
/-- a field that is written: its type, and whether it is final -/
def FP (own : String) (idx ci kf : Nat) (fin : Bool) (ty : FieldType) : Prop := ∃ q : vw_C, vwCl[ci]? = some q ∧ kf < q.2.2 ∧ Cond.fieldLink own idx (q.2.1 kf).1 (q.2.1 kf).2.1 (q.2.1 kf).2.2.1 ∈ wsL_law ∧ (q.2.1 kf).2.2.2 = fin ∧ parseFieldDescriptor (q.2.1 kf).2.2.1 = some ty ∧ (q.2.1 kf).1 = q.1
theorem mw_put {cy : Nat → ClassId} {base b a ci kf : Nat} {fs : List Value} {v : Value} : (mw cy base b h).set a (base + a, .inr (ci, (fs.map (mv base b)).set kf (mv base b v))) = mw cy base b (h.set a (.inr (ci, fs.set kf v))) := by
  rw [← mw_set]
  simp only [me, List.map_set]
theorem x_put {a ci kf idx : Nat} {fs : List Value} {v : Value} {ty : FieldType} (hd : decode (Mc M) pc = .ok (.putfield idx, 3)) (hf : FP M.1.cls idx ci kf false ty) (hc : h[a]? = some (.inr (ci, fs))) (hlen : kf < fs.length)
    (hv : ∀ base b : Nat, narrow ty (mv base b v) = mv base b v ∧ fits ty (mv base b v) = true)
    (kk : Ex X M al d (pc + 3) lv st (h.set a (.inr (ci, fs.set kf v))) k n r) : Ex X M al d pc lv (v :: .ref a :: st) h k n r := by
  intro l D cy base b p e R s m args below meth c H locs ls C hl hH hS hA
  obtain ⟨⟨C0, T0, N0⟩, hq, hk, hlk, hfin, hty, -⟩ := hf
  obtain ⟨hin, ⟨ty0, hty0⟩, hnm⟩ := cl_all hq
  refine va_put C.1 C.2.1 C.2.2.2.2.1 hin ty0 hty0 hnm C.2.2.2.1 C.K.1 hH.1 mw_D hS a (mw_get hc) hq kf hk (C.2.2.2.2.1 _ hlk) (fun _ z => z) hfin hty (hv base b).1 (hv base b).2 (by rw [List.length_map]; exact hlen) hd (fun H1 locs1 hP hD hS1 => ?_)
  rw [mw_put] at hP
  exact kk l D cy base b p e R s m args below meth c H1 locs1 ls C hl ⟨hP, Nat.le_trans C.2.2.2.2.2.2.2.2.2.2.2.2.2 hS1.1⟩ hS1 (fun z => by rw [List.length_set]; exact hA z)
theorem x_putF {a ci kf idx : Nat} {fs : List Value} {v : Value} {ty : FieldType} (hd : decode (Mc M) pc = .ok (.putfield idx, 3)) (hf : FP M.1.cls idx ci kf true ty) (hc : h[a]? = some (.inr (ci, fs))) (hlen : kf < fs.length)
    (hi : M.1.name = "<init>") (ho : ∀ q, vwCl[ci]? = some q → q.1 = M.1.cls) (hv : ∀ base b : Nat, narrow ty (mv base b v) = mv base b v ∧ fits ty (mv base b v) = true)
    (kk : Ex X M al d (pc + 3) lv st (h.set a (.inr (ci, fs.set kf v))) k n r) : Ex X M al d pc lv (v :: .ref a :: st) h k n r := by
  intro l D cy base b p e R s m args below meth c H locs ls C hl hH hS hA
  obtain ⟨⟨C0, T0, N0⟩, hq, hk, hlk, hfin, hty, hdc⟩ := hf
  obtain ⟨hin, ⟨ty0, hty0⟩, hnm⟩ := cl_all hq
  refine va_putF C.1 C.2.1 C.2.2.2.2.1 hin ty0 hty0 hnm C.2.2.2.1 C.K.1 hH.1 mw_D hS a (mw_get hc) hq kf hk (C.2.2.2.2.1 _ hlk) (fun _ z => z) hfin (C.2.2.2.2.2.2.2.1.trans hi) (hdc.trans (ho _ hq)) hty (hv base b).1 (hv base b).2 (by rw [List.length_map]; exact hlen) hd (fun H1 locs1 hP hD hS1 => ?_)
  rw [mw_put] at hP
  exact kk l D cy base b p e R s m args below meth c H1 locs1 ls C hl ⟨hP, Nat.le_trans C.2.2.2.2.2.2.2.2.2.2.2.2.2 hS1.1⟩ hS1 (fun z => by rw [List.length_set]; exact hA z)
/-! arrays -/
theorem x_iald {a N : Nat} {f : Nat → Int32} {i : Int32} (hd : decode (Mc M) pc = .ok (.iaload, 1)) (hc : h[a]? = some (.inl (0, N, .inl f))) (hin : vp_in i N)
    (kk : Ex X M al d (pc + 1) lv (.int (f i.toNatClampNeg) :: st) h k n r) : Ex X M al d pc lv (.int i :: .ref a :: st) h k n r := by
  intro l D cy base b p e R s m args below meth c H locs ls C hl hH hS hA
  exact va_iald C.1 C.2.1 C.K.1 hH.1 a 0 (mw_get hc) rfl hin hd (kk l D cy base b p e R s m args below meth c H locs ls C hl hH hS hA)
theorem x_zald {a N : Nat} {f : Nat → Int32} {i : Int32} (hd : decode (Mc M) pc = .ok (.baload, 1)) (hc : h[a]? = some (.inl (1, N, .inl f))) (hin : vp_in i N)
    (kk : Ex X M al d (pc + 1) lv (.int (f i.toNatClampNeg) :: st) h k n r) : Ex X M al d pc lv (.int i :: .ref a :: st) h k n r := by
  intro l D cy base b p e R s m args below meth c H locs ls C hl hH hS hA
  exact va_zald C.1 C.2.1 C.K.1 hH.1 a 1 (mw_get hc) rfl hin hd (kk l D cy base b p e R s m args below meth c H locs ls C hl hH hS hA)
theorem x_lald {a N : Nat} {f : Nat → Int64} {i : Int32} (hd : decode (Mc M) pc = .ok (.laload, 1)) (hc : h[a]? = some (.inl (2, N, .inr (.inl f)))) (hin : vp_in i N)
    (kk : Ex X M al d (pc + 1) lv (.long (f i.toNatClampNeg) :: st) h k n r) : Ex X M al d pc lv (.int i :: .ref a :: st) h k n r := by
  intro l D cy base b p e R s m args below meth c H locs ls C hl hH hS hA
  exact va_lald C.1 C.2.1 C.K.1 hH.1 a 2 (mw_get hc) rfl hin hd (kk l D cy base b p e R s m args below meth c H locs ls C hl hH hS hA)
theorem x_aald {a a2 t N : Nat} {C0 : String} {f : Nat → Option Nat} {i : Int32} (hd : decode (Mc M) pc = .ok (.aaload, 1)) (ht : ∀ cy, (mtys cy)[t]? = some (cy t, .object C0)) (hc : h[a]? = some (.inl (t, N, .inr (.inr (.inr (.inr f)))))) (hin : vp_in i N) (hv : f i.toNatClampNeg = some a2)
    (kk : Ex X M al d (pc + 1) lv (.ref a2 :: st) h k n r) : Ex X M al d pc lv (.int i :: .ref a :: st) h k n r := by
  intro l D cy base b p e R s m args below meth c H locs ls C hl hH hS hA
  refine va_aldq C.1 C.2.1 C.K.1 hH.1 a t (mw_get hc) (ht cy) hin hd ?_
  rw [hv]
  exact kk l D cy base b p e R s m args below meth c H locs ls C hl hH hS hA
theorem x_iast {a N : Nat} {f : Nat → Int32} {i x : Int32} (hd : decode (Mc M) pc = .ok (.iastore, 1)) (hc : h[a]? = some (.inl (0, N, .inl f))) (hin : vp_in i N)
    (kk : Ex X M al d (pc + 1) lv st (h.set a (.inl (0, N, .inl (upd f i.toNatClampNeg x)))) k n r) : Ex X M al d pc lv (.int x :: .int i :: .ref a :: st) h k n r := by
  intro l D cy base b p e R s m args below meth c H locs ls C hl hH hS hA
  refine va_iast C.1 C.2.1 C.K.1 hH.1 mw_D hS a 0 (mw_get hc) rfl hin hd (fun H1 locs1 hP hD hS1 => ?_)
  have hP : va_P D vwCl ((mw cy base b h).set a (base + a, me cy base b (.inl (0, N, .inl (upd f i.toNatClampNeg x))))) H1 := hP
  rw [mw_set] at hP
  exact kk l D cy base b p e R s m args below meth c H1 locs1 ls C hl ⟨hP, Nat.le_trans C.2.2.2.2.2.2.2.2.2.2.2.2.2 hS1.1⟩ hS1 (fun z => by rw [List.length_set]; exact hA z)
theorem x_zast {a N : Nat} {f : Nat → Int32} {i x : Int32} (hd : decode (Mc M) pc = .ok (.bastore, 1)) (hc : h[a]? = some (.inl (1, N, .inl f))) (hin : vp_in i N) (hx : vp_nar .boolean x = x)
    (kk : Ex X M al d (pc + 1) lv st (h.set a (.inl (1, N, .inl (upd f i.toNatClampNeg x)))) k n r) : Ex X M al d pc lv (.int x :: .int i :: .ref a :: st) h k n r := by
  intro l D cy base b p e R s m args below meth c H locs ls C hl hH hS hA
  refine va_zast C.1 C.2.1 C.K.1 hH.1 mw_D hS a 1 (mw_get hc) rfl hin hd (fun H1 locs1 hP hD hS1 => ?_)
  rw [hx] at hP
  have hP : va_P D vwCl ((mw cy base b h).set a (base + a, me cy base b (.inl (1, N, .inl (upd f i.toNatClampNeg x))))) H1 := hP
  rw [mw_set] at hP
  exact kk l D cy base b p e R s m args below meth c H1 locs1 ls C hl ⟨hP, Nat.le_trans C.2.2.2.2.2.2.2.2.2.2.2.2.2 hS1.1⟩ hS1 (fun z => by rw [List.length_set]; exact hA z)
theorem x_last {a N : Nat} {f : Nat → Int64} {i : Int32} {x : Int64} (hd : decode (Mc M) pc = .ok (.lastore, 1)) (hc : h[a]? = some (.inl (2, N, .inr (.inl f)))) (hin : vp_in i N)
    (kk : Ex X M al d (pc + 1) lv st (h.set a (.inl (2, N, .inr (.inl (vp_updL f i.toNatClampNeg x))))) k n r) : Ex X M al d pc lv (.long x :: .int i :: .ref a :: st) h k n r := by
  intro l D cy base b p e R s m args below meth c H locs ls C hl hH hS hA
  refine va_last C.1 C.2.1 C.K.1 hH.1 mw_D hS a 2 (mw_get hc) rfl hin hd (fun H1 locs1 hP hD hS1 => ?_)
  have hP : va_P D vwCl ((mw cy base b h).set a (base + a, me cy base b (.inl (2, N, .inr (.inl (vp_updL f i.toNatClampNeg x)))))) H1 := hP
  rw [mw_set] at hP
  exact kk l D cy base b p e R s m args below meth c H1 locs1 ls C hl ⟨hP, Nat.le_trans C.2.2.2.2.2.2.2.2.2.2.2.2.2 hS1.1⟩ hS1 (fun z => by rw [List.length_set]; exact hA z)
theorem x_aast {a a2 t N ci : Nat} {q : vw_C} {vs : List Value} {f : Nat → Option Nat} {i : Int32} (hd : decode (Mc M) pc = .ok (.aastore, 1)) (ht : ∀ cy, (mtys cy)[t]? = some (cy t, .object q.1)) (hc : h[a]? = some (.inl (t, N, .inr (.inr (.inr (.inr f)))))) (hc2 : h[a2]? = some (.inr (ci, vs))) (hq : vwCl[ci]? = some q) (hin : vp_in i N)
    (kk : Ex X M al d (pc + 1) lv st (h.set a (.inl (t, N, .inr (.inr (.inr (.inr (va_up f i.toNatClampNeg (some a2)))))))) k n r) : Ex X M al d pc lv (.ref a2 :: .int i :: .ref a :: st) h k n r := by
  intro l D cy base b p e R s m args below meth c H locs ls C hl hH hS hA
  refine va_astq C.1 C.2.1 C.K.1 hH.1 mw_D hS a t a2 ci (mw_get hc) (ht cy) (mw_get hc2) hq hin hd (fun H1 locs1 hP hD hS1 => ?_)
  have e1 : va_up (fun i => (f i).map (fun a => base + a)) i.toNatClampNeg (some (base + a2)) = fun j => ((va_up f i.toNatClampNeg (some a2)) j).map (fun a => base + a) := by
    funext j
    by_cases hj : j = i.toNatClampNeg <;> simp [va_up, hj]
  rw [e1] at hP
  have hP : va_P D vwCl ((mw cy base b h).set a (base + a, me cy base b (.inl (t, N, .inr (.inr (.inr (.inr (va_up f i.toNatClampNeg (some a2))))))))) H1 := hP
  rw [mw_set] at hP
  exact kk l D cy base b p e R s m args below meth c H1 locs1 ls C hl ⟨hP, Nat.le_trans C.2.2.2.2.2.2.2.2.2.2.2.2.2 hS1.1⟩ hS1 (fun z => by rw [List.length_set]; exact hA z)
theorem x_sld {u : UInt32} {i : Int32} (hd : decode (Mc M) pc = .ok (.iaload, 1)) (hin : vp_in i X.1) (kk : Ex X M al d (pc + 1) lv (.int (X.2 i.toNatClampNeg) :: st) h k n r) : Ex X M al d pc lv (.int i :: .float u :: st) h k n r := by
  intro l D cy base b p e R s m args below meth c H locs ls C hl hH hS hA
  exact va_sld C.1 C.2.1 C.Z.2.2.1 (Nat.lt_of_lt_of_le C.Z.2.2.2 C.2.2.2.2.2.2.2.2.2.2.2.2.2) (Nat.not_le.mpr C.Z.2.2.2) hS hin hd (kk l D cy base b p e R s m args below meth c H locs ls C hl hH hS hA)
theorem x_slen {u : UInt32} (hd : decode (Mc M) pc = .ok (.arraylength, 1)) (kk : Ex X M al d (pc + 1) lv (.int (Int32.ofNat X.1) :: st) h k n r) : Ex X M al d pc lv (.float u :: st) h k n r := by
  intro l D cy base b p e R s m args below meth c H locs ls C hl hH hS hA
  exact va_slen C.1 C.2.1 C.Z.2.2.1 (Nat.lt_of_lt_of_le C.Z.2.2.2 C.2.2.2.2.2.2.2.2.2.2.2.2.2) (Nat.not_le.mpr C.Z.2.2.2) hS hd (kk l D cy base b p e R s m args below meth c H locs ls C hl hH hS hA)
theorem x_acopy {a N idx : Nat} {f : Nat → Int32} {sp dp m0 : Int32} (hd : decode (Mc M) pc = .ok (.invokestatic idx, 3)) (hlk : Cond.methodLink M.1.cls idx arraycopyName ∈ wsL_law) (hnt : Cond.native arraycopyName ∈ wsL_law) (hst : Cond.static arraycopyName ∈ wsL_law) (hini : Cond.initialized "java/lang/System" ∈ wsL_law)
    (hc : h[a]? = some (.inl (0, N, .inl f))) (h1 : ¬ sp < 0) (h2 : ¬ dp < 0) (h3 : ¬ m0 < 0) (h4 : sp.toNatClampNeg + m0.toNatClampNeg ≤ N) (h5 : dp.toNatClampNeg + m0.toNatClampNeg ≤ N) (hdp : 1 ≤ d) (hrs : (st.map fun v => v.category).sum + (nativeFrameWords "java/lang/System" "arraycopy" 5 + 11) ≤ 34)
    (kk : Ex X M al d (pc + 3) lv st (h.set a (.inl (0, N, .inl (va_cpy f f sp.toNatClampNeg dp.toNatClampNeg m0.toNatClampNeg)))) k n r) : Ex X M al d pc lv (.int m0 :: .int dp :: .ref a :: .int sp :: .ref a :: st) h k n r := by
  intro l D cy base b p e R s m args below meth c H locs ls C hl hH hS hA
  have hrr := C.R
  have hsum : ((st.map (mv base b)).map fun v => v.category) = st.map fun v => v.category := by
    rw [List.map_map]
    exact List.map_congr_left (fun v _ => mv_cat base b v)
  refine va_copyi (ty := .int) C.1 C.2.1 (C.2.2.1.trans hl.1.symm) C.2.2.2.1 (C.2.2.2.2.1 _ hlk) (C.2.2.2.2.1 _ hnt) (C.2.2.2.2.1 _ hst) (C.2.2.2.2.1 _ hini) C.K.1 hH.1 mw_D hS a a 0 0 (mw_get hc) (mw_get hc) rfl rfl rfl h1 h2 h3 h4 h5 (fun _ _ => rfl) (by omega) (by rw [hsum]; omega) hd (fun H1 locs1 hP hD hS1 => ?_)
  have hP : va_P D vwCl ((mw cy base b h).set a (base + a, me cy base b (.inl (0, N, .inl (va_cpy f f sp.toNatClampNeg dp.toNatClampNeg m0.toNatClampNeg))))) H1 := hP
  rw [mw_set] at hP
  exact kk l D cy base b p e R s m args below meth c H1 locs1 ls C hl ⟨hP, Nat.le_trans C.2.2.2.2.2.2.2.2.2.2.2.2.2 hS1.1⟩ hS1 (fun z => by rw [List.length_set]; exact hA z)
/-! ends -/
theorem x_zret {v : Int32} {ty : FieldType} {mc ms : Nat} (hd : decode (Mc M) pc = .ok (.ireturn, 1)) (hr : Mr M = some ty) (hn : narrow ty (.int v) = .int v) (h1 : k ≤ mc) (h2 : n ≤ ms) : Ex X M al d pc lv [.int v] h k n (.inl (some (.int v)), h, mc, ms) := by
  intro l D cy base b p e R s m args below meth c H locs ls C hl hH hS hA
  refine vx_ret (W.widen h1 h2 ?_)
  exact W.zret C.1 C.2.1 (C.2.2.2.2.2.1.trans hr) hn (fun t ht hW => ⟨hS.F ht, some (.int v), rfl, rfl, by rw [ht]; exact hH⟩) hS.2.2 hd C.2.2.2.2.2.2.1
theorem x_vret {mc ms : Nat} (hd : decode (Mc M) pc = .ok (.return_, 1)) (hr : Mr M = none) (h1 : k ≤ mc) (h2 : n ≤ ms) : Ex X M al d pc lv [] h k n (.inl none, h, mc, ms) := by
  intro l D cy base b p e R s m args below meth c H locs ls C hl hH hS hA
  refine vx_ret (W.widen h1 h2 ?_)
  exact W.vret C.1 C.2.1 (C.2.2.2.2.2.1.trans hr) (fun t ht hW => ⟨hS.F ht, none, rfl, rfl, by rw [ht]; exact hH⟩) hS.2.2 hd C.2.2.2.2.2.2.1
theorem x_aret {a : Nat} {C0 : String} {mc ms : Nat} (hd : decode (Mc M) pc = .ok (.areturn, 1)) (hr : Mr M = some (.object C0)) (h1 : k ≤ mc) (h2 : n ≤ ms) : Ex X M al d pc lv [.ref a] h k n (.inl (some (.ref a)), h, mc, ms) := by
  intro l D cy base b p e R s m args below meth c H locs ls C hl hH hS hA
  refine vx_ret (W.widen h1 h2 ?_)
  exact W.aret C.1 C.2.1 (C.2.2.2.2.2.1.trans hr) (Or.inl ⟨_, rfl⟩) (Or.inr ⟨_, rfl⟩) (fun t ht hW => ⟨hS.F ht, some (.ref a), rfl, rfl, by rw [ht]; exact hH⟩) hS.2.2 hd C.2.2.2.2.2.2.1
theorem x_objInit {a idx : Nat} (hd : decode (Mc M) pc = .ok (.invokespecial idx, 3)) (hlk : Cond.methodLink M.1.cls idx objectInit ∈ wsL_law) (hin : Cond.instanceMethod objectInit ∈ wsL_law) (hco : Cond.code objectInit ⟨#[0xb1]⟩ 1 none ∈ wsL_law) (hdp : 1 ≤ d) (hrs : (st.map fun v => v.category).sum + 12 ≤ 34)
    (kk : Ex X M al d (pc + 3) lv st h k n r) : Ex X M al d pc lv (.ref a :: st) h k n r := by
  intro l D cy base b p e R s m args below meth c H locs ls C hl hH hS hA
  have hrr := C.R
  have hsum : ((st.map (mv base b)).map fun v => v.category) = st.map fun v => v.category := by
    rw [List.map_map]
    exact List.map_congr_left (fun v _ => mv_cat base b v)
  exact W.objInit C.1 C.2.1 C.2.2.2.1 (C.2.2.2.2.1 _ hlk) (C.2.2.2.2.1 _ hin) (C.2.2.2.2.1 _ hco) (g := F0 m pc ls (.ref (base + a) :: st.map (mv base b))) rfl (hl.1.trans C.2.2.1.symm) rfl hd (by omega) (by rw [hsum]; show 2 * 0 + _ + 12 ≤ _; omega)
    (kk l D cy base b p e R s m args below meth c H locs ls C hl hH hS hA)
end XH
