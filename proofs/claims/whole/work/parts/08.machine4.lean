section XC
variable {X : XS} {M N : Mt} {al : Bool} {d pc k n : Nat} {lv lv' : List (Option Value)} {st : List Value} {h : MH} {r r1 : Rs}
theorem cats (base b : Nat) (st : List Value) : ((st.map (mv base b)).map fun v => v.category) = st.map fun v => v.category := by
  rw [List.map_map]
  exact List.map_congr_left (fun v _ => mv_cat base b v)
/-- while nothing was thrown, the heap ends where the small heap ends -/
theorem W.size {p : Program} {l : Launch} {e : Env} {R : Room} {s : State} {m : MethodId} {args : Array Value} {below : List Frame} {meth : Method} {c : Code} {H : Heap} {locs : List Loc} {cells slots : Nat} {Q : State → Prop} {g : JFrame}
    (kk : H.size ≤ s.heap.size + cells → W p l e R s m args below meth c H locs cells slots Q g) : W p l e R s m args below meth c H locs cells slots Q g := fun T hT Y => kk (by rw [← hT]; exact Y.heapSize) T hT Y
theorem Hd.top {D : va_G} {cy : Nat → ClassId} {base b : Nat} {H : Heap} (hH : Hd D cy base b h H) : base + h.length ≤ H.size := by
  by_cases h0 : h.length = 0
  · rw [h0]; exact hH.2
  · have hl : h.length - 1 < h.length := by omega
    have h1 : h[h.length - 1]? = some (h[h.length - 1]) := List.getElem?_eq_getElem hl
    have := (hH.1 _ _ (mw_get (cy := cy) (base := base) (b := b) h1)).lt
    simp only at this
    omega
/-- a class's entry for 'new' -/
def NW (own : String) (idx ci : Nat) (fs : List Value) : Prop := ∃ q : vw_C, vwCl[ci]? = some q ∧ Cond.classLink own idx q.1 ∈ wsL_law ∧ Cond.instantiable q.1 q.2.2 ∈ wsL_law ∧ Cond.initialized q.1 ∈ wsL_law ∧ fs.length = q.2.2 ∧ ∃ ty0 : Nat → FieldType, (∀ k, k < q.2.2 → parseFieldDescriptor (q.2.1 k).2.2.1 = some (ty0 k)) ∧ ∀ j, j < q.2.2 → ∀ base b : Nat, defaultValue (ty0 j) = vp_V (fs.map (mv base b)) j
theorem x_new {idx ci : Nat} {fs : List Value} (hd : decode (Mc M) pc = .ok (.new idx, 3)) (hw : NW M.1.cls idx ci fs) (hk1 : k + 1 ≤ r.2.2.1) (hn1 : n + fs.length ≤ r.2.2.2)
    (kk : Ex X M true d (pc + 3) lv (.ref h.length :: st) (h ++ [.inr (ci, fs)]) (k + 1) (n + fs.length) r) : Ex X M true d pc lv st h k n r := by
  intro l D cy base b p e R s m args below meth c H locs ls C hl hH hS hA
  obtain ⟨⟨C0, T0, N0⟩, hq, hcl, hins, hini, hlen, ty0, hty, hdf⟩ := hw
  have hrr := C.R
  refine W.size fun hsz => ?_
  have hz : H.size = base + h.length := Nat.le_antisymm (by have := hA rfl; omega) hH.top
  have hKn := C.K.1.1 ci _ hq
  have hlen : fs.length = N0 := hlen
  refine W.newcK C.1 C.2.1 C.2.2.2.1 (C.2.2.2.2.1 _ hcl) (C.2.2.2.2.1 _ hins) (C.2.2.2.2.1 _ hini) (g := F0 m pc ls (st.map (mv base b))) rfl hd (by omega) (by omega) hKn.2.1 rfl fun H1 kC hkC e1 z1 o1 => ?_
  have hk : ∀ (j : Nat) (x : Nat × va_E), (mw cy base b h)[j]? = some x → H1[x.1]? = H[x.1]? := fun j x hx => o1 x.1 ((hH.1 j x hx).lt)
  have hP1 : va_P D vwCl (mw cy base b (h ++ [.inr (ci, fs)])) H1 := by
    rw [mw_push]
    refine (hH.1.kept hk).app (fun j x hx => ?_)
    have hz0 : j < 1 := (List.getElem?_eq_some_iff.mp hx).1
    rw [show j = 0 by omega] at hx
    cases hx
    rw [hz] at e1
    exact ⟨_, hq, (u_born ty0 C.2.2.2.2.1 (cl_all hq).1 hKn hkC e1 hty).to (fun j hj => hdf j hj base b)⟩
  rw [hz, ← hlen]
  exact kk l D cy base b p e R s m args below meth c H1 locs ls C hl ⟨hP1, by omega⟩ ⟨Nat.le_trans hS.1 (by omega), fun x h1 h2 => (o1 x (Nat.lt_of_lt_of_le h1 hS.1)).trans (hS.2.1 x h1 h2), hS.2.2⟩ (fun z => by have := hA z; simp; omega)
theorem x_newarr {t N' : Nat} {ty : FieldType} {atype : ArrayType} {n0 : Int32} {a0 : vp_A} (hd : decode (Mc M) pc = .ok (.newarray atype, 2)) (hw : Cond.arrayClass ty ∈ wsL_law) (hty : newarray.typeOf atype = ty) (ht : ∀ cy, (mtys cy)[t]? = some (cy t, ty)) (hpr : refKind ty = false)
    (ha : ∀ (base : Nat) (cA : ClassId), vp_cell cA (ma base a0) = arrV cA N' (fun _ => defaultValue ty)) (hn : ¬ n0 < 0) (hN : n0.toNatClampNeg = N') (hbytes : N' * componentBytes ty ≤ 536870912) (hk1 : k + 1 ≤ r.2.2.1) (hn1 : n + N' ≤ r.2.2.2)
    (kk : Ex X M true d (pc + 2) lv (.ref h.length :: st) (h ++ [.inl (t, a0)]) (k + 1) (n + N') r) : Ex X M true d pc lv (.int n0 :: st) h k n r := by
  intro l D cy base b p e R s m args below meth c H locs ls C hl hH hS hA
  have hrr := C.R
  subst hty
  refine W.size fun hsz => ?_
  have hz : H.size = base + h.length := Nat.le_antisymm (by have := hA rfl; omega) hH.top
  refine va_newaK C.1 C.2.1 (C.2.2.2.2.1 _ hw) (g := F0 m pc ls (.int n0 :: st.map (mv base b))) rfl hd rfl hn hN hbytes (by omega) (by omega) hz fun H1 cA e1 z1 o1 hAr hNm => ?_
  have hcy : cA = cy t := by
    have h2 := (C.K.1.2 t _ (ht cy)).2
    have h3 : s.vm.findClass ("[" ++ (newarray.typeOf atype).toString) = some (cy t) := by cases atype <;> exact h2
    exact Option.some.inj (hNm.symm.trans h3)
  have hk : ∀ (j : Nat) (x : Nat × va_E), (mw cy base b h)[j]? = some x → H1[x.1]? = H[x.1]? := fun j x hx => o1 x.1 (by rw [← hz]; exact (hH.1 j x hx).lt)
  have hP1 : va_P D vwCl (mw cy base b (h ++ [.inl (t, a0)])) H1 := by
    rw [mw_push]
    refine (hH.1.kept hk).app (fun j x hx => ?_)
    have hz0 : j < 1 := (List.getElem?_eq_some_iff.mp hx).1
    rw [show j = 0 by omega] at hx
    cases hx
    show H1[base + h.length]? = some (vp_cell (cy t) (ma base a0))
    rw [ha, ← hcy]
    exact e1
  exact kk l D cy base b p e R s m args below meth c H1 locs ls C hl ⟨hP1, by omega⟩ ⟨Nat.le_trans hS.1 (by omega), fun x h1 h2 => (o1 x (by rw [← hz]; exact Nat.lt_of_lt_of_le h1 hS.1)).trans (hS.2.1 x h1 h2), hS.2.2⟩ (fun z => by have := hA z; simp; omega)
theorem x_anew {t N' idx : Nat} {C0 : String} {n0 : Int32} (hd : decode (Mc M) pc = .ok (.anewarray idx, 3)) (hcl : Cond.classLink M.1.cls idx C0 ∈ wsL_law) (hao : C0 ∈ aol) (ht : ∀ cy, (mtys cy)[t]? = some (cy t, .object C0)) (hn : ¬ n0 < 0) (hN : n0.toNatClampNeg = N') (hbytes : N' * 4 ≤ 536870912) (hk1 : k + 1 ≤ r.2.2.1) (hn1 : n + N' ≤ r.2.2.2)
    (kk : Ex X M true d (pc + 3) lv (.ref h.length :: st) (h ++ [.inl (t, N', .inr (.inr (.inr (.inr (fun _ => none)))))]) (k + 1) (n + N') r) : Ex X M true d pc lv (.int n0 :: st) h k n r := by
  intro l D cy base b p e R s m args below meth c H locs ls C hl hH hS hA
  have hrr := C.R
  subst hN
  refine W.size fun hsz => ?_
  have hz : H.size = base + h.length := Nat.le_antisymm (by have := hA rfl; omega) hH.top
  refine W.anew C.1 C.2.1 C.2.2.2.1 (C.2.2.2.2.1 _ hcl) (va_AO.use (C.K.2.2.2.1 _ hao)) (g := F0 m pc ls (.int n0 :: st.map (mv base b))) rfl hd rfl hn hbytes (by omega) (by omega) fun cA kA comp f1 f2 f3 f4 => ?_
  have hcy : cA = cy t := by
    obtain ⟨kA2, comp2, g1, g2, g3, g4⟩ := (C.K.1.2 t _ (ht cy)).2
    exact Option.some.inj (f1.symm.trans g4)
  generalize hH1 : H.push ({ cls := cA, slots := Array.replicate n0.toNatClampNeg .null, vm := .none } : Cell) = H1
  have z1 : H1.size = H.size + 1 := by rw [← hH1, Array.size_push]
  have e1 : H1[H.size]? = some (arrV cA n0.toNatClampNeg (fun _ => .null)) := by rw [← hH1, Array.getElem?_push_size, ← arrV_new]
  have o1 : ∀ q : Nat, q < H.size → H1[q]? = H[q]? := fun q hq => by rw [← hH1, Array.getElem?_push, if_neg (Nat.ne_of_lt hq)]
  have hk : ∀ (j : Nat) (x : Nat × va_E), (mw cy base b h)[j]? = some x → H1[x.1]? = H[x.1]? := fun j x hx => o1 x.1 ((hH.1 j x hx).lt)
  have hP1 : va_P D vwCl (mw cy base b (h ++ [.inl (t, n0.toNatClampNeg, .inr (.inr (.inr (.inr (fun _ => none)))))])) H1 := by
    rw [mw_push]
    refine (hH.1.kept hk).app (fun j x hx => ?_)
    have hz0 : j < 1 := (List.getElem?_eq_some_iff.mp hx).1
    rw [show j = 0 by omega] at hx
    cases hx
    show H1[base + h.length]? = some (vp_cell (cy t) (n0.toNatClampNeg, .inr (.inr (.inr (.inr (fun _ => none))))))
    rw [vp_cell_q, ← hcy, ← hz]
    exact e1
  rw [hz]
  exact kk l D cy base b p e R s m args below meth c H1 locs ls C hl ⟨hP1, by omega⟩ ⟨Nat.le_trans hS.1 (by omega), fun x h1 h2 => (o1 x (Nat.lt_of_lt_of_le h1 hS.1)).trans (hS.2.1 x h1 h2), hS.2.2⟩ (fun z => by have := hA z; simp; omega)
/-- the phase of making is over -/
theorem x_made (kk : Ex X M false d pc lv st h k n r) : Ex X M al d pc lv st h k n r := by
  intro l D cy base b p e R s m args below meth c H locs ls C hl hH hS hA
  exact kk l D cy base b p e R s m args below meth c H locs ls C hl hH hS (fun z => by cases z)
/-! throws -/
def TH (own : String) (ik ic : Nat) (E : String) : Prop := Bundle.fit E = true ∧ Cond.classLink own ik E ∈ wsL_law ∧ Cond.initialized E ∈ wsL_law ∧ (∀ w ∈ (vx_at0 own ic E [eR, eX]).filter goodWord, w ∈ wsL_law) ∧ (∀ w ∈ (vx_at0 own ic E [eR, eX]).filter (fun w => !goodWord w), w ∈ fwd) ∧ ∀ w ∈ Cond.classLink own ik E :: Cond.initialized E :: vx_at0 own ic E [eR, eX], vx_ot w = true
theorem x_throw {ik ic mc ms : Nat} {E : String} (hth : TH M.1.cls ik ic E) (hm : Mh M = []) (d0 : decode (Mc M) pc = .ok (.new ik, 3)) (d3 : decode (Mc M) (pc + 3) = .ok (.dup, 1)) (d4 : decode (Mc M) (pc + 4) = .ok (.invokespecial ic, 3)) (d7 : decode (Mc M) (pc + 7) = .ok (.athrow, 1))
    (hdp : 6 ≤ d) (hrs : (st.map fun v => v.category).sum ≤ 100) (h1 : k + 1 ≤ mc) (h2 : n + 6 ≤ ms) : Ex X M al d pc lv st h k n (.inr E, h, mc, ms) := by
  intro l D cy base b p e R s m args below meth c H locs ls C hl hH hS hA
  obtain ⟨hfit, hcl, hini, hgw, hbw, hot⟩ := hth
  have hrr : d ≤ R.frames ∧ 34 * d ≤ R.locals ∧ mc ≤ R.cells ∧ ms ≤ R.slots := C.R
  refine vx_throw0 (names := [eR, eX]) C.1 C.2.1 C.2.2.2.2.2.2.2.2.2.2.1 C.2.2.2.1 hfit (by decide) (C.2.2.2.2.1 _ hcl) (C.2.2.2.2.1 _ hini)
    (vx_hat (fun w hw => C.2.2.2.2.1 w (hgw w hw)) hbw (fun w hw => va_Nw.use (by have hk : (fwd.all fun w => w.onTables) = true := by decide +kernel
                                                                                  exact List.all_eq_true.mp hk w hw) (C.K.2.1 w hw))) hot C.Z.1 C.Z.2.1 hS (hl.1.trans C.2.2.1.symm) d0 d3 d4 d7
    (fun x hx => by rw [C.T, hm] at hx; cases hx) (by show 2 + 3 < R.frames; omega) (by rw [cats]; show _ + (13 * 3 + 42) ≤ _; omega) (by omega) (by omega) C.2.2.2.2.2.2.1 (fun t hvm hz hk => ⟨⟨Nat.le_trans hS.1 hz, fun q hq1 hq2 => ?_⟩, rfl, hH.1.kept (fun j x hx => hk x.1 (hH.1 j x hx).lt), Nat.le_trans hH.2 hz⟩) hS.2.2 h1 h2
  rw [hk q (Nat.lt_of_lt_of_le hq1 hS.1)]
  exact hS.2.1 q hq1 hq2
/-! calls -/
/-- what is known of a method that is called: np its parameters' number -/
def MF (N : Mt) (np : Nat) : Prop := Mw N ∈ wsL_law ∧ Cond.initialized N.1.cls ∈ wsL_law ∧ (N.1.cls ≠ "java/lang/invoke/MethodHandle" ∧ N.1.cls ≠ "java/lang/invoke/VarHandle" ∧ (parseMethodDescriptor N.1.desc).map (fun d => d.parameters.length) = some np) ∧ Mn N ≤ 15
theorem goodC (h0 : Mw N ∈ wsL_law) : GoodIn wsL_law (Mw N :: wsL_law) := fun w hw => by
  have h1 : w ∈ wsL_law := (List.mem_cons.mp hw).elim (fun e => e ▸ h0) id
  exact ⟨h1, good_of_word (wsL_good w h1)⟩
theorem Mw_plain (hm : Mh N = []) : Mw N = .code N.1 (Mc N) (Mn N) (Mr N) := by unfold Mw; rw [if_pos hm]
theorem PcR.blind {X : XS} {D : va_G} {cy : Nat → ClassId} {base b : Nat} {al : Bool} {as : List Value} {h : MH} : FrameBlind (PcR X D cy base b al as h) := fun a U g mk q => by
  obtain ⟨q1, q2, q3, q4, q5⟩ := q
  exact ⟨q1, Kf.moved (U := U.calling g mk a) (State.WarmedH.refl U) q2, q3, Zs.moved (U := U.calling g mk a) (Vm.Alike.refl U.vm) q4, q5⟩
theorem PcR.now {X : XS} {M : Mt} {d mc ms : Nat} {l : Launch} {D : va_G} {cy : Nat → ClassId} {base b : Nat} {p : Program} {R : Room} {s : State} {m : MethodId} {args : Array Value} {meth : Method} {c : Code} {as : List Value} {H : Heap} {locs : List Loc}
    (C : Cx X M d mc ms l D cy base b p R s m args meth c) (hH : Hd D cy base b h H) (hS : va_S (fun q : Nat => base ≤ q) s.heap H locs) (hz : al = true → H.size = base + h.length) (U : State) (hU : U.heap = H) (hW : s.WarmedH U.vm) : PcR X D cy base b al as h (as.map (mv base b)).toArray U :=
  ⟨rfl, C.K.moved hW, by rw [hU]; exact hH, by rw [hU]; exact (C.Z.kept hS.2.1).moved hW.alike, fun z => by rw [hU]; exact hz z⟩
/-- behind a call that answers -/
theorem x_back {v : Option Value} {p : Program} {l : Launch} {e : Env} {R : Room} {s : State} {m : MethodId} {args : Array Value} {below : List Frame} {meth : Method} {c : Code} {H : Heap} {locs : List Loc} {ls : Array Slot} {D : va_G} {cy : Nat → ClassId} {base b : Nat} {st0 : List Value} {a : Array Value}
    (hr : vx_Run p l e R s m args below meth c H locs k n r1.2.2.1 r1.2.2.2 (F0 m pc ls st0) (st.map (mv base b)) (QcR D cy base b r1 a) (XcR D cy base b r1) (fun q : Nat => base ≤ q)) (hv : r1.1 = .inl v)
    (C : Cx X M d r.2.2.1 r.2.2.2 l D cy base b p R s m args meth c) (hl : LV base b (Mn M) ls lv) (hS : va_S (fun q : Nat => base ≤ q) s.heap H locs) (hA : al = true → s.heap.size + (k + r1.2.2.1) = base + r1.2.1.length)
    (kk : Ex X M al d (pc + 3) lv (v.toList ++ st) r1.2.1 (k + r1.2.2.1) (n + r1.2.2.2) r) :
    W p l e R s m args below meth c H locs k n (vx_MQ below (QcR D cy base b r) (XcR D cy base b r) args s r.2.2.1 r.2.2.2 (fun q : Nat => base ≤ q)) (F0 m pc ls st0) := by
  intro T hT Y
  rcases hr T hT Y with ⟨w, st₀, t, T', L, h0, Y', hL, e1, e2, ⟨hF, v', hv', ho, hd'⟩, go⟩ | ⟨q, st₀, t, T', L, E, ce, h0, Y', hL, e1, e2, ⟨hF, hv', -⟩, -⟩
  · rw [hv] at hv'
    cases hv'
    cases ho
    obtain ⟨k1, k2, k3⟩ := vx_keep h0 e1 hS (fun q _ z => z) (fun q z => z) hL hF
    obtain ⟨t2, a1, b1⟩ := kk l D cy base b p e R s m args below meth c T'.heap (locs ++ L) ls C hl (by rw [e1]; exact hd') k3 hA T' rfl Y'
    refine ⟨t2, go t2 ?_, b1⟩
    cases v with
    | none => exact a1
    | some v => exact a1
  · rw [hv] at hv'
    cases hv'
/-- behind a call that throws, in a method without a table -/
theorem x_backT {E : String} {mc ms : Nat} {p : Program} {l : Launch} {e : Env} {R : Room} {s : State} {m : MethodId} {args : Array Value} {below : List Frame} {meth : Method} {c : Code} {H : Heap} {locs : List Loc} {ls : Array Slot} {D : va_G} {cy : Nat → ClassId} {base b : Nat} {st0 : List Value} {a : Array Value}
    (hr : vx_Run p l e R s m args below meth c H locs k n r1.2.2.1 r1.2.2.2 (F0 m pc ls st0) (st.map (mv base b)) (QcR D cy base b r1 a) (XcR D cy base b r1) (fun q : Nat => base ≤ q)) (hv : r1.1 = .inr E) (hm : Mh M = [])
    (C : Cx X M d mc ms l D cy base b p R s m args meth c) (hS : va_S (fun q : Nat => base ≤ q) s.heap H locs) (h1 : k + r1.2.2.1 ≤ mc) (h2 : n + r1.2.2.2 ≤ ms) :
    W p l e R s m args below meth c H locs k n (vx_MQ below (QcR D cy base b (.inr E, r1.2.1, mc, ms)) (XcR D cy base b (.inr E, r1.2.1, mc, ms)) args s mc ms (fun q : Nat => base ≤ q)) (F0 m pc ls st0) := by
  intro T hT Y
  rcases hr T hT Y with ⟨w, st₀, t, T', L, h0, Y', hL, e1, e2, ⟨hF, v', hv', -⟩, go⟩ | ⟨q, st₀, t, T', L, E', ce, h0, Y', hL, e1, e2, ⟨hF, hv', hd'⟩, hce, hcv, hcl, go⟩
  · rw [hv] at hv'
    cases hv'
  · rw [hv] at hv'
    cases hv'
    obtain ⟨k1, k2, k3⟩ := vx_keep h0 e1 hS (fun q _ z => z) (fun q z => z) hL hF
    have K : vx_W p l e R s m args below meth c T'.heap (locs ++ L) (k + r1.2.2.1) (n + r1.2.2.2) (vx_MQ below (QcR D cy base b (.inr E, r1.2.1, mc, ms)) (XcR D cy base b (.inr E, r1.2.1, mc, ms)) args s mc ms (fun q : Nat => base ≤ q)) (F0 m pc ls (st.map (mv base b))) q :=
      vx_out (fun x hx => by rw [C.T, hm] at hx; cases hx) C.2.2.2.2.2.2.1 (by rw [e1]; exact hce) hcv hcl (fun t2 ht2 hvm => ⟨k3.F ht2, rfl, by rw [ht2, e1]; exact hd'⟩) k3.2.2 h1 h2
    obtain ⟨t2, a1, b1⟩ := K T' rfl Y'
    exact ⟨t2, go.trans a1, b1⟩
/-- behind a call that throws: caught by a row of this method's table -/
theorem x_backC {E nm : String} {p : Program} {l : Launch} {e : Env} {R : Room} {s : State} {m : MethodId} {args : Array Value} {below : List Frame} {meth : Method} {c : Code} {H : Heap} {locs : List Loc} {ls : Array Slot} {D : va_G} {cy : Nat → ClassId} {base b : Nat} {st0 : List Value} {a : Array Value}
    (hr : vx_Run p l e R s m args below meth c H locs k n r1.2.2.1 r1.2.2.2 (F0 m pc ls st0) (st.map (mv base b)) (QcR D cy base b r1 a) (XcR D cy base b r1) (fun q : Nat => base ≤ q)) (hv : r1.1 = .inr E)
    (pre : List ExceptionTableEntry) (x : ExceptionTableEntry) (suf : List ExceptionTableEntry) (hsplit : tableOf (Mh M) = pre ++ x :: suf)
    (hpass : ∀ z ∈ pre, covers z pc = false ∨ (z.catchType ≠ 0 ∧ ∃ nm : String, Cond.classLink M.1.cls z.catchType nm ∈ wsL_law ∧ (E, nm) ∈ ncl)) (hx : covers x pc = true) (h0 : x.catchType ≠ 0) (hlink : Cond.classLink M.1.cls x.catchType nm ∈ wsL_law) (hcast : Cond.castable E nm ∈ fwd)
    (C : Cx X M d r.2.2.1 r.2.2.2 l D cy base b p R s m args meth c) (hl : LV base b (Mn M) ls lv) (hS : va_S (fun q : Nat => base ≤ q) s.heap H locs)
    (kk : ∀ q : Nat, Ex X M false d x.handlerPc lv [.retAddr q] r1.2.1 (k + r1.2.2.1) (n + r1.2.2.2) r) :
    W p l e R s m args below meth c H locs k n (vx_MQ below (QcR D cy base b r) (XcR D cy base b r) args s r.2.2.1 r.2.2.2 (fun q : Nat => base ≤ q)) (F0 m pc ls st0) := by
  intro T hT Y
  rcases hr T hT Y with ⟨w, st₀, t, T', L, h0', Y', hL, e1, e2, ⟨hF, v', hv', -⟩, go⟩ | ⟨q, st₀, t, T', L, E', ce, h0', Y', hL, e1, e2, ⟨hF, hv', hd'⟩, hce, hcv, hcl, go⟩
  · rw [hv] at hv'
    cases hv'
  · rw [hv] at hv'
    cases hv'
    obtain ⟨k1, k2, k3⟩ := vx_keep h0' e1 hS (fun q _ z => z) (fun q z => z) hL hF
    have K : vx_W p l e R s m args below meth c T'.heap (locs ++ L) (k + r1.2.2.1) (n + r1.2.2.2) (vx_MQ below (QcR D cy base b r) (XcR D cy base b r) args s r.2.2.1 r.2.2.2 (fun q : Nat => base ≤ q)) (F0 m pc ls (st.map (mv base b))) q :=
      vx_catch C.2.2.2.1 pre x suf (C.T.trans hsplit) (fun z hz => (hpass z hz).elim Or.inl (fun ⟨a1, nm2, a2, a3⟩ => Or.inr ⟨a1, nm2, C.2.2.2.2.1 _ a2, C.K.2.2.2.2 _ a3⟩)) hx h0 (C.2.2.2.2.1 _ hlink)
        (va_Nw.use rfl (C.K.2.1 _ hcast)) (by rw [e1]; exact hce) hcv hcl (kk q l D cy base b p e R s m args below meth c T'.heap (locs ++ L) ls C hl (by rw [e1]; exact hd') k3 (fun z => by cases z))
    obtain ⟨t2, a1, b1⟩ := K T' rfl Y'
    exact ⟨t2, go.trans a1, b1⟩
/-- the entry of a virtual call -/
def LKV (own : String) (idx : Nat) (N : Mt) : Prop := Cond.methodLink own idx N.1 ∈ wsL_law ∧ Cond.instanceMethod N.1 ∈ wsL_law ∧ Cond.selects N.1.cls N.1 N.1 ∈ wsL_law
def LKS (own : String) (idx : Nat) (N : Mt) : Prop := Cond.methodLink own idx N.1 ∈ wsL_law ∧ Cond.static N.1 ∈ wsL_law
theorem cb_of {p : Program} {l : Launch} {R : Room} {s : State} {m : MethodId} {args : Array Value} {meth : Method} {c : Code} {D : va_G} {cy : Nat → ClassId} {base b np idx mc ms : Nat} (C : Cx X M (d + 1) mc ms l D cy base b p R s m args meth c) (hN : MF N np) (hm : Mh N = []) (hlk : Cond.methodLink M.1.cls idx N.1 ∈ wsL_law) (mc1 ms1 : Nat) :
    CallB R s args M.1.cls idx N.1 (Mc N) (Mn N) (Mr N) (Mw N :: wsL_law) (rmd d mc1 ms1) mc1 ms1 np := by
  have hrr := C.R
  exact callB_of np C.2.2.2.2.1 (goodC hN.1) (by rw [Mw_plain hm]) rfl rfl (C.2.2.2.2.1 _ hN.2.1) (C.2.2.2.2.1 _ hlk) hN.2.2.1 ⟨by show d + 1 ≤ R.frames; omega, by have := hN.2.2.2; show 8 + (Mn N + 11) + 34 * d ≤ R.locals; omega⟩
theorem run_V {as : List Value} {p : Program} {l : Launch} {e : Env} {R : Room} {s : State} {m : MethodId} {args : Array Value} {below : List Frame} {meth : Method} {c : Code} {H : Heap} {locs : List Loc} {ls : Array Slot} {D : va_G} {cy : Nat → ClassId} {base b np idx a ci mc ms : Nat} {fs : List Value} {q : vw_C}
    (hd : decode (Mc M) pc = .ok (.invokevirtual idx, 3)) (hN : MF N np) (hm : Mh N = []) (hlk : LKV M.1.cls idx N) (hnp : as.length = np) (hc : h[a]? = some (.inr (ci, fs))) (hq : vwCl[ci]? = some q) (hqn : q.1 = N.1.cls) (hrs : (st.map fun v => v.category).sum ≤ 8) (hC : Call X N al d (.ref a :: as) h r1) (h1 : k + r1.2.2.1 ≤ mc) (h2 : n + r1.2.2.2 ≤ ms)
    (C : Cx X M (d + 1) mc ms l D cy base b p R s m args meth c) (hl : LV base b (Mn M) ls lv) (hH : Hd D cy base b h H) (hS : va_S (fun q : Nat => base ≤ q) s.heap H locs) (hz : al = true → H.size = base + h.length) :
    vx_Run p l e R s m args below meth c H locs k n r1.2.2.1 r1.2.2.2 (F0 m pc ls ((as.reverse ++ .ref a :: st).map (mv base b))) (st.map (mv base b)) (QcR D cy base b r1 (Value.ref (base + a) :: as.map (mv base b)).toArray) (XcR D cy base b r1) (fun q : Nat => base ≤ q) := by
  have hrr := C.R
  have hcb := cb_of C hN hm hlk.1 r1.2.2.1 r1.2.2.2
  refine vx_runV (As := as.map (mv base b)) ⟨C.1, C.2.1, C.2.2.1, C.2.2.2.1, C.2.2.2.2.1⟩ (hC l D cy base b C.2.2.2.2.2.2.2.2.2.2.1) ⟨hcb, C.2.2.2.2.1 _ hlk.2.1, C.2.2.2.2.1 _ hlk.2.2⟩ ⟨PcR.blind, ?_, fun U hU hW => PcR.now C hH hS hz U hU hW⟩ rfl (by rw [List.length_map]; exact hnp) hl.1 (by rw [List.map_append, List.map_reverse]; rfl) (by rw [cats]; exact lv_room (m := m) (pc := pc) (ls := ls) (rest := []) hrs) hd ⟨by omega, by omega⟩
  have := va_recv C.K.1 hH.1 hq (mw_get (cy := cy) (base := base) (b := b) hc)
  rw [hqn] at this
  exact this
theorem x_invV {as : List Value} {v : Option Value} {np idx a ci : Nat} {fs : List Value} {q : vw_C} (hd : decode (Mc M) pc = .ok (.invokevirtual idx, 3)) (hN : MF N np) (hm : Mh N = []) (hlk : LKV M.1.cls idx N) (hnp : as.length = np) (hc : h[a]? = some (.inr (ci, fs))) (hq : vwCl[ci]? = some q) (hqn : q.1 = N.1.cls) (hrs : (st.map fun v => v.category).sum ≤ 8)
    (hC : Call X N al d (.ref a :: as) h r1) (hv : r1.1 = .inl v) (hlen : al = true → r1.2.1.length = h.length + r1.2.2.1) (h1 : k + r1.2.2.1 ≤ r.2.2.1) (h2 : n + r1.2.2.2 ≤ r.2.2.2)
    (kk : Ex X M al (d + 1) (pc + 3) lv (v.toList ++ st) r1.2.1 (k + r1.2.2.1) (n + r1.2.2.2) r) : Ex X M al (d + 1) pc lv (as.reverse ++ .ref a :: st) h k n r := by
  intro l D cy base b p e R s m args below meth c H locs ls C hl hH hS hA
  refine W.size fun hsz => ?_
  exact x_back (run_V hd hN hm hlk hnp hc hq hqn hrs hC h1 h2 C hl hH hS (fun z => Nat.le_antisymm (by have := hA z; omega) hH.top)) hv C hl hS (fun z => by rw [hlen z]; have := hA z; omega) kk
theorem x_invVT {as : List Value} {E : String} {np idx a ci mc ms : Nat} {fs : List Value} {q : vw_C} (hd : decode (Mc M) pc = .ok (.invokevirtual idx, 3)) (hN : MF N np) (hm : Mh N = []) (hmM : Mh M = []) (hlk : LKV M.1.cls idx N) (hnp : as.length = np) (hc : h[a]? = some (.inr (ci, fs))) (hq : vwCl[ci]? = some q) (hqn : q.1 = N.1.cls) (hrs : (st.map fun v => v.category).sum ≤ 8)
    (hC : Call X N al d (.ref a :: as) h r1) (hv : r1.1 = .inr E) (h1 : k + r1.2.2.1 ≤ mc) (h2 : n + r1.2.2.2 ≤ ms) : Ex X M al (d + 1) pc lv (as.reverse ++ .ref a :: st) h k n (.inr E, r1.2.1, mc, ms) := by
  intro l D cy base b p e R s m args below meth c H locs ls C hl hH hS hA
  refine W.size fun hsz => ?_
  exact x_backT (run_V hd hN hm hlk hnp hc hq hqn hrs hC h1 h2 C hl hH hS (fun z => Nat.le_antisymm (by have := hA z; omega) hH.top)) hv hmM C hS h1 h2
theorem x_invVC {as : List Value} {E nm : String} {np idx a ci : Nat} {fs : List Value} {q : vw_C} (hd : decode (Mc M) pc = .ok (.invokevirtual idx, 3)) (hN : MF N np) (hm : Mh N = []) (hlk : LKV M.1.cls idx N) (hnp : as.length = np) (hc : h[a]? = some (.inr (ci, fs))) (hq : vwCl[ci]? = some q) (hqn : q.1 = N.1.cls) (hrs : (st.map fun v => v.category).sum ≤ 8)
    (hC : Call X N al d (.ref a :: as) h r1) (hv : r1.1 = .inr E) (h1 : k + r1.2.2.1 ≤ r.2.2.1) (h2 : n + r1.2.2.2 ≤ r.2.2.2)
    (pre : List ExceptionTableEntry) (x : ExceptionTableEntry) (suf : List ExceptionTableEntry) (hsplit : tableOf (Mh M) = pre ++ x :: suf)
    (hpass : ∀ z ∈ pre, covers z pc = false ∨ (z.catchType ≠ 0 ∧ ∃ nm : String, Cond.classLink M.1.cls z.catchType nm ∈ wsL_law ∧ (E, nm) ∈ ncl)) (hx : covers x pc = true) (h0 : x.catchType ≠ 0) (hlink : Cond.classLink M.1.cls x.catchType nm ∈ wsL_law) (hcast : Cond.castable E nm ∈ fwd)
    (kk : ∀ q : Nat, Ex X M false (d + 1) x.handlerPc lv [.retAddr q] r1.2.1 (k + r1.2.2.1) (n + r1.2.2.2) r) : Ex X M al (d + 1) pc lv (as.reverse ++ .ref a :: st) h k n r := by
  intro l D cy base b p e R s m args below meth c H locs ls C hl hH hS hA
  refine W.size fun hsz => ?_
  exact x_backC (run_V hd hN hm hlk hnp hc hq hqn hrs hC h1 h2 C hl hH hS (fun z => Nat.le_antisymm (by have := hA z; omega) hH.top)) hv pre x suf hsplit hpass hx h0 hlink hcast C hl hS kk
theorem run_S {as : List Value} {p : Program} {l : Launch} {e : Env} {R : Room} {s : State} {m : MethodId} {args : Array Value} {below : List Frame} {meth : Method} {c : Code} {H : Heap} {locs : List Loc} {ls : Array Slot} {D : va_G} {cy : Nat → ClassId} {base b np idx mc ms : Nat}
    (hd : decode (Mc M) pc = .ok (.invokestatic idx, 3)) (hN : MF N np) (hm : Mh N = []) (hlk : LKS M.1.cls idx N) (hnp : as.length = np) (hrs : (st.map fun v => v.category).sum ≤ 8) (hC : Call X N al d as h r1) (h1 : k + r1.2.2.1 ≤ mc) (h2 : n + r1.2.2.2 ≤ ms)
    (C : Cx X M (d + 1) mc ms l D cy base b p R s m args meth c) (hl : LV base b (Mn M) ls lv) (hH : Hd D cy base b h H) (hS : va_S (fun q : Nat => base ≤ q) s.heap H locs) (hz : al = true → H.size = base + h.length) :
    vx_Run p l e R s m args below meth c H locs k n r1.2.2.1 r1.2.2.2 (F0 m pc ls ((as.reverse ++ st).map (mv base b))) (st.map (mv base b)) (QcR D cy base b r1 (as.map (mv base b)).toArray) (XcR D cy base b r1) (fun q : Nat => base ≤ q) := by
  have hrr := C.R
  have hcb := cb_of C hN hm hlk.1 r1.2.2.1 r1.2.2.2
  exact vx_runS (As := as.map (mv base b)) ⟨C.1, C.2.1, C.2.2.1, C.2.2.2.1, C.2.2.2.2.1⟩ (hC l D cy base b C.2.2.2.2.2.2.2.2.2.2.1) ⟨hcb, C.2.2.2.2.1 _ hlk.2⟩ ⟨PcR.blind, fun U hU hW => PcR.now C hH hS hz U hU hW⟩ rfl (by rw [List.length_map]; exact hnp) hl.1 (by rw [List.map_append, List.map_reverse]) (by rw [cats]; exact lv_room (m := m) (pc := pc) (ls := ls) (rest := []) hrs) hd ⟨by omega, by omega⟩
theorem x_invS {as : List Value} {v : Option Value} {np idx : Nat} (hd : decode (Mc M) pc = .ok (.invokestatic idx, 3)) (hN : MF N np) (hm : Mh N = []) (hlk : LKS M.1.cls idx N) (hnp : as.length = np) (hrs : (st.map fun v => v.category).sum ≤ 8)
    (hC : Call X N al d as h r1) (hv : r1.1 = .inl v) (hlen : al = true → r1.2.1.length = h.length + r1.2.2.1) (h1 : k + r1.2.2.1 ≤ r.2.2.1) (h2 : n + r1.2.2.2 ≤ r.2.2.2)
    (kk : Ex X M al (d + 1) (pc + 3) lv (v.toList ++ st) r1.2.1 (k + r1.2.2.1) (n + r1.2.2.2) r) : Ex X M al (d + 1) pc lv (as.reverse ++ st) h k n r := by
  intro l D cy base b p e R s m args below meth c H locs ls C hl hH hS hA
  refine W.size fun hsz => ?_
  exact x_back (run_S hd hN hm hlk hnp hrs hC h1 h2 C hl hH hS (fun z => Nat.le_antisymm (by have := hA z; omega) hH.top)) hv C hl hS (fun z => by rw [hlen z]; have := hA z; omega) kk
theorem x_invST {as : List Value} {E : String} {np idx mc ms : Nat} (hd : decode (Mc M) pc = .ok (.invokestatic idx, 3)) (hN : MF N np) (hm : Mh N = []) (hmM : Mh M = []) (hlk : LKS M.1.cls idx N) (hnp : as.length = np) (hrs : (st.map fun v => v.category).sum ≤ 8)
    (hC : Call X N al d as h r1) (hv : r1.1 = .inr E) (h1 : k + r1.2.2.1 ≤ mc) (h2 : n + r1.2.2.2 ≤ ms) : Ex X M al (d + 1) pc lv (as.reverse ++ st) h k n (.inr E, r1.2.1, mc, ms) := by
  intro l D cy base b p e R s m args below meth c H locs ls C hl hH hS hA
  refine W.size fun hsz => ?_
  exact x_backT (run_S hd hN hm hlk hnp hrs hC h1 h2 C hl hH hS (fun z => Nat.le_antisymm (by have := hA z; omega) hH.top)) hv hmM C hS h1 h2
/-- a static call of a method with a table -/
theorem x_invSH {as : List Value} {v : Option Value} {np idx : Nat} (hd : decode (Mc M) pc = .ok (.invokestatic idx, 3)) (hN : MF N np) (hm : ¬ Mh N = []) (hlk : LKS M.1.cls idx N) (hnp : as.length = np) (hrs : (st.map fun v => v.category).sum ≤ 8)
    (hC : Call X N al d as h r1) (hv : r1.1 = .inl v) (hlen : al = true → r1.2.1.length = h.length + r1.2.2.1) (h1 : k + r1.2.2.1 ≤ r.2.2.1) (h2 : n + r1.2.2.2 ≤ r.2.2.2)
    (kk : Ex X M al (d + 1) (pc + 3) lv (v.toList ++ st) r1.2.1 (k + r1.2.2.1) (n + r1.2.2.2) r) : Ex X M al (d + 1) pc lv (as.reverse ++ st) h k n r := by
  intro l D cy base b p e R s m args below meth c H locs ls C hl hH hS hA
  refine W.size fun hsz => ?_
  have hz : al = true → H.size = base + h.length := fun z => Nat.le_antisymm (by have := hA z; omega) hH.top
  have hrr := C.R
  have hMw : Mw N = .codeWith N.1 (Mc N) (Mn N) (Mr N) (Mh N) := by unfold Mw; rw [if_neg hm]
  have ht := C.2.2.2.2.1
  have hcs : vx_CSW R s args M.1.cls idx N.1 (Mc N) (Mn N) (Mr N) (Mh N) (Mw N :: wsL_law) (rmd d r1.2.2.1 r1.2.2.2) r1.2.2.1 r1.2.2.2 np := by
    refine ⟨⟨rfl, rfl, by show d + 1 ≤ R.frames; omega, by have := hN.2.2.2; show 8 + (Mn N + 11) + 34 * d ≤ R.locals; omega, pay_in ht (goodC hN.1), by rw [hMw]; exact List.mem_cons_self⟩, by rw [← hMw]; exact ht _ hN.1, ht _ hN.2.1, ⟨hN.2.2.1.1, hN.2.2.1.2.1⟩, fun sig hs => ?_, ht _ hlk.1, ht _ hlk.2⟩
    have h9 := hN.2.2.1.2.2
    rw [hs] at h9
    exact (Option.some.inj h9).symm
  have hrun : vx_Run p l e R s m args below meth c H locs k n r1.2.2.1 r1.2.2.2 (F0 m pc ls ((as.reverse ++ st).map (mv base b))) (st.map (mv base b)) (QcR D cy base b r1 (as.map (mv base b)).toArray) (XcR D cy base b r1) (fun q : Nat => base ≤ q) :=
    vx_runSX (As := as.map (mv base b)) ⟨C.1, C.2.1, C.2.2.1, C.2.2.2.1, C.2.2.2.2.1⟩ (hC l D cy base b C.2.2.2.2.2.2.2.2.2.2.1) hcs ⟨PcR.blind, fun U hU hW => PcR.now C hH hS hz U hU hW⟩ rfl (by rw [List.length_map]; exact hnp) hl.1 (by rw [List.map_append, List.map_reverse]) (by rw [cats]; exact lv_room (m := m) (pc := pc) (ls := ls) (rest := []) hrs) hd ⟨by omega, by omega⟩
  exact x_back hrun hv C hl hS (fun z => by rw [hlen z]; have := hA z; omega) kk
/-! constructors, and what a contract is -/
theorem met_of {l : Launch} {y : MethodName} {ws : List Cond} {rm : Room} {Pc : Array Value → State → Prop} {D : va_G} {cy : Nat → ClassId} {base b mc ms : Nat} {free : Addr → Prop} {v : Option Value} (hv : r1.1 = .inl v) (hM : vx_Met l y ws rm Pc (QcR D cy base b r1) (XcR D cy base b r1) mc ms free) : Met l y ws rm Pc (QcR D cy base b r1) mc ms free := by
  intro p e ha hc hk s m args below hf happ hP htr
  obtain ⟨j, o, h1, h2, h3, hQ⟩ := hM p e ha hc hk s m args below hf happ hP htr
  refine ⟨j, o, h1, h2, h3, ?_⟩
  rcases hQ with hQ | ⟨q, ho, E, ce, L, ⟨-, hx, -⟩, -⟩
  · exact hQ
  · rw [hv] at hx
    cases hx
theorem va_backR {v : Option Value} {p : Program} {l : Launch} {e : Env} {R : Room} {s : State} {m : MethodId} {args : Array Value} {below : List Frame} {meth : Method} {c : Code} {H : Heap} {locs : List Loc} {g : JFrame} {rest : List Value} {D : va_G} {cy : Nat → ClassId} {base b mc ms : Nat} {a : Array Value} {free : Addr → Prop} (hr : va_Run p l e R s m args below meth c H locs k n mc ms g rest (QcR D cy base b r1 a) free) :
    vx_Run p l e R s m args below meth c H locs k n mc ms g rest (QcR D cy base b r1 a) (XcR D cy base b r1) free := fun T hT Y => Or.inl (hr T hT Y)
def LKI (own : String) (idx : Nat) (N : Mt) : Prop := Cond.instanceMethod N.1 ∈ wsL_law ∧ N.1.name = "<init>" ∧ Mr N = none ∧ (Cond.methodLink own idx N.1 ∈ wsL_law ∨ ∃ host, (own, idx, N.1, host) ∈ nsl)
theorem x_invI {as : List Value} {np idx a : Nat} (hd : decode (Mc M) pc = .ok (.invokespecial idx, 3)) (hN : MF N np) (hm : Mh N = []) (hlk : LKI M.1.cls idx N) (hnp : as.length = np) (hrs : (st.map fun v => v.category).sum ≤ 8)
    (hC : Call X N al d (.ref a :: as) h r1) (hv : r1.1 = .inl none) (hlen : al = true → r1.2.1.length = h.length + r1.2.2.1) (h1 : k + r1.2.2.1 ≤ r.2.2.1) (h2 : n + r1.2.2.2 ≤ r.2.2.2)
    (kk : Ex X M al (d + 1) (pc + 3) lv st r1.2.1 (k + r1.2.2.1) (n + r1.2.2.2) r) : Ex X M al (d + 1) pc lv (as.reverse ++ .ref a :: st) h k n r := by
  intro l D cy base b p e R s m args below meth c H locs ls C hl hH hS hA
  refine W.size fun hsz => ?_
  have hz : al = true → H.size = base + h.length := fun z => Nat.le_antisymm (by have := hA z; omega) hH.top
  have hrr := C.R
  obtain ⟨hin, hnm, hrt, hlk⟩ := hlk
  have ht := C.2.2.2.2.1
  have hMet := met_of hv (hC l D cy base b C.2.2.2.2.2.2.2.2.2.2.1)
  have hR : (rmd d r1.2.2.1 r1.2.2.2).frames + 1 ≤ R.frames ∧ 8 + (Mn N + 11) + (rmd d r1.2.2.1 r1.2.2.2).locals ≤ R.locals := ⟨by show d + 1 ≤ R.frames; omega, by have := hN.2.2.2; show 8 + (Mn N + 11) + 34 * d ≤ R.locals; omega⟩
  have hMw := Mw_plain hm
  rw [hrt] at hMw
  have hrun : va_Run p l e R s m args below meth c H locs k n r1.2.2.1 r1.2.2.2 (F0 m pc ls ((as.reverse ++ .ref a :: st).map (mv base b))) (st.map (mv base b)) (QcR D cy base b r1 (Value.ref (base + a) :: as.map (mv base b)).toArray) (fun q : Nat => base ≤ q) := by
    rcases hlk with hlk | ⟨host, hlk⟩
    · exact va_runI (As := as.map (mv base b)) ⟨C.1, C.2.1, C.2.2.1, C.2.2.2.1, ht⟩ hMet ⟨callB_of np ht (goodC hN.1) (by rw [hMw]) rfl rfl (ht _ hN.2.1) (ht _ hlk) hN.2.2.1 hR, hnm, ht _ hin⟩ ⟨PcR.blind, fun U hU hW => PcR.now C hH hS hz U hU hW⟩ rfl (by rw [List.length_map]; exact hnp) hl.1 (by rw [List.map_append, List.map_reverse]; rfl) (by rw [cats]; exact lv_room (m := m) (pc := pc) (ls := ls) (rest := []) hrs) hd ⟨by omega, by omega⟩
    · exact va_runIN (As := as.map (mv base b)) ⟨C.1, C.2.1, C.2.2.1, C.2.2.2.1, ht⟩ hMet ⟨va_cnB np ht (goodC hN.1) (by rw [hMw]) rfl rfl (C.K.2.2.1 _ hlk) (ht _ hN.2.1) hN.2.2.1 hR, hnm, ht _ hin⟩ ⟨PcR.blind, fun U hU hW => PcR.now C hH hS hz U hU hW⟩ rfl (by rw [List.length_map]; exact hnp) hl.1 (by rw [List.map_append, List.map_reverse]; rfl) (by rw [cats]; exact lv_room (m := m) (pc := pc) (ls := ls) (rest := []) hrs) hd ⟨by omega, by omega⟩
  exact x_back (v := none) (va_backR (v := none) hrun) hv C hl hS (fun z => by rw [hlen z]; have := hA z; omega) kk
theorem args_at : ∀ (vs : List Value) (j i : Nat) (v : Value), (∀ v ∈ vs, v.category = 1) → vs[i]? = some v → (j + i, v) ∈ lv_args j vs
  | [], j, i, v, _, h => by simp at h
  | w :: vs, j, i, v, hc, h => by
    have hw : w.category = 1 := hc w List.mem_cons_self
    cases i with
    | zero =>
      simp at h
      subst h
      simp [lv_args]
    | succ i =>
      have h1 : vs[i]? = some v := by simpa using h
      have h2 := args_at vs (j + 1) i v (fun v hv => hc v (List.mem_cons_of_mem _ hv)) h1
      have e1 : j + 1 + i = j + (i + 1) := by omega
      rw [e1] at h2
      simp only [lv_args, hw]
      exact List.mem_cons_of_mem _ h2
theorem LV.entry {base b nL : Nat} {as : List Value} (hc : ∀ v ∈ as, v.category = 1) (hl : as.length ≤ nL) : LV base b nL ((lg_sl (as.map (mv base b)) ++ List.replicate (nL - (lg_sl (as.map (mv base b))).length) Slot.unset).toArray) (as.map some ++ List.replicate (nL - as.length) none) := by
  have hc2 : ∀ v ∈ as.map (mv base b), v.category = 1 := fun v hv => by
    obtain ⟨w, hw, rfl⟩ := List.mem_map.mp hv
    rw [mv_cat]; exact hc w hw
  have hlen : ∀ vs : List Value, (∀ v ∈ vs, v.category = 1) → (lg_sl vs).length = vs.length := by
    intro vs
    induction vs with
    | nil => intro _; rfl
    | cons w vs ih =>
      intro h
      have hw : w.category = 1 := h w List.mem_cons_self
      have h2 := ih (fun v hv => h v (List.mem_cons_of_mem _ hv))
      simp only [lg_sl] at h2 ⊢
      simp [List.flatMap_cons, hw, h2]
  have hE := lv_entry (as.map (mv base b)) (n := nL) (by rw [hlen _ hc2, List.length_map]; exact hl)
  refine ⟨hE.1, hE.2.1, fun i v hv => ?_⟩
  have hi : as[i]? = some v := by
    by_cases h1 : i < as.length
    · rw [List.getElem?_append_left (by simpa using h1), List.getElem?_map] at hv
      cases h2 : as[i]? with
      | none => rw [h2] at hv; cases hv
      | some w => rw [h2] at hv; cases hv; rfl
    · rw [List.getElem?_append_right (by simpa using h1)] at hv
      rw [List.getElem?_replicate] at hv
      split at hv <;> cases hv
  have hm : (as.map (mv base b))[i]? = some (mv base b v) := by rw [List.getElem?_map, hi]; rfl
  have h3 := args_at (as.map (mv base b)) 0 i (mv base b v) hc2 hm
  rw [Nat.zero_add] at h3
  exact ⟨hc v (List.mem_of_getElem? hi), hE.2.2 _ h3⟩
theorem Call.of {np : Nat} {as : List Value} (hN : MF M np) (hp : plainName M.1.cls = true) (hm : Mh M = []) (hc : ∀ v ∈ as, v.category = 1) (hl : as.length ≤ Mn M) (hlv : as.map some ++ List.replicate (Mn M - as.length) none = lv)
    (E : Ex X M al d 0 lv [] h 0 0 r) : Call X M al d as h r := by
  intro l D cy base b hst
  refine vx_ofW (cc := Mc M) (maxL := Mn M) (ret := Mr M) hp (by rw [Mw_plain hm]) ?_
  intro p e s m args below meth c s₁ B hml ht hv
  obtain ⟨rfl, hK, hH, hZ, hA⟩ := hv
  have hts := atoms_spec (ws := Mw M :: wsL_law) B.pre
  have htab : c.exceptionTable.toList = tableOf (Mh M) := by
    rw [hm]
    cases hq : c.exceptionTable.toList with
    | nil => rfl
    | cons x t => exact (ht x (by rw [hq]; exact List.mem_cons_self)).elim
  rw [lg_entry_eq]
  have hb0 : base ≤ s.heap.size := hH.2
  exact E l D cy base b p e _ s m _ below meth c s.heap [] _ ⟨B.exec, B.bytes, hml, findClass_of_methodNamed B.named, fun w hw => hts w (List.mem_cons_of_mem _ hw), B.returns, B.notSynchronized, (name_of_methodNamed B.named B.method).1, htab, ⟨Nat.le_refl _, Nat.le_refl _, Nat.le_refl _, Nat.le_refl _⟩, hst, hK, hZ, hb0⟩
    (hlv ▸ LV.entry hc hl) hH va_S.rf (fun z => by rw [hA z]; rfl)
theorem Call.ofH {np : Nat} {as : List Value} (hN : MF M np) (hp : plainName M.1.cls = true) (hm : ¬ Mh M = []) (hc : ∀ v ∈ as, v.category = 1) (hl : as.length ≤ Mn M) (hlv : as.map some ++ List.replicate (Mn M - as.length) none = lv)
    (E : Ex X M al d 0 lv [] h 0 0 r) : Call X M al d as h r := by
  intro l D cy base b hst
  have hMw : Mw M = .codeWith M.1 (Mc M) (Mn M) (Mr M) (Mh M) := by unfold Mw; rw [if_neg hm]
  refine vx_ofWH (cc := Mc M) (maxL := Mn M) (ret := Mr M) (hh := Mh M) hp (by rw [hMw]) ?_
  intro p e s m args below meth c s₁ B hml hv
  obtain ⟨rfl, hK, hH, hZ, hA⟩ := hv
  have hts := atoms_spec (ws := Mw M :: wsL_law) B.pre
  have htab : c.exceptionTable.toList = tableOf (Mh M) := vx_table (x := M.1) B (by rw [← hMw]; exact hts _ List.mem_cons_self)
  rw [lg_entry_eq]
  have hb0 : base ≤ s.heap.size := hH.2
  exact E l D cy base b p e _ s m _ below meth c s.heap [] _ ⟨B.exec, B.bytes, hml, findClass_of_methodNamed B.named, fun w hw => hts w (List.mem_cons_of_mem _ hw), B.returns, B.notSynchronized, (name_of_methodNamed B.named B.method).1, htab, ⟨Nat.le_refl _, Nat.le_refl _, Nat.le_refl _, Nat.le_refl _⟩, hst, hK, hZ, hb0⟩
    (hlv ▸ LV.entry hc hl) hH va_S.rf (fun z => by rw [hA z]; rfl)
end XC
