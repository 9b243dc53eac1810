/-! what the model's pieces keep -/
theorem give_get {T : St} {g m f i : Nat} (h2 : f ≠ 2) (h3 : f ≠ 3) (h4 : f ≠ 4) (h : ¬ (30 ≤ f ∧ f ≤ 38 ∧ i = g)) : (ml_give T g m).2.2.1 f i = T.2.2.1 f i := by
  unfold ml_give
  simp only
  rw [mt_get h2 h3 h4, ml_send_get h2 h3 h4, ml_send_get h2 h3 h4, gv0_get h]
theorem free_get {T : St} {g f i : Nat} (h2 : f ≠ 2) (h3 : f ≠ 3) (h4 : f ≠ 4) (h44 : f ≠ 44) (h : ¬ (30 ≤ f ∧ f ≤ 38 ∧ i = g)) : (ml_free T g).2.2.1 f i = T.2.2.1 f i := by
  have e : (ml_fr0 T g).2.2.1 f i = T.2.2.1 f i := by unfold ml_fr0; rw [sm_get, if_neg (by omega)]
  unfold ml_free
  split
  · rw [ml_send_get h2 h3 h4, e]
  · rw [give_get h2 h3 h4 h, sm_get, if_neg (by omega), e]
theorem clear_get {T : St} {g m f i : Nat} (h2 : f ≠ 2) (h3 : f ≠ 3) (h4 : f ≠ 4) (h44 : f ≠ 44) (h : ¬ (30 ≤ f ∧ f ≤ 38 ∧ i = g)) : (ml_clear T g m).2.2.1 f i = T.2.2.1 f i := by
  unfold ml_clear
  split
  · rw [free_get h2 h3 h4 h44 h, sm_get, if_neg (by omega)]
  · rw [sm_get, if_neg (by omega)]
/-! one goes from the row -/
theorem wt_sm {T : St} {i j : Nat} {v : Int32} : wtN (sm T 44 i v) j = if j = i then v.toNatClampNeg else wtN T j := by
  unfold wtN
  rw [sm_get]
  by_cases h : j = i
  · rw [if_pos ⟨rfl, h⟩, if_pos h]
  · rw [if_neg (fun q => h q.2), if_neg h]
theorem ky_sm {T : St} {f i j : Nat} {v : Int32} (h : ¬ (f = 42 ∨ f = 43) ∨ j ≠ i) : ky (sm T f i v) j = ky T j := by
  have e2 : (sm T f i v).2.2.1 42 j = T.2.2.1 42 j := by rw [sm_get, if_neg (by omega)]
  have e3 : (sm T f i v).2.2.1 43 j = T.2.2.1 43 j := by rw [sm_get, if_neg (by omega)]
  unfold ky
  rw [e2, e3]
theorem cl_0 : (0 : Int32).toNatClampNeg = 0 := by decide
theorem RF.w3 {x g : Nat} {S T : St} (h : RF x S T g) : RWt S T g := h.2.2.2.2.2.2.2.2.2
theorem RF.go {x g k : Nat} {S T : St} (h : RF x S T g) (hk : k < wN S g) : RF x (fl_go S g k) (sm T 44 (6 * g + rN S g k) 0) g := by
  obtain ⟨hI, h6, h7, hr, hn, hh, hc, hw2, hx, w1, w2, w3, w4⟩ := h
  have e1 : ∀ c, c ≠ 5 → (fl_go S g k).1 1 g c = S.1 1 g c := fun c hc => fl_go_get (by decide) (by omega)
  have e0 : ∀ a b c, a ≠ 1 → a ≠ 13 → (fl_go S g k).1 a b c = S.1 a b c := fun a b c h1 h2 => fl_go_get h2 (by omega)
  have t0 : ∀ f i, f ≠ 44 → (sm T 44 (6 * g + rN S g k) 0).2.2.1 f i = T.2.2.1 f i := fun f i hf => by rw [sm_get, if_neg (by omega)]
  have hle : ∀ j, wtN (sm T 44 (6 * g + rN S g k) 0) j ≤ wtN T j := fun j => by
    rw [wt_sm, cl_0]
    split <;> omega
  have eh : hdN (sm T 44 (6 * g + rN S g k) 0) = hdN T := hdN_eq (t0 _ _ (by decide))
  refine ⟨hI.go, by rw [e1 _ (by decide), t0 _ _ (by decide)]; exact h6, by rw [e1 _ (by decide), t0 _ _ (by decide)]; exact h7, fun j hj => by rw [e0 _ _ _ (by decide) (by decide), t0 _ _ (by omega)]; exact hr j hj, ?_, ?_, fun m hm hmx => ?_, fun m hm q => ?_, fun m hm q => ?_, fun m hm => ?_, fun m hm => ?_, ?_, ?_⟩
  · rw [e1 _ (by decide), e1 _ (by decide), e1 _ (by decide), e1 _ (by decide)]; exact hn
  · rw [e1 _ (by decide)]
    intro q
    obtain ⟨a1, a2, a3, a4, a5, a6⟩ := hh q
    refine ⟨fun j hj => by rw [e0 _ _ _ (by decide) (by decide), t0 _ _ (by omega)]; exact a1 j hj, ?_, ?_, ?_, ?_, ?_⟩
    · rw [e1 _ (by decide), t0 _ _ (by decide)]; exact a2
    · rw [e1 _ (by decide), t0 _ _ (by decide)]; exact a3
    · rw [e1 _ (by decide), t0 _ _ (by decide)]; exact a4
    · rw [t0 _ _ (by decide)]; exact a5
    · rw [t0 _ _ (by decide)]; exact a6
  · rw [e0 _ _ _ (by decide) (by decide), e0 _ _ _ (by decide) (by decide), t0 _ _ (by decide), t0 _ _ (by decide)]; exact hc m hm hmx
  · rw [e0 _ _ _ (by decide) (by decide), e0 _ _ _ (by decide) (by decide), t0 _ _ (by decide), t0 _ _ (by decide)]
    refine hw2 m hm ?_
    rw [e1 _ (by decide)] at q
    have := hle (6 * g + m)
    rcases q with q | q
    · exact Or.inl (by omega)
    · exact Or.inr q
  · rw [e1 _ (by decide)] at q
    have := hle (6 * g + m)
    have := hx m hm q
    omega
  · rw [eh]
    have a := hle (6 * g + m)
    have b := w1 m hm
    refine ⟨?_, by omega⟩
    rw [sm_get, wt_sm, cl_0]
    by_cases q : 6 * g + m = 6 * g + rN S g k
    · rw [if_pos ⟨rfl, q⟩, if_pos q]; rfl
    · rw [if_neg (fun z => q z.2), if_neg q]; exact b.1
  · rw [t0 _ _ (by decide)]; exact w2 m hm
  · rw [eh]; exact w3
  · refine (w4.del hk).ext ?_ (fun j hj => ?_) (fun m hm => ?_) (fun m hm _ => ky_sm (Or.inl (by decide)))
    · rw [wN_go hI.1, if_neg (by omega)]
    · rw [rN_go]
    · show wtN _ _ = _
      rw [wt_sm, cl_0]
      by_cases q : m = rN S g k
      · rw [if_pos (by omega), if_pos q]
      · rw [if_neg (by omega), if_neg q]
theorem RF.same44 {x g m : Nat} {S T : St} (h : RF x S T g) (hm : m < 6) (hw : wtN T (6 * g + m) = 0) : RF x S (sm T 44 (6 * g + m) 0) g := by
  have e : ∀ f i, (sm T 44 (6 * g + m) 0).2.2.1 f i = T.2.2.1 f i := fun f i => by
    rw [sm_get]
    split
    · rename_i q
      rw [q.1, q.2, (h.w3.1 m hm).1, hw]
      rfl
    · rfl
  refine h.eq (fun _ _ _ _ => rfl) (fun f i _ => e f i) (by rw [hdN_eq (e _ _)]; exact Nat.le_refl _) (by rw [hdN_eq (e _ _)]; exact h.w3.2.2.1)
/-! the floor is freed -/
theorem RF.free0 {x g : Nat} {S T : St} (h : RF x S T g) : RF x (fl_free0 S g) (ml_fr0 T g) g := by
  obtain ⟨hI, h6, h7, hr, hn, hh, hc, hw2, hx, w1, w2, w3, w4⟩ := h
  have e7 : (fl_free0 S g).1 1 g 7 = -1 := by unfold fl_free0; simp [sc_get]
  have t0 : ∀ f i, f ≠ 35 → (ml_fr0 T g).2.2.1 f i = T.2.2.1 f i := fun f i hf => by unfold ml_fr0; rw [sm_get, if_neg (by omega)]
  have e0 : ∀ a b c, a ≠ 1 → (fl_free0 S g).1 a b c = S.1 a b c := fun a b c h1 => free0_get (by omega)
  have et : ∀ i, wtN (ml_fr0 T g) i = wtN T i := fun i => by unfold wtN; rw [t0 _ _ (by decide)]
  have ek : ∀ i, ky (ml_fr0 T g) i = ky T i := fun i => by unfold ky; rw [t0 _ _ (by decide), t0 _ _ (by decide)]
  have eh : hdN (ml_fr0 T g) = hdN T := hdN_eq (t0 _ _ (by decide))
  have ew : wN (fl_free0 S g) g = wN S g := by unfold wN; rw [free0_get (by omega)]
  have er : ∀ k, rN (fl_free0 S g) g k = rN S g k := fun k => by unfold rN; rw [free0_get (by omega)]
  refine ⟨hI.free0, by rw [free0_get (by omega), t0 _ _ (by decide)]; exact h6, ?_, fun j hj => by rw [e0 _ _ _ (by decide), t0 _ _ (by omega)]; exact hr j hj, ?_, fun q => absurd e7 q, fun m hm hmx => ?_, fun m hm q => ?_, fun m hm q => ?_, fun m hm => ?_, fun m hm => ?_, ?_, ?_⟩
  · rw [e7]; unfold ml_fr0; simp [sm_get]
  · intro _; unfold fl_free0; simp [sc_get]
  · rw [e0 _ _ _ (by decide), e0 _ _ _ (by decide), t0 _ _ (by decide), t0 _ _ (by decide)]; exact hc m hm hmx
  · rw [e0 _ _ _ (by decide), e0 _ _ _ (by decide), t0 _ _ (by decide), t0 _ _ (by decide)]
    rw [et, e7] at q
    rcases q with q | q
    · exact hw2 m hm (Or.inl q)
    · exact absurd q.symm (nI_m1 hm)
  · rw [e7] at q; exact absurd q.symm (nI_m1 hm)
  · rw [et, eh, t0 _ _ (by decide)]; exact w1 m hm
  · rw [t0 _ _ (by decide)]; exact w2 m hm
  · rw [eh]; exact w3
  · exact w4.ext ew (fun k _ => er k) (fun q _ => et _) (fun q _ _ => ek _)
theorem RNet.free0 {g : Nat} {S T : St} (h : RNet S T) : RNet (fl_free0 S g) (ml_fr0 T g) := h.eq (fun a b c q => free0_get (by omega)) (fun f i q => by unfold ml_fr0; rw [sm_get, if_neg (by omega)])
theorem RTh.free0 {g : Nat} {S T : St} (h : RTh S T) : RTh (fl_free0 S g) (ml_fr0 T g) := h.eq (fun _ => free0_get (by omega)) (fun i => by unfold ml_fr0; rw [sm_get, if_neg (by omega)])
theorem rnet_go {g k i : Nat} {S T : St} {v : Int32} (h : RNet S T) : RNet (fl_go S g k) (sm T 44 i v) := h.eq (fun a b c q => fl_go_get (by omega) (by omega)) (fun f i q => by rw [sm_get, if_neg (by omega)])
theorem RTh.go {g k i : Nat} {S T : St} {v : Int32} (h : RTh S T) : RTh (fl_go S g k) (sm T 44 i v) := h.eq (fun _ => fl_go_get (by decide) (by omega)) (fun i => by rw [sm_get, if_neg (by omega)])
theorem w0_iff {S : St} {g : Nat} (h : FlW S g) : S.1 1 g 5 ≤ 0 ↔ wN S g = 0 := by
  have := h.2.1
  rw [h.1, show (0 : Int32) = nI 0 from rfl, nI_leI (by omega) (by decide)]
  omega
theorem RF.free {x g m : Nat} {S T : St} {t : Int32} (h : RF x S T g) (hN : RNet S T) (hT : RTh S T) (hg : g < 3) (hm : m < 6) (hx : x = m ∨ x = 6) (hw : wtN T (6 * g + m) = 0) (ht : t = T.2.2.1 1 0) :
    RF x (fl_free S g t) (ml_free T g) g ∧ RNet (fl_free S g t) (ml_free T g) ∧ ((fl_free S g t).1 1 g 7 = -1 → wN (fl_free S g t) g = 0) ∧ (fl_free S g t).1 1 g 7 ≠ nI m ∧ wtN (ml_free T g) (6 * g + m) = 0 := by
  have h0 := h.free0
  have hN0 : RNet (fl_free0 S g) (ml_fr0 T g) := hN.free0
  have hT0 : RTh (fl_free0 S g) (ml_fr0 T g) := hT.free0
  have e7 : (fl_free0 S g).1 1 g 7 = -1 := by unfold fl_free0; simp [sc_get]
  have et : ∀ i, wtN (ml_fr0 T g) i = wtN T i := fun i => by unfold wtN ml_fr0; rw [sm_get, if_neg (by omega)]
  have et1 : (ml_fr0 T g).2.2.1 1 0 = T.2.2.1 1 0 := by unfold ml_fr0; rw [sm_get, if_neg (by omega)]
  have hI0 := h0.1
  by_cases hz : wN (fl_free0 S g) g = 0
  · have a1 : fl_free S g t = nt_send (fl_free0 S g) 10 (nI g) 0 ((fl_free0 S g).1 1 g 6) (-1) 0 := by
      unfold fl_free; rw [if_pos ((w0_iff hI0.1).mpr hz)]
    have a2 : ml_free T g = ml_send (ml_fr0 T g) 10 (nI g) 0 ((ml_fr0 T g).2.2.1 34 g) (-1) 0 := by
      unfold ml_free; rw [h0.w3.wa0 hz, if_pos (by decide)]
    rw [a1, a2]
    refine ⟨h0.send, ?_, ?_, ?_, ?_⟩
    · rw [h0.2.1]; exact hN0.send (vm_g0 hg)
    · intro _; unfold wN; rw [nt_send_get (by decide) (by decide)]; exact hz
    · rw [nt_send_get (by decide) (by decide), e7]; exact fun q => nI_m1 hm q.symm
    · unfold wtN; rw [ml_send_get (by decide) (by decide) (by decide)]; exact (et _).trans hw
  · have hp : 0 < wN (fl_free0 S g) g := by omega
    have r6 := (hI0.1.2.2 0 hp).1
    have rp := (h0.w3.2.2.2.1 0 hp).2
    simp only at rp
    have a0 : ml_wa (ml_fr0 T g) g 0 6 = nI (rN (fl_free0 S g) g 0) := h0.w3.wa (k := 0) hg hp (by decide)
    have aq : ml_q (ml_fr0 T g) g = rN (fl_free0 S g) g 0 := by unfold ml_q; rw [a0, nI_clamp (by omega)]
    have a1 : fl_free S g t = fl_grant (fl_go (fl_free0 S g) g 0) g (rN (fl_free0 S g) g 0) t := by
      unfold fl_free; rw [if_neg (fun q => hz ((w0_iff hI0.1).mp q))]
    have a2 : ml_free T g = ml_give (sm (ml_fr0 T g) 44 (6 * g + rN (fl_free0 S g) g 0) 0) g (rN (fl_free0 S g) g 0) := by
      unfold ml_free; rw [a0, if_neg (nI_pos (by omega)), aq]
    have hne : rN (fl_free0 S g) g 0 ≠ m := fun q => by rw [q, et] at rp; omega
    have h23 := h0.2.2.2.2.2.2.2.1 _ r6 (Or.inl rp)
    obtain ⟨b1', b2, b3, b4, b5⟩ := RF.give (h0.go hp) (m := rN (fl_free0 S g) g 0) (t := t) (rnet_go hN0) hT0.go hg r6 (by omega) (by rw [fl_go_get (by decide) (by omega)]; exact e7) (by rw [wt_sm, if_pos rfl]; rfl) (by rw [fl_go_get (by decide) (by omega), fl_go_get (by decide) (by omega), sm_get, if_neg (by omega), sm_get, if_neg (by omega)]; exact h23) (by rw [sm_get, if_neg (by omega), et1]; exact ht)
    rw [a1, a2]
    refine ⟨b1', b2, ?_, ?_, ?_⟩
    · rw [b3]; intro q; exact absurd q (nI_m1 r6)
    · rw [b3]; intro q; exact hne ((nI_eq (by omega) (by omega)).mp q)
    · rw [b5, wt_sm, et]
      split
      · rfl
      · exact hw
/-! the place in the row -/
theorem plf_sp {S : St} {g : Nat} {m : Int32} : ∀ n p, (∃ q, p ≤ q ∧ q < p + n ∧ S.1 13 g q = m ∧ plf S g m p n = q) ∨ (plf S g m p n = p + n ∧ ∀ r, p ≤ r → r < p + n → S.1 13 g r ≠ m)
  | 0, p => Or.inr ⟨rfl, fun r a b => by omega⟩
  | n + 1, p => by
    unfold plf
    split
    · rename_i h
      exact Or.inl ⟨p, by omega, by omega, h, rfl⟩
    · rename_i h
      rcases plf_sp n (p + 1) with ⟨q, a1, a2, a3, a4⟩ | ⟨a1, a2⟩
      · exact Or.inl ⟨q, by omega, by omega, a3, a4⟩
      · refine Or.inr ⟨by omega, fun r b1 b2 => ?_⟩
        by_cases z : r = p
        · rw [z]; exact h
        · exact a2 r (by omega) (by omega)
theorem RF.place {x g m : Nat} {S T : St} (h : RF x S T g) (hm : m < 6) : (wtN T (6 * g + m) = 0 ∧ fl_place S g (nI m) = wN S g) ∨ (0 < wtN T (6 * g + m) ∧ fl_place S g (nI m) < wN S g ∧ rN S g (fl_place S g (nI m)) = m) := by
  have hW := h.1.1
  have hR := h.w3.2.2.2
  have key : ∀ k, k < wN S g → (S.1 13 g k = nI m ↔ rN S g k = m) := fun k hk => by
    have := hW.2.2 k hk
    rw [this.2, nI_eq (by omega) (by omega)]
  rcases plf_sp (S := S) (g := g) (m := nI m) (wN S g) 0 with ⟨q, a1, a2, a3, a4⟩ | ⟨a1, a2⟩
  · have e : fl_place S g (nI m) = q := a4
    have hq : q < wN S g := by omega
    have er := (key q hq).mp a3
    refine Or.inr ⟨?_, by rw [e]; exact hq, by rw [e]; exact er⟩
    have := (hR.1 q hq).2
    simp only [er] at this
    exact this
  · have e : fl_place S g (nI m) = wN S g := by
      show plf S g (nI m) 0 (wN S g) = _
      omega
    refine Or.inl ⟨?_, e⟩
    rcases Nat.eq_zero_or_pos (wtN T (6 * g + m)) with z | z
    · exact z
    · obtain ⟨k, hk, hk2⟩ := hR.2.1 m hm z
      exact absurd ((key k hk).mpr hk2) (a2 k (by omega) (by omega))
theorem RF.back {x g m : Nat} {S T : St} {t : Int32} (h : RF x S T g) (hz : S.1 1 g 7 = -1 → wN S g = 0) (hN : RNet S T) (hT : RTh S T) (hg : g < 3) (hm : m < 6) (hx : x = m ∨ x = 6) (ht : t = T.2.2.1 1 0) :
    RF x (fl_back S g m t) (ml_clear T g m) g ∧ RNet (fl_back S g m t) (ml_clear T g m) ∧ ((fl_back S g m t).1 1 g 7 = -1 → wN (fl_back S g m t) g = 0) ∧ (fl_back S g m t).1 1 g 7 ≠ nI m ∧ wtN (ml_clear T g m) (6 * g + m) = 0 := by
  have e35 : (sm T 44 (6 * g + m) 0).2.2.1 35 g = S.1 1 g 7 := by rw [sm_get, if_neg (by omega)]; exact h.2.2.1.symm
  have ew0 : wtN (sm T 44 (6 * g + m) 0) (6 * g + m) = 0 := by rw [wt_sm, if_pos rfl]; rfl
  by_cases hh : nI m = S.1 1 g 7
  · have a1 : fl_back S g m t = fl_free S g t := by unfold fl_back; rw [if_pos hh]
    have a2 : ml_clear T g m = ml_free (sm T 44 (6 * g + m) 0) g := by unfold ml_clear; rw [e35, if_pos hh.symm]
    rw [a1, a2]
    have hw := h.2.2.2.2.2.2.2.2.1 m hm hh.symm
    exact (h.same44 hm hw).free (hN.sm (by decide) (by decide) (by decide)) (hT.eq (fun _ => rfl) (fun i => by rw [sm_get, if_neg (by omega)])) hg hm hx ew0 (by rw [sm_get, if_neg (by omega)]; exact ht)
  · have a1 : fl_back S g m t = fl_go S g (fl_place S g (nI m)) := by unfold fl_back; rw [if_neg hh]
    have a2 : ml_clear T g m = sm T 44 (6 * g + m) 0 := by unfold ml_clear; rw [e35, if_neg (fun q => hh q.symm)]
    rw [a1, a2]
    have hN' : RNet (fl_go S g (fl_place S g (nI m))) (sm T 44 (6 * g + m) 0) := rnet_go hN
    have k7 : (fl_go S g (fl_place S g (nI m))).1 1 g 7 = S.1 1 g 7 := fl_go_get (by decide) (by omega)
    rcases h.place hm with ⟨b1', b2⟩ | ⟨b1', b2, b3⟩
    · have e : fl_go S g (fl_place S g (nI m)) = S := by unfold fl_go; rw [b2, if_pos (Nat.le_refl _)]
      rw [e] at hN' ⊢
      exact ⟨h.same44 hm b1', hN', hz, fun q => hh q.symm, ew0⟩
    · have := h.go b2
      rw [b3] at this
      refine ⟨this, hN', fun q => ?_, by rw [k7]; exact fun q => hh q.symm, ew0⟩
      rw [k7] at q
      have := hz q
      omega
