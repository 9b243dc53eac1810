def RFl (S T : St) (g : Nat) : Prop := RF 6 S T g ∧ (S.1 1 g 7 = -1 → wN S g = 0)
theorem RF.ho {x g : Nat} {S T : St} (h : RF x S T g) : (S.1 1 g 7 = -1 ∧ T.2.2.1 35 g = -1) ∨ ∃ q, q < 6 ∧ S.1 1 g 7 = nI q ∧ T.2.2.1 35 g = nI q ∧ S.1 1 g 7 ≠ -1 := by
  have h7 := h.2.2.1
  rcases h.1.2.2.2 with z | ⟨q, hq, z⟩
  · exact Or.inl ⟨z, by rw [← h7]; exact z⟩
  · exact Or.inr ⟨q, hq, z, by rw [← h7]; exact z, by rw [z]; exact nI_m1 hq⟩
theorem m1_lt : (-1 : Int32) < 0 := by decide
theorem m1_nle : ¬ (0 : Int32) ≤ -1 := by decide
theorem RF.rvk {x g : Nat} {S T : St} {t : Int32} (h : RF x S T g) (hh : S.1 1 g 7 ≠ -1) (h0 : 0 ≤ t) : RF x (sc S 1 g 9 t) (sm T 36 g t) g := by
  obtain ⟨hI, h6, h7, hr, hn, hh2, hc, hw2, hx2, w1, w2, w3, w4⟩ := h
  have e0 : ∀ x y z, ¬ (x = 1 ∧ z = 9) → (sc S 1 g 9 t).1 x y z = S.1 x y z := fun x y z q => by rw [sc_get, if_neg (by omega)]
  have t0 : ∀ f i, f ≠ 36 → (sm T 36 g t).2.2.1 f i = T.2.2.1 f i := fun f i q => by rw [sm_get, if_neg (by omega)]
  have et : ∀ i, wtN (sm T 36 g t) i = wtN T i := fun i => by unfold wtN; rw [t0 _ _ (by decide)]
  have eh : hdN (sm T 36 g t) = hdN T := hdN_eq (t0 _ _ (by decide))
  have ew : wN (sc S 1 g 9 t) g = wN S g := by unfold wN; rw [e0 _ _ _ (by omega)]
  have er : ∀ k, rN (sc S 1 g 9 t) g k = rN S g k := fun k => by unfold rN; rw [e0 _ _ _ (by omega)]
  refine ⟨hI.eq (e0 _ _ _ (by omega)) (fun k => e0 _ _ _ (by omega)) (fun m hm => e0 _ _ _ (by omega)) (e0 _ _ _ (by omega)) (e0 _ _ _ (by omega)), by rw [e0 _ _ _ (by omega), t0 _ _ (by omega)]; exact h6, by rw [e0 _ _ _ (by omega), t0 _ _ (by omega)]; exact h7, fun j hj => by rw [e0 _ _ _ (by omega), t0 _ _ (by omega)]; exact hr j hj, ?_, ?_, fun q hq hqx => ?_, fun q hq => ?_, fun q hq => ?_, fun q hq => ?_, fun q hq => ?_, ?_, ?_⟩
  · rw [e0 _ _ _ (by omega)]; exact fun q => absurd q hh
  · intro _
    obtain ⟨a1, a2, a3, a4, a5, a6⟩ := hh2 hh
    refine ⟨fun j hj => by rw [e0 _ _ _ (by omega), t0 _ _ (by omega)]; exact a1 j hj, ?_, ?_, ?_, ?_, ?_⟩
    · rw [sc_get, if_pos ⟨rfl, rfl, rfl⟩, sm_get, if_pos ⟨rfl, rfl⟩]
    · rw [e0 _ _ _ (by omega), t0 _ _ (by omega)]; exact a3
    · rw [e0 _ _ _ (by omega), t0 _ _ (by omega)]; exact a4
    · rw [sm_get, if_pos ⟨rfl, rfl⟩]; exact Or.inr h0
    · rw [t0 _ _ (by omega)]; exact a6
  · rw [e0 _ _ _ (by omega), e0 _ _ _ (by omega), t0 _ _ (by omega), t0 _ _ (by omega)]; exact hc q hq hqx
  · rw [e0 _ _ _ (by omega), e0 _ _ _ (by omega), e0 _ _ _ (by omega), t0 _ _ (by omega), t0 _ _ (by omega), et]; exact hw2 q hq
  · rw [e0 _ _ _ (by omega), et]; exact hx2 q hq
  · rw [et, eh, t0 _ _ (by omega)]; exact w1 q hq
  · rw [t0 _ _ (by omega)]; exact w2 q hq
  · rw [eh]; exact w3
  · exact w4.ext ew (fun k _ => er k) (fun q _ => et _) (fun q _ _ => ky_sm (Or.inl (by decide)))
theorem RF.psd {x g : Nat} {S T : St} {t : Int32} (h : RF x S T g) (hh : S.1 1 g 7 ≠ -1) (h0 : 0 ≤ t) : RF x (sc S 1 g 10 t) (sm T 38 g t) g := by
  obtain ⟨hI, h6, h7, hr, hn, hh2, hc, hw2, hx2, w1, w2, w3, w4⟩ := h
  have e0 : ∀ x y z, ¬ (x = 1 ∧ z = 10) → (sc S 1 g 10 t).1 x y z = S.1 x y z := fun x y z q => by rw [sc_get, if_neg (by omega)]
  have t0 : ∀ f i, f ≠ 38 → (sm T 38 g t).2.2.1 f i = T.2.2.1 f i := fun f i q => by rw [sm_get, if_neg (by omega)]
  have et : ∀ i, wtN (sm T 38 g t) i = wtN T i := fun i => by unfold wtN; rw [t0 _ _ (by decide)]
  have eh : hdN (sm T 38 g t) = hdN T := hdN_eq (t0 _ _ (by decide))
  have ew : wN (sc S 1 g 10 t) g = wN S g := by unfold wN; rw [e0 _ _ _ (by omega)]
  have er : ∀ k, rN (sc S 1 g 10 t) g k = rN S g k := fun k => by unfold rN; rw [e0 _ _ _ (by omega)]
  refine ⟨hI.eq (e0 _ _ _ (by omega)) (fun k => e0 _ _ _ (by omega)) (fun m hm => e0 _ _ _ (by omega)) (e0 _ _ _ (by omega)) (e0 _ _ _ (by omega)), by rw [e0 _ _ _ (by omega), t0 _ _ (by omega)]; exact h6, by rw [e0 _ _ _ (by omega), t0 _ _ (by omega)]; exact h7, fun j hj => by rw [e0 _ _ _ (by omega), t0 _ _ (by omega)]; exact hr j hj, ?_, ?_, fun q hq hqx => ?_, fun q hq => ?_, fun q hq => ?_, fun q hq => ?_, fun q hq => ?_, ?_, ?_⟩
  · rw [e0 _ _ _ (by omega)]; exact fun q => absurd q hh
  · intro _
    obtain ⟨a1, a2, a3, a4, a5, a6⟩ := hh2 hh
    refine ⟨fun j hj => by rw [e0 _ _ _ (by omega), t0 _ _ (by omega)]; exact a1 j hj, ?_, ?_, ?_, ?_, ?_⟩
    · rw [e0 _ _ _ (by omega), t0 _ _ (by omega)]; exact a2
    · rw [e0 _ _ _ (by omega), t0 _ _ (by omega)]; exact a3
    · rw [sc_get, if_pos ⟨rfl, rfl, rfl⟩, sm_get, if_pos ⟨rfl, rfl⟩]
    · rw [t0 _ _ (by omega)]; exact a5
    · rw [sm_get, if_pos ⟨rfl, rfl⟩]; exact Or.inr h0
  · rw [e0 _ _ _ (by omega), e0 _ _ _ (by omega), t0 _ _ (by omega), t0 _ _ (by omega)]; exact hc q hq hqx
  · rw [e0 _ _ _ (by omega), e0 _ _ _ (by omega), e0 _ _ _ (by omega), t0 _ _ (by omega), t0 _ _ (by omega), et]; exact hw2 q hq
  · rw [e0 _ _ _ (by omega), et]; exact hx2 q hq
  · rw [et, eh, t0 _ _ (by omega)]; exact w1 q hq
  · rw [t0 _ _ (by omega)]; exact w2 q hq
  · rw [eh]; exact w3
  · exact w4.ext ew (fun k _ => er k) (fun q _ => et _) (fun q _ _ => ky_sm (Or.inl (by decide)))
theorem wN_send {S : St} {g : Nat} {kd g0 m a b e : Int32} : wN (nt_send S kd g0 m a b e) g = wN S g := by unfold wN; rw [nt_send_get (by decide) (by decide)]
theorem RFl.send {g : Nat} {S T : St} {kd g0 m a b e : Int32} {kd' g0' m' a' b' e' : Int32} (h : RFl S T g) : RFl (nt_send S kd g0 m a b e) (ml_send T kd' g0' m' a' b' e') g :=
  ⟨h.1.send, by rw [nt_send_get (by decide) (by decide), wN_send]; exact h.2⟩
/-! the holder is revoked -/
theorem RFl.rev {g m : Nat} {S T : St} {t : Int32} (h : RFl S T g) (hQ : RNet S T) (hg : g < 3) (hm : m < 6) (hw : 0 < wtN T (6 * g + m)) (hh : S.1 1 g 7 ≠ -1) (ht : t = T.2.2.1 1 0) (h0 : 0 ≤ T.2.2.1 1 0) :
    RFl (fl_rev S g (6 * g + m) t) (ml_rv T g (6 * g + m)) g ∧ RNet (fl_rev S g (6 * g + m) t) (ml_rv T g (6 * g + m)) ∧ (ml_rv T g (6 * g + m)).2.2.1 39 0 = T.2.2.1 39 0 := by
  subst ht
  obtain ⟨hI, h6, h7, hr, hn, hh2, hc, hw2, hx2, w1, w2, w3, w4⟩ := id h.1
  obtain ⟨a1, a2, a3, a4, a5, a6⟩ := hh2 hh
  obtain ⟨q, hq, q1, q2, -⟩ : ∃ q, q < 6 ∧ S.1 1 g 7 = nI q ∧ T.2.2.1 35 g = nI q ∧ S.1 1 g 7 ≠ -1 := by
    rcases h.1.ho with z | z
    · exact absurd z.1 hh
    · exact z
  have e1 : hN S g = q := by unfold hN; rw [q1, nI_clamp (by omega)]
  have e2 : mq T g = q := by unfold mq; rw [q2, nI_clamp (by omega)]
  have z0 := a1 0 (by omega)
  have kk : cl_above S (6 * g + m) (6 * g + q) = true ↔ ¬ ml_ab T (6 * g + m) (6 * g + q) ≤ 0 := by
    rw [ca_cmp (hI.2.1 m hm) (hI.2.1 q hq), kc_ky (hw2 m hm (Or.inl hw)), kc_ky (hw2 q hq (Or.inr q1))]
    rcases ab_cmp (w2 m hm) (w2 q hq) with ⟨e, z⟩ | ⟨e, z⟩ | ⟨e, z⟩ <;> rw [e]
    · exact ⟨fun _ => by decide, fun _ => z⟩
    · exact ⟨fun y => by omega, fun y => absurd (by decide) y⟩
    · exact ⟨fun y => by omega, fun y => absurd (by decide) y⟩
  unfold fl_rev ml_rv
  rw [if_neg hh, e1, e2, z0, a2]
  by_cases c1 : T.2.2.1 30 g = 0
  · have c1' : T.2.2.1 (30 + 0) g = 0 := c1
    rw [if_pos c1', if_pos c1]; exact ⟨h, hQ, rfl⟩
  · have c1' : ¬ T.2.2.1 (30 + 0) g = 0 := c1
    rw [if_neg c1', if_neg c1]
    rcases a5 with z | z
    · rw [if_pos z, z, if_neg m1_nle]
      by_cases c2 : cl_above S (6 * g + m) (6 * g + q) = true
      · have c3 := kk.mp c2
        rw [if_pos c2, if_neg c3]
        simp only
        have hR := h.1.rvk hh h0
        refine ⟨⟨hR.send, ?_⟩, ?_, ?_⟩
        · rw [nt_send_get (by decide) (by decide), sc_get, if_neg (by omega)]; exact fun y => absurd y hh
        · have hQ2 : RNet (sc S 1 g 9 (T.2.2.1 1 0)) (sm T 36 g (T.2.2.1 1 0)) := (hQ.sc (by decide) (by decide) (by decide)).sm (by decide) (by decide) (by decide)
          rw [hR.2.1, hR.2.2.1, show (sm T 36 g (T.2.2.1 1 0)).2.2.1 35 g = nI q by rw [sm_get, if_neg (by omega)]; exact q2]
          exact hQ2.send (vm_k (k := 6) (by omega) (by omega) hg hq)
        · rw [ml_send_get (by decide) (by decide) (by decide), sm_get, if_neg (by omega)]
      · have c3 : ml_ab T (6 * g + m) (6 * g + q) ≤ 0 := by
          rcases Classical.em (ml_ab T (6 * g + m) (6 * g + q) ≤ 0) with y | y
          · exact y
          · exact absurd (kk.mpr y) c2
        rw [if_neg c2, if_pos c3]; exact ⟨h, hQ, rfl⟩
    · have zn : ¬ T.2.2.1 36 g = -1 := fun y => by rw [y] at z; exact m1_nle z
      rw [if_neg zn, if_pos z]; exact ⟨h, hQ, rfl⟩
/-! a request comes -/
theorem RFl.again {g m : Nat} {S T : St} {a : Int32} (h : RFl S T g) (hN : RNet S T) (hg : g < 3) (hm : m < 6) (ha : a = T.2.2.1 40 (6 * g + m)) {M : St} (hM : M = if T.2.2.1 35 g = nI m then ml_send T 3 (nI g) (nI m) a (T.2.2.1 34 g) 0 else if T.2.2.1 44 (6 * g + m) ≤ 0 then (if T.2.2.1 41 (6 * g + m) = 0 then T else ml_send T 5 (nI g) (nI m) a 0 0) else ml_send T 4 (nI g) (nI m) a (nI (ml_pl T g (6 * g + m))) 0) :
    RFl (fl_again S g m) M g ∧ RNet (fl_again S g m) M ∧ M.2.2.1 39 0 = T.2.2.1 39 0 := by
  obtain ⟨c0, c1, -⟩ := h.1.2.2.2.2.2.2.1 m hm (by omega)
  have h7 := h.1.2.2.1
  have hw4 := h.1.1.1.2.1
  rw [hM]
  unfold fl_again
  rw [c0, c1, ← ha, h.1.2.1, h7]
  by_cases q : T.2.2.1 35 g = nI m
  · rw [if_pos q, if_pos q.symm]
    exact ⟨h.send, hN.send (vm_k (k := 3) (by omega) (by omega) hg hm), ml_send_get (by decide) (by decide) (by decide)⟩
  · rw [if_neg q, if_neg (fun z => q z.symm)]
    rcases h.1.place hm with ⟨b1', b2⟩ | ⟨b1', b2, b3⟩
    · rw [if_pos ((h.1.w3.w0 hm).mpr b1'), b2, if_pos (by rw [h.1.1.1.1]; exact nI_le (Nat.le_refl _) (by omega))]
      split
      · exact ⟨h, hN, rfl⟩
      · exact ⟨h.send, hN.send (vm_k (k := 5) (by omega) (by omega) hg hm), ml_send_get (by decide) (by decide) (by decide)⟩
    · have e : ml_pl T g (6 * g + m) = fl_place S g (nI m) := by
        have := h.1.w3.pl hg b2
        rw [b3] at this
        exact this
      have n1 : ¬ T.2.2.1 44 (6 * g + m) ≤ 0 := fun z => by have := (h.1.w3.w0 hm).mp z; omega
      have n2 : ¬ S.1 1 g 5 ≤ nI (fl_place S g (nI m)) := by rw [h.1.1.1.1]; exact nI_ge b2 (by omega)
      rw [if_neg n1, e, if_neg n2]
      exact ⟨h.send, hN.send (vm_k (k := 4) (by omega) (by omega) hg hm), ml_send_get (by decide) (by decide) (by decide)⟩
