/-! a floor and the model's -/
def RFh (S T : St) (g : Nat) : Prop := (∀ k, k < 4 → S.1 8 (2 * g + 1) k = T.2.2.1 (30 + k) g) ∧ S.1 1 g 9 = T.2.2.1 36 g ∧ S.1 1 g 8 = T.2.2.1 37 g ∧ S.1 1 g 10 = T.2.2.1 38 g ∧ (T.2.2.1 36 g = -1 ∨ 0 ≤ T.2.2.1 36 g) ∧ (T.2.2.1 38 g = -1 ∨ 0 ≤ T.2.2.1 38 g)
def RF (x : Nat) (S T : St) (g : Nat) : Prop :=
  FlI S g ∧ S.1 1 g 6 = T.2.2.1 34 g ∧ S.1 1 g 7 = T.2.2.1 35 g ∧ (∀ k, k < 4 → S.1 8 (2 * g) k = T.2.2.1 (26 + k) g) ∧
  (S.1 1 g 7 = -1 → S.1 1 g 8 = -1 ∧ S.1 1 g 9 = -1 ∧ S.1 1 g 10 = -1) ∧ (S.1 1 g 7 ≠ -1 → RFh S T g) ∧
  (∀ m, m < 6 → m ≠ x → S.1 0 (6 * g + m) 0 = T.2.2.1 40 (6 * g + m) ∧ S.1 0 (6 * g + m) 1 = T.2.2.1 41 (6 * g + m) ∧ b1 (T.2.2.1 41 (6 * g + m))) ∧
  (∀ m, m < 6 → 0 < wtN T (6 * g + m) ∨ S.1 1 g 7 = nI m → S.1 0 (6 * g + m) 2 = T.2.2.1 42 (6 * g + m) ∧ S.1 0 (6 * g + m) 3 = T.2.2.1 43 (6 * g + m)) ∧
  (∀ m, m < 6 → S.1 1 g 7 = nI m → wtN T (6 * g + m) = 0) ∧ RWt S T g
theorem RF.eq {x g : Nat} {S T S' T' : St} (h : RF x S T g) (hS : ∀ a b c, (a = 1 ∧ b = g) ∨ (a = 13 ∧ b = g) ∨ (a = 8 ∧ (b = 2 * g ∨ b = 2 * g + 1)) ∨ (a = 0 ∧ b / 6 = g) → S'.1 a b c = S.1 a b c) (hT : ∀ f i, (26 ≤ f ∧ f ≤ 38 ∧ i = g) ∨ (40 ≤ f ∧ f ≤ 44 ∧ i / 6 = g) → T'.2.2.1 f i = T.2.2.1 f i) (hH : hdN T ≤ hdN T') (hH2 : hdN T' < 2 ^ 30) : RF x S' T' g := by
  have e1 : ∀ c, S'.1 1 g c = S.1 1 g c := fun c => hS 1 g c (by omega)
  have e13 : ∀ c, S'.1 13 g c = S.1 13 g c := fun c => hS 13 g c (by omega)
  have e8 : ∀ c, S'.1 8 (2 * g) c = S.1 8 (2 * g) c := fun c => hS _ _ c (by omega)
  have e9 : ∀ c, S'.1 8 (2 * g + 1) c = S.1 8 (2 * g + 1) c := fun c => hS _ _ c (by omega)
  have e0 : ∀ m, m < 6 → ∀ c, S'.1 0 (6 * g + m) c = S.1 0 (6 * g + m) c := fun m hm c => hS _ _ c (by omega)
  have t1 : ∀ f, 26 ≤ f → f ≤ 38 → T'.2.2.1 f g = T.2.2.1 f g := fun f a b => hT f g (by omega)
  have t4 : ∀ f m, 40 ≤ f → f ≤ 44 → m < 6 → T'.2.2.1 f (6 * g + m) = T.2.2.1 f (6 * g + m) := fun f m a b c => hT f _ (by omega)
  have ew : wN S' g = wN S g := by unfold wN; rw [e1]
  have er : ∀ k, rN S' g k = rN S g k := fun k => by unfold rN; rw [e13]
  have et : ∀ m, m < 6 → wtN T' (6 * g + m) = wtN T (6 * g + m) := fun m hm => by unfold wtN; rw [t4 44 m (by decide) (by decide) hm]
  have ek : ∀ m, m < 6 → ky T' (6 * g + m) = ky T (6 * g + m) := fun m hm => by unfold ky; rw [t4 42 m (by decide) (by decide) hm, t4 43 m (by decide) (by decide) hm]
  obtain ⟨hI, h6, h7, hr, hn, hh, hc, hw, hx, w1, w2, w3, w4⟩ := h
  refine ⟨hI.eq (e1 5) e13 (fun m hm => e0 m hm 2) (e8 0) (e1 7), by rw [e1, t1 34 (by decide) (by decide)]; exact h6, by rw [e1, t1 35 (by decide) (by decide)]; exact h7, fun k hk => by rw [e8, t1 _ (by omega) (by omega)]; exact hr k hk, ?_, ?_, fun m hm hmx => ?_, fun m hm => ?_, fun m hm => ?_, fun m hm => ?_, fun m hm => ?_, hH2, ?_⟩
  · rw [e1, e1, e1, e1]; exact hn
  · rw [e1]
    intro q
    obtain ⟨a1, a2, a3, a4, a5, a6⟩ := hh q
    refine ⟨fun k hk => by rw [e9, t1 _ (by omega) (by omega)]; exact a1 k hk, ?_, ?_, ?_, ?_, ?_⟩
    · rw [e1, t1 36 (by decide) (by decide)]; exact a2
    · rw [e1, t1 37 (by decide) (by decide)]; exact a3
    · rw [e1, t1 38 (by decide) (by decide)]; exact a4
    · rw [t1 36 (by decide) (by decide)]; exact a5
    · rw [t1 38 (by decide) (by decide)]; exact a6
  · rw [e0 m hm, e0 m hm, t4 40 m (by decide) (by decide) hm, t4 41 m (by decide) (by decide) hm]; exact hc m hm hmx
  · rw [e0 m hm, e0 m hm, e1, et m hm, t4 42 m (by decide) (by decide) hm, t4 43 m (by decide) (by decide) hm]; exact hw m hm
  · rw [e1, et m hm]; exact hx m hm
  · rw [et m hm, t4 44 m (by decide) (by decide) hm]; exact ⟨(w1 m hm).1, Nat.le_trans (w1 m hm).2 hH⟩
  · rw [t4 42 m (by decide) (by decide) hm]; exact w2 m hm
  · exact w4.ext ew (fun k _ => er k) et (fun m hm _ => ek m hm)
theorem hdN_eq {T T' : St} (h : T'.2.2.1 39 0 = T.2.2.1 39 0) : hdN T' = hdN T := by unfold hdN; rw [h]
theorem RF.send {x g : Nat} {S T : St} {kd g0 m a b e : Int32} {kd' g0' m' a' b' e' : Int32} (h : RF x S T g) : RF x (nt_send S kd g0 m a b e) (ml_send T kd' g0' m' a' b' e') g :=
  h.eq (fun _ _ _ q => nt_send_get (by omega) (by omega)) (fun _ _ q => ml_send_get (by omega) (by omega) (by omega)) (by rw [hdN_eq (ml_send_get (by decide) (by decide) (by decide))]; exact Nat.le_refl _) (by rw [hdN_eq (ml_send_get (by decide) (by decide) (by decide))]; exact h.2.2.2.2.2.2.2.2.2.2.2.1)
theorem RF.talk {x g g1 n n1 g2 : Nat} {S T : St} {kd mem a b e : Int32} (h : RF x S T g) : RF x (ot S g1 kd mem a b e n) (mt T g2 n1) g :=
  h.eq (fun _ _ _ q => ot_get (by omega) (by omega) n) (fun _ _ q => mt_get (by omega) (by omega) (by omega) n1) (by rw [hdN_eq (mt_get (by decide) (by decide) (by decide) n1)]; exact Nat.le_refl _) (by rw [hdN_eq (mt_get (by decide) (by decide) (by decide) n1)]; exact h.2.2.2.2.2.2.2.2.2.2.2.1)
theorem RTh.send {S T : St} {kd g0 m a b e : Int32} {kd' g0' m' a' b' e' : Int32} (h : RTh S T) : RTh (nt_send S kd g0 m a b e) (ml_send T kd' g0' m' a' b' e') := h.eq (fun _ => nt_send_get (by decide) (by decide)) (fun _ => ml_send_get (by decide) (by decide) (by decide))
/-! the floor is granted -/
theorem gr0_I {S : St} {g m : Nat} {t : Int32} (h : FlI S g) (hm : m < 6) : FlI (fl_gr0 S g m t) g := by
  refine ⟨h.1.eq (gr0_get (by omega) (by omega)) (fun k => gr0_get (by omega) (by omega)), fun q hq => ?_, ?_, Or.inr ⟨m, hm, ?_⟩⟩
  · rw [gr0_get (by omega) (by omega)]; exact h.2.1 q hq
  · rw [gr0_get (by omega) (by omega)]; exact h.2.2.1
  · unfold fl_gr0 ru_set
    simp [sc_get]
theorem gv0_get {T : St} {g m f i : Nat} (h : ¬ (30 ≤ f ∧ f ≤ 38 ∧ i = g)) : (ml_gv0 T g m).2.2.1 f i = T.2.2.1 f i := by
  unfold ml_gv0
  simp only [sm_get]
  repeat rw [if_neg (by omega)]
theorem nI_m1 {m : Nat} (hm : m < 6) : ¬ nI m = -1 := by
  rcases (show m = 0 ∨ m = 1 ∨ m = 2 ∨ m = 3 ∨ m = 4 ∨ m = 5 by omega) with rfl | rfl | rfl | rfl | rfl | rfl <;> decide
theorem RF.give0 {x g m : Nat} {S T : St} {t : Int32} (h : RF x S T g) (hm : m < 6) (hh : S.1 1 g 7 = -1) (hw : wtN T (6 * g + m) = 0) (h23 : S.1 0 (6 * g + m) 2 = T.2.2.1 42 (6 * g + m) ∧ S.1 0 (6 * g + m) 3 = T.2.2.1 43 (6 * g + m)) (ht : t = T.2.2.1 1 0) : RF x (fl_gr0 S g m t) (ml_gv0 T g m) g := by
  obtain ⟨hI, h6, h7, hr, hn, -, hc, hw2, hx, w1, w2, w3, w4⟩ := h
  obtain ⟨n8, n9, n10'⟩ := hn hh
  have k7 : (fl_gr0 S g m t).1 1 g 7 = nI m := by unfold fl_gr0 ru_set; simp [sc_get]
  have et : ∀ i, wtN (ml_gv0 T g m) i = wtN T i := fun i => by unfold wtN; rw [gv0_get (by omega)]
  have ek : ∀ i, ky (ml_gv0 T g m) i = ky T i := fun i => by unfold ky; rw [gv0_get (by omega), gv0_get (by omega)]
  have eh : hdN (ml_gv0 T g m) = hdN T := hdN_eq (gv0_get (by omega))
  have ew : wN (fl_gr0 S g m t) g = wN S g := by unfold wN; rw [gr0_get (by omega) (by omega)]
  have er : ∀ k, rN (fl_gr0 S g m t) g k = rN S g k := fun k => by unfold rN; rw [gr0_get (by omega) (by omega)]
  refine ⟨gr0_I hI hm, ?_, ?_, fun k hk => ?_, fun q => ?_, fun _ => ⟨fun k hk => ?_, ?_, ?_, ?_, ?_, ?_⟩, fun q hq hqx => ?_, fun q hq hq2 => ?_, fun q hq hq2 => ?_, fun q hq => ?_, fun q hq => ?_, ?_, ?_⟩
  · unfold fl_gr0 ru_set ml_gv0; simp [sc_get, sm_get]; exact h6
  · rw [k7]; unfold ml_gv0; simp [sm_get]
  · rw [gr0_get (by omega) (by omega), gv0_get (by omega)]; exact hr k hk
  · rw [k7] at q; exact absurd q (nI_m1 hm)
  · have e0 := hr 0 (by omega)
    have e1 := hr 1 (by omega)
    have e2 := hr 2 (by omega)
    have e3 := hr 3 (by omega)
    rcases (show k = 0 ∨ k = 1 ∨ k = 2 ∨ k = 3 by omega) with rfl | rfl | rfl | rfl
    · unfold fl_gr0 ru_set ml_gv0; simp [sc_get, sm_get]
      rw [← b01 hI.2.2.1]; exact e0
    · unfold fl_gr0 ru_set ml_gv0; simp [sc_get, sm_get]; exact e1
    · unfold fl_gr0 ru_set ml_gv0; simp [sc_get, sm_get]; exact e2
    · unfold fl_gr0 ru_set ml_gv0; simp [sc_get, sm_get]; exact e3
  · rw [gr0_get (by omega) (by omega), n9]; unfold ml_gv0; simp [sm_get]
  · unfold fl_gr0 ru_set ml_gv0; simp [sc_get, sm_get]; exact ht
  · rw [gr0_get (by omega) (by omega), n10']; unfold ml_gv0; simp [sm_get]
  · left; unfold ml_gv0; simp [sm_get]
  · left; unfold ml_gv0; simp [sm_get]
  · rw [gr0_get (by omega) (by omega), gr0_get (by omega) (by omega), gv0_get (by omega), gv0_get (by omega)]; exact hc q hq hqx
  · rw [gr0_get (by omega) (by omega), gr0_get (by omega) (by omega), gv0_get (by omega), gv0_get (by omega)]
    rw [et, k7, nI_eq (by omega) (by omega)] at hq2
    rcases hq2 with z | z
    · exact hw2 q hq (Or.inl z)
    · subst z; exact h23
  · rw [k7, nI_eq (by omega) (by omega)] at hq2
    subst hq2
    rw [et]; exact hw
  · rw [et, eh, gv0_get (by omega)]; exact w1 q hq
  · rw [gv0_get (by omega)]; exact w2 q hq
  · rw [eh]; exact w3
  · exact w4.ext ew (fun k _ => er k) (fun q _ => et _) (fun q _ _ => ek _)
theorem RNet.gr0 {g m : Nat} {S T : St} {t : Int32} (h : RNet S T) : RNet (fl_gr0 S g m t) (ml_gv0 T g m) := h.eq (fun a b c q => gr0_get (by omega) (by omega)) (fun f i q => gv0_get (by omega))
theorem RTh.gr0 {g m : Nat} {S T : St} {t : Int32} (h : RTh S T) : RTh (fl_gr0 S g m t) (ml_gv0 T g m) := h.eq (fun _ => gr0_get (by omega) (by omega)) (fun _ => gv0_get (by omega))
theorem RF.give {x g m : Nat} {S T : St} {t : Int32} (h : RF x S T g) (hN : RNet S T) (hT : RTh S T) (hg : g < 3) (hm : m < 6) (hmx : m ≠ x) (hh : S.1 1 g 7 = -1) (hw : wtN T (6 * g + m) = 0) (h23 : S.1 0 (6 * g + m) 2 = T.2.2.1 42 (6 * g + m) ∧ S.1 0 (6 * g + m) 3 = T.2.2.1 43 (6 * g + m)) (ht : t = T.2.2.1 1 0) :
    RF x (fl_grant S g m t) (ml_give T g m) g ∧ RNet (fl_grant S g m t) (ml_give T g m) ∧ (fl_grant S g m t).1 1 g 7 = nI m ∧ (ml_give T g m).2.2.1 39 0 = T.2.2.1 39 0 ∧ (∀ i, wtN (ml_give T g m) i = wtN T i) := by
  have h0 := h.give0 hm hh hw h23 ht
  have c0 := h0.2.2.2.2.2.2.1 m hm hmx
  have k7 : (fl_gr0 S g m t).1 1 g 7 = nI m := by unfold fl_gr0 ru_set; simp [sc_get]
  have k35 : (ml_gv0 T g m).2.2.1 35 g = nI m := by unfold ml_gv0; simp [sm_get]
  have k6 := h0.2.1
  have hN0 : RNet (fl_gr0 S g m t) (ml_gv0 T g m) := hN.gr0
  have hT0 : RTh (fl_gr0 S g m t) (ml_gv0 T g m) := hT.gr0
  refine ⟨?_, ?_, ?_, ?_, fun i => ?_⟩
  · unfold fl_grant ml_give
    exact h0.send.send.talk
  · unfold fl_grant ml_give
    simp only
    rw [nt_send_get (by decide) (by decide), nt_send_get (by decide) (by decide), nt_send_get (by decide) (by decide), ml_send_get (by decide) (by decide) (by decide), c0.1, k6]
    refine RNet.talk (RNet.send (RNet.send hN0 (vm_k (k := 3) (by omega) (by omega) hg hm)) (vm_g hg hm)) hT0.send.send hg ?_ ?_ 6 (Nat.le_refl _)
    · rw [ml_send_get (by decide) (by decide) (by decide), ml_send_get (by decide) (by decide) (by decide)]; exact k35.symm
    · rw [ml_send_get (by decide) (by decide) (by decide), ml_send_get (by decide) (by decide) (by decide)]
  · unfold fl_grant
    simp only
    rw [ot_get (by decide) (by decide), nt_send_get (by decide) (by decide), nt_send_get (by decide) (by decide)]; exact k7
  · unfold ml_give
    simp only
    rw [mt_get (by decide) (by decide) (by decide), ml_send_get (by decide) (by decide) (by decide), ml_send_get (by decide) (by decide) (by decide), gv0_get (by omega)]
  · unfold ml_give wtN
    simp only
    rw [mt_get (by decide) (by decide) (by decide), ml_send_get (by decide) (by decide) (by decide), ml_send_get (by decide) (by decide) (by decide), gv0_get (by omega)]
