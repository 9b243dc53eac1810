theorem RF.clm {g m : Nat} {S T : St} {v : Int32} (h : RF m S T g) : RF m (sc S 0 (6 * g + m) 1 v) T g := by
  obtain ⟨hI, h6, h7, hr, hn, hh, hc, hw2, hx2, w1, w2, w3, w4⟩ := h
  have e0 : ∀ x y z, ¬ (x = 0 ∧ y = 6 * g + m ∧ z = 1) → (sc S 0 (6 * g + m) 1 v).1 x y z = S.1 x y z := fun x y z q => by rw [sc_get, if_neg q]
  have ew : wN (sc S 0 (6 * g + m) 1 v) g = wN S g := by unfold wN; rw [e0 _ _ _ (by omega)]
  have er : ∀ k, rN (sc S 0 (6 * g + m) 1 v) g k = rN S g k := fun k => by unfold rN; rw [e0 _ _ _ (by omega)]
  refine ⟨hI.sc01, by rw [e0 _ _ _ (by omega)]; exact h6, by rw [e0 _ _ _ (by omega)]; exact h7, fun j hj => by rw [e0 _ _ _ (by omega)]; exact hr j hj, ?_, ?_, fun q hq hqx => ?_, fun q hq => ?_, fun q hq => ?_, w1, w2, w3, ?_⟩
  · rw [e0 _ _ _ (by omega), e0 _ _ _ (by omega), e0 _ _ _ (by omega), e0 _ _ _ (by omega)]; exact hn
  · rw [e0 _ _ _ (by omega)]
    intro q
    obtain ⟨a1, a2, a3, a4, a5, a6⟩ := hh q
    exact ⟨fun j hj => by rw [e0 _ _ _ (by omega)]; exact a1 j hj, by rw [e0 _ _ _ (by omega)]; exact a2, by rw [e0 _ _ _ (by omega)]; exact a3, by rw [e0 _ _ _ (by omega)]; exact a4, a5, a6⟩
  · rw [e0 _ _ _ (by omega), e0 _ _ _ (by omega)]; exact hc q hq hqx
  · rw [e0 _ _ _ (by omega), e0 _ _ _ (by omega), e0 _ _ _ (by omega)]; exact hw2 q hq
  · rw [e0 _ _ _ (by omega)]; exact hx2 q hq
  · exact w4.ext ew (fun k _ => er k) (fun _ _ => rfl) (fun _ _ _ => rfl)
theorem grant_get {S : St} {g m a b c : Nat} {t : Int32} (h5 : a ≠ 5) (h6 : a ≠ 6) (h : ¬ (a = 1 ∧ b = g ∧ (c = 6 ∨ c = 7 ∨ c = 8))) (h8 : ¬ (a = 8 ∧ b = 2 * g + 1)) : (fl_grant S g m t).1 a b c = S.1 a b c := by
  unfold fl_grant
  simp only
  rw [ot_get h5 h6, nt_send_get h5 h6, nt_send_get h5 h6, gr0_get h h8]
theorem back_0 {S : St} {g m b c : Nat} {t : Int32} : (fl_back S g m t).1 0 b c = S.1 0 b c := by
  unfold fl_back
  split
  · unfold fl_free
    split
    · rw [nt_send_get (by decide) (by decide), free0_get (by omega)]
    · rw [grant_get (by decide) (by decide) (by omega) (by omega), fl_go_get (by decide) (by omega), free0_get (by omega)]
  · exact fl_go_get (by decide) (by omega)
theorem RTh.of {g : Nat} {S T S' T' : St} (h : RTh S T) (hL : Loc g S S') (hM : LcM g T T') : RTh S' T' := h.eq (fun i => hL.2 4 i 0 (by decide) (by decide) (by omega) (by omega) (by omega) (by omega)) (fun i => hM.2.2.2 5 i (by decide) (by decide) (by decide) (by decide) (by omega) (by omega))
theorem RFl.new {g m : Nat} {S T : St} {a t : Int32} {e : Bool} (h : RFl S T g) (hQ : RNet S T) (hT : RTh S T) (hP : S.1 4 (6 * g + m) 1 = T.2.2.1 6 (6 * g + m)) (hg : g < 3) (hm : m < 6) (ht : t = T.2.2.1 1 0) :
    RFl (fl_new S g m a e t) (ml_new T g m a e) g ∧ RNet (fl_new S g m a e t) (ml_new T g m a e) ∧ RTh (fl_new S g m a e t) (ml_new T g m a e) ∧ (fl_new S g m a e t).1 1 g 7 ≠ nI m ∧ wtN (ml_new T g m a e) (6 * g + m) = 0 ∧ ((fl_new S g m a e t).1 0 (6 * g + m) 2 = (ml_new T g m a e).2.2.1 42 (6 * g + m) ∧ (fl_new S g m a e t).1 0 (6 * g + m) 3 = (ml_new T g m a e).2.2.1 43 (6 * g + m)) ∧ (ml_new T g m a e).2.2.1 39 0 = T.2.2.1 39 0 ∧ (ml_new T g m a e).2.2.1 1 0 = T.2.2.1 1 0 ∧ (fl_new S g m a e t).1 0 (6 * g + m) 0 = a := by
  have hd : (6 * g + m) / 6 = g := by omega
  have r0 : RF m S (sm (sm T 40 (6 * g + m) a) 41 (6 * g + m) 0) g := (h.1.off (m := m) (Or.inr rfl) (Or.inl rfl)).off (Or.inl rfl) (Or.inr rfl)
  obtain ⟨b1', b2, b3, b4, b5⟩ := r0.back h.2 ((hQ.sm (by decide) (by decide) (by decide)).sm (by decide) (by decide) (by decide)) (hT.eq (fun _ => rfl) (fun i => by rw [sm_get, if_neg (by omega), sm_get, if_neg (by omega)])) hg hm (Or.inl rfl) (t := t) (by rw [sm_get, if_neg (by omega), sm_get, if_neg (by omega)]; exact ht)
  have h40 : (ml_clear (sm (sm T 40 (6 * g + m) a) 41 (6 * g + m) 0) g m).2.2.1 40 (6 * g + m) = a := by
    rw [clear_get (by decide) (by decide) (by decide) (by decide) (by omega), sm_get, if_neg (by omega), sm_get, if_pos ⟨rfl, rfl⟩]
  have h41 : (ml_clear (sm (sm T 40 (6 * g + m) a) 41 (6 * g + m) 0) g m).2.2.1 41 (6 * g + m) = 0 := by
    rw [clear_get (by decide) (by decide) (by decide) (by decide) (by omega), sm_get, if_pos ⟨rfl, rfl⟩]
  have e0 : ∀ f i, f ≠ 2 → f ≠ 3 → f ≠ 4 → ¬ (30 ≤ f ∧ f ≤ 38) → ¬ (40 ≤ f ∧ f ≤ 44) → (ml_new T g m a e).2.2.1 f i = T.2.2.1 f i := fun f i q2 q3 q4 q30 q40 => by
    unfold ml_new ml_n0
    simp only
    rw [sm_get, if_neg (by omega), sm_get, if_neg (by omega), clear_get q2 q3 q4 (by omega) (by omega), sm_get, if_neg (by omega), sm_get, if_neg (by omega)]
  have r1 := b1'.ren (e := e) (p := (fl_back S g m t).1 4 (6 * g + m) 1) hm b5 b4 h40 h41
  have k7 : (fl_new S g m a e t).1 1 g 7 = (fl_back S g m t).1 1 g 7 := renew_get (by omega)
  have r2 : RF 6 (fl_new S g m a e t) (ml_new T g m a e) g := r1.wish hm b5 (by rw [renew_get (by omega)]; exact b4)
  have hL : Loc g S (fl_new S g m a e t) := Loc.back.tr (.renew hd)
  refine ⟨⟨r2, ?_⟩, ?_, hT.of hL (LcM.new hm), by rw [k7]; exact b4, ?_, ⟨?_, ?_⟩, e0 _ _ (by decide) (by decide) (by decide) (by decide) (by decide), e0 _ _ (by decide) (by decide) (by decide) (by decide) (by decide), ?_⟩
  · rw [k7]
    intro q
    have := b3 q
    unfold wN at this ⊢
    rw [show (fl_new S g m a e t).1 1 g 5 = (fl_back S g m t).1 1 g 5 from renew_get (by omega)]
    exact this
  · refine b2.eq (fun x y z q => renew_get (by omega)) (fun f i q => ?_)
    unfold ml_new ml_n0
    simp only
    rw [sm_get, if_neg (by omega), sm_get, if_neg (by omega)]
  · unfold wtN ml_new ml_n0
    simp only
    rw [sm_get, if_neg (by omega), sm_get, if_neg (by omega)]
    exact b5
  · unfold fl_new cl_renew ml_new ml_n0; simp [sc_get, sm_get]
  · have z1 : (fl_new S g m a e t).1 0 (6 * g + m) 3 = (fl_back S g m t).1 4 (6 * g + m) 1 := by unfold fl_new cl_renew; simp [sc_get]
    have z2 : (ml_new T g m a e).2.2.1 43 (6 * g + m) = T.2.2.1 6 (6 * g + m) := by
      unfold ml_new ml_n0
      simp only
      rw [sm_get, if_pos ⟨rfl, rfl⟩, sm_get, if_neg (by omega), clear_get (by decide) (by decide) (by decide) (by decide) (by omega), sm_get, if_neg (by omega), sm_get, if_neg (by omega)]
    rw [z1, z2, ← hP]
    exact Loc.back.2 4 _ _ (by decide) (by decide) (by omega) (by omega) (by omega) (by omega)
  · unfold fl_new cl_renew; simp [sc_get]
theorem RFl.req {g m : Nat} {S T : St} {a t : Int32} {e : Bool} (h : RFl S T g) (hQ : RNet S T) (hT : RTh S T) (hP : S.1 4 (6 * g + m) 1 = T.2.2.1 6 (6 * g + m)) (hg : g < 3) (hm : m < 6) (ht : t = T.2.2.1 1 0) (h0 : 0 ≤ T.2.2.1 1 0) (h39 : T.2.2.1 39 0 = nI (hdN T)) (hb : hdN T + 1 < 2 ^ 30) :
    RFl (fl_req S g m a e t) (ml_req T g m a e) g ∧ RNet (fl_req S g m a e t) (ml_req T g m a e) ∧ ((ml_req T g m a e).2.2.1 39 0 = T.2.2.1 39 0 ∨ (ml_req T g m a e).2.2.1 39 0 = nI (hdN T + 1)) := by
  have c0 := (h.1.2.2.2.2.2.2.1 m hm (by omega)).1
  unfold fl_req ml_req
  rw [hT _ (show 6 * g + m < 18 by omega), c0]
  by_cases q1 : T.2.2.1 5 (6 * g + m) = 0
  · rw [if_pos q1, if_pos q1]; exact ⟨h, hQ, Or.inl rfl⟩
  rw [if_neg q1, if_neg q1]
  by_cases q2 : T.2.2.1 40 (6 * g + m) ≤ a
  · rw [if_pos q2, if_pos q2]
    by_cases q3 : a = T.2.2.1 40 (6 * g + m)
    · rw [if_pos q3, if_pos q3]
      obtain ⟨a1, a2, a3⟩ := h.again hQ hg hm q3 rfl
      exact ⟨a1, a2, Or.inl a3⟩
    · rw [if_neg q3, if_neg q3]
      obtain ⟨n1, n2, n3, n4, n5, n6, n7, n8, n9⟩ := h.new (a := a) (e := e) hQ hT hP hg hm ht
      generalize fl_new S g m a e t = S1 at n1 n2 n3 n4 n5 n6 n7 n8 n9 ⊢
      generalize ml_new T g m a e = T1 at n1 n2 n3 n4 n5 n6 n7 n8 n9 ⊢
      have ehd : hdN T1 = hdN T := hdN_eq n7
      unfold ml_rq2
      have hF := n1.1.1.1
      have hw4 := hF.2.1
      rcases n1.1.ho with ⟨z1, z2⟩ | ⟨q, hq, z1, z2, z3⟩
      · have w0 := n1.2 z1
        rw [if_pos ⟨z1, by rw [hF.1, w0]; rfl⟩, z2, if_neg m1_nle]
        obtain ⟨b1', b2, b3, b4, b5⟩ := n1.1.give n2 n3 hg hm (by omega) z1 n5 n6 (t := t) (by rw [n8]; exact ht)
        exact ⟨⟨b1', fun y => by rw [b3] at y; exact absurd y (nI_m1 hm)⟩, b2, Or.inl (b4.trans n7)⟩
      · have zn : ¬ (S1.1 1 g 7 = -1 ∧ S1.1 1 g 5 = 0) := fun y => z3 y.1
        have zp : (0 : Int32) ≤ T1.2.2.1 35 g := by rw [z2]; exact nI_pos' (by omega)
        rw [if_neg zn, if_pos zp, n1.1.w3.wc]
        by_cases w4 : wN S1 g = 4
        · have y1 : ¬ S1.1 1 g 5 < 4 := by rw [hF.1, w4]; decide
          have y2 : nI (wN S1 g) = 4 := by rw [w4]; rfl
          rw [if_neg y1, if_pos y2]
          have r1 : RF m (sc S1 0 (6 * g + m) 1 1) (sm T1 41 (6 * g + m) 1) g := (n1.1.off (m := m) (Or.inr rfl) (Or.inr rfl)).clm
          have cc := (n1.1.2.2.2.2.2.2.1 m hm (by omega)).1
          have r2 : RF 6 (sc S1 0 (6 * g + m) 1 1) (sm T1 41 (6 * g + m) 1) g := r1.full ⟨by rw [sc_get, if_neg (by omega), sm_get, if_neg (by omega)]; exact cc, by rw [sc_get, if_pos ⟨rfl, rfl, rfl⟩, sm_get, if_pos ⟨rfl, rfl⟩], by rw [sm_get, if_pos ⟨rfl, rfl⟩]; exact Or.inr rfl⟩
          refine ⟨⟨r2.send, ?_⟩, ?_, Or.inl ?_⟩
          · rw [nt_send_get (by decide) (by decide), sc_get, if_neg (by omega)]; exact fun y => absurd y z3
          · have hQ2 : RNet (sc S1 0 (6 * g + m) 1 1) (sm T1 41 (6 * g + m) 1) := (n2.sc (by decide) (by decide) (by decide)).sm (by decide) (by decide) (by decide)
            exact hQ2.send (vm_k (k := 5) (by omega) (by omega) hg hm)
          · rw [ml_send_get (by decide) (by decide) (by decide), sm_get, if_neg (by omega)]; exact n7
        · have y1 : S1.1 1 g 5 < 4 := by rw [hF.1]; exact nI_lt (b := 4) (by omega) (by decide)
          have y2 : ¬ nI (wN S1 g) = 4 := by rw [show (4 : Int32) = nI 4 from rfl, nI_eq (by omega) (by omega)]; exact w4
          rw [if_pos y1, if_neg y2]
          obtain ⟨i1, i2, i3⟩ := n1.1.ins hg hm n5 n4 n6 (by omega) (by rw [ehd, n7]; exact h39) (by rw [ehd]; exact hb)
          have hQ2 : RNet (fl_ins S1 g m) (ml_wt T1 g m) := n2.eq (fun x y z k => ins_get (by omega) (by omega)) (fun f i k => wt_get (by omega) (by omega))
          have k0 : (fl_ins S1 g m).1 0 (6 * g + m) 0 = a := by rw [ins_get (by decide) (by omega)]; exact n9
          have k7 : (fl_ins S1 g m).1 1 g 7 ≠ -1 := by rw [ins_get (by decide) (by omega)]; exact z3
          have hQ3 : RNet (fl_enq S1 g m) (ml_q4 T1 g m a) := by
            unfold fl_enq ml_q4
            simp only
            rw [k0, i3]
            exact hQ2.send (vm_k (k := 4) (by omega) (by omega) hg hm)
          have f3 : RFl (fl_enq S1 g m) (ml_q4 T1 g m a) g := by
            unfold fl_enq ml_q4
            refine ⟨i1.send, ?_⟩
            rw [nt_send_get (by decide) (by decide)]; exact fun y => absurd y k7
          have w44 : (ml_wt T1 g m).2.2.1 44 (6 * g + m) = nI (hdN T + 1) := by
            unfold ml_wt
            simp only
            rw [sm_get, if_pos ⟨rfl, rfl⟩, sm_get, if_pos ⟨rfl, rfl⟩, n7, h39, nI_1]
          have wp : 0 < wtN (ml_q4 T1 g m a) (6 * g + m) := by
            unfold wtN ml_q4
            simp only
            rw [ml_send_get (by decide) (by decide) (by decide), w44, nI_clamp (by omega)]
            omega
          have t1 : (ml_q4 T1 g m a).2.2.1 1 0 = T.2.2.1 1 0 := by
            unfold ml_q4
            simp only
            rw [ml_send_get (by decide) (by decide) (by decide), wt_get (by decide) (by decide)]; exact n8
          have t39 : (ml_q4 T1 g m a).2.2.1 39 0 = nI (hdN T + 1) := by
            unfold ml_q4
            simp only
            rw [ml_send_get (by decide) (by decide) (by decide), i2, ehd]
          obtain ⟨v1, v2, v3⟩ := f3.rev (t := t) hQ3 hg hm wp (by unfold fl_enq; rw [nt_send_get (by decide) (by decide)]; exact k7) (by rw [t1]; exact ht) (by rw [t1]; exact h0)
          exact ⟨v1, v2, Or.inr (v3.trans t39)⟩
  · rw [if_neg q2, if_neg q2]; exact ⟨h, hQ, Or.inl rfl⟩
theorem i32_le_antisymm {a b : Int32} (h1 : a ≤ b) (h2 : b ≤ a) : a = b := by
  rw [Int32.le_iff_toInt_le] at h1 h2
  exact Int32.toInt_inj.mp (by omega)
theorem RFl.rel {g m : Nat} {S T : St} {a t : Int32} (h : RFl S T g) (hQ : RNet S T) (hT : RTh S T) (hg : g < 3) (hm : m < 6) (ht : t = T.2.2.1 1 0) :
    RFl (fl_rel S g m a t) (ml_rel T g m a) g ∧ RNet (fl_rel S g m a t) (ml_rel T g m a) ∧ (ml_rel T g m a).2.2.1 39 0 = T.2.2.1 39 0 := by
  obtain ⟨c0, c1, c2⟩ := h.1.2.2.2.2.2.2.1 m hm (by omega)
  unfold fl_rel ml_rel
  rw [back_0, c0]
  by_cases q2 : T.2.2.1 40 (6 * g + m) ≤ a
  · rw [if_pos q2, if_pos q2]
    have r0 : RF m S (sm (sm T 41 (6 * g + m) (bI (ml_dn T (6 * g + m) a))) 40 (6 * g + m) a) g := (h.1.off (m := m) (Or.inr rfl) (Or.inr rfl)).off (Or.inl rfl) (Or.inl rfl)
    obtain ⟨b1', b2, b3, b4, b5⟩ := r0.back h.2 ((hQ.sm (by decide) (by decide) (by decide)).sm (by decide) (by decide) (by decide)) (hT.eq (fun _ => rfl) (fun i => by rw [sm_get, if_neg (by omega), sm_get, if_neg (by omega)])) hg hm (Or.inl rfl) (t := t) (by rw [sm_get, if_neg (by omega), sm_get, if_neg (by omega)]; exact ht)
    have h40 : (ml_clear (sm (sm T 41 (6 * g + m) (bI (ml_dn T (6 * g + m) a))) 40 (6 * g + m) a) g m).2.2.1 40 (6 * g + m) = a := by
      rw [clear_get (by decide) (by decide) (by decide) (by decide) (by omega), sm_get, if_pos ⟨rfl, rfl⟩]
    have h41 : (ml_clear (sm (sm T 41 (6 * g + m) (bI (ml_dn T (6 * g + m) a))) 40 (6 * g + m) a) g m).2.2.1 41 (6 * g + m) = bI (ml_dn T (6 * g + m) a) := by
      rw [clear_get (by decide) (by decide) (by decide) (by decide) (by omega), sm_get, if_neg (by omega), sm_get, if_pos ⟨rfl, rfl⟩]
    have h39 : (ml_clear (sm (sm T 41 (6 * g + m) (bI (ml_dn T (6 * g + m) a))) 40 (6 * g + m) a) g m).2.2.1 39 0 = T.2.2.1 39 0 := by
      rw [clear_get (by decide) (by decide) (by decide) (by decide) (by omega), sm_get, if_neg (by omega), sm_get, if_neg (by omega)]
    by_cases q3 : a ≤ T.2.2.1 40 (6 * g + m)
    · rw [if_pos q3]
      have ea := i32_le_antisymm q2 q3
      have ed : bI (ml_dn T (6 * g + m) a) = T.2.2.1 41 (6 * g + m) := by
        unfold ml_dn
        rcases c2 with z | z <;> rw [z, ea] <;> simp [bI]
      refine ⟨⟨b1'.full ?_, b3⟩, b2, h39⟩
      rw [h40, h41, ed, back_0, back_0]
      exact ⟨c0.trans ea, c1, c2⟩
    · rw [if_neg q3]
      have ed : bI (ml_dn T (6 * g + m) a) = 0 := by
        unfold ml_dn
        rw [decide_eq_false (fun z => q3 (by rw [z.2]; exact Int32.le_refl _))]
        rfl
      refine ⟨⟨b1'.ren hm b5 b4 h40 (h41.trans ed), ?_⟩, b2.eq (fun x y z q => renew_get (by omega)) (fun _ _ _ => rfl), h39⟩
      rw [renew_get (by omega)]
      intro y
      have := b3 y
      unfold wN at this ⊢
      rw [renew_get (by omega)]
      exact this
  · rw [if_neg q2, if_neg q2]; exact ⟨h, hQ, rfl⟩
/-! a unit was passed -/
theorem RFl.pass {g : Nat} {S T : St} {a t : Int32} (h : RFl S T g) (ht : t = T.2.2.1 1 0) (h0 : 0 ≤ T.2.2.1 1 0) : RFl (fl_pass S g a t) (sm T 38 g (ml_pa T g a)) g := by
  have keep : ml_pa T g a = T.2.2.1 38 g → RFl S (sm T 38 g (ml_pa T g a)) g := fun e => by
    have e0 : ∀ f i, (sm T 38 g (ml_pa T g a)).2.2.1 f i = T.2.2.1 f i := fun f i => by
      rw [sm_get]
      split
      · rename_i q
        rw [q.1, q.2, e]
      · rfl
    exact ⟨h.1.eq (fun _ _ _ _ => rfl) (fun f i _ => e0 f i) (by rw [hdN_eq (e0 _ _)]; exact Nat.le_refl _) (by rw [hdN_eq (e0 _ _)]; exact h.1.w3.2.2.1), h.2⟩
  unfold fl_pass
  rcases h.1.ho with ⟨z1, z2⟩ | ⟨q, hq, z1, z2, z3⟩
  · rw [if_pos z1]
    exact keep (by unfold ml_pa; rw [z2, if_pos m1_lt])
  · have zp : ¬ T.2.2.1 35 g < 0 := by rw [z2]; exact nI_pos (by omega)
    rw [if_neg z3, h.1.2.1]
    by_cases y : a = T.2.2.1 34 g
    · have e : ml_pa T g a = t := by unfold ml_pa; rw [if_neg zp, if_pos y.symm, ht]
      rw [if_pos y, e]
      refine ⟨h.1.psd z3 (by rw [ht]; exact h0), ?_⟩
      rw [sc_get, if_neg (by omega)]; exact fun k => absurd k z3
    · rw [if_neg y]
      exact keep (by unfold ml_pa; rw [if_neg zp, if_neg (fun k => y k.symm)])
/-! time passes -/
theorem i32_nlt {a b : Int32} : ¬ a < b ↔ b ≤ a := by rw [Int32.le_iff_toInt_le, Int32.lt_iff_toInt_lt]; omega
theorem RF.over {x g : Nat} {S T : St} {t : Int32} (h : RF x S T g) (hh : S.1 1 g 7 ≠ -1) (ht : t = T.2.2.1 1 0) : fl_over S g t = ml_over T g := by
  obtain ⟨a1, a2, a3, a4, a5, a6⟩ := h.2.2.2.2.2.1 hh
  have e1 : S.1 8 (2 * g + 1) 1 = T.2.2.1 31 g := a1 1 (by omega)
  have e2 : S.1 8 (2 * g + 1) 2 = T.2.2.1 32 g := a1 2 (by omega)
  have e3 : S.1 8 (2 * g + 1) 3 = T.2.2.1 33 g := a1 3 (by omega)
  have el : fl_last S g = ml_last T g := by
    unfold fl_last ml_last
    rw [a3, a4]
    rcases a6 with z | z
    · rw [z, if_pos rfl, if_neg m1_nle]
    · rw [if_pos z, if_neg (fun y => by rw [y] at z; exact m1_nle z)]
  have er : ¬ T.2.2.1 36 g = -1 ↔ ¬ T.2.2.1 36 g < 0 := by
    rcases a5 with z | z
    · rw [z]; exact ⟨fun y => absurd rfl y, fun y => absurd m1_lt y⟩
    · exact ⟨fun _ => i32_nlt.mpr z, fun _ y => by rw [y] at z; exact m1_nle z⟩
  unfold fl_over ml_over
  rw [e1, e2, e3, el, a2, a3, ht]
  refine decide_eq_decide.mpr ?_
  rw [er, i32_nlt (a := T.2.2.1 1 0 - T.2.2.1 36 g)]
theorem RFl.time {g : Nat} {S T : St} {t : Int32} (h : RFl S T g) (hQ : RNet S T) (hT : RTh S T) (hg : g < 3) (ht : t = T.2.2.1 1 0) :
    RFl (fl_time S g t) (ml_st T g) g ∧ RNet (fl_time S g t) (ml_st T g) ∧ (ml_st T g).2.2.1 39 0 = T.2.2.1 39 0 := by
  have talk : ∀ S1 T1 : St, RFl S1 T1 g → RNet S1 T1 → RTh S1 T1 → t = T1.2.2.1 1 0 → T1.2.2.1 39 0 = T.2.2.1 39 0 → RFl (fl_talk S1 g t) (ml_stT T1 g) g ∧ RNet (fl_talk S1 g t) (ml_stT T1 g) ∧ (ml_stT T1 g).2.2.1 39 0 = T.2.2.1 39 0 := by
    intro S1 T1 f1 f2 f3 f4 f5
    unfold fl_talk ml_stT
    rw [← f4]
    rcases f1.1.ho with ⟨z1, z2⟩ | ⟨q, hq, z1, z2, z3⟩
    · rw [if_pos z1, z2, if_pos m1_lt]
      split
      · exact ⟨f1, f2, f5⟩
      · exact ⟨f1, f2, f5⟩
    · have zp : ¬ T1.2.2.1 35 g < 0 := by rw [z2]; exact nI_pos (by omega)
      rw [if_neg z3, if_neg zp]
      split
      · refine ⟨⟨f1.1.talk, ?_⟩, f2.talk f3 hg f1.1.2.2.1 f1.1.2.1 6 (Nat.le_refl _), by rw [mt_get (by decide) (by decide) (by decide)]; exact f5⟩
        rw [ot_get (by decide) (by decide)]; exact fun k => absurd k z3
      · exact ⟨f1, f2, f5⟩
  unfold fl_time ml_st
  rcases h.1.ho with ⟨z1, z2⟩ | ⟨q, hq, z1, z2, z3⟩
  · have e1 : fl_end S g t = S := by unfold fl_end; rw [if_pos z1]
    have e2 : fl_talk S g t = S := by unfold fl_talk; rw [if_pos z1]
    rw [e1, e2, z2, if_neg m1_nle]
    exact ⟨h, hQ, rfl⟩
  · have zp : (0 : Int32) ≤ T.2.2.1 35 g := by rw [z2]; exact nI_pos' (by omega)
    rw [if_pos zp]
    have e1 : hN S g = q := by unfold hN; rw [z1, nI_clamp (by omega)]
    have hov := h.1.over z3 ht
    unfold fl_end ml_stE
    rw [if_neg z3, e1, hov]
    by_cases ho : ml_over T g = true
    · rw [if_pos ho, if_pos ho]
      have hw := h.1.2.2.2.2.2.2.2.2.1 q hq z1
      have hQ2 : RNet (nt_send S 7 (nI g) (S.1 1 g 7) (S.1 1 g 6) 0 0) (ml_send T 7 (nI g) (T.2.2.1 35 g) (T.2.2.1 34 g) 0 0) := by
        rw [h.1.2.1, z1, z2]
        exact hQ.send (vm_k (k := 7) (by omega) (by omega) hg hq)
      have hR2 : RF 6 (nt_send S 7 (nI g) (S.1 1 g 7) (S.1 1 g 6) 0 0) (ml_send T 7 (nI g) (T.2.2.1 35 g) (T.2.2.1 34 g) 0 0) g := h.1.send
      have eb : fl_back (nt_send S 7 (nI g) (S.1 1 g 7) (S.1 1 g 6) 0 0) g q t = fl_free (nt_send S 7 (nI g) (S.1 1 g 7) (S.1 1 g 6) 0 0) g t := by
        unfold fl_back
        rw [nt_send_get (by decide) (by decide), if_pos z1.symm]
      rw [eb]
      have tt : t = (ml_send T 7 (nI g) (T.2.2.1 35 g) (T.2.2.1 34 g) 0 0).2.2.1 1 0 := by rw [ml_send_get (by decide) (by decide) (by decide)]; exact ht
      obtain ⟨b1', b2, b3, b4, b5⟩ := hR2.free (m := q) (t := t) hQ2 hT.send hg hq (Or.inr rfl) (by unfold wtN; rw [ml_send_get (by decide) (by decide) (by decide)]; exact hw) tt
      refine talk _ _ ⟨b1', b3⟩ b2 (hT.send.of Loc.free LcM.free) ?_ ?_
      · rw [free_get (by decide) (by decide) (by decide) (by decide) (by omega)]; exact tt
      · rw [free_get (by decide) (by decide) (by decide) (by decide) (by omega), ml_send_get (by decide) (by decide) (by decide)]
    · rw [if_neg ho, if_neg ho]
      exact talk S T h hQ hT ht rfl
