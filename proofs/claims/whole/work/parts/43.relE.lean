/-! a member's claim is made new -/
theorem RF.off {x g m f : Nat} {S T : St} {v : Int32} (h : RF x S T g) (hx : x = m ∨ x = 6) (hf : f = 40 ∨ f = 41) : RF m S (sm T f (6 * g + m) v) g := by
  obtain ⟨hI, h6, h7, hr, hn, hh, hc, hw2, hx2, w1, w2, w3, w4⟩ := h
  have t0 : ∀ f' i, ¬ (f' = 40 ∨ f' = 41) ∨ i ≠ 6 * g + m → (sm T f (6 * g + m) v).2.2.1 f' i = T.2.2.1 f' i := fun f' i q => by rw [sm_get, if_neg (by omega)]
  have et : ∀ i, wtN (sm T f (6 * g + m) v) i = wtN T i := fun i => by unfold wtN; rw [t0 _ _ (by omega)]
  have ek : ∀ i, ky (sm T f (6 * g + m) v) i = ky T i := fun i => ky_sm (by omega)
  have eh : hdN (sm T f (6 * g + m) v) = hdN T := hdN_eq (t0 _ _ (by omega))
  refine ⟨hI, by rw [t0 _ _ (by omega)]; exact h6, by rw [t0 _ _ (by omega)]; exact h7, fun j hj => by rw [t0 _ _ (by omega)]; exact hr j hj, hn, fun q => ?_, fun q hq hqx => ?_, fun q hq => ?_, fun q hq => ?_, fun q hq => ?_, fun q hq => ?_, ?_, ?_⟩
  · obtain ⟨a1, a2, a3, a4, a5, a6⟩ := hh q
    exact ⟨fun j hj => by rw [t0 _ _ (by omega)]; exact a1 j hj, by rw [t0 _ _ (by omega)]; exact a2, by rw [t0 _ _ (by omega)]; exact a3, by rw [t0 _ _ (by omega)]; exact a4, by rw [t0 _ _ (by omega)]; exact a5, by rw [t0 _ _ (by omega)]; exact a6⟩
  · rw [t0 _ _ (by omega), t0 _ _ (by omega)]; exact hc q hq (by omega)
  · rw [t0 _ _ (by omega), t0 _ _ (by omega), et]; exact hw2 q hq
  · rw [et]; exact hx2 q hq
  · rw [et, eh, t0 _ _ (by omega)]; exact w1 q hq
  · rw [t0 _ _ (by omega)]; exact w2 q hq
  · rw [eh]; exact w3
  · exact w4.ext rfl (fun _ _ => rfl) (fun q _ => et _) (fun q _ _ => ek _)
theorem RF.full {g m : Nat} {S T : St} (h : RF m S T g) (h0 : S.1 0 (6 * g + m) 0 = T.2.2.1 40 (6 * g + m) ∧ S.1 0 (6 * g + m) 1 = T.2.2.1 41 (6 * g + m) ∧ b1 (T.2.2.1 41 (6 * g + m))) : RF 6 S T g := by
  obtain ⟨hI, h6, h7, hr, hn, hh, hc, hw2, hx2, hW⟩ := h
  refine ⟨hI, h6, h7, hr, hn, hh, fun q hq _ => ?_, hw2, hx2, hW⟩
  by_cases z : q = m
  · rw [z]; exact h0
  · exact hc q hq z
theorem RF.ren {g m : Nat} {S T : St} {a p : Int32} {e : Bool} (h : RF m S T g) (hm : m < 6) (hw : wtN T (6 * g + m) = 0) (hh : S.1 1 g 7 ≠ nI m) (h40 : T.2.2.1 40 (6 * g + m) = a) (h41 : T.2.2.1 41 (6 * g + m) = 0) : RF 6 (cl_renew S (6 * g + m) a e p) T g := by
  obtain ⟨hI, h6, h7, hr, hn, hh2, hc, hw2, hx2, w1, w2, w3, w4⟩ := h
  have e0 : ∀ x y z, ¬ (x = 0 ∧ y = 6 * g + m) → (cl_renew S (6 * g + m) a e p).1 x y z = S.1 x y z := fun x y z q => renew_get q
  have ew : wN (cl_renew S (6 * g + m) a e p) g = wN S g := by unfold wN; rw [e0 _ _ _ (by omega)]
  have er : ∀ k, rN (cl_renew S (6 * g + m) a e p) g k = rN S g k := fun k => by unfold rN; rw [e0 _ _ _ (by omega)]
  refine ⟨hI.renew, by rw [e0 _ _ _ (by omega)]; exact h6, by rw [e0 _ _ _ (by omega)]; exact h7, fun j hj => by rw [e0 _ _ _ (by omega)]; exact hr j hj, ?_, ?_, fun q hq hqx => ?_, fun q hq hq2 => ?_, fun q hq => ?_, w1, w2, w3, ?_⟩
  · rw [e0 _ _ _ (by omega), e0 _ _ _ (by omega), e0 _ _ _ (by omega), e0 _ _ _ (by omega)]; exact hn
  · rw [e0 _ _ _ (by omega)]
    intro q
    obtain ⟨a1, a2, a3, a4, a5, a6⟩ := hh2 q
    exact ⟨fun j hj => by rw [e0 _ _ _ (by omega)]; exact a1 j hj, by rw [e0 _ _ _ (by omega)]; exact a2, by rw [e0 _ _ _ (by omega)]; exact a3, by rw [e0 _ _ _ (by omega)]; exact a4, a5, a6⟩
  · by_cases z : q = m
    · subst z
      rw [h40, h41]
      refine ⟨?_, ?_, Or.inl rfl⟩
      · unfold cl_renew; simp [sc_get]
      · unfold cl_renew; simp [sc_get]
    · rw [e0 _ _ _ (by omega), e0 _ _ _ (by omega)]; exact hc q hq z
  · rw [e0 1 _ _ (by omega)] at hq2
    have z : q ≠ m := by
      rintro rfl
      rcases hq2 with y | y
      · omega
      · exact hh y
    rw [e0 _ _ _ (by omega), e0 _ _ _ (by omega)]; exact hw2 q hq hq2
  · rw [e0 _ _ _ (by omega)]; exact hx2 q hq
  · exact w4.ext ew (fun k _ => er k) (fun _ _ => rfl) (fun _ _ _ => rfl)
theorem RF.wish {x g m : Nat} {S T : St} {p : Int32} {e : Bool} (h : RF x S T g) (hm : m < 6) (hw : wtN T (6 * g + m) = 0) (hh : S.1 1 g 7 ≠ nI m) : RF x S (sm (sm T 42 (6 * g + m) (bI e)) 43 (6 * g + m) p) g := by
  obtain ⟨hI, h6, h7, hr, hn, hh2, hc, hw2, hx2, w1, w2, w3, w4⟩ := h
  have t0 : ∀ f' i, ¬ (f' = 42 ∨ f' = 43) ∨ i ≠ 6 * g + m → (sm (sm T 42 (6 * g + m) (bI e)) 43 (6 * g + m) p).2.2.1 f' i = T.2.2.1 f' i := fun f' i q => by rw [sm_get, if_neg (by omega), sm_get, if_neg (by omega)]
  have et : ∀ i, wtN (sm (sm T 42 (6 * g + m) (bI e)) 43 (6 * g + m) p) i = wtN T i := fun i => by unfold wtN; rw [t0 _ _ (by omega)]
  have ek : ∀ i, i ≠ 6 * g + m → ky (sm (sm T 42 (6 * g + m) (bI e)) 43 (6 * g + m) p) i = ky T i := fun i q => by rw [ky_sm (Or.inr q), ky_sm (Or.inr q)]
  have eh : hdN (sm (sm T 42 (6 * g + m) (bI e)) 43 (6 * g + m) p) = hdN T := hdN_eq (t0 _ _ (by omega))
  refine ⟨hI, by rw [t0 _ _ (by omega)]; exact h6, by rw [t0 _ _ (by omega)]; exact h7, fun j hj => by rw [t0 _ _ (by omega)]; exact hr j hj, hn, fun q => ?_, fun q hq hqx => ?_, fun q hq hq2 => ?_, fun q hq => ?_, fun q hq => ?_, fun q hq => ?_, ?_, ?_⟩
  · obtain ⟨a1, a2, a3, a4, a5, a6⟩ := hh2 q
    exact ⟨fun j hj => by rw [t0 _ _ (by omega)]; exact a1 j hj, by rw [t0 _ _ (by omega)]; exact a2, by rw [t0 _ _ (by omega)]; exact a3, by rw [t0 _ _ (by omega)]; exact a4, by rw [t0 _ _ (by omega)]; exact a5, by rw [t0 _ _ (by omega)]; exact a6⟩
  · rw [t0 _ _ (by omega), t0 _ _ (by omega)]; exact hc q hq hqx
  · rw [et] at hq2
    have z : q ≠ m := by
      rintro rfl
      rcases hq2 with y | y
      · omega
      · exact hh y
    rw [t0 _ _ (by omega), t0 _ _ (by omega)]; exact hw2 q hq hq2
  · rw [et]; exact hx2 q hq
  · rw [et, eh, t0 _ _ (by omega)]; exact w1 q hq
  · by_cases z : q = m
    · subst z
      rw [sm_get, if_neg (by omega), sm_get, if_pos ⟨rfl, rfl⟩]
      cases e
      · exact Or.inl rfl
      · exact Or.inr rfl
    · rw [t0 _ _ (by omega)]; exact w2 q hq
  · rw [eh]; exact w3
  · refine w4.ext rfl (fun _ _ => rfl) (fun q _ => et _) (fun q _ z => ek _ ?_)
    intro y
    have : q = m := by omega
    subst this
    omega
/-! one comes into the row -/
theorem enf_sp {S : St} {g m : Nat} : ∀ n p, (∃ q, p ≤ q ∧ q < p + n ∧ cl_above S (6 * g + m) (6 * g + rN S g q) = true ∧ enf S g m p n = q ∧ ∀ r, p ≤ r → r < q → ¬ cl_above S (6 * g + m) (6 * g + rN S g r) = true) ∨ (enf S g m p n = p + n ∧ ∀ r, p ≤ r → r < p + n → ¬ cl_above S (6 * g + m) (6 * g + rN S g r) = true)
  | 0, p => Or.inr ⟨rfl, fun r a b => by omega⟩
  | n + 1, p => by
    unfold enf
    split
    · rename_i h
      exact Or.inl ⟨p, by omega, by omega, h, rfl, fun r a b => by omega⟩
    · rename_i h
      rcases enf_sp n (p + 1) with ⟨q, a1, a2, a3, a4, a5⟩ | ⟨a1, a2⟩
      · refine Or.inl ⟨q, by omega, by omega, a3, a4, fun r b1 b2 => ?_⟩
        by_cases z : r = p
        · rw [z]; exact h
        · exact a5 r (by omega) b2
      · refine Or.inr ⟨by omega, fun r b1 b2 => ?_⟩
        by_cases z : r = p
        · rw [z]; exact h
        · exact a2 r (by omega) (by omega)
theorem kc_ky {S T : St} {i : Nat} (h : S.1 0 i 2 = T.2.2.1 42 i ∧ S.1 0 i 3 = T.2.2.1 43 i) : kc S i = ky T i := by unfold kc ky; rw [h.1, h.2]
theorem wt_get {T : St} {g m f i : Nat} (h : f ≠ 39) (h2 : f ≠ 44) : (ml_wt T g m).2.2.1 f i = T.2.2.1 f i := by
  unfold ml_wt
  simp only
  rw [sm_get, if_neg (by omega), sm_get, if_neg (by omega)]
theorem RF.ins {g m : Nat} {S T : St} (h : RF 6 S T g) (hg : g < 3) (hm : m < 6) (hw : wtN T (6 * g + m) = 0) (hh : S.1 1 g 7 ≠ nI m) (h23 : S.1 0 (6 * g + m) 2 = T.2.2.1 42 (6 * g + m) ∧ S.1 0 (6 * g + m) 3 = T.2.2.1 43 (6 * g + m)) (hw3 : wN S g ≤ 3) (h39 : T.2.2.1 39 0 = nI (hdN T)) (hb : hdN T + 1 < 2 ^ 30) :
    RF 6 (fl_ins S g m) (ml_wt T g m) g ∧ (ml_wt T g m).2.2.1 39 0 = nI (hdN T + 1) ∧ ml_pl (ml_wt T g m) g (6 * g + m) = fl_at S g m := by
  obtain ⟨hI, h6, h7, hr, hn, hh2, hc, hw2, hx2, w1, w2, w3, w4⟩ := id h
  have t39 : (ml_wt T g m).2.2.1 39 0 = nI (hdN T + 1) := by
    unfold ml_wt
    simp only
    rw [sm_get, if_neg (by omega), sm_get, if_pos ⟨rfl, rfl⟩, h39, nI_1]
  have t44 : ∀ i, (ml_wt T g m).2.2.1 44 i = if i = 6 * g + m then nI (hdN T + 1) else T.2.2.1 44 i := by
    intro i
    unfold ml_wt
    simp only
    rw [sm_get]
    by_cases z : i = 6 * g + m
    · rw [if_pos ⟨rfl, z⟩, if_pos z, sm_get, if_pos ⟨rfl, rfl⟩, h39, nI_1]
    · rw [if_neg (fun y => z y.2), if_neg z, sm_get, if_neg (by omega)]
  have eh : hdN (ml_wt T g m) = hdN T + 1 := by unfold hdN; rw [t39, nI_clamp (by omega)]; rfl
  have et : ∀ i, wtN (ml_wt T g m) i = if i = 6 * g + m then hdN T + 1 else wtN T i := by
    intro i
    unfold wtN
    rw [t44]
    split
    · rw [nI_clamp (by omega)]
    · rfl
  have ek : ∀ i, ky (ml_wt T g m) i = ky T i := fun i => by unfold ky; rw [wt_get (by decide) (by decide), wt_get (by decide) (by decide)]
  have e0 : ∀ a b c, a ≠ 13 → ¬ (a = 1 ∧ c = 5) → (fl_ins S g m).1 a b c = S.1 a b c := fun a b c q1 q2 => ins_get q1 (by omega)
  have hat := at_le (S := S) (g := g) (m := m)
  have kq : ∀ k, k < wN S g → kc S (6 * g + rN S g k) = ky T (6 * g + rN S g k) := fun k hk => kc_ky (hw2 _ (hI.1.2.2 k hk).1 (Or.inl (w4.1 k hk).2))
  have km : kc S (6 * g + m) = ky T (6 * g + m) := kc_ky h23
  have cq : ∀ k, k < wN S g → (cl_above S (6 * g + m) (6 * g + rN S g k) = true ↔ ky T (6 * g + rN S g k) < ky T (6 * g + m)) := fun k hk => by
    rw [ca_cmp (hI.2.1 m hm) (hI.2.1 _ (hI.1.2.2 k hk).1), kq k hk, km]
  have hcut : (∀ j, j < fl_at S g m → ky T (6 * g + m) ≤ ky T (6 * g + rN S g j)) ∧ (∀ j, fl_at S g m ≤ j → j < wN S g → ky T (6 * g + rN S g j) < ky T (6 * g + m)) := by
    rcases enf_sp (S := S) (g := g) (m := m) (wN S g) 0 with ⟨q, a1, a2, a3, a4, a5⟩ | ⟨a1, a2⟩
    · have e : fl_at S g m = q := a4
      have hq : q < wN S g := by omega
      have z := (cq q hq).mp a3
      rw [e]
      refine ⟨fun j hj => ?_, fun j hj hj2 => ?_⟩
      · have := a5 j (by omega) hj
        rw [cq j (by omega)] at this
        omega
      · by_cases y : j = q
        · rw [y]; exact z
        · have := w4.2.2 q j (by omega) hj2
          simp only at this
          omega
    · have e : fl_at S g m = wN S g := by
        show enf S g m 0 (wN S g) = _
        omega
      rw [e]
      refine ⟨fun j hj => ?_, fun j hj hj2 => by omega⟩
      have := a2 j (by omega) (by omega)
      rw [cq j hj] at this
      omega
  have hR : RF 6 (fl_ins S g m) (ml_wt T g m) g := by
    refine ⟨hI.ins hm hw3, by rw [e0 _ _ _ (by omega) (by omega), wt_get (by decide) (by decide)]; exact h6, by rw [e0 _ _ _ (by omega) (by omega), wt_get (by decide) (by decide)]; exact h7, fun j hj => by rw [e0 _ _ _ (by omega) (by omega), wt_get (by omega) (by omega)]; exact hr j hj, ?_, ?_, fun q hq hqx => ?_, fun q hq hq2 => ?_, fun q hq hq2 => ?_, fun q hq => ?_, fun q hq => ?_, by rw [eh]; exact hb, ?_⟩
    · rw [e0 _ _ _ (by omega) (by omega), e0 _ _ _ (by omega) (by omega), e0 _ _ _ (by omega) (by omega), e0 _ _ _ (by omega) (by omega)]; exact hn
    · rw [e0 _ _ _ (by omega) (by omega)]
      intro q
      obtain ⟨a1, a2, a3, a4, a5, a6⟩ := hh2 q
      refine ⟨fun j hj => by rw [e0 _ _ _ (by omega) (by omega), wt_get (by omega) (by omega)]; exact a1 j hj, ?_, ?_, ?_, ?_, ?_⟩
      · rw [e0 _ _ _ (by omega) (by omega), wt_get (by decide) (by decide)]; exact a2
      · rw [e0 _ _ _ (by omega) (by omega), wt_get (by decide) (by decide)]; exact a3
      · rw [e0 _ _ _ (by omega) (by omega), wt_get (by decide) (by decide)]; exact a4
      · rw [wt_get (by decide) (by decide)]; exact a5
      · rw [wt_get (by decide) (by decide)]; exact a6
    · rw [e0 _ _ _ (by omega) (by omega), e0 _ _ _ (by omega) (by omega), wt_get (by decide) (by decide), wt_get (by decide) (by decide)]; exact hc q hq hqx
    · rw [e0 _ _ _ (by omega) (by omega), e0 _ _ _ (by omega) (by omega), wt_get (by decide) (by decide), wt_get (by decide) (by decide)]
      by_cases z : q = m
      · subst z; exact h23
      · rw [et, if_neg (by omega), e0 1 _ _ (by omega) (by omega)] at hq2
        exact hw2 q hq hq2
    · rw [e0 _ _ _ (by omega) (by omega)] at hq2
      have z : q ≠ m := by rintro rfl; exact hh hq2
      rw [et, if_neg (by omega)]; exact hx2 q hq hq2
    · rw [t44, et, eh]
      by_cases z : q = m
      · rw [if_pos (by omega), if_pos (by omega)]; exact ⟨rfl, Nat.le_refl _⟩
      · rw [if_neg (by omega), if_neg (by omega)]; exact ⟨(w1 q hq).1, Nat.le_succ_of_le (w1 q hq).2⟩
    · rw [wt_get (by decide) (by decide)]; exact w2 q hq
    · refine (w4.ins (a := fl_at S g m) (m := m) (s := hdN T + 1) hat hm hw (fun o ho => Nat.lt_succ_of_le (w1 o ho).2) (by omega) hcut.1 hcut.2).ext (wN_ins hI.1) (fun k hk => rN_ins hm) (fun q hq => ?_) (fun q _ _ => ek _)
      show wtN _ _ = _
      rw [et]
      by_cases z : q = m
      · rw [if_pos (by omega), if_pos z]
      · rw [if_neg (by omega), if_neg z]
  refine ⟨hR, t39, ?_⟩
  have hk : fl_at S g m < wN (fl_ins S g m) g := by rw [wN_ins hI.1]; omega
  have := hR.w3.pl hg hk
  rw [rN_ins hm, if_pos rfl] at this
  exact this
