/-! the start -/
theorem s0_a : ∀ i, i < 18 → ∀ k, k < 10 → s0C 4 i k = s0M (5 + k) i := by decide +kernel
theorem s0_b : ∀ i, i < 18 → ∀ k, k < 9 → s0C 3 i k = s0M (15 + k) i := by decide +kernel
theorem s0_c : ∀ g, g < 3 → ∀ k, k < 4 → s0C 2 g (2 + k) = s0M (45 + k) g := by decide +kernel
theorem s0_d : ∀ g, g < 3 → ∀ k, k < 4 → s0C 8 (2 * g) k = s0M (26 + k) g := by decide +kernel
theorem s0_e : ∀ g, g < 3 → s0C 1 g 7 = s0M 35 g := by decide +kernel
theorem S0_rel : Rel 0 0 0 S0 S0 := by
  refine ⟨⟨0, Nat.le_refl _, rfl, rfl⟩, ⟨rfl, Nat.le_refl _⟩, ⟨0, fun k => k, by omega, rfl, rfl, rfl, fun k hk => ⟨hk, ?_⟩, fun j k _ _ e => e, fun k hk => by omega, fun k hk => by omega⟩, fun i k hi hk => s0_a i hi k hk, fun i hi => ⟨⟨0, by omega, rfl⟩, ⟨0, by omega, rfl⟩⟩, fun i hi => ?_, fun g hg => ⟨fun k hk => s0_c g hg k hk, fun n hn => ?_⟩, fun g hg => ?_⟩
  · show (if k < 61 then nI k else 0) = nI k
    rw [if_pos hk]
  · refine ⟨fun k hk => s0_b i hi k hk, Or.inl rfl, rfl, ?_, fun z => absurd rfl z⟩
    show (0 : Int32).toNatClampNeg ≤ 64 + 0
    decide
  · show bL 0 n = true ↔ (0 : Int32) ≠ 0
    rw [rb_zL]
    exact ⟨fun z => (by cases z), fun z => absurd rfl z⟩
  · have w0 : wN S0 g = 0 := by show (0 : Int32).toNatClampNeg = 0; decide
    have t0 : ∀ i, wtN S0 i = 0 := fun i => by show (0 : Int32).toNatClampNeg = 0; decide
    have d0 : hdN S0 = 0 := by show (0 : Int32).toNatClampNeg = 0; decide
    refine ⟨⟨⟨⟨by rw [w0]; rfl, by rw [w0]; omega, fun k hk => by rw [w0] at hk; omega⟩, fun m hm => Or.inl rfl, Or.inl rfl, Or.inl rfl⟩, rfl, s0_e g hg, fun k hk => s0_d g hg k hk, fun _ => ⟨rfl, rfl, rfl⟩, fun z => absurd rfl z, fun m hm _ => ⟨rfl, rfl, Or.inl rfl⟩, fun m hm _ => ⟨rfl, rfl⟩, fun m hm _ => t0 _, fun m hm => ⟨by rw [t0]; rfl, by rw [t0, d0]; omega⟩, fun m hm => Or.inl rfl, by rw [d0]; omega, ?_⟩, fun _ => w0⟩
    refine ⟨fun k hk => by rw [w0] at hk; omega, fun m hm z => by simp only [t0] at z; omega, fun j k hj hk => by rw [w0] at hk; omega⟩
/-! the calls that change something -/
def KeN (T T' : St) : Prop := T'.1 = T.1 ∧ T'.2.1 = T.2.1 ∧ T'.2.2.2 = T.2.2.2 ∧ T'.2.2.1 0 0 = 0
theorem KeN.of {T U V : St} (h : KeN T U) (k : KeM U V) : KeN T V := ⟨k.1.trans h.1, k.2.1.trans h.2.1, k.2.2.1.trans h.2.2.1, k.2.2.2.trans h.2.2.2⟩
theorem KeN.z {T : St} : KeN T (sm T 0 0 0) := ⟨rfl, rfl, rfl, by rw [sm_get, if_pos ⟨rfl, rfl⟩]⟩
theorem Rel.send {H TM L : Nat} {S T : St} {kd g m a b e : Int32} (h : Rel H TM L S T) (hv : VM kd g m b) (hH : H < 2 ^ 30) : Rel H TM L (nt_send S kd g m a b e) (ml_send T kd g m a b e) := by
  obtain ⟨⟨tm, t1, t2, t3⟩, ⟨d1, d2⟩, n, em, bm, li, gt, fl⟩ := h
  have s0 : ∀ x y z, x ≠ 5 → x ≠ 6 → (nt_send S kd g m a b e).1 x y z = S.1 x y z := fun x y z p q => nt_send_get p q
  have m0 : ∀ f i, f ≠ 2 → f ≠ 3 → f ≠ 4 → (ml_send T kd g m a b e).2.2.1 f i = T.2.2.1 f i := fun f i p q r => ml_send_get p q r
  have eh : hdN (ml_send T kd g m a b e) = hdN T := hdN_eq (m0 _ _ (by omega) (by omega) (by omega))
  refine ⟨⟨tm, t1, by rw [s0 _ _ _ (by omega) (by omega)]; exact t2, by rw [m0 _ _ (by omega) (by omega) (by omega)]; exact t3⟩, ⟨by rw [m0 _ _ (by omega) (by omega) (by omega), eh]; exact d1, by rw [eh]; exact d2⟩, n.send hv, em.eq (fun i k => s0 _ _ _ (by omega) (by omega)) (fun f i a b => m0 _ _ (by omega) (by omega) (by omega)), bm.eq (fun i => ⟨m0 _ _ (by omega) (by omega) (by omega), m0 _ _ (by omega) (by omega) (by omega)⟩), fun i hi => ?_, fun y hy => ?_, fun y hy => (fl y hy).send⟩
  · exact (li i hi).eq (fun x k z => s0 _ _ _ (by omega) (by omega)) (fun f a b => m0 _ _ (by omega) (by omega) (by omega)) (fun f b a c => m0 _ _ (by omega) (by omega) (by omega))
  · exact (gt y hy).eq (fun k => s0 _ _ _ (by omega) (by omega)) (by rw [nt_send_2]) (fun f a b => m0 _ _ (by omega) (by omega) (by omega)) (fun n hn => m0 _ _ (by omega) (by omega) (by omega))
theorem o_rules {H TM L g : Nat} {S T : St} {p : Bool} {a b c : Int32} (h : Rel H TM L S T) (hH : H < 2 ^ 30) : Rel H TM L (ru_set S (2 * g) p a b c) (ml_rules T g p a b c) ∧ KeC S (ru_set S (2 * g) p a b c) ∧ KeN T (ml_rules T g p a b c) := by
  refine ⟨?_, rfl, KeN.of (KeN.of (KeN.of (KeN.of KeN.z (.set (by decide))) (.set (by decide))) (.set (by decide))) (.set (by decide))⟩
  obtain ⟨⟨tm, t1, t2, t3⟩, ⟨d1, d2⟩, n, em, bm, li, gt, fl⟩ := h
  have s0 : ∀ x y z, ¬ (x = 8 ∧ y = 2 * g) → (ru_set S (2 * g) p a b c).1 x y z = S.1 x y z := fun x y z q => by
    unfold ru_set
    rw [sc_get, if_neg (by omega), sc_get, if_neg (by omega), sc_get, if_neg (by omega), sc_get, if_neg (by omega)]
  have m0 : ∀ f i, f ≠ 0 → ¬ (26 ≤ f ∧ f ≤ 29 ∧ i = g) → (ml_rules T g p a b c).2.2.1 f i = T.2.2.1 f i := fun f i q1 q2 => by
    unfold ml_rules
    rw [sm_get, if_neg (by omega), sm_get, if_neg (by omega), sm_get, if_neg (by omega), sm_get, if_neg (by omega), sm_get, if_neg (by omega)]
  have eh : hdN (ml_rules T g p a b c) = hdN T := hdN_eq (m0 _ _ (by omega) (by omega))
  refine ⟨⟨tm, t1, by rw [s0 _ _ _ (by omega)]; exact t2, by rw [m0 _ _ (by omega) (by omega)]; exact t3⟩, ⟨by rw [m0 _ _ (by omega) (by omega), eh]; exact d1, by rw [eh]; exact d2⟩, n.eq (fun x y z k => s0 _ _ _ (by omega)) (fun f i k => m0 _ _ (by omega) (by omega)), em.eq (fun i k => s0 _ _ _ (by omega)) (fun f i a b => m0 _ _ (by omega) (by omega)), bm.eq (fun i => ⟨m0 _ _ (by omega) (by omega), m0 _ _ (by omega) (by omega)⟩), fun i hi => ?_, fun y hy => ?_, fun y hy => ?_⟩
  · exact (li i hi).eq (fun x k z => s0 _ _ _ (by omega)) (fun f a b => m0 _ _ (by omega) (by omega)) (fun f b a c => m0 _ _ (by omega) (by omega))
  · exact (gt y hy).eq (fun k => s0 _ _ _ (by omega)) rfl (fun f a b => m0 _ _ (by omega) (by omega)) (fun n hn => m0 _ _ (by omega) (by omega))
  · by_cases z : y = g
    · subst z
      obtain ⟨⟨hI, h6, h7, hr, hn, hh, hc, hw2, hx2, w1, w2, w3, w4⟩, hz⟩ := fl y hy
      have et : ∀ i, wtN (ml_rules T y p a b c) i = wtN T i := fun i => by unfold wtN; rw [m0 _ _ (by omega) (by omega)]
      have ek : ∀ i, ky (ml_rules T y p a b c) i = ky T i := fun i => by unfold ky; rw [m0 _ _ (by omega) (by omega), m0 _ _ (by omega) (by omega)]
      have ew : wN (ru_set S (2 * y) p a b c) y = wN S y := by unfold wN; rw [s0 _ _ _ (by omega)]
      have er : ∀ k, rN (ru_set S (2 * y) p a b c) y k = rN S y k := fun k => by unfold rN; rw [s0 _ _ _ (by omega)]
      have hI' : FlI (ru_set S (2 * y) p a b c) y := by
        refine ⟨hI.1.eq (s0 _ _ _ (by omega)) (fun k => s0 _ _ _ (by omega)), fun q hq => by rw [s0 _ _ _ (by omega)]; exact hI.2.1 q hq, ?_, by rw [s0 _ _ _ (by omega)]; exact hI.2.2.2⟩
        have : (ru_set S (2 * y) p a b c).1 8 (2 * y) 0 = bI p := by unfold ru_set; simp [sc_get]
        rw [this]
        cases p
        · exact Or.inl rfl
        · exact Or.inr rfl
      refine ⟨⟨hI', by rw [s0 _ _ _ (by omega), m0 _ _ (by omega) (by omega)]; exact h6, by rw [s0 _ _ _ (by omega), m0 _ _ (by omega) (by omega)]; exact h7, fun k hk => ?_, ?_, ?_, fun q hq hqx => ?_, fun q hq => ?_, fun q hq => ?_, fun q hq => ?_, fun q hq => ?_, by rw [eh]; exact w3, ?_⟩, by rw [s0 _ _ _ (by omega), ew]; exact hz⟩
      · rcases (show k = 0 ∨ k = 1 ∨ k = 2 ∨ k = 3 by omega) with rfl | rfl | rfl | rfl <;> unfold ru_set ml_rules <;> simp [sc_get, sm_get]
      · rw [s0 _ _ _ (by omega), s0 _ _ _ (by omega), s0 _ _ _ (by omega), s0 _ _ _ (by omega)]; exact hn
      · rw [s0 _ _ _ (by omega)]
        intro q
        obtain ⟨a1, a2, a3, a4, a5, a6⟩ := hh q
        exact ⟨fun j hj => by rw [s0 _ _ _ (by omega), m0 _ _ (by omega) (by omega)]; exact a1 j hj, by rw [s0 _ _ _ (by omega), m0 _ _ (by omega) (by omega)]; exact a2, by rw [s0 _ _ _ (by omega), m0 _ _ (by omega) (by omega)]; exact a3, by rw [s0 _ _ _ (by omega), m0 _ _ (by omega) (by omega)]; exact a4, by rw [m0 _ _ (by omega) (by omega)]; exact a5, by rw [m0 _ _ (by omega) (by omega)]; exact a6⟩
      · rw [s0 _ _ _ (by omega), s0 _ _ _ (by omega), m0 _ _ (by omega) (by omega), m0 _ _ (by omega) (by omega)]; exact hc q hq hqx
      · rw [s0 _ _ _ (by omega), s0 _ _ _ (by omega), s0 _ _ _ (by omega), m0 _ _ (by omega) (by omega), m0 _ _ (by omega) (by omega), et]; exact hw2 q hq
      · rw [s0 _ _ _ (by omega), et]; exact hx2 q hq
      · rw [et, eh, m0 _ _ (by omega) (by omega)]; exact w1 q hq
      · rw [m0 _ _ (by omega) (by omega)]; exact w2 q hq
      · exact w4.ext ew (fun k _ => er k) (fun q _ => et _) (fun q _ _ => ek _)
    · exact (fl y hy).eq (fun x w v k => s0 _ _ _ (by omega)) (fun f i k => m0 _ _ (by omega) (by omega)) (by omega) (by omega)
theorem o_member {H TM L i : Nat} {S T : St} {p : Int32} (h : Rel H TM L S T) (hH : H < 2 ^ 30) : Rel H TM L (sc (sc S 4 i 0 1) 4 i 1 p) (ml_member T i p) ∧ KeC S (sc (sc S 4 i 0 1) 4 i 1 p) ∧ KeN T (ml_member T i p) := by
  have h1 := h.thr (v := 0) hH
  obtain ⟨-, -, -, em, bm, -⟩ := id h1
  exact ⟨h1.memb rfl (fun x y w q => by rw [sc_get, if_neg (by omega), sc_get, if_neg (by omega)]) (fun f j q1 q2 => by unfold ml_member; rw [sm_get, if_neg (by omega), sm_get, if_neg (by omega)]) ((em.set (k := 0) rfl).set (k := 1) rfl) (bm_sm (bm_sm bm (by decide) (by decide)) (by decide) (by decide)) hH, rfl, KeN.of (KeN.of KeN.z (.set (by decide))) (.set (by decide))⟩
theorem Rel.away {H TM L i : Nat} {S T : St} (h : Rel H TM L S T) (hi : i < 18) (hH : H < 2 ^ 30) : Rel H TM L (me_away S i) (ml_lv0 T i) := by
  have h1 := h.thr (v := 0) hH
  obtain ⟨-, -, -, em, bm, -⟩ := id h1
  have h2 : Rel H TM L (sc (sc S 4 i 0 0) 4 i 2 0) (sm (sm (sm T 0 0 0) 5 i 0) 7 i 0) := h1.memb rfl (fun x y w q => by rw [sc_get, if_neg (by omega), sc_get, if_neg (by omega)]) (fun f j q1 q2 => by rw [sm_get, if_neg (by omega), sm_get, if_neg (by omega)]) ((em.set (k := 0) rfl).set (k := 2) rfl) (bm_s7 (s := 0) (bm_sm bm (by decide) (by decide)) (by omega)) hH
  obtain ⟨-, -, -, -, -, li, -⟩ := id h2
  obtain ⟨a1, a2, a3, a4, a5⟩ := li i hi
  unfold me_away ml_lv0
  generalize sc (sc S 4 i 0 0) 4 i 2 0 = S1 at *
  generalize sm (sm (sm T 0 0 0) 5 i 0) 7 i 0 = T1 at *
  refine h2.lis (LiJ.set (by omega)) (MiJ.s1 (by decide) (by decide)) ⟨fun k hk => ?_, ?_, ?_, ?_, fun z => absurd ?_ z⟩ (Nat.le_refl _) hH
  · by_cases z : k = 1
    · subst z
      simp [sc_get, sm_get]
    · rw [sc_get, if_neg (by omega), sm_get, if_neg (by omega)]; exact a1 k hk
  · rw [sm_get, if_pos ⟨rfl, rfl⟩]; exact Or.inl rfl
  · rw [sm_get, if_neg (by omega), mN_eq (T := T1) (by rw [sm_get, if_neg (by omega)])]; exact a3
  · rw [mN_eq (T := T1) (by rw [sm_get, if_neg (by omega)])]; exact a4
  · rw [sm_get, if_pos ⟨rfl, rfl⟩]
theorem lv0_z {T : St} {i : Nat} : KeN T (ml_lv0 T i) := KeN.of (KeN.of (KeN.of KeN.z (.set (by decide))) (.set (by decide))) (.set (by decide))
theorem o_leave {H TM L g m : Nat} {S T : St} (h : Rel H TM L S T) (hg : g < 3) (hm : m < 6) (hH : H < 2 ^ 30) : Rel H TM L (tk_leave S g m) (ml_leave T g m) ∧ KeC S (tk_leave S g m) ∧ KeN T (ml_leave T g m) := by
  have h1 := h.away (i := 6 * g + m) (by omega) hH
  have ti := h1.time
  obtain ⟨-, hd, n, em, bm, li, gt, fl⟩ := id h1
  obtain ⟨b1', b2, b3, b4, b5⟩ := (fl g hg).1.back (m := m) (t := (me_away S (6 * g + m)).1 9 0 4) (fl g hg).2 n em.th hg hm (Or.inr rfl) ti
  refine ⟨?_, ?_, KeN.of lv0_z (.lc (.clear hm))⟩
  · exact h1.floor .back (.clear hm) ⟨b1', b3⟩ b2 (hd_same hd (clear_get (by decide) (by decide) (by decide) (by decide) (by omega))) hH
  · unfold tk_leave KeC
    rw [Loc.back.1, LiL.away.1]
theorem o_ask {H TM L g m : Nat} {S T : St} (h : Rel H TM L S T) (hg : g < 3) (hm : m < 6) (hH : H < 2 ^ 30) : Rel H TM L (tk_ask S g m) (ml_ask T g m) ∧ KeC S (tk_ask S g m) ∧ KeM T (ml_ask T g m) := by
  obtain ⟨-, -, -, em, bm, -⟩ := id h
  have e3 : S.1 4 (6 * g + m) 3 = T.2.2.1 8 (6 * g + m) := em _ 3 (by omega) (by omega)
  have e4 : S.1 4 (6 * g + m) 4 = T.2.2.1 9 (6 * g + m) := em _ 4 (by omega) (by omega)
  unfold tk_ask ml_ask KeC
  rw [e3, e4, nt_send_2]
  exact ⟨h.send (vm_k (k := 1) (by omega) (by omega) hg hm) hH, rfl, .send⟩
theorem o_press {H TM L g m : Nat} {S T : St} {e : Bool} (h : Rel H TM L S T) (hg : g < 3) (hm : m < 6) (hH : H < 2 ^ 30) : Rel H TM L (tk_press S g m e) (ml_press T g m e) ∧ KeC S (tk_press S g m e) ∧ KeN T (ml_press T g m e) := by
  have h1 := h.thr (v := 0) hH
  obtain ⟨-, -, -, em, bm, -⟩ := id h1
  have e3 : S.1 4 (6 * g + m) 3 = (sm T 0 0 0).2.2.1 8 (6 * g + m) := em _ 3 (by omega) (by omega)
  have h2 : Rel H TM L (tk_pr0 S g m e) (ml_pr0 T (6 * g + m) e) := by
    unfold tk_pr0 ml_pr0
    simp only
    rw [e3]
    exact h1.memb rfl (fun x y w q => by rw [sc_get, if_neg (by omega), sc_get, if_neg (by omega), sc_get, if_neg (by omega)]) (fun f j q1 q2 => by rw [sm_get, if_neg (by omega), sm_get, if_neg (by omega), sm_get, if_neg (by omega)]) (((em.set (k := 3) rfl).set (k := 4) rfl).set (k := 2) rfl) (bm_s7 (s := 1) (bm_sm (bm_sm bm (by decide) (by decide)) (by decide) (by decide)) (by omega)) hH
  obtain ⟨a1, a2, a3⟩ := o_ask h2 hg hm hH
  exact ⟨a1, a2, KeN.of (KeN.of (KeN.of (KeN.of KeN.z (.set (by decide))) (.set (by decide))) (.set (by decide))) a3⟩
theorem o_release {H TM L g m : Nat} {S T : St} (h : Rel H TM L S T) (hg : g < 3) (hm : m < 6) (hH : H < 2 ^ 30) : Rel H TM L (tk_rel S g m) (ml_release T g m) ∧ KeC S (tk_rel S g m) ∧ KeN T (ml_release T g m) := by
  have h1 := h.thr (v := 0) hH
  obtain ⟨-, -, -, em, bm, -⟩ := id h1
  have h2 : Rel H TM L (sc S 4 (6 * g + m) 2 0) (ml_re0 T (6 * g + m)) := h1.memb rfl (fun x y w q => by rw [sc_get, if_neg (by omega)]) (fun f j q1 q2 => by unfold ml_re0; rw [sm_get, if_neg (by omega)]) (em.set (k := 2) rfl) (bm_s7 (s := 0) bm (by omega)) hH
  obtain ⟨-, -, -, em2, -⟩ := id h2
  have e3 : (sc S 4 (6 * g + m) 2 0).1 4 (6 * g + m) 3 = (ml_re0 T (6 * g + m)).2.2.1 8 (6 * g + m) := em2 _ 3 (by omega) (by omega)
  unfold tk_rel ml_release KeC
  rw [e3, nt_send_2]
  exact ⟨h2.send (vm_k (k := 2) (by omega) (by omega) hg hm) hH, rfl, KeN.of (KeN.of KeN.z (.set (by decide))) .send⟩
theorem send_sm {T : St} {i : Nat} {v kd g m a b e : Int32} : (sm (ml_send T kd g m a b e) 12 i v).2.2.1 = (ml_send (sm T 12 i v) kd g m a b e).2.2.1 := by
  funext f j
  have e3 : (sm T 12 i v).2.2.1 3 0 = T.2.2.1 3 0 := rfl
  have ec : mC (sm T 12 i v) = mC T := mC_eq e3
  unfold ml_send
  rw [ec, e3]
  by_cases z : T.2.2.1 3 0 = 60
  · rw [if_pos z, if_pos z]
    simp only [sm_get]
    by_cases z2 : f = 12 ∧ j = i
    · rw [if_pos z2, if_neg (by omega), if_pos z2]
    · simp only [if_neg z2]
      rfl
  · rw [if_neg z, if_neg z]
    unfold ml_put
    simp only [sm_get]
    by_cases z2 : f = 12 ∧ j = i
    · rw [if_pos z2, if_neg (by omega), if_neg (by omega), if_neg (by omega), if_neg (by omega), if_neg (by omega), if_neg (by omega), if_neg (by omega), if_pos z2]
    · simp only [if_neg z2]
      rfl
theorem o_unit {H TM L g m : Nat} {S T : St} {v : Int32} (h : Rel H TM L S T) (hg : g < 3) (hm : m < 6) (hH : H < 2 ^ 30) (h64 : ¬ T.2.2.1 12 (6 * g + m) = 64) : Rel H TM L (tk_unit S g m v) (ml_un T g m v) ∧ KeC S (tk_unit S g m v) ∧ KeN T (ml_un T g m v) := by
  have h1 := h.thr (v := 0) hH
  obtain ⟨-, -, -, em, bm, -⟩ := id h1
  obtain ⟨-, s, hs, es⟩ := bm (6 * g + m) (by omega)
  have es' : T.2.2.1 12 (6 * g + m) = nI s := es
  have s64 : s < 64 := by
    rcases Nat.lt_or_ge s 64 with z | z
    · exact z
    · exact absurd (by rw [es', show s = 64 by omega]; rfl) h64
  have e7 : S.1 4 (6 * g + m) 7 = nI s := (em _ 7 (by omega) (by omega)).trans es
  have e6 : S.1 4 (6 * g + m) 6 = T.2.2.1 11 (6 * g + m) := em _ 6 (by omega) (by omega)
  have h2 : Rel H TM L (sc S 4 (6 * g + m) 7 (nI (s + 1))) (sm (sm T 0 0 0) 12 (6 * g + m) (nI (s + 1))) := h1.memb rfl (fun x y w q => by rw [sc_get, if_neg (by omega)]) (fun f j q1 q2 => by rw [sm_get, if_neg (by omega)]) (em.set (k := 7) rfl) (bm_s12 bm (by omega)) hH
  have h3 := h2.send (kd := 11) (g := nI g) (m := nI m) (a := T.2.2.1 11 (6 * g + m)) (b := nI s) (e := v) (vm_p (k := 11) (by omega) hg hm s64) hH
  have eS : tk_unit S g m v = nt_send (sc S 4 (6 * g + m) 7 (nI (s + 1))) 11 (nI g) (nI m) (T.2.2.1 11 (6 * g + m)) (nI s) v := by
    unfold tk_unit
    simp only
    rw [sc_get, if_neg (by omega), e7, e6, nI_1]
  have eT0 : (sm T 0 0 0).2.2.1 12 (6 * g + m) = nI s := es
  have eT1 : (sm T 0 0 0).2.2.1 11 (6 * g + m) = T.2.2.1 11 (6 * g + m) := rfl
  have eT : ml_un T g m v = sm (ml_send (sm T 0 0 0) 11 (nI g) (nI m) (T.2.2.1 11 (6 * g + m)) (nI s) v) 12 (6 * g + m) (nI (s + 1)) := by
    unfold ml_un ml_un0
    simp only
    rw [ml_send_get (by decide) (by decide) (by decide), eT0, eT1, nI_1]
  rw [eS, eT]
  refine ⟨h3.eT send_sm, ?_, KeN.of (KeN.of KeN.z .send) (.set (by decide))⟩
  unfold KeC
  rw [nt_send_2]
  rfl
