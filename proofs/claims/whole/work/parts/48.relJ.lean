theorem Rel.memb {H TM L : Nat} {S T S' T' : St} (h : Rel H TM L S T) (hS2 : S'.2 = S.2) (hS : ∀ a b c, a ≠ 4 → S'.1 a b c = S.1 a b c) (hM : ∀ f j, f ≠ 0 → ¬ (5 ≤ f ∧ f ≤ 14) → T'.2.2.1 f j = T.2.2.1 f j) (e : EM S' T') (b : BM T') (hH : H < 2 ^ 30) : Rel H TM L S' T' := by
  obtain ⟨⟨tm, t1, t2, t3⟩, ⟨d1, d2⟩, n, em, bm, li, gt, fl⟩ := h
  have eh : hdN T' = hdN T := hdN_eq (hM _ _ (by omega) (by omega))
  refine ⟨⟨tm, t1, by rw [hS _ _ _ (by omega)]; exact t2, by rw [hM _ _ (by omega) (by omega)]; exact t3⟩, ⟨by rw [hM _ _ (by omega) (by omega), eh]; exact d1, by rw [eh]; exact d2⟩, n.eq (fun a b c q => hS _ _ _ (by omega)) (fun f j q => hM _ _ (by omega) (by omega)), e, b, fun q hq => ?_, fun q hq => ?_, fun q hq => ?_⟩
  · exact (li q hq).eq (fun a k y => hS _ _ _ (by omega)) (fun f a b => hM _ _ (by omega) (by omega)) (fun f b a c => hM _ _ (by omega) (by omega))
  · exact (gt q hq).eq (fun k => hS _ _ _ (by omega)) (by rw [hS2]) (fun f a b => hM _ _ (by omega) (by omega)) (fun n hn => hM _ _ (by omega) (by omega))
  · exact (fl q hq).eq (fun a b c y => hS _ _ _ (by omega)) (fun f i y => hM _ _ (by omega) (by omega)) (by omega) (by omega)
theorem Rel.thr {H TM L : Nat} {S T : St} {v : Int32} (h : Rel H TM L S T) (hH : H < 2 ^ 30) : Rel H TM L S (sm T 0 0 v) := by
  obtain ⟨-, -, -, em, bm, -⟩ := id h
  exact h.memb rfl (fun _ _ _ _ => rfl) (fun f j a _ => by rw [sm_get, if_neg (by omega)]) (em.eq (fun _ _ => rfl) (fun f i a b => by rw [sm_get, if_neg (by omega)])) (bm_sm bm (by decide) (by decide)) hH
/-! a member hears -/
theorem st_asks {s : Nat} (h : s ≤ 4) : decide (nI s = 1 ∨ nI s = 2) = wi (nI s) 1 2 := by
  rcases (show s = 0 ∨ s = 1 ∨ s = 2 ∨ s = 3 ∨ s = 4 by omega) with rfl | rfl | rfl | rfl | rfl <;> decide
theorem Rel.hear {H TM L i p kd b : Nat} {S T : St} {a x c t : Int32} (h : Rel H TM L S T) (hi : i < 18) (hL : L < 2 ^ 20) (hH : H < 2 ^ 30) (hk : 3 ≤ kd) (hk2 : kd ≤ 9) (e0 : S.1 5 p 0 = nI kd) (e3 : S.1 5 p 3 = a) (e4 : S.1 5 p 4 = x) (e5 : S.1 5 p 5 = c) (h9 : kd = 9 → b < 64 ∧ x = nI b) (ht : t = T.2.2.1 1 0) :
    Rel H TM L (me_hear S i p t) (ml_hear T i kd b a x c) := by
  obtain ⟨-, -, -, em, bm, li, -, -⟩ := id h
  have k0 : S.1 4 i 0 = T.2.2.1 5 i := em i 0 hi (by omega)
  have k2 : S.1 4 i 2 = T.2.2.1 7 i := em i 2 hi (by omega)
  have k3 : S.1 4 i 3 = T.2.2.1 8 i := em i 3 hi (by omega)
  have k6 : S.1 4 i 6 = T.2.2.1 11 i := em i 6 hi (by omega)
  have k8 : S.1 4 i 8 = T.2.2.1 13 i := em i 8 hi (by omega)
  obtain ⟨⟨s, hs, es⟩, -⟩ := bm i hi
  have asks : me_asks S i = wi (T.2.2.1 7 i) 1 2 := by unfold me_asks; rw [k2, es]; exact st_asks hs
  have A : me_ans S i p = if mh_m T i a = true then (if nI kd = 3 then sc (sc (sc S 4 i 2 3) 4 i 6 x) 4 i 7 0 else if nI kd = 4 then sc (sc S 4 i 2 2) 4 i 5 x else sc S 4 i 2 0) else S := by
    unfold me_ans mh_m
    rw [asks, e0, e3, e4, k3]
    cases wi (T.2.2.1 7 i) 1 2
    · simp
    · by_cases z : a = T.2.2.1 8 i <;> simp [z]
  unfold me_hear ml_hear
  rw [k0, e0, e3, e4, e5]
  by_cases q0 : T.2.2.1 5 i = 0
  · rw [if_pos q0, if_pos q0]; exact h
  rw [if_neg q0, if_neg q0]
  unfold ml_hr
  rcases (show kd = 3 ∨ kd = 4 ∨ kd = 5 ∨ kd = 6 ∨ kd = 7 ∨ kd = 8 ∨ kd = 9 by omega) with rfl | rfl | rfl | rfl | rfl | rfl | rfl
  · rw [if_pos (by decide : nI 3 = 3 ∨ nI 3 = 4 ∨ nI 3 = 5), A, if_pos (by decide : nI 3 = 3), if_pos (rfl : (3 : Nat) = 3)]
    by_cases z : mh_m T i a = true
    · rw [if_pos z, if_pos z]
      exact h.memb rfl (fun x y w q => by rw [sc_get, if_neg (by omega), sc_get, if_neg (by omega), sc_get, if_neg (by omega)]) (fun f j q1 q2 => by rw [sm_get, if_neg (by omega), sm_get, if_neg (by omega), sm_get, if_neg (by omega)]) (((em.set (k := 2) rfl).set (k := 6) rfl).set (k := 7) rfl) (bm_s12 (s := 0) (bm_sm (bm_s7 (s := 3) bm (by omega)) (by decide) (by decide)) (by omega)) hH
    · rw [if_neg z, if_neg z]; exact h
  · rw [if_pos (by decide : nI 4 = 3 ∨ nI 4 = 4 ∨ nI 4 = 5), A, if_neg (by decide : ¬ nI 4 = 3), if_pos (by decide : nI 4 = 4), if_neg (by decide : ¬ (4 : Nat) = 3), if_pos (rfl : (4 : Nat) = 4)]
    by_cases z : mh_m T i a = true
    · rw [if_pos z, if_pos z]
      exact h.memb rfl (fun x y w q => by rw [sc_get, if_neg (by omega), sc_get, if_neg (by omega)]) (fun f j q1 q2 => by rw [sm_get, if_neg (by omega), sm_get, if_neg (by omega)]) ((em.set (k := 2) rfl).set (k := 5) rfl) (bm_sm (bm_s7 (s := 2) bm (by omega)) (by decide) (by decide)) hH
    · rw [if_neg z, if_neg z]; exact h
  · rw [if_pos (by decide : nI 5 = 3 ∨ nI 5 = 4 ∨ nI 5 = 5), A, if_neg (by decide : ¬ nI 5 = 3), if_neg (by decide : ¬ nI 5 = 4), if_neg (by decide : ¬ (5 : Nat) = 3), if_neg (by decide : ¬ (5 : Nat) = 4), if_pos (rfl : (5 : Nat) = 5)]
    by_cases z : mh_m T i a = true
    · rw [if_pos z, if_pos z]
      exact h.memb rfl (fun x y w q => by rw [sc_get, if_neg (by omega)]) (fun f j q1 q2 => by rw [sm_get, if_neg (by omega)]) (em.set (k := 2) rfl) (bm_s7 (s := 0) bm (by omega)) hH
    · rw [if_neg z, if_neg z]; exact h
  · rw [if_neg (by decide : ¬ (nI 6 = 3 ∨ nI 6 = 4 ∨ nI 6 = 5)), if_pos (by decide : nI 6 = 6), if_neg (by decide : ¬ (6 : Nat) = 3), if_neg (by decide : ¬ (6 : Nat) = 4), if_neg (by decide : ¬ (6 : Nat) = 5), if_pos (rfl : (6 : Nat) = 6), k2, k6]
    have e : mh_t T i a = true ↔ T.2.2.1 7 i = 3 ∧ T.2.2.1 11 i = a := by
      unfold mh_t
      rw [Bool.and_eq_true, decide_eq_true_eq, decide_eq_true_eq]
      exact ⟨fun z => ⟨z.1, z.2.symm⟩, fun z => ⟨z.1, z.2.symm⟩⟩
    by_cases z : T.2.2.1 7 i = 3 ∧ T.2.2.1 11 i = a
    · rw [if_pos z, if_pos (e.mpr z)]
      exact h.memb rfl (fun x y w q => by rw [sc_get, if_neg (by omega)]) (fun f j q1 q2 => by rw [sm_get, if_neg (by omega)]) (em.set (k := 2) rfl) (bm_s7 (s := 4) bm (by omega)) hH
    · rw [if_neg z, if_neg (fun y => z (e.mp y))]; exact h
  · rw [if_neg (by decide : ¬ (nI 7 = 3 ∨ nI 7 = 4 ∨ nI 7 = 5)), if_neg (by decide : ¬ nI 7 = 6), if_pos (by decide : nI 7 = 7), if_neg (by decide : ¬ (7 : Nat) = 3), if_neg (by decide : ¬ (7 : Nat) = 4), if_neg (by decide : ¬ (7 : Nat) = 5), if_neg (by decide : ¬ (7 : Nat) = 6), if_pos (rfl : (7 : Nat) = 7), k6]
    have e : (mh_t T i a = true ∨ mh_e T i a = true) ↔ me_talks S i = true ∧ T.2.2.1 11 i = a := by
      unfold mh_t mh_e me_talks
      rw [Bool.and_eq_true, Bool.and_eq_true, decide_eq_true_eq, decide_eq_true_eq, decide_eq_true_eq, decide_eq_true_eq, k2]
      constructor
      · rintro (z | z)
        · exact ⟨Or.inl z.1, z.2.symm⟩
        · exact ⟨Or.inr z.1, z.2.symm⟩
      · rintro ⟨z | z, y⟩
        · exact Or.inl ⟨z, y.symm⟩
        · exact Or.inr ⟨z, y.symm⟩
    by_cases z : me_talks S i = true ∧ T.2.2.1 11 i = a
    · rw [if_pos z, if_pos (e.mpr z)]
      exact h.memb rfl (fun x y w q => by rw [sc_get, if_neg (by omega)]) (fun f j q1 q2 => by rw [sm_get, if_neg (by omega)]) (em.set (k := 2) rfl) (bm_s7 (s := 0) bm (by omega)) hH
    · rw [if_neg z, if_neg (fun y => z (e.mp y))]; exact h
  · rw [if_neg (by decide : ¬ (nI 8 = 3 ∨ nI 8 = 4 ∨ nI 8 = 5)), if_neg (by decide : ¬ nI 8 = 6), if_neg (by decide : ¬ nI 8 = 7), if_pos (by decide : nI 8 = 8), if_neg (by decide : ¬ (8 : Nat) = 3), if_neg (by decide : ¬ (8 : Nat) = 4), if_neg (by decide : ¬ (8 : Nat) = 5), if_neg (by decide : ¬ (8 : Nat) = 6), if_neg (by decide : ¬ (8 : Nat) = 7), if_pos (rfl : (8 : Nat) = 8)]
    unfold me_talk
    rw [k8]
    by_cases z : a < T.2.2.1 13 i
    · rw [if_pos z, if_pos z]; exact h
    · rw [if_neg z, if_neg z]
      exact h.memb rfl (fun x y w q => by rw [sc_get, if_neg (by omega), sc_get, if_neg (by omega)]) (fun f j q1 q2 => by rw [sm_get, if_neg (by omega), sm_get, if_neg (by omega)]) ((em.set (k := 8) rfl).set (k := 9) rfl) (bm_sm (bm_sm bm (by decide) (by decide)) (by decide) (by decide)) hH
  · rw [if_neg (by decide : ¬ (nI 9 = 3 ∨ nI 9 = 4 ∨ nI 9 = 5)), if_neg (by decide : ¬ nI 9 = 6), if_neg (by decide : ¬ nI 9 = 7), if_neg (by decide : ¬ nI 9 = 8), if_neg (by decide : ¬ (9 : Nat) = 3), if_neg (by decide : ¬ (9 : Nat) = 4), if_neg (by decide : ¬ (9 : Nat) = 5), if_neg (by decide : ¬ (9 : Nat) = 6), if_neg (by decide : ¬ (9 : Nat) = 7), if_neg (by decide : ¬ (9 : Nat) = 8)]
    obtain ⟨hb, ex⟩ := h9 rfl
    rw [ex]
    exact h.lis LiJ.hear (MiJ.li hb) ((li i hi).hear hL ht hb) (Nat.le_refl _) hH
/-! a unit comes to a relay -/
theorem pass_get {S : St} {g x y z : Nat} {a t : Int32} (h : ¬ (x = 1 ∧ y = g ∧ z = 10)) : (fl_pass S g a t).1 x y z = S.1 x y z := by
  unfold fl_pass
  split
  · rfl
  · split
    · rw [sc_get, if_neg h]
    · rfl
theorem pass_2 {S : St} {g : Nat} {a t : Int32} : (fl_pass S g a t).2 = S.2 := by
  unfold fl_pass
  split
  · rfl
  · split <;> rfl
theorem u0_get {T : St} {g b f i : Nat} {a : Int32} (h38 : ¬ (f = 38 ∧ i = g)) (h47 : ¬ (f = 47 ∧ i = g)) (h49 : ¬ (f = 49 ∧ i = 64 * g + b)) : (ml_u0 T g b a).2.2.1 f i = T.2.2.1 f i := by
  unfold ml_u0
  simp only
  rw [sm_get, if_neg h38, sm_get, if_neg h47, sm_get, if_neg h49]
theorem mu_1 {S : St} {g : Nat} {m a b c : Int32} : ∀ n, (mu S g m a b c n).1 = S.1 ∧ (mu S g m a b c n).2.1 = S.2.1 ∧ (mu S g m a b c n).2.2.2 = S.2.2.2
  | 0 => ⟨rfl, rfl, rfl⟩
  | n + 1 => by
    have ih := mu_1 (S := S) (g := g) (m := m) (a := a) (b := b) (c := c) n
    rw [mu_s]
    unfold mu1
    split
    · exact ih
    · split
      · exact ih
      · rw [ml_send_1, ml_send_21, ml_send_222]; exact ih
theorem Rel.unit {H TM L g m b : Nat} {S T : St} {a c t : Int32} (h : Rel H TM L S T) (hg : g < 3) (hm : m < 6) (hb : b < 64) (ht : t = T.2.2.1 1 0) (h0 : 0 ≤ T.2.2.1 1 0) (hH : H < 2 ^ 30) : Rel H TM L (gt_unit S g (nI m) a (nI b) c t) (ml_unit T g m b a c) := by
  obtain ⟨⟨tm, t1, t2, t3⟩, ⟨d1, d2⟩, n, em, bm, li, gt, fl⟩ := id h
  unfold gt_unit ml_unit
  rw [(gt g hg).lets hm hb]
  by_cases q : ml_ug T g m b a = true
  · rw [if_pos q, if_pos q]
    generalize hS1 : sl (sc S 2 g 4 (S.1 2 g 4 + 1)) g (S.2.1 g ||| ((1 : Int64) <<< ((nI b).toInt64 &&& 63))) = S1
    have eS : gt_pass S g (nI m) a (nI b) c = ot S1 g 9 (nI m) a (nI b) c 6 := by
      unfold gt_pass
      simp only
      rw [hS1]
    rw [eS]
    have s1 : ∀ x y z, ¬ (x = 2 ∧ y = g ∧ z = 4) → S1.1 x y z = S.1 x y z := fun x y z k => by rw [← hS1, sl_1, sc_get, if_neg k]
    have s24 : S1.1 2 g 4 = S.1 2 g 4 + 1 := by rw [← hS1, sl_1, sc_get, if_pos ⟨rfl, rfl, rfl⟩]
    have sb : ∀ y, S1.2.1 y = if y = g then S.2.1 g ||| ((1 : Int64) <<< ((nI b).toInt64 &&& 63)) else S.2.1 y := fun y => by rw [← hS1]; rfl
    generalize hS' : fl_pass (ot S1 g 9 (nI m) a (nI b) c 6) g a t = S'
    generalize hT' : mu (ml_u0 T g b a) g (nI m) a (nI b) c 6 = T'
    have sg : ∀ x y z, x ≠ 5 → x ≠ 6 → ¬ (x = 1 ∧ y = g ∧ z = 10) → ¬ (x = 2 ∧ y = g ∧ z = 4) → S'.1 x y z = S.1 x y z := fun x y z k5 k6 k1 k2 => by
      rw [← hS', pass_get k1, ot_get k5 k6, s1 _ _ _ k2]
    have sg4 : S'.1 2 g 4 = S.1 2 g 4 + 1 := by rw [← hS', pass_get (by omega), ot_get (by decide) (by decide), s24]
    have sgb : ∀ y, S'.2.1 y = if y = g then S.2.1 g ||| ((1 : Int64) <<< ((nI b).toInt64 &&& 63)) else S.2.1 y := fun y => by
      rw [← hS', pass_2, ot_2]; exact sb y
    have tg' : ∀ f i, f ≠ 2 → f ≠ 3 → f ≠ 4 → ¬ (f = 38 ∧ i = g) → ¬ (f = 47 ∧ i = g) → ¬ (f = 49 ∧ i = 64 * g + b) → T'.2.2.1 f i = T.2.2.1 f i := fun f i k2 k3 k4 k38 k47 k49 => by
      rw [← hT', mu_get k2 k3 k4, u0_get k38 k47 k49]
    have t47 : T'.2.2.1 47 g = T.2.2.1 47 g + 1 := by
      rw [← hT', mu_get (by decide) (by decide) (by decide)]
      unfold ml_u0
      simp [sm_get]
    have t49 : T'.2.2.1 49 (64 * g + b) = 1 := by
      rw [← hT', mu_get (by decide) (by decide) (by decide)]
      unfold ml_u0
      simp [sm_get]
    have eh : hdN T' = hdN T := hdN_eq (tg' _ _ (by omega) (by omega) (by omega) (by omega) (by omega) (by omega))
    have hth : RTh S1 (ml_u0 T g b a) := em.th.eq (fun i => s1 _ _ _ (by omega)) (fun i => u0_get (by omega) (by omega) (by omega))
    have hN1 : RNet S1 (ml_u0 T g b a) := n.eq (fun x y z k => s1 _ _ _ (by omega)) (fun f i k => u0_get (by omega) (by omega) (by omega))
    have hN2 : RNet (ot S1 g 9 (nI m) a (nI b) c 6) T' := by rw [← hT']; exact hN1.pass hth hg hb 6 (Nat.le_refl _)
    have hN3 : RNet S' T' := hN2.eq (fun x y z k => by rw [← hS', pass_get (by omega)]) (fun _ _ _ => rfl)
    refine ⟨⟨tm, t1, by rw [sg _ _ _ (by omega) (by omega) (by omega) (by omega)]; exact t2, by rw [tg' _ _ (by omega) (by omega) (by omega) (by omega) (by omega) (by omega)]; exact t3⟩, ⟨by rw [tg' _ _ (by omega) (by omega) (by omega) (by omega) (by omega) (by omega), eh]; exact d1, by rw [eh]; exact d2⟩, hN3, em.eq (fun i k => sg _ _ _ (by omega) (by omega) (by omega) (by omega)) (fun f i a b => tg' _ _ (by omega) (by omega) (by omega) (by omega) (by omega) (by omega)), bm.eq (fun i => ⟨tg' _ _ (by omega) (by omega) (by omega) (by omega) (by omega) (by omega), tg' _ _ (by omega) (by omega) (by omega) (by omega) (by omega) (by omega)⟩), fun i hi => ?_, fun y hy => ?_, fun y hy => ?_⟩
    · exact (li i hi).eq (fun x k z => sg _ _ _ (by omega) (by omega) (by omega) (by omega)) (fun f a b => tg' _ _ (by omega) (by omega) (by omega) (by omega) (by omega) (by omega)) (fun f b a c => tg' _ _ (by omega) (by omega) (by omega) (by omega) (by omega) (by omega))
    · by_cases z : y = g
      · subst z
        obtain ⟨g1, g2⟩ := gt y hy
        refine ⟨fun k hk => ?_, fun j hj => ?_⟩
        · by_cases k2 : k = 2
          · subst k2
            have := g1 2 (by omega)
            exact (sg4.trans (congrArg (· + 1) this)).trans t47.symm
          · rw [sg _ _ _ (by omega) (by omega) (by omega) (by omega), tg' _ _ (by omega) (by omega) (by omega) (by omega) (by omega) (by omega)]; exact g1 k hk
        · rw [sgb, if_pos rfl, rb_orL hb]
          by_cases jb : j = b
          · subst jb
            rw [t49]
            simp [n10]
          · rw [decide_eq_false (fun k => jb k.symm), Bool.or_false, tg' _ _ (by omega) (by omega) (by omega) (by omega) (by omega) (by omega)]
            exact g2 j hj
      · exact (gt y hy).eq (fun k => sg _ _ _ (by omega) (by omega) (by omega) (by omega)) (by rw [sgb, if_neg z]) (fun f a b => tg' _ _ (by omega) (by omega) (by omega) (by omega) (by omega) (by omega)) (fun n hn => tg' _ _ (by omega) (by omega) (by omega) (by omega) (by omega) (by omega))
    · by_cases z : y = g
      · subst z
        generalize hT2 : sm (sm T 49 (64 * y + b) 1) 47 y ((sm T 49 (64 * y + b) 1).2.2.1 47 y + 1) = T2
        have eu : ml_u0 T y b a = sm T2 38 y (ml_pa T2 y a) := by
          unfold ml_u0
          simp only
          rw [hT2]
        have c0 : ∀ f i, ¬ (f = 47 ∧ i = y) → ¬ (f = 49 ∧ i = 64 * y + b) → T2.2.2.1 f i = T.2.2.1 f i := fun f i k1 k2 => by rw [← hT2, sm_get, if_neg k1, sm_get, if_neg k2]
        have eh2 : hdN T2 = hdN T := hdN_eq (c0 _ _ (by omega) (by omega))
        have f1 : RFl (ot S1 y 9 (nI m) a (nI b) c 6) T2 y := (fl y hy).eq (fun x w z k => by rw [ot_get (by omega) (by omega)]; exact s1 _ _ _ (by omega)) (fun f i k => c0 _ _ (by omega) (by omega)) (by omega) (by omega)
        have f2 := f1.pass (a := a) (t := t) (by rw [c0 _ _ (by omega) (by omega)]; exact ht) (by rw [c0 _ _ (by omega) (by omega)]; exact h0)
        rw [hS', ← eu] at f2
        refine f2.eq (fun _ _ _ _ => rfl) (fun f i k => by rw [← hT', mu_get (by omega) (by omega) (by omega)]) ?_ (by omega)
        rw [eh, hdN_eq (u0_get (T := T) (by omega) (by omega) (by omega))]
        exact Nat.le_refl _
      · exact (fl y hy).eq (fun x w z k => sg _ _ _ (by omega) (by omega) (by omega) (by omega)) (fun f i k => tg' _ _ (by omega) (by omega) (by omega) (by omega) (by omega) (by omega)) (by omega) (by omega)
  · rw [if_neg q, if_neg q]
    have s0 : ∀ x y z, ¬ (x = 2 ∧ y = g ∧ z = 5) → (sc S 2 g 5 (S.1 2 g 5 + 1)).1 x y z = S.1 x y z := fun x y z k => by rw [sc_get, if_neg k]
    have m0 : ∀ f i, ¬ (f = 48 ∧ i = g) → (sm T 48 g (T.2.2.1 48 g + 1)).2.2.1 f i = T.2.2.1 f i := fun f i k => by rw [sm_get, if_neg k]
    have eh : hdN (sm T 48 g (T.2.2.1 48 g + 1)) = hdN T := hdN_eq (m0 _ _ (by omega))
    refine ⟨⟨tm, t1, by rw [s0 _ _ _ (by omega)]; exact t2, by rw [m0 _ _ (by omega)]; exact t3⟩, ⟨by rw [m0 _ _ (by omega), eh]; exact d1, by rw [eh]; exact d2⟩, n.eq (fun x y z k => s0 _ _ _ (by omega)) (fun f i k => m0 _ _ (by omega)), em.eq (fun i k => s0 _ _ _ (by omega)) (fun f i a b => m0 _ _ (by omega)), bm.eq (fun i => ⟨m0 _ _ (by omega), m0 _ _ (by omega)⟩), fun i hi => ?_, fun y hy => ?_, fun y hy => ?_⟩
    · exact (li i hi).eq (fun x k z => s0 _ _ _ (by omega)) (fun f a b => m0 _ _ (by omega)) (fun f b a c => m0 _ _ (by omega))
    · by_cases z : y = g
      · subst z
        obtain ⟨g1, g2⟩ := gt y hy
        refine ⟨fun k hk => ?_, fun j hj => ?_⟩
        · by_cases k3 : k = 3
          · subst k3
            have g13 : S.1 2 y 5 = T.2.2.1 48 y := g1 3 (by omega)
            simp [sc_get, sm_get]
            exact g13
          · rw [s0 _ _ _ (by omega), m0 _ _ (by omega)]; exact g1 k hk
        · rw [sc_2, m0 _ _ (by omega)]; exact g2 j hj
      · exact (gt y hy).eq (fun k => s0 _ _ _ (by omega)) rfl (fun f a b => m0 _ _ (by omega)) (fun n hn => m0 _ _ (by omega))
    · exact (fl y hy).eq (fun x w z k => s0 _ _ _ (by omega)) (fun f i k => m0 _ _ (by omega)) (by omega) (by omega)
theorem gt_hear_get {S : St} {g x y z : Nat} {a b : Int32} (h : ¬ (x = 2 ∧ y = g)) : (gt_hear S g a b).1 x y z = S.1 x y z := by
  unfold gt_hear
  split
  · split
    · split
      · rw [sc_get, if_neg (by omega)]
      · rfl
    · rfl
  · rw [sl_1, sc_get, if_neg (by omega), sc_get, if_neg (by omega)]
theorem gt_hear_b {S : St} {g y : Nat} {a b : Int32} (h : y ≠ g) : (gt_hear S g a b).2.1 y = S.2.1 y := by
  unfold gt_hear
  split
  · split
    · split <;> rfl
    · rfl
  · rw [sl_get, if_neg h]; rfl
theorem ml_gate_get {T : St} {g f i : Nat} {a b : Int32} (h : ¬ ((f = 45 ∨ f = 46) ∧ i = g)) (h2 : ¬ (f = 49 ∧ i / 64 = g)) : (ml_gate T g a b).2.2.1 f i = T.2.2.1 f i := by
  unfold ml_gate
  split
  · rfl
  · split
    · rfl
    · simp only
      rw [sm_get, if_neg (by omega), sm_get, if_neg (by omega)]
      split
      · rfl
      · rw [mcg_get, if_neg (by omega)]
theorem Rel.gate {H TM L g : Nat} {S T : St} {a b : Int32} (h : Rel H TM L S T) (hb : b = -1 ∨ ∃ q, q < 6 ∧ b = nI q) (hH : H < 2 ^ 30) : Rel H TM L (gt_hear S g a b) (ml_gate T g a b) := by
  obtain ⟨⟨tm, t1, t2, t3⟩, ⟨d1, d2⟩, n, em, bm, li, gt, fl⟩ := h
  have s0 : ∀ x y z, x ≠ 2 → (gt_hear S g a b).1 x y z = S.1 x y z := fun x y z k => gt_hear_get (by omega)
  have m0 : ∀ f i, f < 45 → (ml_gate T g a b).2.2.1 f i = T.2.2.1 f i := fun f i k => ml_gate_get (by omega) (by omega)
  have eh : hdN (ml_gate T g a b) = hdN T := hdN_eq (m0 _ _ (by omega))
  refine ⟨⟨tm, t1, by rw [s0 _ _ _ (by omega)]; exact t2, by rw [m0 _ _ (by omega)]; exact t3⟩, ⟨by rw [m0 _ _ (by omega), eh]; exact d1, by rw [eh]; exact d2⟩, n.eq (fun x y z k => s0 _ _ _ (by omega)) (fun f i k => m0 _ _ (by omega)), em.eq (fun i k => s0 _ _ _ (by omega)) (fun f i a b => m0 _ _ (by omega)), bm.eq (fun i => ⟨m0 _ _ (by omega), m0 _ _ (by omega)⟩), fun i hi => ?_, fun y hy => ?_, fun y hy => ?_⟩
  · exact (li i hi).eq (fun x k z => s0 _ _ _ (by omega)) (fun f a b => m0 _ _ (by omega)) (fun f b a c => m0 _ _ (by omega))
  · by_cases z : y = g
    · subst z; exact (gt y hy).gate hb
    · exact (gt y hy).eq (fun k => gt_hear_get (by omega)) (gt_hear_b z) (fun f a b => ml_gate_get (by omega) (by omega)) (fun n hn => ml_gate_get (by omega) (by omega))
  · exact (fl y hy).eq (fun x w z k => s0 _ _ _ (by omega)) (fun f i k => m0 _ _ (by omega)) (by omega) (by omega)
