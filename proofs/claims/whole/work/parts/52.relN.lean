/-! the calls' arguments -/
theorem ag_i (x : Int32) (n : Nat) (hn : n < 1000) (h0 : 0 < n) {N N1 : Int32} (eN : N.toInt = n) (eN1 : N1.toInt = (n : Int) - 1) : (∃ j, j < n ∧ x = nI j ∧ wi x 0 N1 = true) ∨ ((x < 0 ∨ ¬ x < N) ∧ wi x 0 N1 = false) := by
  rcases pk_ix x (n := n) (by omega) with h | h | ⟨j, hj, rfl⟩
  · exact Or.inr ⟨Or.inl h, decide_eq_false (fun z => z.1 h)⟩
  · rw [Int32.le_iff_toInt_le, nI_toInt (by omega)] at h
    refine Or.inr ⟨Or.inr (fun z => ?_), decide_eq_false (fun z => ?_)⟩
    · rw [Int32.lt_iff_toInt_lt] at z; omega
    · have := z.2
      rw [Int32.le_iff_toInt_le] at this
      omega
  · refine Or.inl ⟨j, hj, rfl, decide_eq_true ⟨nI_pos (by omega), ?_⟩⟩
    rw [Int32.le_iff_toInt_le, nI_toInt (by omega)]
    omega
theorem ag_g (x : Int32) : (∃ g, g < 3 ∧ x = nI g ∧ wi x 0 2 = true) ∨ ((x < 0 ∨ ¬ x < 3) ∧ wi x 0 2 = false) := ag_i x 3 (by omega) (by omega) rfl rfl
theorem ag_m (x y : Int32) : (∃ g m, g < 3 ∧ m < 6 ∧ x = nI g ∧ y = nI m ∧ isM x y = true) ∨ (badM x y ∧ isM x y = false) := by
  rcases ag_g x with ⟨g, hg, rfl, w⟩ | ⟨b, w⟩
  · rcases ag_i y 6 (by omega) (by omega) (N := 6) (N1 := 5) rfl rfl with ⟨m, hm, rfl, w2⟩ | ⟨b, w2⟩
    · exact Or.inl ⟨g, m, hg, hm, rfl, rfl, isM_in hg hm⟩
    · exact Or.inr ⟨Or.inr b, by unfold isM; rw [w2, Bool.and_false]⟩
  · exact Or.inr ⟨Or.inl b, by unfold isM; rw [w, Bool.false_and]⟩
theorem ag_b (v lo hi : Int32) : (okA v lo hi ∧ wi v lo hi = true) ∨ (badA v lo hi ∧ wi v lo hi = false) := by
  rcases okA_or v lo hi with h | h
  · exact Or.inl ⟨h, decide_eq_true h⟩
  · refine Or.inr ⟨h, decide_eq_false (fun z => ?_)⟩
    rcases h with h | h
    · exact z.1 h
    · exact h z.2
theorem Rel.ag_k {H TM L : Nat} {S T : St} (h : Rel H TM L S T) (x : Int32) : (∃ k, k < 60 ∧ x = nI k ∧ nI k < S.1 6 0 2 ∧ isMs T x = true) ∨ ((x < 0 ∨ ¬ x < S.1 6 0 2) ∧ isMs T x = false) := by
  obtain ⟨-, -, ⟨c, p, hc, h1, h2, -⟩, -⟩ := h
  rw [h1]
  unfold isMs
  rw [h2]
  rcases pk_ix x (n := c) (by omega) with h | h | ⟨j, hj, rfl⟩
  · exact Or.inr ⟨Or.inl h, decide_eq_false (fun z => z.1 h)⟩
  · exact Or.inr ⟨Or.inr (i32_nlt.mpr h), decide_eq_false (fun z => z.2 h)⟩
  · exact Or.inl ⟨j, by omega, rfl, nI_lt hj (by omega), decide_eq_true ⟨nI_pos (by omega), nI_ge hj (by omega)⟩⟩
/-! the law's steps -/
def RRel (t : Nat) (S : St) : Prop := Rel (200 * t) t (18 * t) S S
theorem rr_fin {t H TM L : Nat} {S1 S2 : St} (h : Rel H TM L S1 S2) (k1 : S2.1 = S1.1) (k2 : S2.2.1 = S1.2.1) (h1 : H ≤ 200 * (t + 1)) (h2 : TM ≤ t + 1) (h3 : L ≤ 18 * (t + 1)) : RRel (t + 1) S2 := (h.eS k1 k2).mono h1 h2 h3
theorem rr_thr {t : Nat} {S : St} {v : Int32} (h : RRel t S) (ht : t < 64) : RRel (t + 1) (sm S 0 0 v) := rr_fin (Rel.thr h (by omega)) rfl rfl (by omega) (by omega) (by omega)
theorem sm_00 {S : St} {v : Int32} : (sm S 0 0 v).2.2.1 0 0 = v := by rw [sm_get, if_pos ⟨rfl, rfl⟩]
theorem stA_thr {t : Nat} {X : XS} {S : St} {L M : Mt} {as : List Value} {kk : Int32} (h : RRel t S) (ht : t < 64) (hL : Call X L false 12 (.ref (ad 9 0) :: as) (hp S) (.inl (some (.int kk)), hp S, 1, 6)) (hM : Call X M false 12 (.ref (ad 10 0) :: as) (hp S) (.inl none, hp (sm S 0 0 kk), 0, 0)) : StA (RRel (t + 1)) X S L M as := ⟨kk, S, _, hL, hM, sm_00, rr_thr h ht⟩
theorem stB_thr {t : Nat} {X : XS} {S : St} {L M : Mt} {as : List Value} {kk v : Int32} (h : RRel t S) (ht : t < 64) (hk : kk ≠ 0) (hL : Call X L false 12 (.ref (ad 9 0) :: (as ++ [.ref (ad 26 0)])) (hp S) (.inl (some (.int kk)), hp S, 1, 6)) (hM : Call X M false 12 (.ref (ad 10 0) :: as) (hp S) (.inl (some (.int v)), hp (sm S 0 0 kk), 0, 0)) : StB (RRel (t + 1)) X S L M as := ⟨kk, v, S, _, hL, hM, sm_00, fun z => absurd z hk, rr_thr h ht⟩
theorem stA_do {t H TM L0 : Nat} {X : XS} {S S1 S2 : St} {L M : Mt} {as : List Value} (hL : Call X L false 12 (.ref (ad 9 0) :: as) (hp S) (.inl (some (.int 0)), hp S1, 1, 6)) (hM : Call X M false 12 (.ref (ad 10 0) :: as) (hp S1) (.inl none, hp S2, 0, 0)) (hR : Rel H TM L0 S1 S2) (hK : KeN S1 S2) (h1 : H ≤ 200 * (t + 1)) (h2 : TM ≤ t + 1) (h3 : L0 ≤ 18 * (t + 1)) : StA (RRel (t + 1)) X S L M as :=
  ⟨0, S1, S2, hL, hM, hK.2.2.2, rr_fin hR hK.1 hK.2.1 h1 h2 h3⟩
theorem stB_do {t H TM L0 : Nat} {X : XS} {S S1 S2 : St} {L M : Mt} {as : List Value} {v v2 : Int32} (hL : Call X L false 12 (.ref (ad 9 0) :: (as ++ [.ref (ad 26 0)])) (hp S) (.inl (some (.int 0)), hp (so S1 v.toInt64), 1, 6)) (hM : Call X M false 12 (.ref (ad 10 0) :: as) (hp (so S1 v.toInt64)) (.inl (some (.int v2)), hp S2, 0, 0)) (e : v = v2) (hR : Rel H TM L0 S1 S2) (hK : KeN (so S1 v.toInt64) S2) (h1 : H ≤ 200 * (t + 1)) (h2 : TM ≤ t + 1) (h3 : L0 ≤ 18 * (t + 1)) : StB (RRel (t + 1)) X S L M as :=
  ⟨0, v2, so S1 v.toInt64, S2, hL, hM, hK.2.2.2, fun _ => by rw [hK.2.2.1, ← e]; rfl, rr_fin hR hK.1 hK.2.1 h1 h2 h3⟩
theorem stB_get {t : Nat} {X : XS} {S : St} {L M : Mt} {as : List Value} {v v2 : Int32} (h : RRel t S) (ht : t < 64) (hL : Call X L false 12 (.ref (ad 9 0) :: (as ++ [.ref (ad 26 0)])) (hp S) (.inl (some (.int 0)), hp (so S v.toInt64), 1, 6)) (hM : Call X M false 12 (.ref (ad 10 0) :: as) (hp (so S v.toInt64)) (.inl (some (.int v2)), hp (sm (so S v.toInt64) 0 0 0), 0, 0)) (e : v = v2) : StB (RRel (t + 1)) X S L M as :=
  stB_do hL hM e ((Rel.eT (T' := so S v.toInt64) h rfl).thr (by omega)) KeN.z (by omega) (by omega) (by omega)
theorem rr_T {t : Nat} {S S1 : St} (h : RRel t S) (k : KeC S S1) : Rel (200 * t) t (18 * t) S S1 := Rel.eT h (by rw [show S1.2.2 = S.2.2 from k])
theorem rr_To {t : Nat} {S S1 : St} {x : Int64} (h : RRel t S) (k : KeC S S1) : Rel (200 * t) t (18 * t) S (so S1 x) := Rel.eT h (show S1.2.2.1 = _ by rw [show S1.2.2 = S.2.2 from k])
theorem w_1 {X : XS} {t : Nat} {S : St} (h : RRel t S) (ht : t < 64) (x1 : Int32) (p2 : Bool) (x3 x4 x5 : Int32) : StA (RRel (t + 1)) X S mL_rules mX10_rules [.int x1, .int (bI p2), .int x3, .int x4, .int x5] := by
  rcases ag_g x1 with ⟨g, hg, rfl, w⟩ | ⟨b, w⟩
  · rcases ag_b x3 1 100 with ⟨a3, w3⟩ | ⟨a3, w3⟩
    · rcases ag_b x4 1 50 with ⟨a4, w4⟩ | ⟨a4, w4⟩
      · rcases ag_b x5 0 20 with ⟨a5, w5⟩ | ⟨a5, w5⟩
        · obtain ⟨c1, c2, c3⟩ := o_rules (g := g) (p := p2) (a := x3) (b := x4) (c := x5) (rr_T (S1 := ru_set S (2 * g) p2 x3 x4 x5) h rfl) (by omega)
          exact stA_do (e_rules (k_rules hg a3 a4 a5)) (j_rules hg w w3 w4 w5) c1 c3 (by omega) (by omega) (by omega)
        · exact stA_thr (kk := 2) h ht (e_rules_eA (k_rulesA3 hg a3 a4 a5)) (j_rulesA w (fun z => by rw [w5] at z; exact absurd z.2.2 (by decide)))
      · exact stA_thr (kk := 2) h ht (e_rules_eA (k_rulesA2 hg a3 a4)) (j_rulesA w (fun z => by rw [w4] at z; exact absurd z.2.1 (by decide)))
    · exact stA_thr (kk := 2) h ht (e_rules_eA (k_rulesA1 hg a3)) (j_rulesA w (fun z => by rw [w3] at z; exact absurd z.1 (by decide)))
  · exact stA_thr (kk := 1) h ht (e_rules_eN (k_rulesN b)) (j_rulesN w)
theorem w_2 {X : XS} {t : Nat} {S : St} (h : RRel t S) (ht : t < 64) (x1 x2 x3 : Int32) : StA (RRel (t + 1)) X S mL_member mX10_member [.int x1, .int x2, .int x3] := by
  rcases ag_m x1 x2 with ⟨g, m, hg, hm, rfl, rfl, w⟩ | ⟨b, w⟩
  · rcases ag_b x3 0 7 with ⟨a3, w3⟩ | ⟨a3, w3⟩
    · obtain ⟨c1, c2, c3⟩ := o_member (i := 6 * g + m) (p := x3) (rr_T (S1 := sc (sc S 4 (6 * g + m) 0 1) 4 (6 * g + m) 1 x3) h rfl) (by omega)
      exact stA_do (e_member (k_member hg hm a3)) (j_member hg hm w w3) c1 c3 (by omega) (by omega) (by omega)
    · exact stA_thr (kk := 2) h ht (e_member_eA (k_memberA hg hm a3)) (j_memberA w w3)
  · exact stA_thr (kk := 1) h ht (e_member_eN (k_memberN b)) (j_memberN w)
theorem w_3 {X : XS} {t : Nat} {S : St} (h : RRel t S) (ht : t < 64) (x1 x2 : Int32) : StZ (RRel (t + 1)) X S mL_leave mX10_leave [.int x1, .int x2] := by
  rcases ag_m x1 x2 with ⟨g, m, hg, hm, rfl, rfl, w⟩ | ⟨b, w⟩
  · obtain ⟨-, -, n, em, -⟩ := id h
    have e0 : S.1 4 (6 * g + m) 0 = S.2.2.1 5 (6 * g + m) := em _ 0 (by omega) (by omega)
    by_cases z : S.2.2.1 5 (6 * g + m) = 0
    · refine ⟨0, false, so S 0, sm (so S 0) 0 0 0, e_leave (v := false) (k_leave0 hg hm (e0.trans z)), j_leave0 hg hm w z, sm_00, fun _ => rfl, ?_⟩
      exact rr_fin ((Rel.eT (T' := so S 0) h rfl).thr (by omega)) rfl rfl (by omega) (by omega) (by omega)
    · have hk : KeC S (tk_leave S g m) := (o_leave h hg hm (by omega)).2.1
      obtain ⟨c1, -, c3⟩ := o_leave (T := so (tk_leave S g m) 1) (rr_To h hk) hg hm (by omega)
      have hz : ¬ (so (tk_leave S g m) 1).2.2.1 5 (6 * g + m) = 0 := by
        show ¬ (tk_leave S g m).2.2.1 5 (6 * g + m) = 0
        rw [show (tk_leave S g m).2.2 = S.2.2 from hk]; exact z
      refine ⟨0, true, so (tk_leave S g m) 1, ml_leave (so (tk_leave S g m) 1) g m, e_leave (v := true) (k_leave1 hg hm (fun y => z (e0.symm.trans y)) n.ok (Rel.fli h hg)), j_leave1 hg hm w (Rel.mi (rr_To h hk) hg) hz, c3.2.2.2, fun _ => c3.2.2.1, rr_fin c1 c3.1 c3.2.1 (by omega) (by omega) (by omega)⟩
  · exact ⟨1, false, S, sm S 0 0 1, e_leave_eN (k_leaveN b), j_leaveN w, sm_00, fun z => absurd z (by decide), rr_thr h ht⟩
theorem w_4 {X : XS} {t : Nat} {S : St} (h : RRel t S) (ht : t < 64) (x1 x2 : Int32) (p3 : Bool) : StB (RRel (t + 1)) X S mL_press mX10_press [.int x1, .int x2, .int (bI p3)] := by
  rcases ag_m x1 x2 with ⟨g, m, hg, hm, rfl, rfl, w⟩ | ⟨b, w⟩
  · obtain ⟨-, -, n, em, -⟩ := id h
    have e0 : S.1 4 (6 * g + m) 0 = S.2.2.1 5 (6 * g + m) := em _ 0 (by omega) (by omega)
    have e2 : S.1 4 (6 * g + m) 2 = S.2.2.1 7 (6 * g + m) := em _ 2 (by omega) (by omega)
    by_cases z : S.2.2.1 5 (6 * g + m) = 0
    · exact stB_thr (kk := 2) h ht (by decide) (e_press_eS (k_pressS1 hg hm (e0.trans z))) (j_pressS hg hm w (Or.inl z))
    · by_cases z2 : S.2.2.1 7 (6 * g + m) = 0
      · have hk : KeC S (tk_press S g m p3) := (o_press h hg hm (by omega)).2.1
        have hT := rr_To (x := ((tk_press S g m p3).1 4 (6 * g + m) 3).toInt64) h hk
        obtain ⟨c1, -, c3⟩ := o_press (e := p3) hT hg hm (by omega)
        obtain ⟨-, -, n2, -⟩ := id hT
        have q5 : ¬ (so (tk_press S g m p3) ((tk_press S g m p3).1 4 (6 * g + m) 3).toInt64).2.2.1 5 (6 * g + m) = 0 := by
          show ¬ (tk_press S g m p3).2.2.1 5 (6 * g + m) = 0
          rw [show (tk_press S g m p3).2.2 = S.2.2 from hk]; exact z
        have q7 : (so (tk_press S g m p3) ((tk_press S g m p3).1 4 (6 * g + m) 3).toInt64).2.2.1 7 (6 * g + m) = 0 := by
          show (tk_press S g m p3).2.2.1 7 (6 * g + m) = 0
          rw [show (tk_press S g m p3).2.2 = S.2.2 from hk]; exact z2
        obtain ⟨-, -, -, em2, -⟩ := id c1
        exact stB_do (e_press (k_press hg hm p3 (fun y => z (e0.symm.trans y)) (e2.trans z2) n.ok)) (j_press hg hm w n2.mo q5 q7) (em2 _ 3 (by omega) (by omega)) c1 c3 (by omega) (by omega) (by omega)
      · exact stB_thr (kk := 2) h ht (by decide) (e_press_eS (k_pressS2 hg hm (fun y => z (e0.symm.trans y)) (fun y => z2 (e2.symm.trans y)))) (j_pressS hg hm w (Or.inr z2))
  · exact stB_thr (kk := 1) h ht (by decide) (e_press_eN (k_pressN b)) (j_pressN w)
theorem asks_eq {H TM L i : Nat} {S T : St} (h : Rel H TM L S T) (hi : i < 18) : me_asks S i = wi (T.2.2.1 7 i) 1 2 := by
  obtain ⟨-, -, -, em, bm, -⟩ := h
  have e2 : S.1 4 i 2 = T.2.2.1 7 i := em _ 2 hi (by omega)
  obtain ⟨⟨s, hs, es⟩, -⟩ := bm i hi
  unfold me_asks
  rw [e2, es]; exact st_asks hs
theorem st_talks {s : Nat} (h : s ≤ 4) : decide (nI s = 3 ∨ nI s = 4) = decide (3 ≤ nI s) := by
  rcases (show s = 0 ∨ s = 1 ∨ s = 2 ∨ s = 3 ∨ s = 4 by omega) with rfl | rfl | rfl | rfl | rfl <;> decide
theorem talks_eq {H TM L i : Nat} {S T : St} (h : Rel H TM L S T) (hi : i < 18) : me_talks S i = decide (3 ≤ T.2.2.1 7 i) := by
  obtain ⟨-, -, -, em, bm, -⟩ := h
  have e2 : S.1 4 i 2 = T.2.2.1 7 i := em _ 2 hi (by omega)
  obtain ⟨⟨s, hs, es⟩, -⟩ := bm i hi
  unfold me_talks
  rw [e2, es]; exact st_talks hs
theorem w_5 {X : XS} {t : Nat} {S : St} (h : RRel t S) (ht : t < 64) (x1 x2 : Int32) : StA (RRel (t + 1)) X S mL_again mX10_again [.int x1, .int x2] := by
  rcases ag_m x1 x2 with ⟨g, m, hg, hm, rfl, rfl, w⟩ | ⟨b, w⟩
  · obtain ⟨-, -, n, em, -⟩ := id h
    have e0 : S.1 4 (6 * g + m) 0 = S.2.2.1 5 (6 * g + m) := em _ 0 (by omega) (by omega)
    have ea := asks_eq h (show 6 * g + m < 18 by omega)
    by_cases z : S.2.2.1 5 (6 * g + m) = 0
    · exact stA_thr (kk := 2) h ht (e_again_eS (k_againS1 hg hm (e0.trans z))) (j_againS hg hm w (Or.inl z))
    · by_cases z2 : wi (S.2.2.1 7 (6 * g + m)) 1 2 = true
      · have hk : KeC S (tk_ask S g m) := (o_ask h hg hm (by omega)).2.1
        have hT := rr_T h hk
        obtain ⟨c1, -, c3⟩ := o_ask (hT.thr (v := 0) (by omega)) hg hm (by omega)
        obtain ⟨-, -, n2, -⟩ := id hT
        have q5 : ¬ (tk_ask S g m).2.2.1 5 (6 * g + m) = 0 := by rw [show (tk_ask S g m).2.2 = S.2.2 from hk]; exact z
        have q7 : wi ((tk_ask S g m).2.2.1 7 (6 * g + m)) 1 2 = true := by rw [show (tk_ask S g m).2.2 = S.2.2 from hk]; exact z2
        exact stA_do (e_again (k_again hg hm (fun y => z (e0.symm.trans y)) (ea.trans z2) n.ok)) (j_again hg hm w n2.mo q5 q7) c1 (KeN.of KeN.z c3) (by omega) (by omega) (by omega)
      · have z3 : me_asks S (6 * g + m) = false := by rw [ea]; cases e : wi (S.2.2.1 7 (6 * g + m)) 1 2; rfl; exact absurd e z2
        exact stA_thr (kk := 2) h ht (e_again_eS (k_againS2 hg hm (fun y => z (e0.symm.trans y)) z3)) (j_againS hg hm w (Or.inr z2))
  · exact stA_thr (kk := 1) h ht (e_again_eN (k_againN b)) (j_againN w)
theorem w_6 {X : XS} {t : Nat} {S : St} (h : RRel t S) (ht : t < 64) (x1 x2 : Int32) : StA (RRel (t + 1)) X S mL_release mX10_release [.int x1, .int x2] := by
  rcases ag_m x1 x2 with ⟨g, m, hg, hm, rfl, rfl, w⟩ | ⟨b, w⟩
  · obtain ⟨-, -, n, em, -⟩ := id h
    have e0 : S.1 4 (6 * g + m) 0 = S.2.2.1 5 (6 * g + m) := em _ 0 (by omega) (by omega)
    have e2 : S.1 4 (6 * g + m) 2 = S.2.2.1 7 (6 * g + m) := em _ 2 (by omega) (by omega)
    by_cases z : S.2.2.1 5 (6 * g + m) = 0
    · exact stA_thr (kk := 2) h ht (e_release_eS (k_releaseS1 hg hm (e0.trans z))) (j_releaseS hg hm w (Or.inl z))
    · by_cases z2 : S.2.2.1 7 (6 * g + m) = 0
      · exact stA_thr (kk := 2) h ht (e_release_eS (k_releaseS2 hg hm (fun y => z (e0.symm.trans y)) (e2.trans z2))) (j_releaseS hg hm w (Or.inr z2))
      · have hk : KeC S (tk_rel S g m) := (o_release h hg hm (by omega)).2.1
        have hT := rr_T h hk
        obtain ⟨c1, -, c3⟩ := o_release hT hg hm (by omega)
        obtain ⟨-, -, n2, -⟩ := id hT
        have q5 : ¬ (tk_rel S g m).2.2.1 5 (6 * g + m) = 0 := by rw [show (tk_rel S g m).2.2 = S.2.2 from hk]; exact z
        have q7 : ¬ (tk_rel S g m).2.2.1 7 (6 * g + m) = 0 := by rw [show (tk_rel S g m).2.2 = S.2.2 from hk]; exact z2
        exact stA_do (e_release (k_release hg hm (fun y => z (e0.symm.trans y)) (fun y => z2 (e2.symm.trans y)) n.ok)) (j_release hg hm w n2.mo q5 q7) c1 c3 (by omega) (by omega) (by omega)
  · exact stA_thr (kk := 1) h ht (e_release_eN (k_releaseN b)) (j_releaseN w)
theorem w_7 {X : XS} {t : Nat} {S : St} (h : RRel t S) (ht : t < 64) (x1 x2 x3 : Int32) : StB (RRel (t + 1)) X S mL_unit mX10_unit [.int x1, .int x2, .int x3] := by
  rcases ag_m x1 x2 with ⟨g, m, hg, hm, rfl, rfl, w⟩ | ⟨b, w⟩
  · obtain ⟨-, -, n, em, bm, -⟩ := id h
    have e0 : S.1 4 (6 * g + m) 0 = S.2.2.1 5 (6 * g + m) := em _ 0 (by omega) (by omega)
    have e7 : S.1 4 (6 * g + m) 7 = S.2.2.1 12 (6 * g + m) := em _ 7 (by omega) (by omega)
    have et := talks_eq h (show 6 * g + m < 18 by omega)
    obtain ⟨-, s, hs, es⟩ := bm (6 * g + m) (by omega)
    by_cases z : S.2.2.1 5 (6 * g + m) = 0
    · exact stB_thr (kk := 2) h ht (by decide) (e_unit_eS (k_unitS1 hg hm (e0.trans z))) (j_unitS hg hm w (Or.inl z))
    · by_cases z2 : 3 ≤ S.2.2.1 7 (6 * g + m)
      · by_cases z3 : S.2.2.1 12 (6 * g + m) = 64
        · have y3 : ¬ S.1 4 (6 * g + m) 7 < 64 := by rw [e7, z3]; decide
          exact stB_thr (kk := 3) h ht (by decide) (e_unit_eU (k_unitU hg hm x3 (fun y => z (e0.symm.trans y)) (et.trans (decide_eq_true z2)) y3)) (j_unitU hg hm w z z2 z3)
        · have s64 : s < 64 := by
            rcases Nat.lt_or_ge s 64 with q | q
            · exact q
            · exact absurd (by rw [es, show s = 64 by omega]; rfl) z3
          have y3 : S.1 4 (6 * g + m) 7 < 64 := by rw [e7, es]; exact nI_lt (b := 64) s64 (by decide)
          have hk : KeC S (tk_unit S g m x3) := (o_unit h hg hm (by omega) z3).2.1
          have hT := rr_To (x := (S.1 4 (6 * g + m) 7).toInt64) h hk
          have k : ∀ f i, (so (tk_unit S g m x3) (S.1 4 (6 * g + m) 7).toInt64).2.2.1 f i = S.2.2.1 f i := fun f i => by
            show (tk_unit S g m x3).2.2.1 f i = _
            rw [show (tk_unit S g m x3).2.2 = S.2.2 from hk]
          obtain ⟨c1, -, c3⟩ := o_unit (v := x3) hT hg hm (by omega) (by rw [k]; exact z3)
          obtain ⟨-, -, n2, -⟩ := id hT
          refine stB_do (e_unit (k_unit hg hm x3 (fun y => z (e0.symm.trans y)) (et.trans (decide_eq_true z2)) y3 n.ok)) (j_unit hg hm w x3 n2.mo (by rw [k]; exact z) (by rw [k]; exact z2) (by rw [k]; exact z3)) ?_ c1 c3 (by omega) (by omega) (by omega)
          have q12 : (ml_un (so (tk_unit S g m x3) (S.1 4 (6 * g + m) 7).toInt64) g m x3).2.2.1 12 (6 * g + m) = nI (s + 1) := by
            unfold ml_un ml_un0
            simp only
            rw [sm_get, if_pos ⟨rfl, rfl⟩, ml_send_get (by decide) (by decide) (by decide), sm_get, if_neg (by omega), k, es, nI_1]
          rw [q12, nI_pred, e7, es]
      · have y2 : me_talks S (6 * g + m) = false := et.trans (decide_eq_false z2)
        exact stB_thr (kk := 2) h ht (by decide) (e_unit_eS (k_unitS2 hg hm x3 (fun y => z (e0.symm.trans y)) y2)) (j_unitS hg hm w (Or.inr z2))
  · exact stB_thr (kk := 1) h ht (by decide) (e_unit_eN (k_unitN b)) (j_unitN w)
theorem w_8 {X : XS} {t : Nat} {S : St} (h : RRel t S) (ht : t < 64) : StC (RRel (t + 1)) X S mX9_messages mX10_messages := by
  have hc := Rel.cnt h
  refine ⟨S.1 6 0 2, S, sm S 0 0 0, k_messages, ?_, rr_thr h ht⟩
  rw [hc]
  exact j_messages
theorem w_9 {X : XS} {t : Nat} {S : St} (h : RRel t S) (ht : t < 64) (x1 x2 : Int32) : StB (RRel (t + 1)) X S mL_message mX10_message [.int x1, .int x2] := by
  rcases Rel.ag_k h x1 with ⟨k, hk, rfl, q, w⟩ | ⟨b, w⟩
  · rcases ag_i x2 6 (by omega) (by omega) (N := 6) (N1 := 5) rfl rfl with ⟨j, hj, rfl, w2⟩ | ⟨b, w2⟩
    · have hv := (Rel.say h q hk).2.2.2 j hj
      exact stB_get h ht (e_message (k_message q (by omega) hj (Rel.nok h))) (j_message w w2 hk hj) hv
    · exact stB_thr (kk := 2) h ht (by decide) (e_message_eI (k_messageI (nI_pos (by omega)) q b)) (j_messageI w w2)
  · exact stB_thr (kk := 1) h ht (by decide) (e_message_eN (k_messageN b)) (j_messageN w)
theorem w_10 {X : XS} {t : Nat} {S : St} (h : RRel t S) (ht : t < 64) (x1 : Int32) : StA (RRel (t + 1)) X S mL_carry mX10_carry [.int x1] := by
  rcases Rel.ag_k h x1 with ⟨k, hk, rfl, q, w⟩ | ⟨b, w⟩
  · obtain ⟨d1, -⟩ := Rel.carry h (by omega) (by omega) (by omega) q hk
    have hc : KeC S (tk_del (nt_out S k) (nt_at S k)) := by
      have := KeC.del d1
      unfold KeC at this ⊢
      rw [this, out_2]
    have hT := (rr_T h hc).thr (v := 0) (by omega)
    obtain ⟨-, r1⟩ := hT.carry (by omega) (by omega) (by omega) q hk
    obtain ⟨r2, -⟩ := hT.say q hk
    have w' : isMs (tk_del (nt_out S k) (nt_at S k)) (nI k) = true := by
      unfold isMs at w ⊢
      rw [show (tk_del (nt_out S k) (nt_at S k)).2.2 = S.2.2 from hc]; exact w
    exact stA_do (e_carry (k_carry q hk (Rel.nok h) d1)) (j_carry w' r2) r1 (KeN.of KeN.z (.com r2)) (by omega) (by omega) (by omega)
  · exact stA_thr (kk := 1) h ht (e_carry_eN (k_carryN b)) (j_carryN w)
theorem w_11 {X : XS} {t : Nat} {S : St} (h : RRel t S) (ht : t < 64) (x1 : Int32) : StA (RRel (t + 1)) X S mL_twice mX10_twice [.int x1] := by
  rcases Rel.ag_k h x1 with ⟨k, hk, rfl, q, w⟩ | ⟨b, w⟩
  · obtain ⟨d1, -⟩ := Rel.twice h (by omega) (by omega) (by omega) q hk
    have hc : KeC S (tk_del S (nt_at S k)) := KeC.del d1
    have hT := (rr_T h hc).thr (v := 0) (by omega)
    obtain ⟨-, r1⟩ := hT.twice (by omega) (by omega) (by omega) q hk
    obtain ⟨r2, -⟩ := hT.say q hk
    have w' : isMs (tk_del S (nt_at S k)) (nI k) = true := by
      unfold isMs at w ⊢
      rw [show (tk_del S (nt_at S k)).2.2 = S.2.2 from hc]; exact w
    exact stA_do (e_twice (k_twice q hk (Rel.nok h) d1)) (j_twice w' r2) r1 (KeN.of KeN.z (.com r2)) (by omega) (by omega) (by omega)
  · exact stA_thr (kk := 1) h ht (e_twice_eN (k_twiceN b)) (j_twiceN w)
theorem w_12 {X : XS} {t : Nat} {S : St} (h : RRel t S) (ht : t < 64) (x1 : Int32) : StA (RRel (t + 1)) X S mL_drop mX10_drop [.int x1] := by
  rcases Rel.ag_k h x1 with ⟨k, hk, rfl, q, w⟩ | ⟨b, w⟩
  · have hT := (rr_T (S1 := nt_out S k) h (by unfold KeC; rw [out_2])).thr (v := 0) (by omega)
    have r1 := hT.out q hk (by omega)
    obtain ⟨r2, -⟩ := hT.say q hk
    have w' : isMs (nt_out S k) (nI k) = true := by
      unfold isMs at w ⊢
      rw [out_2]; exact w
    have hm : MO (nt_out S k) := by
      obtain ⟨-, -, n, -⟩ := rr_T (S1 := nt_out S k) h (by unfold KeC; rw [out_2])
      exact n.mo
    have k1 := ml_out_1 (S := sm (nt_out S k) 0 0 0) (k := k)
    exact stA_do (e_drop (k_drop q hk (Rel.nok h))) (j_drop w' hm r2.1) r1 (KeN.of KeN.z ⟨k1.1, k1.2.1, k1.2.2, ml_out_get (by decide) (by decide)⟩) (by omega) (by omega) (by omega)
  · exact stA_thr (kk := 1) h ht (e_drop_eN (k_dropN b)) (j_dropN w)
theorem w_13 {X : XS} {t : Nat} {S : St} (h : RRel t S) (ht : t < 64) (x1 : Int32) : StB (RRel (t + 1)) X S mL_run mX10_run [.int x1] := by
  rcases ag_b x1 0 200 with ⟨a, w⟩ | ⟨a, w⟩
  · obtain ⟨n, hn, rfl⟩ := nI_of2 (n := 200) rfl a.1 a.2
    have hH : 200 * t + n + 1 < 2 ^ 30 := by omega
    obtain ⟨-, r2, r3⟩ := run_k (n := n) h (by omega) (by omega) hH n 0 (by omega) (fun i hi => by omega)
    obtain ⟨-, -, kc⟩ := run_rel (n := n) h (by omega) (by omega) hH _ (show rk S 0 n ≤ n by omega) r3
    have hT := (rr_To (x := (nI (rk S 0 n)).toInt64) h kc).thr (v := 0) (by omega)
    obtain ⟨s1, -, -⟩ := run_k (n := n) hT (by omega) (by omega) hH n 0 (by omega) (fun i hi => by omega)
    obtain ⟨u1, u2, -⟩ := run_rel (n := n) hT (by omega) (by omega) hH _ (show rk S 0 n ≤ n by omega) r3
    have hM := j_run2 (X := X) (d := 5) hn w (run_mok (n := n) hT (by omega) (by omega) hH sm_00)
    rw [← s1] at hM
    exact stB_do (e_run (k_run2 hn (run_ok (n := n) h (by omega) (by omega) hH))) hM rfl u1 (KeN.of KeN.z u2) (by omega) (by omega) (by omega)
  · exact stB_thr (kk := 1) h ht (by decide) (e_run_eA (k_runA a)) (j_runN w)
theorem w_14 {X : XS} {t : Nat} {S : St} (h : RRel t S) (ht : t < 64) : StC (RRel (t + 1)) X S mX9_tick mX10_tick := by
  obtain ⟨-, kc, -⟩ := Rel.tick h (by omega) (by omega) 3 (Nat.le_refl _)
  have hT := rr_T h kc
  obtain ⟨u1, -, u2⟩ := hT.tick (by omega) (by omega) 3 (Nat.le_refl _)
  have hM := j_tick (X := X) (d := 7) (tick_mok hT (by omega) (by omega))
  have e : (mtk (tkn S 3) 3).2.2.1 1 0 = S.1 9 0 4 + 1 := by rw [← u1.time, tkn_t]
  rw [e] at hM
  exact ⟨S.1 9 0 4 + 1, tkn S 3, mtk (tkn S 3) 3, k_tick (d := 7) (tick_ok h (by omega) (by omega)), hM, rr_fin u1 u2.1 u2.2.1 (by omega) (by omega) (by omega)⟩
theorem sv_eq {H TM L g j : Nat} {S T : St} (h : Rel H TM L S T) (hg : g < 3) (hj : j < 6) : fl_field S g j = ml_sv T g j := by
  obtain ⟨-, -, -, -, -, -, -, fl⟩ := h
  have f := (fl g hg).1
  have hz := (fl g hg).2
  unfold fl_field ml_sv
  rcases f.ho with ⟨z1, z2⟩ | ⟨q, hq, z1, z2, z3⟩
  · obtain ⟨n8, n9, n10'⟩ := f.2.2.2.2.1 z1
    rw [z1, z2, n8, n9, n10', f.w3.wc, f.2.1]
    have hw := f.1.1.1
    rw [← hw]
    rcases (show j = 0 ∨ j = 1 ∨ j = 2 ∨ j = 3 ∨ j = 4 ∨ j = 5 by omega) with rfl | rfl | rfl | rfl | rfl | rfl <;> simp [m1_lt, m1_nle, bI]
  · obtain ⟨a1, a2, a3, a4, a5, a6⟩ := f.2.2.2.2.2.1 z3
    have zp : (0 : Int32) ≤ nI q := nI_pos' (by omega)
    have zl : ¬ nI q < 0 := nI_pos (by omega)
    rw [z1, z2, a2, a3, a4, f.w3.wc, f.2.1]
    have hw := f.1.1.1
    rw [← hw]
    rcases (show j = 0 ∨ j = 1 ∨ j = 2 ∨ j = 3 ∨ j = 4 ∨ j = 5 by omega) with rfl | rfl | rfl | rfl | rfl | rfl
    · simp
    · simp
    · simp
    · rcases a5 with y | y
      · simp [y, zl, m1_lt, bI]
      · have y2 : ¬ T.2.2.1 36 g = -1 := fun v => by rw [v] at y; exact m1_nle y
        simp [y2, zl, i32_nlt.mpr y, bI]
    · simp [zp]
    · simp [zp]
theorem w_15 {X : XS} {t : Nat} {S : St} (h : RRel t S) (ht : t < 64) (x1 x2 : Int32) : StB (RRel (t + 1)) X S mL_server mX10_server [.int x1, .int x2] := by
  rcases ag_g x1 with ⟨g, hg, rfl, w⟩ | ⟨b, w⟩
  · rcases ag_i x2 6 (by omega) (by omega) (N := 6) (N1 := 5) rfl rfl with ⟨j, hj, rfl, w2⟩ | ⟨b, w2⟩
    · exact stB_get h ht (e_server (k_server hg hj)) (j_server hg w w2 (Nat.zero_le _) hj) (sv_eq ((Rel.eT (T' := so S (fl_field S g j).toInt64) h rfl).thr (by omega)) hg hj)
    · exact stB_thr (kk := 2) h ht (by decide) (e_server_eI (k_serverI hg b)) (j_serverI w w2)
  · exact stB_thr (kk := 1) h ht (by decide) (e_server_eN (k_serverN b)) (j_serverN w)
theorem w_16 {X : XS} {t : Nat} {S : St} (h : RRel t S) (ht : t < 64) (x1 x2 : Int32) : StB (RRel (t + 1)) X S mL_waiting mX10_waiting [.int x1, .int x2] := by
  rcases ag_g x1 with ⟨g, hg, rfl, w⟩ | ⟨b, w⟩
  · have hI := Rel.fli h hg
    obtain ⟨-, -, -, -, -, -, -, fl⟩ := id h
    have hw := (fl g hg).1.w3.wc
    have hw4 := hI.1.2.1
    rcases pk_ix x2 (n := wN S g) (by omega) with q | q | ⟨k, hk, rfl⟩
    · exact stB_thr (kk := 2) h ht (by decide) (e_waiting_eI (k_waitingI hg (Or.inl q))) (j_waitingI hg w (Or.inl q))
    · exact stB_thr (kk := 2) h ht (by decide) (e_waiting_eI (k_waitingI hg (Or.inr (by rw [hI.1.1]; exact i32_nlt.mpr q)))) (j_waitingI hg w (Or.inr (by rw [hw]; exact i32_nlt.mpr q)))
    · have hT : Rel (200 * t) t (18 * t) S (sm (so S (S.1 13 g k).toInt64) 0 0 0) := (Rel.eT (T' := so S (S.1 13 g k).toInt64) h rfl).thr (by omega)
      obtain ⟨-, -, -, -, -, -, -, fl2⟩ := id hT
      have hv := (fl2 g hg).1.w3.wa hg hk (by omega)
      have hwo : ml_wc (so S (S.1 13 g k).toInt64) g = wN S g := hw
      exact stB_get h ht (e_waiting (k_waiting hg hI hk)) (j_waiting hg w (nI_pos (by omega)) (by rw [hwo]; exact nI_lt hk (by omega))) (by rw [hv]; exact (hI.1.2.2 k hk).2)
  · exact stB_thr (kk := 1) h ht (by decide) (e_waiting_eN (k_waitingN b)) (j_waitingN w)
theorem w_17 {X : XS} {t : Nat} {S : St} (h : RRel t S) (ht : t < 64) (x1 x2 : Int32) : StB (RRel (t + 1)) X S mL_relay mX10_relay [.int x1, .int x2] := by
  rcases ag_g x1 with ⟨g, hg, rfl, w⟩ | ⟨b, w⟩
  · rcases ag_i x2 4 (by omega) (by omega) (N := 4) (N1 := 3) rfl rfl with ⟨j, hj, rfl, w2⟩ | ⟨b, w2⟩
    · refine stB_get h ht (e_relay (k_relay hg hj)) (j_relay hg w w2 hj) ?_
      obtain ⟨-, -, -, -, -, -, gt, -⟩ := id h
      have e := (gt g hg).1 j hj
      rw [Nat.add_comm 2 j] at e
      rw [e]
      unfold ml_ry
      rcases (show j = 0 ∨ j = 1 ∨ j = 2 ∨ j = 3 by omega) with rfl | rfl | rfl | rfl <;> rfl
    · exact stB_thr (kk := 2) h ht (by decide) (e_relay_eI (k_relayI hg b)) (j_relayI w w2)
  · exact stB_thr (kk := 1) h ht (by decide) (e_relay_eN (k_relayN b)) (j_relayN w)
theorem at_eq {H TM L i j : Nat} {S T : St} (h : Rel H TM L S T) (hi : i < 18) (hj : j < 15) : tk_about S i j = ml_at T i j := by
  obtain ⟨-, -, -, em, -, li, -, -⟩ := h
  have m0 := em i 0 hi (by omega)
  have m1 := em i 1 hi (by omega)
  have m2 := em i 2 hi (by omega)
  have m3 := em i 3 hi (by omega)
  have m5 := em i 5 hi (by omega)
  have m6 := em i 6 hi (by omega)
  have m7 := em i 7 hi (by omega)
  have m9 := em i 9 hi (by omega)
  have l := (li i hi).1
  have l0 := l 0 (by omega)
  have l1 := l 1 (by omega)
  have l2 := l 2 (by omega)
  have l5 := l 5 (by omega)
  have l6 := l 6 (by omega)
  have l7 := l 7 (by omega)
  have l8 := l 8 (by omega)
  unfold tk_about me_field li_field ml_at ml_as
  rw [m0, m1, m2, m3, m5, m6, m7, m9, l0, l1, l2, l5, l6, l7, l8]
  rcases (show j = 0 ∨ j = 1 ∨ j = 2 ∨ j = 3 ∨ j = 4 ∨ j = 5 ∨ j = 6 ∨ j = 7 ∨ j = 8 ∨ j = 9 ∨ j = 10 ∨ j = 11 ∨ j = 12 ∨ j = 13 ∨ j = 14 by omega) with rfl | rfl | rfl | rfl | rfl | rfl | rfl | rfl | rfl | rfl | rfl | rfl | rfl | rfl | rfl <;> rfl
theorem w_18 {X : XS} {t : Nat} {S : St} (h : RRel t S) (ht : t < 64) (x1 x2 x3 : Int32) : StB (RRel (t + 1)) X S mL_about mX10_about [.int x1, .int x2, .int x3] := by
  rcases ag_m x1 x2 with ⟨g, m, hg, hm, rfl, rfl, w⟩ | ⟨b, w⟩
  · rcases ag_i x3 15 (by omega) (by omega) (N := 15) (N1 := 14) rfl rfl with ⟨j, hj, rfl, w2⟩ | ⟨b, w2⟩
    · exact stB_get h ht (e_about (k_about hg hm hj)) (j_about hg hm w w2 hj) (at_eq ((Rel.eT (T' := so S (tk_about S (6 * g + m) j).toInt64) h rfl).thr (by omega)) (by omega) hj)
    · exact stB_thr (kk := 2) h ht (by decide) (e_about_eI (k_aboutI hg hm b)) (j_aboutI w w2)
  · exact stB_thr (kk := 1) h ht (by decide) (e_about_eN (k_aboutN b)) (j_aboutN w)
theorem w_19 {X : XS} {t : Nat} {S : St} (h : RRel t S) (ht : t < 64) : StC (RRel (t + 1)) X S mX9_lost mX10_lost := by
  obtain ⟨-, -, ⟨c, p, hc, h1, h2, h3, -⟩, -⟩ := id h
  refine ⟨S.1 6 0 3, S, sm S 0 0 0, k_lost, ?_, rr_thr h ht⟩
  rw [h3]
  exact j_lost
theorem steps (X : XS) : Steps X RRel := fun t S ht h =>
  ⟨Rel.mono h (by omega) (by omega) (by omega), w_1 h ht, w_2 h ht, w_3 h ht, w_4 h ht, w_5 h ht, w_6 h ht, w_7 h ht, w_8 h ht, w_9 h ht, w_10 h ht, w_11 h ht, w_12 h ht, w_13 h ht, w_14 h ht, w_15 h ht, w_16 h ht, w_17 h ht, w_18 h ht, w_19 h ht⟩
theorem law_ex (X : XS) (hX : X.1 ≤ 384) {MC MS : Nat} (hMC : 600 ≤ MC) (hMS : 6000 ≤ MS) : ∃ S', Ex X mL_law true 13 0 [some (.float 0), none, none, none, none, none, none] [] [] 0 0 (.inl (some (.int 1)), hp S', MC, MS) := lw_run hX (steps X) S0_rel hMC hMS
