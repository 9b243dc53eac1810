/-! the law's own helpers: a call of the class, what it throws caught -/
set_option maxRecDepth 100000 in
set_option maxHeartbeats 400000 in
theorem e_rules {X : XS} {d : Nat} {S S1 : St} {x0 x1 x2 x3 x4 : Int32} (hC : Call X mX9_rules false d [.ref (ad 9 0), .int x0, .int x1, .int x2, .int x3, .int x4] (hp S) (.inl none, hp S1, 0, 0)) : Call X mL_rules false (d + 1) [.ref (ad 9 0), .int x0, .int x1, .int x2, .int x3, .int x4] (hp S) (.inl (some (.int 0)), hp (S1), 1, 6) := by
  refine Call.ofH fL_rules (by decide) (by decide) (by simp [Value.category]) (Nat.le_of_ble_eq_true rfl) (lv := [some (.ref (ad 9 0)), some (.int x0), some (.int x1), some (.int x2), some (.int x3), some (.int x4), none]) rfl ?_
  refine x_aload_n dL_rules_0 rfl ?_
  refine x_iload_n dL_rules_1 rfl ?_
  refine x_iload_n dL_rules_2 rfl ?_
  refine x_iload_n dL_rules_3 rfl ?_
  refine x_iload dL_rules_4 rfl ?_
  refine x_iload dL_rules_6 rfl ?_
  refine x_cVv (as := [_, _, _, _, _]) dL_rules_8 fX9_rules rfl lk_RL_7 rfl (hp_get (κ := 9) (by decide)) rfl rfl (Nat.le_of_ble_eq_true rfl) (hC) (by simp) (by simp) ?_
  refine x_goto (tgt := 22) dL_rules_11 (by decide) ?_
  refine x_iconst (v := 0) dL_rules_22 (by decide) ?_
  exact x_rI dL_rules_23 rfl rfl rfl rfl (Nat.le_of_ble_eq_true rfl) (Nat.le_of_ble_eq_true rfl)
set_option maxRecDepth 100000 in
set_option maxHeartbeats 400000 in
theorem e_rules_eN {X : XS} {d : Nat} {S : St} {x0 x1 x2 x3 x4 : Int32} (hC : Call X mX9_rules false d [.ref (ad 9 0), .int x0, .int x1, .int x2, .int x3, .int x4] (hp S) (.inr eN, hp S, 1, 6)) : Call X mL_rules false (d + 1) [.ref (ad 9 0), .int x0, .int x1, .int x2, .int x3, .int x4] (hp S) (.inl (some (.int 1)), hp S, 1, 6) := by
  refine Call.ofH fL_rules (by decide) (by decide) (by simp [Value.category]) (Nat.le_of_ble_eq_true rfl) (lv := [some (.ref (ad 9 0)), some (.int x0), some (.int x1), some (.int x2), some (.int x3), some (.int x4), none]) rfl ?_
  refine x_aload_n dL_rules_0 rfl ?_
  refine x_iload_n dL_rules_1 rfl ?_
  refine x_iload_n dL_rules_2 rfl ?_
  refine x_iload_n dL_rules_3 rfl ?_
  refine x_iload dL_rules_4 rfl ?_
  refine x_iload dL_rules_6 rfl ?_
  refine x_invVC (as := [_, _, _, _, _]) dL_rules_8 fX9_rules rfl lk_RL_7 rfl (hp_get (κ := 9) (by decide)) rfl rfl (Nat.le_of_ble_eq_true rfl) (hC) rfl (Nat.le_of_ble_eq_true rfl) (Nat.le_of_ble_eq_true rfl) [] ⟨0, 11, 14, 13⟩ [⟨0, 11, 18, 15⟩] rfl (by simp) (by decide) (by decide) wc_13 (by decide) (fun q => ?_)
  refine x_astorex (lv' := [_, _, _, _, _, _, _]) dL_rules_14 (by decide) rfl ?_
  refine x_iconst (v := 1) dL_rules_16 (by decide) ?_
  exact x_rI dL_rules_17 rfl rfl rfl rfl (Nat.le_of_ble_eq_true rfl) (Nat.le_of_ble_eq_true rfl)
set_option maxRecDepth 100000 in
set_option maxHeartbeats 400000 in
theorem e_rules_eA {X : XS} {d : Nat} {S : St} {x0 x1 x2 x3 x4 : Int32} (hC : Call X mX9_rules false d [.ref (ad 9 0), .int x0, .int x1, .int x2, .int x3, .int x4] (hp S) (.inr eA, hp S, 1, 6)) : Call X mL_rules false (d + 1) [.ref (ad 9 0), .int x0, .int x1, .int x2, .int x3, .int x4] (hp S) (.inl (some (.int 2)), hp S, 1, 6) := by
  refine Call.ofH fL_rules (by decide) (by decide) (by simp [Value.category]) (Nat.le_of_ble_eq_true rfl) (lv := [some (.ref (ad 9 0)), some (.int x0), some (.int x1), some (.int x2), some (.int x3), some (.int x4), none]) rfl ?_
  refine x_aload_n dL_rules_0 rfl ?_
  refine x_iload_n dL_rules_1 rfl ?_
  refine x_iload_n dL_rules_2 rfl ?_
  refine x_iload_n dL_rules_3 rfl ?_
  refine x_iload dL_rules_4 rfl ?_
  refine x_iload dL_rules_6 rfl ?_
  refine x_invVC (as := [_, _, _, _, _]) dL_rules_8 fX9_rules rfl lk_RL_7 rfl (hp_get (κ := 9) (by decide)) rfl rfl (Nat.le_of_ble_eq_true rfl) (hC) rfl (Nat.le_of_ble_eq_true rfl) (Nat.le_of_ble_eq_true rfl) [⟨0, 11, 14, 13⟩] ⟨0, 11, 18, 15⟩ [] rfl (by
    intro z hz
    simp only [List.mem_cons, List.not_mem_nil, or_false] at hz
    subst hz
    exact Or.inr ⟨by decide, _, wc_13, by decide⟩) (by decide) (by decide) wc_15 (by decide) (fun q => ?_)
  refine x_astorex (lv' := [_, _, _, _, _, _, _]) dL_rules_18 (by decide) rfl ?_
  refine x_iconst (v := 2) dL_rules_20 (by decide) ?_
  exact x_rI dL_rules_21 rfl rfl rfl rfl (Nat.le_of_ble_eq_true rfl) (Nat.le_of_ble_eq_true rfl)
set_option maxRecDepth 100000 in
set_option maxHeartbeats 400000 in
theorem e_member {X : XS} {d : Nat} {S S1 : St} {x0 x1 x2 : Int32} (hC : Call X mX9_member false d [.ref (ad 9 0), .int x0, .int x1, .int x2] (hp S) (.inl none, hp S1, 0, 0)) : Call X mL_member false (d + 1) [.ref (ad 9 0), .int x0, .int x1, .int x2] (hp S) (.inl (some (.int 0)), hp (S1), 1, 6) := by
  refine Call.ofH fL_member (by decide) (by decide) (by simp [Value.category]) (Nat.le_of_ble_eq_true rfl) (lv := [some (.ref (ad 9 0)), some (.int x0), some (.int x1), some (.int x2), none]) rfl ?_
  refine x_aload_n dL_member_0 rfl ?_
  refine x_iload_n dL_member_1 rfl ?_
  refine x_iload_n dL_member_2 rfl ?_
  refine x_iload_n dL_member_3 rfl ?_
  refine x_cVv (as := [_, _, _]) dL_member_4 fX9_member rfl lk_RL_17 rfl (hp_get (κ := 9) (by decide)) rfl rfl (Nat.le_of_ble_eq_true rfl) (hC) (by simp) (by simp) ?_
  refine x_goto (tgt := 18) dL_member_7 (by decide) ?_
  refine x_iconst (v := 0) dL_member_18 (by decide) ?_
  exact x_rI dL_member_19 rfl rfl rfl rfl (Nat.le_of_ble_eq_true rfl) (Nat.le_of_ble_eq_true rfl)
set_option maxRecDepth 100000 in
set_option maxHeartbeats 400000 in
theorem e_member_eN {X : XS} {d : Nat} {S : St} {x0 x1 x2 : Int32} (hC : Call X mX9_member false d [.ref (ad 9 0), .int x0, .int x1, .int x2] (hp S) (.inr eN, hp S, 1, 6)) : Call X mL_member false (d + 1) [.ref (ad 9 0), .int x0, .int x1, .int x2] (hp S) (.inl (some (.int 1)), hp S, 1, 6) := by
  refine Call.ofH fL_member (by decide) (by decide) (by simp [Value.category]) (Nat.le_of_ble_eq_true rfl) (lv := [some (.ref (ad 9 0)), some (.int x0), some (.int x1), some (.int x2), none]) rfl ?_
  refine x_aload_n dL_member_0 rfl ?_
  refine x_iload_n dL_member_1 rfl ?_
  refine x_iload_n dL_member_2 rfl ?_
  refine x_iload_n dL_member_3 rfl ?_
  refine x_invVC (as := [_, _, _]) dL_member_4 fX9_member rfl lk_RL_17 rfl (hp_get (κ := 9) (by decide)) rfl rfl (Nat.le_of_ble_eq_true rfl) (hC) rfl (Nat.le_of_ble_eq_true rfl) (Nat.le_of_ble_eq_true rfl) [] ⟨0, 7, 10, 13⟩ [⟨0, 7, 14, 15⟩] rfl (by simp) (by decide) (by decide) wc_13 (by decide) (fun q => ?_)
  refine x_astorex (lv' := [_, _, _, _, _]) dL_member_10 (by decide) rfl ?_
  refine x_iconst (v := 1) dL_member_12 (by decide) ?_
  exact x_rI dL_member_13 rfl rfl rfl rfl (Nat.le_of_ble_eq_true rfl) (Nat.le_of_ble_eq_true rfl)
set_option maxRecDepth 100000 in
set_option maxHeartbeats 400000 in
theorem e_member_eA {X : XS} {d : Nat} {S : St} {x0 x1 x2 : Int32} (hC : Call X mX9_member false d [.ref (ad 9 0), .int x0, .int x1, .int x2] (hp S) (.inr eA, hp S, 1, 6)) : Call X mL_member false (d + 1) [.ref (ad 9 0), .int x0, .int x1, .int x2] (hp S) (.inl (some (.int 2)), hp S, 1, 6) := by
  refine Call.ofH fL_member (by decide) (by decide) (by simp [Value.category]) (Nat.le_of_ble_eq_true rfl) (lv := [some (.ref (ad 9 0)), some (.int x0), some (.int x1), some (.int x2), none]) rfl ?_
  refine x_aload_n dL_member_0 rfl ?_
  refine x_iload_n dL_member_1 rfl ?_
  refine x_iload_n dL_member_2 rfl ?_
  refine x_iload_n dL_member_3 rfl ?_
  refine x_invVC (as := [_, _, _]) dL_member_4 fX9_member rfl lk_RL_17 rfl (hp_get (κ := 9) (by decide)) rfl rfl (Nat.le_of_ble_eq_true rfl) (hC) rfl (Nat.le_of_ble_eq_true rfl) (Nat.le_of_ble_eq_true rfl) [⟨0, 7, 10, 13⟩] ⟨0, 7, 14, 15⟩ [] rfl (by
    intro z hz
    simp only [List.mem_cons, List.not_mem_nil, or_false] at hz
    subst hz
    exact Or.inr ⟨by decide, _, wc_13, by decide⟩) (by decide) (by decide) wc_15 (by decide) (fun q => ?_)
  refine x_astorex (lv' := [_, _, _, _, _]) dL_member_14 (by decide) rfl ?_
  refine x_iconst (v := 2) dL_member_16 (by decide) ?_
  exact x_rI dL_member_17 rfl rfl rfl rfl (Nat.le_of_ble_eq_true rfl) (Nat.le_of_ble_eq_true rfl)
set_option maxRecDepth 100000 in
set_option maxHeartbeats 400000 in
theorem e_leave {X : XS} {d : Nat} {S S1 : St} {x0 x1 : Int32} {v : Bool} (hC : Call X mX9_leave false d [.ref (ad 9 0), .int x0, .int x1] (hp S) (.inl (some (.int (bI v))), hp S1, 0, 0)) : Call X mL_leave false (d + 1) [.ref (ad 9 0), .int x0, .int x1, .ref (ad 26 0)] (hp S) (.inl (some (.int 0)), hp (so S1 (if v = true then 1 else 0)), 1, 6) := by
  refine Call.ofH fL_leave (by decide) (by decide) (by simp [Value.category]) (Nat.le_of_ble_eq_true rfl) (lv := [some (.ref (ad 9 0)), some (.int x0), some (.int x1), some (.ref (ad 26 0)), none]) rfl ?_
  refine x_aload_n dL_leave_0 rfl ?_
  refine x_iconst (v := 0) dL_leave_1 (by decide) ?_
  refine x_aload_n dL_leave_2 rfl ?_
  refine x_iload_n dL_leave_3 rfl ?_
  refine x_iload_n dL_leave_4 rfl ?_
  refine x_cV (as := [_, _]) dL_leave_5 fX9_leave rfl lk_RL_21 rfl (hp_get (κ := 9) (by decide)) rfl rfl (Nat.le_of_ble_eq_true rfl) (hC) (by simp) (by simp) ?_
  refine x_if_eqB (tgt := 15) dL_leave_8 (by decide) (fun hc8 => ?_) (fun hc8 => ?_)
  · refine x_lconst (v := 0) dL_leave_15 (by decide) ?_
    refine x_lastO dL_leave_16 ?_
    refine x_goto (tgt := 24) dL_leave_17 (by decide) ?_
    refine x_iconst (v := 0) dL_leave_24 (by decide) ?_
    exact x_rI dL_leave_25 rfl rfl rfl (by simp [hc8]) (Nat.le_of_ble_eq_true rfl) (Nat.le_of_ble_eq_true rfl)
  · refine x_lconst (v := 1) dL_leave_11 (by decide) ?_
    refine x_goto (tgt := 16) dL_leave_12 (by decide) ?_
    refine x_lastO dL_leave_16 ?_
    refine x_goto (tgt := 24) dL_leave_17 (by decide) ?_
    refine x_iconst (v := 0) dL_leave_24 (by decide) ?_
    exact x_rI dL_leave_25 rfl rfl rfl (by simp [hc8]) (Nat.le_of_ble_eq_true rfl) (Nat.le_of_ble_eq_true rfl)
set_option maxRecDepth 100000 in
set_option maxHeartbeats 400000 in
theorem e_leave_eN {X : XS} {d : Nat} {S : St} {x0 x1 : Int32} (hC : Call X mX9_leave false d [.ref (ad 9 0), .int x0, .int x1] (hp S) (.inr eN, hp S, 1, 6)) : Call X mL_leave false (d + 1) [.ref (ad 9 0), .int x0, .int x1, .ref (ad 26 0)] (hp S) (.inl (some (.int 1)), hp S, 1, 6) := by
  refine Call.ofH fL_leave (by decide) (by decide) (by simp [Value.category]) (Nat.le_of_ble_eq_true rfl) (lv := [some (.ref (ad 9 0)), some (.int x0), some (.int x1), some (.ref (ad 26 0)), none]) rfl ?_
  refine x_aload_n dL_leave_0 rfl ?_
  refine x_iconst (v := 0) dL_leave_1 (by decide) ?_
  refine x_aload_n dL_leave_2 rfl ?_
  refine x_iload_n dL_leave_3 rfl ?_
  refine x_iload_n dL_leave_4 rfl ?_
  refine x_invVC (as := [_, _]) dL_leave_5 fX9_leave rfl lk_RL_21 rfl (hp_get (κ := 9) (by decide)) rfl rfl (Nat.le_of_ble_eq_true rfl) (hC) rfl (Nat.le_of_ble_eq_true rfl) (Nat.le_of_ble_eq_true rfl) [] ⟨0, 17, 20, 13⟩ [] rfl (by simp) (by decide) (by decide) wc_13 (by decide) (fun q => ?_)
  refine x_astorex (lv' := [_, _, _, _, _]) dL_leave_20 (by decide) rfl ?_
  refine x_iconst (v := 1) dL_leave_22 (by decide) ?_
  exact x_rI dL_leave_23 rfl rfl rfl rfl (Nat.le_of_ble_eq_true rfl) (Nat.le_of_ble_eq_true rfl)
set_option maxRecDepth 100000 in
set_option maxHeartbeats 400000 in
theorem e_press {X : XS} {d : Nat} {S S1 : St} {x0 x1 x2 : Int32} {v : Int32} (hC : Call X mX9_press false d [.ref (ad 9 0), .int x0, .int x1, .int x2] (hp S) (.inl (some (.int v)), hp S1, 0, 0)) : Call X mL_press false (d + 1) [.ref (ad 9 0), .int x0, .int x1, .int x2, .ref (ad 26 0)] (hp S) (.inl (some (.int 0)), hp (so S1 v.toInt64), 1, 6) := by
  refine Call.ofH fL_press (by decide) (by decide) (by simp [Value.category]) (Nat.le_of_ble_eq_true rfl) (lv := [some (.ref (ad 9 0)), some (.int x0), some (.int x1), some (.int x2), some (.ref (ad 26 0)), none]) rfl ?_
  refine x_aload dL_press_0 rfl ?_
  refine x_iconst (v := 0) dL_press_2 (by decide) ?_
  refine x_aload_n dL_press_3 rfl ?_
  refine x_iload_n dL_press_4 rfl ?_
  refine x_iload_n dL_press_5 rfl ?_
  refine x_iload_n dL_press_6 rfl ?_
  refine x_cV (as := [_, _, _]) dL_press_7 fX9_press rfl lk_RL_25 rfl (hp_get (κ := 9) (by decide)) rfl rfl (Nat.le_of_ble_eq_true rfl) (hC) (by simp) (by simp) ?_
  refine x_i2l dL_press_10 ?_
  refine x_lastO dL_press_11 ?_
  refine x_goto (tgt := 23) dL_press_12 (by decide) ?_
  refine x_iconst (v := 0) dL_press_23 (by decide) ?_
  exact x_rI dL_press_24 rfl rfl rfl rfl (Nat.le_of_ble_eq_true rfl) (Nat.le_of_ble_eq_true rfl)
set_option maxRecDepth 100000 in
set_option maxHeartbeats 400000 in
theorem e_press_eN {X : XS} {d : Nat} {S : St} {x0 x1 x2 : Int32} (hC : Call X mX9_press false d [.ref (ad 9 0), .int x0, .int x1, .int x2] (hp S) (.inr eN, hp S, 1, 6)) : Call X mL_press false (d + 1) [.ref (ad 9 0), .int x0, .int x1, .int x2, .ref (ad 26 0)] (hp S) (.inl (some (.int 1)), hp S, 1, 6) := by
  refine Call.ofH fL_press (by decide) (by decide) (by simp [Value.category]) (Nat.le_of_ble_eq_true rfl) (lv := [some (.ref (ad 9 0)), some (.int x0), some (.int x1), some (.int x2), some (.ref (ad 26 0)), none]) rfl ?_
  refine x_aload dL_press_0 rfl ?_
  refine x_iconst (v := 0) dL_press_2 (by decide) ?_
  refine x_aload_n dL_press_3 rfl ?_
  refine x_iload_n dL_press_4 rfl ?_
  refine x_iload_n dL_press_5 rfl ?_
  refine x_iload_n dL_press_6 rfl ?_
  refine x_invVC (as := [_, _, _]) dL_press_7 fX9_press rfl lk_RL_25 rfl (hp_get (κ := 9) (by decide)) rfl rfl (Nat.le_of_ble_eq_true rfl) (hC) rfl (Nat.le_of_ble_eq_true rfl) (Nat.le_of_ble_eq_true rfl) [] ⟨0, 12, 15, 13⟩ [⟨0, 12, 19, 29⟩] rfl (by simp) (by decide) (by decide) wc_13 (by decide) (fun q => ?_)
  refine x_astorex (lv' := [_, _, _, _, _, _]) dL_press_15 (by decide) rfl ?_
  refine x_iconst (v := 1) dL_press_17 (by decide) ?_
  exact x_rI dL_press_18 rfl rfl rfl rfl (Nat.le_of_ble_eq_true rfl) (Nat.le_of_ble_eq_true rfl)
set_option maxRecDepth 100000 in
set_option maxHeartbeats 400000 in
theorem e_press_eS {X : XS} {d : Nat} {S : St} {x0 x1 x2 : Int32} (hC : Call X mX9_press false d [.ref (ad 9 0), .int x0, .int x1, .int x2] (hp S) (.inr eS, hp S, 1, 6)) : Call X mL_press false (d + 1) [.ref (ad 9 0), .int x0, .int x1, .int x2, .ref (ad 26 0)] (hp S) (.inl (some (.int 2)), hp S, 1, 6) := by
  refine Call.ofH fL_press (by decide) (by decide) (by simp [Value.category]) (Nat.le_of_ble_eq_true rfl) (lv := [some (.ref (ad 9 0)), some (.int x0), some (.int x1), some (.int x2), some (.ref (ad 26 0)), none]) rfl ?_
  refine x_aload dL_press_0 rfl ?_
  refine x_iconst (v := 0) dL_press_2 (by decide) ?_
  refine x_aload_n dL_press_3 rfl ?_
  refine x_iload_n dL_press_4 rfl ?_
  refine x_iload_n dL_press_5 rfl ?_
  refine x_iload_n dL_press_6 rfl ?_
  refine x_invVC (as := [_, _, _]) dL_press_7 fX9_press rfl lk_RL_25 rfl (hp_get (κ := 9) (by decide)) rfl rfl (Nat.le_of_ble_eq_true rfl) (hC) rfl (Nat.le_of_ble_eq_true rfl) (Nat.le_of_ble_eq_true rfl) [⟨0, 12, 15, 13⟩] ⟨0, 12, 19, 29⟩ [] rfl (by
    intro z hz
    simp only [List.mem_cons, List.not_mem_nil, or_false] at hz
    subst hz
    exact Or.inr ⟨by decide, _, wc_13, by decide⟩) (by decide) (by decide) wc_29 (by decide) (fun q => ?_)
  refine x_astorex (lv' := [_, _, _, _, _, _]) dL_press_19 (by decide) rfl ?_
  refine x_iconst (v := 2) dL_press_21 (by decide) ?_
  exact x_rI dL_press_22 rfl rfl rfl rfl (Nat.le_of_ble_eq_true rfl) (Nat.le_of_ble_eq_true rfl)
set_option maxRecDepth 100000 in
set_option maxHeartbeats 400000 in
theorem e_again {X : XS} {d : Nat} {S S1 : St} {x0 x1 : Int32} (hC : Call X mX9_again false d [.ref (ad 9 0), .int x0, .int x1] (hp S) (.inl none, hp S1, 0, 0)) : Call X mL_again false (d + 1) [.ref (ad 9 0), .int x0, .int x1] (hp S) (.inl (some (.int 0)), hp (S1), 1, 6) := by
  refine Call.ofH fL_again (by decide) (by decide) (by simp [Value.category]) (Nat.le_of_ble_eq_true rfl) (lv := [some (.ref (ad 9 0)), some (.int x0), some (.int x1), none]) rfl ?_
  refine x_aload_n dL_again_0 rfl ?_
  refine x_iload_n dL_again_1 rfl ?_
  refine x_iload_n dL_again_2 rfl ?_
  refine x_cVv (as := [_, _]) dL_again_3 fX9_again rfl lk_RL_31 rfl (hp_get (κ := 9) (by decide)) rfl rfl (Nat.le_of_ble_eq_true rfl) (hC) (by simp) (by simp) ?_
  refine x_goto (tgt := 15) dL_again_6 (by decide) ?_
  refine x_iconst (v := 0) dL_again_15 (by decide) ?_
  exact x_rI dL_again_16 rfl rfl rfl rfl (Nat.le_of_ble_eq_true rfl) (Nat.le_of_ble_eq_true rfl)
set_option maxRecDepth 100000 in
set_option maxHeartbeats 400000 in
theorem e_again_eN {X : XS} {d : Nat} {S : St} {x0 x1 : Int32} (hC : Call X mX9_again false d [.ref (ad 9 0), .int x0, .int x1] (hp S) (.inr eN, hp S, 1, 6)) : Call X mL_again false (d + 1) [.ref (ad 9 0), .int x0, .int x1] (hp S) (.inl (some (.int 1)), hp S, 1, 6) := by
  refine Call.ofH fL_again (by decide) (by decide) (by simp [Value.category]) (Nat.le_of_ble_eq_true rfl) (lv := [some (.ref (ad 9 0)), some (.int x0), some (.int x1), none]) rfl ?_
  refine x_aload_n dL_again_0 rfl ?_
  refine x_iload_n dL_again_1 rfl ?_
  refine x_iload_n dL_again_2 rfl ?_
  refine x_invVC (as := [_, _]) dL_again_3 fX9_again rfl lk_RL_31 rfl (hp_get (κ := 9) (by decide)) rfl rfl (Nat.le_of_ble_eq_true rfl) (hC) rfl (Nat.le_of_ble_eq_true rfl) (Nat.le_of_ble_eq_true rfl) [] ⟨0, 6, 9, 13⟩ [⟨0, 6, 12, 29⟩] rfl (by simp) (by decide) (by decide) wc_13 (by decide) (fun q => ?_)
  refine x_astore_nx (lv' := [_, _, _, _]) dL_again_9 (by decide) rfl ?_
  refine x_iconst (v := 1) dL_again_10 (by decide) ?_
  exact x_rI dL_again_11 rfl rfl rfl rfl (Nat.le_of_ble_eq_true rfl) (Nat.le_of_ble_eq_true rfl)
set_option maxRecDepth 100000 in
set_option maxHeartbeats 400000 in
theorem e_again_eS {X : XS} {d : Nat} {S : St} {x0 x1 : Int32} (hC : Call X mX9_again false d [.ref (ad 9 0), .int x0, .int x1] (hp S) (.inr eS, hp S, 1, 6)) : Call X mL_again false (d + 1) [.ref (ad 9 0), .int x0, .int x1] (hp S) (.inl (some (.int 2)), hp S, 1, 6) := by
  refine Call.ofH fL_again (by decide) (by decide) (by simp [Value.category]) (Nat.le_of_ble_eq_true rfl) (lv := [some (.ref (ad 9 0)), some (.int x0), some (.int x1), none]) rfl ?_
  refine x_aload_n dL_again_0 rfl ?_
  refine x_iload_n dL_again_1 rfl ?_
  refine x_iload_n dL_again_2 rfl ?_
  refine x_invVC (as := [_, _]) dL_again_3 fX9_again rfl lk_RL_31 rfl (hp_get (κ := 9) (by decide)) rfl rfl (Nat.le_of_ble_eq_true rfl) (hC) rfl (Nat.le_of_ble_eq_true rfl) (Nat.le_of_ble_eq_true rfl) [⟨0, 6, 9, 13⟩] ⟨0, 6, 12, 29⟩ [] rfl (by
    intro z hz
    simp only [List.mem_cons, List.not_mem_nil, or_false] at hz
    subst hz
    exact Or.inr ⟨by decide, _, wc_13, by decide⟩) (by decide) (by decide) wc_29 (by decide) (fun q => ?_)
  refine x_astore_nx (lv' := [_, _, _, _]) dL_again_12 (by decide) rfl ?_
  refine x_iconst (v := 2) dL_again_13 (by decide) ?_
  exact x_rI dL_again_14 rfl rfl rfl rfl (Nat.le_of_ble_eq_true rfl) (Nat.le_of_ble_eq_true rfl)
set_option maxRecDepth 100000 in
set_option maxHeartbeats 400000 in
theorem e_release {X : XS} {d : Nat} {S S1 : St} {x0 x1 : Int32} (hC : Call X mX9_release false d [.ref (ad 9 0), .int x0, .int x1] (hp S) (.inl none, hp S1, 0, 0)) : Call X mL_release false (d + 1) [.ref (ad 9 0), .int x0, .int x1] (hp S) (.inl (some (.int 0)), hp (S1), 1, 6) := by
  refine Call.ofH fL_release (by decide) (by decide) (by simp [Value.category]) (Nat.le_of_ble_eq_true rfl) (lv := [some (.ref (ad 9 0)), some (.int x0), some (.int x1), none]) rfl ?_
  refine x_aload_n dL_release_0 rfl ?_
  refine x_iload_n dL_release_1 rfl ?_
  refine x_iload_n dL_release_2 rfl ?_
  refine x_cVv (as := [_, _]) dL_release_3 fX9_release rfl lk_RL_35 rfl (hp_get (κ := 9) (by decide)) rfl rfl (Nat.le_of_ble_eq_true rfl) (hC) (by simp) (by simp) ?_
  refine x_goto (tgt := 15) dL_release_6 (by decide) ?_
  refine x_iconst (v := 0) dL_release_15 (by decide) ?_
  exact x_rI dL_release_16 rfl rfl rfl rfl (Nat.le_of_ble_eq_true rfl) (Nat.le_of_ble_eq_true rfl)
set_option maxRecDepth 100000 in
set_option maxHeartbeats 400000 in
theorem e_release_eN {X : XS} {d : Nat} {S : St} {x0 x1 : Int32} (hC : Call X mX9_release false d [.ref (ad 9 0), .int x0, .int x1] (hp S) (.inr eN, hp S, 1, 6)) : Call X mL_release false (d + 1) [.ref (ad 9 0), .int x0, .int x1] (hp S) (.inl (some (.int 1)), hp S, 1, 6) := by
  refine Call.ofH fL_release (by decide) (by decide) (by simp [Value.category]) (Nat.le_of_ble_eq_true rfl) (lv := [some (.ref (ad 9 0)), some (.int x0), some (.int x1), none]) rfl ?_
  refine x_aload_n dL_release_0 rfl ?_
  refine x_iload_n dL_release_1 rfl ?_
  refine x_iload_n dL_release_2 rfl ?_
  refine x_invVC (as := [_, _]) dL_release_3 fX9_release rfl lk_RL_35 rfl (hp_get (κ := 9) (by decide)) rfl rfl (Nat.le_of_ble_eq_true rfl) (hC) rfl (Nat.le_of_ble_eq_true rfl) (Nat.le_of_ble_eq_true rfl) [] ⟨0, 6, 9, 13⟩ [⟨0, 6, 12, 29⟩] rfl (by simp) (by decide) (by decide) wc_13 (by decide) (fun q => ?_)
  refine x_astore_nx (lv' := [_, _, _, _]) dL_release_9 (by decide) rfl ?_
  refine x_iconst (v := 1) dL_release_10 (by decide) ?_
  exact x_rI dL_release_11 rfl rfl rfl rfl (Nat.le_of_ble_eq_true rfl) (Nat.le_of_ble_eq_true rfl)
set_option maxRecDepth 100000 in
set_option maxHeartbeats 400000 in
theorem e_release_eS {X : XS} {d : Nat} {S : St} {x0 x1 : Int32} (hC : Call X mX9_release false d [.ref (ad 9 0), .int x0, .int x1] (hp S) (.inr eS, hp S, 1, 6)) : Call X mL_release false (d + 1) [.ref (ad 9 0), .int x0, .int x1] (hp S) (.inl (some (.int 2)), hp S, 1, 6) := by
  refine Call.ofH fL_release (by decide) (by decide) (by simp [Value.category]) (Nat.le_of_ble_eq_true rfl) (lv := [some (.ref (ad 9 0)), some (.int x0), some (.int x1), none]) rfl ?_
  refine x_aload_n dL_release_0 rfl ?_
  refine x_iload_n dL_release_1 rfl ?_
  refine x_iload_n dL_release_2 rfl ?_
  refine x_invVC (as := [_, _]) dL_release_3 fX9_release rfl lk_RL_35 rfl (hp_get (κ := 9) (by decide)) rfl rfl (Nat.le_of_ble_eq_true rfl) (hC) rfl (Nat.le_of_ble_eq_true rfl) (Nat.le_of_ble_eq_true rfl) [⟨0, 6, 9, 13⟩] ⟨0, 6, 12, 29⟩ [] rfl (by
    intro z hz
    simp only [List.mem_cons, List.not_mem_nil, or_false] at hz
    subst hz
    exact Or.inr ⟨by decide, _, wc_13, by decide⟩) (by decide) (by decide) wc_29 (by decide) (fun q => ?_)
  refine x_astore_nx (lv' := [_, _, _, _]) dL_release_12 (by decide) rfl ?_
  refine x_iconst (v := 2) dL_release_13 (by decide) ?_
  exact x_rI dL_release_14 rfl rfl rfl rfl (Nat.le_of_ble_eq_true rfl) (Nat.le_of_ble_eq_true rfl)
set_option maxRecDepth 100000 in
set_option maxHeartbeats 400000 in
theorem e_unit {X : XS} {d : Nat} {S S1 : St} {x0 x1 x2 : Int32} {v : Int32} (hC : Call X mX9_unit false d [.ref (ad 9 0), .int x0, .int x1, .int x2] (hp S) (.inl (some (.int v)), hp S1, 0, 0)) : Call X mL_unit false (d + 1) [.ref (ad 9 0), .int x0, .int x1, .int x2, .ref (ad 26 0)] (hp S) (.inl (some (.int 0)), hp (so S1 v.toInt64), 1, 6) := by
  refine Call.ofH fL_unit (by decide) (by decide) (by simp [Value.category]) (Nat.le_of_ble_eq_true rfl) (lv := [some (.ref (ad 9 0)), some (.int x0), some (.int x1), some (.int x2), some (.ref (ad 26 0)), none]) rfl ?_
  refine x_aload dL_unit_0 rfl ?_
  refine x_iconst (v := 0) dL_unit_2 (by decide) ?_
  refine x_aload_n dL_unit_3 rfl ?_
  refine x_iload_n dL_unit_4 rfl ?_
  refine x_iload_n dL_unit_5 rfl ?_
  refine x_iload_n dL_unit_6 rfl ?_
  refine x_cV (as := [_, _, _]) dL_unit_7 fX9_unit rfl lk_RL_38 rfl (hp_get (κ := 9) (by decide)) rfl rfl (Nat.le_of_ble_eq_true rfl) (hC) (by simp) (by simp) ?_
  refine x_i2l dL_unit_10 ?_
  refine x_lastO dL_unit_11 ?_
  refine x_goto (tgt := 27) dL_unit_12 (by decide) ?_
  refine x_iconst (v := 0) dL_unit_27 (by decide) ?_
  exact x_rI dL_unit_28 rfl rfl rfl rfl (Nat.le_of_ble_eq_true rfl) (Nat.le_of_ble_eq_true rfl)
set_option maxRecDepth 100000 in
set_option maxHeartbeats 400000 in
theorem e_unit_eN {X : XS} {d : Nat} {S : St} {x0 x1 x2 : Int32} (hC : Call X mX9_unit false d [.ref (ad 9 0), .int x0, .int x1, .int x2] (hp S) (.inr eN, hp S, 1, 6)) : Call X mL_unit false (d + 1) [.ref (ad 9 0), .int x0, .int x1, .int x2, .ref (ad 26 0)] (hp S) (.inl (some (.int 1)), hp S, 1, 6) := by
  refine Call.ofH fL_unit (by decide) (by decide) (by simp [Value.category]) (Nat.le_of_ble_eq_true rfl) (lv := [some (.ref (ad 9 0)), some (.int x0), some (.int x1), some (.int x2), some (.ref (ad 26 0)), none]) rfl ?_
  refine x_aload dL_unit_0 rfl ?_
  refine x_iconst (v := 0) dL_unit_2 (by decide) ?_
  refine x_aload_n dL_unit_3 rfl ?_
  refine x_iload_n dL_unit_4 rfl ?_
  refine x_iload_n dL_unit_5 rfl ?_
  refine x_iload_n dL_unit_6 rfl ?_
  refine x_invVC (as := [_, _, _]) dL_unit_7 fX9_unit rfl lk_RL_38 rfl (hp_get (κ := 9) (by decide)) rfl rfl (Nat.le_of_ble_eq_true rfl) (hC) rfl (Nat.le_of_ble_eq_true rfl) (Nat.le_of_ble_eq_true rfl) [] ⟨0, 12, 15, 13⟩ [⟨0, 12, 19, 29⟩, ⟨0, 12, 23, 42⟩] rfl (by simp) (by decide) (by decide) wc_13 (by decide) (fun q => ?_)
  refine x_astorex (lv' := [_, _, _, _, _, _]) dL_unit_15 (by decide) rfl ?_
  refine x_iconst (v := 1) dL_unit_17 (by decide) ?_
  exact x_rI dL_unit_18 rfl rfl rfl rfl (Nat.le_of_ble_eq_true rfl) (Nat.le_of_ble_eq_true rfl)
set_option maxRecDepth 100000 in
set_option maxHeartbeats 400000 in
theorem e_unit_eS {X : XS} {d : Nat} {S : St} {x0 x1 x2 : Int32} (hC : Call X mX9_unit false d [.ref (ad 9 0), .int x0, .int x1, .int x2] (hp S) (.inr eS, hp S, 1, 6)) : Call X mL_unit false (d + 1) [.ref (ad 9 0), .int x0, .int x1, .int x2, .ref (ad 26 0)] (hp S) (.inl (some (.int 2)), hp S, 1, 6) := by
  refine Call.ofH fL_unit (by decide) (by decide) (by simp [Value.category]) (Nat.le_of_ble_eq_true rfl) (lv := [some (.ref (ad 9 0)), some (.int x0), some (.int x1), some (.int x2), some (.ref (ad 26 0)), none]) rfl ?_
  refine x_aload dL_unit_0 rfl ?_
  refine x_iconst (v := 0) dL_unit_2 (by decide) ?_
  refine x_aload_n dL_unit_3 rfl ?_
  refine x_iload_n dL_unit_4 rfl ?_
  refine x_iload_n dL_unit_5 rfl ?_
  refine x_iload_n dL_unit_6 rfl ?_
  refine x_invVC (as := [_, _, _]) dL_unit_7 fX9_unit rfl lk_RL_38 rfl (hp_get (κ := 9) (by decide)) rfl rfl (Nat.le_of_ble_eq_true rfl) (hC) rfl (Nat.le_of_ble_eq_true rfl) (Nat.le_of_ble_eq_true rfl) [⟨0, 12, 15, 13⟩] ⟨0, 12, 19, 29⟩ [⟨0, 12, 23, 42⟩] rfl (by
    intro z hz
    simp only [List.mem_cons, List.not_mem_nil, or_false] at hz
    subst hz
    exact Or.inr ⟨by decide, _, wc_13, by decide⟩) (by decide) (by decide) wc_29 (by decide) (fun q => ?_)
  refine x_astorex (lv' := [_, _, _, _, _, _]) dL_unit_19 (by decide) rfl ?_
  refine x_iconst (v := 2) dL_unit_21 (by decide) ?_
  exact x_rI dL_unit_22 rfl rfl rfl rfl (Nat.le_of_ble_eq_true rfl) (Nat.le_of_ble_eq_true rfl)
set_option maxRecDepth 100000 in
set_option maxHeartbeats 400000 in
theorem e_unit_eU {X : XS} {d : Nat} {S : St} {x0 x1 x2 : Int32} (hC : Call X mX9_unit false d [.ref (ad 9 0), .int x0, .int x1, .int x2] (hp S) (.inr eU, hp S, 1, 6)) : Call X mL_unit false (d + 1) [.ref (ad 9 0), .int x0, .int x1, .int x2, .ref (ad 26 0)] (hp S) (.inl (some (.int 3)), hp S, 1, 6) := by
  refine Call.ofH fL_unit (by decide) (by decide) (by simp [Value.category]) (Nat.le_of_ble_eq_true rfl) (lv := [some (.ref (ad 9 0)), some (.int x0), some (.int x1), some (.int x2), some (.ref (ad 26 0)), none]) rfl ?_
  refine x_aload dL_unit_0 rfl ?_
  refine x_iconst (v := 0) dL_unit_2 (by decide) ?_
  refine x_aload_n dL_unit_3 rfl ?_
  refine x_iload_n dL_unit_4 rfl ?_
  refine x_iload_n dL_unit_5 rfl ?_
  refine x_iload_n dL_unit_6 rfl ?_
  refine x_invVC (as := [_, _, _]) dL_unit_7 fX9_unit rfl lk_RL_38 rfl (hp_get (κ := 9) (by decide)) rfl rfl (Nat.le_of_ble_eq_true rfl) (hC) rfl (Nat.le_of_ble_eq_true rfl) (Nat.le_of_ble_eq_true rfl) [⟨0, 12, 15, 13⟩, ⟨0, 12, 19, 29⟩] ⟨0, 12, 23, 42⟩ [] rfl (by
    intro z hz
    simp only [List.mem_cons, List.not_mem_nil, or_false] at hz
    rcases hz with rfl | rfl
    · exact Or.inr ⟨by decide, _, wc_13, by decide⟩
    · exact Or.inr ⟨by decide, _, wc_29, by decide⟩) (by decide) (by decide) wc_42 (by decide) (fun q => ?_)
  refine x_astorex (lv' := [_, _, _, _, _, _]) dL_unit_23 (by decide) rfl ?_
  refine x_iconst (v := 3) dL_unit_25 (by decide) ?_
  exact x_rI dL_unit_26 rfl rfl rfl rfl (Nat.le_of_ble_eq_true rfl) (Nat.le_of_ble_eq_true rfl)
set_option maxRecDepth 100000 in
set_option maxHeartbeats 400000 in
theorem e_message {X : XS} {d : Nat} {S S1 : St} {x0 x1 : Int32} {v : Int32} (hC : Call X mX9_message false d [.ref (ad 9 0), .int x0, .int x1] (hp S) (.inl (some (.int v)), hp S1, 0, 0)) : Call X mL_message false (d + 1) [.ref (ad 9 0), .int x0, .int x1, .ref (ad 26 0)] (hp S) (.inl (some (.int 0)), hp (so S1 v.toInt64), 1, 6) := by
  refine Call.ofH fL_message (by decide) (by decide) (by simp [Value.category]) (Nat.le_of_ble_eq_true rfl) (lv := [some (.ref (ad 9 0)), some (.int x0), some (.int x1), some (.ref (ad 26 0)), none]) rfl ?_
  refine x_aload_n dL_message_0 rfl ?_
  refine x_iconst (v := 0) dL_message_1 (by decide) ?_
  refine x_aload_n dL_message_2 rfl ?_
  refine x_iload_n dL_message_3 rfl ?_
  refine x_iload_n dL_message_4 rfl ?_
  refine x_cV (as := [_, _]) dL_message_5 fX9_message rfl lk_RL_44 rfl (hp_get (κ := 9) (by decide)) rfl rfl (Nat.le_of_ble_eq_true rfl) (hC) (by simp) (by simp) ?_
  refine x_i2l dL_message_8 ?_
  refine x_lastO dL_message_9 ?_
  refine x_goto (tgt := 21) dL_message_10 (by decide) ?_
  refine x_iconst (v := 0) dL_message_21 (by decide) ?_
  exact x_rI dL_message_22 rfl rfl rfl rfl (Nat.le_of_ble_eq_true rfl) (Nat.le_of_ble_eq_true rfl)
set_option maxRecDepth 100000 in
set_option maxHeartbeats 400000 in
theorem e_message_eN {X : XS} {d : Nat} {S : St} {x0 x1 : Int32} (hC : Call X mX9_message false d [.ref (ad 9 0), .int x0, .int x1] (hp S) (.inr eN, hp S, 1, 6)) : Call X mL_message false (d + 1) [.ref (ad 9 0), .int x0, .int x1, .ref (ad 26 0)] (hp S) (.inl (some (.int 1)), hp S, 1, 6) := by
  refine Call.ofH fL_message (by decide) (by decide) (by simp [Value.category]) (Nat.le_of_ble_eq_true rfl) (lv := [some (.ref (ad 9 0)), some (.int x0), some (.int x1), some (.ref (ad 26 0)), none]) rfl ?_
  refine x_aload_n dL_message_0 rfl ?_
  refine x_iconst (v := 0) dL_message_1 (by decide) ?_
  refine x_aload_n dL_message_2 rfl ?_
  refine x_iload_n dL_message_3 rfl ?_
  refine x_iload_n dL_message_4 rfl ?_
  refine x_invVC (as := [_, _]) dL_message_5 fX9_message rfl lk_RL_44 rfl (hp_get (κ := 9) (by decide)) rfl rfl (Nat.le_of_ble_eq_true rfl) (hC) rfl (Nat.le_of_ble_eq_true rfl) (Nat.le_of_ble_eq_true rfl) [] ⟨0, 10, 13, 13⟩ [⟨0, 10, 17, 48⟩] rfl (by simp) (by decide) (by decide) wc_13 (by decide) (fun q => ?_)
  refine x_astorex (lv' := [_, _, _, _, _]) dL_message_13 (by decide) rfl ?_
  refine x_iconst (v := 1) dL_message_15 (by decide) ?_
  exact x_rI dL_message_16 rfl rfl rfl rfl (Nat.le_of_ble_eq_true rfl) (Nat.le_of_ble_eq_true rfl)
set_option maxRecDepth 100000 in
set_option maxHeartbeats 400000 in
theorem e_message_eI {X : XS} {d : Nat} {S : St} {x0 x1 : Int32} (hC : Call X mX9_message false d [.ref (ad 9 0), .int x0, .int x1] (hp S) (.inr eI, hp S, 1, 6)) : Call X mL_message false (d + 1) [.ref (ad 9 0), .int x0, .int x1, .ref (ad 26 0)] (hp S) (.inl (some (.int 2)), hp S, 1, 6) := by
  refine Call.ofH fL_message (by decide) (by decide) (by simp [Value.category]) (Nat.le_of_ble_eq_true rfl) (lv := [some (.ref (ad 9 0)), some (.int x0), some (.int x1), some (.ref (ad 26 0)), none]) rfl ?_
  refine x_aload_n dL_message_0 rfl ?_
  refine x_iconst (v := 0) dL_message_1 (by decide) ?_
  refine x_aload_n dL_message_2 rfl ?_
  refine x_iload_n dL_message_3 rfl ?_
  refine x_iload_n dL_message_4 rfl ?_
  refine x_invVC (as := [_, _]) dL_message_5 fX9_message rfl lk_RL_44 rfl (hp_get (κ := 9) (by decide)) rfl rfl (Nat.le_of_ble_eq_true rfl) (hC) rfl (Nat.le_of_ble_eq_true rfl) (Nat.le_of_ble_eq_true rfl) [⟨0, 10, 13, 13⟩] ⟨0, 10, 17, 48⟩ [] rfl (by
    intro z hz
    simp only [List.mem_cons, List.not_mem_nil, or_false] at hz
    subst hz
    exact Or.inr ⟨by decide, _, wc_13, by decide⟩) (by decide) (by decide) wc_48 (by decide) (fun q => ?_)
  refine x_astorex (lv' := [_, _, _, _, _]) dL_message_17 (by decide) rfl ?_
  refine x_iconst (v := 2) dL_message_19 (by decide) ?_
  exact x_rI dL_message_20 rfl rfl rfl rfl (Nat.le_of_ble_eq_true rfl) (Nat.le_of_ble_eq_true rfl)
set_option maxRecDepth 100000 in
set_option maxHeartbeats 400000 in
theorem e_carry {X : XS} {d : Nat} {S S1 : St} {x0 : Int32} (hC : Call X mX9_carry false d [.ref (ad 9 0), .int x0] (hp S) (.inl none, hp S1, 0, 0)) : Call X mL_carry false (d + 1) [.ref (ad 9 0), .int x0] (hp S) (.inl (some (.int 0)), hp (S1), 1, 6) := by
  refine Call.ofH fL_carry (by decide) (by decide) (by simp [Value.category]) (Nat.le_of_ble_eq_true rfl) (lv := [some (.ref (ad 9 0)), some (.int x0), none]) rfl ?_
  refine x_aload_n dL_carry_0 rfl ?_
  refine x_iload_n dL_carry_1 rfl ?_
  refine x_cVv (as := [_]) dL_carry_2 fX9_carry rfl lk_RL_50 rfl (hp_get (κ := 9) (by decide)) rfl rfl (Nat.le_of_ble_eq_true rfl) (hC) (by simp) (by simp) ?_
  refine x_goto (tgt := 11) dL_carry_5 (by decide) ?_
  refine x_iconst (v := 0) dL_carry_11 (by decide) ?_
  exact x_rI dL_carry_12 rfl rfl rfl rfl (Nat.le_of_ble_eq_true rfl) (Nat.le_of_ble_eq_true rfl)
set_option maxRecDepth 100000 in
set_option maxHeartbeats 400000 in
theorem e_carry_eN {X : XS} {d : Nat} {S : St} {x0 : Int32} (hC : Call X mX9_carry false d [.ref (ad 9 0), .int x0] (hp S) (.inr eN, hp S, 1, 6)) : Call X mL_carry false (d + 1) [.ref (ad 9 0), .int x0] (hp S) (.inl (some (.int 1)), hp S, 1, 6) := by
  refine Call.ofH fL_carry (by decide) (by decide) (by simp [Value.category]) (Nat.le_of_ble_eq_true rfl) (lv := [some (.ref (ad 9 0)), some (.int x0), none]) rfl ?_
  refine x_aload_n dL_carry_0 rfl ?_
  refine x_iload_n dL_carry_1 rfl ?_
  refine x_invVC (as := [_]) dL_carry_2 fX9_carry rfl lk_RL_50 rfl (hp_get (κ := 9) (by decide)) rfl rfl (Nat.le_of_ble_eq_true rfl) (hC) rfl (Nat.le_of_ble_eq_true rfl) (Nat.le_of_ble_eq_true rfl) [] ⟨0, 5, 8, 13⟩ [] rfl (by simp) (by decide) (by decide) wc_13 (by decide) (fun q => ?_)
  refine x_astore_nx (lv' := [_, _, _]) dL_carry_8 (by decide) rfl ?_
  refine x_iconst (v := 1) dL_carry_9 (by decide) ?_
  exact x_rI dL_carry_10 rfl rfl rfl rfl (Nat.le_of_ble_eq_true rfl) (Nat.le_of_ble_eq_true rfl)
set_option maxRecDepth 100000 in
set_option maxHeartbeats 400000 in
theorem e_twice {X : XS} {d : Nat} {S S1 : St} {x0 : Int32} (hC : Call X mX9_twice false d [.ref (ad 9 0), .int x0] (hp S) (.inl none, hp S1, 0, 0)) : Call X mL_twice false (d + 1) [.ref (ad 9 0), .int x0] (hp S) (.inl (some (.int 0)), hp (S1), 1, 6) := by
  refine Call.ofH fL_twice (by decide) (by decide) (by simp [Value.category]) (Nat.le_of_ble_eq_true rfl) (lv := [some (.ref (ad 9 0)), some (.int x0), none]) rfl ?_
  refine x_aload_n dL_twice_0 rfl ?_
  refine x_iload_n dL_twice_1 rfl ?_
  refine x_cVv (as := [_]) dL_twice_2 fX9_twice rfl lk_RL_54 rfl (hp_get (κ := 9) (by decide)) rfl rfl (Nat.le_of_ble_eq_true rfl) (hC) (by simp) (by simp) ?_
  refine x_goto (tgt := 11) dL_twice_5 (by decide) ?_
  refine x_iconst (v := 0) dL_twice_11 (by decide) ?_
  exact x_rI dL_twice_12 rfl rfl rfl rfl (Nat.le_of_ble_eq_true rfl) (Nat.le_of_ble_eq_true rfl)
set_option maxRecDepth 100000 in
set_option maxHeartbeats 400000 in
theorem e_twice_eN {X : XS} {d : Nat} {S : St} {x0 : Int32} (hC : Call X mX9_twice false d [.ref (ad 9 0), .int x0] (hp S) (.inr eN, hp S, 1, 6)) : Call X mL_twice false (d + 1) [.ref (ad 9 0), .int x0] (hp S) (.inl (some (.int 1)), hp S, 1, 6) := by
  refine Call.ofH fL_twice (by decide) (by decide) (by simp [Value.category]) (Nat.le_of_ble_eq_true rfl) (lv := [some (.ref (ad 9 0)), some (.int x0), none]) rfl ?_
  refine x_aload_n dL_twice_0 rfl ?_
  refine x_iload_n dL_twice_1 rfl ?_
  refine x_invVC (as := [_]) dL_twice_2 fX9_twice rfl lk_RL_54 rfl (hp_get (κ := 9) (by decide)) rfl rfl (Nat.le_of_ble_eq_true rfl) (hC) rfl (Nat.le_of_ble_eq_true rfl) (Nat.le_of_ble_eq_true rfl) [] ⟨0, 5, 8, 13⟩ [] rfl (by simp) (by decide) (by decide) wc_13 (by decide) (fun q => ?_)
  refine x_astore_nx (lv' := [_, _, _]) dL_twice_8 (by decide) rfl ?_
  refine x_iconst (v := 1) dL_twice_9 (by decide) ?_
  exact x_rI dL_twice_10 rfl rfl rfl rfl (Nat.le_of_ble_eq_true rfl) (Nat.le_of_ble_eq_true rfl)
set_option maxRecDepth 100000 in
set_option maxHeartbeats 400000 in
theorem e_drop {X : XS} {d : Nat} {S S1 : St} {x0 : Int32} (hC : Call X mX9_drop false d [.ref (ad 9 0), .int x0] (hp S) (.inl none, hp S1, 0, 0)) : Call X mL_drop false (d + 1) [.ref (ad 9 0), .int x0] (hp S) (.inl (some (.int 0)), hp (S1), 1, 6) := by
  refine Call.ofH fL_drop (by decide) (by decide) (by simp [Value.category]) (Nat.le_of_ble_eq_true rfl) (lv := [some (.ref (ad 9 0)), some (.int x0), none]) rfl ?_
  refine x_aload_n dL_drop_0 rfl ?_
  refine x_iload_n dL_drop_1 rfl ?_
  refine x_cVv (as := [_]) dL_drop_2 fX9_drop rfl lk_RL_57 rfl (hp_get (κ := 9) (by decide)) rfl rfl (Nat.le_of_ble_eq_true rfl) (hC) (by simp) (by simp) ?_
  refine x_goto (tgt := 11) dL_drop_5 (by decide) ?_
  refine x_iconst (v := 0) dL_drop_11 (by decide) ?_
  exact x_rI dL_drop_12 rfl rfl rfl rfl (Nat.le_of_ble_eq_true rfl) (Nat.le_of_ble_eq_true rfl)
set_option maxRecDepth 100000 in
set_option maxHeartbeats 400000 in
theorem e_drop_eN {X : XS} {d : Nat} {S : St} {x0 : Int32} (hC : Call X mX9_drop false d [.ref (ad 9 0), .int x0] (hp S) (.inr eN, hp S, 1, 6)) : Call X mL_drop false (d + 1) [.ref (ad 9 0), .int x0] (hp S) (.inl (some (.int 1)), hp S, 1, 6) := by
  refine Call.ofH fL_drop (by decide) (by decide) (by simp [Value.category]) (Nat.le_of_ble_eq_true rfl) (lv := [some (.ref (ad 9 0)), some (.int x0), none]) rfl ?_
  refine x_aload_n dL_drop_0 rfl ?_
  refine x_iload_n dL_drop_1 rfl ?_
  refine x_invVC (as := [_]) dL_drop_2 fX9_drop rfl lk_RL_57 rfl (hp_get (κ := 9) (by decide)) rfl rfl (Nat.le_of_ble_eq_true rfl) (hC) rfl (Nat.le_of_ble_eq_true rfl) (Nat.le_of_ble_eq_true rfl) [] ⟨0, 5, 8, 13⟩ [] rfl (by simp) (by decide) (by decide) wc_13 (by decide) (fun q => ?_)
  refine x_astore_nx (lv' := [_, _, _]) dL_drop_8 (by decide) rfl ?_
  refine x_iconst (v := 1) dL_drop_9 (by decide) ?_
  exact x_rI dL_drop_10 rfl rfl rfl rfl (Nat.le_of_ble_eq_true rfl) (Nat.le_of_ble_eq_true rfl)
set_option maxRecDepth 100000 in
set_option maxHeartbeats 400000 in
theorem e_run {X : XS} {d : Nat} {S S1 : St} {x0 : Int32} {v : Int32} (hC : Call X mX9_run false d [.ref (ad 9 0), .int x0] (hp S) (.inl (some (.int v)), hp S1, 0, 0)) : Call X mL_run false (d + 1) [.ref (ad 9 0), .int x0, .ref (ad 26 0)] (hp S) (.inl (some (.int 0)), hp (so S1 v.toInt64), 1, 6) := by
  refine Call.ofH fL_run (by decide) (by decide) (by simp [Value.category]) (Nat.le_of_ble_eq_true rfl) (lv := [some (.ref (ad 9 0)), some (.int x0), some (.ref (ad 26 0)), none]) rfl ?_
  refine x_aload_n dL_run_0 rfl ?_
  refine x_iconst (v := 0) dL_run_1 (by decide) ?_
  refine x_aload_n dL_run_2 rfl ?_
  refine x_iload_n dL_run_3 rfl ?_
  refine x_cV (as := [_]) dL_run_4 fX9_run rfl lk_RL_60 rfl (hp_get (κ := 9) (by decide)) rfl rfl (Nat.le_of_ble_eq_true rfl) (hC) (by simp) (by simp) ?_
  refine x_i2l dL_run_7 ?_
  refine x_lastO dL_run_8 ?_
  refine x_goto (tgt := 15) dL_run_9 (by decide) ?_
  refine x_iconst (v := 0) dL_run_15 (by decide) ?_
  exact x_rI dL_run_16 rfl rfl rfl rfl (Nat.le_of_ble_eq_true rfl) (Nat.le_of_ble_eq_true rfl)
set_option maxRecDepth 100000 in
set_option maxHeartbeats 400000 in
theorem e_run_eA {X : XS} {d : Nat} {S : St} {x0 : Int32} (hC : Call X mX9_run false d [.ref (ad 9 0), .int x0] (hp S) (.inr eA, hp S, 1, 6)) : Call X mL_run false (d + 1) [.ref (ad 9 0), .int x0, .ref (ad 26 0)] (hp S) (.inl (some (.int 1)), hp S, 1, 6) := by
  refine Call.ofH fL_run (by decide) (by decide) (by simp [Value.category]) (Nat.le_of_ble_eq_true rfl) (lv := [some (.ref (ad 9 0)), some (.int x0), some (.ref (ad 26 0)), none]) rfl ?_
  refine x_aload_n dL_run_0 rfl ?_
  refine x_iconst (v := 0) dL_run_1 (by decide) ?_
  refine x_aload_n dL_run_2 rfl ?_
  refine x_iload_n dL_run_3 rfl ?_
  refine x_invVC (as := [_]) dL_run_4 fX9_run rfl lk_RL_60 rfl (hp_get (κ := 9) (by decide)) rfl rfl (Nat.le_of_ble_eq_true rfl) (hC) rfl (Nat.le_of_ble_eq_true rfl) (Nat.le_of_ble_eq_true rfl) [] ⟨0, 9, 12, 15⟩ [] rfl (by simp) (by decide) (by decide) wc_15 (by decide) (fun q => ?_)
  refine x_astore_nx (lv' := [_, _, _, _]) dL_run_12 (by decide) rfl ?_
  refine x_iconst (v := 1) dL_run_13 (by decide) ?_
  exact x_rI dL_run_14 rfl rfl rfl rfl (Nat.le_of_ble_eq_true rfl) (Nat.le_of_ble_eq_true rfl)
set_option maxRecDepth 100000 in
set_option maxHeartbeats 400000 in
theorem e_server {X : XS} {d : Nat} {S S1 : St} {x0 x1 : Int32} {v : Int32} (hC : Call X mX9_server false d [.ref (ad 9 0), .int x0, .int x1] (hp S) (.inl (some (.int v)), hp S1, 0, 0)) : Call X mL_server false (d + 1) [.ref (ad 9 0), .int x0, .int x1, .ref (ad 26 0)] (hp S) (.inl (some (.int 0)), hp (so S1 v.toInt64), 1, 6) := by
  refine Call.ofH fL_server (by decide) (by decide) (by simp [Value.category]) (Nat.le_of_ble_eq_true rfl) (lv := [some (.ref (ad 9 0)), some (.int x0), some (.int x1), some (.ref (ad 26 0)), none]) rfl ?_
  refine x_aload_n dL_server_0 rfl ?_
  refine x_iconst (v := 0) dL_server_1 (by decide) ?_
  refine x_aload_n dL_server_2 rfl ?_
  refine x_iload_n dL_server_3 rfl ?_
  refine x_iload_n dL_server_4 rfl ?_
  refine x_cV (as := [_, _]) dL_server_5 fX9_server rfl lk_RL_64 rfl (hp_get (κ := 9) (by decide)) rfl rfl (Nat.le_of_ble_eq_true rfl) (hC) (by simp) (by simp) ?_
  refine x_i2l dL_server_8 ?_
  refine x_lastO dL_server_9 ?_
  refine x_goto (tgt := 21) dL_server_10 (by decide) ?_
  refine x_iconst (v := 0) dL_server_21 (by decide) ?_
  exact x_rI dL_server_22 rfl rfl rfl rfl (Nat.le_of_ble_eq_true rfl) (Nat.le_of_ble_eq_true rfl)
set_option maxRecDepth 100000 in
set_option maxHeartbeats 400000 in
theorem e_server_eN {X : XS} {d : Nat} {S : St} {x0 x1 : Int32} (hC : Call X mX9_server false d [.ref (ad 9 0), .int x0, .int x1] (hp S) (.inr eN, hp S, 1, 6)) : Call X mL_server false (d + 1) [.ref (ad 9 0), .int x0, .int x1, .ref (ad 26 0)] (hp S) (.inl (some (.int 1)), hp S, 1, 6) := by
  refine Call.ofH fL_server (by decide) (by decide) (by simp [Value.category]) (Nat.le_of_ble_eq_true rfl) (lv := [some (.ref (ad 9 0)), some (.int x0), some (.int x1), some (.ref (ad 26 0)), none]) rfl ?_
  refine x_aload_n dL_server_0 rfl ?_
  refine x_iconst (v := 0) dL_server_1 (by decide) ?_
  refine x_aload_n dL_server_2 rfl ?_
  refine x_iload_n dL_server_3 rfl ?_
  refine x_iload_n dL_server_4 rfl ?_
  refine x_invVC (as := [_, _]) dL_server_5 fX9_server rfl lk_RL_64 rfl (hp_get (κ := 9) (by decide)) rfl rfl (Nat.le_of_ble_eq_true rfl) (hC) rfl (Nat.le_of_ble_eq_true rfl) (Nat.le_of_ble_eq_true rfl) [] ⟨0, 10, 13, 13⟩ [⟨0, 10, 17, 48⟩] rfl (by simp) (by decide) (by decide) wc_13 (by decide) (fun q => ?_)
  refine x_astorex (lv' := [_, _, _, _, _]) dL_server_13 (by decide) rfl ?_
  refine x_iconst (v := 1) dL_server_15 (by decide) ?_
  exact x_rI dL_server_16 rfl rfl rfl rfl (Nat.le_of_ble_eq_true rfl) (Nat.le_of_ble_eq_true rfl)
set_option maxRecDepth 100000 in
set_option maxHeartbeats 400000 in
theorem e_server_eI {X : XS} {d : Nat} {S : St} {x0 x1 : Int32} (hC : Call X mX9_server false d [.ref (ad 9 0), .int x0, .int x1] (hp S) (.inr eI, hp S, 1, 6)) : Call X mL_server false (d + 1) [.ref (ad 9 0), .int x0, .int x1, .ref (ad 26 0)] (hp S) (.inl (some (.int 2)), hp S, 1, 6) := by
  refine Call.ofH fL_server (by decide) (by decide) (by simp [Value.category]) (Nat.le_of_ble_eq_true rfl) (lv := [some (.ref (ad 9 0)), some (.int x0), some (.int x1), some (.ref (ad 26 0)), none]) rfl ?_
  refine x_aload_n dL_server_0 rfl ?_
  refine x_iconst (v := 0) dL_server_1 (by decide) ?_
  refine x_aload_n dL_server_2 rfl ?_
  refine x_iload_n dL_server_3 rfl ?_
  refine x_iload_n dL_server_4 rfl ?_
  refine x_invVC (as := [_, _]) dL_server_5 fX9_server rfl lk_RL_64 rfl (hp_get (κ := 9) (by decide)) rfl rfl (Nat.le_of_ble_eq_true rfl) (hC) rfl (Nat.le_of_ble_eq_true rfl) (Nat.le_of_ble_eq_true rfl) [⟨0, 10, 13, 13⟩] ⟨0, 10, 17, 48⟩ [] rfl (by
    intro z hz
    simp only [List.mem_cons, List.not_mem_nil, or_false] at hz
    subst hz
    exact Or.inr ⟨by decide, _, wc_13, by decide⟩) (by decide) (by decide) wc_48 (by decide) (fun q => ?_)
  refine x_astorex (lv' := [_, _, _, _, _]) dL_server_17 (by decide) rfl ?_
  refine x_iconst (v := 2) dL_server_19 (by decide) ?_
  exact x_rI dL_server_20 rfl rfl rfl rfl (Nat.le_of_ble_eq_true rfl) (Nat.le_of_ble_eq_true rfl)
set_option maxRecDepth 100000 in
set_option maxHeartbeats 400000 in
theorem e_waiting {X : XS} {d : Nat} {S S1 : St} {x0 x1 : Int32} {v : Int32} (hC : Call X mX9_waiting false d [.ref (ad 9 0), .int x0, .int x1] (hp S) (.inl (some (.int v)), hp S1, 0, 0)) : Call X mL_waiting false (d + 1) [.ref (ad 9 0), .int x0, .int x1, .ref (ad 26 0)] (hp S) (.inl (some (.int 0)), hp (so S1 v.toInt64), 1, 6) := by
  refine Call.ofH fL_waiting (by decide) (by decide) (by simp [Value.category]) (Nat.le_of_ble_eq_true rfl) (lv := [some (.ref (ad 9 0)), some (.int x0), some (.int x1), some (.ref (ad 26 0)), none]) rfl ?_
  refine x_aload_n dL_waiting_0 rfl ?_
  refine x_iconst (v := 0) dL_waiting_1 (by decide) ?_
  refine x_aload_n dL_waiting_2 rfl ?_
  refine x_iload_n dL_waiting_3 rfl ?_
  refine x_iload_n dL_waiting_4 rfl ?_
  refine x_cV (as := [_, _]) dL_waiting_5 fX9_waiting rfl lk_RL_67 rfl (hp_get (κ := 9) (by decide)) rfl rfl (Nat.le_of_ble_eq_true rfl) (hC) (by simp) (by simp) ?_
  refine x_i2l dL_waiting_8 ?_
  refine x_lastO dL_waiting_9 ?_
  refine x_goto (tgt := 21) dL_waiting_10 (by decide) ?_
  refine x_iconst (v := 0) dL_waiting_21 (by decide) ?_
  exact x_rI dL_waiting_22 rfl rfl rfl rfl (Nat.le_of_ble_eq_true rfl) (Nat.le_of_ble_eq_true rfl)
set_option maxRecDepth 100000 in
set_option maxHeartbeats 400000 in
theorem e_waiting_eN {X : XS} {d : Nat} {S : St} {x0 x1 : Int32} (hC : Call X mX9_waiting false d [.ref (ad 9 0), .int x0, .int x1] (hp S) (.inr eN, hp S, 1, 6)) : Call X mL_waiting false (d + 1) [.ref (ad 9 0), .int x0, .int x1, .ref (ad 26 0)] (hp S) (.inl (some (.int 1)), hp S, 1, 6) := by
  refine Call.ofH fL_waiting (by decide) (by decide) (by simp [Value.category]) (Nat.le_of_ble_eq_true rfl) (lv := [some (.ref (ad 9 0)), some (.int x0), some (.int x1), some (.ref (ad 26 0)), none]) rfl ?_
  refine x_aload_n dL_waiting_0 rfl ?_
  refine x_iconst (v := 0) dL_waiting_1 (by decide) ?_
  refine x_aload_n dL_waiting_2 rfl ?_
  refine x_iload_n dL_waiting_3 rfl ?_
  refine x_iload_n dL_waiting_4 rfl ?_
  refine x_invVC (as := [_, _]) dL_waiting_5 fX9_waiting rfl lk_RL_67 rfl (hp_get (κ := 9) (by decide)) rfl rfl (Nat.le_of_ble_eq_true rfl) (hC) rfl (Nat.le_of_ble_eq_true rfl) (Nat.le_of_ble_eq_true rfl) [] ⟨0, 10, 13, 13⟩ [⟨0, 10, 17, 48⟩] rfl (by simp) (by decide) (by decide) wc_13 (by decide) (fun q => ?_)
  refine x_astorex (lv' := [_, _, _, _, _]) dL_waiting_13 (by decide) rfl ?_
  refine x_iconst (v := 1) dL_waiting_15 (by decide) ?_
  exact x_rI dL_waiting_16 rfl rfl rfl rfl (Nat.le_of_ble_eq_true rfl) (Nat.le_of_ble_eq_true rfl)
set_option maxRecDepth 100000 in
set_option maxHeartbeats 400000 in
theorem e_waiting_eI {X : XS} {d : Nat} {S : St} {x0 x1 : Int32} (hC : Call X mX9_waiting false d [.ref (ad 9 0), .int x0, .int x1] (hp S) (.inr eI, hp S, 1, 6)) : Call X mL_waiting false (d + 1) [.ref (ad 9 0), .int x0, .int x1, .ref (ad 26 0)] (hp S) (.inl (some (.int 2)), hp S, 1, 6) := by
  refine Call.ofH fL_waiting (by decide) (by decide) (by simp [Value.category]) (Nat.le_of_ble_eq_true rfl) (lv := [some (.ref (ad 9 0)), some (.int x0), some (.int x1), some (.ref (ad 26 0)), none]) rfl ?_
  refine x_aload_n dL_waiting_0 rfl ?_
  refine x_iconst (v := 0) dL_waiting_1 (by decide) ?_
  refine x_aload_n dL_waiting_2 rfl ?_
  refine x_iload_n dL_waiting_3 rfl ?_
  refine x_iload_n dL_waiting_4 rfl ?_
  refine x_invVC (as := [_, _]) dL_waiting_5 fX9_waiting rfl lk_RL_67 rfl (hp_get (κ := 9) (by decide)) rfl rfl (Nat.le_of_ble_eq_true rfl) (hC) rfl (Nat.le_of_ble_eq_true rfl) (Nat.le_of_ble_eq_true rfl) [⟨0, 10, 13, 13⟩] ⟨0, 10, 17, 48⟩ [] rfl (by
    intro z hz
    simp only [List.mem_cons, List.not_mem_nil, or_false] at hz
    subst hz
    exact Or.inr ⟨by decide, _, wc_13, by decide⟩) (by decide) (by decide) wc_48 (by decide) (fun q => ?_)
  refine x_astorex (lv' := [_, _, _, _, _]) dL_waiting_17 (by decide) rfl ?_
  refine x_iconst (v := 2) dL_waiting_19 (by decide) ?_
  exact x_rI dL_waiting_20 rfl rfl rfl rfl (Nat.le_of_ble_eq_true rfl) (Nat.le_of_ble_eq_true rfl)
set_option maxRecDepth 100000 in
set_option maxHeartbeats 400000 in
theorem e_relay {X : XS} {d : Nat} {S S1 : St} {x0 x1 : Int32} {v : Int32} (hC : Call X mX9_relay false d [.ref (ad 9 0), .int x0, .int x1] (hp S) (.inl (some (.int v)), hp S1, 0, 0)) : Call X mL_relay false (d + 1) [.ref (ad 9 0), .int x0, .int x1, .ref (ad 26 0)] (hp S) (.inl (some (.int 0)), hp (so S1 v.toInt64), 1, 6) := by
  refine Call.ofH fL_relay (by decide) (by decide) (by simp [Value.category]) (Nat.le_of_ble_eq_true rfl) (lv := [some (.ref (ad 9 0)), some (.int x0), some (.int x1), some (.ref (ad 26 0)), none]) rfl ?_
  refine x_aload_n dL_relay_0 rfl ?_
  refine x_iconst (v := 0) dL_relay_1 (by decide) ?_
  refine x_aload_n dL_relay_2 rfl ?_
  refine x_iload_n dL_relay_3 rfl ?_
  refine x_iload_n dL_relay_4 rfl ?_
  refine x_cV (as := [_, _]) dL_relay_5 fX9_relay rfl lk_RL_70 rfl (hp_get (κ := 9) (by decide)) rfl rfl (Nat.le_of_ble_eq_true rfl) (hC) (by simp) (by simp) ?_
  refine x_i2l dL_relay_8 ?_
  refine x_lastO dL_relay_9 ?_
  refine x_goto (tgt := 21) dL_relay_10 (by decide) ?_
  refine x_iconst (v := 0) dL_relay_21 (by decide) ?_
  exact x_rI dL_relay_22 rfl rfl rfl rfl (Nat.le_of_ble_eq_true rfl) (Nat.le_of_ble_eq_true rfl)
set_option maxRecDepth 100000 in
set_option maxHeartbeats 400000 in
theorem e_relay_eN {X : XS} {d : Nat} {S : St} {x0 x1 : Int32} (hC : Call X mX9_relay false d [.ref (ad 9 0), .int x0, .int x1] (hp S) (.inr eN, hp S, 1, 6)) : Call X mL_relay false (d + 1) [.ref (ad 9 0), .int x0, .int x1, .ref (ad 26 0)] (hp S) (.inl (some (.int 1)), hp S, 1, 6) := by
  refine Call.ofH fL_relay (by decide) (by decide) (by simp [Value.category]) (Nat.le_of_ble_eq_true rfl) (lv := [some (.ref (ad 9 0)), some (.int x0), some (.int x1), some (.ref (ad 26 0)), none]) rfl ?_
  refine x_aload_n dL_relay_0 rfl ?_
  refine x_iconst (v := 0) dL_relay_1 (by decide) ?_
  refine x_aload_n dL_relay_2 rfl ?_
  refine x_iload_n dL_relay_3 rfl ?_
  refine x_iload_n dL_relay_4 rfl ?_
  refine x_invVC (as := [_, _]) dL_relay_5 fX9_relay rfl lk_RL_70 rfl (hp_get (κ := 9) (by decide)) rfl rfl (Nat.le_of_ble_eq_true rfl) (hC) rfl (Nat.le_of_ble_eq_true rfl) (Nat.le_of_ble_eq_true rfl) [] ⟨0, 10, 13, 13⟩ [⟨0, 10, 17, 48⟩] rfl (by simp) (by decide) (by decide) wc_13 (by decide) (fun q => ?_)
  refine x_astorex (lv' := [_, _, _, _, _]) dL_relay_13 (by decide) rfl ?_
  refine x_iconst (v := 1) dL_relay_15 (by decide) ?_
  exact x_rI dL_relay_16 rfl rfl rfl rfl (Nat.le_of_ble_eq_true rfl) (Nat.le_of_ble_eq_true rfl)
set_option maxRecDepth 100000 in
set_option maxHeartbeats 400000 in
theorem e_relay_eI {X : XS} {d : Nat} {S : St} {x0 x1 : Int32} (hC : Call X mX9_relay false d [.ref (ad 9 0), .int x0, .int x1] (hp S) (.inr eI, hp S, 1, 6)) : Call X mL_relay false (d + 1) [.ref (ad 9 0), .int x0, .int x1, .ref (ad 26 0)] (hp S) (.inl (some (.int 2)), hp S, 1, 6) := by
  refine Call.ofH fL_relay (by decide) (by decide) (by simp [Value.category]) (Nat.le_of_ble_eq_true rfl) (lv := [some (.ref (ad 9 0)), some (.int x0), some (.int x1), some (.ref (ad 26 0)), none]) rfl ?_
  refine x_aload_n dL_relay_0 rfl ?_
  refine x_iconst (v := 0) dL_relay_1 (by decide) ?_
  refine x_aload_n dL_relay_2 rfl ?_
  refine x_iload_n dL_relay_3 rfl ?_
  refine x_iload_n dL_relay_4 rfl ?_
  refine x_invVC (as := [_, _]) dL_relay_5 fX9_relay rfl lk_RL_70 rfl (hp_get (κ := 9) (by decide)) rfl rfl (Nat.le_of_ble_eq_true rfl) (hC) rfl (Nat.le_of_ble_eq_true rfl) (Nat.le_of_ble_eq_true rfl) [⟨0, 10, 13, 13⟩] ⟨0, 10, 17, 48⟩ [] rfl (by
    intro z hz
    simp only [List.mem_cons, List.not_mem_nil, or_false] at hz
    subst hz
    exact Or.inr ⟨by decide, _, wc_13, by decide⟩) (by decide) (by decide) wc_48 (by decide) (fun q => ?_)
  refine x_astorex (lv' := [_, _, _, _, _]) dL_relay_17 (by decide) rfl ?_
  refine x_iconst (v := 2) dL_relay_19 (by decide) ?_
  exact x_rI dL_relay_20 rfl rfl rfl rfl (Nat.le_of_ble_eq_true rfl) (Nat.le_of_ble_eq_true rfl)
set_option maxRecDepth 100000 in
set_option maxHeartbeats 400000 in
theorem e_about {X : XS} {d : Nat} {S S1 : St} {x0 x1 x2 : Int32} {v : Int32} (hC : Call X mX9_about false d [.ref (ad 9 0), .int x0, .int x1, .int x2] (hp S) (.inl (some (.int v)), hp S1, 0, 0)) : Call X mL_about false (d + 1) [.ref (ad 9 0), .int x0, .int x1, .int x2, .ref (ad 26 0)] (hp S) (.inl (some (.int 0)), hp (so S1 v.toInt64), 1, 6) := by
  refine Call.ofH fL_about (by decide) (by decide) (by simp [Value.category]) (Nat.le_of_ble_eq_true rfl) (lv := [some (.ref (ad 9 0)), some (.int x0), some (.int x1), some (.int x2), some (.ref (ad 26 0)), none]) rfl ?_
  refine x_aload dL_about_0 rfl ?_
  refine x_iconst (v := 0) dL_about_2 (by decide) ?_
  refine x_aload_n dL_about_3 rfl ?_
  refine x_iload_n dL_about_4 rfl ?_
  refine x_iload_n dL_about_5 rfl ?_
  refine x_iload_n dL_about_6 rfl ?_
  refine x_cV (as := [_, _, _]) dL_about_7 fX9_about rfl lk_RL_73 rfl (hp_get (κ := 9) (by decide)) rfl rfl (Nat.le_of_ble_eq_true rfl) (hC) (by simp) (by simp) ?_
  refine x_i2l dL_about_10 ?_
  refine x_lastO dL_about_11 ?_
  refine x_goto (tgt := 23) dL_about_12 (by decide) ?_
  refine x_iconst (v := 0) dL_about_23 (by decide) ?_
  exact x_rI dL_about_24 rfl rfl rfl rfl (Nat.le_of_ble_eq_true rfl) (Nat.le_of_ble_eq_true rfl)
set_option maxRecDepth 100000 in
set_option maxHeartbeats 400000 in
theorem e_about_eN {X : XS} {d : Nat} {S : St} {x0 x1 x2 : Int32} (hC : Call X mX9_about false d [.ref (ad 9 0), .int x0, .int x1, .int x2] (hp S) (.inr eN, hp S, 1, 6)) : Call X mL_about false (d + 1) [.ref (ad 9 0), .int x0, .int x1, .int x2, .ref (ad 26 0)] (hp S) (.inl (some (.int 1)), hp S, 1, 6) := by
  refine Call.ofH fL_about (by decide) (by decide) (by simp [Value.category]) (Nat.le_of_ble_eq_true rfl) (lv := [some (.ref (ad 9 0)), some (.int x0), some (.int x1), some (.int x2), some (.ref (ad 26 0)), none]) rfl ?_
  refine x_aload dL_about_0 rfl ?_
  refine x_iconst (v := 0) dL_about_2 (by decide) ?_
  refine x_aload_n dL_about_3 rfl ?_
  refine x_iload_n dL_about_4 rfl ?_
  refine x_iload_n dL_about_5 rfl ?_
  refine x_iload_n dL_about_6 rfl ?_
  refine x_invVC (as := [_, _, _]) dL_about_7 fX9_about rfl lk_RL_73 rfl (hp_get (κ := 9) (by decide)) rfl rfl (Nat.le_of_ble_eq_true rfl) (hC) rfl (Nat.le_of_ble_eq_true rfl) (Nat.le_of_ble_eq_true rfl) [] ⟨0, 12, 15, 13⟩ [⟨0, 12, 19, 48⟩] rfl (by simp) (by decide) (by decide) wc_13 (by decide) (fun q => ?_)
  refine x_astorex (lv' := [_, _, _, _, _, _]) dL_about_15 (by decide) rfl ?_
  refine x_iconst (v := 1) dL_about_17 (by decide) ?_
  exact x_rI dL_about_18 rfl rfl rfl rfl (Nat.le_of_ble_eq_true rfl) (Nat.le_of_ble_eq_true rfl)
set_option maxRecDepth 100000 in
set_option maxHeartbeats 400000 in
theorem e_about_eI {X : XS} {d : Nat} {S : St} {x0 x1 x2 : Int32} (hC : Call X mX9_about false d [.ref (ad 9 0), .int x0, .int x1, .int x2] (hp S) (.inr eI, hp S, 1, 6)) : Call X mL_about false (d + 1) [.ref (ad 9 0), .int x0, .int x1, .int x2, .ref (ad 26 0)] (hp S) (.inl (some (.int 2)), hp S, 1, 6) := by
  refine Call.ofH fL_about (by decide) (by decide) (by simp [Value.category]) (Nat.le_of_ble_eq_true rfl) (lv := [some (.ref (ad 9 0)), some (.int x0), some (.int x1), some (.int x2), some (.ref (ad 26 0)), none]) rfl ?_
  refine x_aload dL_about_0 rfl ?_
  refine x_iconst (v := 0) dL_about_2 (by decide) ?_
  refine x_aload_n dL_about_3 rfl ?_
  refine x_iload_n dL_about_4 rfl ?_
  refine x_iload_n dL_about_5 rfl ?_
  refine x_iload_n dL_about_6 rfl ?_
  refine x_invVC (as := [_, _, _]) dL_about_7 fX9_about rfl lk_RL_73 rfl (hp_get (κ := 9) (by decide)) rfl rfl (Nat.le_of_ble_eq_true rfl) (hC) rfl (Nat.le_of_ble_eq_true rfl) (Nat.le_of_ble_eq_true rfl) [⟨0, 12, 15, 13⟩] ⟨0, 12, 19, 48⟩ [] rfl (by
    intro z hz
    simp only [List.mem_cons, List.not_mem_nil, or_false] at hz
    subst hz
    exact Or.inr ⟨by decide, _, wc_13, by decide⟩) (by decide) (by decide) wc_48 (by decide) (fun q => ?_)
  refine x_astorex (lv' := [_, _, _, _, _, _]) dL_about_19 (by decide) rfl ?_
  refine x_iconst (v := 2) dL_about_21 (by decide) ?_
  exact x_rI dL_about_22 rfl rfl rfl rfl (Nat.le_of_ble_eq_true rfl) (Nat.le_of_ble_eq_true rfl)
