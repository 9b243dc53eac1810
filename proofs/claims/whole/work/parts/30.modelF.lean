theorem wi_in {g N : Nat} {z : Int32} (h : g ≤ N) (hN : N < 2 ^ 31) (e : nI N = z) : wi (nI g) 0 z = true := by
  unfold wi
  exact decide_eq_true ⟨nI_pos (by omega), by rw [← e]; exact nI_le h hN⟩
theorem isM_in {g m : Nat} (hg : g < 3) (hm : m < 6) : isM (nI g) (nI m) = true := by
  unfold isM
  rw [show wi (nI g) 0 2 = true from wi_in (N := 2) (by omega) (by decide) rfl, show wi (nI m) 0 5 = true from wi_in (N := 5) (by omega) (by decide) rfl]
  rfl
def ml_rules (S : St) (g : Nat) (p : Bool) (a b c : Int32) : St := sm (sm (sm (sm (sm S 0 0 0) 26 g (bI p)) 27 g a) 28 g b) 29 g c
set_option maxRecDepth 100000 in
set_option maxHeartbeats 400000 in
theorem j_rules {X : XS} {d : Nat} {S : St} {g : Nat} {p : Bool} {a b c : Int32} (hg : g < 3) (h0 : wi (nI g) 0 2 = true) (h1 : wi a 1 100 = true) (h2 : wi b 1 50 = true) (h3 : wi c 0 20 = true) : Call X mX10_rules false (d + 1) [.ref (ad 10 0), .int (nI g), .int (bI p), .int a, .int b, .int c] (hp S) (.inl none, hp (ml_rules S g p a b c), 0, 0) := by
  refine Call.of fX10_rules (by decide) rfl (by simp [Value.category]) (Nat.le_of_ble_eq_true rfl) (lv := [some (.ref (ad 10 0)), some (.int (nI g)), some (.int (bI p)), some (.int a), some (.int b), some (.int c)]) rfl ?_
  refine x_aload_n dX10_rules_0 rfl ?_
  refine x_iload_n dX10_rules_1 rfl ?_
  refine x_iconst (v := 0) dX10_rules_2 (by decide) ?_
  refine x_iconst (v := 2) dX10_rules_3 (by decide) ?_
  refine x_cS (as := [_, _, _]) dX10_rules_4 fX10_within rfl lk_RX10_150 rfl (Nat.le_of_ble_eq_true rfl) (c_within _ _ _) (by simp) (by simp) ?_
  refine x_if_neB (tgt := 14) dX10_rules_7 (by decide) (fun hc7 => ?_) (fun hc7 => by first | exact absurd (by simp [h0]) hc7 | exact absurd hc7 (by simp [h0]))
  refine x_iload_n dX10_rules_14 rfl ?_
  refine x_iconst (v := 1) dX10_rules_15 (by decide) ?_
  refine x_bipush (v := 100) dX10_rules_16 (by decide) ?_
  refine x_cS (as := [_, _, _]) dX10_rules_18 fX10_within rfl lk_RX10_150 rfl (Nat.le_of_ble_eq_true rfl) (c_within _ _ _) (by simp) (by simp) ?_
  refine x_if_eqB (tgt := 46) dX10_rules_21 (by decide) (fun hc21 => by first | exact absurd hc21 (by simp [h1]) | exact absurd (by simp [h1]) hc21) (fun hc21 => ?_)
  refine x_iload dX10_rules_24 rfl ?_
  refine x_iconst (v := 1) dX10_rules_26 (by decide) ?_
  refine x_bipush (v := 50) dX10_rules_27 (by decide) ?_
  refine x_cS (as := [_, _, _]) dX10_rules_29 fX10_within rfl lk_RX10_150 rfl (Nat.le_of_ble_eq_true rfl) (c_within _ _ _) (by simp) (by simp) ?_
  refine x_if_eqB (tgt := 46) dX10_rules_32 (by decide) (fun hc32 => by first | exact absurd hc32 (by simp [h2]) | exact absurd (by simp [h2]) hc32) (fun hc32 => ?_)
  refine x_iload dX10_rules_35 rfl ?_
  refine x_iconst (v := 0) dX10_rules_37 (by decide) ?_
  refine x_bipush (v := 20) dX10_rules_38 (by decide) ?_
  refine x_cS (as := [_, _, _]) dX10_rules_40 fX10_within rfl lk_RX10_150 rfl (Nat.le_of_ble_eq_true rfl) (c_within _ _ _) (by simp) (by simp) ?_
  refine x_if_neB (tgt := 50) dX10_rules_43 (by decide) (fun hc43 => ?_) (fun hc43 => by first | exact absurd (by simp [h3]) hc43 | exact absurd hc43 (by simp [h3]))
  refine x_iconst (v := 0) dX10_rules_50 (by decide) ?_
  refine x_putM dX10_rules_51 fp_RX10_146 pm_0 ?_
  refine x_aload_n dX10_rules_54 rfl ?_
  refine x_get dX10_rules_55 fl_RX10_146 (hp_get (κ := 10) (by decide)) rfl ?_
  refine x_eqi (y := 0) rfl ?_
  refine x_if_ne (tgt := 91) dX10_rules_58 (by decide) (fun hc58 => by first | exact absurd hc58 (by decide) | exact absurd (by decide) hc58) (fun hc58 => ?_)
  refine x_aload_n dX10_rules_61 rfl ?_
  refine x_get dX10_rules_62 fl_RX10_77 (hp_get (κ := 10) (by decide)) rfl ?_
  refine x_iload_n dX10_rules_65 rfl ?_
  refine x_iload_n dX10_rules_66 rfl ?_
  refine y_zastM (f := 26) (κ := 56) dX10_rules_67 am_26 rfl (by first | omega | exact sl16_lt _ | assumption) (by decide) (bI_nar p) ?_
  refine x_aload_n dX10_rules_68 rfl ?_
  refine x_get dX10_rules_69 fl_RX10_80 (hp_get (κ := 10) (by decide)) rfl ?_
  refine x_iload_n dX10_rules_72 rfl ?_
  refine x_iload_n dX10_rules_73 rfl ?_
  refine y_iastM (f := 27) (κ := 57) dX10_rules_74 am_27 rfl (by first | omega | exact sl16_lt _ | assumption) (by decide) ?_
  refine x_aload_n dX10_rules_75 rfl ?_
  refine x_get dX10_rules_76 fl_RX10_83 (hp_get (κ := 10) (by decide)) rfl ?_
  refine x_iload_n dX10_rules_79 rfl ?_
  refine x_iload dX10_rules_80 rfl ?_
  refine y_iastM (f := 28) (κ := 58) dX10_rules_82 am_28 rfl (by first | omega | exact sl16_lt _ | assumption) (by decide) ?_
  refine x_aload_n dX10_rules_83 rfl ?_
  refine x_get dX10_rules_84 fl_RX10_86 (hp_get (κ := 10) (by decide)) rfl ?_
  refine x_iload_n dX10_rules_87 rfl ?_
  refine x_iload dX10_rules_88 rfl ?_
  refine y_iastM (f := 29) (κ := 59) dX10_rules_90 am_29 rfl (by first | omega | exact sl16_lt _ | assumption) (by decide) ?_
  exact x_rV dX10_rules_91 rfl rfl rfl (by simp) (by simp)
set_option maxRecDepth 100000 in
set_option maxHeartbeats 400000 in
theorem j_rulesN {X : XS} {d : Nat} {S : St} {x p a b c : Int32} (h0 : wi x 0 2 = false) : Call X mX10_rules false (d + 1) [.ref (ad 10 0), .int x, .int p, .int a, .int b, .int c] (hp S) (.inl none, hp (sm S 0 0 1), 0, 0) := by
  refine Call.of fX10_rules (by decide) rfl (by simp [Value.category]) (Nat.le_of_ble_eq_true rfl) (lv := [some (.ref (ad 10 0)), some (.int x), some (.int p), some (.int a), some (.int b), some (.int c)]) rfl ?_
  refine x_aload_n dX10_rules_0 rfl ?_
  refine x_iload_n dX10_rules_1 rfl ?_
  refine x_iconst (v := 0) dX10_rules_2 (by decide) ?_
  refine x_iconst (v := 2) dX10_rules_3 (by decide) ?_
  refine x_cS (as := [_, _, _]) dX10_rules_4 fX10_within rfl lk_RX10_150 rfl (Nat.le_of_ble_eq_true rfl) (c_within _ _ _) (by simp) (by simp) ?_
  refine x_if_neB (tgt := 14) dX10_rules_7 (by decide) (fun hc7 => by first | exact absurd hc7 (by simp [h0]) | exact absurd (by simp [h0]) hc7) (fun hc7 => ?_)
  refine x_iconst (v := 1) dX10_rules_10 (by decide) ?_
  refine x_goto (tgt := 51) dX10_rules_11 (by decide) ?_
  refine x_putM dX10_rules_51 fp_RX10_146 pm_0 ?_
  refine x_aload_n dX10_rules_54 rfl ?_
  refine x_get dX10_rules_55 fl_RX10_146 (hp_get (κ := 10) (by decide)) rfl ?_
  refine x_eqi (y := 1) rfl ?_
  refine x_if_ne (tgt := 91) dX10_rules_58 (by decide) (fun hc58 => ?_) (fun hc58 => by first | exact absurd (by decide) hc58 | exact absurd hc58 (by decide))
  exact x_rV dX10_rules_91 rfl rfl rfl (by simp) (by simp)
set_option maxRecDepth 100000 in
set_option maxHeartbeats 400000 in
theorem j_rulesA {X : XS} {d : Nat} {S : St} {x p a b c : Int32} (h0 : wi x 0 2 = true) (h1 : ¬ (wi a 1 100 = true ∧ wi b 1 50 = true ∧ wi c 0 20 = true)) : Call X mX10_rules false (d + 1) [.ref (ad 10 0), .int x, .int p, .int a, .int b, .int c] (hp S) (.inl none, hp (sm S 0 0 2), 0, 0) := by
  refine Call.of fX10_rules (by decide) rfl (by simp [Value.category]) (Nat.le_of_ble_eq_true rfl) (lv := [some (.ref (ad 10 0)), some (.int x), some (.int p), some (.int a), some (.int b), some (.int c)]) rfl ?_
  refine x_aload_n dX10_rules_0 rfl ?_
  refine x_iload_n dX10_rules_1 rfl ?_
  refine x_iconst (v := 0) dX10_rules_2 (by decide) ?_
  refine x_iconst (v := 2) dX10_rules_3 (by decide) ?_
  refine x_cS (as := [_, _, _]) dX10_rules_4 fX10_within rfl lk_RX10_150 rfl (Nat.le_of_ble_eq_true rfl) (c_within _ _ _) (by simp) (by simp) ?_
  refine x_if_neB (tgt := 14) dX10_rules_7 (by decide) (fun hc7 => ?_) (fun hc7 => by first | exact absurd (by simp [h0]) hc7 | exact absurd hc7 (by simp [h0]))
  refine x_iload_n dX10_rules_14 rfl ?_
  refine x_iconst (v := 1) dX10_rules_15 (by decide) ?_
  refine x_bipush (v := 100) dX10_rules_16 (by decide) ?_
  refine x_cS (as := [_, _, _]) dX10_rules_18 fX10_within rfl lk_RX10_150 rfl (Nat.le_of_ble_eq_true rfl) (c_within _ _ _) (by simp) (by simp) ?_
  refine x_if_eqB (tgt := 46) dX10_rules_21 (by decide) (fun hc21 => ?_) (fun hc21 => ?_)
  · refine x_iconst (v := 2) dX10_rules_46 (by decide) ?_
    refine x_goto (tgt := 51) dX10_rules_47 (by decide) ?_
    refine x_putM dX10_rules_51 fp_RX10_146 pm_0 ?_
    refine x_aload_n dX10_rules_54 rfl ?_
    refine x_get dX10_rules_55 fl_RX10_146 (hp_get (κ := 10) (by decide)) rfl ?_
    refine x_eqi (y := 2) rfl ?_
    refine x_if_ne (tgt := 91) dX10_rules_58 (by decide) (fun hc58 => ?_) (fun hc58 => by first | exact absurd (by decide) hc58 | exact absurd hc58 (by decide))
    exact x_rV dX10_rules_91 rfl rfl rfl (by simp) (by simp)
  · refine x_iload dX10_rules_24 rfl ?_
    refine x_iconst (v := 1) dX10_rules_26 (by decide) ?_
    refine x_bipush (v := 50) dX10_rules_27 (by decide) ?_
    refine x_cS (as := [_, _, _]) dX10_rules_29 fX10_within rfl lk_RX10_150 rfl (Nat.le_of_ble_eq_true rfl) (c_within _ _ _) (by simp) (by simp) ?_
    refine x_if_eqB (tgt := 46) dX10_rules_32 (by decide) (fun hc32 => ?_) (fun hc32 => ?_)
    · refine x_iconst (v := 2) dX10_rules_46 (by decide) ?_
      refine x_goto (tgt := 51) dX10_rules_47 (by decide) ?_
      refine x_putM dX10_rules_51 fp_RX10_146 pm_0 ?_
      refine x_aload_n dX10_rules_54 rfl ?_
      refine x_get dX10_rules_55 fl_RX10_146 (hp_get (κ := 10) (by decide)) rfl ?_
      refine x_eqi (y := 2) rfl ?_
      refine x_if_ne (tgt := 91) dX10_rules_58 (by decide) (fun hc58 => ?_) (fun hc58 => by first | exact absurd (by decide) hc58 | exact absurd hc58 (by decide))
      exact x_rV dX10_rules_91 rfl rfl rfl (by simp) (by simp)
    · refine x_iload dX10_rules_35 rfl ?_
      refine x_iconst (v := 0) dX10_rules_37 (by decide) ?_
      refine x_bipush (v := 20) dX10_rules_38 (by decide) ?_
      refine x_cS (as := [_, _, _]) dX10_rules_40 fX10_within rfl lk_RX10_150 rfl (Nat.le_of_ble_eq_true rfl) (c_within _ _ _) (by simp) (by simp) ?_
      refine x_if_neB (tgt := 50) dX10_rules_43 (by decide) (fun hc43 => ?_) (fun hc43 => ?_)
      · exact absurd ⟨hc21, hc32, hc43⟩ h1
      · refine x_iconst (v := 2) dX10_rules_46 (by decide) ?_
        refine x_goto (tgt := 51) dX10_rules_47 (by decide) ?_
        refine x_putM dX10_rules_51 fp_RX10_146 pm_0 ?_
        refine x_aload_n dX10_rules_54 rfl ?_
        refine x_get dX10_rules_55 fl_RX10_146 (hp_get (κ := 10) (by decide)) rfl ?_
        refine x_eqi (y := 2) rfl ?_
        refine x_if_ne (tgt := 91) dX10_rules_58 (by decide) (fun hc58 => ?_) (fun hc58 => by first | exact absurd (by decide) hc58 | exact absurd hc58 (by decide))
        exact x_rV dX10_rules_91 rfl rfl rfl (by simp) (by simp)
def ml_member (S : St) (i : Nat) (p : Int32) : St := sm (sm (sm S 0 0 0) 5 i 1) 6 i p
set_option maxRecDepth 100000 in
set_option maxHeartbeats 400000 in
theorem j_member {X : XS} {d : Nat} {S : St} {g m : Nat} (hg : g < 3) (hm : m < 6) (hI : isM (nI g) (nI m) = true) {p : Int32} (h1 : wi p 0 7 = true) : Call X mX10_member false (d + 2) [.ref (ad 10 0), .int (nI g), .int (nI m), .int p] (hp S) (.inl none, hp (ml_member S (6 * g + m) p), 0, 0) := by
  refine Call.of fX10_member (by decide) rfl (by simp [Value.category]) (Nat.le_of_ble_eq_true rfl) (lv := [some (.ref (ad 10 0)), some (.int (nI g)), some (.int (nI m)), some (.int p)]) rfl ?_
  refine x_aload_n dX10_member_0 rfl ?_
  refine x_iload_n dX10_member_1 rfl ?_
  refine x_iload_n dX10_member_2 rfl ?_
  refine x_cS (as := [_, _]) dX10_member_3 fX10_isMember rfl lk_RX10_160 rfl (Nat.le_of_ble_eq_true rfl) (c_isMember _ _) (by simp) (by simp) ?_
  refine x_if_neB (tgt := 13) dX10_member_6 (by decide) (fun hc6 => ?_) (fun hc6 => by first | exact absurd (by simp [hI]) hc6 | exact absurd hc6 (by simp [hI]))
  refine x_iload_n dX10_member_13 rfl ?_
  refine x_iconst (v := 0) dX10_member_14 (by decide) ?_
  refine x_bipush (v := 7) dX10_member_15 (by decide) ?_
  refine x_cS (as := [_, _, _]) dX10_member_17 fX10_within rfl lk_RX10_150 rfl (Nat.le_of_ble_eq_true rfl) (c_within _ _ _) (by simp) (by simp) ?_
  refine x_if_neB (tgt := 27) dX10_member_20 (by decide) (fun hc20 => ?_) (fun hc20 => by first | exact absurd (by simp [h1]) hc20 | exact absurd hc20 (by simp [h1]))
  refine x_iconst (v := 0) dX10_member_27 (by decide) ?_
  refine x_putM dX10_member_28 fp_RX10_146 pm_0 ?_
  refine x_aload_n dX10_member_31 rfl ?_
  refine x_get dX10_member_32 fl_RX10_146 (hp_get (κ := 10) (by decide)) rfl ?_
  refine x_eqi (y := 0) rfl ?_
  refine x_if_ne (tgt := 62) dX10_member_35 (by decide) (fun hc35 => by first | exact absurd hc35 (by decide) | exact absurd (by decide) hc35) (fun hc35 => ?_)
  refine x_aload_n dX10_member_38 rfl ?_
  refine x_get dX10_member_39 fl_RX10_13 (hp_get (κ := 10) (by decide)) rfl ?_
  refine x_bipush (v := 6) dX10_member_42 (by decide) ?_
  refine x_iload_n dX10_member_44 rfl ?_
  refine x_imul dX10_member_45 ?_
  refine x_iload_n dX10_member_46 rfl ?_
  refine x_iadd dX10_member_47 ?_
  refine x_eqi (ix6 _ _) ?_
  refine x_iconst (v := 1) dX10_member_48 (by decide) ?_
  refine y_zastM (f := 5) (κ := 35) dX10_member_49 am_5 rfl (by first | omega | exact sl16_lt _ | assumption) (by decide) (by first | decide | exact bI_nar _) ?_
  refine x_aload_n dX10_member_50 rfl ?_
  refine x_get dX10_member_51 fl_RX10_17 (hp_get (κ := 10) (by decide)) rfl ?_
  refine x_bipush (v := 6) dX10_member_54 (by decide) ?_
  refine x_iload_n dX10_member_56 rfl ?_
  refine x_imul dX10_member_57 ?_
  refine x_iload_n dX10_member_58 rfl ?_
  refine x_iadd dX10_member_59 ?_
  refine x_eqi (ix6 _ _) ?_
  refine x_iload_n dX10_member_60 rfl ?_
  refine y_iastM (f := 6) (κ := 36) dX10_member_61 am_6 rfl (by first | omega | exact sl16_lt _ | assumption) (by decide) ?_
  exact x_rV dX10_member_62 rfl rfl rfl (by simp) (by simp)
set_option maxRecDepth 100000 in
set_option maxHeartbeats 400000 in
theorem j_memberN {X : XS} {d : Nat} {S : St} {x y p : Int32} (hI : isM x y = false) : Call X mX10_member false (d + 2) [.ref (ad 10 0), .int x, .int y, .int p] (hp S) (.inl none, hp (sm S 0 0 1), 0, 0) := by
  refine Call.of fX10_member (by decide) rfl (by simp [Value.category]) (Nat.le_of_ble_eq_true rfl) (lv := [some (.ref (ad 10 0)), some (.int x), some (.int y), some (.int p)]) rfl ?_
  refine x_aload_n dX10_member_0 rfl ?_
  refine x_iload_n dX10_member_1 rfl ?_
  refine x_iload_n dX10_member_2 rfl ?_
  refine x_cS (as := [_, _]) dX10_member_3 fX10_isMember rfl lk_RX10_160 rfl (Nat.le_of_ble_eq_true rfl) (c_isMember _ _) (by simp) (by simp) ?_
  refine x_if_neB (tgt := 13) dX10_member_6 (by decide) (fun hc6 => by first | exact absurd hc6 (by simp [hI]) | exact absurd (by simp [hI]) hc6) (fun hc6 => ?_)
  refine x_iconst (v := 1) dX10_member_9 (by decide) ?_
  refine x_goto (tgt := 28) dX10_member_10 (by decide) ?_
  refine x_putM dX10_member_28 fp_RX10_146 pm_0 ?_
  refine x_aload_n dX10_member_31 rfl ?_
  refine x_get dX10_member_32 fl_RX10_146 (hp_get (κ := 10) (by decide)) rfl ?_
  refine x_eqi (y := 1) rfl ?_
  refine x_if_ne (tgt := 62) dX10_member_35 (by decide) (fun hc35 => ?_) (fun hc35 => by first | exact absurd (by decide) hc35 | exact absurd hc35 (by decide))
  exact x_rV dX10_member_62 rfl rfl rfl (by simp) (by simp)
set_option maxRecDepth 100000 in
set_option maxHeartbeats 400000 in
theorem j_memberA {X : XS} {d : Nat} {S : St} {x y p : Int32} (hI : isM x y = true) (h1 : wi p 0 7 = false) : Call X mX10_member false (d + 2) [.ref (ad 10 0), .int x, .int y, .int p] (hp S) (.inl none, hp (sm S 0 0 2), 0, 0) := by
  refine Call.of fX10_member (by decide) rfl (by simp [Value.category]) (Nat.le_of_ble_eq_true rfl) (lv := [some (.ref (ad 10 0)), some (.int x), some (.int y), some (.int p)]) rfl ?_
  refine x_aload_n dX10_member_0 rfl ?_
  refine x_iload_n dX10_member_1 rfl ?_
  refine x_iload_n dX10_member_2 rfl ?_
  refine x_cS (as := [_, _]) dX10_member_3 fX10_isMember rfl lk_RX10_160 rfl (Nat.le_of_ble_eq_true rfl) (c_isMember _ _) (by simp) (by simp) ?_
  refine x_if_neB (tgt := 13) dX10_member_6 (by decide) (fun hc6 => ?_) (fun hc6 => by first | exact absurd (by simp [hI]) hc6 | exact absurd hc6 (by simp [hI]))
  refine x_iload_n dX10_member_13 rfl ?_
  refine x_iconst (v := 0) dX10_member_14 (by decide) ?_
  refine x_bipush (v := 7) dX10_member_15 (by decide) ?_
  refine x_cS (as := [_, _, _]) dX10_member_17 fX10_within rfl lk_RX10_150 rfl (Nat.le_of_ble_eq_true rfl) (c_within _ _ _) (by simp) (by simp) ?_
  refine x_if_neB (tgt := 27) dX10_member_20 (by decide) (fun hc20 => by first | exact absurd hc20 (by simp [h1]) | exact absurd (by simp [h1]) hc20) (fun hc20 => ?_)
  refine x_iconst (v := 2) dX10_member_23 (by decide) ?_
  refine x_goto (tgt := 28) dX10_member_24 (by decide) ?_
  refine x_putM dX10_member_28 fp_RX10_146 pm_0 ?_
  refine x_aload_n dX10_member_31 rfl ?_
  refine x_get dX10_member_32 fl_RX10_146 (hp_get (κ := 10) (by decide)) rfl ?_
  refine x_eqi (y := 2) rfl ?_
  refine x_if_ne (tgt := 62) dX10_member_35 (by decide) (fun hc35 => ?_) (fun hc35 => by first | exact absurd (by decide) hc35 | exact absurd hc35 (by decide))
  exact x_rV dX10_member_62 rfl rfl rfl (by simp) (by simp)
def ml_lv0 (S : St) (i : Nat) : St := sm (sm (sm (sm S 0 0 0) 5 i 0) 7 i 0) 16 i 0
def ml_leave (S : St) (g m : Nat) : St := ml_clear (ml_lv0 S (6 * g + m)) g m
theorem lv0_MI {S : St} {g i : Nat} (h : MI S g) : MI (ml_lv0 S i) g := (((h.sm (by decide) (by decide) (by decide)).sm (by decide) (by decide) (by decide)).sm (by decide) (by decide) (by decide)).sm (by decide) (by decide) (by decide)
set_option maxRecDepth 100000 in
set_option maxHeartbeats 400000 in
theorem j_leave1 {X : XS} {d : Nat} {S : St} {g m : Nat} (hg : g < 3) (hm : m < 6) (hI : isM (nI g) (nI m) = true) (h : MI S g) (h5 : ¬ S.2.2.1 5 (6 * g + m) = 0) : Call X mX10_leave false (d + 5) [.ref (ad 10 0), .int (nI g), .int (nI m)] (hp S) (.inl (some (.int (1))), hp (ml_leave S g m), 0, 0) := by
  refine Call.of fX10_leave (by decide) rfl (by simp [Value.category]) (Nat.le_of_ble_eq_true rfl) (lv := [some (.ref (ad 10 0)), some (.int (nI g)), some (.int (nI m))]) rfl ?_
  refine x_aload_n dX10_leave_0 rfl ?_
  refine x_iload_n dX10_leave_1 rfl ?_
  refine x_iload_n dX10_leave_2 rfl ?_
  refine x_cS (as := [_, _]) dX10_leave_3 fX10_isMember rfl lk_RX10_160 rfl (Nat.le_of_ble_eq_true rfl) (c_isMember _ _) (by simp) (by simp) ?_
  refine x_if_eqB (tgt := 13) dX10_leave_6 (by decide) (fun hc6 => by first | exact absurd hc6 (by simp [hI]) | exact absurd (by simp [hI]) hc6) (fun hc6 => ?_)
  refine x_iconst (v := 0) dX10_leave_9 (by decide) ?_
  refine x_goto (tgt := 14) dX10_leave_10 (by decide) ?_
  refine x_putM dX10_leave_14 fp_RX10_146 pm_0 ?_
  refine x_aload_n dX10_leave_17 rfl ?_
  refine x_get dX10_leave_18 fl_RX10_146 (hp_get (κ := 10) (by decide)) rfl ?_
  refine x_eqi (y := 0) rfl ?_
  refine x_if_gt (tgt := 38) dX10_leave_21 (by decide) (fun hc21 => by first | exact absurd hc21 (by decide) | exact absurd (by decide) hc21) (fun hc21 => ?_)
  refine x_aload_n dX10_leave_24 rfl ?_
  refine x_get dX10_leave_25 fl_RX10_13 (hp_get (κ := 10) (by decide)) rfl ?_
  refine x_bipush (v := 6) dX10_leave_28 (by decide) ?_
  refine x_iload_n dX10_leave_30 rfl ?_
  refine x_imul dX10_leave_31 ?_
  refine x_iload_n dX10_leave_32 rfl ?_
  refine x_iadd dX10_leave_33 ?_
  refine x_eqi (ix6 _ _) ?_
  refine y_zaldM (f := 5) (κ := 35) dX10_leave_34 am_5 rfl (by first | omega | exact sl16_lt _ | assumption) (by decide) ?_
  refine x_if_ne (tgt := 40) dX10_leave_35 (by decide) (fun hc35 => ?_) (fun hc35 => by first | exact absurd h5 hc35 | exact absurd hc35 h5)
  refine x_aload_n dX10_leave_40 rfl ?_
  refine x_get dX10_leave_41 fl_RX10_13 (hp_get (κ := 10) (by decide)) rfl ?_
  refine x_bipush (v := 6) dX10_leave_44 (by decide) ?_
  refine x_iload_n dX10_leave_46 rfl ?_
  refine x_imul dX10_leave_47 ?_
  refine x_iload_n dX10_leave_48 rfl ?_
  refine x_iadd dX10_leave_49 ?_
  refine x_eqi (ix6 _ _) ?_
  refine x_iconst (v := 0) dX10_leave_50 (by decide) ?_
  refine y_zastM (f := 5) (κ := 35) dX10_leave_51 am_5 rfl (by first | omega | exact sl16_lt _ | assumption) (by decide) (by first | decide | exact bI_nar _) ?_
  refine x_aload_n dX10_leave_52 rfl ?_
  refine x_get dX10_leave_53 fl_RX10_20 (hp_get (κ := 10) (by decide)) rfl ?_
  refine x_bipush (v := 6) dX10_leave_56 (by decide) ?_
  refine x_iload_n dX10_leave_58 rfl ?_
  refine x_imul dX10_leave_59 ?_
  refine x_iload_n dX10_leave_60 rfl ?_
  refine x_iadd dX10_leave_61 ?_
  refine x_eqi (ix6 _ _) ?_
  refine x_iconst (v := 0) dX10_leave_62 (by decide) ?_
  refine y_iastM (f := 7) (κ := 37) dX10_leave_63 am_7 rfl (by first | omega | exact sl16_lt _ | assumption) (by decide) ?_
  refine x_aload_n dX10_leave_64 rfl ?_
  refine x_get dX10_leave_65 fl_RX10_47 (hp_get (κ := 10) (by decide)) rfl ?_
  refine x_bipush (v := 6) dX10_leave_68 (by decide) ?_
  refine x_iload_n dX10_leave_70 rfl ?_
  refine x_imul dX10_leave_71 ?_
  refine x_iload_n dX10_leave_72 rfl ?_
  refine x_iadd dX10_leave_73 ?_
  refine x_eqi (ix6 _ _) ?_
  refine x_iconst (v := 0) dX10_leave_74 (by decide) ?_
  refine y_zastM (f := 16) (κ := 46) dX10_leave_75 am_16 rfl (by first | omega | exact sl16_lt _ | assumption) (by decide) (by first | decide | exact bI_nar _) ?_
  refine x_heq (S2 := ml_lv0 S (6 * g + m)) rfl ?_
  refine x_aload_n dX10_leave_76 rfl ?_
  refine x_iload_n dX10_leave_77 rfl ?_
  refine x_iload_n dX10_leave_78 rfl ?_
  refine x_cVv (as := [_, _]) dX10_leave_79 fX10_clear rfl lk_RX10_164 rfl (hp_get (κ := 10) (by decide)) rfl rfl (Nat.le_of_ble_eq_true rfl) (c_mClear hg hm (lv0_MI h)) (by simp) (by simp) ?_
  refine x_iconst (v := 1) dX10_leave_82 (by decide) ?_
  exact x_rI dX10_leave_83 rfl (by first | exact (bI_nf _).1 | decide) rfl rfl (by simp) (by simp)
set_option maxRecDepth 100000 in
set_option maxHeartbeats 400000 in
theorem j_leave0 {X : XS} {d : Nat} {S : St} {g m : Nat} (hg : g < 3) (hm : m < 6) (hI : isM (nI g) (nI m) = true) (h5 : S.2.2.1 5 (6 * g + m) = 0) : Call X mX10_leave false (d + 5) [.ref (ad 10 0), .int (nI g), .int (nI m)] (hp S) (.inl (some (.int (0))), hp (sm S 0 0 0), 0, 0) := by
  refine Call.of fX10_leave (by decide) rfl (by simp [Value.category]) (Nat.le_of_ble_eq_true rfl) (lv := [some (.ref (ad 10 0)), some (.int (nI g)), some (.int (nI m))]) rfl ?_
  refine x_aload_n dX10_leave_0 rfl ?_
  refine x_iload_n dX10_leave_1 rfl ?_
  refine x_iload_n dX10_leave_2 rfl ?_
  refine x_cS (as := [_, _]) dX10_leave_3 fX10_isMember rfl lk_RX10_160 rfl (Nat.le_of_ble_eq_true rfl) (c_isMember _ _) (by simp) (by simp) ?_
  refine x_if_eqB (tgt := 13) dX10_leave_6 (by decide) (fun hc6 => by first | exact absurd hc6 (by simp [hI]) | exact absurd (by simp [hI]) hc6) (fun hc6 => ?_)
  refine x_iconst (v := 0) dX10_leave_9 (by decide) ?_
  refine x_goto (tgt := 14) dX10_leave_10 (by decide) ?_
  refine x_putM dX10_leave_14 fp_RX10_146 pm_0 ?_
  refine x_aload_n dX10_leave_17 rfl ?_
  refine x_get dX10_leave_18 fl_RX10_146 (hp_get (κ := 10) (by decide)) rfl ?_
  refine x_eqi (y := 0) rfl ?_
  refine x_if_gt (tgt := 38) dX10_leave_21 (by decide) (fun hc21 => by first | exact absurd hc21 (by decide) | exact absurd (by decide) hc21) (fun hc21 => ?_)
  refine x_aload_n dX10_leave_24 rfl ?_
  refine x_get dX10_leave_25 fl_RX10_13 (hp_get (κ := 10) (by decide)) rfl ?_
  refine x_bipush (v := 6) dX10_leave_28 (by decide) ?_
  refine x_iload_n dX10_leave_30 rfl ?_
  refine x_imul dX10_leave_31 ?_
  refine x_iload_n dX10_leave_32 rfl ?_
  refine x_iadd dX10_leave_33 ?_
  refine x_eqi (ix6 _ _) ?_
  refine y_zaldM (f := 5) (κ := 35) dX10_leave_34 am_5 rfl (by first | omega | exact sl16_lt _ | assumption) (by decide) ?_
  refine x_if_ne (tgt := 40) dX10_leave_35 (by decide) (fun hc35 => by first | exact absurd hc35 h5 | exact absurd h5 hc35) (fun hc35 => ?_)
  refine x_iconst (v := 0) dX10_leave_38 (by decide) ?_
  exact x_rI dX10_leave_39 rfl (by first | exact (bI_nf _).1 | decide) rfl rfl (by simp) (by simp)
set_option maxRecDepth 100000 in
set_option maxHeartbeats 400000 in
theorem j_leaveN {X : XS} {d : Nat} {S : St} {x y : Int32} (hI : isM x y = false) : Call X mX10_leave false (d + 5) [.ref (ad 10 0), .int x, .int y] (hp S) (.inl (some (.int (0))), hp (sm S 0 0 1), 0, 0) := by
  refine Call.of fX10_leave (by decide) rfl (by simp [Value.category]) (Nat.le_of_ble_eq_true rfl) (lv := [some (.ref (ad 10 0)), some (.int x), some (.int y)]) rfl ?_
  refine x_aload_n dX10_leave_0 rfl ?_
  refine x_iload_n dX10_leave_1 rfl ?_
  refine x_iload_n dX10_leave_2 rfl ?_
  refine x_cS (as := [_, _]) dX10_leave_3 fX10_isMember rfl lk_RX10_160 rfl (Nat.le_of_ble_eq_true rfl) (c_isMember _ _) (by simp) (by simp) ?_
  refine x_if_eqB (tgt := 13) dX10_leave_6 (by decide) (fun hc6 => ?_) (fun hc6 => by first | exact absurd (by simp [hI]) hc6 | exact absurd hc6 (by simp [hI]))
  refine x_iconst (v := 1) dX10_leave_13 (by decide) ?_
  refine x_putM dX10_leave_14 fp_RX10_146 pm_0 ?_
  refine x_aload_n dX10_leave_17 rfl ?_
  refine x_get dX10_leave_18 fl_RX10_146 (hp_get (κ := 10) (by decide)) rfl ?_
  refine x_eqi (y := 1) rfl ?_
  refine x_if_gt (tgt := 38) dX10_leave_21 (by decide) (fun hc21 => ?_) (fun hc21 => by first | exact absurd (by decide) hc21 | exact absurd hc21 (by decide))
  refine x_iconst (v := 0) dX10_leave_38 (by decide) ?_
  exact x_rI dX10_leave_39 rfl (by first | exact (bI_nf _).1 | decide) rfl rfl (by simp) (by simp)
def ml_pr0 (S : St) (i : Nat) (e : Bool) : St := let S1 := sm S 0 0 0; sm (sm (sm S1 8 i (S1.2.2.1 8 i + 1)) 9 i (bI e)) 7 i 1
def ml_press (S : St) (g m : Nat) (e : Bool) : St := ml_ask (ml_pr0 S (6 * g + m) e) g m
theorem pr0_MO {S : St} {i : Nat} {e : Bool} (h : MO S) : MO (ml_pr0 S i e) := (((h.sm (by decide)).sm (by decide)).sm (by decide)).sm (by decide)
set_option maxRecDepth 100000 in
set_option maxHeartbeats 400000 in
theorem j_press {X : XS} {d : Nat} {S : St} {g m : Nat} (hg : g < 3) (hm : m < 6) (hI : isM (nI g) (nI m) = true) {e : Bool} (h : MO S) (h5 : ¬ S.2.2.1 5 (6 * g + m) = 0) (h7 : S.2.2.1 7 (6 * g + m) = 0) : Call X mX10_press false (d + 2) [.ref (ad 10 0), .int (nI g), .int (nI m), .int (bI e)] (hp S) (.inl (some (.int ((ml_press S g m e).2.2.1 8 (6 * g + m)))), hp (ml_press S g m e), 0, 0) := by
  refine Call.of fX10_press (by decide) rfl (by simp [Value.category]) (Nat.le_of_ble_eq_true rfl) (lv := [some (.ref (ad 10 0)), some (.int (nI g)), some (.int (nI m)), some (.int (bI e)), none]) rfl ?_
  refine x_bipush (v := 6) dX10_press_0 (by decide) ?_
  refine x_iload_n dX10_press_2 rfl ?_
  refine x_imul dX10_press_3 ?_
  refine x_iload_n dX10_press_4 rfl ?_
  refine x_iadd dX10_press_5 ?_
  refine x_eqi (ix6 _ _) ?_
  refine x_istore (lv' := [_, _, _, _, _]) dX10_press_6 (by decide) rfl ?_
  refine x_aload_n dX10_press_8 rfl ?_
  refine x_iload_n dX10_press_9 rfl ?_
  refine x_iload_n dX10_press_10 rfl ?_
  refine x_cS (as := [_, _]) dX10_press_11 fX10_isMember rfl lk_RX10_160 rfl (Nat.le_of_ble_eq_true rfl) (c_isMember _ _) (by simp) (by simp) ?_
  refine x_if_neB (tgt := 21) dX10_press_14 (by decide) (fun hc14 => ?_) (fun hc14 => by first | exact absurd (by simp [hI]) hc14 | exact absurd hc14 (by simp [hI]))
  refine x_aload_n dX10_press_21 rfl ?_
  refine x_get dX10_press_22 fl_RX10_13 (hp_get (κ := 10) (by decide)) rfl ?_
  refine x_iload dX10_press_25 rfl ?_
  refine y_zaldM (f := 5) (κ := 35) dX10_press_27 am_5 rfl (by first | omega | exact sl16_lt _ | assumption) (by decide) ?_
  refine x_if_eq (tgt := 41) dX10_press_28 (by decide) (fun hc28 => by first | exact absurd hc28 h5 | exact absurd h5 hc28) (fun hc28 => ?_)
  refine x_aload_n dX10_press_31 rfl ?_
  refine x_get dX10_press_32 fl_RX10_20 (hp_get (κ := 10) (by decide)) rfl ?_
  refine x_iload dX10_press_35 rfl ?_
  refine y_ialdM (f := 7) (κ := 37) dX10_press_37 am_7 rfl (by first | omega | exact sl16_lt _ | assumption) (by decide) ?_
  refine x_if_eq (tgt := 45) dX10_press_38 (by decide) (fun hc38 => ?_) (fun hc38 => by first | exact absurd h7 hc38 | exact absurd hc38 h7)
  refine x_iconst (v := 0) dX10_press_45 (by decide) ?_
  refine x_putM dX10_press_46 fp_RX10_146 pm_0 ?_
  refine x_aload_n dX10_press_49 rfl ?_
  refine x_get dX10_press_50 fl_RX10_146 (hp_get (κ := 10) (by decide)) rfl ?_
  refine x_eqi (y := 0) rfl ?_
  refine x_if_le (tgt := 58) dX10_press_53 (by decide) (fun hc53 => ?_) (fun hc53 => by first | exact absurd (by decide) hc53 | exact absurd hc53 (by decide))
  refine x_aload_n dX10_press_58 rfl ?_
  refine x_get dX10_press_59 fl_RX10_23 (hp_get (κ := 10) (by decide)) rfl ?_
  refine x_iload dX10_press_62 rfl ?_
  refine x_dup2 dX10_press_64 rfl rfl ?_
  refine y_ialdM (f := 8) (κ := 38) dX10_press_65 am_8 rfl (by first | omega | exact sl16_lt _ | assumption) (by decide) ?_
  refine x_iconst (v := 1) dX10_press_66 (by decide) ?_
  refine x_iadd dX10_press_67 ?_
  refine y_iastM (f := 8) (κ := 38) dX10_press_68 am_8 rfl (by first | omega | exact sl16_lt _ | assumption) (by decide) ?_
  refine x_aload_n dX10_press_69 rfl ?_
  refine x_get dX10_press_70 fl_RX10_26 (hp_get (κ := 10) (by decide)) rfl ?_
  refine x_iload dX10_press_73 rfl ?_
  refine x_iload_n dX10_press_75 rfl ?_
  refine y_zastM (f := 9) (κ := 39) dX10_press_76 am_9 rfl (by first | omega | exact sl16_lt _ | assumption) (by decide) (bI_nar e) ?_
  refine x_aload_n dX10_press_77 rfl ?_
  refine x_get dX10_press_78 fl_RX10_20 (hp_get (κ := 10) (by decide)) rfl ?_
  refine x_iload dX10_press_81 rfl ?_
  refine x_iconst (v := 1) dX10_press_83 (by decide) ?_
  refine y_iastM (f := 7) (κ := 37) dX10_press_84 am_7 rfl (by first | omega | exact sl16_lt _ | assumption) (by decide) ?_
  refine x_heq (S2 := ml_pr0 S (6 * g + m) e) rfl ?_
  refine x_aload_n dX10_press_85 rfl ?_
  refine x_iload_n dX10_press_86 rfl ?_
  refine x_iload_n dX10_press_87 rfl ?_
  refine x_cVv (as := [_, _]) dX10_press_88 fX10_ask rfl lk_RX10_172 rfl (hp_get (κ := 10) (by decide)) rfl rfl (Nat.le_of_ble_eq_true rfl) (c_mAsk hg hm (pr0_MO h)) (by simp) (by simp) ?_
  refine x_aload_n dX10_press_91 rfl ?_
  refine x_get dX10_press_92 fl_RX10_23 (hp_get (κ := 10) (by decide)) rfl ?_
  refine x_iload dX10_press_95 rfl ?_
  refine y_ialdM (f := 8) (κ := 38) dX10_press_97 am_8 rfl (by first | omega | exact sl16_lt _ | assumption) (by decide) ?_
  exact x_rI dX10_press_98 rfl rfl rfl rfl (by simp) (by simp)
set_option maxRecDepth 100000 in
set_option maxHeartbeats 400000 in
theorem j_pressN {X : XS} {d : Nat} {S : St} {x y z : Int32} (hI : isM x y = false) : Call X mX10_press false (d + 2) [.ref (ad 10 0), .int x, .int y, .int z] (hp S) (.inl (some (.int (0))), hp (sm S 0 0 1), 0, 0) := by
  refine Call.of fX10_press (by decide) rfl (by simp [Value.category]) (Nat.le_of_ble_eq_true rfl) (lv := [some (.ref (ad 10 0)), some (.int x), some (.int y), some (.int z), none]) rfl ?_
  refine x_bipush (v := 6) dX10_press_0 (by decide) ?_
  refine x_iload_n dX10_press_2 rfl ?_
  refine x_imul dX10_press_3 ?_
  refine x_iload_n dX10_press_4 rfl ?_
  refine x_iadd dX10_press_5 ?_
  refine x_istore (lv' := [_, _, _, _, _]) dX10_press_6 (by decide) rfl ?_
  refine x_aload_n dX10_press_8 rfl ?_
  refine x_iload_n dX10_press_9 rfl ?_
  refine x_iload_n dX10_press_10 rfl ?_
  refine x_cS (as := [_, _]) dX10_press_11 fX10_isMember rfl lk_RX10_160 rfl (Nat.le_of_ble_eq_true rfl) (c_isMember _ _) (by simp) (by simp) ?_
  refine x_if_neB (tgt := 21) dX10_press_14 (by decide) (fun hc14 => by first | exact absurd hc14 (by simp [hI]) | exact absurd (by simp [hI]) hc14) (fun hc14 => ?_)
  refine x_iconst (v := 1) dX10_press_17 (by decide) ?_
  refine x_goto (tgt := 46) dX10_press_18 (by decide) ?_
  refine x_putM dX10_press_46 fp_RX10_146 pm_0 ?_
  refine x_aload_n dX10_press_49 rfl ?_
  refine x_get dX10_press_50 fl_RX10_146 (hp_get (κ := 10) (by decide)) rfl ?_
  refine x_eqi (y := 1) rfl ?_
  refine x_if_le (tgt := 58) dX10_press_53 (by decide) (fun hc53 => by first | exact absurd hc53 (by decide) | exact absurd (by decide) hc53) (fun hc53 => ?_)
  refine x_iconst (v := 0) dX10_press_56 (by decide) ?_
  exact x_rI dX10_press_57 rfl rfl rfl rfl (by simp) (by simp)
set_option maxRecDepth 100000 in
set_option maxHeartbeats 400000 in
theorem j_pressS {X : XS} {d : Nat} {S : St} {g m : Nat} (hg : g < 3) (hm : m < 6) (hI : isM (nI g) (nI m) = true) {z : Int32} (h5 : S.2.2.1 5 (6 * g + m) = 0 ∨ ¬ S.2.2.1 7 (6 * g + m) = 0) : Call X mX10_press false (d + 2) [.ref (ad 10 0), .int (nI g), .int (nI m), .int z] (hp S) (.inl (some (.int (0))), hp (sm S 0 0 2), 0, 0) := by
  refine Call.of fX10_press (by decide) rfl (by simp [Value.category]) (Nat.le_of_ble_eq_true rfl) (lv := [some (.ref (ad 10 0)), some (.int (nI g)), some (.int (nI m)), some (.int z), none]) rfl ?_
  refine x_bipush (v := 6) dX10_press_0 (by decide) ?_
  refine x_iload_n dX10_press_2 rfl ?_
  refine x_imul dX10_press_3 ?_
  refine x_iload_n dX10_press_4 rfl ?_
  refine x_iadd dX10_press_5 ?_
  refine x_eqi (ix6 _ _) ?_
  refine x_istore (lv' := [_, _, _, _, _]) dX10_press_6 (by decide) rfl ?_
  refine x_aload_n dX10_press_8 rfl ?_
  refine x_iload_n dX10_press_9 rfl ?_
  refine x_iload_n dX10_press_10 rfl ?_
  refine x_cS (as := [_, _]) dX10_press_11 fX10_isMember rfl lk_RX10_160 rfl (Nat.le_of_ble_eq_true rfl) (c_isMember _ _) (by simp) (by simp) ?_
  refine x_if_neB (tgt := 21) dX10_press_14 (by decide) (fun hc14 => ?_) (fun hc14 => by first | exact absurd (by simp [hI]) hc14 | exact absurd hc14 (by simp [hI]))
  refine x_aload_n dX10_press_21 rfl ?_
  refine x_get dX10_press_22 fl_RX10_13 (hp_get (κ := 10) (by decide)) rfl ?_
  refine x_iload dX10_press_25 rfl ?_
  refine y_zaldM (f := 5) (κ := 35) dX10_press_27 am_5 rfl (by first | omega | exact sl16_lt _ | assumption) (by decide) ?_
  refine x_if_eq (tgt := 41) dX10_press_28 (by decide) (fun hc28 => ?_) (fun hc28 => ?_)
  · refine x_iconst (v := 2) dX10_press_41 (by decide) ?_
    refine x_goto (tgt := 46) dX10_press_42 (by decide) ?_
    refine x_putM dX10_press_46 fp_RX10_146 pm_0 ?_
    refine x_aload_n dX10_press_49 rfl ?_
    refine x_get dX10_press_50 fl_RX10_146 (hp_get (κ := 10) (by decide)) rfl ?_
    refine x_eqi (y := 2) rfl ?_
    refine x_if_le (tgt := 58) dX10_press_53 (by decide) (fun hc53 => by first | exact absurd hc53 (by decide) | exact absurd (by decide) hc53) (fun hc53 => ?_)
    refine x_iconst (v := 0) dX10_press_56 (by decide) ?_
    exact x_rI dX10_press_57 rfl rfl rfl rfl (by simp) (by simp)
  · refine x_aload_n dX10_press_31 rfl ?_
    refine x_get dX10_press_32 fl_RX10_20 (hp_get (κ := 10) (by decide)) rfl ?_
    refine x_iload dX10_press_35 rfl ?_
    refine y_ialdM (f := 7) (κ := 37) dX10_press_37 am_7 rfl (by first | omega | exact sl16_lt _ | assumption) (by decide) ?_
    refine x_if_eq (tgt := 45) dX10_press_38 (by decide) (fun hc38 => ?_) (fun hc38 => ?_)
    · exact (h5.elim hc28 (fun q => q hc38)).elim
    · refine x_iconst (v := 2) dX10_press_41 (by decide) ?_
      refine x_goto (tgt := 46) dX10_press_42 (by decide) ?_
      refine x_putM dX10_press_46 fp_RX10_146 pm_0 ?_
      refine x_aload_n dX10_press_49 rfl ?_
      refine x_get dX10_press_50 fl_RX10_146 (hp_get (κ := 10) (by decide)) rfl ?_
      refine x_eqi (y := 2) rfl ?_
      refine x_if_le (tgt := 58) dX10_press_53 (by decide) (fun hc53 => by first | exact absurd hc53 (by decide) | exact absurd (by decide) hc53) (fun hc53 => ?_)
      refine x_iconst (v := 0) dX10_press_56 (by decide) ?_
      exact x_rI dX10_press_57 rfl rfl rfl rfl (by simp) (by simp)
set_option maxRecDepth 100000 in
set_option maxHeartbeats 400000 in
theorem j_again {X : XS} {d : Nat} {S : St} {g m : Nat} (hg : g < 3) (hm : m < 6) (hI : isM (nI g) (nI m) = true) (h : MO S) (h5 : ¬ S.2.2.1 5 (6 * g + m) = 0) (h7 : wi (S.2.2.1 7 (6 * g + m)) 1 2 = true) : Call X mX10_again false (d + 2) [.ref (ad 10 0), .int (nI g), .int (nI m)] (hp S) (.inl none, hp (ml_ask (sm S 0 0 0) g m), 0, 0) := by
  refine Call.of fX10_again (by decide) rfl (by simp [Value.category]) (Nat.le_of_ble_eq_true rfl) (lv := [some (.ref (ad 10 0)), some (.int (nI g)), some (.int (nI m)), none]) rfl ?_
  refine x_bipush (v := 6) dX10_again_0 (by decide) ?_
  refine x_iload_n dX10_again_2 rfl ?_
  refine x_imul dX10_again_3 ?_
  refine x_iload_n dX10_again_4 rfl ?_
  refine x_iadd dX10_again_5 ?_
  refine x_eqi (ix6 _ _) ?_
  refine x_istore_n (lv' := [_, _, _, _]) dX10_again_6 (by decide) rfl ?_
  refine x_aload_n dX10_again_7 rfl ?_
  refine x_iload_n dX10_again_8 rfl ?_
  refine x_iload_n dX10_again_9 rfl ?_
  refine x_cS (as := [_, _]) dX10_again_10 fX10_isMember rfl lk_RX10_160 rfl (Nat.le_of_ble_eq_true rfl) (c_isMember _ _) (by simp) (by simp) ?_
  refine x_if_neB (tgt := 20) dX10_again_13 (by decide) (fun hc13 => ?_) (fun hc13 => by first | exact absurd (by simp [hI]) hc13 | exact absurd hc13 (by simp [hI]))
  refine x_aload_n dX10_again_20 rfl ?_
  refine x_get dX10_again_21 fl_RX10_13 (hp_get (κ := 10) (by decide)) rfl ?_
  refine x_iload_n dX10_again_24 rfl ?_
  refine y_zaldM (f := 5) (κ := 35) dX10_again_25 am_5 rfl (by first | omega | exact sl16_lt _ | assumption) (by decide) ?_
  refine x_if_eq (tgt := 43) dX10_again_26 (by decide) (fun hc26 => by first | exact absurd hc26 h5 | exact absurd h5 hc26) (fun hc26 => ?_)
  refine x_aload_n dX10_again_29 rfl ?_
  refine x_get dX10_again_30 fl_RX10_20 (hp_get (κ := 10) (by decide)) rfl ?_
  refine x_iload_n dX10_again_33 rfl ?_
  refine y_ialdM (f := 7) (κ := 37) dX10_again_34 am_7 rfl (by first | omega | exact sl16_lt _ | assumption) (by decide) ?_
  refine x_iconst (v := 1) dX10_again_35 (by decide) ?_
  refine x_iconst (v := 2) dX10_again_36 (by decide) ?_
  refine x_cS (as := [_, _, _]) dX10_again_37 fX10_within rfl lk_RX10_150 rfl (Nat.le_of_ble_eq_true rfl) (c_within _ _ _) (by simp) (by simp) ?_
  refine x_if_neB (tgt := 47) dX10_again_40 (by decide) (fun hc40 => ?_) (fun hc40 => by first | exact absurd (by simp [h7]) hc40 | exact absurd hc40 (by simp [h7]))
  refine x_iconst (v := 0) dX10_again_47 (by decide) ?_
  refine x_putM dX10_again_48 fp_RX10_146 pm_0 ?_
  refine x_aload_n dX10_again_51 rfl ?_
  refine x_get dX10_again_52 fl_RX10_146 (hp_get (κ := 10) (by decide)) rfl ?_
  refine x_eqi (y := 0) rfl ?_
  refine x_if_ne (tgt := 64) dX10_again_55 (by decide) (fun hc55 => by first | exact absurd hc55 (by decide) | exact absurd (by decide) hc55) (fun hc55 => ?_)
  refine x_aload_n dX10_again_58 rfl ?_
  refine x_iload_n dX10_again_59 rfl ?_
  refine x_iload_n dX10_again_60 rfl ?_
  refine x_cVv (as := [_, _]) dX10_again_61 fX10_ask rfl lk_RX10_172 rfl (hp_get (κ := 10) (by decide)) rfl rfl (Nat.le_of_ble_eq_true rfl) (c_mAsk hg hm (h.sm (by decide))) (by simp) (by simp) ?_
  exact x_rV dX10_again_64 rfl rfl rfl (by simp) (by simp)
set_option maxRecDepth 100000 in
set_option maxHeartbeats 400000 in
theorem j_againN {X : XS} {d : Nat} {S : St} {x y : Int32} (hI : isM x y = false) : Call X mX10_again false (d + 2) [.ref (ad 10 0), .int x, .int y] (hp S) (.inl none, hp (sm S 0 0 1), 0, 0) := by
  refine Call.of fX10_again (by decide) rfl (by simp [Value.category]) (Nat.le_of_ble_eq_true rfl) (lv := [some (.ref (ad 10 0)), some (.int x), some (.int y), none]) rfl ?_
  refine x_bipush (v := 6) dX10_again_0 (by decide) ?_
  refine x_iload_n dX10_again_2 rfl ?_
  refine x_imul dX10_again_3 ?_
  refine x_iload_n dX10_again_4 rfl ?_
  refine x_iadd dX10_again_5 ?_
  refine x_istore_n (lv' := [_, _, _, _]) dX10_again_6 (by decide) rfl ?_
  refine x_aload_n dX10_again_7 rfl ?_
  refine x_iload_n dX10_again_8 rfl ?_
  refine x_iload_n dX10_again_9 rfl ?_
  refine x_cS (as := [_, _]) dX10_again_10 fX10_isMember rfl lk_RX10_160 rfl (Nat.le_of_ble_eq_true rfl) (c_isMember _ _) (by simp) (by simp) ?_
  refine x_if_neB (tgt := 20) dX10_again_13 (by decide) (fun hc13 => by first | exact absurd hc13 (by simp [hI]) | exact absurd (by simp [hI]) hc13) (fun hc13 => ?_)
  refine x_iconst (v := 1) dX10_again_16 (by decide) ?_
  refine x_goto (tgt := 48) dX10_again_17 (by decide) ?_
  refine x_putM dX10_again_48 fp_RX10_146 pm_0 ?_
  refine x_aload_n dX10_again_51 rfl ?_
  refine x_get dX10_again_52 fl_RX10_146 (hp_get (κ := 10) (by decide)) rfl ?_
  refine x_eqi (y := 1) rfl ?_
  refine x_if_ne (tgt := 64) dX10_again_55 (by decide) (fun hc55 => ?_) (fun hc55 => by first | exact absurd (by decide) hc55 | exact absurd hc55 (by decide))
  exact x_rV dX10_again_64 rfl rfl rfl (by simp) (by simp)
set_option maxRecDepth 100000 in
set_option maxHeartbeats 400000 in
theorem j_againS {X : XS} {d : Nat} {S : St} {g m : Nat} (hg : g < 3) (hm : m < 6) (hI : isM (nI g) (nI m) = true) (h5 : S.2.2.1 5 (6 * g + m) = 0 ∨ ¬ wi (S.2.2.1 7 (6 * g + m)) 1 2 = true) : Call X mX10_again false (d + 2) [.ref (ad 10 0), .int (nI g), .int (nI m)] (hp S) (.inl none, hp (sm S 0 0 2), 0, 0) := by
  refine Call.of fX10_again (by decide) rfl (by simp [Value.category]) (Nat.le_of_ble_eq_true rfl) (lv := [some (.ref (ad 10 0)), some (.int (nI g)), some (.int (nI m)), none]) rfl ?_
  refine x_bipush (v := 6) dX10_again_0 (by decide) ?_
  refine x_iload_n dX10_again_2 rfl ?_
  refine x_imul dX10_again_3 ?_
  refine x_iload_n dX10_again_4 rfl ?_
  refine x_iadd dX10_again_5 ?_
  refine x_eqi (ix6 _ _) ?_
  refine x_istore_n (lv' := [_, _, _, _]) dX10_again_6 (by decide) rfl ?_
  refine x_aload_n dX10_again_7 rfl ?_
  refine x_iload_n dX10_again_8 rfl ?_
  refine x_iload_n dX10_again_9 rfl ?_
  refine x_cS (as := [_, _]) dX10_again_10 fX10_isMember rfl lk_RX10_160 rfl (Nat.le_of_ble_eq_true rfl) (c_isMember _ _) (by simp) (by simp) ?_
  refine x_if_neB (tgt := 20) dX10_again_13 (by decide) (fun hc13 => ?_) (fun hc13 => by first | exact absurd (by simp [hI]) hc13 | exact absurd hc13 (by simp [hI]))
  refine x_aload_n dX10_again_20 rfl ?_
  refine x_get dX10_again_21 fl_RX10_13 (hp_get (κ := 10) (by decide)) rfl ?_
  refine x_iload_n dX10_again_24 rfl ?_
  refine y_zaldM (f := 5) (κ := 35) dX10_again_25 am_5 rfl (by first | omega | exact sl16_lt _ | assumption) (by decide) ?_
  refine x_if_eq (tgt := 43) dX10_again_26 (by decide) (fun hc26 => ?_) (fun hc26 => ?_)
  · refine x_iconst (v := 2) dX10_again_43 (by decide) ?_
    refine x_goto (tgt := 48) dX10_again_44 (by decide) ?_
    refine x_putM dX10_again_48 fp_RX10_146 pm_0 ?_
    refine x_aload_n dX10_again_51 rfl ?_
    refine x_get dX10_again_52 fl_RX10_146 (hp_get (κ := 10) (by decide)) rfl ?_
    refine x_eqi (y := 2) rfl ?_
    refine x_if_ne (tgt := 64) dX10_again_55 (by decide) (fun hc55 => ?_) (fun hc55 => by first | exact absurd (by decide) hc55 | exact absurd hc55 (by decide))
    exact x_rV dX10_again_64 rfl rfl rfl (by simp) (by simp)
  · refine x_aload_n dX10_again_29 rfl ?_
    refine x_get dX10_again_30 fl_RX10_20 (hp_get (κ := 10) (by decide)) rfl ?_
    refine x_iload_n dX10_again_33 rfl ?_
    refine y_ialdM (f := 7) (κ := 37) dX10_again_34 am_7 rfl (by first | omega | exact sl16_lt _ | assumption) (by decide) ?_
    refine x_iconst (v := 1) dX10_again_35 (by decide) ?_
    refine x_iconst (v := 2) dX10_again_36 (by decide) ?_
    refine x_cS (as := [_, _, _]) dX10_again_37 fX10_within rfl lk_RX10_150 rfl (Nat.le_of_ble_eq_true rfl) (c_within _ _ _) (by simp) (by simp) ?_
    refine x_if_neB (tgt := 47) dX10_again_40 (by decide) (fun hc40 => ?_) (fun hc40 => ?_)
    · exact (h5.elim hc26 (fun q => q hc40)).elim
    · refine x_iconst (v := 2) dX10_again_43 (by decide) ?_
      refine x_goto (tgt := 48) dX10_again_44 (by decide) ?_
      refine x_putM dX10_again_48 fp_RX10_146 pm_0 ?_
      refine x_aload_n dX10_again_51 rfl ?_
      refine x_get dX10_again_52 fl_RX10_146 (hp_get (κ := 10) (by decide)) rfl ?_
      refine x_eqi (y := 2) rfl ?_
      refine x_if_ne (tgt := 64) dX10_again_55 (by decide) (fun hc55 => ?_) (fun hc55 => by first | exact absurd (by decide) hc55 | exact absurd hc55 (by decide))
      exact x_rV dX10_again_64 rfl rfl rfl (by simp) (by simp)
def ml_re0 (S : St) (i : Nat) : St := sm (sm S 0 0 0) 7 i 0
def ml_release (S : St) (g m : Nat) : St := ml_send (ml_re0 S (6 * g + m)) 2 (nI g) (nI m) ((ml_re0 S (6 * g + m)).2.2.1 8 (6 * g + m)) 0 0
set_option maxRecDepth 100000 in
set_option maxHeartbeats 400000 in
theorem j_release {X : XS} {d : Nat} {S : St} {g m : Nat} (hg : g < 3) (hm : m < 6) (hI : isM (nI g) (nI m) = true) (h : MO S) (h5 : ¬ S.2.2.1 5 (6 * g + m) = 0) (h7 : ¬ S.2.2.1 7 (6 * g + m) = 0) : Call X mX10_release false (d + 2) [.ref (ad 10 0), .int (nI g), .int (nI m)] (hp S) (.inl none, hp (ml_release S g m), 0, 0) := by
  refine Call.of fX10_release (by decide) rfl (by simp [Value.category]) (Nat.le_of_ble_eq_true rfl) (lv := [some (.ref (ad 10 0)), some (.int (nI g)), some (.int (nI m)), none]) rfl ?_
  refine x_bipush (v := 6) dX10_release_0 (by decide) ?_
  refine x_iload_n dX10_release_2 rfl ?_
  refine x_imul dX10_release_3 ?_
  refine x_iload_n dX10_release_4 rfl ?_
  refine x_iadd dX10_release_5 ?_
  refine x_eqi (ix6 _ _) ?_
  refine x_istore_n (lv' := [_, _, _, _]) dX10_release_6 (by decide) rfl ?_
  refine x_aload_n dX10_release_7 rfl ?_
  refine x_iload_n dX10_release_8 rfl ?_
  refine x_iload_n dX10_release_9 rfl ?_
  refine x_cS (as := [_, _]) dX10_release_10 fX10_isMember rfl lk_RX10_160 rfl (Nat.le_of_ble_eq_true rfl) (c_isMember _ _) (by simp) (by simp) ?_
  refine x_if_neB (tgt := 20) dX10_release_13 (by decide) (fun hc13 => ?_) (fun hc13 => by first | exact absurd (by simp [hI]) hc13 | exact absurd hc13 (by simp [hI]))
  refine x_aload_n dX10_release_20 rfl ?_
  refine x_get dX10_release_21 fl_RX10_13 (hp_get (κ := 10) (by decide)) rfl ?_
  refine x_iload_n dX10_release_24 rfl ?_
  refine y_zaldM (f := 5) (κ := 35) dX10_release_25 am_5 rfl (by first | omega | exact sl16_lt _ | assumption) (by decide) ?_
  refine x_if_eq (tgt := 38) dX10_release_26 (by decide) (fun hc26 => by first | exact absurd hc26 h5 | exact absurd h5 hc26) (fun hc26 => ?_)
  refine x_aload_n dX10_release_29 rfl ?_
  refine x_get dX10_release_30 fl_RX10_20 (hp_get (κ := 10) (by decide)) rfl ?_
  refine x_iload_n dX10_release_33 rfl ?_
  refine y_ialdM (f := 7) (κ := 37) dX10_release_34 am_7 rfl (by first | omega | exact sl16_lt _ | assumption) (by decide) ?_
  refine x_if_ne (tgt := 42) dX10_release_35 (by decide) (fun hc35 => ?_) (fun hc35 => by first | exact absurd h7 hc35 | exact absurd hc35 h7)
  refine x_iconst (v := 0) dX10_release_42 (by decide) ?_
  refine x_putM dX10_release_43 fp_RX10_146 pm_0 ?_
  refine x_aload_n dX10_release_46 rfl ?_
  refine x_get dX10_release_47 fl_RX10_146 (hp_get (κ := 10) (by decide)) rfl ?_
  refine x_eqi (y := 0) rfl ?_
  refine x_if_ne (tgt := 75) dX10_release_50 (by decide) (fun hc50 => by first | exact absurd hc50 (by decide) | exact absurd (by decide) hc50) (fun hc50 => ?_)
  refine x_aload_n dX10_release_53 rfl ?_
  refine x_get dX10_release_54 fl_RX10_20 (hp_get (κ := 10) (by decide)) rfl ?_
  refine x_iload_n dX10_release_57 rfl ?_
  refine x_iconst (v := 0) dX10_release_58 (by decide) ?_
  refine y_iastM (f := 7) (κ := 37) dX10_release_59 am_7 rfl (by first | omega | exact sl16_lt _ | assumption) (by decide) ?_
  refine x_heq (S2 := ml_re0 S (6 * g + m)) rfl ?_
  refine x_aload_n dX10_release_60 rfl ?_
  refine x_iconst (v := 2) dX10_release_61 (by decide) ?_
  refine x_iload_n dX10_release_62 rfl ?_
  refine x_iload_n dX10_release_63 rfl ?_
  refine x_aload_n dX10_release_64 rfl ?_
  refine x_get dX10_release_65 fl_RX10_23 (hp_get (κ := 10) (by decide)) rfl ?_
  refine x_iload_n dX10_release_68 rfl ?_
  refine y_ialdM (f := 8) (κ := 38) dX10_release_69 am_8 rfl (by first | omega | exact sl16_lt _ | assumption) (by decide) ?_
  refine x_iconst (v := 0) dX10_release_70 (by decide) ?_
  refine x_iconst (v := 0) dX10_release_71 (by decide) ?_
  refine x_cVv (as := [_, _, _, _, _, _]) dX10_release_72 fX10_send rfl lk_RX10_168 rfl (hp_get (κ := 10) (by decide)) rfl rfl (Nat.le_of_ble_eq_true rfl) (c_mSend ((h.sm (by decide)).sm (by decide)) _ _ _ _ _ _) (by simp) (by simp) ?_
  exact x_rV dX10_release_75 rfl rfl rfl (by simp) (by simp)
set_option maxRecDepth 100000 in
set_option maxHeartbeats 400000 in
theorem j_releaseN {X : XS} {d : Nat} {S : St} {x y : Int32} (hI : isM x y = false) : Call X mX10_release false (d + 2) [.ref (ad 10 0), .int x, .int y] (hp S) (.inl none, hp (sm S 0 0 1), 0, 0) := by
  refine Call.of fX10_release (by decide) rfl (by simp [Value.category]) (Nat.le_of_ble_eq_true rfl) (lv := [some (.ref (ad 10 0)), some (.int x), some (.int y), none]) rfl ?_
  refine x_bipush (v := 6) dX10_release_0 (by decide) ?_
  refine x_iload_n dX10_release_2 rfl ?_
  refine x_imul dX10_release_3 ?_
  refine x_iload_n dX10_release_4 rfl ?_
  refine x_iadd dX10_release_5 ?_
  refine x_istore_n (lv' := [_, _, _, _]) dX10_release_6 (by decide) rfl ?_
  refine x_aload_n dX10_release_7 rfl ?_
  refine x_iload_n dX10_release_8 rfl ?_
  refine x_iload_n dX10_release_9 rfl ?_
  refine x_cS (as := [_, _]) dX10_release_10 fX10_isMember rfl lk_RX10_160 rfl (Nat.le_of_ble_eq_true rfl) (c_isMember _ _) (by simp) (by simp) ?_
  refine x_if_neB (tgt := 20) dX10_release_13 (by decide) (fun hc13 => by first | exact absurd hc13 (by simp [hI]) | exact absurd (by simp [hI]) hc13) (fun hc13 => ?_)
  refine x_iconst (v := 1) dX10_release_16 (by decide) ?_
  refine x_goto (tgt := 43) dX10_release_17 (by decide) ?_
  refine x_putM dX10_release_43 fp_RX10_146 pm_0 ?_
  refine x_aload_n dX10_release_46 rfl ?_
  refine x_get dX10_release_47 fl_RX10_146 (hp_get (κ := 10) (by decide)) rfl ?_
  refine x_eqi (y := 1) rfl ?_
  refine x_if_ne (tgt := 75) dX10_release_50 (by decide) (fun hc50 => ?_) (fun hc50 => by first | exact absurd (by decide) hc50 | exact absurd hc50 (by decide))
  exact x_rV dX10_release_75 rfl rfl rfl (by simp) (by simp)
set_option maxRecDepth 100000 in
set_option maxHeartbeats 400000 in
theorem j_releaseS {X : XS} {d : Nat} {S : St} {g m : Nat} (hg : g < 3) (hm : m < 6) (hI : isM (nI g) (nI m) = true) (h5 : S.2.2.1 5 (6 * g + m) = 0 ∨ S.2.2.1 7 (6 * g + m) = 0) : Call X mX10_release false (d + 2) [.ref (ad 10 0), .int (nI g), .int (nI m)] (hp S) (.inl none, hp (sm S 0 0 2), 0, 0) := by
  refine Call.of fX10_release (by decide) rfl (by simp [Value.category]) (Nat.le_of_ble_eq_true rfl) (lv := [some (.ref (ad 10 0)), some (.int (nI g)), some (.int (nI m)), none]) rfl ?_
  refine x_bipush (v := 6) dX10_release_0 (by decide) ?_
  refine x_iload_n dX10_release_2 rfl ?_
  refine x_imul dX10_release_3 ?_
  refine x_iload_n dX10_release_4 rfl ?_
  refine x_iadd dX10_release_5 ?_
  refine x_eqi (ix6 _ _) ?_
  refine x_istore_n (lv' := [_, _, _, _]) dX10_release_6 (by decide) rfl ?_
  refine x_aload_n dX10_release_7 rfl ?_
  refine x_iload_n dX10_release_8 rfl ?_
  refine x_iload_n dX10_release_9 rfl ?_
  refine x_cS (as := [_, _]) dX10_release_10 fX10_isMember rfl lk_RX10_160 rfl (Nat.le_of_ble_eq_true rfl) (c_isMember _ _) (by simp) (by simp) ?_
  refine x_if_neB (tgt := 20) dX10_release_13 (by decide) (fun hc13 => ?_) (fun hc13 => by first | exact absurd (by simp [hI]) hc13 | exact absurd hc13 (by simp [hI]))
  refine x_aload_n dX10_release_20 rfl ?_
  refine x_get dX10_release_21 fl_RX10_13 (hp_get (κ := 10) (by decide)) rfl ?_
  refine x_iload_n dX10_release_24 rfl ?_
  refine y_zaldM (f := 5) (κ := 35) dX10_release_25 am_5 rfl (by first | omega | exact sl16_lt _ | assumption) (by decide) ?_
  refine x_if_eq (tgt := 38) dX10_release_26 (by decide) (fun hc26 => ?_) (fun hc26 => ?_)
  · refine x_iconst (v := 2) dX10_release_38 (by decide) ?_
    refine x_goto (tgt := 43) dX10_release_39 (by decide) ?_
    refine x_putM dX10_release_43 fp_RX10_146 pm_0 ?_
    refine x_aload_n dX10_release_46 rfl ?_
    refine x_get dX10_release_47 fl_RX10_146 (hp_get (κ := 10) (by decide)) rfl ?_
    refine x_eqi (y := 2) rfl ?_
    refine x_if_ne (tgt := 75) dX10_release_50 (by decide) (fun hc50 => ?_) (fun hc50 => by first | exact absurd (by decide) hc50 | exact absurd hc50 (by decide))
    exact x_rV dX10_release_75 rfl rfl rfl (by simp) (by simp)
  · refine x_aload_n dX10_release_29 rfl ?_
    refine x_get dX10_release_30 fl_RX10_20 (hp_get (κ := 10) (by decide)) rfl ?_
    refine x_iload_n dX10_release_33 rfl ?_
    refine y_ialdM (f := 7) (κ := 37) dX10_release_34 am_7 rfl (by first | omega | exact sl16_lt _ | assumption) (by decide) ?_
    refine x_if_ne (tgt := 42) dX10_release_35 (by decide) (fun hc35 => ?_) (fun hc35 => ?_)
    · exact (h5.elim hc26 hc35).elim
    · refine x_iconst (v := 2) dX10_release_38 (by decide) ?_
      refine x_goto (tgt := 43) dX10_release_39 (by decide) ?_
      refine x_putM dX10_release_43 fp_RX10_146 pm_0 ?_
      refine x_aload_n dX10_release_46 rfl ?_
      refine x_get dX10_release_47 fl_RX10_146 (hp_get (κ := 10) (by decide)) rfl ?_
      refine x_eqi (y := 2) rfl ?_
      refine x_if_ne (tgt := 75) dX10_release_50 (by decide) (fun hc50 => ?_) (fun hc50 => by first | exact absurd (by decide) hc50 | exact absurd hc50 (by decide))
      exact x_rV dX10_release_75 rfl rfl rfl (by simp) (by simp)
def ml_un0 (S : St) (g m : Nat) (v : Int32) : St := let S1 := sm S 0 0 0; ml_send S1 11 (nI g) (nI m) (S1.2.2.1 11 (6 * g + m)) (S1.2.2.1 12 (6 * g + m)) v
def ml_un (S : St) (g m : Nat) (v : Int32) : St := let S2 := ml_un0 S g m v; sm S2 12 (6 * g + m) (S2.2.2.1 12 (6 * g + m) + 1)
set_option maxRecDepth 100000 in
set_option maxHeartbeats 400000 in
theorem j_unit {X : XS} {d : Nat} {S : St} {g m : Nat} (hg : g < 3) (hm : m < 6) (hI : isM (nI g) (nI m) = true) (v : Int32) (h : MO S) (h5 : ¬ S.2.2.1 5 (6 * g + m) = 0) (h7 : 3 ≤ S.2.2.1 7 (6 * g + m)) (h12 : ¬ S.2.2.1 12 (6 * g + m) = 64) : Call X mX10_unit false (d + 2) [.ref (ad 10 0), .int (nI g), .int (nI m), .int v] (hp S) (.inl (some (.int ((ml_un S g m v).2.2.1 12 (6 * g + m) - 1))), hp (ml_un S g m v), 0, 0) := by
  refine Call.of fX10_unit (by decide) rfl (by simp [Value.category]) (Nat.le_of_ble_eq_true rfl) (lv := [some (.ref (ad 10 0)), some (.int (nI g)), some (.int (nI m)), some (.int v), none]) rfl ?_
  refine x_bipush (v := 6) dX10_unit_0 (by decide) ?_
  refine x_iload_n dX10_unit_2 rfl ?_
  refine x_imul dX10_unit_3 ?_
  refine x_iload_n dX10_unit_4 rfl ?_
  refine x_iadd dX10_unit_5 ?_
  refine x_eqi (ix6 _ _) ?_
  refine x_istore (lv' := [_, _, _, _, _]) dX10_unit_6 (by decide) rfl ?_
  refine x_aload_n dX10_unit_8 rfl ?_
  refine x_iload_n dX10_unit_9 rfl ?_
  refine x_iload_n dX10_unit_10 rfl ?_
  refine x_cS (as := [_, _]) dX10_unit_11 fX10_isMember rfl lk_RX10_160 rfl (Nat.le_of_ble_eq_true rfl) (c_isMember _ _) (by simp) (by simp) ?_
  refine x_if_neB (tgt := 21) dX10_unit_14 (by decide) (fun hc14 => ?_) (fun hc14 => by first | exact absurd (by simp [hI]) hc14 | exact absurd hc14 (by simp [hI]))
  refine x_aload_n dX10_unit_21 rfl ?_
  refine x_get dX10_unit_22 fl_RX10_13 (hp_get (κ := 10) (by decide)) rfl ?_
  refine x_iload dX10_unit_25 rfl ?_
  refine y_zaldM (f := 5) (κ := 35) dX10_unit_27 am_5 rfl (by first | omega | exact sl16_lt _ | assumption) (by decide) ?_
  refine x_if_eq (tgt := 42) dX10_unit_28 (by decide) (fun hc28 => by first | exact absurd hc28 h5 | exact absurd h5 hc28) (fun hc28 => ?_)
  refine x_aload_n dX10_unit_31 rfl ?_
  refine x_get dX10_unit_32 fl_RX10_20 (hp_get (κ := 10) (by decide)) rfl ?_
  refine x_iload dX10_unit_35 rfl ?_
  refine y_ialdM (f := 7) (κ := 37) dX10_unit_37 am_7 rfl (by first | omega | exact sl16_lt _ | assumption) (by decide) ?_
  refine x_iconst (v := 3) dX10_unit_38 (by decide) ?_
  refine x_icmp_ge (tgt := 46) dX10_unit_39 (by decide) (fun hc39 => ?_) (fun hc39 => by first | exact absurd h7 hc39 | exact absurd hc39 h7)
  refine x_aload_n dX10_unit_46 rfl ?_
  refine x_get dX10_unit_47 fl_RX10_35 (hp_get (κ := 10) (by decide)) rfl ?_
  refine x_iload dX10_unit_50 rfl ?_
  refine y_ialdM (f := 12) (κ := 42) dX10_unit_52 am_12 rfl (by first | omega | exact sl16_lt _ | assumption) (by decide) ?_
  refine x_bipush (v := 64) dX10_unit_53 (by decide) ?_
  refine x_icmp_ne (tgt := 62) dX10_unit_55 (by decide) (fun hc55 => ?_) (fun hc55 => by first | exact absurd h12 hc55 | exact absurd hc55 h12)
  refine x_iconst (v := 0) dX10_unit_62 (by decide) ?_
  refine x_putM dX10_unit_63 fp_RX10_146 pm_0 ?_
  refine x_aload_n dX10_unit_66 rfl ?_
  refine x_get dX10_unit_67 fl_RX10_146 (hp_get (κ := 10) (by decide)) rfl ?_
  refine x_eqi (y := 0) rfl ?_
  refine x_if_le (tgt := 75) dX10_unit_70 (by decide) (fun hc70 => ?_) (fun hc70 => by first | exact absurd (by decide) hc70 | exact absurd hc70 (by decide))
  refine x_aload_n dX10_unit_75 rfl ?_
  refine x_bipush (v := 11) dX10_unit_76 (by decide) ?_
  refine x_iload_n dX10_unit_78 rfl ?_
  refine x_iload_n dX10_unit_79 rfl ?_
  refine x_aload_n dX10_unit_80 rfl ?_
  refine x_get dX10_unit_81 fl_RX10_32 (hp_get (κ := 10) (by decide)) rfl ?_
  refine x_iload dX10_unit_84 rfl ?_
  refine y_ialdM (f := 11) (κ := 41) dX10_unit_86 am_11 rfl (by first | omega | exact sl16_lt _ | assumption) (by decide) ?_
  refine x_aload_n dX10_unit_87 rfl ?_
  refine x_get dX10_unit_88 fl_RX10_35 (hp_get (κ := 10) (by decide)) rfl ?_
  refine x_iload dX10_unit_91 rfl ?_
  refine y_ialdM (f := 12) (κ := 42) dX10_unit_93 am_12 rfl (by first | omega | exact sl16_lt _ | assumption) (by decide) ?_
  refine x_iload_n dX10_unit_94 rfl ?_
  refine x_cVv (as := [_, _, _, _, _, _]) dX10_unit_95 fX10_send rfl lk_RX10_168 rfl (hp_get (κ := 10) (by decide)) rfl rfl (Nat.le_of_ble_eq_true rfl) (c_mSend (h.sm (by decide)) _ _ _ _ _ _) (by simp) (by simp) ?_
  refine x_heq (S2 := ml_un0 S g m v) rfl ?_
  refine x_aload_n dX10_unit_98 rfl ?_
  refine x_get dX10_unit_99 fl_RX10_35 (hp_get (κ := 10) (by decide)) rfl ?_
  refine x_iload dX10_unit_102 rfl ?_
  refine x_dup2 dX10_unit_104 rfl rfl ?_
  refine y_ialdM (f := 12) (κ := 42) dX10_unit_105 am_12 rfl (by first | omega | exact sl16_lt _ | assumption) (by decide) ?_
  refine x_iconst (v := 1) dX10_unit_106 (by decide) ?_
  refine x_iadd dX10_unit_107 ?_
  refine y_iastM (f := 12) (κ := 42) dX10_unit_108 am_12 rfl (by first | omega | exact sl16_lt _ | assumption) (by decide) ?_
  refine x_aload_n dX10_unit_109 rfl ?_
  refine x_get dX10_unit_110 fl_RX10_35 (hp_get (κ := 10) (by decide)) rfl ?_
  refine x_iload dX10_unit_113 rfl ?_
  refine y_ialdM (f := 12) (κ := 42) dX10_unit_115 am_12 rfl (by first | omega | exact sl16_lt _ | assumption) (by decide) ?_
  refine x_iconst (v := 1) dX10_unit_116 (by decide) ?_
  refine x_isub dX10_unit_117 ?_
  exact x_rI dX10_unit_118 rfl rfl rfl rfl (by simp) (by simp)
set_option maxRecDepth 100000 in
set_option maxHeartbeats 400000 in
theorem j_unitN {X : XS} {d : Nat} {S : St} {x y v : Int32} (hI : isM x y = false) : Call X mX10_unit false (d + 2) [.ref (ad 10 0), .int x, .int y, .int v] (hp S) (.inl (some (.int (0))), hp (sm S 0 0 1), 0, 0) := by
  refine Call.of fX10_unit (by decide) rfl (by simp [Value.category]) (Nat.le_of_ble_eq_true rfl) (lv := [some (.ref (ad 10 0)), some (.int x), some (.int y), some (.int v), none]) rfl ?_
  refine x_bipush (v := 6) dX10_unit_0 (by decide) ?_
  refine x_iload_n dX10_unit_2 rfl ?_
  refine x_imul dX10_unit_3 ?_
  refine x_iload_n dX10_unit_4 rfl ?_
  refine x_iadd dX10_unit_5 ?_
  refine x_istore (lv' := [_, _, _, _, _]) dX10_unit_6 (by decide) rfl ?_
  refine x_aload_n dX10_unit_8 rfl ?_
  refine x_iload_n dX10_unit_9 rfl ?_
  refine x_iload_n dX10_unit_10 rfl ?_
  refine x_cS (as := [_, _]) dX10_unit_11 fX10_isMember rfl lk_RX10_160 rfl (Nat.le_of_ble_eq_true rfl) (c_isMember _ _) (by simp) (by simp) ?_
  refine x_if_neB (tgt := 21) dX10_unit_14 (by decide) (fun hc14 => by first | exact absurd hc14 (by simp [hI]) | exact absurd (by simp [hI]) hc14) (fun hc14 => ?_)
  refine x_iconst (v := 1) dX10_unit_17 (by decide) ?_
  refine x_goto (tgt := 63) dX10_unit_18 (by decide) ?_
  refine x_putM dX10_unit_63 fp_RX10_146 pm_0 ?_
  refine x_aload_n dX10_unit_66 rfl ?_
  refine x_get dX10_unit_67 fl_RX10_146 (hp_get (κ := 10) (by decide)) rfl ?_
  refine x_eqi (y := 1) rfl ?_
  refine x_if_le (tgt := 75) dX10_unit_70 (by decide) (fun hc70 => by first | exact absurd hc70 (by decide) | exact absurd (by decide) hc70) (fun hc70 => ?_)
  refine x_iconst (v := 0) dX10_unit_73 (by decide) ?_
  exact x_rI dX10_unit_74 rfl rfl rfl rfl (by simp) (by simp)
set_option maxRecDepth 100000 in
set_option maxHeartbeats 400000 in
theorem j_unitS {X : XS} {d : Nat} {S : St} {g m : Nat} (hg : g < 3) (hm : m < 6) (hI : isM (nI g) (nI m) = true) {v : Int32} (h5 : S.2.2.1 5 (6 * g + m) = 0 ∨ ¬ 3 ≤ S.2.2.1 7 (6 * g + m)) : Call X mX10_unit false (d + 2) [.ref (ad 10 0), .int (nI g), .int (nI m), .int v] (hp S) (.inl (some (.int (0))), hp (sm S 0 0 2), 0, 0) := by
  refine Call.of fX10_unit (by decide) rfl (by simp [Value.category]) (Nat.le_of_ble_eq_true rfl) (lv := [some (.ref (ad 10 0)), some (.int (nI g)), some (.int (nI m)), some (.int v), none]) rfl ?_
  refine x_bipush (v := 6) dX10_unit_0 (by decide) ?_
  refine x_iload_n dX10_unit_2 rfl ?_
  refine x_imul dX10_unit_3 ?_
  refine x_iload_n dX10_unit_4 rfl ?_
  refine x_iadd dX10_unit_5 ?_
  refine x_eqi (ix6 _ _) ?_
  refine x_istore (lv' := [_, _, _, _, _]) dX10_unit_6 (by decide) rfl ?_
  refine x_aload_n dX10_unit_8 rfl ?_
  refine x_iload_n dX10_unit_9 rfl ?_
  refine x_iload_n dX10_unit_10 rfl ?_
  refine x_cS (as := [_, _]) dX10_unit_11 fX10_isMember rfl lk_RX10_160 rfl (Nat.le_of_ble_eq_true rfl) (c_isMember _ _) (by simp) (by simp) ?_
  refine x_if_neB (tgt := 21) dX10_unit_14 (by decide) (fun hc14 => ?_) (fun hc14 => by first | exact absurd (by simp [hI]) hc14 | exact absurd hc14 (by simp [hI]))
  refine x_aload_n dX10_unit_21 rfl ?_
  refine x_get dX10_unit_22 fl_RX10_13 (hp_get (κ := 10) (by decide)) rfl ?_
  refine x_iload dX10_unit_25 rfl ?_
  refine y_zaldM (f := 5) (κ := 35) dX10_unit_27 am_5 rfl (by first | omega | exact sl16_lt _ | assumption) (by decide) ?_
  refine x_if_eq (tgt := 42) dX10_unit_28 (by decide) (fun hc28 => ?_) (fun hc28 => ?_)
  · refine x_iconst (v := 2) dX10_unit_42 (by decide) ?_
    refine x_goto (tgt := 63) dX10_unit_43 (by decide) ?_
    refine x_putM dX10_unit_63 fp_RX10_146 pm_0 ?_
    refine x_aload_n dX10_unit_66 rfl ?_
    refine x_get dX10_unit_67 fl_RX10_146 (hp_get (κ := 10) (by decide)) rfl ?_
    refine x_eqi (y := 2) rfl ?_
    refine x_if_le (tgt := 75) dX10_unit_70 (by decide) (fun hc70 => by first | exact absurd hc70 (by decide) | exact absurd (by decide) hc70) (fun hc70 => ?_)
    refine x_iconst (v := 0) dX10_unit_73 (by decide) ?_
    exact x_rI dX10_unit_74 rfl rfl rfl rfl (by simp) (by simp)
  · refine x_aload_n dX10_unit_31 rfl ?_
    refine x_get dX10_unit_32 fl_RX10_20 (hp_get (κ := 10) (by decide)) rfl ?_
    refine x_iload dX10_unit_35 rfl ?_
    refine y_ialdM (f := 7) (κ := 37) dX10_unit_37 am_7 rfl (by first | omega | exact sl16_lt _ | assumption) (by decide) ?_
    refine x_iconst (v := 3) dX10_unit_38 (by decide) ?_
    refine x_icmp_ge (tgt := 46) dX10_unit_39 (by decide) (fun hc39 => ?_) (fun hc39 => ?_)
    · exact (h5.elim hc28 (fun q => q hc39)).elim
    · refine x_iconst (v := 2) dX10_unit_42 (by decide) ?_
      refine x_goto (tgt := 63) dX10_unit_43 (by decide) ?_
      refine x_putM dX10_unit_63 fp_RX10_146 pm_0 ?_
      refine x_aload_n dX10_unit_66 rfl ?_
      refine x_get dX10_unit_67 fl_RX10_146 (hp_get (κ := 10) (by decide)) rfl ?_
      refine x_eqi (y := 2) rfl ?_
      refine x_if_le (tgt := 75) dX10_unit_70 (by decide) (fun hc70 => by first | exact absurd hc70 (by decide) | exact absurd (by decide) hc70) (fun hc70 => ?_)
      refine x_iconst (v := 0) dX10_unit_73 (by decide) ?_
      exact x_rI dX10_unit_74 rfl rfl rfl rfl (by simp) (by simp)
set_option maxRecDepth 100000 in
set_option maxHeartbeats 400000 in
theorem j_unitU {X : XS} {d : Nat} {S : St} {g m : Nat} (hg : g < 3) (hm : m < 6) (hI : isM (nI g) (nI m) = true) {v : Int32} (h5 : ¬ S.2.2.1 5 (6 * g + m) = 0) (h7 : 3 ≤ S.2.2.1 7 (6 * g + m)) (h12 : S.2.2.1 12 (6 * g + m) = 64) : Call X mX10_unit false (d + 2) [.ref (ad 10 0), .int (nI g), .int (nI m), .int v] (hp S) (.inl (some (.int (0))), hp (sm S 0 0 3), 0, 0) := by
  refine Call.of fX10_unit (by decide) rfl (by simp [Value.category]) (Nat.le_of_ble_eq_true rfl) (lv := [some (.ref (ad 10 0)), some (.int (nI g)), some (.int (nI m)), some (.int v), none]) rfl ?_
  refine x_bipush (v := 6) dX10_unit_0 (by decide) ?_
  refine x_iload_n dX10_unit_2 rfl ?_
  refine x_imul dX10_unit_3 ?_
  refine x_iload_n dX10_unit_4 rfl ?_
  refine x_iadd dX10_unit_5 ?_
  refine x_eqi (ix6 _ _) ?_
  refine x_istore (lv' := [_, _, _, _, _]) dX10_unit_6 (by decide) rfl ?_
  refine x_aload_n dX10_unit_8 rfl ?_
  refine x_iload_n dX10_unit_9 rfl ?_
  refine x_iload_n dX10_unit_10 rfl ?_
  refine x_cS (as := [_, _]) dX10_unit_11 fX10_isMember rfl lk_RX10_160 rfl (Nat.le_of_ble_eq_true rfl) (c_isMember _ _) (by simp) (by simp) ?_
  refine x_if_neB (tgt := 21) dX10_unit_14 (by decide) (fun hc14 => ?_) (fun hc14 => by first | exact absurd (by simp [hI]) hc14 | exact absurd hc14 (by simp [hI]))
  refine x_aload_n dX10_unit_21 rfl ?_
  refine x_get dX10_unit_22 fl_RX10_13 (hp_get (κ := 10) (by decide)) rfl ?_
  refine x_iload dX10_unit_25 rfl ?_
  refine y_zaldM (f := 5) (κ := 35) dX10_unit_27 am_5 rfl (by first | omega | exact sl16_lt _ | assumption) (by decide) ?_
  refine x_if_eq (tgt := 42) dX10_unit_28 (by decide) (fun hc28 => by first | exact absurd hc28 h5 | exact absurd h5 hc28) (fun hc28 => ?_)
  refine x_aload_n dX10_unit_31 rfl ?_
  refine x_get dX10_unit_32 fl_RX10_20 (hp_get (κ := 10) (by decide)) rfl ?_
  refine x_iload dX10_unit_35 rfl ?_
  refine y_ialdM (f := 7) (κ := 37) dX10_unit_37 am_7 rfl (by first | omega | exact sl16_lt _ | assumption) (by decide) ?_
  refine x_iconst (v := 3) dX10_unit_38 (by decide) ?_
  refine x_icmp_ge (tgt := 46) dX10_unit_39 (by decide) (fun hc39 => ?_) (fun hc39 => by first | exact absurd h7 hc39 | exact absurd hc39 h7)
  refine x_aload_n dX10_unit_46 rfl ?_
  refine x_get dX10_unit_47 fl_RX10_35 (hp_get (κ := 10) (by decide)) rfl ?_
  refine x_iload dX10_unit_50 rfl ?_
  refine y_ialdM (f := 12) (κ := 42) dX10_unit_52 am_12 rfl (by first | omega | exact sl16_lt _ | assumption) (by decide) ?_
  refine x_bipush (v := 64) dX10_unit_53 (by decide) ?_
  refine x_icmp_ne (tgt := 62) dX10_unit_55 (by decide) (fun hc55 => by first | exact absurd hc55 h12 | exact absurd h12 hc55) (fun hc55 => ?_)
  refine x_iconst (v := 3) dX10_unit_58 (by decide) ?_
  refine x_goto (tgt := 63) dX10_unit_59 (by decide) ?_
  refine x_putM dX10_unit_63 fp_RX10_146 pm_0 ?_
  refine x_aload_n dX10_unit_66 rfl ?_
  refine x_get dX10_unit_67 fl_RX10_146 (hp_get (κ := 10) (by decide)) rfl ?_
  refine x_eqi (y := 3) rfl ?_
  refine x_if_le (tgt := 75) dX10_unit_70 (by decide) (fun hc70 => by first | exact absurd hc70 (by decide) | exact absurd (by decide) hc70) (fun hc70 => ?_)
  refine x_iconst (v := 0) dX10_unit_73 (by decide) ?_
  exact x_rI dX10_unit_74 rfl rfl rfl rfl (by simp) (by simp)
set_option maxRecDepth 100000 in
set_option maxHeartbeats 400000 in
theorem j_messages {X : XS} {d : Nat} {S : St}  : Call X mX10_messages false d [.ref (ad 10 0)] (hp S) (.inl (some (.int ((sm S 0 0 0).2.2.1 3 0))), hp (sm S 0 0 0), 0, 0) := by
  refine Call.of fX10_messages (by decide) rfl (by simp [Value.category]) (Nat.le_of_ble_eq_true rfl) (lv := [some (.ref (ad 10 0))]) rfl ?_
  refine x_aload_n dX10_messages_0 rfl ?_
  refine x_iconst (v := 0) dX10_messages_1 (by decide) ?_
  refine x_putM dX10_messages_2 fp_RX10_146 pm_0 ?_
  refine x_aload_n dX10_messages_5 rfl ?_
  refine x_get dX10_messages_6 fl_RX10_154 (hp_get (κ := 10) (by decide)) rfl ?_
  exact x_rI dX10_messages_9 rfl rfl rfl rfl (by simp) (by simp)
set_option maxRecDepth 100000 in
set_option maxHeartbeats 400000 in
theorem j_lost {X : XS} {d : Nat} {S : St}  : Call X mX10_lost false d [.ref (ad 10 0)] (hp S) (.inl (some (.int ((sm S 0 0 0).2.2.1 2 0))), hp (sm S 0 0 0), 0, 0) := by
  refine Call.of fX10_lost (by decide) rfl (by simp [Value.category]) (Nat.le_of_ble_eq_true rfl) (lv := [some (.ref (ad 10 0))]) rfl ?_
  refine x_aload_n dX10_lost_0 rfl ?_
  refine x_iconst (v := 0) dX10_lost_1 (by decide) ?_
  refine x_putM dX10_lost_2 fp_RX10_146 pm_0 ?_
  refine x_aload_n dX10_lost_5 rfl ?_
  refine x_get dX10_lost_6 fl_RX10_157 (hp_get (κ := 10) (by decide)) rfl ?_
  exact x_rI dX10_lost_9 rfl rfl rfl rfl (by simp) (by simp)
set_option maxRecDepth 100000 in
set_option maxHeartbeats 400000 in
theorem j_thrown {X : XS} {d : Nat} {S : St}  : Call X mX10_thrown false d [.ref (ad 10 0)] (hp S) (.inl (some (.int (S.2.2.1 0 0))), hp (S), 0, 0) := by
  refine Call.of fX10_thrown (by decide) rfl (by simp [Value.category]) (Nat.le_of_ble_eq_true rfl) (lv := [some (.ref (ad 10 0))]) rfl ?_
  refine x_aload_n dX10_thrown_0 rfl ?_
  refine x_get dX10_thrown_1 fl_RX10_146 (hp_get (κ := 10) (by decide)) rfl ?_
  exact x_rI dX10_thrown_4 rfl rfl rfl rfl (by simp) (by simp)
def isMs (S : St) (x : Int32) : Bool := decide (¬ x < 0 ∧ ¬ S.2.2.1 3 0 ≤ x)
set_option maxRecDepth 100000 in
set_option maxHeartbeats 400000 in
theorem c_isMessage {X : XS} {d : Nat} {S : St} (x : Int32) : Call X mX10_isMessage false d [.ref (ad 10 0), .int x] (hp S) (.inl (some (.int (bI (isMs S x)))), hp (S), 0, 0) := by
  refine Call.of fX10_isMessage (by decide) rfl (by simp [Value.category]) (Nat.le_of_ble_eq_true rfl) (lv := [some (.ref (ad 10 0)), some (.int x)]) rfl ?_
  refine x_iload_n dX10_isMessage_0 rfl ?_
  refine x_if_lt (tgt := 16) dX10_isMessage_1 (by decide) (fun hc1 => ?_) (fun hc1 => ?_)
  · refine x_iconst (v := 0) dX10_isMessage_16 (by decide) ?_
    exact x_rI dX10_isMessage_17 rfl (by first | exact (bI_nf _).1 | decide) (by first | (simp [isMs, bI, hc1]; done) | (exfalso; simp_all; done)) rfl (by simp) (by simp)
  · refine x_iload_n dX10_isMessage_4 rfl ?_
    refine x_aload_n dX10_isMessage_5 rfl ?_
    refine x_get dX10_isMessage_6 fl_RX10_154 (hp_get (κ := 10) (by decide)) rfl ?_
    refine x_icmp_ge (tgt := 16) dX10_isMessage_9 (by decide) (fun hc9 => ?_) (fun hc9 => ?_)
    · refine x_iconst (v := 0) dX10_isMessage_16 (by decide) ?_
      exact x_rI dX10_isMessage_17 rfl (by first | exact (bI_nf _).1 | decide) (by first | (simp [isMs, bI, hc1, hc9]; done) | (exfalso; simp_all; done)) rfl (by simp) (by simp)
    · refine x_iconst (v := 1) dX10_isMessage_12 (by decide) ?_
      refine x_goto (tgt := 17) dX10_isMessage_13 (by decide) ?_
      exact x_rI dX10_isMessage_17 rfl (by first | exact (bI_nf _).1 | decide) (by first | (simp [isMs, bI, hc1, hc9]; done) | (exfalso; simp_all; done)) rfl (by simp) (by simp)
set_option maxRecDepth 100000 in
set_option maxHeartbeats 400000 in
theorem j_message {X : XS} {d : Nat} {S : St} {k j : Nat} (h0 : isMs S (nI k) = true) (h1 : wi (nI j) 0 5 = true) (hk : k < 60) (hj : j < 6) : Call X mX10_message false (d + 1) [.ref (ad 10 0), .int (nI k), .int (nI j)] (hp S) (.inl (some (.int ((sm S 0 0 0).2.2.1 4 (6 * k + j)))), hp (sm S 0 0 0), 0, 0) := by
  refine Call.of fX10_message (by decide) rfl (by simp [Value.category]) (Nat.le_of_ble_eq_true rfl) (lv := [some (.ref (ad 10 0)), some (.int (nI k)), some (.int (nI j))]) rfl ?_
  refine x_aload_n dX10_message_0 rfl ?_
  refine x_aload_n dX10_message_1 rfl ?_
  refine x_iload_n dX10_message_2 rfl ?_
  refine x_cV (as := [_]) dX10_message_3 fX10_isMessage rfl lk_RX10_209 rfl (hp_get (κ := 10) (by decide)) rfl rfl (Nat.le_of_ble_eq_true rfl) (c_isMessage _) (by simp) (by simp) ?_
  refine x_if_neB (tgt := 13) dX10_message_6 (by decide) (fun hc6 => ?_) (fun hc6 => by first | exact absurd (by simp [h0]) hc6 | exact absurd hc6 (by simp [h0]))
  refine x_iload_n dX10_message_13 rfl ?_
  refine x_iconst (v := 0) dX10_message_14 (by decide) ?_
  refine x_iconst (v := 5) dX10_message_15 (by decide) ?_
  refine x_cS (as := [_, _, _]) dX10_message_16 fX10_within rfl lk_RX10_150 rfl (Nat.le_of_ble_eq_true rfl) (c_within _ _ _) (by simp) (by simp) ?_
  refine x_if_neB (tgt := 26) dX10_message_19 (by decide) (fun hc19 => ?_) (fun hc19 => by first | exact absurd (by simp [h1]) hc19 | exact absurd hc19 (by simp [h1]))
  refine x_iconst (v := 0) dX10_message_26 (by decide) ?_
  refine x_putM dX10_message_27 fp_RX10_146 pm_0 ?_
  refine x_aload_n dX10_message_30 rfl ?_
  refine x_get dX10_message_31 fl_RX10_146 (hp_get (κ := 10) (by decide)) rfl ?_
  refine x_eqi (y := 0) rfl ?_
  refine x_if_le (tgt := 41) dX10_message_34 (by decide) (fun hc34 => ?_) (fun hc34 => by first | exact absurd (by decide) hc34 | exact absurd hc34 (by decide))
  refine x_aload_n dX10_message_41 rfl ?_
  refine x_get dX10_message_42 fl_RX10_7 (hp_get (κ := 10) (by decide)) rfl ?_
  refine x_bipush (v := 6) dX10_message_45 (by decide) ?_
  refine x_iload_n dX10_message_47 rfl ?_
  refine x_imul dX10_message_48 ?_
  refine x_iload_n dX10_message_49 rfl ?_
  refine x_iadd dX10_message_50 ?_
  refine x_eqi (ix6 _ _) ?_
  refine y_ialdM (f := 4) (κ := 34) dX10_message_51 am_4 rfl (by first | omega | exact sl16_lt _ | assumption) (by decide) ?_
  exact x_rI dX10_message_52 rfl rfl rfl rfl (by simp) (by simp)
set_option maxRecDepth 100000 in
set_option maxHeartbeats 400000 in
theorem j_messageN {X : XS} {d : Nat} {S : St} {x y : Int32} (h0 : isMs S x = false) : Call X mX10_message false (d + 1) [.ref (ad 10 0), .int x, .int y] (hp S) (.inl (some (.int (0))), hp (sm S 0 0 1), 0, 0) := by
  refine Call.of fX10_message (by decide) rfl (by simp [Value.category]) (Nat.le_of_ble_eq_true rfl) (lv := [some (.ref (ad 10 0)), some (.int x), some (.int y)]) rfl ?_
  refine x_aload_n dX10_message_0 rfl ?_
  refine x_aload_n dX10_message_1 rfl ?_
  refine x_iload_n dX10_message_2 rfl ?_
  refine x_cV (as := [_]) dX10_message_3 fX10_isMessage rfl lk_RX10_209 rfl (hp_get (κ := 10) (by decide)) rfl rfl (Nat.le_of_ble_eq_true rfl) (c_isMessage _) (by simp) (by simp) ?_
  refine x_if_neB (tgt := 13) dX10_message_6 (by decide) (fun hc6 => by first | exact absurd hc6 (by simp [h0]) | exact absurd (by simp [h0]) hc6) (fun hc6 => ?_)
  refine x_iconst (v := 1) dX10_message_9 (by decide) ?_
  refine x_goto (tgt := 27) dX10_message_10 (by decide) ?_
  refine x_putM dX10_message_27 fp_RX10_146 pm_0 ?_
  refine x_aload_n dX10_message_30 rfl ?_
  refine x_get dX10_message_31 fl_RX10_146 (hp_get (κ := 10) (by decide)) rfl ?_
  refine x_eqi (y := 1) rfl ?_
  refine x_if_le (tgt := 41) dX10_message_34 (by decide) (fun hc34 => by first | exact absurd hc34 (by decide) | exact absurd (by decide) hc34) (fun hc34 => ?_)
  refine x_iconst (v := 0) dX10_message_37 (by decide) ?_
  refine x_goto (tgt := 52) dX10_message_38 (by decide) ?_
  exact x_rI dX10_message_52 rfl rfl rfl rfl (by simp) (by simp)
set_option maxRecDepth 100000 in
set_option maxHeartbeats 400000 in
theorem j_messageI {X : XS} {d : Nat} {S : St} {x y : Int32} (h0 : isMs S x = true) (h1 : wi y 0 5 = false) : Call X mX10_message false (d + 1) [.ref (ad 10 0), .int x, .int y] (hp S) (.inl (some (.int (0))), hp (sm S 0 0 2), 0, 0) := by
  refine Call.of fX10_message (by decide) rfl (by simp [Value.category]) (Nat.le_of_ble_eq_true rfl) (lv := [some (.ref (ad 10 0)), some (.int x), some (.int y)]) rfl ?_
  refine x_aload_n dX10_message_0 rfl ?_
  refine x_aload_n dX10_message_1 rfl ?_
  refine x_iload_n dX10_message_2 rfl ?_
  refine x_cV (as := [_]) dX10_message_3 fX10_isMessage rfl lk_RX10_209 rfl (hp_get (κ := 10) (by decide)) rfl rfl (Nat.le_of_ble_eq_true rfl) (c_isMessage _) (by simp) (by simp) ?_
  refine x_if_neB (tgt := 13) dX10_message_6 (by decide) (fun hc6 => ?_) (fun hc6 => by first | exact absurd (by simp [h0]) hc6 | exact absurd hc6 (by simp [h0]))
  refine x_iload_n dX10_message_13 rfl ?_
  refine x_iconst (v := 0) dX10_message_14 (by decide) ?_
  refine x_iconst (v := 5) dX10_message_15 (by decide) ?_
  refine x_cS (as := [_, _, _]) dX10_message_16 fX10_within rfl lk_RX10_150 rfl (Nat.le_of_ble_eq_true rfl) (c_within _ _ _) (by simp) (by simp) ?_
  refine x_if_neB (tgt := 26) dX10_message_19 (by decide) (fun hc19 => by first | exact absurd hc19 (by simp [h1]) | exact absurd (by simp [h1]) hc19) (fun hc19 => ?_)
  refine x_iconst (v := 2) dX10_message_22 (by decide) ?_
  refine x_goto (tgt := 27) dX10_message_23 (by decide) ?_
  refine x_putM dX10_message_27 fp_RX10_146 pm_0 ?_
  refine x_aload_n dX10_message_30 rfl ?_
  refine x_get dX10_message_31 fl_RX10_146 (hp_get (κ := 10) (by decide)) rfl ?_
  refine x_eqi (y := 2) rfl ?_
  refine x_if_le (tgt := 41) dX10_message_34 (by decide) (fun hc34 => by first | exact absurd hc34 (by decide) | exact absurd (by decide) hc34) (fun hc34 => ?_)
  refine x_iconst (v := 0) dX10_message_37 (by decide) ?_
  refine x_goto (tgt := 52) dX10_message_38 (by decide) ?_
  exact x_rI dX10_message_52 rfl rfl rfl rfl (by simp) (by simp)
set_option maxRecDepth 100000 in
set_option maxHeartbeats 400000 in
theorem j_carry {X : XS} {d : Nat} {S : St} {k : Nat} (h0 : isMs S (nI k) = true) (h : ComOK (sm S 0 0 0) k) : Call X mX10_carry false (d + 7) [.ref (ad 10 0), .int (nI k)] (hp S) (.inl none, hp (ml_com (sm S 0 0 0) k true), 0, 0) := by
  refine Call.of fX10_carry (by decide) rfl (by simp [Value.category]) (Nat.le_of_ble_eq_true rfl) (lv := [some (.ref (ad 10 0)), some (.int (nI k))]) rfl ?_
  refine x_aload_n dX10_carry_0 rfl ?_
  refine x_aload_n dX10_carry_1 rfl ?_
  refine x_iload_n dX10_carry_2 rfl ?_
  refine x_cV (as := [_]) dX10_carry_3 fX10_isMessage rfl lk_RX10_209 rfl (hp_get (κ := 10) (by decide)) rfl rfl (Nat.le_of_ble_eq_true rfl) (c_isMessage _) (by simp) (by simp) ?_
  refine x_if_eqB (tgt := 13) dX10_carry_6 (by decide) (fun hc6 => by first | exact absurd hc6 (by simp [h0]) | exact absurd (by simp [h0]) hc6) (fun hc6 => ?_)
  refine x_iconst (v := 0) dX10_carry_9 (by decide) ?_
  refine x_goto (tgt := 14) dX10_carry_10 (by decide) ?_
  refine x_putM dX10_carry_14 fp_RX10_146 pm_0 ?_
  refine x_aload_n dX10_carry_17 rfl ?_
  refine x_get dX10_carry_18 fl_RX10_146 (hp_get (κ := 10) (by decide)) rfl ?_
  refine x_eqi (y := 0) rfl ?_
  refine x_if_ne (tgt := 30) dX10_carry_21 (by decide) (fun hc21 => by first | exact absurd hc21 (by decide) | exact absurd (by decide) hc21) (fun hc21 => ?_)
  refine x_aload_n dX10_carry_24 rfl ?_
  refine x_iload_n dX10_carry_25 rfl ?_
  refine x_iconst (v := 1) dX10_carry_26 (by decide) ?_
  refine x_cVv (as := [_, _]) dX10_carry_27 fX10_comes rfl lk_RX10_234 rfl (hp_get (κ := 10) (by decide)) rfl rfl (Nat.le_of_ble_eq_true rfl) (c_mCom true h) (by simp) (by simp) ?_
  exact x_rV dX10_carry_30 rfl rfl rfl (by simp) (by simp)
set_option maxRecDepth 100000 in
set_option maxHeartbeats 400000 in
theorem j_carryN {X : XS} {d : Nat} {S : St} {x : Int32} (h0 : isMs S x = false) : Call X mX10_carry false (d + 7) [.ref (ad 10 0), .int x] (hp S) (.inl none, hp (sm S 0 0 1), 0, 0) := by
  refine Call.of fX10_carry (by decide) rfl (by simp [Value.category]) (Nat.le_of_ble_eq_true rfl) (lv := [some (.ref (ad 10 0)), some (.int x)]) rfl ?_
  refine x_aload_n dX10_carry_0 rfl ?_
  refine x_aload_n dX10_carry_1 rfl ?_
  refine x_iload_n dX10_carry_2 rfl ?_
  refine x_cV (as := [_]) dX10_carry_3 fX10_isMessage rfl lk_RX10_209 rfl (hp_get (κ := 10) (by decide)) rfl rfl (Nat.le_of_ble_eq_true rfl) (c_isMessage _) (by simp) (by simp) ?_
  refine x_if_eqB (tgt := 13) dX10_carry_6 (by decide) (fun hc6 => ?_) (fun hc6 => by first | exact absurd (by simp [h0]) hc6 | exact absurd hc6 (by simp [h0]))
  refine x_iconst (v := 1) dX10_carry_13 (by decide) ?_
  refine x_putM dX10_carry_14 fp_RX10_146 pm_0 ?_
  refine x_aload_n dX10_carry_17 rfl ?_
  refine x_get dX10_carry_18 fl_RX10_146 (hp_get (κ := 10) (by decide)) rfl ?_
  refine x_eqi (y := 1) rfl ?_
  refine x_if_ne (tgt := 30) dX10_carry_21 (by decide) (fun hc21 => ?_) (fun hc21 => by first | exact absurd (by decide) hc21 | exact absurd hc21 (by decide))
  exact x_rV dX10_carry_30 rfl rfl rfl (by simp) (by simp)
set_option maxRecDepth 100000 in
set_option maxHeartbeats 400000 in
theorem j_twice {X : XS} {d : Nat} {S : St} {k : Nat} (h0 : isMs S (nI k) = true) (h : ComOK (sm S 0 0 0) k) : Call X mX10_twice false (d + 7) [.ref (ad 10 0), .int (nI k)] (hp S) (.inl none, hp (ml_com (sm S 0 0 0) k false), 0, 0) := by
  refine Call.of fX10_twice (by decide) rfl (by simp [Value.category]) (Nat.le_of_ble_eq_true rfl) (lv := [some (.ref (ad 10 0)), some (.int (nI k))]) rfl ?_
  refine x_aload_n dX10_twice_0 rfl ?_
  refine x_aload_n dX10_twice_1 rfl ?_
  refine x_iload_n dX10_twice_2 rfl ?_
  refine x_cV (as := [_]) dX10_twice_3 fX10_isMessage rfl lk_RX10_209 rfl (hp_get (κ := 10) (by decide)) rfl rfl (Nat.le_of_ble_eq_true rfl) (c_isMessage _) (by simp) (by simp) ?_
  refine x_if_eqB (tgt := 13) dX10_twice_6 (by decide) (fun hc6 => by first | exact absurd hc6 (by simp [h0]) | exact absurd (by simp [h0]) hc6) (fun hc6 => ?_)
  refine x_iconst (v := 0) dX10_twice_9 (by decide) ?_
  refine x_goto (tgt := 14) dX10_twice_10 (by decide) ?_
  refine x_putM dX10_twice_14 fp_RX10_146 pm_0 ?_
  refine x_aload_n dX10_twice_17 rfl ?_
  refine x_get dX10_twice_18 fl_RX10_146 (hp_get (κ := 10) (by decide)) rfl ?_
  refine x_eqi (y := 0) rfl ?_
  refine x_if_ne (tgt := 30) dX10_twice_21 (by decide) (fun hc21 => by first | exact absurd hc21 (by decide) | exact absurd (by decide) hc21) (fun hc21 => ?_)
  refine x_aload_n dX10_twice_24 rfl ?_
  refine x_iload_n dX10_twice_25 rfl ?_
  refine x_iconst (v := 0) dX10_twice_26 (by decide) ?_
  refine x_cVv (as := [_, _]) dX10_twice_27 fX10_comes rfl lk_RX10_234 rfl (hp_get (κ := 10) (by decide)) rfl rfl (Nat.le_of_ble_eq_true rfl) (c_mCom false h) (by simp) (by simp) ?_
  exact x_rV dX10_twice_30 rfl rfl rfl (by simp) (by simp)
set_option maxRecDepth 100000 in
set_option maxHeartbeats 400000 in
theorem j_twiceN {X : XS} {d : Nat} {S : St} {x : Int32} (h0 : isMs S x = false) : Call X mX10_twice false (d + 7) [.ref (ad 10 0), .int x] (hp S) (.inl none, hp (sm S 0 0 1), 0, 0) := by
  refine Call.of fX10_twice (by decide) rfl (by simp [Value.category]) (Nat.le_of_ble_eq_true rfl) (lv := [some (.ref (ad 10 0)), some (.int x)]) rfl ?_
  refine x_aload_n dX10_twice_0 rfl ?_
  refine x_aload_n dX10_twice_1 rfl ?_
  refine x_iload_n dX10_twice_2 rfl ?_
  refine x_cV (as := [_]) dX10_twice_3 fX10_isMessage rfl lk_RX10_209 rfl (hp_get (κ := 10) (by decide)) rfl rfl (Nat.le_of_ble_eq_true rfl) (c_isMessage _) (by simp) (by simp) ?_
  refine x_if_eqB (tgt := 13) dX10_twice_6 (by decide) (fun hc6 => ?_) (fun hc6 => by first | exact absurd (by simp [h0]) hc6 | exact absurd hc6 (by simp [h0]))
  refine x_iconst (v := 1) dX10_twice_13 (by decide) ?_
  refine x_putM dX10_twice_14 fp_RX10_146 pm_0 ?_
  refine x_aload_n dX10_twice_17 rfl ?_
  refine x_get dX10_twice_18 fl_RX10_146 (hp_get (κ := 10) (by decide)) rfl ?_
  refine x_eqi (y := 1) rfl ?_
  refine x_if_ne (tgt := 30) dX10_twice_21 (by decide) (fun hc21 => ?_) (fun hc21 => by first | exact absurd (by decide) hc21 | exact absurd hc21 (by decide))
  exact x_rV dX10_twice_30 rfl rfl rfl (by simp) (by simp)
set_option maxRecDepth 100000 in
set_option maxHeartbeats 400000 in
theorem j_drop {X : XS} {d : Nat} {S : St} {k : Nat} (h0 : isMs S (nI k) = true) (h : MO S) (hk : k < mC (sm S 0 0 0)) : Call X mX10_drop false (d + 7) [.ref (ad 10 0), .int (nI k)] (hp S) (.inl none, hp (ml_out (sm S 0 0 0) k), 0, 0) := by
  refine Call.of fX10_drop (by decide) rfl (by simp [Value.category]) (Nat.le_of_ble_eq_true rfl) (lv := [some (.ref (ad 10 0)), some (.int (nI k))]) rfl ?_
  refine x_aload_n dX10_drop_0 rfl ?_
  refine x_aload_n dX10_drop_1 rfl ?_
  refine x_iload_n dX10_drop_2 rfl ?_
  refine x_cV (as := [_]) dX10_drop_3 fX10_isMessage rfl lk_RX10_209 rfl (hp_get (κ := 10) (by decide)) rfl rfl (Nat.le_of_ble_eq_true rfl) (c_isMessage _) (by simp) (by simp) ?_
  refine x_if_eqB (tgt := 13) dX10_drop_6 (by decide) (fun hc6 => by first | exact absurd hc6 (by simp [h0]) | exact absurd (by simp [h0]) hc6) (fun hc6 => ?_)
  refine x_iconst (v := 0) dX10_drop_9 (by decide) ?_
  refine x_goto (tgt := 14) dX10_drop_10 (by decide) ?_
  refine x_putM dX10_drop_14 fp_RX10_146 pm_0 ?_
  refine x_aload_n dX10_drop_17 rfl ?_
  refine x_get dX10_drop_18 fl_RX10_146 (hp_get (κ := 10) (by decide)) rfl ?_
  refine x_eqi (y := 0) rfl ?_
  refine x_if_ne (tgt := 29) dX10_drop_21 (by decide) (fun hc21 => by first | exact absurd hc21 (by decide) | exact absurd (by decide) hc21) (fun hc21 => ?_)
  refine x_aload_n dX10_drop_24 rfl ?_
  refine x_iload_n dX10_drop_25 rfl ?_
  refine x_cVv (as := [_]) dX10_drop_26 fX10_takeOut rfl lk_RX10_213 rfl (hp_get (κ := 10) (by decide)) rfl rfl (Nat.le_of_ble_eq_true rfl) (c_mOut (h.sm (by decide)) hk) (by simp) (by simp) ?_
  exact x_rV dX10_drop_29 rfl rfl rfl (by simp) (by simp)
set_option maxRecDepth 100000 in
set_option maxHeartbeats 400000 in
theorem j_dropN {X : XS} {d : Nat} {S : St} {x : Int32} (h0 : isMs S x = false) : Call X mX10_drop false (d + 7) [.ref (ad 10 0), .int x] (hp S) (.inl none, hp (sm S 0 0 1), 0, 0) := by
  refine Call.of fX10_drop (by decide) rfl (by simp [Value.category]) (Nat.le_of_ble_eq_true rfl) (lv := [some (.ref (ad 10 0)), some (.int x)]) rfl ?_
  refine x_aload_n dX10_drop_0 rfl ?_
  refine x_aload_n dX10_drop_1 rfl ?_
  refine x_iload_n dX10_drop_2 rfl ?_
  refine x_cV (as := [_]) dX10_drop_3 fX10_isMessage rfl lk_RX10_209 rfl (hp_get (κ := 10) (by decide)) rfl rfl (Nat.le_of_ble_eq_true rfl) (c_isMessage _) (by simp) (by simp) ?_
  refine x_if_eqB (tgt := 13) dX10_drop_6 (by decide) (fun hc6 => ?_) (fun hc6 => by first | exact absurd (by simp [h0]) hc6 | exact absurd hc6 (by simp [h0]))
  refine x_iconst (v := 1) dX10_drop_13 (by decide) ?_
  refine x_putM dX10_drop_14 fp_RX10_146 pm_0 ?_
  refine x_aload_n dX10_drop_17 rfl ?_
  refine x_get dX10_drop_18 fl_RX10_146 (hp_get (κ := 10) (by decide)) rfl ?_
  refine x_eqi (y := 1) rfl ?_
  refine x_if_ne (tgt := 29) dX10_drop_21 (by decide) (fun hc21 => ?_) (fun hc21 => by first | exact absurd (by decide) hc21 | exact absurd hc21 (by decide))
  exact x_rV dX10_drop_29 rfl rfl rfl (by simp) (by simp)
def mrn (S : St) : Nat → St
  | 0 => S
  | j + 1 => ml_com (mrn S j) 0 true
theorem mrn_s {S : St} {j : Nat} : mrn S (j + 1) = ml_com (mrn S j) 0 true := by rw [mrn]
def mrk (S : St) : Nat → Nat → Nat
  | j, 0 => j
  | j, n + 1 => if (mrn S j).2.2.1 3 0 ≤ 0 then j else mrk S (j + 1) n
theorem mrk_0 {S : St} {j c : Nat} (h : (mrn S j).2.2.1 3 0 ≤ 0) : mrk S j (c + 1) = j := by rw [mrk, if_pos h]
theorem mrk_1 {S : St} {j c : Nat} (h : ¬ (mrn S j).2.2.1 3 0 ≤ 0) : mrk S j (c + 1) = mrk S (j + 1) c := by rw [mrk, if_neg h]
def MRunOK (S : St) (n : Nat) : Prop := ∀ j, j ≤ n → (mrn S j).2.2.1 0 0 = 0 ∧ (j < n → ¬ (mrn S j).2.2.1 3 0 ≤ 0 → ComOK (mrn S j) 0)
set_option maxRecDepth 100000 in
set_option maxHeartbeats 400000 in
theorem l_mRun {X : XS} {d : Nat} {S : St} {n : Nat} (hn : n ≤ 200) (hR : MRunOK S n) : ∀ c j, j + c = n → Ex X mX10_run false (d + 7) 22 [some (.ref (ad 10 0)), some (.int (nI n)), some (.int (nI j))] [] (hp (mrn S j)) 0 0 (.inl (some (.int (nI (mrk S j c)))), hp (mrn S (mrk S j c)), 0, 0) := by
  intro c
  induction c with
  | zero =>
    intro j hj
    have hj : j = n := by omega
    subst hj
    refine x_aload_n dX10_run_22 rfl ?_
    refine x_get dX10_run_23 fl_RX10_146 (hp_get (κ := 10) (by decide)) rfl ?_
    refine x_if_ne (tgt := 53) dX10_run_26 (by decide) (fun hc26 => by first | exact absurd hc26 (hR j (by omega)).1 | exact absurd (hR j (by omega)).1 hc26) (fun hc26 => ?_)
    refine x_iload_n dX10_run_29 rfl ?_
    refine x_iload_n dX10_run_30 rfl ?_
    refine x_icmp_ge (tgt := 53) dX10_run_31 (by decide) (fun hc31 => ?_) (fun hc31 => by first | exact absurd (Int32.le_refl _) hc31 | exact absurd hc31 (Int32.le_refl _))
    refine x_iload_n dX10_run_53 rfl ?_
    exact x_rI dX10_run_54 rfl rfl rfl rfl (by simp) (by simp)
  | succ c ih =>
    intro j hj
    refine x_aload_n dX10_run_22 rfl ?_
    refine x_get dX10_run_23 fl_RX10_146 (hp_get (κ := 10) (by decide)) rfl ?_
    refine x_if_ne (tgt := 53) dX10_run_26 (by decide) (fun hc26 => by first | exact absurd hc26 (hR j (by omega)).1 | exact absurd (hR j (by omega)).1 hc26) (fun hc26 => ?_)
    refine x_iload_n dX10_run_29 rfl ?_
    refine x_iload_n dX10_run_30 rfl ?_
    refine x_icmp_ge (tgt := 53) dX10_run_31 (by decide) (fun hc31 => by first | exact absurd hc31 (nI_ge (by omega) (by omega)) | exact absurd (nI_ge (by omega) (by omega)) hc31) (fun hc31 => ?_)
    refine x_aload_n dX10_run_34 rfl ?_
    refine x_get dX10_run_35 fl_RX10_154 (hp_get (κ := 10) (by decide)) rfl ?_
    refine x_if_le (tgt := 53) dX10_run_38 (by decide) (fun hc38 => ?_) (fun hc38 => ?_)
    · refine x_iload_n dX10_run_53 rfl ?_
      exact x_rI dX10_run_54 rfl rfl (by rw [mrk_0 hc38]) (by rw [mrk_0 hc38]) (by simp) (by simp)
    · refine x_aload_n dX10_run_41 rfl ?_
      refine x_iconst (v := 0) dX10_run_42 (by decide) ?_
      refine x_eqi (show (0 : Int32) = nI 0 from rfl) ?_
      refine x_iconst (v := 1) dX10_run_43 (by decide) ?_
      refine x_eqi (show (1 : Int32) = bI true from rfl) ?_
      refine x_cVv (as := [_, _]) dX10_run_44 fX10_comes rfl lk_RX10_234 rfl (hp_get (κ := 10) (by decide)) rfl rfl (Nat.le_of_ble_eq_true rfl) (c_mCom true ((hR j (by omega)).2 (by omega) hc38)) (by simp) (by simp) ?_
      refine x_iinc (v := _ + 1) (lv' := [_, _, _]) dX10_run_47 rfl rfl (by decide) rfl ?_
      refine x_goto (tgt := 22) dX10_run_50 (by decide) ?_
      rw [nI_1, mrk_1 hc38]
      refine x_heq (S2 := mrn S (j + 1)) mrn_s ?_
      exact ih (j + 1) (by omega)
set_option maxRecDepth 100000 in
set_option maxHeartbeats 400000 in
theorem j_run {X : XS} {d : Nat} {S : St} {n : Nat} (hn : n ≤ 200) (h0 : wi (nI n) 0 200 = true) (hR : MRunOK (sm S 0 0 0) n) : Call X mX10_run false (d + 7) [.ref (ad 10 0), .int (nI n)] (hp S) (.inl (some (.int (nI (mrk (sm S 0 0 0) 0 n)))), hp (mrn (sm S 0 0 0) (mrk (sm S 0 0 0) 0 n)), 0, 0) := by
  refine Call.of fX10_run (by decide) rfl (by simp [Value.category]) (Nat.le_of_ble_eq_true rfl) (lv := [some (.ref (ad 10 0)), some (.int (nI n)), none]) rfl ?_
  refine x_aload_n dX10_run_0 rfl ?_
  refine x_iload_n dX10_run_1 rfl ?_
  refine x_iconst (v := 0) dX10_run_2 (by decide) ?_
  refine x_sipush (v := 200) dX10_run_3 (by decide) ?_
  refine x_cS (as := [_, _, _]) dX10_run_6 fX10_within rfl lk_RX10_150 rfl (Nat.le_of_ble_eq_true rfl) (c_within _ _ _) (by simp) (by simp) ?_
  refine x_if_eqB (tgt := 16) dX10_run_9 (by decide) (fun hc9 => by first | exact absurd hc9 (by simp [h0]) | exact absurd (by simp [h0]) hc9) (fun hc9 => ?_)
  refine x_iconst (v := 0) dX10_run_12 (by decide) ?_
  refine x_goto (tgt := 17) dX10_run_13 (by decide) ?_
  refine x_putM dX10_run_17 fp_RX10_146 pm_0 ?_
  refine x_iconst (v := 0) dX10_run_20 (by decide) ?_
  refine x_istore_n (lv' := [_, _, _]) dX10_run_21 (by decide) rfl ?_
  exact l_mRun hn hR n 0 (by omega)
set_option maxRecDepth 100000 in
set_option maxHeartbeats 400000 in
theorem j_runN {X : XS} {d : Nat} {S : St} {x : Int32} (h0 : wi x 0 200 = false) : Call X mX10_run false (d + 7) [.ref (ad 10 0), .int x] (hp S) (.inl (some (.int (0))), hp (sm S 0 0 1), 0, 0) := by
  refine Call.of fX10_run (by decide) rfl (by simp [Value.category]) (Nat.le_of_ble_eq_true rfl) (lv := [some (.ref (ad 10 0)), some (.int x), none]) rfl ?_
  refine x_aload_n dX10_run_0 rfl ?_
  refine x_iload_n dX10_run_1 rfl ?_
  refine x_iconst (v := 0) dX10_run_2 (by decide) ?_
  refine x_sipush (v := 200) dX10_run_3 (by decide) ?_
  refine x_cS (as := [_, _, _]) dX10_run_6 fX10_within rfl lk_RX10_150 rfl (Nat.le_of_ble_eq_true rfl) (c_within _ _ _) (by simp) (by simp) ?_
  refine x_if_eqB (tgt := 16) dX10_run_9 (by decide) (fun hc9 => ?_) (fun hc9 => by first | exact absurd (by simp [h0]) hc9 | exact absurd hc9 (by simp [h0]))
  refine x_iconst (v := 1) dX10_run_16 (by decide) ?_
  refine x_putM dX10_run_17 fp_RX10_146 pm_0 ?_
  refine x_iconst (v := 0) dX10_run_20 (by decide) ?_
  refine x_istore_n (lv' := [_, _, _]) dX10_run_21 (by decide) rfl ?_
  refine x_aload_n dX10_run_22 rfl ?_
  refine x_get dX10_run_23 fl_RX10_146 (hp_get (κ := 10) (by decide)) rfl ?_
  refine x_eqi (y := 1) rfl ?_
  refine x_if_ne (tgt := 53) dX10_run_26 (by decide) (fun hc26 => ?_) (fun hc26 => by first | exact absurd (by decide) hc26 | exact absurd hc26 (by decide))
  refine x_iload_n dX10_run_53 rfl ?_
  exact x_rI dX10_run_54 rfl rfl rfl rfl (by simp) (by simp)
def mpl (S : St) (g : Nat) : Nat → St
  | 0 => S
  | n + 1 => ml_play (mpl S g n) (6 * g + n)
theorem mpl_s {S : St} {g n : Nat} : mpl S g (n + 1) = ml_play (mpl S g n) (6 * g + n) := by rw [mpl]
def mtk (S : St) : Nat → St
  | 0 => let S1 := sm S 0 0 0; sm S1 1 0 (S1.2.2.1 1 0 + 1)
  | g + 1 => mpl (ml_st (mtk S g) g) g 6
theorem mtk_0 {S : St} : mtk S 0 = sm (sm S 0 0 0) 1 0 ((sm S 0 0 0).2.2.1 1 0 + 1) := by rw [mtk]
theorem mtk_s {S : St} {g : Nat} : mtk S (g + 1) = mpl (ml_st (mtk S g) g) g 6 := by rw [mtk]
def NxOK (S : St) (i : Nat) : Prop := S.2.2.1 17 i = nI (mN S i) ∧ mN S i < 2 ^ 31
def MTickOK (S : St) : Prop := ∀ g, g < 3 → MI (mtk S g) g ∧ ∀ n, n < 6 → NxOK (mpl (ml_st (mtk S g) g) g n) (6 * g + n)
set_option maxRecDepth 100000 in
set_option maxHeartbeats 400000 in
theorem l_mTk1 {X : XS} {d : Nat} {S : St} {g : Nat} {r : Rs} (hg : g < 3) (hx : ∀ n, n < 6 → NxOK (mpl S g n) (6 * g + n)) (kk : Ex X mX10_tick false (d + 5) 17 [some (.ref (ad 10 0)), some (.int (nI g + 1)), some (.int (nI 6))] [] (hp (mpl S g 6)) 0 0 r) : ∀ c j, j + c = 6 → Ex X mX10_tick false (d + 5) 29 [some (.ref (ad 10 0)), some (.int (nI g)), some (.int (nI j))] [] (hp (mpl S g j)) 0 0 r := by
  intro c
  induction c with
  | zero =>
    intro j hj
    have hj6 : j = 6 := by omega
    subst hj6
    refine x_iload_n dX10_tick_29 rfl ?_
    refine x_bipush (v := 6) dX10_tick_30 (by decide) ?_
    refine x_icmp_ge (tgt := 51) dX10_tick_32 (by decide) (fun hc32 => ?_) (fun hc32 => by first | exact absurd (by decide) hc32 | exact absurd hc32 (by decide))
    refine x_iinc (v := _ + 1) (lv' := [_, _, _]) dX10_tick_51 rfl rfl (by decide) rfl ?_
    refine x_goto (tgt := 17) dX10_tick_54 (by decide) ?_
    exact kk
  | succ c ih =>
    intro j hj
    refine x_iload_n dX10_tick_29 rfl ?_
    refine x_bipush (v := 6) dX10_tick_30 (by decide) ?_
    refine x_icmp_ge (tgt := 51) dX10_tick_32 (by decide) (fun hc32 => by first | exact absurd hc32 (nI_ge (b := 6) (by omega) (by decide)) | exact absurd (nI_ge (b := 6) (by omega) (by decide)) hc32) (fun hc32 => ?_)
    refine x_aload_n dX10_tick_35 rfl ?_
    refine x_bipush (v := 6) dX10_tick_36 (by decide) ?_
    refine x_iload_n dX10_tick_38 rfl ?_
    refine x_imul dX10_tick_39 ?_
    refine x_iload_n dX10_tick_40 rfl ?_
    refine x_iadd dX10_tick_41 ?_
    refine x_eqi (ix6 _ _) ?_
    refine x_cVv (as := [_]) dX10_tick_42 fX10_play rfl lk_RX10_241 rfl (hp_get (κ := 10) (by decide)) rfl rfl (Nat.le_of_ble_eq_true rfl) (c_mPlay (by omega) (hx j (by omega))) (by simp) (by simp) ?_
    refine x_iinc (v := _ + 1) (lv' := [_, _, _]) dX10_tick_45 rfl rfl (by decide) rfl ?_
    refine x_goto (tgt := 29) dX10_tick_48 (by decide) ?_
    rw [nI_1]
    refine x_heq (S2 := mpl S g (j + 1)) mpl_s ?_
    exact ih (j + 1) (by omega)
set_option maxRecDepth 100000 in
set_option maxHeartbeats 400000 in
theorem l_mTk {X : XS} {d : Nat} {S : St} (hT : MTickOK S) : ∀ c j x2, j + c = 3 → Ex X mX10_tick false (d + 5) 17 [some (.ref (ad 10 0)), some (.int (nI j)), x2] [] (hp (mtk S j)) 0 0 (.inl (some (.int ((mtk S 3).2.2.1 1 0))), hp (mtk S 3), 0, 0) := by
  intro c
  induction c with
  | zero =>
    intro j x2 hj
    have hj6 : j = 3 := by omega
    subst hj6
    refine x_iload_n dX10_tick_17 rfl ?_
    refine x_iconst (v := 3) dX10_tick_18 (by decide) ?_
    refine x_icmp_ge (tgt := 57) dX10_tick_19 (by decide) (fun hc19 => ?_) (fun hc19 => by first | exact absurd (by decide) hc19 | exact absurd hc19 (by decide))
    refine x_aload_n dX10_tick_57 rfl ?_
    refine x_get dX10_tick_58 fl_RX10_179 (hp_get (κ := 10) (by decide)) rfl ?_
    exact x_rI dX10_tick_61 rfl rfl rfl rfl (by simp) (by simp)
  | succ c ih =>
    intro j x2 hj
    refine x_iload_n dX10_tick_17 rfl ?_
    refine x_iconst (v := 3) dX10_tick_18 (by decide) ?_
    refine x_icmp_ge (tgt := 57) dX10_tick_19 (by decide) (fun hc19 => by first | exact absurd hc19 (nI_ge (b := 3) (by omega) (by decide)) | exact absurd (nI_ge (b := 3) (by omega) (by decide)) hc19) (fun hc19 => ?_)
    refine x_aload_n dX10_tick_22 rfl ?_
    refine x_iload_n dX10_tick_23 rfl ?_
    refine x_cVv (as := [_]) dX10_tick_24 fX10_serverTick rfl lk_RX10_238 rfl (hp_get (κ := 10) (by decide)) rfl rfl (Nat.le_of_ble_eq_true rfl) (c_mSt (by omega) (hT j (by omega)).1) (by simp) (by simp) ?_
    refine x_iconst (v := 0) dX10_tick_27 (by decide) ?_
    refine x_istore_n (lv' := [_, _, _]) dX10_tick_28 (by decide) rfl ?_
    refine l_mTk1 (by omega) (hT j (by omega)).2 ?_ 6 0 (by omega)
    rw [nI_1]
    refine x_heq (S2 := mtk S (j + 1)) mtk_s ?_
    exact ih (j + 1) _ (by omega)
set_option maxRecDepth 100000 in
set_option maxHeartbeats 400000 in
theorem j_tick {X : XS} {d : Nat} {S : St} (hT : MTickOK S) : Call X mX10_tick false (d + 5) [.ref (ad 10 0)] (hp S) (.inl (some (.int ((mtk S 3).2.2.1 1 0))), hp (mtk S 3), 0, 0) := by
  refine Call.of fX10_tick (by decide) rfl (by simp [Value.category]) (Nat.le_of_ble_eq_true rfl) (lv := [some (.ref (ad 10 0)), none, none]) rfl ?_
  refine x_aload_n dX10_tick_0 rfl ?_
  refine x_iconst (v := 0) dX10_tick_1 (by decide) ?_
  refine x_putM dX10_tick_2 fp_RX10_146 pm_0 ?_
  refine x_aload_n dX10_tick_5 rfl ?_
  refine x_dup dX10_tick_6 rfl ?_
  refine x_get dX10_tick_7 fl_RX10_179 (hp_get (κ := 10) (by decide)) rfl ?_
  refine x_iconst (v := 1) dX10_tick_10 (by decide) ?_
  refine x_iadd dX10_tick_11 ?_
  refine x_putM dX10_tick_12 fp_RX10_179 pm_1 ?_
  refine x_iconst (v := 0) dX10_tick_15 (by decide) ?_
  refine x_istore_n (lv' := [_, _, _]) dX10_tick_16 (by decide) rfl ?_
  refine x_heq (S2 := mtk S 0) mtk_0 ?_
  exact l_mTk hT 3 0 _ (by omega)
def ml_sv (S : St) (g j : Nat) : Int32 := if j = 0 then S.2.2.1 34 g else if j = 1 then S.2.2.1 35 g else if j = 2 then nI (ml_wc S g) else if j = 3 then (if S.2.2.1 35 g < 0 then 0 else if S.2.2.1 36 g < 0 then 0 else 1) else if j = 4 then (if 0 ≤ S.2.2.1 35 g then S.2.2.1 37 g else -1) else (if 0 ≤ S.2.2.1 35 g then S.2.2.1 38 g else -1)
set_option maxRecDepth 100000 in
set_option maxHeartbeats 400000 in
theorem j_server_0 {X : XS} {d : Nat} {S : St} {g : Nat} (hg : g < 3) (h0 : wi (nI g) 0 2 = true) (h1 : wi (nI 0) 0 5 = true) : Call X mX10_server false (d + 1) [.ref (ad 10 0), .int (nI g), .int (nI 0)] (hp S) (.inl (some (.int (ml_sv (sm S 0 0 0) g 0))), hp (sm S 0 0 0), 0, 0) := by
  refine Call.of fX10_server (by decide) rfl (by simp [Value.category]) (Nat.le_of_ble_eq_true rfl) (lv := [some (.ref (ad 10 0)), some (.int (nI g)), some (.int (nI 0))]) rfl ?_
  refine x_aload_n dX10_server_0 rfl ?_
  refine x_iload_n dX10_server_1 rfl ?_
  refine x_iconst (v := 0) dX10_server_2 (by decide) ?_
  refine x_iconst (v := 2) dX10_server_3 (by decide) ?_
  refine x_cS (as := [_, _, _]) dX10_server_4 fX10_within rfl lk_RX10_150 rfl (Nat.le_of_ble_eq_true rfl) (c_within _ _ _) (by simp) (by simp) ?_
  refine x_if_neB (tgt := 14) dX10_server_7 (by decide) (fun hc7 => ?_) (fun hc7 => by first | exact absurd (by simp [h0]) hc7 | exact absurd hc7 (by simp [h0]))
  refine x_iload_n dX10_server_14 rfl ?_
  refine x_iconst (v := 0) dX10_server_15 (by decide) ?_
  refine x_iconst (v := 5) dX10_server_16 (by decide) ?_
  refine x_cS (as := [_, _, _]) dX10_server_17 fX10_within rfl lk_RX10_150 rfl (Nat.le_of_ble_eq_true rfl) (c_within _ _ _) (by simp) (by simp) ?_
  refine x_if_neB (tgt := 27) dX10_server_20 (by decide) (fun hc20 => ?_) (fun hc20 => by first | exact absurd (by simp [h1]) hc20 | exact absurd hc20 (by simp [h1]))
  refine x_iconst (v := 0) dX10_server_27 (by decide) ?_
  refine x_putM dX10_server_28 fp_RX10_146 pm_0 ?_
  refine x_aload_n dX10_server_31 rfl ?_
  refine x_get dX10_server_32 fl_RX10_146 (hp_get (κ := 10) (by decide)) rfl ?_
  refine x_eqi (y := 0) rfl ?_
  refine x_if_le (tgt := 40) dX10_server_35 (by decide) (fun hc35 => ?_) (fun hc35 => by first | exact absurd (by decide) hc35 | exact absurd hc35 (by decide))
  refine x_iload_n dX10_server_40 rfl ?_
  refine x_tableIn (tgt := 76) (off := 35) dX10_server_41 (by decide) (by decide) (by decide) (by decide) ?_
  refine x_aload_n dX10_server_76 rfl ?_
  refine x_get dX10_server_77 fl_RX10_101 (hp_get (κ := 10) (by decide)) rfl ?_
  refine x_iload_n dX10_server_80 rfl ?_
  refine y_ialdM (f := 34) (κ := 64) dX10_server_81 am_34 rfl (by first | omega | exact sl16_lt _ | assumption) (by decide) ?_
  exact x_rI dX10_server_82 rfl rfl (by unfold ml_sv; simp [hc7, hc20, hc35]) rfl (by simp) (by simp)
set_option maxRecDepth 100000 in
set_option maxHeartbeats 400000 in
theorem j_server_1 {X : XS} {d : Nat} {S : St} {g : Nat} (hg : g < 3) (h0 : wi (nI g) 0 2 = true) (h1 : wi (nI 1) 0 5 = true) : Call X mX10_server false (d + 1) [.ref (ad 10 0), .int (nI g), .int (nI 1)] (hp S) (.inl (some (.int (ml_sv (sm S 0 0 0) g 1))), hp (sm S 0 0 0), 0, 0) := by
  refine Call.of fX10_server (by decide) rfl (by simp [Value.category]) (Nat.le_of_ble_eq_true rfl) (lv := [some (.ref (ad 10 0)), some (.int (nI g)), some (.int (nI 1))]) rfl ?_
  refine x_aload_n dX10_server_0 rfl ?_
  refine x_iload_n dX10_server_1 rfl ?_
  refine x_iconst (v := 0) dX10_server_2 (by decide) ?_
  refine x_iconst (v := 2) dX10_server_3 (by decide) ?_
  refine x_cS (as := [_, _, _]) dX10_server_4 fX10_within rfl lk_RX10_150 rfl (Nat.le_of_ble_eq_true rfl) (c_within _ _ _) (by simp) (by simp) ?_
  refine x_if_neB (tgt := 14) dX10_server_7 (by decide) (fun hc7 => ?_) (fun hc7 => by first | exact absurd (by simp [h0]) hc7 | exact absurd hc7 (by simp [h0]))
  refine x_iload_n dX10_server_14 rfl ?_
  refine x_iconst (v := 0) dX10_server_15 (by decide) ?_
  refine x_iconst (v := 5) dX10_server_16 (by decide) ?_
  refine x_cS (as := [_, _, _]) dX10_server_17 fX10_within rfl lk_RX10_150 rfl (Nat.le_of_ble_eq_true rfl) (c_within _ _ _) (by simp) (by simp) ?_
  refine x_if_neB (tgt := 27) dX10_server_20 (by decide) (fun hc20 => ?_) (fun hc20 => by first | exact absurd (by simp [h1]) hc20 | exact absurd hc20 (by simp [h1]))
  refine x_iconst (v := 0) dX10_server_27 (by decide) ?_
  refine x_putM dX10_server_28 fp_RX10_146 pm_0 ?_
  refine x_aload_n dX10_server_31 rfl ?_
  refine x_get dX10_server_32 fl_RX10_146 (hp_get (κ := 10) (by decide)) rfl ?_
  refine x_eqi (y := 0) rfl ?_
  refine x_if_le (tgt := 40) dX10_server_35 (by decide) (fun hc35 => ?_) (fun hc35 => by first | exact absurd (by decide) hc35 | exact absurd hc35 (by decide))
  refine x_iload_n dX10_server_40 rfl ?_
  refine x_tableIn (tgt := 83) (off := 42) dX10_server_41 (by decide) (by decide) (by decide) (by decide) ?_
  refine x_aload_n dX10_server_83 rfl ?_
  refine x_get dX10_server_84 fl_RX10_104 (hp_get (κ := 10) (by decide)) rfl ?_
  refine x_iload_n dX10_server_87 rfl ?_
  refine y_ialdM (f := 35) (κ := 65) dX10_server_88 am_35 rfl (by first | omega | exact sl16_lt _ | assumption) (by decide) ?_
  exact x_rI dX10_server_89 rfl rfl (by unfold ml_sv; simp [hc7, hc20, hc35]) rfl (by simp) (by simp)
set_option maxRecDepth 100000 in
set_option maxHeartbeats 400000 in
theorem j_server_2 {X : XS} {d : Nat} {S : St} {g : Nat} (hg : g < 3) (h0 : wi (nI g) 0 2 = true) (h1 : wi (nI 2) 0 5 = true) : Call X mX10_server false (d + 1) [.ref (ad 10 0), .int (nI g), .int (nI 2)] (hp S) (.inl (some (.int (ml_sv (sm S 0 0 0) g 2))), hp (sm S 0 0 0), 0, 0) := by
  refine Call.of fX10_server (by decide) rfl (by simp [Value.category]) (Nat.le_of_ble_eq_true rfl) (lv := [some (.ref (ad 10 0)), some (.int (nI g)), some (.int (nI 2))]) rfl ?_
  refine x_aload_n dX10_server_0 rfl ?_
  refine x_iload_n dX10_server_1 rfl ?_
  refine x_iconst (v := 0) dX10_server_2 (by decide) ?_
  refine x_iconst (v := 2) dX10_server_3 (by decide) ?_
  refine x_cS (as := [_, _, _]) dX10_server_4 fX10_within rfl lk_RX10_150 rfl (Nat.le_of_ble_eq_true rfl) (c_within _ _ _) (by simp) (by simp) ?_
  refine x_if_neB (tgt := 14) dX10_server_7 (by decide) (fun hc7 => ?_) (fun hc7 => by first | exact absurd (by simp [h0]) hc7 | exact absurd hc7 (by simp [h0]))
  refine x_iload_n dX10_server_14 rfl ?_
  refine x_iconst (v := 0) dX10_server_15 (by decide) ?_
  refine x_iconst (v := 5) dX10_server_16 (by decide) ?_
  refine x_cS (as := [_, _, _]) dX10_server_17 fX10_within rfl lk_RX10_150 rfl (Nat.le_of_ble_eq_true rfl) (c_within _ _ _) (by simp) (by simp) ?_
  refine x_if_neB (tgt := 27) dX10_server_20 (by decide) (fun hc20 => ?_) (fun hc20 => by first | exact absurd (by simp [h1]) hc20 | exact absurd hc20 (by simp [h1]))
  refine x_iconst (v := 0) dX10_server_27 (by decide) ?_
  refine x_putM dX10_server_28 fp_RX10_146 pm_0 ?_
  refine x_aload_n dX10_server_31 rfl ?_
  refine x_get dX10_server_32 fl_RX10_146 (hp_get (κ := 10) (by decide)) rfl ?_
  refine x_eqi (y := 0) rfl ?_
  refine x_if_le (tgt := 40) dX10_server_35 (by decide) (fun hc35 => ?_) (fun hc35 => by first | exact absurd (by decide) hc35 | exact absurd hc35 (by decide))
  refine x_iload_n dX10_server_40 rfl ?_
  refine x_tableIn (tgt := 90) (off := 49) dX10_server_41 (by decide) (by decide) (by decide) (by decide) ?_
  refine x_aload_n dX10_server_90 rfl ?_
  refine x_iload_n dX10_server_91 rfl ?_
  refine x_cV (as := [_]) dX10_server_92 fX10_waitCount rfl lk_RX10_203 rfl (hp_get (κ := 10) (by decide)) rfl rfl (Nat.le_of_ble_eq_true rfl) (c_mWc hg) (by simp) (by simp) ?_
  exact x_rI dX10_server_95 rfl rfl (by unfold ml_sv; simp [hc7, hc20, hc35]) rfl (by simp) (by simp)
set_option maxRecDepth 100000 in
set_option maxHeartbeats 400000 in
theorem j_server_3 {X : XS} {d : Nat} {S : St} {g : Nat} (hg : g < 3) (h0 : wi (nI g) 0 2 = true) (h1 : wi (nI 3) 0 5 = true) : Call X mX10_server false (d + 1) [.ref (ad 10 0), .int (nI g), .int (nI 3)] (hp S) (.inl (some (.int (ml_sv (sm S 0 0 0) g 3))), hp (sm S 0 0 0), 0, 0) := by
  refine Call.of fX10_server (by decide) rfl (by simp [Value.category]) (Nat.le_of_ble_eq_true rfl) (lv := [some (.ref (ad 10 0)), some (.int (nI g)), some (.int (nI 3))]) rfl ?_
  refine x_aload_n dX10_server_0 rfl ?_
  refine x_iload_n dX10_server_1 rfl ?_
  refine x_iconst (v := 0) dX10_server_2 (by decide) ?_
  refine x_iconst (v := 2) dX10_server_3 (by decide) ?_
  refine x_cS (as := [_, _, _]) dX10_server_4 fX10_within rfl lk_RX10_150 rfl (Nat.le_of_ble_eq_true rfl) (c_within _ _ _) (by simp) (by simp) ?_
  refine x_if_neB (tgt := 14) dX10_server_7 (by decide) (fun hc7 => ?_) (fun hc7 => by first | exact absurd (by simp [h0]) hc7 | exact absurd hc7 (by simp [h0]))
  refine x_iload_n dX10_server_14 rfl ?_
  refine x_iconst (v := 0) dX10_server_15 (by decide) ?_
  refine x_iconst (v := 5) dX10_server_16 (by decide) ?_
  refine x_cS (as := [_, _, _]) dX10_server_17 fX10_within rfl lk_RX10_150 rfl (Nat.le_of_ble_eq_true rfl) (c_within _ _ _) (by simp) (by simp) ?_
  refine x_if_neB (tgt := 27) dX10_server_20 (by decide) (fun hc20 => ?_) (fun hc20 => by first | exact absurd (by simp [h1]) hc20 | exact absurd hc20 (by simp [h1]))
  refine x_iconst (v := 0) dX10_server_27 (by decide) ?_
  refine x_putM dX10_server_28 fp_RX10_146 pm_0 ?_
  refine x_aload_n dX10_server_31 rfl ?_
  refine x_get dX10_server_32 fl_RX10_146 (hp_get (κ := 10) (by decide)) rfl ?_
  refine x_eqi (y := 0) rfl ?_
  refine x_if_le (tgt := 40) dX10_server_35 (by decide) (fun hc35 => ?_) (fun hc35 => by first | exact absurd (by decide) hc35 | exact absurd hc35 (by decide))
  refine x_iload_n dX10_server_40 rfl ?_
  refine x_tableIn (tgt := 96) (off := 55) dX10_server_41 (by decide) (by decide) (by decide) (by decide) ?_
  refine x_aload_n dX10_server_96 rfl ?_
  refine x_get dX10_server_97 fl_RX10_104 (hp_get (κ := 10) (by decide)) rfl ?_
  refine x_iload_n dX10_server_100 rfl ?_
  refine y_ialdM (f := 35) (κ := 65) dX10_server_101 am_35 rfl (by first | omega | exact sl16_lt _ | assumption) (by decide) ?_
  refine x_if_lt (tgt := 118) dX10_server_102 (by decide) (fun hc102 => ?_) (fun hc102 => ?_)
  · refine x_iconst (v := 0) dX10_server_118 (by decide) ?_
    exact x_rI dX10_server_119 rfl rfl (by unfold ml_sv; simp [hc7, hc20, hc35, hc102]) rfl (by simp) (by simp)
  · refine x_aload_n dX10_server_105 rfl ?_
    refine x_get dX10_server_106 fl_RX10_107 (hp_get (κ := 10) (by decide)) rfl ?_
    refine x_iload_n dX10_server_109 rfl ?_
    refine y_ialdM (f := 36) (κ := 66) dX10_server_110 am_36 rfl (by first | omega | exact sl16_lt _ | assumption) (by decide) ?_
    refine x_if_lt (tgt := 118) dX10_server_111 (by decide) (fun hc111 => ?_) (fun hc111 => ?_)
    · refine x_iconst (v := 0) dX10_server_118 (by decide) ?_
      exact x_rI dX10_server_119 rfl rfl (by unfold ml_sv; simp [hc7, hc20, hc35, hc102, hc111]) rfl (by simp) (by simp)
    · refine x_iconst (v := 1) dX10_server_114 (by decide) ?_
      refine x_goto (tgt := 119) dX10_server_115 (by decide) ?_
      exact x_rI dX10_server_119 rfl rfl (by unfold ml_sv; simp [hc7, hc20, hc35, hc102, hc111]) rfl (by simp) (by simp)
set_option maxRecDepth 100000 in
set_option maxHeartbeats 400000 in
theorem j_server_4 {X : XS} {d : Nat} {S : St} {g : Nat} (hg : g < 3) (h0 : wi (nI g) 0 2 = true) (h1 : wi (nI 4) 0 5 = true) : Call X mX10_server false (d + 1) [.ref (ad 10 0), .int (nI g), .int (nI 4)] (hp S) (.inl (some (.int (ml_sv (sm S 0 0 0) g 4))), hp (sm S 0 0 0), 0, 0) := by
  refine Call.of fX10_server (by decide) rfl (by simp [Value.category]) (Nat.le_of_ble_eq_true rfl) (lv := [some (.ref (ad 10 0)), some (.int (nI g)), some (.int (nI 4))]) rfl ?_
  refine x_aload_n dX10_server_0 rfl ?_
  refine x_iload_n dX10_server_1 rfl ?_
  refine x_iconst (v := 0) dX10_server_2 (by decide) ?_
  refine x_iconst (v := 2) dX10_server_3 (by decide) ?_
  refine x_cS (as := [_, _, _]) dX10_server_4 fX10_within rfl lk_RX10_150 rfl (Nat.le_of_ble_eq_true rfl) (c_within _ _ _) (by simp) (by simp) ?_
  refine x_if_neB (tgt := 14) dX10_server_7 (by decide) (fun hc7 => ?_) (fun hc7 => by first | exact absurd (by simp [h0]) hc7 | exact absurd hc7 (by simp [h0]))
  refine x_iload_n dX10_server_14 rfl ?_
  refine x_iconst (v := 0) dX10_server_15 (by decide) ?_
  refine x_iconst (v := 5) dX10_server_16 (by decide) ?_
  refine x_cS (as := [_, _, _]) dX10_server_17 fX10_within rfl lk_RX10_150 rfl (Nat.le_of_ble_eq_true rfl) (c_within _ _ _) (by simp) (by simp) ?_
  refine x_if_neB (tgt := 27) dX10_server_20 (by decide) (fun hc20 => ?_) (fun hc20 => by first | exact absurd (by simp [h1]) hc20 | exact absurd hc20 (by simp [h1]))
  refine x_iconst (v := 0) dX10_server_27 (by decide) ?_
  refine x_putM dX10_server_28 fp_RX10_146 pm_0 ?_
  refine x_aload_n dX10_server_31 rfl ?_
  refine x_get dX10_server_32 fl_RX10_146 (hp_get (κ := 10) (by decide)) rfl ?_
  refine x_eqi (y := 0) rfl ?_
  refine x_if_le (tgt := 40) dX10_server_35 (by decide) (fun hc35 => ?_) (fun hc35 => by first | exact absurd (by decide) hc35 | exact absurd hc35 (by decide))
  refine x_iload_n dX10_server_40 rfl ?_
  refine x_tableIn (tgt := 120) (off := 79) dX10_server_41 (by decide) (by decide) (by decide) (by decide) ?_
  refine x_aload_n dX10_server_120 rfl ?_
  refine x_get dX10_server_121 fl_RX10_104 (hp_get (κ := 10) (by decide)) rfl ?_
  refine x_iload_n dX10_server_124 rfl ?_
  refine y_ialdM (f := 35) (κ := 65) dX10_server_125 am_35 rfl (by first | omega | exact sl16_lt _ | assumption) (by decide) ?_
  refine x_if_ge (tgt := 133) dX10_server_126 (by decide) (fun hc126 => ?_) (fun hc126 => ?_)
  · refine x_aload_n dX10_server_133 rfl ?_
    refine x_get dX10_server_134 fl_RX10_110 (hp_get (κ := 10) (by decide)) rfl ?_
    refine x_iload_n dX10_server_137 rfl ?_
    refine y_ialdM (f := 37) (κ := 67) dX10_server_138 am_37 rfl (by first | omega | exact sl16_lt _ | assumption) (by decide) ?_
    exact x_rI dX10_server_139 rfl rfl (by unfold ml_sv; simp [hc7, hc20, hc35, hc126]) rfl (by simp) (by simp)
  · refine x_iconst (v := (-1)) dX10_server_129 (by decide) ?_
    refine x_goto (tgt := 139) dX10_server_130 (by decide) ?_
    exact x_rI dX10_server_139 rfl rfl (by unfold ml_sv; simp [hc7, hc20, hc35, hc126]) rfl (by simp) (by simp)
set_option maxRecDepth 100000 in
set_option maxHeartbeats 400000 in
theorem j_server_5 {X : XS} {d : Nat} {S : St} {g : Nat} (hg : g < 3) (h0 : wi (nI g) 0 2 = true) (h1 : wi (nI 5) 0 5 = true) : Call X mX10_server false (d + 1) [.ref (ad 10 0), .int (nI g), .int (nI 5)] (hp S) (.inl (some (.int (ml_sv (sm S 0 0 0) g 5))), hp (sm S 0 0 0), 0, 0) := by
  refine Call.of fX10_server (by decide) rfl (by simp [Value.category]) (Nat.le_of_ble_eq_true rfl) (lv := [some (.ref (ad 10 0)), some (.int (nI g)), some (.int (nI 5))]) rfl ?_
  refine x_aload_n dX10_server_0 rfl ?_
  refine x_iload_n dX10_server_1 rfl ?_
  refine x_iconst (v := 0) dX10_server_2 (by decide) ?_
  refine x_iconst (v := 2) dX10_server_3 (by decide) ?_
  refine x_cS (as := [_, _, _]) dX10_server_4 fX10_within rfl lk_RX10_150 rfl (Nat.le_of_ble_eq_true rfl) (c_within _ _ _) (by simp) (by simp) ?_
  refine x_if_neB (tgt := 14) dX10_server_7 (by decide) (fun hc7 => ?_) (fun hc7 => by first | exact absurd (by simp [h0]) hc7 | exact absurd hc7 (by simp [h0]))
  refine x_iload_n dX10_server_14 rfl ?_
  refine x_iconst (v := 0) dX10_server_15 (by decide) ?_
  refine x_iconst (v := 5) dX10_server_16 (by decide) ?_
  refine x_cS (as := [_, _, _]) dX10_server_17 fX10_within rfl lk_RX10_150 rfl (Nat.le_of_ble_eq_true rfl) (c_within _ _ _) (by simp) (by simp) ?_
  refine x_if_neB (tgt := 27) dX10_server_20 (by decide) (fun hc20 => ?_) (fun hc20 => by first | exact absurd (by simp [h1]) hc20 | exact absurd hc20 (by simp [h1]))
  refine x_iconst (v := 0) dX10_server_27 (by decide) ?_
  refine x_putM dX10_server_28 fp_RX10_146 pm_0 ?_
  refine x_aload_n dX10_server_31 rfl ?_
  refine x_get dX10_server_32 fl_RX10_146 (hp_get (κ := 10) (by decide)) rfl ?_
  refine x_eqi (y := 0) rfl ?_
  refine x_if_le (tgt := 40) dX10_server_35 (by decide) (fun hc35 => ?_) (fun hc35 => by first | exact absurd (by decide) hc35 | exact absurd hc35 (by decide))
  refine x_iload_n dX10_server_40 rfl ?_
  refine x_tableOut (tgt := 140) dX10_server_41 (by decide) (by decide) ?_
  refine x_aload_n dX10_server_140 rfl ?_
  refine x_get dX10_server_141 fl_RX10_104 (hp_get (κ := 10) (by decide)) rfl ?_
  refine x_iload_n dX10_server_144 rfl ?_
  refine y_ialdM (f := 35) (κ := 65) dX10_server_145 am_35 rfl (by first | omega | exact sl16_lt _ | assumption) (by decide) ?_
  refine x_if_ge (tgt := 153) dX10_server_146 (by decide) (fun hc146 => ?_) (fun hc146 => ?_)
  · refine x_aload_n dX10_server_153 rfl ?_
    refine x_get dX10_server_154 fl_RX10_113 (hp_get (κ := 10) (by decide)) rfl ?_
    refine x_iload_n dX10_server_157 rfl ?_
    refine y_ialdM (f := 38) (κ := 68) dX10_server_158 am_38 rfl (by first | omega | exact sl16_lt _ | assumption) (by decide) ?_
    exact x_rI dX10_server_159 rfl rfl (by unfold ml_sv; simp [hc7, hc20, hc35, hc146]) rfl (by simp) (by simp)
  · refine x_iconst (v := (-1)) dX10_server_149 (by decide) ?_
    refine x_goto (tgt := 159) dX10_server_150 (by decide) ?_
    exact x_rI dX10_server_159 rfl rfl (by unfold ml_sv; simp [hc7, hc20, hc35, hc146]) rfl (by simp) (by simp)
theorem j_server {X : XS} {d : Nat} {S : St} {g : Nat} (hg : g < 3) (h0 : wi (nI g) 0 2 = true) {j : Nat} (h1 : wi (nI j) 0 5 = true) (hj1 : 0 ≤ j) (hj2 : j < 6) : Call X mX10_server false (d + 1) [.ref (ad 10 0), .int (nI g), .int (nI j)] (hp S) (.inl (some (.int (ml_sv (sm S 0 0 0) g j))), hp (sm S 0 0 0), 0, 0) := by
  have hj : j = 0 ∨ j = 1 ∨ j = 2 ∨ j = 3 ∨ j = 4 ∨ j = 5 := by omega
  rcases hj with rfl | rfl | rfl | rfl | rfl | rfl <;> first | exact j_server_0 hg h0 h1 | exact j_server_1 hg h0 h1 | exact j_server_2 hg h0 h1 | exact j_server_3 hg h0 h1 | exact j_server_4 hg h0 h1 | exact j_server_5 hg h0 h1
set_option maxRecDepth 100000 in
set_option maxHeartbeats 400000 in
theorem j_serverN {X : XS} {d : Nat} {S : St} {x y : Int32} (h0 : wi x 0 2 = false) : Call X mX10_server false (d + 1) [.ref (ad 10 0), .int x, .int y] (hp S) (.inl (some (.int (0))), hp (sm S 0 0 1), 0, 0) := by
  refine Call.of fX10_server (by decide) rfl (by simp [Value.category]) (Nat.le_of_ble_eq_true rfl) (lv := [some (.ref (ad 10 0)), some (.int x), some (.int y)]) rfl ?_
  refine x_aload_n dX10_server_0 rfl ?_
  refine x_iload_n dX10_server_1 rfl ?_
  refine x_iconst (v := 0) dX10_server_2 (by decide) ?_
  refine x_iconst (v := 2) dX10_server_3 (by decide) ?_
  refine x_cS (as := [_, _, _]) dX10_server_4 fX10_within rfl lk_RX10_150 rfl (Nat.le_of_ble_eq_true rfl) (c_within _ _ _) (by simp) (by simp) ?_
  refine x_if_neB (tgt := 14) dX10_server_7 (by decide) (fun hc7 => by first | exact absurd hc7 (by simp [h0]) | exact absurd (by simp [h0]) hc7) (fun hc7 => ?_)
  refine x_iconst (v := 1) dX10_server_10 (by decide) ?_
  refine x_goto (tgt := 28) dX10_server_11 (by decide) ?_
  refine x_putM dX10_server_28 fp_RX10_146 pm_0 ?_
  refine x_aload_n dX10_server_31 rfl ?_
  refine x_get dX10_server_32 fl_RX10_146 (hp_get (κ := 10) (by decide)) rfl ?_
  refine x_eqi (y := 1) rfl ?_
  refine x_if_le (tgt := 40) dX10_server_35 (by decide) (fun hc35 => by first | exact absurd hc35 (by decide) | exact absurd (by decide) hc35) (fun hc35 => ?_)
  refine x_iconst (v := 0) dX10_server_38 (by decide) ?_
  exact x_rI dX10_server_39 rfl rfl rfl rfl (by simp) (by simp)
set_option maxRecDepth 100000 in
set_option maxHeartbeats 400000 in
theorem j_serverI {X : XS} {d : Nat} {S : St} {x y : Int32} (h0 : wi x 0 2 = true) (h1 : wi y 0 5 = false) : Call X mX10_server false (d + 1) [.ref (ad 10 0), .int x, .int y] (hp S) (.inl (some (.int (0))), hp (sm S 0 0 2), 0, 0) := by
  refine Call.of fX10_server (by decide) rfl (by simp [Value.category]) (Nat.le_of_ble_eq_true rfl) (lv := [some (.ref (ad 10 0)), some (.int x), some (.int y)]) rfl ?_
  refine x_aload_n dX10_server_0 rfl ?_
  refine x_iload_n dX10_server_1 rfl ?_
  refine x_iconst (v := 0) dX10_server_2 (by decide) ?_
  refine x_iconst (v := 2) dX10_server_3 (by decide) ?_
  refine x_cS (as := [_, _, _]) dX10_server_4 fX10_within rfl lk_RX10_150 rfl (Nat.le_of_ble_eq_true rfl) (c_within _ _ _) (by simp) (by simp) ?_
  refine x_if_neB (tgt := 14) dX10_server_7 (by decide) (fun hc7 => ?_) (fun hc7 => by first | exact absurd (by simp [h0]) hc7 | exact absurd hc7 (by simp [h0]))
  refine x_iload_n dX10_server_14 rfl ?_
  refine x_iconst (v := 0) dX10_server_15 (by decide) ?_
  refine x_iconst (v := 5) dX10_server_16 (by decide) ?_
  refine x_cS (as := [_, _, _]) dX10_server_17 fX10_within rfl lk_RX10_150 rfl (Nat.le_of_ble_eq_true rfl) (c_within _ _ _) (by simp) (by simp) ?_
  refine x_if_neB (tgt := 27) dX10_server_20 (by decide) (fun hc20 => by first | exact absurd hc20 (by simp [h1]) | exact absurd (by simp [h1]) hc20) (fun hc20 => ?_)
  refine x_iconst (v := 2) dX10_server_23 (by decide) ?_
  refine x_goto (tgt := 28) dX10_server_24 (by decide) ?_
  refine x_putM dX10_server_28 fp_RX10_146 pm_0 ?_
  refine x_aload_n dX10_server_31 rfl ?_
  refine x_get dX10_server_32 fl_RX10_146 (hp_get (κ := 10) (by decide)) rfl ?_
  refine x_eqi (y := 2) rfl ?_
  refine x_if_le (tgt := 40) dX10_server_35 (by decide) (fun hc35 => by first | exact absurd hc35 (by decide) | exact absurd (by decide) hc35) (fun hc35 => ?_)
  refine x_iconst (v := 0) dX10_server_38 (by decide) ?_
  exact x_rI dX10_server_39 rfl rfl rfl rfl (by simp) (by simp)
set_option maxRecDepth 100000 in
set_option maxHeartbeats 400000 in
theorem j_waiting {X : XS} {d : Nat} {S : St} {g : Nat} {p : Int32} (hg : g < 3) (h0 : wi (nI g) 0 2 = true) (h1 : ¬ p < 0) (h2 : p < nI (ml_wc S g)) : Call X mX10_waiting false (d + 3) [.ref (ad 10 0), .int (nI g), .int p] (hp S) (.inl (some (.int (ml_wa (sm S 0 0 0) g p 6))), hp (sm S 0 0 0), 0, 0) := by
  refine Call.of fX10_waiting (by decide) rfl (by simp [Value.category]) (Nat.le_of_ble_eq_true rfl) (lv := [some (.ref (ad 10 0)), some (.int (nI g)), some (.int p)]) rfl ?_
  refine x_aload_n dX10_waiting_0 rfl ?_
  refine x_iload_n dX10_waiting_1 rfl ?_
  refine x_iconst (v := 0) dX10_waiting_2 (by decide) ?_
  refine x_iconst (v := 2) dX10_waiting_3 (by decide) ?_
  refine x_cS (as := [_, _, _]) dX10_waiting_4 fX10_within rfl lk_RX10_150 rfl (Nat.le_of_ble_eq_true rfl) (c_within _ _ _) (by simp) (by simp) ?_
  refine x_if_neB (tgt := 14) dX10_waiting_7 (by decide) (fun hc7 => ?_) (fun hc7 => by first | exact absurd (by simp [h0]) hc7 | exact absurd hc7 (by simp [h0]))
  refine x_iload_n dX10_waiting_14 rfl ?_
  refine x_if_lt (tgt := 27) dX10_waiting_15 (by decide) (fun hc15 => by first | exact absurd hc15 h1 | exact absurd h1 hc15) (fun hc15 => ?_)
  refine x_iload_n dX10_waiting_18 rfl ?_
  refine x_aload_n dX10_waiting_19 rfl ?_
  refine x_iload_n dX10_waiting_20 rfl ?_
  refine x_cV (as := [_]) dX10_waiting_21 fX10_waitCount rfl lk_RX10_203 rfl (hp_get (κ := 10) (by decide)) rfl rfl (Nat.le_of_ble_eq_true rfl) (c_mWc hg) (by simp) (by simp) ?_
  refine x_icmp_lt (tgt := 31) dX10_waiting_24 (by decide) (fun hc24 => ?_) (fun hc24 => by first | exact absurd h2 hc24 | exact absurd hc24 h2)
  refine x_iconst (v := 0) dX10_waiting_31 (by decide) ?_
  refine x_putM dX10_waiting_32 fp_RX10_146 pm_0 ?_
  refine x_aload_n dX10_waiting_35 rfl ?_
  refine x_get dX10_waiting_36 fl_RX10_146 (hp_get (κ := 10) (by decide)) rfl ?_
  refine x_eqi (y := 0) rfl ?_
  refine x_if_le (tgt := 46) dX10_waiting_39 (by decide) (fun hc39 => ?_) (fun hc39 => by first | exact absurd (by decide) hc39 | exact absurd hc39 (by decide))
  refine x_aload_n dX10_waiting_46 rfl ?_
  refine x_iload_n dX10_waiting_47 rfl ?_
  refine x_iload_n dX10_waiting_48 rfl ?_
  refine x_cV (as := [_, _]) dX10_waiting_49 fX10_waitsAt rfl lk_RX10_194 rfl (hp_get (κ := 10) (by decide)) rfl rfl (Nat.le_of_ble_eq_true rfl) (c_mWa hg _) (by simp) (by simp) ?_
  exact x_rI dX10_waiting_52 rfl rfl rfl rfl (by simp) (by simp)
set_option maxRecDepth 100000 in
set_option maxHeartbeats 400000 in
theorem j_waitingN {X : XS} {d : Nat} {S : St} {x y : Int32} (h0 : wi x 0 2 = false) : Call X mX10_waiting false (d + 3) [.ref (ad 10 0), .int x, .int y] (hp S) (.inl (some (.int (0))), hp (sm S 0 0 1), 0, 0) := by
  refine Call.of fX10_waiting (by decide) rfl (by simp [Value.category]) (Nat.le_of_ble_eq_true rfl) (lv := [some (.ref (ad 10 0)), some (.int x), some (.int y)]) rfl ?_
  refine x_aload_n dX10_waiting_0 rfl ?_
  refine x_iload_n dX10_waiting_1 rfl ?_
  refine x_iconst (v := 0) dX10_waiting_2 (by decide) ?_
  refine x_iconst (v := 2) dX10_waiting_3 (by decide) ?_
  refine x_cS (as := [_, _, _]) dX10_waiting_4 fX10_within rfl lk_RX10_150 rfl (Nat.le_of_ble_eq_true rfl) (c_within _ _ _) (by simp) (by simp) ?_
  refine x_if_neB (tgt := 14) dX10_waiting_7 (by decide) (fun hc7 => by first | exact absurd hc7 (by simp [h0]) | exact absurd (by simp [h0]) hc7) (fun hc7 => ?_)
  refine x_iconst (v := 1) dX10_waiting_10 (by decide) ?_
  refine x_goto (tgt := 32) dX10_waiting_11 (by decide) ?_
  refine x_putM dX10_waiting_32 fp_RX10_146 pm_0 ?_
  refine x_aload_n dX10_waiting_35 rfl ?_
  refine x_get dX10_waiting_36 fl_RX10_146 (hp_get (κ := 10) (by decide)) rfl ?_
  refine x_eqi (y := 1) rfl ?_
  refine x_if_le (tgt := 46) dX10_waiting_39 (by decide) (fun hc39 => by first | exact absurd hc39 (by decide) | exact absurd (by decide) hc39) (fun hc39 => ?_)
  refine x_iconst (v := 0) dX10_waiting_42 (by decide) ?_
  refine x_goto (tgt := 52) dX10_waiting_43 (by decide) ?_
  exact x_rI dX10_waiting_52 rfl rfl rfl rfl (by simp) (by simp)
set_option maxRecDepth 100000 in
set_option maxHeartbeats 400000 in
theorem j_waitingI {X : XS} {d : Nat} {S : St} {g : Nat} {p : Int32} (hg : g < 3) (h0 : wi (nI g) 0 2 = true) (h1 : p < 0 ∨ ¬ p < nI (ml_wc S g)) : Call X mX10_waiting false (d + 3) [.ref (ad 10 0), .int (nI g), .int p] (hp S) (.inl (some (.int (0))), hp (sm S 0 0 2), 0, 0) := by
  refine Call.of fX10_waiting (by decide) rfl (by simp [Value.category]) (Nat.le_of_ble_eq_true rfl) (lv := [some (.ref (ad 10 0)), some (.int (nI g)), some (.int p)]) rfl ?_
  refine x_aload_n dX10_waiting_0 rfl ?_
  refine x_iload_n dX10_waiting_1 rfl ?_
  refine x_iconst (v := 0) dX10_waiting_2 (by decide) ?_
  refine x_iconst (v := 2) dX10_waiting_3 (by decide) ?_
  refine x_cS (as := [_, _, _]) dX10_waiting_4 fX10_within rfl lk_RX10_150 rfl (Nat.le_of_ble_eq_true rfl) (c_within _ _ _) (by simp) (by simp) ?_
  refine x_if_neB (tgt := 14) dX10_waiting_7 (by decide) (fun hc7 => ?_) (fun hc7 => by first | exact absurd (by simp [h0]) hc7 | exact absurd hc7 (by simp [h0]))
  refine x_iload_n dX10_waiting_14 rfl ?_
  refine x_if_lt (tgt := 27) dX10_waiting_15 (by decide) (fun hc15 => ?_) (fun hc15 => ?_)
  · refine x_iconst (v := 2) dX10_waiting_27 (by decide) ?_
    refine x_goto (tgt := 32) dX10_waiting_28 (by decide) ?_
    refine x_putM dX10_waiting_32 fp_RX10_146 pm_0 ?_
    refine x_aload_n dX10_waiting_35 rfl ?_
    refine x_get dX10_waiting_36 fl_RX10_146 (hp_get (κ := 10) (by decide)) rfl ?_
    refine x_eqi (y := 2) rfl ?_
    refine x_if_le (tgt := 46) dX10_waiting_39 (by decide) (fun hc39 => by first | exact absurd hc39 (by decide) | exact absurd (by decide) hc39) (fun hc39 => ?_)
    refine x_iconst (v := 0) dX10_waiting_42 (by decide) ?_
    refine x_goto (tgt := 52) dX10_waiting_43 (by decide) ?_
    exact x_rI dX10_waiting_52 rfl rfl rfl rfl (by simp) (by simp)
  · refine x_iload_n dX10_waiting_18 rfl ?_
    refine x_aload_n dX10_waiting_19 rfl ?_
    refine x_iload_n dX10_waiting_20 rfl ?_
    refine x_cV (as := [_]) dX10_waiting_21 fX10_waitCount rfl lk_RX10_203 rfl (hp_get (κ := 10) (by decide)) rfl rfl (Nat.le_of_ble_eq_true rfl) (c_mWc hg) (by simp) (by simp) ?_
    refine x_icmp_lt (tgt := 31) dX10_waiting_24 (by decide) (fun hc24 => ?_) (fun hc24 => ?_)
    · exact (h1.elim hc15 (fun q => q hc24)).elim
    · refine x_iconst (v := 2) dX10_waiting_27 (by decide) ?_
      refine x_goto (tgt := 32) dX10_waiting_28 (by decide) ?_
      refine x_putM dX10_waiting_32 fp_RX10_146 pm_0 ?_
      refine x_aload_n dX10_waiting_35 rfl ?_
      refine x_get dX10_waiting_36 fl_RX10_146 (hp_get (κ := 10) (by decide)) rfl ?_
      refine x_eqi (y := 2) rfl ?_
      refine x_if_le (tgt := 46) dX10_waiting_39 (by decide) (fun hc39 => by first | exact absurd hc39 (by decide) | exact absurd (by decide) hc39) (fun hc39 => ?_)
      refine x_iconst (v := 0) dX10_waiting_42 (by decide) ?_
      refine x_goto (tgt := 52) dX10_waiting_43 (by decide) ?_
      exact x_rI dX10_waiting_52 rfl rfl rfl rfl (by simp) (by simp)
def ml_ry (S : St) (g j : Nat) : Int32 := if j = 0 then S.2.2.1 45 g else if j = 1 then S.2.2.1 46 g else if j = 2 then S.2.2.1 47 g else S.2.2.1 48 g
set_option maxRecDepth 100000 in
set_option maxHeartbeats 400000 in
theorem j_relay_0 {X : XS} {d : Nat} {S : St} {g : Nat} (hg : g < 3) (h0 : wi (nI g) 0 2 = true) (h1 : wi (nI 0) 0 3 = true) : Call X mX10_relay false (d + 1) [.ref (ad 10 0), .int (nI g), .int (nI 0)] (hp S) (.inl (some (.int (ml_ry (sm S 0 0 0) g 0))), hp (sm S 0 0 0), 0, 0) := by
  refine Call.of fX10_relay (by decide) rfl (by simp [Value.category]) (Nat.le_of_ble_eq_true rfl) (lv := [some (.ref (ad 10 0)), some (.int (nI g)), some (.int (nI 0))]) rfl ?_
  refine x_aload_n dX10_relay_0 rfl ?_
  refine x_iload_n dX10_relay_1 rfl ?_
  refine x_iconst (v := 0) dX10_relay_2 (by decide) ?_
  refine x_iconst (v := 2) dX10_relay_3 (by decide) ?_
  refine x_cS (as := [_, _, _]) dX10_relay_4 fX10_within rfl lk_RX10_150 rfl (Nat.le_of_ble_eq_true rfl) (c_within _ _ _) (by simp) (by simp) ?_
  refine x_if_neB (tgt := 14) dX10_relay_7 (by decide) (fun hc7 => ?_) (fun hc7 => by first | exact absurd (by simp [h0]) hc7 | exact absurd hc7 (by simp [h0]))
  refine x_iload_n dX10_relay_14 rfl ?_
  refine x_iconst (v := 0) dX10_relay_15 (by decide) ?_
  refine x_iconst (v := 3) dX10_relay_16 (by decide) ?_
  refine x_cS (as := [_, _, _]) dX10_relay_17 fX10_within rfl lk_RX10_150 rfl (Nat.le_of_ble_eq_true rfl) (c_within _ _ _) (by simp) (by simp) ?_
  refine x_if_neB (tgt := 27) dX10_relay_20 (by decide) (fun hc20 => ?_) (fun hc20 => by first | exact absurd (by simp [h1]) hc20 | exact absurd hc20 (by simp [h1]))
  refine x_iconst (v := 0) dX10_relay_27 (by decide) ?_
  refine x_putM dX10_relay_28 fp_RX10_146 pm_0 ?_
  refine x_aload_n dX10_relay_31 rfl ?_
  refine x_get dX10_relay_32 fl_RX10_146 (hp_get (κ := 10) (by decide)) rfl ?_
  refine x_eqi (y := 0) rfl ?_
  refine x_if_le (tgt := 40) dX10_relay_35 (by decide) (fun hc35 => ?_) (fun hc35 => by first | exact absurd (by decide) hc35 | exact absurd hc35 (by decide))
  refine x_iload_n dX10_relay_40 rfl ?_
  refine x_if_ne (tgt := 53) dX10_relay_41 (by decide) (fun hc41 => by first | exact absurd hc41 (by decide) | exact absurd (by decide) hc41) (fun hc41 => ?_)
  refine x_aload_n dX10_relay_44 rfl ?_
  refine x_get dX10_relay_45 fl_RX10_131 (hp_get (κ := 10) (by decide)) rfl ?_
  refine x_iload_n dX10_relay_48 rfl ?_
  refine y_ialdM (f := 45) (κ := 75) dX10_relay_49 am_45 rfl (by first | omega | exact sl16_lt _ | assumption) (by decide) ?_
  refine x_goto (tgt := 87) dX10_relay_50 (by decide) ?_
  exact x_rI dX10_relay_87 rfl rfl (by unfold ml_ry; first | rfl | (simp; done)) rfl (by simp) (by simp)
set_option maxRecDepth 100000 in
set_option maxHeartbeats 400000 in
theorem j_relay_1 {X : XS} {d : Nat} {S : St} {g : Nat} (hg : g < 3) (h0 : wi (nI g) 0 2 = true) (h1 : wi (nI 1) 0 3 = true) : Call X mX10_relay false (d + 1) [.ref (ad 10 0), .int (nI g), .int (nI 1)] (hp S) (.inl (some (.int (ml_ry (sm S 0 0 0) g 1))), hp (sm S 0 0 0), 0, 0) := by
  refine Call.of fX10_relay (by decide) rfl (by simp [Value.category]) (Nat.le_of_ble_eq_true rfl) (lv := [some (.ref (ad 10 0)), some (.int (nI g)), some (.int (nI 1))]) rfl ?_
  refine x_aload_n dX10_relay_0 rfl ?_
  refine x_iload_n dX10_relay_1 rfl ?_
  refine x_iconst (v := 0) dX10_relay_2 (by decide) ?_
  refine x_iconst (v := 2) dX10_relay_3 (by decide) ?_
  refine x_cS (as := [_, _, _]) dX10_relay_4 fX10_within rfl lk_RX10_150 rfl (Nat.le_of_ble_eq_true rfl) (c_within _ _ _) (by simp) (by simp) ?_
  refine x_if_neB (tgt := 14) dX10_relay_7 (by decide) (fun hc7 => ?_) (fun hc7 => by first | exact absurd (by simp [h0]) hc7 | exact absurd hc7 (by simp [h0]))
  refine x_iload_n dX10_relay_14 rfl ?_
  refine x_iconst (v := 0) dX10_relay_15 (by decide) ?_
  refine x_iconst (v := 3) dX10_relay_16 (by decide) ?_
  refine x_cS (as := [_, _, _]) dX10_relay_17 fX10_within rfl lk_RX10_150 rfl (Nat.le_of_ble_eq_true rfl) (c_within _ _ _) (by simp) (by simp) ?_
  refine x_if_neB (tgt := 27) dX10_relay_20 (by decide) (fun hc20 => ?_) (fun hc20 => by first | exact absurd (by simp [h1]) hc20 | exact absurd hc20 (by simp [h1]))
  refine x_iconst (v := 0) dX10_relay_27 (by decide) ?_
  refine x_putM dX10_relay_28 fp_RX10_146 pm_0 ?_
  refine x_aload_n dX10_relay_31 rfl ?_
  refine x_get dX10_relay_32 fl_RX10_146 (hp_get (κ := 10) (by decide)) rfl ?_
  refine x_eqi (y := 0) rfl ?_
  refine x_if_le (tgt := 40) dX10_relay_35 (by decide) (fun hc35 => ?_) (fun hc35 => by first | exact absurd (by decide) hc35 | exact absurd hc35 (by decide))
  refine x_iload_n dX10_relay_40 rfl ?_
  refine x_if_ne (tgt := 53) dX10_relay_41 (by decide) (fun hc41 => ?_) (fun hc41 => by first | exact absurd (by decide) hc41 | exact absurd hc41 (by decide))
  refine x_iload_n dX10_relay_53 rfl ?_
  refine x_iconst (v := 1) dX10_relay_54 (by decide) ?_
  refine x_icmp_ne (tgt := 67) dX10_relay_55 (by decide) (fun hc55 => by first | exact absurd hc55 (by decide) | exact absurd (by decide) hc55) (fun hc55 => ?_)
  refine x_aload_n dX10_relay_58 rfl ?_
  refine x_get dX10_relay_59 fl_RX10_134 (hp_get (κ := 10) (by decide)) rfl ?_
  refine x_iload_n dX10_relay_62 rfl ?_
  refine y_ialdM (f := 46) (κ := 76) dX10_relay_63 am_46 rfl (by first | omega | exact sl16_lt _ | assumption) (by decide) ?_
  refine x_goto (tgt := 87) dX10_relay_64 (by decide) ?_
  exact x_rI dX10_relay_87 rfl rfl (by unfold ml_ry; first | rfl | (simp; done)) rfl (by simp) (by simp)
set_option maxRecDepth 100000 in
set_option maxHeartbeats 400000 in
theorem j_relay_2 {X : XS} {d : Nat} {S : St} {g : Nat} (hg : g < 3) (h0 : wi (nI g) 0 2 = true) (h1 : wi (nI 2) 0 3 = true) : Call X mX10_relay false (d + 1) [.ref (ad 10 0), .int (nI g), .int (nI 2)] (hp S) (.inl (some (.int (ml_ry (sm S 0 0 0) g 2))), hp (sm S 0 0 0), 0, 0) := by
  refine Call.of fX10_relay (by decide) rfl (by simp [Value.category]) (Nat.le_of_ble_eq_true rfl) (lv := [some (.ref (ad 10 0)), some (.int (nI g)), some (.int (nI 2))]) rfl ?_
  refine x_aload_n dX10_relay_0 rfl ?_
  refine x_iload_n dX10_relay_1 rfl ?_
  refine x_iconst (v := 0) dX10_relay_2 (by decide) ?_
  refine x_iconst (v := 2) dX10_relay_3 (by decide) ?_
  refine x_cS (as := [_, _, _]) dX10_relay_4 fX10_within rfl lk_RX10_150 rfl (Nat.le_of_ble_eq_true rfl) (c_within _ _ _) (by simp) (by simp) ?_
  refine x_if_neB (tgt := 14) dX10_relay_7 (by decide) (fun hc7 => ?_) (fun hc7 => by first | exact absurd (by simp [h0]) hc7 | exact absurd hc7 (by simp [h0]))
  refine x_iload_n dX10_relay_14 rfl ?_
  refine x_iconst (v := 0) dX10_relay_15 (by decide) ?_
  refine x_iconst (v := 3) dX10_relay_16 (by decide) ?_
  refine x_cS (as := [_, _, _]) dX10_relay_17 fX10_within rfl lk_RX10_150 rfl (Nat.le_of_ble_eq_true rfl) (c_within _ _ _) (by simp) (by simp) ?_
  refine x_if_neB (tgt := 27) dX10_relay_20 (by decide) (fun hc20 => ?_) (fun hc20 => by first | exact absurd (by simp [h1]) hc20 | exact absurd hc20 (by simp [h1]))
  refine x_iconst (v := 0) dX10_relay_27 (by decide) ?_
  refine x_putM dX10_relay_28 fp_RX10_146 pm_0 ?_
  refine x_aload_n dX10_relay_31 rfl ?_
  refine x_get dX10_relay_32 fl_RX10_146 (hp_get (κ := 10) (by decide)) rfl ?_
  refine x_eqi (y := 0) rfl ?_
  refine x_if_le (tgt := 40) dX10_relay_35 (by decide) (fun hc35 => ?_) (fun hc35 => by first | exact absurd (by decide) hc35 | exact absurd hc35 (by decide))
  refine x_iload_n dX10_relay_40 rfl ?_
  refine x_if_ne (tgt := 53) dX10_relay_41 (by decide) (fun hc41 => ?_) (fun hc41 => by first | exact absurd (by decide) hc41 | exact absurd hc41 (by decide))
  refine x_iload_n dX10_relay_53 rfl ?_
  refine x_iconst (v := 1) dX10_relay_54 (by decide) ?_
  refine x_icmp_ne (tgt := 67) dX10_relay_55 (by decide) (fun hc55 => ?_) (fun hc55 => by first | exact absurd (by decide) hc55 | exact absurd hc55 (by decide))
  refine x_iload_n dX10_relay_67 rfl ?_
  refine x_iconst (v := 2) dX10_relay_68 (by decide) ?_
  refine x_icmp_ne (tgt := 81) dX10_relay_69 (by decide) (fun hc69 => by first | exact absurd hc69 (by decide) | exact absurd (by decide) hc69) (fun hc69 => ?_)
  refine x_aload_n dX10_relay_72 rfl ?_
  refine x_get dX10_relay_73 fl_RX10_137 (hp_get (κ := 10) (by decide)) rfl ?_
  refine x_iload_n dX10_relay_76 rfl ?_
  refine y_ialdM (f := 47) (κ := 77) dX10_relay_77 am_47 rfl (by first | omega | exact sl16_lt _ | assumption) (by decide) ?_
  refine x_goto (tgt := 87) dX10_relay_78 (by decide) ?_
  exact x_rI dX10_relay_87 rfl rfl (by unfold ml_ry; first | rfl | (simp; done)) rfl (by simp) (by simp)
set_option maxRecDepth 100000 in
set_option maxHeartbeats 400000 in
theorem j_relay_3 {X : XS} {d : Nat} {S : St} {g : Nat} (hg : g < 3) (h0 : wi (nI g) 0 2 = true) (h1 : wi (nI 3) 0 3 = true) : Call X mX10_relay false (d + 1) [.ref (ad 10 0), .int (nI g), .int (nI 3)] (hp S) (.inl (some (.int (ml_ry (sm S 0 0 0) g 3))), hp (sm S 0 0 0), 0, 0) := by
  refine Call.of fX10_relay (by decide) rfl (by simp [Value.category]) (Nat.le_of_ble_eq_true rfl) (lv := [some (.ref (ad 10 0)), some (.int (nI g)), some (.int (nI 3))]) rfl ?_
  refine x_aload_n dX10_relay_0 rfl ?_
  refine x_iload_n dX10_relay_1 rfl ?_
  refine x_iconst (v := 0) dX10_relay_2 (by decide) ?_
  refine x_iconst (v := 2) dX10_relay_3 (by decide) ?_
  refine x_cS (as := [_, _, _]) dX10_relay_4 fX10_within rfl lk_RX10_150 rfl (Nat.le_of_ble_eq_true rfl) (c_within _ _ _) (by simp) (by simp) ?_
  refine x_if_neB (tgt := 14) dX10_relay_7 (by decide) (fun hc7 => ?_) (fun hc7 => by first | exact absurd (by simp [h0]) hc7 | exact absurd hc7 (by simp [h0]))
  refine x_iload_n dX10_relay_14 rfl ?_
  refine x_iconst (v := 0) dX10_relay_15 (by decide) ?_
  refine x_iconst (v := 3) dX10_relay_16 (by decide) ?_
  refine x_cS (as := [_, _, _]) dX10_relay_17 fX10_within rfl lk_RX10_150 rfl (Nat.le_of_ble_eq_true rfl) (c_within _ _ _) (by simp) (by simp) ?_
  refine x_if_neB (tgt := 27) dX10_relay_20 (by decide) (fun hc20 => ?_) (fun hc20 => by first | exact absurd (by simp [h1]) hc20 | exact absurd hc20 (by simp [h1]))
  refine x_iconst (v := 0) dX10_relay_27 (by decide) ?_
  refine x_putM dX10_relay_28 fp_RX10_146 pm_0 ?_
  refine x_aload_n dX10_relay_31 rfl ?_
  refine x_get dX10_relay_32 fl_RX10_146 (hp_get (κ := 10) (by decide)) rfl ?_
  refine x_eqi (y := 0) rfl ?_
  refine x_if_le (tgt := 40) dX10_relay_35 (by decide) (fun hc35 => ?_) (fun hc35 => by first | exact absurd (by decide) hc35 | exact absurd hc35 (by decide))
  refine x_iload_n dX10_relay_40 rfl ?_
  refine x_if_ne (tgt := 53) dX10_relay_41 (by decide) (fun hc41 => ?_) (fun hc41 => by first | exact absurd (by decide) hc41 | exact absurd hc41 (by decide))
  refine x_iload_n dX10_relay_53 rfl ?_
  refine x_iconst (v := 1) dX10_relay_54 (by decide) ?_
  refine x_icmp_ne (tgt := 67) dX10_relay_55 (by decide) (fun hc55 => ?_) (fun hc55 => by first | exact absurd (by decide) hc55 | exact absurd hc55 (by decide))
  refine x_iload_n dX10_relay_67 rfl ?_
  refine x_iconst (v := 2) dX10_relay_68 (by decide) ?_
  refine x_icmp_ne (tgt := 81) dX10_relay_69 (by decide) (fun hc69 => ?_) (fun hc69 => by first | exact absurd (by decide) hc69 | exact absurd hc69 (by decide))
  refine x_aload_n dX10_relay_81 rfl ?_
  refine x_get dX10_relay_82 fl_RX10_140 (hp_get (κ := 10) (by decide)) rfl ?_
  refine x_iload_n dX10_relay_85 rfl ?_
  refine y_ialdM (f := 48) (κ := 78) dX10_relay_86 am_48 rfl (by first | omega | exact sl16_lt _ | assumption) (by decide) ?_
  exact x_rI dX10_relay_87 rfl rfl (by unfold ml_ry; first | rfl | (simp; done)) rfl (by simp) (by simp)
theorem j_relay {X : XS} {d : Nat} {S : St} {g : Nat} (hg : g < 3) (h0 : wi (nI g) 0 2 = true) {j : Nat} (h1 : wi (nI j) 0 3 = true) (hj2 : j < 4) : Call X mX10_relay false (d + 1) [.ref (ad 10 0), .int (nI g), .int (nI j)] (hp S) (.inl (some (.int (ml_ry (sm S 0 0 0) g j))), hp (sm S 0 0 0), 0, 0) := by
  have hj : j = 0 ∨ j = 1 ∨ j = 2 ∨ j = 3 := by omega
  rcases hj with rfl | rfl | rfl | rfl
  · exact j_relay_0 hg h0 h1
  · exact j_relay_1 hg h0 h1
  · exact j_relay_2 hg h0 h1
  · exact j_relay_3 hg h0 h1
set_option maxRecDepth 100000 in
set_option maxHeartbeats 400000 in
theorem j_relayN {X : XS} {d : Nat} {S : St} {x y : Int32} (h0 : wi x 0 2 = false) : Call X mX10_relay false (d + 1) [.ref (ad 10 0), .int x, .int y] (hp S) (.inl (some (.int (0))), hp (sm S 0 0 1), 0, 0) := by
  refine Call.of fX10_relay (by decide) rfl (by simp [Value.category]) (Nat.le_of_ble_eq_true rfl) (lv := [some (.ref (ad 10 0)), some (.int x), some (.int y)]) rfl ?_
  refine x_aload_n dX10_relay_0 rfl ?_
  refine x_iload_n dX10_relay_1 rfl ?_
  refine x_iconst (v := 0) dX10_relay_2 (by decide) ?_
  refine x_iconst (v := 2) dX10_relay_3 (by decide) ?_
  refine x_cS (as := [_, _, _]) dX10_relay_4 fX10_within rfl lk_RX10_150 rfl (Nat.le_of_ble_eq_true rfl) (c_within _ _ _) (by simp) (by simp) ?_
  refine x_if_neB (tgt := 14) dX10_relay_7 (by decide) (fun hc7 => by first | exact absurd hc7 (by simp [h0]) | exact absurd (by simp [h0]) hc7) (fun hc7 => ?_)
  refine x_iconst (v := 1) dX10_relay_10 (by decide) ?_
  refine x_goto (tgt := 28) dX10_relay_11 (by decide) ?_
  refine x_putM dX10_relay_28 fp_RX10_146 pm_0 ?_
  refine x_aload_n dX10_relay_31 rfl ?_
  refine x_get dX10_relay_32 fl_RX10_146 (hp_get (κ := 10) (by decide)) rfl ?_
  refine x_eqi (y := 1) rfl ?_
  refine x_if_le (tgt := 40) dX10_relay_35 (by decide) (fun hc35 => by first | exact absurd hc35 (by decide) | exact absurd (by decide) hc35) (fun hc35 => ?_)
  refine x_iconst (v := 0) dX10_relay_38 (by decide) ?_
  exact x_rI dX10_relay_39 rfl rfl rfl rfl (by simp) (by simp)
set_option maxRecDepth 100000 in
set_option maxHeartbeats 400000 in
theorem j_relayI {X : XS} {d : Nat} {S : St} {x y : Int32} (h0 : wi x 0 2 = true) (h1 : wi y 0 3 = false) : Call X mX10_relay false (d + 1) [.ref (ad 10 0), .int x, .int y] (hp S) (.inl (some (.int (0))), hp (sm S 0 0 2), 0, 0) := by
  refine Call.of fX10_relay (by decide) rfl (by simp [Value.category]) (Nat.le_of_ble_eq_true rfl) (lv := [some (.ref (ad 10 0)), some (.int x), some (.int y)]) rfl ?_
  refine x_aload_n dX10_relay_0 rfl ?_
  refine x_iload_n dX10_relay_1 rfl ?_
  refine x_iconst (v := 0) dX10_relay_2 (by decide) ?_
  refine x_iconst (v := 2) dX10_relay_3 (by decide) ?_
  refine x_cS (as := [_, _, _]) dX10_relay_4 fX10_within rfl lk_RX10_150 rfl (Nat.le_of_ble_eq_true rfl) (c_within _ _ _) (by simp) (by simp) ?_
  refine x_if_neB (tgt := 14) dX10_relay_7 (by decide) (fun hc7 => ?_) (fun hc7 => by first | exact absurd (by simp [h0]) hc7 | exact absurd hc7 (by simp [h0]))
  refine x_iload_n dX10_relay_14 rfl ?_
  refine x_iconst (v := 0) dX10_relay_15 (by decide) ?_
  refine x_iconst (v := 3) dX10_relay_16 (by decide) ?_
  refine x_cS (as := [_, _, _]) dX10_relay_17 fX10_within rfl lk_RX10_150 rfl (Nat.le_of_ble_eq_true rfl) (c_within _ _ _) (by simp) (by simp) ?_
  refine x_if_neB (tgt := 27) dX10_relay_20 (by decide) (fun hc20 => by first | exact absurd hc20 (by simp [h1]) | exact absurd (by simp [h1]) hc20) (fun hc20 => ?_)
  refine x_iconst (v := 2) dX10_relay_23 (by decide) ?_
  refine x_goto (tgt := 28) dX10_relay_24 (by decide) ?_
  refine x_putM dX10_relay_28 fp_RX10_146 pm_0 ?_
  refine x_aload_n dX10_relay_31 rfl ?_
  refine x_get dX10_relay_32 fl_RX10_146 (hp_get (κ := 10) (by decide)) rfl ?_
  refine x_eqi (y := 2) rfl ?_
  refine x_if_le (tgt := 40) dX10_relay_35 (by decide) (fun hc35 => by first | exact absurd hc35 (by decide) | exact absurd (by decide) hc35) (fun hc35 => ?_)
  refine x_iconst (v := 0) dX10_relay_38 (by decide) ?_
  exact x_rI dX10_relay_39 rfl rfl rfl rfl (by simp) (by simp)
def ml_as (S : St) (i j : Nat) : Int32 := if j = 8 then S.2.2.1 15 i else if j = 9 then bI (decide (¬ S.2.2.1 16 i = 0)) else if j = 10 then S.2.2.1 17 i else if j = 11 then S.2.2.1 20 i else if j = 12 then S.2.2.1 21 i else if j = 13 then S.2.2.1 22 i else S.2.2.1 23 i
def ml_at (S : St) (i j : Nat) : Int32 := if j = 0 then bI (decide (¬ S.2.2.1 5 i = 0)) else if j = 1 then S.2.2.1 6 i else if j = 2 then S.2.2.1 7 i else if j = 3 then S.2.2.1 8 i else if j = 4 then S.2.2.1 10 i else if j = 5 then S.2.2.1 11 i else if j = 6 then S.2.2.1 12 i else if j = 7 then S.2.2.1 14 i else ml_as S i j
set_option maxRecDepth 100000 in
set_option maxHeartbeats 400000 in
theorem c_mAs_8 {X : XS} {d : Nat} {S : St} {i : Nat} (hi : i < 18) : Call X mX10_aboutSpurt false d [.ref (ad 10 0), .int (nI i), .int (nI 8)] (hp S) (.inl (some (.int (ml_as S i 8))), hp (S), 0, 0) := by
  refine Call.of fX10_aboutSpurt (by decide) rfl (by simp [Value.category]) (Nat.le_of_ble_eq_true rfl) (lv := [some (.ref (ad 10 0)), some (.int (nI i)), some (.int (nI 8))]) rfl ?_
  refine x_iload_n dX10_aboutSpurt_0 rfl ?_
  refine x_tableIn (tgt := 40) (off := 39) dX10_aboutSpurt_1 (by decide) (by decide) (by decide) (by decide) ?_
  refine x_aload_n dX10_aboutSpurt_40 rfl ?_
  refine x_get dX10_aboutSpurt_41 fl_RX10_44 (hp_get (κ := 10) (by decide)) rfl ?_
  refine x_iload_n dX10_aboutSpurt_44 rfl ?_
  refine y_ialdM (f := 15) (κ := 45) dX10_aboutSpurt_45 am_15 rfl (by first | omega | exact sl16_lt _ | assumption) (by decide) ?_
  exact x_rI dX10_aboutSpurt_46 rfl rfl (by unfold ml_as; simp [bI]) rfl (by simp) (by simp)
set_option maxRecDepth 100000 in
set_option maxHeartbeats 400000 in
theorem c_mAs_9 {X : XS} {d : Nat} {S : St} {i : Nat} (hi : i < 18) : Call X mX10_aboutSpurt false d [.ref (ad 10 0), .int (nI i), .int (nI 9)] (hp S) (.inl (some (.int (ml_as S i 9))), hp (S), 0, 0) := by
  refine Call.of fX10_aboutSpurt (by decide) rfl (by simp [Value.category]) (Nat.le_of_ble_eq_true rfl) (lv := [some (.ref (ad 10 0)), some (.int (nI i)), some (.int (nI 9))]) rfl ?_
  refine x_iload_n dX10_aboutSpurt_0 rfl ?_
  refine x_tableIn (tgt := 47) (off := 46) dX10_aboutSpurt_1 (by decide) (by decide) (by decide) (by decide) ?_
  refine x_aload_n dX10_aboutSpurt_47 rfl ?_
  refine x_get dX10_aboutSpurt_48 fl_RX10_47 (hp_get (κ := 10) (by decide)) rfl ?_
  refine x_iload_n dX10_aboutSpurt_51 rfl ?_
  refine y_zaldM (f := 16) (κ := 46) dX10_aboutSpurt_52 am_16 rfl (by first | omega | exact sl16_lt _ | assumption) (by decide) ?_
  refine x_if_eq (tgt := 60) dX10_aboutSpurt_53 (by decide) (fun hc53 => ?_) (fun hc53 => ?_)
  · refine x_iconst (v := 0) dX10_aboutSpurt_60 (by decide) ?_
    exact x_rI dX10_aboutSpurt_61 rfl rfl (by unfold ml_as; simp [bI, hc53]) rfl (by simp) (by simp)
  · refine x_iconst (v := 1) dX10_aboutSpurt_56 (by decide) ?_
    refine x_goto (tgt := 61) dX10_aboutSpurt_57 (by decide) ?_
    exact x_rI dX10_aboutSpurt_61 rfl rfl (by unfold ml_as; simp [bI, hc53]) rfl (by simp) (by simp)
set_option maxRecDepth 100000 in
set_option maxHeartbeats 400000 in
theorem c_mAs_10 {X : XS} {d : Nat} {S : St} {i : Nat} (hi : i < 18) : Call X mX10_aboutSpurt false d [.ref (ad 10 0), .int (nI i), .int (nI 10)] (hp S) (.inl (some (.int (ml_as S i 10))), hp (S), 0, 0) := by
  refine Call.of fX10_aboutSpurt (by decide) rfl (by simp [Value.category]) (Nat.le_of_ble_eq_true rfl) (lv := [some (.ref (ad 10 0)), some (.int (nI i)), some (.int (nI 10))]) rfl ?_
  refine x_iload_n dX10_aboutSpurt_0 rfl ?_
  refine x_tableIn (tgt := 62) (off := 61) dX10_aboutSpurt_1 (by decide) (by decide) (by decide) (by decide) ?_
  refine x_aload_n dX10_aboutSpurt_62 rfl ?_
  refine x_get dX10_aboutSpurt_63 fl_RX10_50 (hp_get (κ := 10) (by decide)) rfl ?_
  refine x_iload_n dX10_aboutSpurt_66 rfl ?_
  refine y_ialdM (f := 17) (κ := 47) dX10_aboutSpurt_67 am_17 rfl (by first | omega | exact sl16_lt _ | assumption) (by decide) ?_
  exact x_rI dX10_aboutSpurt_68 rfl rfl (by unfold ml_as; simp [bI]) rfl (by simp) (by simp)
set_option maxRecDepth 100000 in
set_option maxHeartbeats 400000 in
theorem c_mAs_11 {X : XS} {d : Nat} {S : St} {i : Nat} (hi : i < 18) : Call X mX10_aboutSpurt false d [.ref (ad 10 0), .int (nI i), .int (nI 11)] (hp S) (.inl (some (.int (ml_as S i 11))), hp (S), 0, 0) := by
  refine Call.of fX10_aboutSpurt (by decide) rfl (by simp [Value.category]) (Nat.le_of_ble_eq_true rfl) (lv := [some (.ref (ad 10 0)), some (.int (nI i)), some (.int (nI 11))]) rfl ?_
  refine x_iload_n dX10_aboutSpurt_0 rfl ?_
  refine x_tableIn (tgt := 69) (off := 68) dX10_aboutSpurt_1 (by decide) (by decide) (by decide) (by decide) ?_
  refine x_aload_n dX10_aboutSpurt_69 rfl ?_
  refine x_get dX10_aboutSpurt_70 fl_RX10_59 (hp_get (κ := 10) (by decide)) rfl ?_
  refine x_iload_n dX10_aboutSpurt_73 rfl ?_
  refine y_ialdM (f := 20) (κ := 50) dX10_aboutSpurt_74 am_20 rfl (by first | omega | exact sl16_lt _ | assumption) (by decide) ?_
  exact x_rI dX10_aboutSpurt_75 rfl rfl (by unfold ml_as; simp [bI]) rfl (by simp) (by simp)
set_option maxRecDepth 100000 in
set_option maxHeartbeats 400000 in
theorem c_mAs_12 {X : XS} {d : Nat} {S : St} {i : Nat} (hi : i < 18) : Call X mX10_aboutSpurt false d [.ref (ad 10 0), .int (nI i), .int (nI 12)] (hp S) (.inl (some (.int (ml_as S i 12))), hp (S), 0, 0) := by
  refine Call.of fX10_aboutSpurt (by decide) rfl (by simp [Value.category]) (Nat.le_of_ble_eq_true rfl) (lv := [some (.ref (ad 10 0)), some (.int (nI i)), some (.int (nI 12))]) rfl ?_
  refine x_iload_n dX10_aboutSpurt_0 rfl ?_
  refine x_tableIn (tgt := 76) (off := 75) dX10_aboutSpurt_1 (by decide) (by decide) (by decide) (by decide) ?_
  refine x_aload_n dX10_aboutSpurt_76 rfl ?_
  refine x_get dX10_aboutSpurt_77 fl_RX10_62 (hp_get (κ := 10) (by decide)) rfl ?_
  refine x_iload_n dX10_aboutSpurt_80 rfl ?_
  refine y_ialdM (f := 21) (κ := 51) dX10_aboutSpurt_81 am_21 rfl (by first | omega | exact sl16_lt _ | assumption) (by decide) ?_
  exact x_rI dX10_aboutSpurt_82 rfl rfl (by unfold ml_as; simp [bI]) rfl (by simp) (by simp)
set_option maxRecDepth 100000 in
set_option maxHeartbeats 400000 in
theorem c_mAs_13 {X : XS} {d : Nat} {S : St} {i : Nat} (hi : i < 18) : Call X mX10_aboutSpurt false d [.ref (ad 10 0), .int (nI i), .int (nI 13)] (hp S) (.inl (some (.int (ml_as S i 13))), hp (S), 0, 0) := by
  refine Call.of fX10_aboutSpurt (by decide) rfl (by simp [Value.category]) (Nat.le_of_ble_eq_true rfl) (lv := [some (.ref (ad 10 0)), some (.int (nI i)), some (.int (nI 13))]) rfl ?_
  refine x_iload_n dX10_aboutSpurt_0 rfl ?_
  refine x_tableIn (tgt := 83) (off := 82) dX10_aboutSpurt_1 (by decide) (by decide) (by decide) (by decide) ?_
  refine x_aload_n dX10_aboutSpurt_83 rfl ?_
  refine x_get dX10_aboutSpurt_84 fl_RX10_65 (hp_get (κ := 10) (by decide)) rfl ?_
  refine x_iload_n dX10_aboutSpurt_87 rfl ?_
  refine y_ialdM (f := 22) (κ := 52) dX10_aboutSpurt_88 am_22 rfl (by first | omega | exact sl16_lt _ | assumption) (by decide) ?_
  exact x_rI dX10_aboutSpurt_89 rfl rfl (by unfold ml_as; simp [bI]) rfl (by simp) (by simp)
set_option maxRecDepth 100000 in
set_option maxHeartbeats 400000 in
theorem c_mAs_14 {X : XS} {d : Nat} {S : St} {i : Nat} (hi : i < 18) : Call X mX10_aboutSpurt false d [.ref (ad 10 0), .int (nI i), .int (nI 14)] (hp S) (.inl (some (.int (ml_as S i 14))), hp (S), 0, 0) := by
  refine Call.of fX10_aboutSpurt (by decide) rfl (by simp [Value.category]) (Nat.le_of_ble_eq_true rfl) (lv := [some (.ref (ad 10 0)), some (.int (nI i)), some (.int (nI 14))]) rfl ?_
  refine x_iload_n dX10_aboutSpurt_0 rfl ?_
  refine x_tableOut (tgt := 90) dX10_aboutSpurt_1 (by decide) (by decide) ?_
  refine x_aload_n dX10_aboutSpurt_90 rfl ?_
  refine x_get dX10_aboutSpurt_91 fl_RX10_68 (hp_get (κ := 10) (by decide)) rfl ?_
  refine x_iload_n dX10_aboutSpurt_94 rfl ?_
  refine y_ialdM (f := 23) (κ := 53) dX10_aboutSpurt_95 am_23 rfl (by first | omega | exact sl16_lt _ | assumption) (by decide) ?_
  exact x_rI dX10_aboutSpurt_96 rfl rfl (by unfold ml_as; simp [bI]) rfl (by simp) (by simp)
set_option maxRecDepth 100000 in
set_option maxHeartbeats 400000 in
theorem j_about_0 {X : XS} {d : Nat} {S : St} {g m : Nat} (hg : g < 3) (hm : m < 6) (hI : isM (nI g) (nI m) = true) (h1 : wi (nI 0) 0 14 = true) : Call X mX10_about false (d + 2) [.ref (ad 10 0), .int (nI g), .int (nI m), .int (nI 0)] (hp S) (.inl (some (.int (ml_at (sm S 0 0 0) (6 * g + m) 0))), hp (sm S 0 0 0), 0, 0) := by
  refine Call.of fX10_about (by decide) rfl (by simp [Value.category]) (Nat.le_of_ble_eq_true rfl) (lv := [some (.ref (ad 10 0)), some (.int (nI g)), some (.int (nI m)), some (.int (nI 0)), none]) rfl ?_
  refine x_aload_n dX10_about_0 rfl ?_
  refine x_iload_n dX10_about_1 rfl ?_
  refine x_iload_n dX10_about_2 rfl ?_
  refine x_cS (as := [_, _]) dX10_about_3 fX10_isMember rfl lk_RX10_160 rfl (Nat.le_of_ble_eq_true rfl) (c_isMember _ _) (by simp) (by simp) ?_
  refine x_if_neB (tgt := 13) dX10_about_6 (by decide) (fun hc6 => ?_) (fun hc6 => by first | exact absurd (by simp [hI]) hc6 | exact absurd hc6 (by simp [hI]))
  refine x_iload_n dX10_about_13 rfl ?_
  refine x_iconst (v := 0) dX10_about_14 (by decide) ?_
  refine x_bipush (v := 14) dX10_about_15 (by decide) ?_
  refine x_cS (as := [_, _, _]) dX10_about_17 fX10_within rfl lk_RX10_150 rfl (Nat.le_of_ble_eq_true rfl) (c_within _ _ _) (by simp) (by simp) ?_
  refine x_if_neB (tgt := 27) dX10_about_20 (by decide) (fun hc20 => ?_) (fun hc20 => by first | exact absurd (by simp [h1]) hc20 | exact absurd hc20 (by simp [h1]))
  refine x_iconst (v := 0) dX10_about_27 (by decide) ?_
  refine x_putM dX10_about_28 fp_RX10_146 pm_0 ?_
  refine x_aload_n dX10_about_31 rfl ?_
  refine x_get dX10_about_32 fl_RX10_146 (hp_get (κ := 10) (by decide)) rfl ?_
  refine x_eqi (y := 0) rfl ?_
  refine x_if_le (tgt := 40) dX10_about_35 (by decide) (fun hc35 => ?_) (fun hc35 => by first | exact absurd (by decide) hc35 | exact absurd hc35 (by decide))
  refine x_bipush (v := 6) dX10_about_40 (by decide) ?_
  refine x_iload_n dX10_about_42 rfl ?_
  refine x_imul dX10_about_43 ?_
  refine x_iload_n dX10_about_44 rfl ?_
  refine x_iadd dX10_about_45 ?_
  refine x_eqi (ix6 _ _) ?_
  refine x_istore (lv' := [_, _, _, _, _]) dX10_about_46 (by decide) rfl ?_
  refine x_iload_n dX10_about_48 rfl ?_
  refine x_tableIn (tgt := 96) (off := 47) dX10_about_49 (by decide) (by decide) (by decide) (by decide) ?_
  refine x_aload_n dX10_about_96 rfl ?_
  refine x_get dX10_about_97 fl_RX10_13 (hp_get (κ := 10) (by decide)) rfl ?_
  refine x_iload dX10_about_100 rfl ?_
  refine y_zaldM (f := 5) (κ := 35) dX10_about_102 am_5 rfl (by first | omega | exact sl16_lt _ | assumption) (by decide) ?_
  refine x_if_eq (tgt := 110) dX10_about_103 (by decide) (fun hc103 => ?_) (fun hc103 => ?_)
  · refine x_iconst (v := 0) dX10_about_110 (by decide) ?_
    exact x_rI dX10_about_111 rfl rfl (by unfold ml_at; simp [bI, hc6, hc20, hc35, hc103]) rfl (by simp) (by simp)
  · refine x_iconst (v := 1) dX10_about_106 (by decide) ?_
    refine x_goto (tgt := 111) dX10_about_107 (by decide) ?_
    exact x_rI dX10_about_111 rfl rfl (by unfold ml_at; simp [bI, hc6, hc20, hc35, hc103]) rfl (by simp) (by simp)
set_option maxRecDepth 100000 in
set_option maxHeartbeats 400000 in
theorem j_about_1 {X : XS} {d : Nat} {S : St} {g m : Nat} (hg : g < 3) (hm : m < 6) (hI : isM (nI g) (nI m) = true) (h1 : wi (nI 1) 0 14 = true) : Call X mX10_about false (d + 2) [.ref (ad 10 0), .int (nI g), .int (nI m), .int (nI 1)] (hp S) (.inl (some (.int (ml_at (sm S 0 0 0) (6 * g + m) 1))), hp (sm S 0 0 0), 0, 0) := by
  refine Call.of fX10_about (by decide) rfl (by simp [Value.category]) (Nat.le_of_ble_eq_true rfl) (lv := [some (.ref (ad 10 0)), some (.int (nI g)), some (.int (nI m)), some (.int (nI 1)), none]) rfl ?_
  refine x_aload_n dX10_about_0 rfl ?_
  refine x_iload_n dX10_about_1 rfl ?_
  refine x_iload_n dX10_about_2 rfl ?_
  refine x_cS (as := [_, _]) dX10_about_3 fX10_isMember rfl lk_RX10_160 rfl (Nat.le_of_ble_eq_true rfl) (c_isMember _ _) (by simp) (by simp) ?_
  refine x_if_neB (tgt := 13) dX10_about_6 (by decide) (fun hc6 => ?_) (fun hc6 => by first | exact absurd (by simp [hI]) hc6 | exact absurd hc6 (by simp [hI]))
  refine x_iload_n dX10_about_13 rfl ?_
  refine x_iconst (v := 0) dX10_about_14 (by decide) ?_
  refine x_bipush (v := 14) dX10_about_15 (by decide) ?_
  refine x_cS (as := [_, _, _]) dX10_about_17 fX10_within rfl lk_RX10_150 rfl (Nat.le_of_ble_eq_true rfl) (c_within _ _ _) (by simp) (by simp) ?_
  refine x_if_neB (tgt := 27) dX10_about_20 (by decide) (fun hc20 => ?_) (fun hc20 => by first | exact absurd (by simp [h1]) hc20 | exact absurd hc20 (by simp [h1]))
  refine x_iconst (v := 0) dX10_about_27 (by decide) ?_
  refine x_putM dX10_about_28 fp_RX10_146 pm_0 ?_
  refine x_aload_n dX10_about_31 rfl ?_
  refine x_get dX10_about_32 fl_RX10_146 (hp_get (κ := 10) (by decide)) rfl ?_
  refine x_eqi (y := 0) rfl ?_
  refine x_if_le (tgt := 40) dX10_about_35 (by decide) (fun hc35 => ?_) (fun hc35 => by first | exact absurd (by decide) hc35 | exact absurd hc35 (by decide))
  refine x_bipush (v := 6) dX10_about_40 (by decide) ?_
  refine x_iload_n dX10_about_42 rfl ?_
  refine x_imul dX10_about_43 ?_
  refine x_iload_n dX10_about_44 rfl ?_
  refine x_iadd dX10_about_45 ?_
  refine x_eqi (ix6 _ _) ?_
  refine x_istore (lv' := [_, _, _, _, _]) dX10_about_46 (by decide) rfl ?_
  refine x_iload_n dX10_about_48 rfl ?_
  refine x_tableIn (tgt := 112) (off := 63) dX10_about_49 (by decide) (by decide) (by decide) (by decide) ?_
  refine x_aload_n dX10_about_112 rfl ?_
  refine x_get dX10_about_113 fl_RX10_17 (hp_get (κ := 10) (by decide)) rfl ?_
  refine x_iload dX10_about_116 rfl ?_
  refine y_ialdM (f := 6) (κ := 36) dX10_about_118 am_6 rfl (by first | omega | exact sl16_lt _ | assumption) (by decide) ?_
  exact x_rI dX10_about_119 rfl rfl (by unfold ml_at; simp [bI, hc6, hc20, hc35]) rfl (by simp) (by simp)
set_option maxRecDepth 100000 in
set_option maxHeartbeats 400000 in
theorem j_about_2 {X : XS} {d : Nat} {S : St} {g m : Nat} (hg : g < 3) (hm : m < 6) (hI : isM (nI g) (nI m) = true) (h1 : wi (nI 2) 0 14 = true) : Call X mX10_about false (d + 2) [.ref (ad 10 0), .int (nI g), .int (nI m), .int (nI 2)] (hp S) (.inl (some (.int (ml_at (sm S 0 0 0) (6 * g + m) 2))), hp (sm S 0 0 0), 0, 0) := by
  refine Call.of fX10_about (by decide) rfl (by simp [Value.category]) (Nat.le_of_ble_eq_true rfl) (lv := [some (.ref (ad 10 0)), some (.int (nI g)), some (.int (nI m)), some (.int (nI 2)), none]) rfl ?_
  refine x_aload_n dX10_about_0 rfl ?_
  refine x_iload_n dX10_about_1 rfl ?_
  refine x_iload_n dX10_about_2 rfl ?_
  refine x_cS (as := [_, _]) dX10_about_3 fX10_isMember rfl lk_RX10_160 rfl (Nat.le_of_ble_eq_true rfl) (c_isMember _ _) (by simp) (by simp) ?_
  refine x_if_neB (tgt := 13) dX10_about_6 (by decide) (fun hc6 => ?_) (fun hc6 => by first | exact absurd (by simp [hI]) hc6 | exact absurd hc6 (by simp [hI]))
  refine x_iload_n dX10_about_13 rfl ?_
  refine x_iconst (v := 0) dX10_about_14 (by decide) ?_
  refine x_bipush (v := 14) dX10_about_15 (by decide) ?_
  refine x_cS (as := [_, _, _]) dX10_about_17 fX10_within rfl lk_RX10_150 rfl (Nat.le_of_ble_eq_true rfl) (c_within _ _ _) (by simp) (by simp) ?_
  refine x_if_neB (tgt := 27) dX10_about_20 (by decide) (fun hc20 => ?_) (fun hc20 => by first | exact absurd (by simp [h1]) hc20 | exact absurd hc20 (by simp [h1]))
  refine x_iconst (v := 0) dX10_about_27 (by decide) ?_
  refine x_putM dX10_about_28 fp_RX10_146 pm_0 ?_
  refine x_aload_n dX10_about_31 rfl ?_
  refine x_get dX10_about_32 fl_RX10_146 (hp_get (κ := 10) (by decide)) rfl ?_
  refine x_eqi (y := 0) rfl ?_
  refine x_if_le (tgt := 40) dX10_about_35 (by decide) (fun hc35 => ?_) (fun hc35 => by first | exact absurd (by decide) hc35 | exact absurd hc35 (by decide))
  refine x_bipush (v := 6) dX10_about_40 (by decide) ?_
  refine x_iload_n dX10_about_42 rfl ?_
  refine x_imul dX10_about_43 ?_
  refine x_iload_n dX10_about_44 rfl ?_
  refine x_iadd dX10_about_45 ?_
  refine x_eqi (ix6 _ _) ?_
  refine x_istore (lv' := [_, _, _, _, _]) dX10_about_46 (by decide) rfl ?_
  refine x_iload_n dX10_about_48 rfl ?_
  refine x_tableIn (tgt := 120) (off := 71) dX10_about_49 (by decide) (by decide) (by decide) (by decide) ?_
  refine x_aload_n dX10_about_120 rfl ?_
  refine x_get dX10_about_121 fl_RX10_20 (hp_get (κ := 10) (by decide)) rfl ?_
  refine x_iload dX10_about_124 rfl ?_
  refine y_ialdM (f := 7) (κ := 37) dX10_about_126 am_7 rfl (by first | omega | exact sl16_lt _ | assumption) (by decide) ?_
  exact x_rI dX10_about_127 rfl rfl (by unfold ml_at; simp [bI, hc6, hc20, hc35]) rfl (by simp) (by simp)
set_option maxRecDepth 100000 in
set_option maxHeartbeats 400000 in
theorem j_about_3 {X : XS} {d : Nat} {S : St} {g m : Nat} (hg : g < 3) (hm : m < 6) (hI : isM (nI g) (nI m) = true) (h1 : wi (nI 3) 0 14 = true) : Call X mX10_about false (d + 2) [.ref (ad 10 0), .int (nI g), .int (nI m), .int (nI 3)] (hp S) (.inl (some (.int (ml_at (sm S 0 0 0) (6 * g + m) 3))), hp (sm S 0 0 0), 0, 0) := by
  refine Call.of fX10_about (by decide) rfl (by simp [Value.category]) (Nat.le_of_ble_eq_true rfl) (lv := [some (.ref (ad 10 0)), some (.int (nI g)), some (.int (nI m)), some (.int (nI 3)), none]) rfl ?_
  refine x_aload_n dX10_about_0 rfl ?_
  refine x_iload_n dX10_about_1 rfl ?_
  refine x_iload_n dX10_about_2 rfl ?_
  refine x_cS (as := [_, _]) dX10_about_3 fX10_isMember rfl lk_RX10_160 rfl (Nat.le_of_ble_eq_true rfl) (c_isMember _ _) (by simp) (by simp) ?_
  refine x_if_neB (tgt := 13) dX10_about_6 (by decide) (fun hc6 => ?_) (fun hc6 => by first | exact absurd (by simp [hI]) hc6 | exact absurd hc6 (by simp [hI]))
  refine x_iload_n dX10_about_13 rfl ?_
  refine x_iconst (v := 0) dX10_about_14 (by decide) ?_
  refine x_bipush (v := 14) dX10_about_15 (by decide) ?_
  refine x_cS (as := [_, _, _]) dX10_about_17 fX10_within rfl lk_RX10_150 rfl (Nat.le_of_ble_eq_true rfl) (c_within _ _ _) (by simp) (by simp) ?_
  refine x_if_neB (tgt := 27) dX10_about_20 (by decide) (fun hc20 => ?_) (fun hc20 => by first | exact absurd (by simp [h1]) hc20 | exact absurd hc20 (by simp [h1]))
  refine x_iconst (v := 0) dX10_about_27 (by decide) ?_
  refine x_putM dX10_about_28 fp_RX10_146 pm_0 ?_
  refine x_aload_n dX10_about_31 rfl ?_
  refine x_get dX10_about_32 fl_RX10_146 (hp_get (κ := 10) (by decide)) rfl ?_
  refine x_eqi (y := 0) rfl ?_
  refine x_if_le (tgt := 40) dX10_about_35 (by decide) (fun hc35 => ?_) (fun hc35 => by first | exact absurd (by decide) hc35 | exact absurd hc35 (by decide))
  refine x_bipush (v := 6) dX10_about_40 (by decide) ?_
  refine x_iload_n dX10_about_42 rfl ?_
  refine x_imul dX10_about_43 ?_
  refine x_iload_n dX10_about_44 rfl ?_
  refine x_iadd dX10_about_45 ?_
  refine x_eqi (ix6 _ _) ?_
  refine x_istore (lv' := [_, _, _, _, _]) dX10_about_46 (by decide) rfl ?_
  refine x_iload_n dX10_about_48 rfl ?_
  refine x_tableIn (tgt := 128) (off := 79) dX10_about_49 (by decide) (by decide) (by decide) (by decide) ?_
  refine x_aload_n dX10_about_128 rfl ?_
  refine x_get dX10_about_129 fl_RX10_23 (hp_get (κ := 10) (by decide)) rfl ?_
  refine x_iload dX10_about_132 rfl ?_
  refine y_ialdM (f := 8) (κ := 38) dX10_about_134 am_8 rfl (by first | omega | exact sl16_lt _ | assumption) (by decide) ?_
  exact x_rI dX10_about_135 rfl rfl (by unfold ml_at; simp [bI, hc6, hc20, hc35]) rfl (by simp) (by simp)
set_option maxRecDepth 100000 in
set_option maxHeartbeats 400000 in
theorem j_about_4 {X : XS} {d : Nat} {S : St} {g m : Nat} (hg : g < 3) (hm : m < 6) (hI : isM (nI g) (nI m) = true) (h1 : wi (nI 4) 0 14 = true) : Call X mX10_about false (d + 2) [.ref (ad 10 0), .int (nI g), .int (nI m), .int (nI 4)] (hp S) (.inl (some (.int (ml_at (sm S 0 0 0) (6 * g + m) 4))), hp (sm S 0 0 0), 0, 0) := by
  refine Call.of fX10_about (by decide) rfl (by simp [Value.category]) (Nat.le_of_ble_eq_true rfl) (lv := [some (.ref (ad 10 0)), some (.int (nI g)), some (.int (nI m)), some (.int (nI 4)), none]) rfl ?_
  refine x_aload_n dX10_about_0 rfl ?_
  refine x_iload_n dX10_about_1 rfl ?_
  refine x_iload_n dX10_about_2 rfl ?_
  refine x_cS (as := [_, _]) dX10_about_3 fX10_isMember rfl lk_RX10_160 rfl (Nat.le_of_ble_eq_true rfl) (c_isMember _ _) (by simp) (by simp) ?_
  refine x_if_neB (tgt := 13) dX10_about_6 (by decide) (fun hc6 => ?_) (fun hc6 => by first | exact absurd (by simp [hI]) hc6 | exact absurd hc6 (by simp [hI]))
  refine x_iload_n dX10_about_13 rfl ?_
  refine x_iconst (v := 0) dX10_about_14 (by decide) ?_
  refine x_bipush (v := 14) dX10_about_15 (by decide) ?_
  refine x_cS (as := [_, _, _]) dX10_about_17 fX10_within rfl lk_RX10_150 rfl (Nat.le_of_ble_eq_true rfl) (c_within _ _ _) (by simp) (by simp) ?_
  refine x_if_neB (tgt := 27) dX10_about_20 (by decide) (fun hc20 => ?_) (fun hc20 => by first | exact absurd (by simp [h1]) hc20 | exact absurd hc20 (by simp [h1]))
  refine x_iconst (v := 0) dX10_about_27 (by decide) ?_
  refine x_putM dX10_about_28 fp_RX10_146 pm_0 ?_
  refine x_aload_n dX10_about_31 rfl ?_
  refine x_get dX10_about_32 fl_RX10_146 (hp_get (κ := 10) (by decide)) rfl ?_
  refine x_eqi (y := 0) rfl ?_
  refine x_if_le (tgt := 40) dX10_about_35 (by decide) (fun hc35 => ?_) (fun hc35 => by first | exact absurd (by decide) hc35 | exact absurd hc35 (by decide))
  refine x_bipush (v := 6) dX10_about_40 (by decide) ?_
  refine x_iload_n dX10_about_42 rfl ?_
  refine x_imul dX10_about_43 ?_
  refine x_iload_n dX10_about_44 rfl ?_
  refine x_iadd dX10_about_45 ?_
  refine x_eqi (ix6 _ _) ?_
  refine x_istore (lv' := [_, _, _, _, _]) dX10_about_46 (by decide) rfl ?_
  refine x_iload_n dX10_about_48 rfl ?_
  refine x_tableIn (tgt := 136) (off := 87) dX10_about_49 (by decide) (by decide) (by decide) (by decide) ?_
  refine x_aload_n dX10_about_136 rfl ?_
  refine x_get dX10_about_137 fl_RX10_29 (hp_get (κ := 10) (by decide)) rfl ?_
  refine x_iload dX10_about_140 rfl ?_
  refine y_ialdM (f := 10) (κ := 40) dX10_about_142 am_10 rfl (by first | omega | exact sl16_lt _ | assumption) (by decide) ?_
  exact x_rI dX10_about_143 rfl rfl (by unfold ml_at; simp [bI, hc6, hc20, hc35]) rfl (by simp) (by simp)
set_option maxRecDepth 100000 in
set_option maxHeartbeats 400000 in
theorem j_about_5 {X : XS} {d : Nat} {S : St} {g m : Nat} (hg : g < 3) (hm : m < 6) (hI : isM (nI g) (nI m) = true) (h1 : wi (nI 5) 0 14 = true) : Call X mX10_about false (d + 2) [.ref (ad 10 0), .int (nI g), .int (nI m), .int (nI 5)] (hp S) (.inl (some (.int (ml_at (sm S 0 0 0) (6 * g + m) 5))), hp (sm S 0 0 0), 0, 0) := by
  refine Call.of fX10_about (by decide) rfl (by simp [Value.category]) (Nat.le_of_ble_eq_true rfl) (lv := [some (.ref (ad 10 0)), some (.int (nI g)), some (.int (nI m)), some (.int (nI 5)), none]) rfl ?_
  refine x_aload_n dX10_about_0 rfl ?_
  refine x_iload_n dX10_about_1 rfl ?_
  refine x_iload_n dX10_about_2 rfl ?_
  refine x_cS (as := [_, _]) dX10_about_3 fX10_isMember rfl lk_RX10_160 rfl (Nat.le_of_ble_eq_true rfl) (c_isMember _ _) (by simp) (by simp) ?_
  refine x_if_neB (tgt := 13) dX10_about_6 (by decide) (fun hc6 => ?_) (fun hc6 => by first | exact absurd (by simp [hI]) hc6 | exact absurd hc6 (by simp [hI]))
  refine x_iload_n dX10_about_13 rfl ?_
  refine x_iconst (v := 0) dX10_about_14 (by decide) ?_
  refine x_bipush (v := 14) dX10_about_15 (by decide) ?_
  refine x_cS (as := [_, _, _]) dX10_about_17 fX10_within rfl lk_RX10_150 rfl (Nat.le_of_ble_eq_true rfl) (c_within _ _ _) (by simp) (by simp) ?_
  refine x_if_neB (tgt := 27) dX10_about_20 (by decide) (fun hc20 => ?_) (fun hc20 => by first | exact absurd (by simp [h1]) hc20 | exact absurd hc20 (by simp [h1]))
  refine x_iconst (v := 0) dX10_about_27 (by decide) ?_
  refine x_putM dX10_about_28 fp_RX10_146 pm_0 ?_
  refine x_aload_n dX10_about_31 rfl ?_
  refine x_get dX10_about_32 fl_RX10_146 (hp_get (κ := 10) (by decide)) rfl ?_
  refine x_eqi (y := 0) rfl ?_
  refine x_if_le (tgt := 40) dX10_about_35 (by decide) (fun hc35 => ?_) (fun hc35 => by first | exact absurd (by decide) hc35 | exact absurd hc35 (by decide))
  refine x_bipush (v := 6) dX10_about_40 (by decide) ?_
  refine x_iload_n dX10_about_42 rfl ?_
  refine x_imul dX10_about_43 ?_
  refine x_iload_n dX10_about_44 rfl ?_
  refine x_iadd dX10_about_45 ?_
  refine x_eqi (ix6 _ _) ?_
  refine x_istore (lv' := [_, _, _, _, _]) dX10_about_46 (by decide) rfl ?_
  refine x_iload_n dX10_about_48 rfl ?_
  refine x_tableIn (tgt := 144) (off := 95) dX10_about_49 (by decide) (by decide) (by decide) (by decide) ?_
  refine x_aload_n dX10_about_144 rfl ?_
  refine x_get dX10_about_145 fl_RX10_32 (hp_get (κ := 10) (by decide)) rfl ?_
  refine x_iload dX10_about_148 rfl ?_
  refine y_ialdM (f := 11) (κ := 41) dX10_about_150 am_11 rfl (by first | omega | exact sl16_lt _ | assumption) (by decide) ?_
  exact x_rI dX10_about_151 rfl rfl (by unfold ml_at; simp [bI, hc6, hc20, hc35]) rfl (by simp) (by simp)
set_option maxRecDepth 100000 in
set_option maxHeartbeats 400000 in
theorem j_about_6 {X : XS} {d : Nat} {S : St} {g m : Nat} (hg : g < 3) (hm : m < 6) (hI : isM (nI g) (nI m) = true) (h1 : wi (nI 6) 0 14 = true) : Call X mX10_about false (d + 2) [.ref (ad 10 0), .int (nI g), .int (nI m), .int (nI 6)] (hp S) (.inl (some (.int (ml_at (sm S 0 0 0) (6 * g + m) 6))), hp (sm S 0 0 0), 0, 0) := by
  refine Call.of fX10_about (by decide) rfl (by simp [Value.category]) (Nat.le_of_ble_eq_true rfl) (lv := [some (.ref (ad 10 0)), some (.int (nI g)), some (.int (nI m)), some (.int (nI 6)), none]) rfl ?_
  refine x_aload_n dX10_about_0 rfl ?_
  refine x_iload_n dX10_about_1 rfl ?_
  refine x_iload_n dX10_about_2 rfl ?_
  refine x_cS (as := [_, _]) dX10_about_3 fX10_isMember rfl lk_RX10_160 rfl (Nat.le_of_ble_eq_true rfl) (c_isMember _ _) (by simp) (by simp) ?_
  refine x_if_neB (tgt := 13) dX10_about_6 (by decide) (fun hc6 => ?_) (fun hc6 => by first | exact absurd (by simp [hI]) hc6 | exact absurd hc6 (by simp [hI]))
  refine x_iload_n dX10_about_13 rfl ?_
  refine x_iconst (v := 0) dX10_about_14 (by decide) ?_
  refine x_bipush (v := 14) dX10_about_15 (by decide) ?_
  refine x_cS (as := [_, _, _]) dX10_about_17 fX10_within rfl lk_RX10_150 rfl (Nat.le_of_ble_eq_true rfl) (c_within _ _ _) (by simp) (by simp) ?_
  refine x_if_neB (tgt := 27) dX10_about_20 (by decide) (fun hc20 => ?_) (fun hc20 => by first | exact absurd (by simp [h1]) hc20 | exact absurd hc20 (by simp [h1]))
  refine x_iconst (v := 0) dX10_about_27 (by decide) ?_
  refine x_putM dX10_about_28 fp_RX10_146 pm_0 ?_
  refine x_aload_n dX10_about_31 rfl ?_
  refine x_get dX10_about_32 fl_RX10_146 (hp_get (κ := 10) (by decide)) rfl ?_
  refine x_eqi (y := 0) rfl ?_
  refine x_if_le (tgt := 40) dX10_about_35 (by decide) (fun hc35 => ?_) (fun hc35 => by first | exact absurd (by decide) hc35 | exact absurd hc35 (by decide))
  refine x_bipush (v := 6) dX10_about_40 (by decide) ?_
  refine x_iload_n dX10_about_42 rfl ?_
  refine x_imul dX10_about_43 ?_
  refine x_iload_n dX10_about_44 rfl ?_
  refine x_iadd dX10_about_45 ?_
  refine x_eqi (ix6 _ _) ?_
  refine x_istore (lv' := [_, _, _, _, _]) dX10_about_46 (by decide) rfl ?_
  refine x_iload_n dX10_about_48 rfl ?_
  refine x_tableIn (tgt := 152) (off := 103) dX10_about_49 (by decide) (by decide) (by decide) (by decide) ?_
  refine x_aload_n dX10_about_152 rfl ?_
  refine x_get dX10_about_153 fl_RX10_35 (hp_get (κ := 10) (by decide)) rfl ?_
  refine x_iload dX10_about_156 rfl ?_
  refine y_ialdM (f := 12) (κ := 42) dX10_about_158 am_12 rfl (by first | omega | exact sl16_lt _ | assumption) (by decide) ?_
  exact x_rI dX10_about_159 rfl rfl (by unfold ml_at; simp [bI, hc6, hc20, hc35]) rfl (by simp) (by simp)
set_option maxRecDepth 100000 in
set_option maxHeartbeats 400000 in
theorem j_about_7 {X : XS} {d : Nat} {S : St} {g m : Nat} (hg : g < 3) (hm : m < 6) (hI : isM (nI g) (nI m) = true) (h1 : wi (nI 7) 0 14 = true) : Call X mX10_about false (d + 2) [.ref (ad 10 0), .int (nI g), .int (nI m), .int (nI 7)] (hp S) (.inl (some (.int (ml_at (sm S 0 0 0) (6 * g + m) 7))), hp (sm S 0 0 0), 0, 0) := by
  refine Call.of fX10_about (by decide) rfl (by simp [Value.category]) (Nat.le_of_ble_eq_true rfl) (lv := [some (.ref (ad 10 0)), some (.int (nI g)), some (.int (nI m)), some (.int (nI 7)), none]) rfl ?_
  refine x_aload_n dX10_about_0 rfl ?_
  refine x_iload_n dX10_about_1 rfl ?_
  refine x_iload_n dX10_about_2 rfl ?_
  refine x_cS (as := [_, _]) dX10_about_3 fX10_isMember rfl lk_RX10_160 rfl (Nat.le_of_ble_eq_true rfl) (c_isMember _ _) (by simp) (by simp) ?_
  refine x_if_neB (tgt := 13) dX10_about_6 (by decide) (fun hc6 => ?_) (fun hc6 => by first | exact absurd (by simp [hI]) hc6 | exact absurd hc6 (by simp [hI]))
  refine x_iload_n dX10_about_13 rfl ?_
  refine x_iconst (v := 0) dX10_about_14 (by decide) ?_
  refine x_bipush (v := 14) dX10_about_15 (by decide) ?_
  refine x_cS (as := [_, _, _]) dX10_about_17 fX10_within rfl lk_RX10_150 rfl (Nat.le_of_ble_eq_true rfl) (c_within _ _ _) (by simp) (by simp) ?_
  refine x_if_neB (tgt := 27) dX10_about_20 (by decide) (fun hc20 => ?_) (fun hc20 => by first | exact absurd (by simp [h1]) hc20 | exact absurd hc20 (by simp [h1]))
  refine x_iconst (v := 0) dX10_about_27 (by decide) ?_
  refine x_putM dX10_about_28 fp_RX10_146 pm_0 ?_
  refine x_aload_n dX10_about_31 rfl ?_
  refine x_get dX10_about_32 fl_RX10_146 (hp_get (κ := 10) (by decide)) rfl ?_
  refine x_eqi (y := 0) rfl ?_
  refine x_if_le (tgt := 40) dX10_about_35 (by decide) (fun hc35 => ?_) (fun hc35 => by first | exact absurd (by decide) hc35 | exact absurd hc35 (by decide))
  refine x_bipush (v := 6) dX10_about_40 (by decide) ?_
  refine x_iload_n dX10_about_42 rfl ?_
  refine x_imul dX10_about_43 ?_
  refine x_iload_n dX10_about_44 rfl ?_
  refine x_iadd dX10_about_45 ?_
  refine x_eqi (ix6 _ _) ?_
  refine x_istore (lv' := [_, _, _, _, _]) dX10_about_46 (by decide) rfl ?_
  refine x_iload_n dX10_about_48 rfl ?_
  refine x_tableIn (tgt := 160) (off := 111) dX10_about_49 (by decide) (by decide) (by decide) (by decide) ?_
  refine x_aload_n dX10_about_160 rfl ?_
  refine x_get dX10_about_161 fl_RX10_41 (hp_get (κ := 10) (by decide)) rfl ?_
  refine x_iload dX10_about_164 rfl ?_
  refine y_ialdM (f := 14) (κ := 44) dX10_about_166 am_14 rfl (by first | omega | exact sl16_lt _ | assumption) (by decide) ?_
  exact x_rI dX10_about_167 rfl rfl (by unfold ml_at; simp [bI, hc6, hc20, hc35]) rfl (by simp) (by simp)
set_option maxRecDepth 100000 in
set_option maxHeartbeats 400000 in
theorem j_about_8 {X : XS} {d : Nat} {S : St} {g m : Nat} (hg : g < 3) (hm : m < 6) (hI : isM (nI g) (nI m) = true) (h1 : wi (nI 8) 0 14 = true) : Call X mX10_about false (d + 2) [.ref (ad 10 0), .int (nI g), .int (nI m), .int (nI 8)] (hp S) (.inl (some (.int (ml_at (sm S 0 0 0) (6 * g + m) 8))), hp (sm S 0 0 0), 0, 0) := by
  refine Call.of fX10_about (by decide) rfl (by simp [Value.category]) (Nat.le_of_ble_eq_true rfl) (lv := [some (.ref (ad 10 0)), some (.int (nI g)), some (.int (nI m)), some (.int (nI 8)), none]) rfl ?_
  refine x_aload_n dX10_about_0 rfl ?_
  refine x_iload_n dX10_about_1 rfl ?_
  refine x_iload_n dX10_about_2 rfl ?_
  refine x_cS (as := [_, _]) dX10_about_3 fX10_isMember rfl lk_RX10_160 rfl (Nat.le_of_ble_eq_true rfl) (c_isMember _ _) (by simp) (by simp) ?_
  refine x_if_neB (tgt := 13) dX10_about_6 (by decide) (fun hc6 => ?_) (fun hc6 => by first | exact absurd (by simp [hI]) hc6 | exact absurd hc6 (by simp [hI]))
  refine x_iload_n dX10_about_13 rfl ?_
  refine x_iconst (v := 0) dX10_about_14 (by decide) ?_
  refine x_bipush (v := 14) dX10_about_15 (by decide) ?_
  refine x_cS (as := [_, _, _]) dX10_about_17 fX10_within rfl lk_RX10_150 rfl (Nat.le_of_ble_eq_true rfl) (c_within _ _ _) (by simp) (by simp) ?_
  refine x_if_neB (tgt := 27) dX10_about_20 (by decide) (fun hc20 => ?_) (fun hc20 => by first | exact absurd (by simp [h1]) hc20 | exact absurd hc20 (by simp [h1]))
  refine x_iconst (v := 0) dX10_about_27 (by decide) ?_
  refine x_putM dX10_about_28 fp_RX10_146 pm_0 ?_
  refine x_aload_n dX10_about_31 rfl ?_
  refine x_get dX10_about_32 fl_RX10_146 (hp_get (κ := 10) (by decide)) rfl ?_
  refine x_eqi (y := 0) rfl ?_
  refine x_if_le (tgt := 40) dX10_about_35 (by decide) (fun hc35 => ?_) (fun hc35 => by first | exact absurd (by decide) hc35 | exact absurd hc35 (by decide))
  refine x_bipush (v := 6) dX10_about_40 (by decide) ?_
  refine x_iload_n dX10_about_42 rfl ?_
  refine x_imul dX10_about_43 ?_
  refine x_iload_n dX10_about_44 rfl ?_
  refine x_iadd dX10_about_45 ?_
  refine x_eqi (ix6 _ _) ?_
  refine x_istore (lv' := [_, _, _, _, _]) dX10_about_46 (by decide) rfl ?_
  refine x_iload_n dX10_about_48 rfl ?_
  refine x_tableOut (tgt := 168) dX10_about_49 (by decide) (by decide) ?_
  refine x_aload_n dX10_about_168 rfl ?_
  refine x_iload dX10_about_169 rfl ?_
  refine x_iload_n dX10_about_171 rfl ?_
  refine x_cV (as := [_, _]) dX10_about_172 fX10_aboutSpurt rfl lk_RX10_244 rfl (hp_get (κ := 10) (by decide)) rfl rfl (Nat.le_of_ble_eq_true rfl) (c_mAs_8 (by omega)) (by simp) (by simp) ?_
  exact x_rI dX10_about_175 rfl rfl (by unfold ml_at; simp [bI, hc6, hc20, hc35]) rfl (by simp) (by simp)
set_option maxRecDepth 100000 in
set_option maxHeartbeats 400000 in
theorem j_about_9 {X : XS} {d : Nat} {S : St} {g m : Nat} (hg : g < 3) (hm : m < 6) (hI : isM (nI g) (nI m) = true) (h1 : wi (nI 9) 0 14 = true) : Call X mX10_about false (d + 2) [.ref (ad 10 0), .int (nI g), .int (nI m), .int (nI 9)] (hp S) (.inl (some (.int (ml_at (sm S 0 0 0) (6 * g + m) 9))), hp (sm S 0 0 0), 0, 0) := by
  refine Call.of fX10_about (by decide) rfl (by simp [Value.category]) (Nat.le_of_ble_eq_true rfl) (lv := [some (.ref (ad 10 0)), some (.int (nI g)), some (.int (nI m)), some (.int (nI 9)), none]) rfl ?_
  refine x_aload_n dX10_about_0 rfl ?_
  refine x_iload_n dX10_about_1 rfl ?_
  refine x_iload_n dX10_about_2 rfl ?_
  refine x_cS (as := [_, _]) dX10_about_3 fX10_isMember rfl lk_RX10_160 rfl (Nat.le_of_ble_eq_true rfl) (c_isMember _ _) (by simp) (by simp) ?_
  refine x_if_neB (tgt := 13) dX10_about_6 (by decide) (fun hc6 => ?_) (fun hc6 => by first | exact absurd (by simp [hI]) hc6 | exact absurd hc6 (by simp [hI]))
  refine x_iload_n dX10_about_13 rfl ?_
  refine x_iconst (v := 0) dX10_about_14 (by decide) ?_
  refine x_bipush (v := 14) dX10_about_15 (by decide) ?_
  refine x_cS (as := [_, _, _]) dX10_about_17 fX10_within rfl lk_RX10_150 rfl (Nat.le_of_ble_eq_true rfl) (c_within _ _ _) (by simp) (by simp) ?_
  refine x_if_neB (tgt := 27) dX10_about_20 (by decide) (fun hc20 => ?_) (fun hc20 => by first | exact absurd (by simp [h1]) hc20 | exact absurd hc20 (by simp [h1]))
  refine x_iconst (v := 0) dX10_about_27 (by decide) ?_
  refine x_putM dX10_about_28 fp_RX10_146 pm_0 ?_
  refine x_aload_n dX10_about_31 rfl ?_
  refine x_get dX10_about_32 fl_RX10_146 (hp_get (κ := 10) (by decide)) rfl ?_
  refine x_eqi (y := 0) rfl ?_
  refine x_if_le (tgt := 40) dX10_about_35 (by decide) (fun hc35 => ?_) (fun hc35 => by first | exact absurd (by decide) hc35 | exact absurd hc35 (by decide))
  refine x_bipush (v := 6) dX10_about_40 (by decide) ?_
  refine x_iload_n dX10_about_42 rfl ?_
  refine x_imul dX10_about_43 ?_
  refine x_iload_n dX10_about_44 rfl ?_
  refine x_iadd dX10_about_45 ?_
  refine x_eqi (ix6 _ _) ?_
  refine x_istore (lv' := [_, _, _, _, _]) dX10_about_46 (by decide) rfl ?_
  refine x_iload_n dX10_about_48 rfl ?_
  refine x_tableOut (tgt := 168) dX10_about_49 (by decide) (by decide) ?_
  refine x_aload_n dX10_about_168 rfl ?_
  refine x_iload dX10_about_169 rfl ?_
  refine x_iload_n dX10_about_171 rfl ?_
  refine x_cV (as := [_, _]) dX10_about_172 fX10_aboutSpurt rfl lk_RX10_244 rfl (hp_get (κ := 10) (by decide)) rfl rfl (Nat.le_of_ble_eq_true rfl) (c_mAs_9 (by omega)) (by simp) (by simp) ?_
  exact x_rI dX10_about_175 rfl rfl (by unfold ml_at; simp [bI, hc6, hc20, hc35]) rfl (by simp) (by simp)
set_option maxRecDepth 100000 in
set_option maxHeartbeats 400000 in
theorem j_about_10 {X : XS} {d : Nat} {S : St} {g m : Nat} (hg : g < 3) (hm : m < 6) (hI : isM (nI g) (nI m) = true) (h1 : wi (nI 10) 0 14 = true) : Call X mX10_about false (d + 2) [.ref (ad 10 0), .int (nI g), .int (nI m), .int (nI 10)] (hp S) (.inl (some (.int (ml_at (sm S 0 0 0) (6 * g + m) 10))), hp (sm S 0 0 0), 0, 0) := by
  refine Call.of fX10_about (by decide) rfl (by simp [Value.category]) (Nat.le_of_ble_eq_true rfl) (lv := [some (.ref (ad 10 0)), some (.int (nI g)), some (.int (nI m)), some (.int (nI 10)), none]) rfl ?_
  refine x_aload_n dX10_about_0 rfl ?_
  refine x_iload_n dX10_about_1 rfl ?_
  refine x_iload_n dX10_about_2 rfl ?_
  refine x_cS (as := [_, _]) dX10_about_3 fX10_isMember rfl lk_RX10_160 rfl (Nat.le_of_ble_eq_true rfl) (c_isMember _ _) (by simp) (by simp) ?_
  refine x_if_neB (tgt := 13) dX10_about_6 (by decide) (fun hc6 => ?_) (fun hc6 => by first | exact absurd (by simp [hI]) hc6 | exact absurd hc6 (by simp [hI]))
  refine x_iload_n dX10_about_13 rfl ?_
  refine x_iconst (v := 0) dX10_about_14 (by decide) ?_
  refine x_bipush (v := 14) dX10_about_15 (by decide) ?_
  refine x_cS (as := [_, _, _]) dX10_about_17 fX10_within rfl lk_RX10_150 rfl (Nat.le_of_ble_eq_true rfl) (c_within _ _ _) (by simp) (by simp) ?_
  refine x_if_neB (tgt := 27) dX10_about_20 (by decide) (fun hc20 => ?_) (fun hc20 => by first | exact absurd (by simp [h1]) hc20 | exact absurd hc20 (by simp [h1]))
  refine x_iconst (v := 0) dX10_about_27 (by decide) ?_
  refine x_putM dX10_about_28 fp_RX10_146 pm_0 ?_
  refine x_aload_n dX10_about_31 rfl ?_
  refine x_get dX10_about_32 fl_RX10_146 (hp_get (κ := 10) (by decide)) rfl ?_
  refine x_eqi (y := 0) rfl ?_
  refine x_if_le (tgt := 40) dX10_about_35 (by decide) (fun hc35 => ?_) (fun hc35 => by first | exact absurd (by decide) hc35 | exact absurd hc35 (by decide))
  refine x_bipush (v := 6) dX10_about_40 (by decide) ?_
  refine x_iload_n dX10_about_42 rfl ?_
  refine x_imul dX10_about_43 ?_
  refine x_iload_n dX10_about_44 rfl ?_
  refine x_iadd dX10_about_45 ?_
  refine x_eqi (ix6 _ _) ?_
  refine x_istore (lv' := [_, _, _, _, _]) dX10_about_46 (by decide) rfl ?_
  refine x_iload_n dX10_about_48 rfl ?_
  refine x_tableOut (tgt := 168) dX10_about_49 (by decide) (by decide) ?_
  refine x_aload_n dX10_about_168 rfl ?_
  refine x_iload dX10_about_169 rfl ?_
  refine x_iload_n dX10_about_171 rfl ?_
  refine x_cV (as := [_, _]) dX10_about_172 fX10_aboutSpurt rfl lk_RX10_244 rfl (hp_get (κ := 10) (by decide)) rfl rfl (Nat.le_of_ble_eq_true rfl) (c_mAs_10 (by omega)) (by simp) (by simp) ?_
  exact x_rI dX10_about_175 rfl rfl (by unfold ml_at; simp [bI, hc6, hc20, hc35]) rfl (by simp) (by simp)
set_option maxRecDepth 100000 in
set_option maxHeartbeats 400000 in
theorem j_about_11 {X : XS} {d : Nat} {S : St} {g m : Nat} (hg : g < 3) (hm : m < 6) (hI : isM (nI g) (nI m) = true) (h1 : wi (nI 11) 0 14 = true) : Call X mX10_about false (d + 2) [.ref (ad 10 0), .int (nI g), .int (nI m), .int (nI 11)] (hp S) (.inl (some (.int (ml_at (sm S 0 0 0) (6 * g + m) 11))), hp (sm S 0 0 0), 0, 0) := by
  refine Call.of fX10_about (by decide) rfl (by simp [Value.category]) (Nat.le_of_ble_eq_true rfl) (lv := [some (.ref (ad 10 0)), some (.int (nI g)), some (.int (nI m)), some (.int (nI 11)), none]) rfl ?_
  refine x_aload_n dX10_about_0 rfl ?_
  refine x_iload_n dX10_about_1 rfl ?_
  refine x_iload_n dX10_about_2 rfl ?_
  refine x_cS (as := [_, _]) dX10_about_3 fX10_isMember rfl lk_RX10_160 rfl (Nat.le_of_ble_eq_true rfl) (c_isMember _ _) (by simp) (by simp) ?_
  refine x_if_neB (tgt := 13) dX10_about_6 (by decide) (fun hc6 => ?_) (fun hc6 => by first | exact absurd (by simp [hI]) hc6 | exact absurd hc6 (by simp [hI]))
  refine x_iload_n dX10_about_13 rfl ?_
  refine x_iconst (v := 0) dX10_about_14 (by decide) ?_
  refine x_bipush (v := 14) dX10_about_15 (by decide) ?_
  refine x_cS (as := [_, _, _]) dX10_about_17 fX10_within rfl lk_RX10_150 rfl (Nat.le_of_ble_eq_true rfl) (c_within _ _ _) (by simp) (by simp) ?_
  refine x_if_neB (tgt := 27) dX10_about_20 (by decide) (fun hc20 => ?_) (fun hc20 => by first | exact absurd (by simp [h1]) hc20 | exact absurd hc20 (by simp [h1]))
  refine x_iconst (v := 0) dX10_about_27 (by decide) ?_
  refine x_putM dX10_about_28 fp_RX10_146 pm_0 ?_
  refine x_aload_n dX10_about_31 rfl ?_
  refine x_get dX10_about_32 fl_RX10_146 (hp_get (κ := 10) (by decide)) rfl ?_
  refine x_eqi (y := 0) rfl ?_
  refine x_if_le (tgt := 40) dX10_about_35 (by decide) (fun hc35 => ?_) (fun hc35 => by first | exact absurd (by decide) hc35 | exact absurd hc35 (by decide))
  refine x_bipush (v := 6) dX10_about_40 (by decide) ?_
  refine x_iload_n dX10_about_42 rfl ?_
  refine x_imul dX10_about_43 ?_
  refine x_iload_n dX10_about_44 rfl ?_
  refine x_iadd dX10_about_45 ?_
  refine x_eqi (ix6 _ _) ?_
  refine x_istore (lv' := [_, _, _, _, _]) dX10_about_46 (by decide) rfl ?_
  refine x_iload_n dX10_about_48 rfl ?_
  refine x_tableOut (tgt := 168) dX10_about_49 (by decide) (by decide) ?_
  refine x_aload_n dX10_about_168 rfl ?_
  refine x_iload dX10_about_169 rfl ?_
  refine x_iload_n dX10_about_171 rfl ?_
  refine x_cV (as := [_, _]) dX10_about_172 fX10_aboutSpurt rfl lk_RX10_244 rfl (hp_get (κ := 10) (by decide)) rfl rfl (Nat.le_of_ble_eq_true rfl) (c_mAs_11 (by omega)) (by simp) (by simp) ?_
  exact x_rI dX10_about_175 rfl rfl (by unfold ml_at; simp [bI, hc6, hc20, hc35]) rfl (by simp) (by simp)
set_option maxRecDepth 100000 in
set_option maxHeartbeats 400000 in
theorem j_about_12 {X : XS} {d : Nat} {S : St} {g m : Nat} (hg : g < 3) (hm : m < 6) (hI : isM (nI g) (nI m) = true) (h1 : wi (nI 12) 0 14 = true) : Call X mX10_about false (d + 2) [.ref (ad 10 0), .int (nI g), .int (nI m), .int (nI 12)] (hp S) (.inl (some (.int (ml_at (sm S 0 0 0) (6 * g + m) 12))), hp (sm S 0 0 0), 0, 0) := by
  refine Call.of fX10_about (by decide) rfl (by simp [Value.category]) (Nat.le_of_ble_eq_true rfl) (lv := [some (.ref (ad 10 0)), some (.int (nI g)), some (.int (nI m)), some (.int (nI 12)), none]) rfl ?_
  refine x_aload_n dX10_about_0 rfl ?_
  refine x_iload_n dX10_about_1 rfl ?_
  refine x_iload_n dX10_about_2 rfl ?_
  refine x_cS (as := [_, _]) dX10_about_3 fX10_isMember rfl lk_RX10_160 rfl (Nat.le_of_ble_eq_true rfl) (c_isMember _ _) (by simp) (by simp) ?_
  refine x_if_neB (tgt := 13) dX10_about_6 (by decide) (fun hc6 => ?_) (fun hc6 => by first | exact absurd (by simp [hI]) hc6 | exact absurd hc6 (by simp [hI]))
  refine x_iload_n dX10_about_13 rfl ?_
  refine x_iconst (v := 0) dX10_about_14 (by decide) ?_
  refine x_bipush (v := 14) dX10_about_15 (by decide) ?_
  refine x_cS (as := [_, _, _]) dX10_about_17 fX10_within rfl lk_RX10_150 rfl (Nat.le_of_ble_eq_true rfl) (c_within _ _ _) (by simp) (by simp) ?_
  refine x_if_neB (tgt := 27) dX10_about_20 (by decide) (fun hc20 => ?_) (fun hc20 => by first | exact absurd (by simp [h1]) hc20 | exact absurd hc20 (by simp [h1]))
  refine x_iconst (v := 0) dX10_about_27 (by decide) ?_
  refine x_putM dX10_about_28 fp_RX10_146 pm_0 ?_
  refine x_aload_n dX10_about_31 rfl ?_
  refine x_get dX10_about_32 fl_RX10_146 (hp_get (κ := 10) (by decide)) rfl ?_
  refine x_eqi (y := 0) rfl ?_
  refine x_if_le (tgt := 40) dX10_about_35 (by decide) (fun hc35 => ?_) (fun hc35 => by first | exact absurd (by decide) hc35 | exact absurd hc35 (by decide))
  refine x_bipush (v := 6) dX10_about_40 (by decide) ?_
  refine x_iload_n dX10_about_42 rfl ?_
  refine x_imul dX10_about_43 ?_
  refine x_iload_n dX10_about_44 rfl ?_
  refine x_iadd dX10_about_45 ?_
  refine x_eqi (ix6 _ _) ?_
  refine x_istore (lv' := [_, _, _, _, _]) dX10_about_46 (by decide) rfl ?_
  refine x_iload_n dX10_about_48 rfl ?_
  refine x_tableOut (tgt := 168) dX10_about_49 (by decide) (by decide) ?_
  refine x_aload_n dX10_about_168 rfl ?_
  refine x_iload dX10_about_169 rfl ?_
  refine x_iload_n dX10_about_171 rfl ?_
  refine x_cV (as := [_, _]) dX10_about_172 fX10_aboutSpurt rfl lk_RX10_244 rfl (hp_get (κ := 10) (by decide)) rfl rfl (Nat.le_of_ble_eq_true rfl) (c_mAs_12 (by omega)) (by simp) (by simp) ?_
  exact x_rI dX10_about_175 rfl rfl (by unfold ml_at; simp [bI, hc6, hc20, hc35]) rfl (by simp) (by simp)
set_option maxRecDepth 100000 in
set_option maxHeartbeats 400000 in
theorem j_about_13 {X : XS} {d : Nat} {S : St} {g m : Nat} (hg : g < 3) (hm : m < 6) (hI : isM (nI g) (nI m) = true) (h1 : wi (nI 13) 0 14 = true) : Call X mX10_about false (d + 2) [.ref (ad 10 0), .int (nI g), .int (nI m), .int (nI 13)] (hp S) (.inl (some (.int (ml_at (sm S 0 0 0) (6 * g + m) 13))), hp (sm S 0 0 0), 0, 0) := by
  refine Call.of fX10_about (by decide) rfl (by simp [Value.category]) (Nat.le_of_ble_eq_true rfl) (lv := [some (.ref (ad 10 0)), some (.int (nI g)), some (.int (nI m)), some (.int (nI 13)), none]) rfl ?_
  refine x_aload_n dX10_about_0 rfl ?_
  refine x_iload_n dX10_about_1 rfl ?_
  refine x_iload_n dX10_about_2 rfl ?_
  refine x_cS (as := [_, _]) dX10_about_3 fX10_isMember rfl lk_RX10_160 rfl (Nat.le_of_ble_eq_true rfl) (c_isMember _ _) (by simp) (by simp) ?_
  refine x_if_neB (tgt := 13) dX10_about_6 (by decide) (fun hc6 => ?_) (fun hc6 => by first | exact absurd (by simp [hI]) hc6 | exact absurd hc6 (by simp [hI]))
  refine x_iload_n dX10_about_13 rfl ?_
  refine x_iconst (v := 0) dX10_about_14 (by decide) ?_
  refine x_bipush (v := 14) dX10_about_15 (by decide) ?_
  refine x_cS (as := [_, _, _]) dX10_about_17 fX10_within rfl lk_RX10_150 rfl (Nat.le_of_ble_eq_true rfl) (c_within _ _ _) (by simp) (by simp) ?_
  refine x_if_neB (tgt := 27) dX10_about_20 (by decide) (fun hc20 => ?_) (fun hc20 => by first | exact absurd (by simp [h1]) hc20 | exact absurd hc20 (by simp [h1]))
  refine x_iconst (v := 0) dX10_about_27 (by decide) ?_
  refine x_putM dX10_about_28 fp_RX10_146 pm_0 ?_
  refine x_aload_n dX10_about_31 rfl ?_
  refine x_get dX10_about_32 fl_RX10_146 (hp_get (κ := 10) (by decide)) rfl ?_
  refine x_eqi (y := 0) rfl ?_
  refine x_if_le (tgt := 40) dX10_about_35 (by decide) (fun hc35 => ?_) (fun hc35 => by first | exact absurd (by decide) hc35 | exact absurd hc35 (by decide))
  refine x_bipush (v := 6) dX10_about_40 (by decide) ?_
  refine x_iload_n dX10_about_42 rfl ?_
  refine x_imul dX10_about_43 ?_
  refine x_iload_n dX10_about_44 rfl ?_
  refine x_iadd dX10_about_45 ?_
  refine x_eqi (ix6 _ _) ?_
  refine x_istore (lv' := [_, _, _, _, _]) dX10_about_46 (by decide) rfl ?_
  refine x_iload_n dX10_about_48 rfl ?_
  refine x_tableOut (tgt := 168) dX10_about_49 (by decide) (by decide) ?_
  refine x_aload_n dX10_about_168 rfl ?_
  refine x_iload dX10_about_169 rfl ?_
  refine x_iload_n dX10_about_171 rfl ?_
  refine x_cV (as := [_, _]) dX10_about_172 fX10_aboutSpurt rfl lk_RX10_244 rfl (hp_get (κ := 10) (by decide)) rfl rfl (Nat.le_of_ble_eq_true rfl) (c_mAs_13 (by omega)) (by simp) (by simp) ?_
  exact x_rI dX10_about_175 rfl rfl (by unfold ml_at; simp [bI, hc6, hc20, hc35]) rfl (by simp) (by simp)
set_option maxRecDepth 100000 in
set_option maxHeartbeats 400000 in
theorem j_about_14 {X : XS} {d : Nat} {S : St} {g m : Nat} (hg : g < 3) (hm : m < 6) (hI : isM (nI g) (nI m) = true) (h1 : wi (nI 14) 0 14 = true) : Call X mX10_about false (d + 2) [.ref (ad 10 0), .int (nI g), .int (nI m), .int (nI 14)] (hp S) (.inl (some (.int (ml_at (sm S 0 0 0) (6 * g + m) 14))), hp (sm S 0 0 0), 0, 0) := by
  refine Call.of fX10_about (by decide) rfl (by simp [Value.category]) (Nat.le_of_ble_eq_true rfl) (lv := [some (.ref (ad 10 0)), some (.int (nI g)), some (.int (nI m)), some (.int (nI 14)), none]) rfl ?_
  refine x_aload_n dX10_about_0 rfl ?_
  refine x_iload_n dX10_about_1 rfl ?_
  refine x_iload_n dX10_about_2 rfl ?_
  refine x_cS (as := [_, _]) dX10_about_3 fX10_isMember rfl lk_RX10_160 rfl (Nat.le_of_ble_eq_true rfl) (c_isMember _ _) (by simp) (by simp) ?_
  refine x_if_neB (tgt := 13) dX10_about_6 (by decide) (fun hc6 => ?_) (fun hc6 => by first | exact absurd (by simp [hI]) hc6 | exact absurd hc6 (by simp [hI]))
  refine x_iload_n dX10_about_13 rfl ?_
  refine x_iconst (v := 0) dX10_about_14 (by decide) ?_
  refine x_bipush (v := 14) dX10_about_15 (by decide) ?_
  refine x_cS (as := [_, _, _]) dX10_about_17 fX10_within rfl lk_RX10_150 rfl (Nat.le_of_ble_eq_true rfl) (c_within _ _ _) (by simp) (by simp) ?_
  refine x_if_neB (tgt := 27) dX10_about_20 (by decide) (fun hc20 => ?_) (fun hc20 => by first | exact absurd (by simp [h1]) hc20 | exact absurd hc20 (by simp [h1]))
  refine x_iconst (v := 0) dX10_about_27 (by decide) ?_
  refine x_putM dX10_about_28 fp_RX10_146 pm_0 ?_
  refine x_aload_n dX10_about_31 rfl ?_
  refine x_get dX10_about_32 fl_RX10_146 (hp_get (κ := 10) (by decide)) rfl ?_
  refine x_eqi (y := 0) rfl ?_
  refine x_if_le (tgt := 40) dX10_about_35 (by decide) (fun hc35 => ?_) (fun hc35 => by first | exact absurd (by decide) hc35 | exact absurd hc35 (by decide))
  refine x_bipush (v := 6) dX10_about_40 (by decide) ?_
  refine x_iload_n dX10_about_42 rfl ?_
  refine x_imul dX10_about_43 ?_
  refine x_iload_n dX10_about_44 rfl ?_
  refine x_iadd dX10_about_45 ?_
  refine x_eqi (ix6 _ _) ?_
  refine x_istore (lv' := [_, _, _, _, _]) dX10_about_46 (by decide) rfl ?_
  refine x_iload_n dX10_about_48 rfl ?_
  refine x_tableOut (tgt := 168) dX10_about_49 (by decide) (by decide) ?_
  refine x_aload_n dX10_about_168 rfl ?_
  refine x_iload dX10_about_169 rfl ?_
  refine x_iload_n dX10_about_171 rfl ?_
  refine x_cV (as := [_, _]) dX10_about_172 fX10_aboutSpurt rfl lk_RX10_244 rfl (hp_get (κ := 10) (by decide)) rfl rfl (Nat.le_of_ble_eq_true rfl) (c_mAs_14 (by omega)) (by simp) (by simp) ?_
  exact x_rI dX10_about_175 rfl rfl (by unfold ml_at; simp [bI, hc6, hc20, hc35]) rfl (by simp) (by simp)
theorem j_about {X : XS} {d : Nat} {S : St} {g m : Nat} (hg : g < 3) (hm : m < 6) (hI : isM (nI g) (nI m) = true) {j : Nat} (h1 : wi (nI j) 0 14 = true) (hj2 : j < 15) : Call X mX10_about false (d + 2) [.ref (ad 10 0), .int (nI g), .int (nI m), .int (nI j)] (hp S) (.inl (some (.int (ml_at (sm S 0 0 0) (6 * g + m) j))), hp (sm S 0 0 0), 0, 0) := by
  have hj : j = 0 ∨ j = 1 ∨ j = 2 ∨ j = 3 ∨ j = 4 ∨ j = 5 ∨ j = 6 ∨ j = 7 ∨ j = 8 ∨ j = 9 ∨ j = 10 ∨ j = 11 ∨ j = 12 ∨ j = 13 ∨ j = 14 := by omega
  rcases hj with rfl | rfl | rfl | rfl | rfl | rfl | rfl | rfl | rfl | rfl | rfl | rfl | rfl | rfl | rfl
  · exact j_about_0 hg hm hI h1
  · exact j_about_1 hg hm hI h1
  · exact j_about_2 hg hm hI h1
  · exact j_about_3 hg hm hI h1
  · exact j_about_4 hg hm hI h1
  · exact j_about_5 hg hm hI h1
  · exact j_about_6 hg hm hI h1
  · exact j_about_7 hg hm hI h1
  · exact j_about_8 hg hm hI h1
  · exact j_about_9 hg hm hI h1
  · exact j_about_10 hg hm hI h1
  · exact j_about_11 hg hm hI h1
  · exact j_about_12 hg hm hI h1
  · exact j_about_13 hg hm hI h1
  · exact j_about_14 hg hm hI h1
set_option maxRecDepth 100000 in
set_option maxHeartbeats 400000 in
theorem j_aboutN {X : XS} {d : Nat} {S : St} {x y z : Int32} (hI : isM x y = false) : Call X mX10_about false (d + 2) [.ref (ad 10 0), .int x, .int y, .int z] (hp S) (.inl (some (.int (0))), hp (sm S 0 0 1), 0, 0) := by
  refine Call.of fX10_about (by decide) rfl (by simp [Value.category]) (Nat.le_of_ble_eq_true rfl) (lv := [some (.ref (ad 10 0)), some (.int x), some (.int y), some (.int z), none]) rfl ?_
  refine x_aload_n dX10_about_0 rfl ?_
  refine x_iload_n dX10_about_1 rfl ?_
  refine x_iload_n dX10_about_2 rfl ?_
  refine x_cS (as := [_, _]) dX10_about_3 fX10_isMember rfl lk_RX10_160 rfl (Nat.le_of_ble_eq_true rfl) (c_isMember _ _) (by simp) (by simp) ?_
  refine x_if_neB (tgt := 13) dX10_about_6 (by decide) (fun hc6 => by first | exact absurd hc6 (by simp [hI]) | exact absurd (by simp [hI]) hc6) (fun hc6 => ?_)
  refine x_iconst (v := 1) dX10_about_9 (by decide) ?_
  refine x_goto (tgt := 28) dX10_about_10 (by decide) ?_
  refine x_putM dX10_about_28 fp_RX10_146 pm_0 ?_
  refine x_aload_n dX10_about_31 rfl ?_
  refine x_get dX10_about_32 fl_RX10_146 (hp_get (κ := 10) (by decide)) rfl ?_
  refine x_eqi (y := 1) rfl ?_
  refine x_if_le (tgt := 40) dX10_about_35 (by decide) (fun hc35 => by first | exact absurd hc35 (by decide) | exact absurd (by decide) hc35) (fun hc35 => ?_)
  refine x_iconst (v := 0) dX10_about_38 (by decide) ?_
  exact x_rI dX10_about_39 rfl rfl rfl rfl (by simp) (by simp)
set_option maxRecDepth 100000 in
set_option maxHeartbeats 400000 in
theorem j_aboutI {X : XS} {d : Nat} {S : St} {x y z : Int32} (hI : isM x y = true) (h1 : wi z 0 14 = false) : Call X mX10_about false (d + 2) [.ref (ad 10 0), .int x, .int y, .int z] (hp S) (.inl (some (.int (0))), hp (sm S 0 0 2), 0, 0) := by
  refine Call.of fX10_about (by decide) rfl (by simp [Value.category]) (Nat.le_of_ble_eq_true rfl) (lv := [some (.ref (ad 10 0)), some (.int x), some (.int y), some (.int z), none]) rfl ?_
  refine x_aload_n dX10_about_0 rfl ?_
  refine x_iload_n dX10_about_1 rfl ?_
  refine x_iload_n dX10_about_2 rfl ?_
  refine x_cS (as := [_, _]) dX10_about_3 fX10_isMember rfl lk_RX10_160 rfl (Nat.le_of_ble_eq_true rfl) (c_isMember _ _) (by simp) (by simp) ?_
  refine x_if_neB (tgt := 13) dX10_about_6 (by decide) (fun hc6 => ?_) (fun hc6 => by first | exact absurd (by simp [hI]) hc6 | exact absurd hc6 (by simp [hI]))
  refine x_iload_n dX10_about_13 rfl ?_
  refine x_iconst (v := 0) dX10_about_14 (by decide) ?_
  refine x_bipush (v := 14) dX10_about_15 (by decide) ?_
  refine x_cS (as := [_, _, _]) dX10_about_17 fX10_within rfl lk_RX10_150 rfl (Nat.le_of_ble_eq_true rfl) (c_within _ _ _) (by simp) (by simp) ?_
  refine x_if_neB (tgt := 27) dX10_about_20 (by decide) (fun hc20 => by first | exact absurd hc20 (by simp [h1]) | exact absurd (by simp [h1]) hc20) (fun hc20 => ?_)
  refine x_iconst (v := 2) dX10_about_23 (by decide) ?_
  refine x_goto (tgt := 28) dX10_about_24 (by decide) ?_
  refine x_putM dX10_about_28 fp_RX10_146 pm_0 ?_
  refine x_aload_n dX10_about_31 rfl ?_
  refine x_get dX10_about_32 fl_RX10_146 (hp_get (κ := 10) (by decide)) rfl ?_
  refine x_eqi (y := 2) rfl ?_
  refine x_if_le (tgt := 40) dX10_about_35 (by decide) (fun hc35 => by first | exact absurd hc35 (by decide) | exact absurd (by decide) hc35) (fun hc35 => ?_)
  refine x_iconst (v := 0) dX10_about_38 (by decide) ?_
  exact x_rI dX10_about_39 rfl rfl rfl rfl (by simp) (by simp)
