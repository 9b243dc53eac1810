set_option maxRecDepth 100000 in
set_option maxHeartbeats 4000000 in
theorem c_takeBack {X : XS} {d : Nat} {S : St} {g m : Nat} (hg : g < 3) (hm : m < 6) (hN : NetOK S) (hI : FlI S g) (t : Int32) : Call X mX1_takeBack false (d + 3) [.ref (ad 1 g), .int (nI m), .int t] (hp S) (.inl none, hp (fl_back S g m t), 0, 0) := by
  refine Call.of fX1_takeBack (by decide) rfl (by simp [Value.category]) (Nat.le_of_ble_eq_true rfl) (lv := [some (.ref (ad 1 g)), some (.int (nI m)), some (.int t), none]) rfl ?_
  refine x_iload_n dX1_takeBack_0 rfl ?_
  refine x_aload_n dX1_takeBack_1 rfl ?_
  refine x_get dX1_takeBack_2 fl_RX1_25 (hp_get (κ := 1) (by first | assumption | (show _ < _; simp only [cnt]; omega))) rfl ?_
  refine x_icmp_eq (tgt := 18) dX1_takeBack_5 (by decide) (fun hc5 => ?_) (fun hc5 => ?_)
  · refine x_aload_n dX1_takeBack_18 rfl ?_
    refine x_iconst (v := (-1)) dX1_takeBack_19 (by decide) ?_
    refine x_putC dX1_takeBack_20 fp_RX1_25 (by first | assumption | (show _ < _; simp only [cnt]; omega)) pb_1_7 ⟨rfl, rfl⟩ ?_
    refine x_aload_n dX1_takeBack_23 rfl ?_
    refine x_iconst (v := (-1)) dX1_takeBack_24 (by decide) ?_
    refine x_putC dX1_takeBack_25 fp_RX1_29 (by first | assumption | (show _ < _; simp only [cnt]; omega)) pb_1_8 ⟨rfl, rfl⟩ ?_
    refine x_aload_n dX1_takeBack_28 rfl ?_
    refine x_iconst (v := (-1)) dX1_takeBack_29 (by decide) ?_
    refine x_putC dX1_takeBack_30 fp_RX1_32 (by first | assumption | (show _ < _; simp only [cnt]; omega)) pb_1_9 ⟨rfl, rfl⟩ ?_
    refine x_aload_n dX1_takeBack_33 rfl ?_
    refine x_iconst (v := (-1)) dX1_takeBack_34 (by decide) ?_
    refine x_putC dX1_takeBack_35 fp_RX1_35 (by first | assumption | (show _ < _; simp only [cnt]; omega)) pb_1_10 ⟨rfl, rfl⟩ ?_
    refine x_heq (S2 := fl_free0 S g) rfl ?_
    refine x_aload_n dX1_takeBack_38 rfl ?_
    refine x_get dX1_takeBack_39 fl_RX1_79 (hp_get (κ := 1) (by first | assumption | (show _ < _; simp only [cnt]; omega))) rfl ?_
    have hI0 : FlI (fl_free0 S g) g := hI.free0
    have hN0 : NetOK (fl_free0 S g) := free0_net hN
    refine x_if_le (tgt := 66) dX1_takeBack_42 (by decide) (fun hc42 => ?_) (fun hc42 => ?_)
    · refine x_aload_n dX1_takeBack_66 rfl ?_
      refine x_get dX1_takeBack_67 fl_RX1_38 (hp_get (κ := 1) (by first | assumption | (show _ < _; simp only [cnt]; omega))) rfl ?_
      refine x_bipush (v := 10) dX1_takeBack_70 (by decide) ?_
      refine x_iconst (v := 0) dX1_takeBack_72 (by decide) ?_
      refine x_aload_n dX1_takeBack_73 rfl ?_
      refine x_get dX1_takeBack_74 fl_RX1_106 (hp_get (κ := 1) (by first | assumption | (show _ < _; simp only [cnt]; omega))) rfl ?_
      refine x_iconst (v := (-1)) dX1_takeBack_77 (by decide) ?_
      refine x_cVv (as := [_, _, _, _]) dX1_takeBack_78 fX7_tell rfl lk_RX1_88 rfl (hp_get (κ := 7) (by first | assumption | (show _ < _; simp only [cnt]; omega))) rfl rfl (Nat.le_of_ble_eq_true rfl) (c_tell (S := fl_free0 S g) hg hN0 _ _ _ _) (by simp) (by simp) ?_
      exact x_rV dX1_takeBack_81 rfl rfl (by first | (simp [fl_back, fl_free, hc5, hc42]; done) | (unfold fl_back fl_free; rw [if_pos hc5, if_pos hc42]; rfl) | (unfold fl_back fl_free; rw [if_pos hc5, if_neg hc42])) (by simp) (by simp)
    · have hw0 : 0 < wN (fl_free0 S g) g := free_w hI0.1 hc42
      refine x_aload_n dX1_takeBack_45 rfl ?_
      refine x_get dX1_takeBack_46 fl_RX1_21 (hp_get (κ := 1) (by first | assumption | (show _ < _; simp only [cnt]; omega))) rfl ?_
      refine x_iconst (v := 0) dX1_takeBack_49 (by decide) ?_
      refine x_eqi (show (0 : Int32) = nI 0 from rfl) ?_
      refine x_ialdC dX1_takeBack_50 ac_13 (by first | assumption | (show _ < _; simp only [cnt]; omega)) (by first | omega | exact sl16_lt _ | assumption) (by decide) ?_
      refine x_istore_n (lv' := [_, _, _, _]) dX1_takeBack_51 (by decide) rfl ?_
      refine x_aload_n dX1_takeBack_52 rfl ?_
      refine x_iconst (v := 0) dX1_takeBack_53 (by decide) ?_
      refine x_eqi (show (0 : Int32) = nI 0 from rfl) ?_
      refine x_cVv (as := [_]) dX1_takeBack_54 fX1_goFromRow rfl lk_RX1_103 rfl (hp_get (κ := 1) (by first | assumption | (show _ < _; simp only [cnt]; omega))) rfl rfl (Nat.le_of_ble_eq_true rfl) (c_goFromRow (S := fl_free0 S g) hg hI0.1 (by omega)) (by simp) (by simp) ?_
      refine x_aload_n dX1_takeBack_57 rfl ?_
      refine x_iload_n dX1_takeBack_58 rfl ?_
      refine x_eqi (hI0.1.2.2 0 hw0).2 ?_
      refine x_iload_n dX1_takeBack_59 rfl ?_
      refine x_cVv (as := [_, _]) dX1_takeBack_60 fX1_grantTo rfl lk_RX1_82 rfl (hp_get (κ := 1) (by first | assumption | (show _ < _; simp only [cnt]; omega))) rfl rfl (Nat.le_of_ble_eq_true rfl) (c_grantTo hg (hI0.1.2.2 0 hw0).1 (fl_go_net hN0) hI0.go.2.2.1 _) (by simp) (by simp) ?_
      refine x_goto (tgt := 81) dX1_takeBack_63 (by decide) ?_
      exact x_rV dX1_takeBack_81 rfl rfl (by first | (simp [fl_back, fl_free, hc5, hc42]; done) | (unfold fl_back fl_free; rw [if_pos hc5, if_pos hc42]; rfl) | (unfold fl_back fl_free; rw [if_pos hc5, if_neg hc42])) (by simp) (by simp)
  · refine x_aload_n dX1_takeBack_8 rfl ?_
    refine x_aload_n dX1_takeBack_9 rfl ?_
    refine x_iload_n dX1_takeBack_10 rfl ?_
    refine x_cV (as := [_]) dX1_takeBack_11 fX1_placeOf rfl lk_RX1_99 rfl (hp_get (κ := 1) (by first | assumption | (show _ < _; simp only [cnt]; omega))) rfl rfl (Nat.le_of_ble_eq_true rfl) (c_placeOf hg hI.1 _) (by simp) (by simp) ?_
    refine x_cVv (as := [_]) dX1_takeBack_14 fX1_goFromRow rfl lk_RX1_103 rfl (hp_get (κ := 1) (by first | assumption | (show _ < _; simp only [cnt]; omega))) rfl rfl (Nat.le_of_ble_eq_true rfl) (c_goFromRow hg hI.1 (by have := plf_le S g (nI m) (wN S g) 0; have := hI.1.2.1; show plf _ _ _ _ _ ≤ 4; omega)) (by simp) (by simp) ?_
    exact x_rV dX1_takeBack_17 rfl rfl (by first | (simp [fl_back, fl_free, hc5]; done) | (unfold fl_back fl_free; rw [if_pos hc5, if_pos hc42]; rfl) | (unfold fl_back fl_free; rw [if_pos hc5, if_neg hc42])) (by simp) (by simp)
def fl_again (S : St) (g m : Nat) : St := if nI m = S.1 1 g 7 then nt_send S 3 (nI g) (nI m) (S.1 0 (6 * g + m) 0) (S.1 1 g 6) 0 else if S.1 1 g 5 ≤ nI (fl_place S g (nI m)) then (if S.1 0 (6 * g + m) 1 = 0 then S else nt_send S 5 (nI g) (nI m) (S.1 0 (6 * g + m) 0) 0 0) else nt_send S 4 (nI g) (nI m) (S.1 0 (6 * g + m) 0) (nI (fl_place S g (nI m))) 0
set_option maxRecDepth 100000 in
set_option maxHeartbeats 4000000 in
theorem c_answerAgain {X : XS} {d : Nat} {S : St} {g m : Nat} (hg : g < 3) (hm : m < 6) (hN : NetOK S) (hI : FlI S g) : Call X mX1_answerAgain false (d + 2) [.ref (ad 1 g), .int (nI m)] (hp S) (.inl none, hp (fl_again S g m), 0, 0) := by
  refine Call.of fX1_answerAgain (by decide) rfl (by simp [Value.category]) (Nat.le_of_ble_eq_true rfl) (lv := [some (.ref (ad 1 g)), some (.int (nI m)), none, none]) rfl ?_
  refine x_aload_n dX1_answerAgain_0 rfl ?_
  refine x_get dX1_answerAgain_1 fl_RX1_44 (hp_get (κ := 1) (by first | assumption | (show _ < _; simp only [cnt]; omega))) rfl ?_
  refine x_iload_n dX1_answerAgain_4 rfl ?_
  refine x_claims dX1_answerAgain_5 (by first | assumption | (show _ < _; simp only [cnt]; omega)) (by first | omega | exact sl16_lt _ | assumption) ?_
  refine x_get dX1_answerAgain_6 fl_RX1_61 (hp_get (κ := 0) (by first | assumption | (show _ < _; simp only [cnt]; omega))) rfl ?_
  refine x_istore_n (lv' := [_, _, _, _]) dX1_answerAgain_9 (by decide) rfl ?_
  refine x_aload_n dX1_answerAgain_10 rfl ?_
  refine x_iload_n dX1_answerAgain_11 rfl ?_
  refine x_cV (as := [_]) dX1_answerAgain_12 fX1_placeOf rfl lk_RX1_99 rfl (hp_get (κ := 1) (by first | assumption | (show _ < _; simp only [cnt]; omega))) rfl rfl (Nat.le_of_ble_eq_true rfl) (c_placeOf hg hI.1 _) (by simp) (by simp) ?_
  refine x_istore_n (lv' := [_, _, _, _]) dX1_answerAgain_15 (by decide) rfl ?_
  refine x_iload_n dX1_answerAgain_16 rfl ?_
  refine x_aload_n dX1_answerAgain_17 rfl ?_
  refine x_get dX1_answerAgain_18 fl_RX1_25 (hp_get (κ := 1) (by first | assumption | (show _ < _; simp only [cnt]; omega))) rfl ?_
  refine x_icmp_ne (tgt := 41) dX1_answerAgain_21 (by decide) (fun hc21 => ?_) (fun hc21 => ?_)
  · refine x_iload_n dX1_answerAgain_41 rfl ?_
    refine x_aload_n dX1_answerAgain_42 rfl ?_
    refine x_get dX1_answerAgain_43 fl_RX1_79 (hp_get (κ := 1) (by first | assumption | (show _ < _; simp only [cnt]; omega))) rfl ?_
    refine x_icmp_ge (tgt := 63) dX1_answerAgain_46 (by decide) (fun hc46 => ?_) (fun hc46 => ?_)
    · refine x_aload_n dX1_answerAgain_63 rfl ?_
      refine x_get dX1_answerAgain_64 fl_RX1_44 (hp_get (κ := 1) (by first | assumption | (show _ < _; simp only [cnt]; omega))) rfl ?_
      refine x_iload_n dX1_answerAgain_67 rfl ?_
      refine x_claims dX1_answerAgain_68 (by first | assumption | (show _ < _; simp only [cnt]; omega)) (by first | omega | exact sl16_lt _ | assumption) ?_
      refine x_get dX1_answerAgain_69 fl_RX1_85 (hp_get (κ := 0) (by first | assumption | (show _ < _; simp only [cnt]; omega))) rfl ?_
      refine x_if_eq (tgt := 86) dX1_answerAgain_72 (by decide) (fun hc72 => ?_) (fun hc72 => ?_)
      · exact x_rV dX1_answerAgain_86 rfl rfl (by first | (simp [fl_again, hc21, hc46, hc72]; done) | (exfalso; simp_all; done)) (by simp) (by simp)
      · refine x_aload_n dX1_answerAgain_75 rfl ?_
        refine x_get dX1_answerAgain_76 fl_RX1_38 (hp_get (κ := 1) (by first | assumption | (show _ < _; simp only [cnt]; omega))) rfl ?_
        refine x_iconst (v := 5) dX1_answerAgain_79 (by decide) ?_
        refine x_iload_n dX1_answerAgain_80 rfl ?_
        refine x_iload_n dX1_answerAgain_81 rfl ?_
        refine x_iconst (v := 0) dX1_answerAgain_82 (by decide) ?_
        refine x_cVv (as := [_, _, _, _]) dX1_answerAgain_83 fX7_tell rfl lk_RX1_88 rfl (hp_get (κ := 7) (by first | assumption | (show _ < _; simp only [cnt]; omega))) rfl rfl (Nat.le_of_ble_eq_true rfl) (c_tell hg hN _ _ _ _) (by simp) (by simp) ?_
        exact x_rV dX1_answerAgain_86 rfl rfl (by first | (simp [fl_again, hc21, hc46, hc72]; done) | (exfalso; simp_all; done)) (by simp) (by simp)
    · refine x_aload_n dX1_answerAgain_49 rfl ?_
      refine x_get dX1_answerAgain_50 fl_RX1_38 (hp_get (κ := 1) (by first | assumption | (show _ < _; simp only [cnt]; omega))) rfl ?_
      refine x_iconst (v := 4) dX1_answerAgain_53 (by decide) ?_
      refine x_iload_n dX1_answerAgain_54 rfl ?_
      refine x_iload_n dX1_answerAgain_55 rfl ?_
      refine x_iload_n dX1_answerAgain_56 rfl ?_
      refine x_cVv (as := [_, _, _, _]) dX1_answerAgain_57 fX7_tell rfl lk_RX1_88 rfl (hp_get (κ := 7) (by first | assumption | (show _ < _; simp only [cnt]; omega))) rfl rfl (Nat.le_of_ble_eq_true rfl) (c_tell hg hN _ _ _ _) (by simp) (by simp) ?_
      refine x_goto (tgt := 86) dX1_answerAgain_60 (by decide) ?_
      exact x_rV dX1_answerAgain_86 rfl rfl (by first | (simp [fl_again, hc21, hc46]; done) | (exfalso; simp_all; done)) (by simp) (by simp)
  · refine x_aload_n dX1_answerAgain_24 rfl ?_
    refine x_get dX1_answerAgain_25 fl_RX1_38 (hp_get (κ := 1) (by first | assumption | (show _ < _; simp only [cnt]; omega))) rfl ?_
    refine x_iconst (v := 3) dX1_answerAgain_28 (by decide) ?_
    refine x_iload_n dX1_answerAgain_29 rfl ?_
    refine x_iload_n dX1_answerAgain_30 rfl ?_
    refine x_aload_n dX1_answerAgain_31 rfl ?_
    refine x_get dX1_answerAgain_32 fl_RX1_106 (hp_get (κ := 1) (by first | assumption | (show _ < _; simp only [cnt]; omega))) rfl ?_
    refine x_cVv (as := [_, _, _, _]) dX1_answerAgain_35 fX7_tell rfl lk_RX1_88 rfl (hp_get (κ := 7) (by first | assumption | (show _ < _; simp only [cnt]; omega))) rfl rfl (Nat.le_of_ble_eq_true rfl) (c_tell hg hN _ _ _ _) (by simp) (by simp) ?_
    refine x_goto (tgt := 86) dX1_answerAgain_38 (by decide) ?_
    exact x_rV dX1_answerAgain_86 rfl rfl (by first | (simp [fl_again, hc21]; done) | (exfalso; simp_all; done)) (by simp) (by simp)
def hN (S : St) (g : Nat) : Nat := (S.1 1 g 7).toNatClampNeg
def fl_rev (S : St) (g i : Nat) (t : Int32) : St := if S.1 1 g 7 = -1 then S else if S.1 8 (2 * g + 1) 0 = 0 then S else if S.1 1 g 9 = -1 then (if cl_above S i (6 * g + hN S g) = true then nt_send (sc S 1 g 9 t) 6 (nI g) ((sc S 1 g 9 t).1 1 g 7) ((sc S 1 g 9 t).1 1 g 6) 0 0 else S) else S
theorem hN_ok {S : St} {g : Nat} (h : FlI S g) (hh : ¬ S.1 1 g 7 = -1) : hN S g < 6 ∧ S.1 1 g 7 = nI (hN S g) := by
  rcases h.2.2.2 with e | ⟨q, hq, e⟩
  · exact absurd e hh
  · have : hN S g = q := by unfold hN; rw [e, nI_clamp (by omega)]
    rw [this]; exact ⟨hq, e⟩
set_option maxRecDepth 100000 in
set_option maxHeartbeats 4000000 in
theorem c_revoke {X : XS} {d : Nat} {S : St} {g m : Nat} (hg : g < 3) (hm : m < 6) (hNe : NetOK S) (hI : FlI S g) (t : Int32) : Call X mX1_revokeIfBelow false (d + 2) [.ref (ad 1 g), .ref (ad 0 (6 * g + m)), .int t] (hp S) (.inl none, hp (fl_rev S g (6 * g + m) t), 0, 0) := by
  refine Call.of fX1_revokeIfBelow (by decide) rfl (by simp [Value.category]) (Nat.le_of_ble_eq_true rfl) (lv := [some (.ref (ad 1 g)), some (.ref (ad 0 (6 * g + m))), some (.int t)]) rfl ?_
  refine x_aload_n dX1_revokeIfBelow_0 rfl ?_
  refine x_get dX1_revokeIfBelow_1 fl_RX1_25 (hp_get (κ := 1) (by first | assumption | (show _ < _; simp only [cnt]; omega))) rfl ?_
  refine x_iconst (v := (-1)) dX1_revokeIfBelow_4 (by decide) ?_
  refine x_icmp_eq (tgt := 26) dX1_revokeIfBelow_5 (by decide) (fun hc5 => ?_) (fun hc5 => ?_)
  · exact x_rV dX1_revokeIfBelow_26 rfl rfl (by first | (simp [fl_rev, hc5]; done) | (exfalso; simp_all; done)) (by simp) (by simp)
  · refine x_aload_n dX1_revokeIfBelow_8 rfl ?_
    refine x_get dX1_revokeIfBelow_9 fl_RX1_18 (hp_get (κ := 1) (by first | assumption | (show _ < _; simp only [cnt]; omega))) rfl ?_
    refine x_get dX1_revokeIfBelow_12 fl_RX1_134 (hp_get (κ := 8) (by first | assumption | (show _ < _; simp only [cnt]; omega))) rfl ?_
    refine x_if_eq (tgt := 26) dX1_revokeIfBelow_15 (by decide) (fun hc15 => ?_) (fun hc15 => ?_)
    · exact x_rV dX1_revokeIfBelow_26 rfl rfl (by first | (simp [fl_rev, hc5, hc15]; done) | (exfalso; simp_all; done)) (by simp) (by simp)
    · refine x_aload_n dX1_revokeIfBelow_18 rfl ?_
      refine x_get dX1_revokeIfBelow_19 fl_RX1_32 (hp_get (κ := 1) (by first | assumption | (show _ < _; simp only [cnt]; omega))) rfl ?_
      refine x_iconst (v := (-1)) dX1_revokeIfBelow_22 (by decide) ?_
      refine x_icmp_eq (tgt := 27) dX1_revokeIfBelow_23 (by decide) (fun hc23 => ?_) (fun hc23 => ?_)
      · obtain ⟨hh6, hhe⟩ := hN_ok hI hc5
        refine x_aload_n dX1_revokeIfBelow_27 rfl ?_
        refine x_aload_n dX1_revokeIfBelow_28 rfl ?_
        refine x_get dX1_revokeIfBelow_29 fl_RX1_44 (hp_get (κ := 1) (by first | assumption | (show _ < _; simp only [cnt]; omega))) rfl ?_
        refine x_aload_n dX1_revokeIfBelow_32 rfl ?_
        refine x_get dX1_revokeIfBelow_33 fl_RX1_25 (hp_get (κ := 1) (by first | assumption | (show _ < _; simp only [cnt]; omega))) rfl ?_
        refine x_eqi hhe ?_
        refine x_claims dX1_revokeIfBelow_36 (by first | assumption | (show _ < _; simp only [cnt]; omega)) hh6 ?_
        refine x_cV (as := [_]) dX1_revokeIfBelow_37 fX0_isAbove rfl lk_RX1_130 rfl (hp_get (κ := 0) (by first | assumption | (show _ < _; simp only [cnt]; omega))) rfl rfl (Nat.le_of_ble_eq_true rfl) (c_isAbove (by omega) (by omega) (hI.2.1 m hm)) (by simp) (by simp) ?_
        refine x_if_eqB (tgt := 66) dX1_revokeIfBelow_40 (by decide) (fun hc40 => ?_) (fun hc40 => ?_)
        · exact x_rV dX1_revokeIfBelow_66 rfl rfl (by first | (simp [fl_rev, hc5, hc15, hc23, hc40]; done) | (exfalso; simp_all; done)) (by simp) (by simp)
        · refine x_aload_n dX1_revokeIfBelow_43 rfl ?_
          refine x_iload_n dX1_revokeIfBelow_44 rfl ?_
          refine x_putC dX1_revokeIfBelow_45 fp_RX1_32 (by first | assumption | (show _ < _; simp only [cnt]; omega)) pb_1_9 ⟨rfl, rfl⟩ ?_
          refine x_aload_n dX1_revokeIfBelow_48 rfl ?_
          refine x_get dX1_revokeIfBelow_49 fl_RX1_38 (hp_get (κ := 1) (by first | assumption | (show _ < _; simp only [cnt]; omega))) rfl ?_
          refine x_bipush (v := 6) dX1_revokeIfBelow_52 (by decide) ?_
          refine x_aload_n dX1_revokeIfBelow_54 rfl ?_
          refine x_get dX1_revokeIfBelow_55 fl_RX1_25 (hp_get (κ := 1) (by first | assumption | (show _ < _; simp only [cnt]; omega))) rfl ?_
          refine x_aload_n dX1_revokeIfBelow_58 rfl ?_
          refine x_get dX1_revokeIfBelow_59 fl_RX1_106 (hp_get (κ := 1) (by first | assumption | (show _ < _; simp only [cnt]; omega))) rfl ?_
          refine x_iconst (v := 0) dX1_revokeIfBelow_62 (by decide) ?_
          refine x_cVv (as := [_, _, _, _]) dX1_revokeIfBelow_63 fX7_tell rfl lk_RX1_88 rfl (hp_get (κ := 7) (by first | assumption | (show _ < _; simp only [cnt]; omega))) rfl rfl (Nat.le_of_ble_eq_true rfl) (c_tell hg (hNe.sc (by decide) (by decide)) _ _ _ _) (by simp) (by simp) ?_
          exact x_rV dX1_revokeIfBelow_66 rfl rfl (by first | (simp [fl_rev, hc5, hc15, hc23, hc40]; done) | (exfalso; simp_all; done)) (by simp) (by simp)
      · exact x_rV dX1_revokeIfBelow_26 rfl rfl (by first | (simp [fl_rev, hc5, hc15, hc23]; done) | (exfalso; simp_all; done)) (by simp) (by simp)
def fl_pass (S : St) (g : Nat) (a t : Int32) : St := if S.1 1 g 7 = -1 then S else if a = S.1 1 g 6 then sc S 1 g 10 t else S
set_option maxRecDepth 100000 in
set_option maxHeartbeats 4000000 in
theorem c_hearPassed {X : XS} {d : Nat} {S : St} {g : Nat} (hg : g < 3) (a t : Int32) : Call X mX1_hearPassed false d [.ref (ad 1 g), .int a, .int t] (hp S) (.inl none, hp (fl_pass S g a t), 0, 0) := by
  refine Call.of fX1_hearPassed (by decide) rfl (by simp [Value.category]) (Nat.le_of_ble_eq_true rfl) (lv := [some (.ref (ad 1 g)), some (.int a), some (.int t)]) rfl ?_
  refine x_aload_n dX1_hearPassed_0 rfl ?_
  refine x_get dX1_hearPassed_1 fl_RX1_25 (hp_get (κ := 1) (by first | assumption | (show _ < _; simp only [cnt]; omega))) rfl ?_
  refine x_iconst (v := (-1)) dX1_hearPassed_4 (by decide) ?_
  refine x_icmp_eq (tgt := 21) dX1_hearPassed_5 (by decide) (fun hc5 => ?_) (fun hc5 => ?_)
  · exact x_rV dX1_hearPassed_21 rfl rfl (by first | (simp [fl_pass, hc5]; done) | (exfalso; simp_all; done)) (by simp) (by simp)
  · refine x_iload_n dX1_hearPassed_8 rfl ?_
    refine x_aload_n dX1_hearPassed_9 rfl ?_
    refine x_get dX1_hearPassed_10 fl_RX1_106 (hp_get (κ := 1) (by first | assumption | (show _ < _; simp only [cnt]; omega))) rfl ?_
    refine x_icmp_ne (tgt := 21) dX1_hearPassed_13 (by decide) (fun hc13 => ?_) (fun hc13 => ?_)
    · exact x_rV dX1_hearPassed_21 rfl rfl (by first | (simp [fl_pass, hc5, hc13]; done) | (exfalso; simp_all; done)) (by simp) (by simp)
    · refine x_aload_n dX1_hearPassed_16 rfl ?_
      refine x_iload_n dX1_hearPassed_17 rfl ?_
      refine x_putC dX1_hearPassed_18 fp_RX1_35 (by first | assumption | (show _ < _; simp only [cnt]; omega)) pb_1_10 ⟨rfl, rfl⟩ ?_
      exact x_rV dX1_hearPassed_21 rfl rfl (by first | (simp [fl_pass, hc5, hc13]; done) | (exfalso; simp_all; done)) (by simp) (by simp)
def fl_last (S : St) (g : Nat) : Int32 := if S.1 1 g 10 = -1 then S.1 1 g 8 else S.1 1 g 10
def fl_over (S : St) (g : Nat) (t : Int32) : Bool := decide ((¬ S.1 1 g 9 = -1 ∧ S.1 8 (2 * g + 1) 3 ≤ t - S.1 1 g 9) ∨ S.1 8 (2 * g + 1) 1 ≤ t - S.1 1 g 8 ∨ ¬ t - fl_last S g < S.1 8 (2 * g + 1) 2)
set_option maxRecDepth 100000 in
set_option maxHeartbeats 4000000 in
theorem c_isOver {X : XS} {d : Nat} {S : St} {g : Nat} (hg : g < 3) (t : Int32) : Call X mX1_isOver false d [.ref (ad 1 g), .int t] (hp S) (.inl (some (.int (bI (fl_over S g t)))), hp (S), 0, 0) := by
  refine Call.of fX1_isOver (by decide) rfl (by simp [Value.category]) (Nat.le_of_ble_eq_true rfl) (lv := [some (.ref (ad 1 g)), some (.int t), none]) rfl ?_
  refine x_aload_n dX1_isOver_0 rfl ?_
  refine x_get dX1_isOver_1 fl_RX1_35 (hp_get (κ := 1) (by first | assumption | (show _ < _; simp only [cnt]; omega))) rfl ?_
  refine x_iconst (v := (-1)) dX1_isOver_4 (by decide) ?_
  refine x_icmp_ne (tgt := 15) dX1_isOver_5 (by decide) (fun hc5 => ?_) (fun hc5 => ?_)
  · refine x_aload_n dX1_isOver_15 rfl ?_
    refine x_get dX1_isOver_16 fl_RX1_35 (hp_get (κ := 1) (by first | assumption | (show _ < _; simp only [cnt]; omega))) rfl ?_
    refine x_istore_n (lv' := [_, _, _]) dX1_isOver_19 (by decide) rfl ?_
    refine x_aload_n dX1_isOver_20 rfl ?_
    refine x_get dX1_isOver_21 fl_RX1_32 (hp_get (κ := 1) (by first | assumption | (show _ < _; simp only [cnt]; omega))) rfl ?_
    refine x_iconst (v := (-1)) dX1_isOver_24 (by decide) ?_
    refine x_icmp_eq (tgt := 44) dX1_isOver_25 (by decide) (fun hc25 => ?_) (fun hc25 => ?_)
    · refine x_iload_n dX1_isOver_44 rfl ?_
      refine x_aload_n dX1_isOver_45 rfl ?_
      refine x_get dX1_isOver_46 fl_RX1_29 (hp_get (κ := 1) (by first | assumption | (show _ < _; simp only [cnt]; omega))) rfl ?_
      refine x_isub dX1_isOver_49 ?_
      refine x_aload_n dX1_isOver_50 rfl ?_
      refine x_get dX1_isOver_51 fl_RX1_18 (hp_get (κ := 1) (by first | assumption | (show _ < _; simp only [cnt]; omega))) rfl ?_
      refine x_get dX1_isOver_54 fl_RX1_120 (hp_get (κ := 8) (by first | assumption | (show _ < _; simp only [cnt]; omega))) rfl ?_
      refine x_icmp_ge (tgt := 73) dX1_isOver_57 (by decide) (fun hc57 => ?_) (fun hc57 => ?_)
      · refine x_iconst (v := 1) dX1_isOver_73 (by decide) ?_
        refine x_goto (tgt := 78) dX1_isOver_74 (by decide) ?_
        exact x_rI dX1_isOver_78 rfl (by first | exact (bI_nf _).1 | decide) (by first | (simp [fl_over, fl_last, bI, hc5, hc25, hc57]; done) | (exfalso; simp_all; done)) rfl (by simp) (by simp)
      · refine x_iload_n dX1_isOver_60 rfl ?_
        refine x_iload_n dX1_isOver_61 rfl ?_
        refine x_isub dX1_isOver_62 ?_
        refine x_aload_n dX1_isOver_63 rfl ?_
        refine x_get dX1_isOver_64 fl_RX1_18 (hp_get (κ := 1) (by first | assumption | (show _ < _; simp only [cnt]; omega))) rfl ?_
        refine x_get dX1_isOver_67 fl_RX1_123 (hp_get (κ := 8) (by first | assumption | (show _ < _; simp only [cnt]; omega))) rfl ?_
        refine x_icmp_lt (tgt := 77) dX1_isOver_70 (by decide) (fun hc70 => ?_) (fun hc70 => ?_)
        · refine x_iconst (v := 0) dX1_isOver_77 (by decide) ?_
          exact x_rI dX1_isOver_78 rfl (by first | exact (bI_nf _).1 | decide) (by first | (simp [fl_over, fl_last, bI, hc5, hc25, hc57, hc70]; done) | (exfalso; simp_all; done)) rfl (by simp) (by simp)
        · refine x_iconst (v := 1) dX1_isOver_73 (by decide) ?_
          refine x_goto (tgt := 78) dX1_isOver_74 (by decide) ?_
          exact x_rI dX1_isOver_78 rfl (by first | exact (bI_nf _).1 | decide) (by first | (simp [fl_over, fl_last, bI, hc5, hc25, hc57, hc70]; done) | (exfalso; simp_all; done)) rfl (by simp) (by simp)
    · refine x_iload_n dX1_isOver_28 rfl ?_
      refine x_aload_n dX1_isOver_29 rfl ?_
      refine x_get dX1_isOver_30 fl_RX1_32 (hp_get (κ := 1) (by first | assumption | (show _ < _; simp only [cnt]; omega))) rfl ?_
      refine x_isub dX1_isOver_33 ?_
      refine x_aload_n dX1_isOver_34 rfl ?_
      refine x_get dX1_isOver_35 fl_RX1_18 (hp_get (κ := 1) (by first | assumption | (show _ < _; simp only [cnt]; omega))) rfl ?_
      refine x_get dX1_isOver_38 fl_RX1_117 (hp_get (κ := 8) (by first | assumption | (show _ < _; simp only [cnt]; omega))) rfl ?_
      refine x_icmp_ge (tgt := 73) dX1_isOver_41 (by decide) (fun hc41 => ?_) (fun hc41 => ?_)
      · refine x_iconst (v := 1) dX1_isOver_73 (by decide) ?_
        refine x_goto (tgt := 78) dX1_isOver_74 (by decide) ?_
        exact x_rI dX1_isOver_78 rfl (by first | exact (bI_nf _).1 | decide) (by first | (simp [fl_over, fl_last, bI, hc5, hc25, hc41]; done) | (exfalso; simp_all; done)) rfl (by simp) (by simp)
      · refine x_iload_n dX1_isOver_44 rfl ?_
        refine x_aload_n dX1_isOver_45 rfl ?_
        refine x_get dX1_isOver_46 fl_RX1_29 (hp_get (κ := 1) (by first | assumption | (show _ < _; simp only [cnt]; omega))) rfl ?_
        refine x_isub dX1_isOver_49 ?_
        refine x_aload_n dX1_isOver_50 rfl ?_
        refine x_get dX1_isOver_51 fl_RX1_18 (hp_get (κ := 1) (by first | assumption | (show _ < _; simp only [cnt]; omega))) rfl ?_
        refine x_get dX1_isOver_54 fl_RX1_120 (hp_get (κ := 8) (by first | assumption | (show _ < _; simp only [cnt]; omega))) rfl ?_
        refine x_icmp_ge (tgt := 73) dX1_isOver_57 (by decide) (fun hc57 => ?_) (fun hc57 => ?_)
        · refine x_iconst (v := 1) dX1_isOver_73 (by decide) ?_
          refine x_goto (tgt := 78) dX1_isOver_74 (by decide) ?_
          exact x_rI dX1_isOver_78 rfl (by first | exact (bI_nf _).1 | decide) (by first | (simp [fl_over, fl_last, bI, hc5, hc25, hc41, hc57]; done) | (exfalso; simp_all; done)) rfl (by simp) (by simp)
        · refine x_iload_n dX1_isOver_60 rfl ?_
          refine x_iload_n dX1_isOver_61 rfl ?_
          refine x_isub dX1_isOver_62 ?_
          refine x_aload_n dX1_isOver_63 rfl ?_
          refine x_get dX1_isOver_64 fl_RX1_18 (hp_get (κ := 1) (by first | assumption | (show _ < _; simp only [cnt]; omega))) rfl ?_
          refine x_get dX1_isOver_67 fl_RX1_123 (hp_get (κ := 8) (by first | assumption | (show _ < _; simp only [cnt]; omega))) rfl ?_
          refine x_icmp_lt (tgt := 77) dX1_isOver_70 (by decide) (fun hc70 => ?_) (fun hc70 => ?_)
          · refine x_iconst (v := 0) dX1_isOver_77 (by decide) ?_
            exact x_rI dX1_isOver_78 rfl (by first | exact (bI_nf _).1 | decide) (by first | (simp [fl_over, fl_last, bI, hc5, hc25, hc41, hc57, hc70]; done) | (exfalso; simp_all; done)) rfl (by simp) (by simp)
          · refine x_iconst (v := 1) dX1_isOver_73 (by decide) ?_
            refine x_goto (tgt := 78) dX1_isOver_74 (by decide) ?_
            exact x_rI dX1_isOver_78 rfl (by first | exact (bI_nf _).1 | decide) (by first | (simp [fl_over, fl_last, bI, hc5, hc25, hc41, hc57, hc70]; done) | (exfalso; simp_all; done)) rfl (by simp) (by simp)
  · refine x_aload_n dX1_isOver_8 rfl ?_
    refine x_get dX1_isOver_9 fl_RX1_29 (hp_get (κ := 1) (by first | assumption | (show _ < _; simp only [cnt]; omega))) rfl ?_
    refine x_goto (tgt := 19) dX1_isOver_12 (by decide) ?_
    refine x_istore_n (lv' := [_, _, _]) dX1_isOver_19 (by decide) rfl ?_
    refine x_aload_n dX1_isOver_20 rfl ?_
    refine x_get dX1_isOver_21 fl_RX1_32 (hp_get (κ := 1) (by first | assumption | (show _ < _; simp only [cnt]; omega))) rfl ?_
    refine x_iconst (v := (-1)) dX1_isOver_24 (by decide) ?_
    refine x_icmp_eq (tgt := 44) dX1_isOver_25 (by decide) (fun hc25 => ?_) (fun hc25 => ?_)
    · refine x_iload_n dX1_isOver_44 rfl ?_
      refine x_aload_n dX1_isOver_45 rfl ?_
      refine x_get dX1_isOver_46 fl_RX1_29 (hp_get (κ := 1) (by first | assumption | (show _ < _; simp only [cnt]; omega))) rfl ?_
      refine x_isub dX1_isOver_49 ?_
      refine x_aload_n dX1_isOver_50 rfl ?_
      refine x_get dX1_isOver_51 fl_RX1_18 (hp_get (κ := 1) (by first | assumption | (show _ < _; simp only [cnt]; omega))) rfl ?_
      refine x_get dX1_isOver_54 fl_RX1_120 (hp_get (κ := 8) (by first | assumption | (show _ < _; simp only [cnt]; omega))) rfl ?_
      refine x_icmp_ge (tgt := 73) dX1_isOver_57 (by decide) (fun hc57 => ?_) (fun hc57 => ?_)
      · refine x_iconst (v := 1) dX1_isOver_73 (by decide) ?_
        refine x_goto (tgt := 78) dX1_isOver_74 (by decide) ?_
        exact x_rI dX1_isOver_78 rfl (by first | exact (bI_nf _).1 | decide) (by first | (simp [fl_over, fl_last, bI, hc5, hc25, hc57]; done) | (exfalso; simp_all; done)) rfl (by simp) (by simp)
      · refine x_iload_n dX1_isOver_60 rfl ?_
        refine x_iload_n dX1_isOver_61 rfl ?_
        refine x_isub dX1_isOver_62 ?_
        refine x_aload_n dX1_isOver_63 rfl ?_
        refine x_get dX1_isOver_64 fl_RX1_18 (hp_get (κ := 1) (by first | assumption | (show _ < _; simp only [cnt]; omega))) rfl ?_
        refine x_get dX1_isOver_67 fl_RX1_123 (hp_get (κ := 8) (by first | assumption | (show _ < _; simp only [cnt]; omega))) rfl ?_
        refine x_icmp_lt (tgt := 77) dX1_isOver_70 (by decide) (fun hc70 => ?_) (fun hc70 => ?_)
        · refine x_iconst (v := 0) dX1_isOver_77 (by decide) ?_
          exact x_rI dX1_isOver_78 rfl (by first | exact (bI_nf _).1 | decide) (by first | (simp [fl_over, fl_last, bI, hc5, hc25, hc57, hc70]; done) | (exfalso; simp_all; done)) rfl (by simp) (by simp)
        · refine x_iconst (v := 1) dX1_isOver_73 (by decide) ?_
          refine x_goto (tgt := 78) dX1_isOver_74 (by decide) ?_
          exact x_rI dX1_isOver_78 rfl (by first | exact (bI_nf _).1 | decide) (by first | (simp [fl_over, fl_last, bI, hc5, hc25, hc57, hc70]; done) | (exfalso; simp_all; done)) rfl (by simp) (by simp)
    · refine x_iload_n dX1_isOver_28 rfl ?_
      refine x_aload_n dX1_isOver_29 rfl ?_
      refine x_get dX1_isOver_30 fl_RX1_32 (hp_get (κ := 1) (by first | assumption | (show _ < _; simp only [cnt]; omega))) rfl ?_
      refine x_isub dX1_isOver_33 ?_
      refine x_aload_n dX1_isOver_34 rfl ?_
      refine x_get dX1_isOver_35 fl_RX1_18 (hp_get (κ := 1) (by first | assumption | (show _ < _; simp only [cnt]; omega))) rfl ?_
      refine x_get dX1_isOver_38 fl_RX1_117 (hp_get (κ := 8) (by first | assumption | (show _ < _; simp only [cnt]; omega))) rfl ?_
      refine x_icmp_ge (tgt := 73) dX1_isOver_41 (by decide) (fun hc41 => ?_) (fun hc41 => ?_)
      · refine x_iconst (v := 1) dX1_isOver_73 (by decide) ?_
        refine x_goto (tgt := 78) dX1_isOver_74 (by decide) ?_
        exact x_rI dX1_isOver_78 rfl (by first | exact (bI_nf _).1 | decide) (by first | (simp [fl_over, fl_last, bI, hc5, hc25, hc41]; done) | (exfalso; simp_all; done)) rfl (by simp) (by simp)
      · refine x_iload_n dX1_isOver_44 rfl ?_
        refine x_aload_n dX1_isOver_45 rfl ?_
        refine x_get dX1_isOver_46 fl_RX1_29 (hp_get (κ := 1) (by first | assumption | (show _ < _; simp only [cnt]; omega))) rfl ?_
        refine x_isub dX1_isOver_49 ?_
        refine x_aload_n dX1_isOver_50 rfl ?_
        refine x_get dX1_isOver_51 fl_RX1_18 (hp_get (κ := 1) (by first | assumption | (show _ < _; simp only [cnt]; omega))) rfl ?_
        refine x_get dX1_isOver_54 fl_RX1_120 (hp_get (κ := 8) (by first | assumption | (show _ < _; simp only [cnt]; omega))) rfl ?_
        refine x_icmp_ge (tgt := 73) dX1_isOver_57 (by decide) (fun hc57 => ?_) (fun hc57 => ?_)
        · refine x_iconst (v := 1) dX1_isOver_73 (by decide) ?_
          refine x_goto (tgt := 78) dX1_isOver_74 (by decide) ?_
          exact x_rI dX1_isOver_78 rfl (by first | exact (bI_nf _).1 | decide) (by first | (simp [fl_over, fl_last, bI, hc5, hc25, hc41, hc57]; done) | (exfalso; simp_all; done)) rfl (by simp) (by simp)
        · refine x_iload_n dX1_isOver_60 rfl ?_
          refine x_iload_n dX1_isOver_61 rfl ?_
          refine x_isub dX1_isOver_62 ?_
          refine x_aload_n dX1_isOver_63 rfl ?_
          refine x_get dX1_isOver_64 fl_RX1_18 (hp_get (κ := 1) (by first | assumption | (show _ < _; simp only [cnt]; omega))) rfl ?_
          refine x_get dX1_isOver_67 fl_RX1_123 (hp_get (κ := 8) (by first | assumption | (show _ < _; simp only [cnt]; omega))) rfl ?_
          refine x_icmp_lt (tgt := 77) dX1_isOver_70 (by decide) (fun hc70 => ?_) (fun hc70 => ?_)
          · refine x_iconst (v := 0) dX1_isOver_77 (by decide) ?_
            exact x_rI dX1_isOver_78 rfl (by first | exact (bI_nf _).1 | decide) (by first | (simp [fl_over, fl_last, bI, hc5, hc25, hc41, hc57, hc70]; done) | (exfalso; simp_all; done)) rfl (by simp) (by simp)
          · refine x_iconst (v := 1) dX1_isOver_73 (by decide) ?_
            refine x_goto (tgt := 78) dX1_isOver_74 (by decide) ?_
            exact x_rI dX1_isOver_78 rfl (by first | exact (bI_nf _).1 | decide) (by first | (simp [fl_over, fl_last, bI, hc5, hc25, hc41, hc57, hc70]; done) | (exfalso; simp_all; done)) rfl (by simp) (by simp)
def fl_new (S : St) (g m : Nat) (a : Int32) (e : Bool) (t : Int32) : St := cl_renew (fl_back S g m t) (6 * g + m) a e ((fl_back S g m t).1 4 (6 * g + m) 1)
def fl_req (S : St) (g m : Nat) (a : Int32) (e : Bool) (t : Int32) : St := if S.1 4 (6 * g + m) 0 = 0 then S else if S.1 0 (6 * g + m) 0 ≤ a then (if a = S.1 0 (6 * g + m) 0 then fl_again S g m else if (fl_new S g m a e t).1 1 g 7 = -1 ∧ (fl_new S g m a e t).1 1 g 5 = 0 then fl_grant (fl_new S g m a e t) g m t else if (fl_new S g m a e t).1 1 g 5 < 4 then fl_rev (fl_enq (fl_new S g m a e t) g m) g (6 * g + m) t else nt_send (sc (fl_new S g m a e t) 0 (6 * g + m) 1 1) 5 (nI g) (nI m) a 0 0) else S
theorem new_I {S : St} {g m : Nat} {a : Int32} {e : Bool} {t : Int32} (h : FlI S g) : FlI (fl_new S g m a e t) g := h.back.renew
theorem new_net {S : St} {g m : Nat} {a : Int32} {e : Bool} {t : Int32} (h : NetOK S) : NetOK (fl_new S g m a e t) := renew_net (back_net h)
theorem w_lt4 {S : St} {g : Nat} (h : FlW S g) (hw : S.1 1 g 5 < 4) : wN S g ≤ 3 := by
  have := h.2.1
  rw [h.1] at hw
  have := (nI_ltI (b := 4) (by omega) (by decide)).mp hw
  omega
set_option maxRecDepth 100000 in
set_option maxHeartbeats 4000000 in
theorem c_hearRequest {X : XS} {d : Nat} {S : St} {g m : Nat} (hg : g < 3) (hm : m < 6) (hNe : NetOK S) (hI : FlI S g) (a : Int32) (e : Bool) (t : Int32) : Call X mX1_hearRequest false (d + 4) [.ref (ad 1 g), .int (nI m), .int a, .int (bI e), .int t] (hp S) (.inl none, hp (fl_req S g m a e t), 0, 0) := by
  refine Call.of fX1_hearRequest (by decide) rfl (by simp [Value.category]) (Nat.le_of_ble_eq_true rfl) (lv := [some (.ref (ad 1 g)), some (.int (nI m)), some (.int a), some (.int (bI e)), some (.int t), none]) rfl ?_
  refine x_aload_n dX1_hearRequest_0 rfl ?_
  refine x_get dX1_hearRequest_1 fl_RX1_44 (hp_get (κ := 1) (by first | assumption | (show _ < _; simp only [cnt]; omega))) rfl ?_
  refine x_iload_n dX1_hearRequest_4 rfl ?_
  refine x_claims dX1_hearRequest_5 (by first | assumption | (show _ < _; simp only [cnt]; omega)) (by first | omega | exact sl16_lt _ | assumption) ?_
  refine x_astore (lv' := [_, _, _, _, _, _]) dX1_hearRequest_6 (by decide) rfl ?_
  refine x_aload_n dX1_hearRequest_8 rfl ?_
  refine x_get dX1_hearRequest_9 fl_RX1_38 (hp_get (κ := 1) (by first | assumption | (show _ < _; simp only [cnt]; omega))) rfl ?_
  refine x_get dX1_hearRequest_12 fl_RX1_49 (hp_get (κ := 7) (by first | assumption | (show _ < _; simp only [cnt]; omega))) rfl ?_
  refine x_iload_n dX1_hearRequest_15 rfl ?_
  refine x_members dX1_hearRequest_16 (by first | assumption | (show _ < _; simp only [cnt]; omega)) (by first | omega | exact sl16_lt _ | assumption) ?_
  refine x_get dX1_hearRequest_17 fl_RX1_55 (hp_get (κ := 4) (by first | assumption | (show _ < _; simp only [cnt]; omega))) rfl ?_
  refine x_if_eq (tgt := 32) dX1_hearRequest_20 (by decide) (fun hc20 => ?_) (fun hc20 => ?_)
  · exact x_rV dX1_hearRequest_32 rfl rfl (by simp [fl_req, fl_enq, hc20]) (by simp) (by simp)
  · refine x_iload_n dX1_hearRequest_23 rfl ?_
    refine x_aload dX1_hearRequest_24 rfl ?_
    refine x_get dX1_hearRequest_26 fl_RX1_61 (hp_get (κ := 0) (by first | assumption | (show _ < _; simp only [cnt]; omega))) rfl ?_
    refine x_icmp_ge (tgt := 33) dX1_hearRequest_29 (by decide) (fun hc29 => ?_) (fun hc29 => ?_)
    · refine x_iload_n dX1_hearRequest_33 rfl ?_
      refine x_aload dX1_hearRequest_34 rfl ?_
      refine x_get dX1_hearRequest_36 fl_RX1_61 (hp_get (κ := 0) (by first | assumption | (show _ < _; simp only [cnt]; omega))) rfl ?_
      refine x_icmp_ne (tgt := 48) dX1_hearRequest_39 (by decide) (fun hc39 => ?_) (fun hc39 => ?_)
      · refine x_aload_n dX1_hearRequest_48 rfl ?_
        refine x_iload_n dX1_hearRequest_49 rfl ?_
        refine x_iload dX1_hearRequest_50 rfl ?_
        refine x_cVv (as := [_, _]) dX1_hearRequest_52 fX1_takeBack rfl lk_RX1_68 rfl (hp_get (κ := 1) (by first | assumption | (show _ < _; simp only [cnt]; omega))) rfl rfl (Nat.le_of_ble_eq_true rfl) (c_takeBack hg hm hNe hI _) (by simp) (by simp) ?_
        refine x_aload dX1_hearRequest_55 rfl ?_
        refine x_iload_n dX1_hearRequest_57 rfl ?_
        refine x_iload_n dX1_hearRequest_58 rfl ?_
        refine x_aload_n dX1_hearRequest_59 rfl ?_
        refine x_get dX1_hearRequest_60 fl_RX1_38 (hp_get (κ := 1) (by first | assumption | (show _ < _; simp only [cnt]; omega))) rfl ?_
        refine x_get dX1_hearRequest_63 fl_RX1_49 (hp_get (κ := 7) (by first | assumption | (show _ < _; simp only [cnt]; omega))) rfl ?_
        refine x_iload_n dX1_hearRequest_66 rfl ?_
        refine x_members dX1_hearRequest_67 (by first | assumption | (show _ < _; simp only [cnt]; omega)) (by first | omega | exact sl16_lt _ | assumption) ?_
        refine x_get dX1_hearRequest_68 fl_RX1_72 (hp_get (κ := 4) (by first | assumption | (show _ < _; simp only [cnt]; omega))) rfl ?_
        refine x_cVv (as := [_, _, _]) dX1_hearRequest_71 fX0_renew rfl lk_RX1_75 rfl (hp_get (κ := 0) (by first | assumption | (show _ < _; simp only [cnt]; omega))) rfl rfl (Nat.le_of_ble_eq_true rfl) (c_renew (by omega) _ e _) (by simp) (by simp) ?_
        have hI2 : FlI (fl_new S g m a e t) g := new_I hI
        have hN2 : NetOK (fl_new S g m a e t) := new_net hNe
        refine x_heq (S2 := fl_new S g m a e t) rfl ?_
        refine x_aload_n dX1_hearRequest_74 rfl ?_
        refine x_get dX1_hearRequest_75 fl_RX1_25 (hp_get (κ := 1) (by first | assumption | (show _ < _; simp only [cnt]; omega))) rfl ?_
        refine x_iconst (v := (-1)) dX1_hearRequest_78 (by decide) ?_
        refine x_icmp_ne (tgt := 99) dX1_hearRequest_79 (by decide) (fun hc79 => ?_) (fun hc79 => ?_)
        · refine x_aload_n dX1_hearRequest_99 rfl ?_
          refine x_get dX1_hearRequest_100 fl_RX1_79 (hp_get (κ := 1) (by first | assumption | (show _ < _; simp only [cnt]; omega))) rfl ?_
          refine x_iconst (v := 4) dX1_hearRequest_103 (by decide) ?_
          refine x_icmp_lt (tgt := 127) dX1_hearRequest_104 (by decide) (fun hc104 => ?_) (fun hc104 => ?_)
          · refine x_aload_n dX1_hearRequest_127 rfl ?_
            refine x_iload_n dX1_hearRequest_128 rfl ?_
            refine x_cVv (as := [_]) dX1_hearRequest_129 fX1_enqueue rfl lk_RX1_92 rfl (hp_get (κ := 1) (by first | assumption | (show _ < _; simp only [cnt]; omega))) rfl rfl (Nat.le_of_ble_eq_true rfl) (c_enqueue hg hm hI2.1 (w_lt4 hI2.1 hc104) hI2.2.1 hN2) (by simp) (by simp) ?_
            refine x_aload_n dX1_hearRequest_132 rfl ?_
            refine x_aload dX1_hearRequest_133 rfl ?_
            refine x_iload dX1_hearRequest_135 rfl ?_
            refine x_cVv (as := [_, _]) dX1_hearRequest_137 fX1_revokeIfBelow rfl lk_RX1_95 rfl (hp_get (κ := 1) (by first | assumption | (show _ < _; simp only [cnt]; omega))) rfl rfl (Nat.le_of_ble_eq_true rfl) (c_revoke hg hm (nt_send_ok (ins_net hN2)) (hI2.ins hm (w_lt4 hI2.1 hc104)).send _) (by simp) (by simp) ?_
            exact x_rV dX1_hearRequest_140 rfl rfl (by simp [fl_req, fl_enq, hc20, hc29, hc39, hc79, hc104]) (by simp) (by simp)
          · refine x_aload dX1_hearRequest_107 rfl ?_
            refine x_iconst (v := 1) dX1_hearRequest_109 (by decide) ?_
            refine x_putC dX1_hearRequest_110 fp_RX1_85 (by first | assumption | (show _ < _; simp only [cnt]; omega)) pb_0_1 (by first | exact bI_nf _ | decide) ?_
            refine x_aload_n dX1_hearRequest_113 rfl ?_
            refine x_get dX1_hearRequest_114 fl_RX1_38 (hp_get (κ := 1) (by first | assumption | (show _ < _; simp only [cnt]; omega))) rfl ?_
            refine x_iconst (v := 5) dX1_hearRequest_117 (by decide) ?_
            refine x_iload_n dX1_hearRequest_118 rfl ?_
            refine x_iload_n dX1_hearRequest_119 rfl ?_
            refine x_iconst (v := 0) dX1_hearRequest_120 (by decide) ?_
            refine x_cVv (as := [_, _, _, _]) dX1_hearRequest_121 fX7_tell rfl lk_RX1_88 rfl (hp_get (κ := 7) (by first | assumption | (show _ < _; simp only [cnt]; omega))) rfl rfl (Nat.le_of_ble_eq_true rfl) (c_tell hg (hN2.sc (by decide) (by decide)) _ _ _ _) (by simp) (by simp) ?_
            refine x_goto (tgt := 140) dX1_hearRequest_124 (by decide) ?_
            exact x_rV dX1_hearRequest_140 rfl rfl (by simp [fl_req, fl_enq, hc20, hc29, hc39, hc79, hc104]) (by simp) (by simp)
        · refine x_aload_n dX1_hearRequest_82 rfl ?_
          refine x_get dX1_hearRequest_83 fl_RX1_79 (hp_get (κ := 1) (by first | assumption | (show _ < _; simp only [cnt]; omega))) rfl ?_
          refine x_if_ne (tgt := 99) dX1_hearRequest_86 (by decide) (fun hc86 => ?_) (fun hc86 => ?_)
          · refine x_aload_n dX1_hearRequest_99 rfl ?_
            refine x_get dX1_hearRequest_100 fl_RX1_79 (hp_get (κ := 1) (by first | assumption | (show _ < _; simp only [cnt]; omega))) rfl ?_
            refine x_iconst (v := 4) dX1_hearRequest_103 (by decide) ?_
            refine x_icmp_lt (tgt := 127) dX1_hearRequest_104 (by decide) (fun hc104 => ?_) (fun hc104 => ?_)
            · refine x_aload_n dX1_hearRequest_127 rfl ?_
              refine x_iload_n dX1_hearRequest_128 rfl ?_
              refine x_cVv (as := [_]) dX1_hearRequest_129 fX1_enqueue rfl lk_RX1_92 rfl (hp_get (κ := 1) (by first | assumption | (show _ < _; simp only [cnt]; omega))) rfl rfl (Nat.le_of_ble_eq_true rfl) (c_enqueue hg hm hI2.1 (w_lt4 hI2.1 hc104) hI2.2.1 hN2) (by simp) (by simp) ?_
              refine x_aload_n dX1_hearRequest_132 rfl ?_
              refine x_aload dX1_hearRequest_133 rfl ?_
              refine x_iload dX1_hearRequest_135 rfl ?_
              refine x_cVv (as := [_, _]) dX1_hearRequest_137 fX1_revokeIfBelow rfl lk_RX1_95 rfl (hp_get (κ := 1) (by first | assumption | (show _ < _; simp only [cnt]; omega))) rfl rfl (Nat.le_of_ble_eq_true rfl) (c_revoke hg hm (nt_send_ok (ins_net hN2)) (hI2.ins hm (w_lt4 hI2.1 hc104)).send _) (by simp) (by simp) ?_
              exact x_rV dX1_hearRequest_140 rfl rfl (by simp [fl_req, fl_enq, hc20, hc29, hc39, hc79, hc86, hc104]) (by simp) (by simp)
            · refine x_aload dX1_hearRequest_107 rfl ?_
              refine x_iconst (v := 1) dX1_hearRequest_109 (by decide) ?_
              refine x_putC dX1_hearRequest_110 fp_RX1_85 (by first | assumption | (show _ < _; simp only [cnt]; omega)) pb_0_1 (by first | exact bI_nf _ | decide) ?_
              refine x_aload_n dX1_hearRequest_113 rfl ?_
              refine x_get dX1_hearRequest_114 fl_RX1_38 (hp_get (κ := 1) (by first | assumption | (show _ < _; simp only [cnt]; omega))) rfl ?_
              refine x_iconst (v := 5) dX1_hearRequest_117 (by decide) ?_
              refine x_iload_n dX1_hearRequest_118 rfl ?_
              refine x_iload_n dX1_hearRequest_119 rfl ?_
              refine x_iconst (v := 0) dX1_hearRequest_120 (by decide) ?_
              refine x_cVv (as := [_, _, _, _]) dX1_hearRequest_121 fX7_tell rfl lk_RX1_88 rfl (hp_get (κ := 7) (by first | assumption | (show _ < _; simp only [cnt]; omega))) rfl rfl (Nat.le_of_ble_eq_true rfl) (c_tell hg (hN2.sc (by decide) (by decide)) _ _ _ _) (by simp) (by simp) ?_
              refine x_goto (tgt := 140) dX1_hearRequest_124 (by decide) ?_
              exact x_rV dX1_hearRequest_140 rfl rfl (by simp [fl_req, fl_enq, hc20, hc29, hc39, hc79, hc86, hc104]) (by simp) (by simp)
          · refine x_aload_n dX1_hearRequest_89 rfl ?_
            refine x_iload_n dX1_hearRequest_90 rfl ?_
            refine x_iload dX1_hearRequest_91 rfl ?_
            refine x_cVv (as := [_, _]) dX1_hearRequest_93 fX1_grantTo rfl lk_RX1_82 rfl (hp_get (κ := 1) (by first | assumption | (show _ < _; simp only [cnt]; omega))) rfl rfl (Nat.le_of_ble_eq_true rfl) (c_grantTo hg hm hN2 hI2.2.2.1 _) (by simp) (by simp) ?_
            refine x_goto (tgt := 140) dX1_hearRequest_96 (by decide) ?_
            exact x_rV dX1_hearRequest_140 rfl rfl (by simp [fl_req, fl_enq, hc20, hc29, hc39, hc79, hc86]) (by simp) (by simp)
      · refine x_aload_n dX1_hearRequest_42 rfl ?_
        refine x_iload_n dX1_hearRequest_43 rfl ?_
        refine x_cVv (as := [_]) dX1_hearRequest_44 fX1_answerAgain rfl lk_RX1_64 rfl (hp_get (κ := 1) (by first | assumption | (show _ < _; simp only [cnt]; omega))) rfl rfl (Nat.le_of_ble_eq_true rfl) (c_answerAgain hg hm hNe hI) (by simp) (by simp) ?_
        exact x_rV dX1_hearRequest_47 rfl rfl (by simp [fl_req, fl_enq, hc20, hc29, hc39]) (by simp) (by simp)
    · exact x_rV dX1_hearRequest_32 rfl rfl (by simp [fl_req, fl_enq, hc20, hc29]) (by simp) (by simp)
def fl_rel (S : St) (g m : Nat) (a t : Int32) : St := if S.1 0 (6 * g + m) 0 ≤ a then (if a ≤ (fl_back S g m t).1 0 (6 * g + m) 0 then fl_back S g m t else cl_renew (fl_back S g m t) (6 * g + m) a false 0) else S
set_option maxRecDepth 100000 in
set_option maxHeartbeats 4000000 in
theorem c_hearRelease {X : XS} {d : Nat} {S : St} {g m : Nat} (hg : g < 3) (hm : m < 6) (hNe : NetOK S) (hI : FlI S g) (a t : Int32) : Call X mX1_hearRelease false (d + 4) [.ref (ad 1 g), .int (nI m), .int a, .int t] (hp S) (.inl none, hp (fl_rel S g m a t), 0, 0) := by
  refine Call.of fX1_hearRelease (by decide) rfl (by simp [Value.category]) (Nat.le_of_ble_eq_true rfl) (lv := [some (.ref (ad 1 g)), some (.int (nI m)), some (.int a), some (.int t), none]) rfl ?_
  refine x_aload_n dX1_hearRelease_0 rfl ?_
  refine x_get dX1_hearRelease_1 fl_RX1_44 (hp_get (κ := 1) (by first | assumption | (show _ < _; simp only [cnt]; omega))) rfl ?_
  refine x_iload_n dX1_hearRelease_4 rfl ?_
  refine x_claims dX1_hearRelease_5 (by first | assumption | (show _ < _; simp only [cnt]; omega)) (by first | omega | exact sl16_lt _ | assumption) ?_
  refine x_astore (lv' := [_, _, _, _, _]) dX1_hearRelease_6 (by decide) rfl ?_
  refine x_iload_n dX1_hearRelease_8 rfl ?_
  refine x_aload dX1_hearRelease_9 rfl ?_
  refine x_get dX1_hearRelease_11 fl_RX1_61 (hp_get (κ := 0) (by first | assumption | (show _ < _; simp only [cnt]; omega))) rfl ?_
  refine x_icmp_ge (tgt := 18) dX1_hearRelease_14 (by decide) (fun hc14 => ?_) (fun hc14 => ?_)
  · refine x_aload_n dX1_hearRelease_18 rfl ?_
    refine x_iload_n dX1_hearRelease_19 rfl ?_
    refine x_iload_n dX1_hearRelease_20 rfl ?_
    refine x_cVv (as := [_, _]) dX1_hearRelease_21 fX1_takeBack rfl lk_RX1_68 rfl (hp_get (κ := 1) (by first | assumption | (show _ < _; simp only [cnt]; omega))) rfl rfl (Nat.le_of_ble_eq_true rfl) (c_takeBack hg hm hNe hI _) (by simp) (by simp) ?_
    refine x_iload_n dX1_hearRelease_24 rfl ?_
    refine x_aload dX1_hearRelease_25 rfl ?_
    refine x_get dX1_hearRelease_27 fl_RX1_61 (hp_get (κ := 0) (by first | assumption | (show _ < _; simp only [cnt]; omega))) rfl ?_
    refine x_icmp_le (tgt := 41) dX1_hearRelease_30 (by decide) (fun hc30 => ?_) (fun hc30 => ?_)
    · exact x_rV dX1_hearRelease_41 rfl rfl (by first | (simp [fl_rel, hc14, hc30]; done) | (exfalso; simp_all; done)) (by simp) (by simp)
    · refine x_aload dX1_hearRelease_33 rfl ?_
      refine x_iload_n dX1_hearRelease_35 rfl ?_
      refine x_iconst (v := 0) dX1_hearRelease_36 (by decide) ?_
      refine x_iconst (v := 0) dX1_hearRelease_37 (by decide) ?_
      refine x_cVv (as := [_, _, _]) dX1_hearRelease_38 fX0_renew rfl lk_RX1_75 rfl (hp_get (κ := 0) (by first | assumption | (show _ < _; simp only [cnt]; omega))) rfl rfl (Nat.le_of_ble_eq_true rfl) (c_renew (by omega) _ false _) (by simp) (by simp) ?_
      exact x_rV dX1_hearRelease_41 rfl rfl (by first | (simp [fl_rel, hc14, hc30]; done) | (exfalso; simp_all; done)) (by simp) (by simp)
  · exact x_rV dX1_hearRelease_17 rfl rfl (by first | (simp [fl_rel, hc14]; done) | (exfalso; simp_all; done)) (by simp) (by simp)
def fl_end (S : St) (g : Nat) (t : Int32) : St := if S.1 1 g 7 = -1 then S else if fl_over S g t = true then fl_back (nt_send S 7 (nI g) (S.1 1 g 7) (S.1 1 g 6) 0 0) g (hN S g) t else S
def fl_talk (S : St) (g : Nat) (t : Int32) : St := if S.1 1 g 7 = -1 then S else if t - t / 5 * 5 = 0 then ot S g 8 (S.1 1 g 7) (S.1 1 g 6) (S.1 1 g 7) 0 6 else S
def fl_time (S : St) (g : Nat) (t : Int32) : St := fl_talk (fl_end S g t) g t
theorem end_I {S : St} {g : Nat} {t : Int32} (h : FlI S g) : FlI (fl_end S g t) g := by
  unfold fl_end
  split
  · exact h
  · split
    · exact h.send.back
    · exact h
theorem end_net {S : St} {g : Nat} {t : Int32} (h : NetOK S) : NetOK (fl_end S g t) := by
  unfold fl_end
  split
  · exact h
  · split
    · exact back_net (nt_send_ok h)
    · exact h
set_option maxRecDepth 100000 in
set_option maxHeartbeats 4000000 in
theorem l_talk {X : XS} {d : Nat} {S : St} {g : Nat} (hg : g < 3) (hNe : NetOK S) (t : Int32) : Ex X mX1_passTime false (d + 4) 43 [some (.ref (ad 1 g)), some (.int t)] [] (hp S) 0 0 (.inl none, hp (fl_talk S g t), 0, 0) := by
  refine x_aload_n dX1_passTime_43 rfl ?_
  refine x_get dX1_passTime_44 fl_RX1_25 (hp_get (κ := 1) (by first | assumption | (show _ < _; simp only [cnt]; omega))) rfl ?_
  refine x_iconst (v := (-1)) dX1_passTime_47 (by decide) ?_
  refine x_icmp_eq (tgt := 79) dX1_passTime_48 (by decide) (fun hc48 => ?_) (fun hc48 => ?_)
  · exact x_rV dX1_passTime_79 rfl rfl (by first | (simp [fl_talk, hc48]; done) | (exfalso; simp_all; done)) (by simp) (by simp)
  · refine x_iload_n dX1_passTime_51 rfl ?_
    refine x_iconst (v := 5) dX1_passTime_52 (by decide) ?_
    refine x_irem dX1_passTime_53 (by decide) ?_
    refine x_if_ne (tgt := 79) dX1_passTime_54 (by decide) (fun hc54 => ?_) (fun hc54 => ?_)
    · exact x_rV dX1_passTime_79 rfl rfl (by first | (simp [fl_talk, hc48, hc54]; done) | (exfalso; simp_all; done)) (by simp) (by simp)
    · refine x_aload_n dX1_passTime_57 rfl ?_
      refine x_get dX1_passTime_58 fl_RX1_38 (hp_get (κ := 1) (by first | assumption | (show _ < _; simp only [cnt]; omega))) rfl ?_
      refine x_bipush (v := 8) dX1_passTime_61 (by decide) ?_
      refine x_aload_n dX1_passTime_63 rfl ?_
      refine x_get dX1_passTime_64 fl_RX1_25 (hp_get (κ := 1) (by first | assumption | (show _ < _; simp only [cnt]; omega))) rfl ?_
      refine x_aload_n dX1_passTime_67 rfl ?_
      refine x_get dX1_passTime_68 fl_RX1_106 (hp_get (κ := 1) (by first | assumption | (show _ < _; simp only [cnt]; omega))) rfl ?_
      refine x_aload_n dX1_passTime_71 rfl ?_
      refine x_get dX1_passTime_72 fl_RX1_25 (hp_get (κ := 1) (by first | assumption | (show _ < _; simp only [cnt]; omega))) rfl ?_
      refine x_iconst (v := 0) dX1_passTime_75 (by decide) ?_
      refine x_cVv (as := [_, _, _, _, _]) dX1_passTime_76 fX7_tellOthers rfl lk_RX1_113 rfl (hp_get (κ := 7) (by first | assumption | (show _ < _; simp only [cnt]; omega))) rfl rfl (Nat.le_of_ble_eq_true rfl) (c_tellOthers hg hNe _ _ _ _ _) (by simp) (by simp) ?_
      exact x_rV dX1_passTime_79 rfl rfl (by first | (simp [fl_talk, hc48, hc54]; done) | (exfalso; simp_all; done)) (by simp) (by simp)
set_option maxRecDepth 100000 in
set_option maxHeartbeats 4000000 in
theorem c_passTime {X : XS} {d : Nat} {S : St} {g : Nat} (hg : g < 3) (hNe : NetOK S) (hI : FlI S g) (t : Int32) : Call X mX1_passTime false (d + 4) [.ref (ad 1 g), .int t] (hp S) (.inl none, hp (fl_time S g t), 0, 0) := by
  refine Call.of fX1_passTime (by decide) rfl (by simp [Value.category]) (Nat.le_of_ble_eq_true rfl) (lv := [some (.ref (ad 1 g)), some (.int t)]) rfl ?_
  refine x_aload_n dX1_passTime_0 rfl ?_
  refine x_get dX1_passTime_1 fl_RX1_25 (hp_get (κ := 1) (by first | assumption | (show _ < _; simp only [cnt]; omega))) rfl ?_
  refine x_iconst (v := (-1)) dX1_passTime_4 (by decide) ?_
  refine x_icmp_eq (tgt := 43) dX1_passTime_5 (by decide) (fun hc5 => ?_) (fun hc5 => ?_)
  · refine x_heq (S2 := fl_end S g t) (by first | (simp [fl_end, hc5]; done) | (exfalso; simp_all; done)) ?_
    exact l_talk hg (end_net hNe) t
  · obtain ⟨hh6, hhe⟩ := hN_ok hI hc5
    refine x_aload_n dX1_passTime_8 rfl ?_
    refine x_iload_n dX1_passTime_9 rfl ?_
    refine x_cV (as := [_]) dX1_passTime_10 fX1_isOver rfl lk_RX1_109 rfl (hp_get (κ := 1) (by first | assumption | (show _ < _; simp only [cnt]; omega))) rfl rfl (Nat.le_of_ble_eq_true rfl) (c_isOver hg t) (by simp) (by simp) ?_
    refine x_if_eqB (tgt := 43) dX1_passTime_13 (by decide) (fun hc13 => ?_) (fun hc13 => ?_)
    · refine x_heq (S2 := fl_end S g t) (by first | (simp [fl_end, hc5, hc13]; done) | (exfalso; simp_all; done)) ?_
      exact l_talk hg (end_net hNe) t
    · refine x_aload_n dX1_passTime_16 rfl ?_
      refine x_get dX1_passTime_17 fl_RX1_38 (hp_get (κ := 1) (by first | assumption | (show _ < _; simp only [cnt]; omega))) rfl ?_
      refine x_bipush (v := 7) dX1_passTime_20 (by decide) ?_
      refine x_aload_n dX1_passTime_22 rfl ?_
      refine x_get dX1_passTime_23 fl_RX1_25 (hp_get (κ := 1) (by first | assumption | (show _ < _; simp only [cnt]; omega))) rfl ?_
      refine x_aload_n dX1_passTime_26 rfl ?_
      refine x_get dX1_passTime_27 fl_RX1_106 (hp_get (κ := 1) (by first | assumption | (show _ < _; simp only [cnt]; omega))) rfl ?_
      refine x_iconst (v := 0) dX1_passTime_30 (by decide) ?_
      refine x_cVv (as := [_, _, _, _]) dX1_passTime_31 fX7_tell rfl lk_RX1_88 rfl (hp_get (κ := 7) (by first | assumption | (show _ < _; simp only [cnt]; omega))) rfl rfl (Nat.le_of_ble_eq_true rfl) (c_tell hg hNe _ _ _ _) (by simp) (by simp) ?_
      refine x_aload_n dX1_passTime_34 rfl ?_
      refine x_aload_n dX1_passTime_35 rfl ?_
      refine x_get dX1_passTime_36 fl_RX1_25 (hp_get (κ := 1) (by first | assumption | (show _ < _; simp only [cnt]; omega))) rfl ?_
      refine x_eqi (show (nt_send S 7 (nI g) (S.1 1 g 7) (S.1 1 g 6) 0 0).1 1 g 7 = nI (hN S g) from (nt_send_get (by decide) (by decide)).trans hhe) ?_
      refine x_iload_n dX1_passTime_39 rfl ?_
      refine x_cVv (as := [_, _]) dX1_passTime_40 fX1_takeBack rfl lk_RX1_68 rfl (hp_get (κ := 1) (by first | assumption | (show _ < _; simp only [cnt]; omega))) rfl rfl (Nat.le_of_ble_eq_true rfl) (c_takeBack hg hh6 (nt_send_ok hNe) hI.send _) (by simp) (by simp) ?_
      refine x_heq (S2 := fl_end S g t) (by first | (simp [fl_end, hc5, hc13]; done) | (exfalso; simp_all; done)) ?_
      exact l_talk hg (end_net hNe) t
def gt_pass (S : St) (g : Nat) (s a b c : Int32) : St := let S1 := sl (sc S 2 g 4 (S.1 2 g 4 + 1)) g (S.2.1 g ||| ((1 : Int64) <<< (b.toInt64 &&& 63))); ot S1 g 9 s a b c 6
def gt_unit (S : St) (g : Nat) (s a b c t : Int32) : St := if gt_lets S g s a b = true then fl_pass (gt_pass S g s a b c) g a t else sc S 2 g 5 (S.1 2 g 5 + 1)
set_option maxRecDepth 100000 in
set_option maxHeartbeats 4000000 in
theorem c_hearUnit {X : XS} {d : Nat} {S : St} {g : Nat} (hg : g < 3) (hNe : NetOK S) (s a b c t : Int32) : Call X mX2_hearUnit false (d + 2) [.ref (ad 2 g), .int s, .int a, .int b, .int c, .int t] (hp S) (.inl none, hp (gt_unit S g s a b c t), 0, 0) := by
  refine Call.of fX2_hearUnit (by decide) rfl (by simp [Value.category]) (Nat.le_of_ble_eq_true rfl) (lv := [some (.ref (ad 2 g)), some (.int s), some (.int a), some (.int b), some (.int c), some (.int t)]) rfl ?_
  refine x_aload_n dX2_hearUnit_0 rfl ?_
  refine x_iload_n dX2_hearUnit_1 rfl ?_
  refine x_iload_n dX2_hearUnit_2 rfl ?_
  refine x_iload_n dX2_hearUnit_3 rfl ?_
  refine x_cV (as := [_, _, _]) dX2_hearUnit_4 fX2_lets rfl lk_RX2_30 rfl (hp_get (κ := 2) (by first | assumption | (show _ < _; simp only [cnt]; omega))) rfl rfl (Nat.le_of_ble_eq_true rfl) (c_lets hg _ _ _) (by simp) (by simp) ?_
  refine x_if_neB (tgt := 21) dX2_hearUnit_7 (by decide) (fun hc7 => ?_) (fun hc7 => ?_)
  · refine x_aload_n dX2_hearUnit_21 rfl ?_
    refine x_dup dX2_hearUnit_22 rfl ?_
    refine x_get dX2_hearUnit_23 fl_RX2_37 (hp_get (κ := 2) (by first | assumption | (show _ < _; simp only [cnt]; omega))) rfl ?_
    refine x_iconst (v := 1) dX2_hearUnit_26 (by decide) ?_
    refine x_iadd dX2_hearUnit_27 ?_
    refine x_putC dX2_hearUnit_28 fp_RX2_37 (by first | assumption | (show _ < _; simp only [cnt]; omega)) pb_2_4 ⟨rfl, rfl⟩ ?_
    refine x_aload_n dX2_hearUnit_31 rfl ?_
    refine x_dup dX2_hearUnit_32 rfl ?_
    refine x_get dX2_hearUnit_33 fl_RX2_26 (hp_get (κ := 2) (by first | assumption | (show _ < _; simp only [cnt]; omega))) rfl ?_
    refine x_lconst (v := 1) dX2_hearUnit_36 (by decide) ?_
    refine x_iload_n dX2_hearUnit_37 rfl ?_
    refine x_lshl dX2_hearUnit_38 ?_
    refine x_lor dX2_hearUnit_39 ?_
    refine x_putL dX2_hearUnit_40 fp_RX2_26 (by first | assumption | (show _ < _; simp only [cnt]; omega)) ?_
    refine x_aload_n dX2_hearUnit_43 rfl ?_
    refine x_get dX2_hearUnit_44 fl_RX2_15 (hp_get (κ := 2) (by first | assumption | (show _ < _; simp only [cnt]; omega))) rfl ?_
    refine x_bipush (v := 9) dX2_hearUnit_47 (by decide) ?_
    refine x_iload_n dX2_hearUnit_49 rfl ?_
    refine x_iload_n dX2_hearUnit_50 rfl ?_
    refine x_iload_n dX2_hearUnit_51 rfl ?_
    refine x_iload dX2_hearUnit_52 rfl ?_
    refine x_cVv (as := [_, _, _, _, _]) dX2_hearUnit_54 fX7_tellOthers rfl lk_RX2_40 rfl (hp_get (κ := 7) (by first | assumption | (show _ < _; simp only [cnt]; omega))) rfl rfl (Nat.le_of_ble_eq_true rfl) (c_tellOthers hg (hNe.sc (by decide) (by decide)).sl _ _ _ _ _) (by simp) (by simp) ?_
    refine x_aload_n dX2_hearUnit_57 rfl ?_
    refine x_get dX2_hearUnit_58 fl_RX2_19 (hp_get (κ := 2) (by first | assumption | (show _ < _; simp only [cnt]; omega))) rfl ?_
    refine x_iload_n dX2_hearUnit_61 rfl ?_
    refine x_iload dX2_hearUnit_62 rfl ?_
    refine x_cVv (as := [_, _]) dX2_hearUnit_64 fX1_hearPassed rfl lk_RX2_46 rfl (hp_get (κ := 1) (by first | assumption | (show _ < _; simp only [cnt]; omega))) rfl rfl (Nat.le_of_ble_eq_true rfl) (c_hearPassed hg _ _) (by simp) (by simp) ?_
    exact x_rV dX2_hearUnit_67 rfl rfl (by simp [gt_unit, gt_pass, sc_2, hc7]) (by simp) (by simp)
  · refine x_aload_n dX2_hearUnit_10 rfl ?_
    refine x_dup dX2_hearUnit_11 rfl ?_
    refine x_get dX2_hearUnit_12 fl_RX2_34 (hp_get (κ := 2) (by first | assumption | (show _ < _; simp only [cnt]; omega))) rfl ?_
    refine x_iconst (v := 1) dX2_hearUnit_15 (by decide) ?_
    refine x_iadd dX2_hearUnit_16 ?_
    refine x_putC dX2_hearUnit_17 fp_RX2_34 (by first | assumption | (show _ < _; simp only [cnt]; omega)) pb_2_5 ⟨rfl, rfl⟩ ?_
    exact x_rV dX2_hearUnit_20 rfl rfl (by simp [gt_unit, gt_pass, sc_2, hc7]) (by simp) (by simp)
