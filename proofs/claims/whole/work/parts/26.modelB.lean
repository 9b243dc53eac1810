theorem nar01 {x : Int32} (h : x = 0 ∨ x = 1) : vp_nar .boolean x = x := by rcases h with rfl | rfl <;> decide
/-- what the model's methods of a group leave as it was -/
def LcM (g : Nat) (S T : St) : Prop := T.1 = S.1 ∧ T.2.1 = S.2.1 ∧ T.2.2.2 = S.2.2.2 ∧ ∀ f i, f ≠ 2 → f ≠ 3 → f ≠ 4 → f ≠ 39 → ¬ (30 ≤ f ∧ f ≤ 38 ∧ i = g) → ¬ (40 ≤ f ∧ f ≤ 44 ∧ i / 6 = g) → T.2.2.1 f i = S.2.2.1 f i
theorem LcM.rf {g : Nat} {S : St} : LcM g S S := ⟨rfl, rfl, rfl, fun _ _ _ _ _ _ _ _ => rfl⟩
theorem LcM.tr {g : Nat} {S T U : St} (h : LcM g S T) (k : LcM g T U) : LcM g S U := ⟨k.1.trans h.1, k.2.1.trans h.2.1, k.2.2.1.trans h.2.2.1, fun f i a b c d e q => (k.2.2.2 f i a b c d e q).trans (h.2.2.2 f i a b c d e q)⟩
theorem ml_send_222 {S : St} {kd g m x y z : Int32} : (ml_send S kd g m x y z).2.2.2 = S.2.2.2 := by
  unfold ml_send ml_put
  split <;> rfl
theorem mt_222 {S : St} {g : Nat} : ∀ n, (mt S g n).2.2.2 = S.2.2.2
  | 0 => rfl
  | n + 1 => by
    rw [mt_s]
    unfold mt1
    split
    · exact mt_222 n
    · split
      · exact mt_222 n
      · exact ml_send_222.trans (mt_222 n)
theorem LcM.send {g : Nat} {S : St} {kd x0 m x y z : Int32} : LcM g S (ml_send S kd x0 m x y z) := ⟨ml_send_1, ml_send_21, ml_send_222, fun _ _ h2 h3 h4 _ _ _ => ml_send_get h2 h3 h4⟩
theorem LcM.mt {g g0 n : Nat} {S : St} : LcM g S (mt S g0 n) := ⟨(mt_1 n).1, (mt_1 n).2, mt_222 n, fun _ _ h2 h3 h4 _ _ _ => mt_get h2 h3 h4 n⟩
theorem LcM.sg {g f : Nat} {S : St} {v : Int32} (h : 30 ≤ f) (h2 : f ≤ 38) : LcM g S (sm S f g v) := ⟨rfl, rfl, rfl, fun a b _ _ _ _ q _ => by rw [sm_get, if_neg (by omega)]⟩
theorem LcM.si {g f i : Nat} {S : St} {v : Int32} (h : 40 ≤ f) (h2 : f ≤ 44) (hi : i / 6 = g) : LcM g S (sm S f i v) := ⟨rfl, rfl, rfl, fun a b _ _ _ _ _ q => by
  rw [sm_get, if_neg]
  rintro ⟨e1, e2⟩
  exact q ⟨by omega, by omega, by rw [e2]; exact hi⟩⟩
theorem LcM.sh {g : Nat} {S : St} {v : Int32} : LcM g S (sm S 39 0 v) := ⟨rfl, rfl, rfl, fun a b _ _ _ h9 _ _ => by rw [sm_get, if_neg (by omega)]⟩
theorem gm6 {g m : Nat} (hm : m < 6) : (6 * g + m) / 6 = g := by omega
def HO (S : St) (g : Nat) : Prop := S.2.2.1 35 g = -1 ∨ ∃ q, q < 6 ∧ S.2.2.1 35 g = nI q
def MI (S : St) (g : Nat) : Prop := MO S ∧ (S.2.2.1 26 g = 0 ∨ S.2.2.1 26 g = 1) ∧ HO S g
theorem MI.eq {S T : St} {g : Nat} (h : MI S g) (h3 : MO T) (h26 : T.2.2.1 26 g = S.2.2.1 26 g) (h35 : T.2.2.1 35 g = S.2.2.1 35 g) : MI T g := ⟨h3, by rw [h26]; exact h.2.1, by unfold HO; rw [h35]; exact h.2.2⟩
theorem MI.sm {S : St} {g f i : Nat} {v : Int32} (h : MI S g) (h3 : f ≠ 3) (h26 : f ≠ 26) (h35 : f ≠ 35) : MI (sm S f i v) g := h.eq (h.1.sm h3) (by rw [sm_get, if_neg (by omega)]) (by rw [sm_get, if_neg (by omega)])
theorem MI.send {S : St} {g : Nat} {kd x0 m x y z : Int32} (h : MI S g) : MI (ml_send S kd x0 m x y z) g := h.eq h.1.send (ml_send_get (by decide) (by decide) (by decide)) (ml_send_get (by decide) (by decide) (by decide))
theorem MI.mt {S : St} {g g0 n : Nat} (h : MI S g) : MI (mt S g0 n) g := h.eq (mt_ok h.1 n) (mt_get (by decide) (by decide) (by decide) n) (mt_get (by decide) (by decide) (by decide) n)
/-! give, free, clear -/
def ml_gv0 (S : St) (g m : Nat) : St :=
  let S1 := sm S 34 g (S.2.2.1 34 g + 1); let S2 := sm S1 35 g (nI m); let S3 := sm S2 30 g (S2.2.2.1 26 g); let S4 := sm S3 31 g (S3.2.2.1 27 g); let S5 := sm S4 32 g (S4.2.2.1 28 g); let S6 := sm S5 33 g (S5.2.2.1 29 g); let S7 := sm S6 36 g (-1); let S8 := sm S7 37 g (S7.2.2.1 1 0); sm S8 38 g (-1)
def ml_give (S : St) (g m : Nat) : St := let S9 := ml_gv0 S g m; let S10 := ml_send S9 3 (nI g) (nI m) (S9.2.2.1 40 (6 * g + m)) (S9.2.2.1 34 g) 0; let S11 := ml_send S10 10 (nI g) (nI m) (S10.2.2.1 34 g) (nI m) 0; mt S11 g 6
theorem gv0_MI {S : St} {g m : Nat} (h : MI S g) (hm : m < 6) : MI (ml_gv0 S g m) g := by
  unfold ml_gv0
  refine MI.sm (MI.sm (MI.sm (MI.sm (MI.sm (MI.sm (MI.sm ?_ ?_ ?_ ?_) ?_ ?_ ?_) ?_ ?_ ?_) ?_ ?_ ?_) ?_ ?_ ?_) ?_ ?_ ?_) ?_ ?_ ?_
  · exact ⟨(h.1.sm (by decide)).sm (by decide), h.2.1, Or.inr ⟨m, hm, by rw [sm_get, if_pos ⟨rfl, rfl⟩]⟩⟩
  all_goals decide
set_option maxRecDepth 100000 in
set_option maxHeartbeats 400000 in
theorem c_mGive {X : XS} {d : Nat} {S : St} {g m : Nat} (hg : g < 3) (hm : m < 6) (h : MI S g) : Call X mX10_give false (d + 2) [.ref (ad 10 0), .int (nI g), .int (nI m)] (hp S) (.inl none, hp (ml_give S g m), 0, 0) := by
  refine Call.of fX10_give (by decide) rfl (by simp [Value.category]) (Nat.le_of_ble_eq_true rfl) (lv := [some (.ref (ad 10 0)), some (.int (nI g)), some (.int (nI m))]) rfl ?_
  refine x_aload_n dX10_give_0 rfl ?_
  refine x_get dX10_give_1 fl_RX10_101 (hp_get (κ := 10) (by decide)) rfl ?_
  refine x_iload_n dX10_give_4 rfl ?_
  refine x_dup2 dX10_give_5 rfl rfl ?_
  refine y_ialdM (f := 34) (κ := 64) dX10_give_6 am_34 rfl (by first | omega | exact sl16_lt _ | assumption) (by decide) ?_
  refine x_iconst (v := 1) dX10_give_7 (by decide) ?_
  refine x_iadd dX10_give_8 ?_
  refine y_iastM (f := 34) (κ := 64) dX10_give_9 am_34 rfl (by first | omega | exact sl16_lt _ | assumption) (by decide) ?_
  refine x_aload_n dX10_give_10 rfl ?_
  refine x_get dX10_give_11 fl_RX10_104 (hp_get (κ := 10) (by decide)) rfl ?_
  refine x_iload_n dX10_give_14 rfl ?_
  refine x_iload_n dX10_give_15 rfl ?_
  refine y_iastM (f := 35) (κ := 65) dX10_give_16 am_35 rfl (by first | omega | exact sl16_lt _ | assumption) (by decide) ?_
  refine x_aload_n dX10_give_17 rfl ?_
  refine x_get dX10_give_18 fl_RX10_89 (hp_get (κ := 10) (by decide)) rfl ?_
  refine x_iload_n dX10_give_21 rfl ?_
  refine x_aload_n dX10_give_22 rfl ?_
  refine x_get dX10_give_23 fl_RX10_77 (hp_get (κ := 10) (by decide)) rfl ?_
  refine x_iload_n dX10_give_26 rfl ?_
  refine y_zaldM (f := 26) (κ := 56) dX10_give_27 am_26 rfl (by first | omega | exact sl16_lt _ | assumption) (by decide) ?_
  refine y_zastM (f := 30) (κ := 60) dX10_give_28 am_30 rfl (by first | omega | exact sl16_lt _ | assumption) (by decide) (nar01 h.2.1) ?_
  refine x_aload_n dX10_give_29 rfl ?_
  refine x_get dX10_give_30 fl_RX10_92 (hp_get (κ := 10) (by decide)) rfl ?_
  refine x_iload_n dX10_give_33 rfl ?_
  refine x_aload_n dX10_give_34 rfl ?_
  refine x_get dX10_give_35 fl_RX10_80 (hp_get (κ := 10) (by decide)) rfl ?_
  refine x_iload_n dX10_give_38 rfl ?_
  refine y_ialdM (f := 27) (κ := 57) dX10_give_39 am_27 rfl (by first | omega | exact sl16_lt _ | assumption) (by decide) ?_
  refine y_iastM (f := 31) (κ := 61) dX10_give_40 am_31 rfl (by first | omega | exact sl16_lt _ | assumption) (by decide) ?_
  refine x_aload_n dX10_give_41 rfl ?_
  refine x_get dX10_give_42 fl_RX10_95 (hp_get (κ := 10) (by decide)) rfl ?_
  refine x_iload_n dX10_give_45 rfl ?_
  refine x_aload_n dX10_give_46 rfl ?_
  refine x_get dX10_give_47 fl_RX10_83 (hp_get (κ := 10) (by decide)) rfl ?_
  refine x_iload_n dX10_give_50 rfl ?_
  refine y_ialdM (f := 28) (κ := 58) dX10_give_51 am_28 rfl (by first | omega | exact sl16_lt _ | assumption) (by decide) ?_
  refine y_iastM (f := 32) (κ := 62) dX10_give_52 am_32 rfl (by first | omega | exact sl16_lt _ | assumption) (by decide) ?_
  refine x_aload_n dX10_give_53 rfl ?_
  refine x_get dX10_give_54 fl_RX10_98 (hp_get (κ := 10) (by decide)) rfl ?_
  refine x_iload_n dX10_give_57 rfl ?_
  refine x_aload_n dX10_give_58 rfl ?_
  refine x_get dX10_give_59 fl_RX10_86 (hp_get (κ := 10) (by decide)) rfl ?_
  refine x_iload_n dX10_give_62 rfl ?_
  refine y_ialdM (f := 29) (κ := 59) dX10_give_63 am_29 rfl (by first | omega | exact sl16_lt _ | assumption) (by decide) ?_
  refine y_iastM (f := 33) (κ := 63) dX10_give_64 am_33 rfl (by first | omega | exact sl16_lt _ | assumption) (by decide) ?_
  refine x_aload_n dX10_give_65 rfl ?_
  refine x_get dX10_give_66 fl_RX10_107 (hp_get (κ := 10) (by decide)) rfl ?_
  refine x_iload_n dX10_give_69 rfl ?_
  refine x_iconst (v := (-1)) dX10_give_70 (by decide) ?_
  refine y_iastM (f := 36) (κ := 66) dX10_give_71 am_36 rfl (by first | omega | exact sl16_lt _ | assumption) (by decide) ?_
  refine x_aload_n dX10_give_72 rfl ?_
  refine x_get dX10_give_73 fl_RX10_110 (hp_get (κ := 10) (by decide)) rfl ?_
  refine x_iload_n dX10_give_76 rfl ?_
  refine x_aload_n dX10_give_77 rfl ?_
  refine x_get dX10_give_78 fl_RX10_179 (hp_get (κ := 10) (by decide)) rfl ?_
  refine y_iastM (f := 37) (κ := 67) dX10_give_81 am_37 rfl (by first | omega | exact sl16_lt _ | assumption) (by decide) ?_
  refine x_aload_n dX10_give_82 rfl ?_
  refine x_get dX10_give_83 fl_RX10_113 (hp_get (κ := 10) (by decide)) rfl ?_
  refine x_iload_n dX10_give_86 rfl ?_
  refine x_iconst (v := (-1)) dX10_give_87 (by decide) ?_
  refine y_iastM (f := 38) (κ := 68) dX10_give_88 am_38 rfl (by first | omega | exact sl16_lt _ | assumption) (by decide) ?_
  refine x_heq (S2 := ml_gv0 S g m) rfl ?_
  have h9 : MI (ml_gv0 S g m) g := gv0_MI h hm
  refine x_aload_n dX10_give_89 rfl ?_
  refine x_iconst (v := 3) dX10_give_90 (by decide) ?_
  refine x_iload_n dX10_give_91 rfl ?_
  refine x_iload_n dX10_give_92 rfl ?_
  refine x_aload_n dX10_give_93 rfl ?_
  refine x_get dX10_give_94 fl_RX10_116 (hp_get (κ := 10) (by decide)) rfl ?_
  refine x_bipush (v := 6) dX10_give_97 (by decide) ?_
  refine x_iload_n dX10_give_99 rfl ?_
  refine x_imul dX10_give_100 ?_
  refine x_iload_n dX10_give_101 rfl ?_
  refine x_iadd dX10_give_102 ?_
  refine x_eqi (ix6 _ _) ?_
  refine y_ialdM (f := 40) (κ := 70) dX10_give_103 am_40 rfl (by first | omega | exact sl16_lt _ | assumption) (by decide) ?_
  refine x_aload_n dX10_give_104 rfl ?_
  refine x_get dX10_give_105 fl_RX10_101 (hp_get (κ := 10) (by decide)) rfl ?_
  refine x_iload_n dX10_give_108 rfl ?_
  refine y_ialdM (f := 34) (κ := 64) dX10_give_109 am_34 rfl (by first | omega | exact sl16_lt _ | assumption) (by decide) ?_
  refine x_iconst (v := 0) dX10_give_110 (by decide) ?_
  refine x_cVv (as := [_, _, _, _, _, _]) dX10_give_111 fX10_send rfl lk_RX10_168 rfl (hp_get (κ := 10) (by decide)) rfl rfl (Nat.le_of_ble_eq_true rfl) (c_mSend h9.1 _ _ _ _ _ _) (by simp) (by simp) ?_
  refine x_aload_n dX10_give_114 rfl ?_
  refine x_bipush (v := 10) dX10_give_115 (by decide) ?_
  refine x_iload_n dX10_give_117 rfl ?_
  refine x_iload_n dX10_give_118 rfl ?_
  refine x_aload_n dX10_give_119 rfl ?_
  refine x_get dX10_give_120 fl_RX10_101 (hp_get (κ := 10) (by decide)) rfl ?_
  refine x_iload_n dX10_give_123 rfl ?_
  refine y_ialdM (f := 34) (κ := 64) dX10_give_124 am_34 rfl (by first | omega | exact sl16_lt _ | assumption) (by decide) ?_
  refine x_iload_n dX10_give_125 rfl ?_
  refine x_iconst (v := 0) dX10_give_126 (by decide) ?_
  refine x_cVv (as := [_, _, _, _, _, _]) dX10_give_127 fX10_send rfl lk_RX10_168 rfl (hp_get (κ := 10) (by decide)) rfl rfl (Nat.le_of_ble_eq_true rfl) (c_mSend h9.1.send _ _ _ _ _ _) (by simp) (by simp) ?_
  refine x_aload_n dX10_give_130 rfl ?_
  refine x_iload_n dX10_give_131 rfl ?_
  refine x_cVv (as := [_]) dX10_give_132 fX10_tellTalker rfl lk_RX10_190 rfl (hp_get (κ := 10) (by decide)) rfl rfl (Nat.le_of_ble_eq_true rfl) (c_mTell hg h9.1.send.send) (by simp) (by simp) ?_
  exact x_rV dX10_give_135 rfl rfl rfl (by simp) (by simp)
theorem MI.give {S : St} {g m : Nat} (h : MI S g) (hm : m < 6) : MI (ml_give S g m) g := by
  unfold ml_give
  exact (gv0_MI h hm).send.send.mt
theorem LcM.gv0 {g m : Nat} {S : St} : LcM g S (ml_gv0 S g m) := by
  unfold ml_gv0
  exact ((((((((LcM.sg (by decide) (by decide)).tr (.sg (by decide) (by decide))).tr (.sg (by decide) (by decide))).tr (.sg (by decide) (by decide))).tr (.sg (by decide) (by decide))).tr (.sg (by decide) (by decide))).tr (.sg (by decide) (by decide))).tr (.sg (by decide) (by decide))).tr (.sg (by decide) (by decide))
theorem LcM.give {g m : Nat} {S : St} : LcM g S (ml_give S g m) := by
  unfold ml_give
  exact ((LcM.gv0.tr .send).tr .send).tr .mt
def ml_fr0 (S : St) (g : Nat) : St := sm S 35 g (-1)
def ml_q (S : St) (g : Nat) : Nat := (ml_wa S g 0 6).toNatClampNeg
def ml_free (S : St) (g : Nat) : St := if ml_wa (ml_fr0 S g) g 0 6 < 0 then ml_send (ml_fr0 S g) 10 (nI g) 0 ((ml_fr0 S g).2.2.1 34 g) (-1) 0 else ml_give (sm (ml_fr0 S g) 44 (6 * g + ml_q (ml_fr0 S g) g) 0) g (ml_q (ml_fr0 S g) g)
theorem ml_q_ok {S : St} {g : Nat} (h : ¬ ml_wa S g 0 6 < 0) : ml_q S g < 6 ∧ ml_wa S g 0 6 = nI (ml_q S g) := by
  rcases ml_wa_in (S := S) (g := g) (p := 0) 6 with e | ⟨q, hq, e⟩
  · exact absurd (by rw [e]; decide) h
  · have : ml_q S g = q := by unfold ml_q; rw [e, nI_clamp (by omega)]
    rw [this]
    exact ⟨hq, e⟩
theorem fr0_MI {S : St} {g : Nat} (h : MI S g) : MI (ml_fr0 S g) g := ⟨h.1.sm (by decide), h.2.1, Or.inl (by unfold ml_fr0; rw [sm_get, if_pos ⟨rfl, rfl⟩])⟩
set_option maxRecDepth 100000 in
set_option maxHeartbeats 400000 in
theorem c_mFree {X : XS} {d : Nat} {S : St} {g : Nat} (hg : g < 3) (h : MI S g) : Call X mX10_free false (d + 3) [.ref (ad 10 0), .int (nI g)] (hp S) (.inl none, hp (ml_free S g), 0, 0) := by
  refine Call.of fX10_free (by decide) rfl (by simp [Value.category]) (Nat.le_of_ble_eq_true rfl) (lv := [some (.ref (ad 10 0)), some (.int (nI g)), none]) rfl ?_
  refine x_aload_n dX10_free_0 rfl ?_
  refine x_get dX10_free_1 fl_RX10_104 (hp_get (κ := 10) (by decide)) rfl ?_
  refine x_iload_n dX10_free_4 rfl ?_
  refine x_iconst (v := (-1)) dX10_free_5 (by decide) ?_
  refine y_iastM (f := 35) (κ := 65) dX10_free_6 am_35 rfl (by first | omega | exact sl16_lt _ | assumption) (by decide) ?_
  refine x_heq (S2 := ml_fr0 S g) rfl ?_
  have h0 : MI (ml_fr0 S g) g := fr0_MI h
  refine x_aload_n dX10_free_7 rfl ?_
  refine x_iload_n dX10_free_8 rfl ?_
  refine x_iconst (v := 0) dX10_free_9 (by decide) ?_
  refine x_cV (as := [_, _]) dX10_free_10 fX10_waitsAt rfl lk_RX10_194 rfl (hp_get (κ := 10) (by decide)) rfl rfl (Nat.le_of_ble_eq_true rfl) (c_mWa hg 0) (by simp) (by simp) ?_
  refine x_istore_n (lv' := [_, _, _]) dX10_free_13 (by decide) rfl ?_
  refine x_iload_n dX10_free_14 rfl ?_
  refine x_if_lt (tgt := 39) dX10_free_15 (by decide) (fun hc15 => ?_) (fun hc15 => ?_)
  · refine x_aload_n dX10_free_39 rfl ?_
    refine x_bipush (v := 10) dX10_free_40 (by decide) ?_
    refine x_iload_n dX10_free_42 rfl ?_
    refine x_iconst (v := 0) dX10_free_43 (by decide) ?_
    refine x_aload_n dX10_free_44 rfl ?_
    refine x_get dX10_free_45 fl_RX10_101 (hp_get (κ := 10) (by decide)) rfl ?_
    refine x_iload_n dX10_free_48 rfl ?_
    refine y_ialdM (f := 34) (κ := 64) dX10_free_49 am_34 rfl (by first | omega | exact sl16_lt _ | assumption) (by decide) ?_
    refine x_iconst (v := (-1)) dX10_free_50 (by decide) ?_
    refine x_iconst (v := 0) dX10_free_51 (by decide) ?_
    refine x_cVv (as := [_, _, _, _, _, _]) dX10_free_52 fX10_send rfl lk_RX10_168 rfl (hp_get (κ := 10) (by decide)) rfl rfl (Nat.le_of_ble_eq_true rfl) (c_mSend h0.1 _ _ _ _ _ _) (by simp) (by simp) ?_
    exact x_rV dX10_free_55 rfl rfl (by unfold ml_free; first | rw [if_pos hc15] | rw [if_neg hc15]) (by simp) (by simp)
  · obtain ⟨hq6, hqe⟩ := ml_q_ok hc15
    refine x_aload_n dX10_free_18 rfl ?_
    refine x_get dX10_free_19 fl_RX10_128 (hp_get (κ := 10) (by decide)) rfl ?_
    refine x_bipush (v := 6) dX10_free_22 (by decide) ?_
    refine x_iload_n dX10_free_24 rfl ?_
    refine x_imul dX10_free_25 ?_
    refine x_iload_n dX10_free_26 rfl ?_
    refine x_eqi hqe ?_
    refine x_iadd dX10_free_27 ?_
    refine x_eqi (ix6 _ _) ?_
    refine x_iconst (v := 0) dX10_free_28 (by decide) ?_
    refine y_iastM (f := 44) (κ := 74) dX10_free_29 am_44 rfl (by first | omega | exact sl16_lt _ | assumption) (by decide) ?_
    refine x_aload_n dX10_free_30 rfl ?_
    refine x_iload_n dX10_free_31 rfl ?_
    refine x_iload_n dX10_free_32 rfl ?_
    refine x_eqi hqe ?_
    refine x_cVv (as := [_, _]) dX10_free_33 fX10_give rfl lk_RX10_197 rfl (hp_get (κ := 10) (by decide)) rfl rfl (Nat.le_of_ble_eq_true rfl) (c_mGive hg hq6 (h0.sm (by decide) (by decide) (by decide))) (by simp) (by simp) ?_
    refine x_goto (tgt := 55) dX10_free_36 (by decide) ?_
    exact x_rV dX10_free_55 rfl rfl (by unfold ml_free; first | rw [if_pos hc15] | rw [if_neg hc15]) (by simp) (by simp)
theorem MI.free {S : St} {g : Nat} (h : MI S g) : MI (ml_free S g) g := by
  unfold ml_free
  split
  · exact (fr0_MI h).send
  · exact ((fr0_MI h).sm (by decide) (by decide) (by decide)).give (ml_q_ok (by assumption)).1
theorem LcM.free {g : Nat} {S : St} : LcM g S (ml_free S g) := by
  unfold ml_free
  have h0 : LcM g S (ml_fr0 S g) := .sg (by decide) (by decide)
  split
  · exact h0.tr .send
  · exact (h0.tr (.si (by decide) (by decide) (gm6 (ml_q_ok (by assumption)).1))).tr .give
def ml_clear (S : St) (g m : Nat) : St := if (sm S 44 (6 * g + m) 0).2.2.1 35 g = nI m then ml_free (sm S 44 (6 * g + m) 0) g else sm S 44 (6 * g + m) 0
set_option maxRecDepth 100000 in
set_option maxHeartbeats 400000 in
theorem c_mClear {X : XS} {d : Nat} {S : St} {g m : Nat} (hg : g < 3) (hm : m < 6) (h : MI S g) : Call X mX10_clear false (d + 4) [.ref (ad 10 0), .int (nI g), .int (nI m)] (hp S) (.inl none, hp (ml_clear S g m), 0, 0) := by
  refine Call.of fX10_clear (by decide) rfl (by simp [Value.category]) (Nat.le_of_ble_eq_true rfl) (lv := [some (.ref (ad 10 0)), some (.int (nI g)), some (.int (nI m))]) rfl ?_
  refine x_aload_n dX10_clear_0 rfl ?_
  refine x_get dX10_clear_1 fl_RX10_128 (hp_get (κ := 10) (by decide)) rfl ?_
  refine x_bipush (v := 6) dX10_clear_4 (by decide) ?_
  refine x_iload_n dX10_clear_6 rfl ?_
  refine x_imul dX10_clear_7 ?_
  refine x_iload_n dX10_clear_8 rfl ?_
  refine x_iadd dX10_clear_9 ?_
  refine x_eqi (ix6 _ _) ?_
  refine x_iconst (v := 0) dX10_clear_10 (by decide) ?_
  refine y_iastM (f := 44) (κ := 74) dX10_clear_11 am_44 rfl (by first | omega | exact sl16_lt _ | assumption) (by decide) ?_
  refine x_aload_n dX10_clear_12 rfl ?_
  refine x_get dX10_clear_13 fl_RX10_104 (hp_get (κ := 10) (by decide)) rfl ?_
  refine x_iload_n dX10_clear_16 rfl ?_
  refine y_ialdM (f := 35) (κ := 65) dX10_clear_17 am_35 rfl (by first | omega | exact sl16_lt _ | assumption) (by decide) ?_
  refine x_iload_n dX10_clear_18 rfl ?_
  refine x_icmp_ne (tgt := 27) dX10_clear_19 (by decide) (fun hc19 => ?_) (fun hc19 => ?_)
  · exact x_rV dX10_clear_27 rfl rfl (by unfold ml_clear; first | rw [if_pos hc19] | rw [if_neg hc19]) (by simp) (by simp)
  · refine x_aload_n dX10_clear_22 rfl ?_
    refine x_iload_n dX10_clear_23 rfl ?_
    refine x_cVv (as := [_]) dX10_clear_24 fX10_free rfl lk_RX10_200 rfl (hp_get (κ := 10) (by decide)) rfl rfl (Nat.le_of_ble_eq_true rfl) (c_mFree hg (h.sm (by decide) (by decide) (by decide))) (by simp) (by simp) ?_
    exact x_rV dX10_clear_27 rfl rfl (by unfold ml_clear; first | rw [if_pos hc19] | rw [if_neg hc19]) (by simp) (by simp)
theorem MI.clear {S : St} {g m : Nat} (h : MI S g) : MI (ml_clear S g m) g := by
  unfold ml_clear
  split
  · exact (h.sm (by decide) (by decide) (by decide)).free
  · exact h.sm (by decide) (by decide) (by decide)
theorem LcM.clear {g m : Nat} {S : St} (hm : m < 6) : LcM g S (ml_clear S g m) := by
  unfold ml_clear
  have h0 : LcM g S (sm S 44 (6 * g + m) 0) := .si (by decide) (by decide) (gm6 hm)
  split
  · exact h0.tr .free
  · exact h0
