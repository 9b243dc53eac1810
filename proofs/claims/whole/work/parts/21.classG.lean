def MK (S : St) (p : Nat) : Nat := (S.1 5 p 0).toNatClampNeg
def MG (S : St) (p : Nat) : Nat := (S.1 5 p 1).toNatClampNeg
def MM (S : St) (p : Nat) : Nat := (S.1 5 p 2).toNatClampNeg
def tk_dl (S : St) (p kd g m : Nat) : St := if kd = 1 then fl_req S g m (S.1 5 p 3) (decide (S.1 5 p 4 = 1)) (S.1 9 0 4) else if kd = 2 then fl_rel S g m (S.1 5 p 3) (S.1 9 0 4) else if kd = 10 then gt_hear S g (S.1 5 p 3) (S.1 5 p 4) else if kd = 11 then gt_unit S g (nI m) (S.1 5 p 3) (S.1 5 p 4) (S.1 5 p 5) (S.1 9 0 4) else me_hear S (6 * g + m) p (S.1 9 0 4)
def tk_del (S : St) (p : Nat) : St := tk_dl S p (MK S p) (MG S p) (MM S p)
def DlOK (S : St) (p : Nat) : Prop := p < 61 ∧ NetOK S ∧ 1 ≤ MK S p ∧ MK S p ≤ 11 ∧ MG S p < 3 ∧ MM S p < 6 ∧ S.1 5 p 0 = nI (MK S p) ∧ S.1 5 p 1 = nI (MG S p) ∧ S.1 5 p 2 = nI (MM S p) ∧ FlI S (MG S p)
theorem tk_dl_1 {S : St} {p g m : Nat} : tk_dl S p 1 g m = fl_req S g m (S.1 5 p 3) (decide (S.1 5 p 4 = 1)) (S.1 9 0 4) := by
  unfold tk_dl
  rw [if_pos rfl]
theorem tk_dl_2 {S : St} {p g m : Nat} : tk_dl S p 2 g m = fl_rel S g m (S.1 5 p 3) (S.1 9 0 4) := by
  unfold tk_dl
  rw [if_neg (by decide), if_pos rfl]
theorem tk_dl_3 {S : St} {p g m : Nat} : tk_dl S p 3 g m = me_hear S (6 * g + m) p (S.1 9 0 4) := by
  unfold tk_dl
  rw [if_neg (by decide), if_neg (by decide), if_neg (by decide), if_neg (by decide)]
theorem tk_dl_4 {S : St} {p g m : Nat} : tk_dl S p 4 g m = me_hear S (6 * g + m) p (S.1 9 0 4) := by
  unfold tk_dl
  rw [if_neg (by decide), if_neg (by decide), if_neg (by decide), if_neg (by decide)]
theorem tk_dl_5 {S : St} {p g m : Nat} : tk_dl S p 5 g m = me_hear S (6 * g + m) p (S.1 9 0 4) := by
  unfold tk_dl
  rw [if_neg (by decide), if_neg (by decide), if_neg (by decide), if_neg (by decide)]
theorem tk_dl_6 {S : St} {p g m : Nat} : tk_dl S p 6 g m = me_hear S (6 * g + m) p (S.1 9 0 4) := by
  unfold tk_dl
  rw [if_neg (by decide), if_neg (by decide), if_neg (by decide), if_neg (by decide)]
theorem tk_dl_7 {S : St} {p g m : Nat} : tk_dl S p 7 g m = me_hear S (6 * g + m) p (S.1 9 0 4) := by
  unfold tk_dl
  rw [if_neg (by decide), if_neg (by decide), if_neg (by decide), if_neg (by decide)]
theorem tk_dl_8 {S : St} {p g m : Nat} : tk_dl S p 8 g m = me_hear S (6 * g + m) p (S.1 9 0 4) := by
  unfold tk_dl
  rw [if_neg (by decide), if_neg (by decide), if_neg (by decide), if_neg (by decide)]
theorem tk_dl_9 {S : St} {p g m : Nat} : tk_dl S p 9 g m = me_hear S (6 * g + m) p (S.1 9 0 4) := by
  unfold tk_dl
  rw [if_neg (by decide), if_neg (by decide), if_neg (by decide), if_neg (by decide)]
theorem tk_dl_10 {S : St} {p g m : Nat} : tk_dl S p 10 g m = gt_hear S g (S.1 5 p 3) (S.1 5 p 4) := by
  unfold tk_dl
  rw [if_neg (by decide), if_neg (by decide), if_pos rfl]
theorem tk_dl_11 {S : St} {p g m : Nat} : tk_dl S p 11 g m = gt_unit S g (nI m) (S.1 5 p 3) (S.1 5 p 4) (S.1 5 p 5) (S.1 9 0 4) := by
  unfold tk_dl
  rw [if_neg (by decide), if_neg (by decide), if_neg (by decide), if_pos rfl]
set_option maxRecDepth 100000 in
set_option maxHeartbeats 4000000 in
theorem c_del_1 {X : XS} {d : Nat} {S : St} {g m p : Nat} (hg : g < 3) (hm : m < 6) (hp0 : p < 61) (hNe : NetOK S) (hI : FlI S g) (hk : S.1 5 p 0 = nI 1) (hG : S.1 5 p 1 = nI g) (hM : S.1 5 p 2 = nI m) : Call X mX9_deliver false (d + 5) [.ref (ad 9 0), .ref (ad 5 p)] (hp S) (.inl none, hp (tk_dl S p 1 g m), 0, 0) := by
  refine Call.of fX9_deliver (by decide) rfl (by simp [Value.category]) (Nat.le_of_ble_eq_true rfl) (lv := [some (.ref (ad 9 0)), some (.ref (ad 5 p))]) rfl ?_
  refine x_aload_n dX9_deliver_0 rfl ?_
  refine x_get dX9_deliver_1 fl_RX9_177 (hp_get (κ := 5) (by first | assumption | (show _ < _; simp only [cnt]; omega))) rfl ?_
  refine x_eqi hk ?_
  refine x_lookup (tgt := 48) (off := 44) dX9_deliver_4 (by decide) (by decide) (by decide) ?_
  refine x_aload_n dX9_deliver_48 rfl ?_
  refine x_get dX9_deliver_49 fl_RX9_24 (hp_get (κ := 9) (by decide)) rfl ?_
  refine x_aload_n dX9_deliver_52 rfl ?_
  refine x_get dX9_deliver_53 fl_RX9_180 (hp_get (κ := 5) (by first | assumption | (show _ < _; simp only [cnt]; omega))) rfl ?_
  refine x_eqi hG ?_
  refine x_floors dX9_deliver_56 (by decide) (by first | omega | exact sl16_lt _ | assumption) ?_
  refine x_aload_n dX9_deliver_57 rfl ?_
  refine x_get dX9_deliver_58 fl_RX9_183 (hp_get (κ := 5) (by first | assumption | (show _ < _; simp only [cnt]; omega))) rfl ?_
  refine x_eqi hM ?_
  refine x_aload_n dX9_deliver_61 rfl ?_
  refine x_get dX9_deliver_62 fl_RX9_186 (hp_get (κ := 5) (by first | assumption | (show _ < _; simp only [cnt]; omega))) rfl ?_
  refine x_aload_n dX9_deliver_65 rfl ?_
  refine x_get dX9_deliver_66 fl_RX9_189 (hp_get (κ := 5) (by first | assumption | (show _ < _; simp only [cnt]; omega))) rfl ?_
  refine x_iconst (v := 1) dX9_deliver_69 (by decide) ?_
  refine x_icmp_ne (tgt := 77) dX9_deliver_70 (by decide) (fun hc70 => ?_) (fun hc70 => ?_)
  · refine x_iconst (v := 0) dX9_deliver_77 (by decide) ?_
    refine x_eqi (y := bI (decide (S.1 5 p 4 = 1))) (by simp [bI, hc70]) ?_
    refine x_aload_n dX9_deliver_78 rfl ?_
    refine x_get dX9_deliver_79 fl_RX9_78 (hp_get (κ := 9) (by decide)) rfl ?_
    refine x_cVv (as := [_, _, _, _]) dX9_deliver_82 fX1_hearRequest rfl lk_RX9_192 rfl (hp_get (κ := 1) (by first | assumption | (show _ < _; simp only [cnt]; omega))) rfl rfl (Nat.le_of_ble_eq_true rfl) (c_hearRequest hg hm hNe hI _ _ _) (by simp) (by simp) ?_
    refine x_goto (tgt := 198) dX9_deliver_85 (by decide) ?_
    exact x_rV dX9_deliver_198 rfl rfl (congrArg hp tk_dl_1) (by simp) (by simp)
  · refine x_iconst (v := 1) dX9_deliver_73 (by decide) ?_
    refine x_goto (tgt := 78) dX9_deliver_74 (by decide) ?_
    refine x_eqi (y := bI (decide (S.1 5 p 4 = 1))) (by simp [bI, hc70]) ?_
    refine x_aload_n dX9_deliver_78 rfl ?_
    refine x_get dX9_deliver_79 fl_RX9_78 (hp_get (κ := 9) (by decide)) rfl ?_
    refine x_cVv (as := [_, _, _, _]) dX9_deliver_82 fX1_hearRequest rfl lk_RX9_192 rfl (hp_get (κ := 1) (by first | assumption | (show _ < _; simp only [cnt]; omega))) rfl rfl (Nat.le_of_ble_eq_true rfl) (c_hearRequest hg hm hNe hI _ _ _) (by simp) (by simp) ?_
    refine x_goto (tgt := 198) dX9_deliver_85 (by decide) ?_
    exact x_rV dX9_deliver_198 rfl rfl (congrArg hp tk_dl_1) (by simp) (by simp)
set_option maxRecDepth 100000 in
set_option maxHeartbeats 4000000 in
theorem c_del_2 {X : XS} {d : Nat} {S : St} {g m p : Nat} (hg : g < 3) (hm : m < 6) (hp0 : p < 61) (hNe : NetOK S) (hI : FlI S g) (hk : S.1 5 p 0 = nI 2) (hG : S.1 5 p 1 = nI g) (hM : S.1 5 p 2 = nI m) : Call X mX9_deliver false (d + 5) [.ref (ad 9 0), .ref (ad 5 p)] (hp S) (.inl none, hp (tk_dl S p 2 g m), 0, 0) := by
  refine Call.of fX9_deliver (by decide) rfl (by simp [Value.category]) (Nat.le_of_ble_eq_true rfl) (lv := [some (.ref (ad 9 0)), some (.ref (ad 5 p))]) rfl ?_
  refine x_aload_n dX9_deliver_0 rfl ?_
  refine x_get dX9_deliver_1 fl_RX9_177 (hp_get (κ := 5) (by first | assumption | (show _ < _; simp only [cnt]; omega))) rfl ?_
  refine x_eqi hk ?_
  refine x_lookup (tgt := 88) (off := 84) dX9_deliver_4 (by decide) (by decide) (by decide) ?_
  refine x_aload_n dX9_deliver_88 rfl ?_
  refine x_get dX9_deliver_89 fl_RX9_24 (hp_get (κ := 9) (by decide)) rfl ?_
  refine x_aload_n dX9_deliver_92 rfl ?_
  refine x_get dX9_deliver_93 fl_RX9_180 (hp_get (κ := 5) (by first | assumption | (show _ < _; simp only [cnt]; omega))) rfl ?_
  refine x_eqi hG ?_
  refine x_floors dX9_deliver_96 (by decide) (by first | omega | exact sl16_lt _ | assumption) ?_
  refine x_aload_n dX9_deliver_97 rfl ?_
  refine x_get dX9_deliver_98 fl_RX9_183 (hp_get (κ := 5) (by first | assumption | (show _ < _; simp only [cnt]; omega))) rfl ?_
  refine x_eqi hM ?_
  refine x_aload_n dX9_deliver_101 rfl ?_
  refine x_get dX9_deliver_102 fl_RX9_186 (hp_get (κ := 5) (by first | assumption | (show _ < _; simp only [cnt]; omega))) rfl ?_
  refine x_aload_n dX9_deliver_105 rfl ?_
  refine x_get dX9_deliver_106 fl_RX9_78 (hp_get (κ := 9) (by decide)) rfl ?_
  refine x_cVv (as := [_, _, _]) dX9_deliver_109 fX1_hearRelease rfl lk_RX9_196 rfl (hp_get (κ := 1) (by first | assumption | (show _ < _; simp only [cnt]; omega))) rfl rfl (Nat.le_of_ble_eq_true rfl) (c_hearRelease hg hm hNe hI _ _) (by simp) (by simp) ?_
  refine x_goto (tgt := 198) dX9_deliver_112 (by decide) ?_
  exact x_rV dX9_deliver_198 rfl rfl (congrArg hp tk_dl_2) (by simp) (by simp)
set_option maxRecDepth 100000 in
set_option maxHeartbeats 4000000 in
theorem c_del_3 {X : XS} {d : Nat} {S : St} {g m p : Nat} (hg : g < 3) (hm : m < 6) (hp0 : p < 61) (hNe : NetOK S) (hI : FlI S g) (hk : S.1 5 p 0 = nI 3) (hG : S.1 5 p 1 = nI g) (hM : S.1 5 p 2 = nI m) : Call X mX9_deliver false (d + 5) [.ref (ad 9 0), .ref (ad 5 p)] (hp S) (.inl none, hp (tk_dl S p 3 g m), 0, 0) := by
  refine Call.of fX9_deliver (by decide) rfl (by simp [Value.category]) (Nat.le_of_ble_eq_true rfl) (lv := [some (.ref (ad 9 0)), some (.ref (ad 5 p))]) rfl ?_
  refine x_aload_n dX9_deliver_0 rfl ?_
  refine x_get dX9_deliver_1 fl_RX9_177 (hp_get (κ := 5) (by first | assumption | (show _ < _; simp only [cnt]; omega))) rfl ?_
  refine x_eqi hk ?_
  refine x_lookup (tgt := 173) (off := 169) dX9_deliver_4 (by decide) (by decide) (by decide) ?_
  refine x_aload_n dX9_deliver_173 rfl ?_
  refine x_get dX9_deliver_174 fl_RX9_18 (hp_get (κ := 9) (by decide)) rfl ?_
  refine x_aload_n dX9_deliver_177 rfl ?_
  refine x_get dX9_deliver_178 fl_RX9_180 (hp_get (κ := 5) (by first | assumption | (show _ < _; simp only [cnt]; omega))) rfl ?_
  refine x_eqi hG ?_
  refine x_parties dX9_deliver_181 (by decide) (by first | omega | exact sl16_lt _ | assumption) ?_
  refine x_get dX9_deliver_182 fl_RX9_209 (hp_get (κ := 7) (by first | assumption | (show _ < _; simp only [cnt]; omega))) rfl ?_
  refine x_aload_n dX9_deliver_185 rfl ?_
  refine x_get dX9_deliver_186 fl_RX9_183 (hp_get (κ := 5) (by first | assumption | (show _ < _; simp only [cnt]; omega))) rfl ?_
  refine x_eqi hM ?_
  refine x_members dX9_deliver_189 (by first | assumption | (show _ < _; simp only [cnt]; omega)) (by first | omega | exact sl16_lt _ | assumption) ?_
  refine x_aload_n dX9_deliver_190 rfl ?_
  refine x_aload_n dX9_deliver_191 rfl ?_
  refine x_get dX9_deliver_192 fl_RX9_78 (hp_get (κ := 9) (by decide)) rfl ?_
  refine x_cVv (as := [_, _]) dX9_deliver_195 fX4_hear rfl lk_RX9_213 rfl (hp_get (κ := 4) (by first | assumption | (show _ < _; simp only [cnt]; omega))) rfl rfl (Nat.le_of_ble_eq_true rfl) (c_meHear_3 (by omega) hp0 hk _) (by simp) (by simp) ?_
  exact x_rV dX9_deliver_198 rfl rfl (congrArg hp tk_dl_3) (by simp) (by simp)
set_option maxRecDepth 100000 in
set_option maxHeartbeats 4000000 in
theorem c_del_4 {X : XS} {d : Nat} {S : St} {g m p : Nat} (hg : g < 3) (hm : m < 6) (hp0 : p < 61) (hNe : NetOK S) (hI : FlI S g) (hk : S.1 5 p 0 = nI 4) (hG : S.1 5 p 1 = nI g) (hM : S.1 5 p 2 = nI m) : Call X mX9_deliver false (d + 5) [.ref (ad 9 0), .ref (ad 5 p)] (hp S) (.inl none, hp (tk_dl S p 4 g m), 0, 0) := by
  refine Call.of fX9_deliver (by decide) rfl (by simp [Value.category]) (Nat.le_of_ble_eq_true rfl) (lv := [some (.ref (ad 9 0)), some (.ref (ad 5 p))]) rfl ?_
  refine x_aload_n dX9_deliver_0 rfl ?_
  refine x_get dX9_deliver_1 fl_RX9_177 (hp_get (κ := 5) (by first | assumption | (show _ < _; simp only [cnt]; omega))) rfl ?_
  refine x_eqi hk ?_
  refine x_lookup (tgt := 173) (off := 169) dX9_deliver_4 (by decide) (by decide) (by decide) ?_
  refine x_aload_n dX9_deliver_173 rfl ?_
  refine x_get dX9_deliver_174 fl_RX9_18 (hp_get (κ := 9) (by decide)) rfl ?_
  refine x_aload_n dX9_deliver_177 rfl ?_
  refine x_get dX9_deliver_178 fl_RX9_180 (hp_get (κ := 5) (by first | assumption | (show _ < _; simp only [cnt]; omega))) rfl ?_
  refine x_eqi hG ?_
  refine x_parties dX9_deliver_181 (by decide) (by first | omega | exact sl16_lt _ | assumption) ?_
  refine x_get dX9_deliver_182 fl_RX9_209 (hp_get (κ := 7) (by first | assumption | (show _ < _; simp only [cnt]; omega))) rfl ?_
  refine x_aload_n dX9_deliver_185 rfl ?_
  refine x_get dX9_deliver_186 fl_RX9_183 (hp_get (κ := 5) (by first | assumption | (show _ < _; simp only [cnt]; omega))) rfl ?_
  refine x_eqi hM ?_
  refine x_members dX9_deliver_189 (by first | assumption | (show _ < _; simp only [cnt]; omega)) (by first | omega | exact sl16_lt _ | assumption) ?_
  refine x_aload_n dX9_deliver_190 rfl ?_
  refine x_aload_n dX9_deliver_191 rfl ?_
  refine x_get dX9_deliver_192 fl_RX9_78 (hp_get (κ := 9) (by decide)) rfl ?_
  refine x_cVv (as := [_, _]) dX9_deliver_195 fX4_hear rfl lk_RX9_213 rfl (hp_get (κ := 4) (by first | assumption | (show _ < _; simp only [cnt]; omega))) rfl rfl (Nat.le_of_ble_eq_true rfl) (c_meHear_4 (by omega) hp0 hk _) (by simp) (by simp) ?_
  exact x_rV dX9_deliver_198 rfl rfl (congrArg hp tk_dl_4) (by simp) (by simp)
set_option maxRecDepth 100000 in
set_option maxHeartbeats 4000000 in
theorem c_del_5 {X : XS} {d : Nat} {S : St} {g m p : Nat} (hg : g < 3) (hm : m < 6) (hp0 : p < 61) (hNe : NetOK S) (hI : FlI S g) (hk : S.1 5 p 0 = nI 5) (hG : S.1 5 p 1 = nI g) (hM : S.1 5 p 2 = nI m) : Call X mX9_deliver false (d + 5) [.ref (ad 9 0), .ref (ad 5 p)] (hp S) (.inl none, hp (tk_dl S p 5 g m), 0, 0) := by
  refine Call.of fX9_deliver (by decide) rfl (by simp [Value.category]) (Nat.le_of_ble_eq_true rfl) (lv := [some (.ref (ad 9 0)), some (.ref (ad 5 p))]) rfl ?_
  refine x_aload_n dX9_deliver_0 rfl ?_
  refine x_get dX9_deliver_1 fl_RX9_177 (hp_get (κ := 5) (by first | assumption | (show _ < _; simp only [cnt]; omega))) rfl ?_
  refine x_eqi hk ?_
  refine x_lookup (tgt := 173) (off := 169) dX9_deliver_4 (by decide) (by decide) (by decide) ?_
  refine x_aload_n dX9_deliver_173 rfl ?_
  refine x_get dX9_deliver_174 fl_RX9_18 (hp_get (κ := 9) (by decide)) rfl ?_
  refine x_aload_n dX9_deliver_177 rfl ?_
  refine x_get dX9_deliver_178 fl_RX9_180 (hp_get (κ := 5) (by first | assumption | (show _ < _; simp only [cnt]; omega))) rfl ?_
  refine x_eqi hG ?_
  refine x_parties dX9_deliver_181 (by decide) (by first | omega | exact sl16_lt _ | assumption) ?_
  refine x_get dX9_deliver_182 fl_RX9_209 (hp_get (κ := 7) (by first | assumption | (show _ < _; simp only [cnt]; omega))) rfl ?_
  refine x_aload_n dX9_deliver_185 rfl ?_
  refine x_get dX9_deliver_186 fl_RX9_183 (hp_get (κ := 5) (by first | assumption | (show _ < _; simp only [cnt]; omega))) rfl ?_
  refine x_eqi hM ?_
  refine x_members dX9_deliver_189 (by first | assumption | (show _ < _; simp only [cnt]; omega)) (by first | omega | exact sl16_lt _ | assumption) ?_
  refine x_aload_n dX9_deliver_190 rfl ?_
  refine x_aload_n dX9_deliver_191 rfl ?_
  refine x_get dX9_deliver_192 fl_RX9_78 (hp_get (κ := 9) (by decide)) rfl ?_
  refine x_cVv (as := [_, _]) dX9_deliver_195 fX4_hear rfl lk_RX9_213 rfl (hp_get (κ := 4) (by first | assumption | (show _ < _; simp only [cnt]; omega))) rfl rfl (Nat.le_of_ble_eq_true rfl) (c_meHear_5 (by omega) hp0 hk _) (by simp) (by simp) ?_
  exact x_rV dX9_deliver_198 rfl rfl (congrArg hp tk_dl_5) (by simp) (by simp)
set_option maxRecDepth 100000 in
set_option maxHeartbeats 4000000 in
theorem c_del_6 {X : XS} {d : Nat} {S : St} {g m p : Nat} (hg : g < 3) (hm : m < 6) (hp0 : p < 61) (hNe : NetOK S) (hI : FlI S g) (hk : S.1 5 p 0 = nI 6) (hG : S.1 5 p 1 = nI g) (hM : S.1 5 p 2 = nI m) : Call X mX9_deliver false (d + 5) [.ref (ad 9 0), .ref (ad 5 p)] (hp S) (.inl none, hp (tk_dl S p 6 g m), 0, 0) := by
  refine Call.of fX9_deliver (by decide) rfl (by simp [Value.category]) (Nat.le_of_ble_eq_true rfl) (lv := [some (.ref (ad 9 0)), some (.ref (ad 5 p))]) rfl ?_
  refine x_aload_n dX9_deliver_0 rfl ?_
  refine x_get dX9_deliver_1 fl_RX9_177 (hp_get (κ := 5) (by first | assumption | (show _ < _; simp only [cnt]; omega))) rfl ?_
  refine x_eqi hk ?_
  refine x_lookup (tgt := 173) (off := 169) dX9_deliver_4 (by decide) (by decide) (by decide) ?_
  refine x_aload_n dX9_deliver_173 rfl ?_
  refine x_get dX9_deliver_174 fl_RX9_18 (hp_get (κ := 9) (by decide)) rfl ?_
  refine x_aload_n dX9_deliver_177 rfl ?_
  refine x_get dX9_deliver_178 fl_RX9_180 (hp_get (κ := 5) (by first | assumption | (show _ < _; simp only [cnt]; omega))) rfl ?_
  refine x_eqi hG ?_
  refine x_parties dX9_deliver_181 (by decide) (by first | omega | exact sl16_lt _ | assumption) ?_
  refine x_get dX9_deliver_182 fl_RX9_209 (hp_get (κ := 7) (by first | assumption | (show _ < _; simp only [cnt]; omega))) rfl ?_
  refine x_aload_n dX9_deliver_185 rfl ?_
  refine x_get dX9_deliver_186 fl_RX9_183 (hp_get (κ := 5) (by first | assumption | (show _ < _; simp only [cnt]; omega))) rfl ?_
  refine x_eqi hM ?_
  refine x_members dX9_deliver_189 (by first | assumption | (show _ < _; simp only [cnt]; omega)) (by first | omega | exact sl16_lt _ | assumption) ?_
  refine x_aload_n dX9_deliver_190 rfl ?_
  refine x_aload_n dX9_deliver_191 rfl ?_
  refine x_get dX9_deliver_192 fl_RX9_78 (hp_get (κ := 9) (by decide)) rfl ?_
  refine x_cVv (as := [_, _]) dX9_deliver_195 fX4_hear rfl lk_RX9_213 rfl (hp_get (κ := 4) (by first | assumption | (show _ < _; simp only [cnt]; omega))) rfl rfl (Nat.le_of_ble_eq_true rfl) (c_meHear_6 (by omega) hp0 hk _) (by simp) (by simp) ?_
  exact x_rV dX9_deliver_198 rfl rfl (congrArg hp tk_dl_6) (by simp) (by simp)
set_option maxRecDepth 100000 in
set_option maxHeartbeats 4000000 in
theorem c_del_7 {X : XS} {d : Nat} {S : St} {g m p : Nat} (hg : g < 3) (hm : m < 6) (hp0 : p < 61) (hNe : NetOK S) (hI : FlI S g) (hk : S.1 5 p 0 = nI 7) (hG : S.1 5 p 1 = nI g) (hM : S.1 5 p 2 = nI m) : Call X mX9_deliver false (d + 5) [.ref (ad 9 0), .ref (ad 5 p)] (hp S) (.inl none, hp (tk_dl S p 7 g m), 0, 0) := by
  refine Call.of fX9_deliver (by decide) rfl (by simp [Value.category]) (Nat.le_of_ble_eq_true rfl) (lv := [some (.ref (ad 9 0)), some (.ref (ad 5 p))]) rfl ?_
  refine x_aload_n dX9_deliver_0 rfl ?_
  refine x_get dX9_deliver_1 fl_RX9_177 (hp_get (κ := 5) (by first | assumption | (show _ < _; simp only [cnt]; omega))) rfl ?_
  refine x_eqi hk ?_
  refine x_lookup (tgt := 173) (off := 169) dX9_deliver_4 (by decide) (by decide) (by decide) ?_
  refine x_aload_n dX9_deliver_173 rfl ?_
  refine x_get dX9_deliver_174 fl_RX9_18 (hp_get (κ := 9) (by decide)) rfl ?_
  refine x_aload_n dX9_deliver_177 rfl ?_
  refine x_get dX9_deliver_178 fl_RX9_180 (hp_get (κ := 5) (by first | assumption | (show _ < _; simp only [cnt]; omega))) rfl ?_
  refine x_eqi hG ?_
  refine x_parties dX9_deliver_181 (by decide) (by first | omega | exact sl16_lt _ | assumption) ?_
  refine x_get dX9_deliver_182 fl_RX9_209 (hp_get (κ := 7) (by first | assumption | (show _ < _; simp only [cnt]; omega))) rfl ?_
  refine x_aload_n dX9_deliver_185 rfl ?_
  refine x_get dX9_deliver_186 fl_RX9_183 (hp_get (κ := 5) (by first | assumption | (show _ < _; simp only [cnt]; omega))) rfl ?_
  refine x_eqi hM ?_
  refine x_members dX9_deliver_189 (by first | assumption | (show _ < _; simp only [cnt]; omega)) (by first | omega | exact sl16_lt _ | assumption) ?_
  refine x_aload_n dX9_deliver_190 rfl ?_
  refine x_aload_n dX9_deliver_191 rfl ?_
  refine x_get dX9_deliver_192 fl_RX9_78 (hp_get (κ := 9) (by decide)) rfl ?_
  refine x_cVv (as := [_, _]) dX9_deliver_195 fX4_hear rfl lk_RX9_213 rfl (hp_get (κ := 4) (by first | assumption | (show _ < _; simp only [cnt]; omega))) rfl rfl (Nat.le_of_ble_eq_true rfl) (c_meHear_7 (by omega) hp0 hk _) (by simp) (by simp) ?_
  exact x_rV dX9_deliver_198 rfl rfl (congrArg hp tk_dl_7) (by simp) (by simp)
set_option maxRecDepth 100000 in
set_option maxHeartbeats 4000000 in
theorem c_del_8 {X : XS} {d : Nat} {S : St} {g m p : Nat} (hg : g < 3) (hm : m < 6) (hp0 : p < 61) (hNe : NetOK S) (hI : FlI S g) (hk : S.1 5 p 0 = nI 8) (hG : S.1 5 p 1 = nI g) (hM : S.1 5 p 2 = nI m) : Call X mX9_deliver false (d + 5) [.ref (ad 9 0), .ref (ad 5 p)] (hp S) (.inl none, hp (tk_dl S p 8 g m), 0, 0) := by
  refine Call.of fX9_deliver (by decide) rfl (by simp [Value.category]) (Nat.le_of_ble_eq_true rfl) (lv := [some (.ref (ad 9 0)), some (.ref (ad 5 p))]) rfl ?_
  refine x_aload_n dX9_deliver_0 rfl ?_
  refine x_get dX9_deliver_1 fl_RX9_177 (hp_get (κ := 5) (by first | assumption | (show _ < _; simp only [cnt]; omega))) rfl ?_
  refine x_eqi hk ?_
  refine x_lookup (tgt := 173) (off := 169) dX9_deliver_4 (by decide) (by decide) (by decide) ?_
  refine x_aload_n dX9_deliver_173 rfl ?_
  refine x_get dX9_deliver_174 fl_RX9_18 (hp_get (κ := 9) (by decide)) rfl ?_
  refine x_aload_n dX9_deliver_177 rfl ?_
  refine x_get dX9_deliver_178 fl_RX9_180 (hp_get (κ := 5) (by first | assumption | (show _ < _; simp only [cnt]; omega))) rfl ?_
  refine x_eqi hG ?_
  refine x_parties dX9_deliver_181 (by decide) (by first | omega | exact sl16_lt _ | assumption) ?_
  refine x_get dX9_deliver_182 fl_RX9_209 (hp_get (κ := 7) (by first | assumption | (show _ < _; simp only [cnt]; omega))) rfl ?_
  refine x_aload_n dX9_deliver_185 rfl ?_
  refine x_get dX9_deliver_186 fl_RX9_183 (hp_get (κ := 5) (by first | assumption | (show _ < _; simp only [cnt]; omega))) rfl ?_
  refine x_eqi hM ?_
  refine x_members dX9_deliver_189 (by first | assumption | (show _ < _; simp only [cnt]; omega)) (by first | omega | exact sl16_lt _ | assumption) ?_
  refine x_aload_n dX9_deliver_190 rfl ?_
  refine x_aload_n dX9_deliver_191 rfl ?_
  refine x_get dX9_deliver_192 fl_RX9_78 (hp_get (κ := 9) (by decide)) rfl ?_
  refine x_cVv (as := [_, _]) dX9_deliver_195 fX4_hear rfl lk_RX9_213 rfl (hp_get (κ := 4) (by first | assumption | (show _ < _; simp only [cnt]; omega))) rfl rfl (Nat.le_of_ble_eq_true rfl) (c_meHear_8 (by omega) hp0 hk _) (by simp) (by simp) ?_
  exact x_rV dX9_deliver_198 rfl rfl (congrArg hp tk_dl_8) (by simp) (by simp)
set_option maxRecDepth 100000 in
set_option maxHeartbeats 4000000 in
theorem c_del_9 {X : XS} {d : Nat} {S : St} {g m p : Nat} (hg : g < 3) (hm : m < 6) (hp0 : p < 61) (hNe : NetOK S) (hI : FlI S g) (hk : S.1 5 p 0 = nI 9) (hG : S.1 5 p 1 = nI g) (hM : S.1 5 p 2 = nI m) : Call X mX9_deliver false (d + 5) [.ref (ad 9 0), .ref (ad 5 p)] (hp S) (.inl none, hp (tk_dl S p 9 g m), 0, 0) := by
  refine Call.of fX9_deliver (by decide) rfl (by simp [Value.category]) (Nat.le_of_ble_eq_true rfl) (lv := [some (.ref (ad 9 0)), some (.ref (ad 5 p))]) rfl ?_
  refine x_aload_n dX9_deliver_0 rfl ?_
  refine x_get dX9_deliver_1 fl_RX9_177 (hp_get (κ := 5) (by first | assumption | (show _ < _; simp only [cnt]; omega))) rfl ?_
  refine x_eqi hk ?_
  refine x_lookup (tgt := 173) (off := 169) dX9_deliver_4 (by decide) (by decide) (by decide) ?_
  refine x_aload_n dX9_deliver_173 rfl ?_
  refine x_get dX9_deliver_174 fl_RX9_18 (hp_get (κ := 9) (by decide)) rfl ?_
  refine x_aload_n dX9_deliver_177 rfl ?_
  refine x_get dX9_deliver_178 fl_RX9_180 (hp_get (κ := 5) (by first | assumption | (show _ < _; simp only [cnt]; omega))) rfl ?_
  refine x_eqi hG ?_
  refine x_parties dX9_deliver_181 (by decide) (by first | omega | exact sl16_lt _ | assumption) ?_
  refine x_get dX9_deliver_182 fl_RX9_209 (hp_get (κ := 7) (by first | assumption | (show _ < _; simp only [cnt]; omega))) rfl ?_
  refine x_aload_n dX9_deliver_185 rfl ?_
  refine x_get dX9_deliver_186 fl_RX9_183 (hp_get (κ := 5) (by first | assumption | (show _ < _; simp only [cnt]; omega))) rfl ?_
  refine x_eqi hM ?_
  refine x_members dX9_deliver_189 (by first | assumption | (show _ < _; simp only [cnt]; omega)) (by first | omega | exact sl16_lt _ | assumption) ?_
  refine x_aload_n dX9_deliver_190 rfl ?_
  refine x_aload_n dX9_deliver_191 rfl ?_
  refine x_get dX9_deliver_192 fl_RX9_78 (hp_get (κ := 9) (by decide)) rfl ?_
  refine x_cVv (as := [_, _]) dX9_deliver_195 fX4_hear rfl lk_RX9_213 rfl (hp_get (κ := 4) (by first | assumption | (show _ < _; simp only [cnt]; omega))) rfl rfl (Nat.le_of_ble_eq_true rfl) (c_meHear_9 (by omega) hp0 hk _) (by simp) (by simp) ?_
  exact x_rV dX9_deliver_198 rfl rfl (congrArg hp tk_dl_9) (by simp) (by simp)
set_option maxRecDepth 100000 in
set_option maxHeartbeats 4000000 in
theorem c_del_10 {X : XS} {d : Nat} {S : St} {g m p : Nat} (hg : g < 3) (hm : m < 6) (hp0 : p < 61) (hNe : NetOK S) (hI : FlI S g) (hk : S.1 5 p 0 = nI 10) (hG : S.1 5 p 1 = nI g) (hM : S.1 5 p 2 = nI m) : Call X mX9_deliver false (d + 5) [.ref (ad 9 0), .ref (ad 5 p)] (hp S) (.inl none, hp (tk_dl S p 10 g m), 0, 0) := by
  refine Call.of fX9_deliver (by decide) rfl (by simp [Value.category]) (Nat.le_of_ble_eq_true rfl) (lv := [some (.ref (ad 9 0)), some (.ref (ad 5 p))]) rfl ?_
  refine x_aload_n dX9_deliver_0 rfl ?_
  refine x_get dX9_deliver_1 fl_RX9_177 (hp_get (κ := 5) (by first | assumption | (show _ < _; simp only [cnt]; omega))) rfl ?_
  refine x_eqi hk ?_
  refine x_lookup (tgt := 115) (off := 111) dX9_deliver_4 (by decide) (by decide) (by decide) ?_
  refine x_aload_n dX9_deliver_115 rfl ?_
  refine x_get dX9_deliver_116 fl_RX9_30 (hp_get (κ := 9) (by decide)) rfl ?_
  refine x_aload_n dX9_deliver_119 rfl ?_
  refine x_get dX9_deliver_120 fl_RX9_180 (hp_get (κ := 5) (by first | assumption | (show _ < _; simp only [cnt]; omega))) rfl ?_
  refine x_eqi hG ?_
  refine x_gates dX9_deliver_123 (by decide) (by first | omega | exact sl16_lt _ | assumption) ?_
  refine x_aload_n dX9_deliver_124 rfl ?_
  refine x_get dX9_deliver_125 fl_RX9_186 (hp_get (κ := 5) (by first | assumption | (show _ < _; simp only [cnt]; omega))) rfl ?_
  refine x_aload_n dX9_deliver_128 rfl ?_
  refine x_get dX9_deliver_129 fl_RX9_189 (hp_get (κ := 5) (by first | assumption | (show _ < _; simp only [cnt]; omega))) rfl ?_
  refine x_cVv (as := [_, _]) dX9_deliver_132 fX2_hearGate rfl lk_RX9_199 rfl (hp_get (κ := 2) (by first | assumption | (show _ < _; simp only [cnt]; omega))) rfl rfl (Nat.le_of_ble_eq_true rfl) (c_hearGate hg _ _) (by simp) (by simp) ?_
  refine x_goto (tgt := 198) dX9_deliver_135 (by decide) ?_
  exact x_rV dX9_deliver_198 rfl rfl (congrArg hp tk_dl_10) (by simp) (by simp)
set_option maxRecDepth 100000 in
set_option maxHeartbeats 4000000 in
theorem c_del_11 {X : XS} {d : Nat} {S : St} {g m p : Nat} (hg : g < 3) (hm : m < 6) (hp0 : p < 61) (hNe : NetOK S) (hI : FlI S g) (hk : S.1 5 p 0 = nI 11) (hG : S.1 5 p 1 = nI g) (hM : S.1 5 p 2 = nI m) : Call X mX9_deliver false (d + 5) [.ref (ad 9 0), .ref (ad 5 p)] (hp S) (.inl none, hp (tk_dl S p 11 g m), 0, 0) := by
  refine Call.of fX9_deliver (by decide) rfl (by simp [Value.category]) (Nat.le_of_ble_eq_true rfl) (lv := [some (.ref (ad 9 0)), some (.ref (ad 5 p))]) rfl ?_
  refine x_aload_n dX9_deliver_0 rfl ?_
  refine x_get dX9_deliver_1 fl_RX9_177 (hp_get (κ := 5) (by first | assumption | (show _ < _; simp only [cnt]; omega))) rfl ?_
  refine x_eqi hk ?_
  refine x_lookup (tgt := 138) (off := 134) dX9_deliver_4 (by decide) (by decide) (by decide) ?_
  refine x_aload_n dX9_deliver_138 rfl ?_
  refine x_get dX9_deliver_139 fl_RX9_30 (hp_get (κ := 9) (by decide)) rfl ?_
  refine x_aload_n dX9_deliver_142 rfl ?_
  refine x_get dX9_deliver_143 fl_RX9_180 (hp_get (κ := 5) (by first | assumption | (show _ < _; simp only [cnt]; omega))) rfl ?_
  refine x_eqi hG ?_
  refine x_gates dX9_deliver_146 (by decide) (by first | omega | exact sl16_lt _ | assumption) ?_
  refine x_aload_n dX9_deliver_147 rfl ?_
  refine x_get dX9_deliver_148 fl_RX9_183 (hp_get (κ := 5) (by first | assumption | (show _ < _; simp only [cnt]; omega))) rfl ?_
  refine x_eqi hM ?_
  refine x_aload_n dX9_deliver_151 rfl ?_
  refine x_get dX9_deliver_152 fl_RX9_186 (hp_get (κ := 5) (by first | assumption | (show _ < _; simp only [cnt]; omega))) rfl ?_
  refine x_aload_n dX9_deliver_155 rfl ?_
  refine x_get dX9_deliver_156 fl_RX9_189 (hp_get (κ := 5) (by first | assumption | (show _ < _; simp only [cnt]; omega))) rfl ?_
  refine x_aload_n dX9_deliver_159 rfl ?_
  refine x_get dX9_deliver_160 fl_RX9_202 (hp_get (κ := 5) (by first | assumption | (show _ < _; simp only [cnt]; omega))) rfl ?_
  refine x_aload_n dX9_deliver_163 rfl ?_
  refine x_get dX9_deliver_164 fl_RX9_78 (hp_get (κ := 9) (by decide)) rfl ?_
  refine x_cVv (as := [_, _, _, _, _]) dX9_deliver_167 fX2_hearUnit rfl lk_RX9_205 rfl (hp_get (κ := 2) (by first | assumption | (show _ < _; simp only [cnt]; omega))) rfl rfl (Nat.le_of_ble_eq_true rfl) (c_hearUnit hg hNe _ _ _ _ _) (by simp) (by simp) ?_
  refine x_goto (tgt := 198) dX9_deliver_170 (by decide) ?_
  exact x_rV dX9_deliver_198 rfl rfl (congrArg hp tk_dl_11) (by simp) (by simp)
