theorem c_deliver {X : XS} {d : Nat} {S : St} {p : Nat} (h : DlOK S p) : Call X mX9_deliver false (d + 5) [.ref (ad 9 0), .ref (ad 5 p)] (hp S) (.inl none, hp (tk_del S p), 0, 0) := by
  obtain ⟨h0, hN, h1, h11, hg, hm, ek, eg, em, hI⟩ := h
  unfold tk_del
  generalize MK S p = kd at *
  generalize MG S p = g at *
  generalize MM S p = m at *
  have hj : kd = 1 ∨ kd = 2 ∨ kd = 3 ∨ kd = 4 ∨ kd = 5 ∨ kd = 6 ∨ kd = 7 ∨ kd = 8 ∨ kd = 9 ∨ kd = 10 ∨ kd = 11 := by omega
  rcases hj with rfl | rfl | rfl | rfl | rfl | rfl | rfl | rfl | rfl | rfl | rfl
  · exact c_del_1 hg hm h0 hN hI ek eg em
  · exact c_del_2 hg hm h0 hN hI ek eg em
  · exact c_del_3 hg hm h0 hN hI ek eg em
  · exact c_del_4 hg hm h0 hN hI ek eg em
  · exact c_del_5 hg hm h0 hN hI ek eg em
  · exact c_del_6 hg hm h0 hN hI ek eg em
  · exact c_del_7 hg hm h0 hN hI ek eg em
  · exact c_del_8 hg hm h0 hN hI ek eg em
  · exact c_del_9 hg hm h0 hN hI ek eg em
  · exact c_del_10 hg hm h0 hN hI ek eg em
  · exact c_del_11 hg hm h0 hN hI ek eg em
set_option maxRecDepth 100000 in
set_option maxHeartbeats 4000000 in
theorem k_carry {X : XS} {d : Nat} {S : St} {k : Nat} (hk : nI k < S.1 6 0 2) (hk6 : k < 60) (hN : NetOK S) (hD : DlOK (nt_out S k) (nt_at S k)) : Call X mX9_carry false (d + 6) [.ref (ad 9 0), .int (nI k)] (hp S) (.inl none, hp (tk_del (nt_out S k) (nt_at S k)), 0, 0) := by
  refine Call.of fX9_carry (by decide) rfl (by simp [Value.category]) (Nat.le_of_ble_eq_true rfl) (lv := [some (.ref (ad 9 0)), some (.int (nI k))]) rfl ?_
  refine x_aload_n dX9_carry_0 rfl ?_
  refine x_iload_n dX9_carry_1 rfl ?_
  refine x_cVv (as := [_]) dX9_carry_2 fX9_needMessage rfl lk_RX9_128 rfl (hp_get (κ := 9) (by decide)) rfl rfl (Nat.le_of_ble_eq_true rfl) (c_needMsg (nI_pos (by omega)) hk) (by simp) (by simp) ?_
  refine x_aload_n dX9_carry_5 rfl ?_
  refine x_aload_n dX9_carry_6 rfl ?_
  refine x_get dX9_carry_7 fl_RX9_10 (hp_get (κ := 9) (by decide)) rfl ?_
  refine x_iload_n dX9_carry_10 rfl ?_
  refine x_cV (as := [_]) dX9_carry_11 fX6_takeOut rfl lk_RX9_144 rfl (hp_get (κ := 6) (by decide)) rfl rfl (Nat.le_of_ble_eq_true rfl) (c_takeOut hN hk6) (by simp) (by simp) ?_
  refine x_cVv (as := [_]) dX9_carry_14 fX9_deliver rfl lk_RX9_147 rfl (hp_get (κ := 9) (by decide)) rfl rfl (Nat.le_of_ble_eq_true rfl) (c_deliver hD) (by simp) (by simp) ?_
  exact x_rV dX9_carry_17 rfl rfl rfl (by simp) (by simp)
set_option maxRecDepth 100000 in
set_option maxHeartbeats 4000000 in
theorem k_carryN {X : XS} {d : Nat} {S : St} {x : Int32} (hx : x < 0 ∨ ¬ x < S.1 6 0 2) : Call X mX9_carry false (d + 7) [.ref (ad 9 0), .int x] (hp S) (.inr eN, hp (S), 1, 6) := by
  refine Call.of fX9_carry (by decide) rfl (by simp [Value.category]) (Nat.le_of_ble_eq_true rfl) (lv := [some (.ref (ad 9 0)), some (.int x)]) rfl ?_
  refine x_aload_n dX9_carry_0 rfl ?_
  refine x_iload_n dX9_carry_1 rfl ?_
  exact x_cVT (as := [_]) dX9_carry_2 fX9_needMessage rfl rfl lk_RX9_128 rfl (hp_get (κ := 9) (by decide)) rfl rfl (Nat.le_of_ble_eq_true rfl) (c_needMsgT hx) rfl rfl (by simp) (by simp)
set_option maxRecDepth 100000 in
set_option maxHeartbeats 4000000 in
theorem k_twice {X : XS} {d : Nat} {S : St} {k : Nat} (hk : nI k < S.1 6 0 2) (hk6 : k < 60) (hN : NetOK S) (hD : DlOK S (nt_at S k)) : Call X mX9_twice false (d + 6) [.ref (ad 9 0), .int (nI k)] (hp S) (.inl none, hp (tk_del S (nt_at S k)), 0, 0) := by
  refine Call.of fX9_twice (by decide) rfl (by simp [Value.category]) (Nat.le_of_ble_eq_true rfl) (lv := [some (.ref (ad 9 0)), some (.int (nI k))]) rfl ?_
  refine x_aload_n dX9_twice_0 rfl ?_
  refine x_iload_n dX9_twice_1 rfl ?_
  refine x_cVv (as := [_]) dX9_twice_2 fX9_needMessage rfl lk_RX9_128 rfl (hp_get (κ := 9) (by decide)) rfl rfl (Nat.le_of_ble_eq_true rfl) (c_needMsg (nI_pos (by omega)) hk) (by simp) (by simp) ?_
  refine x_aload_n dX9_twice_5 rfl ?_
  refine x_aload_n dX9_twice_6 rfl ?_
  refine x_get dX9_twice_7 fl_RX9_10 (hp_get (κ := 9) (by decide)) rfl ?_
  refine x_iload_n dX9_twice_10 rfl ?_
  refine x_cV (as := [_]) dX9_twice_11 fX6_at rfl lk_RX9_134 rfl (hp_get (κ := 6) (by decide)) rfl rfl (Nat.le_of_ble_eq_true rfl) (c_at hN (by omega)) (by simp) (by simp) ?_
  refine x_cVv (as := [_]) dX9_twice_14 fX9_deliver rfl lk_RX9_147 rfl (hp_get (κ := 9) (by decide)) rfl rfl (Nat.le_of_ble_eq_true rfl) (c_deliver hD) (by simp) (by simp) ?_
  exact x_rV dX9_twice_17 rfl rfl rfl (by simp) (by simp)
set_option maxRecDepth 100000 in
set_option maxHeartbeats 4000000 in
theorem k_twiceN {X : XS} {d : Nat} {S : St} {x : Int32} (hx : x < 0 ∨ ¬ x < S.1 6 0 2) : Call X mX9_twice false (d + 7) [.ref (ad 9 0), .int x] (hp S) (.inr eN, hp (S), 1, 6) := by
  refine Call.of fX9_twice (by decide) rfl (by simp [Value.category]) (Nat.le_of_ble_eq_true rfl) (lv := [some (.ref (ad 9 0)), some (.int x)]) rfl ?_
  refine x_aload_n dX9_twice_0 rfl ?_
  refine x_iload_n dX9_twice_1 rfl ?_
  exact x_cVT (as := [_]) dX9_twice_2 fX9_needMessage rfl rfl lk_RX9_128 rfl (hp_get (κ := 9) (by decide)) rfl rfl (Nat.le_of_ble_eq_true rfl) (c_needMsgT hx) rfl rfl (by simp) (by simp)
set_option maxRecDepth 100000 in
set_option maxHeartbeats 4000000 in
theorem k_drop {X : XS} {d : Nat} {S : St} {k : Nat} (hk : nI k < S.1 6 0 2) (hk6 : k < 60) (hN : NetOK S) : Call X mX9_drop false (d + 6) [.ref (ad 9 0), .int (nI k)] (hp S) (.inl none, hp (nt_out S k), 0, 0) := by
  refine Call.of fX9_drop (by decide) rfl (by simp [Value.category]) (Nat.le_of_ble_eq_true rfl) (lv := [some (.ref (ad 9 0)), some (.int (nI k))]) rfl ?_
  refine x_aload_n dX9_drop_0 rfl ?_
  refine x_iload_n dX9_drop_1 rfl ?_
  refine x_cVv (as := [_]) dX9_drop_2 fX9_needMessage rfl lk_RX9_128 rfl (hp_get (κ := 9) (by decide)) rfl rfl (Nat.le_of_ble_eq_true rfl) (c_needMsg (nI_pos (by omega)) hk) (by simp) (by simp) ?_
  refine x_aload_n dX9_drop_5 rfl ?_
  refine x_get dX9_drop_6 fl_RX9_10 (hp_get (κ := 9) (by decide)) rfl ?_
  refine x_iload_n dX9_drop_9 rfl ?_
  refine x_cV (as := [_]) dX9_drop_10 fX6_takeOut rfl lk_RX9_144 rfl (hp_get (κ := 6) (by decide)) rfl rfl (Nat.le_of_ble_eq_true rfl) (c_takeOut hN hk6) (by simp) (by simp) ?_
  refine x_pop dX9_drop_13 rfl ?_
  exact x_rV dX9_drop_14 rfl rfl rfl (by simp) (by simp)
set_option maxRecDepth 100000 in
set_option maxHeartbeats 4000000 in
theorem k_dropN {X : XS} {d : Nat} {S : St} {x : Int32} (hx : x < 0 ∨ ¬ x < S.1 6 0 2) : Call X mX9_drop false (d + 7) [.ref (ad 9 0), .int x] (hp S) (.inr eN, hp (S), 1, 6) := by
  refine Call.of fX9_drop (by decide) rfl (by simp [Value.category]) (Nat.le_of_ble_eq_true rfl) (lv := [some (.ref (ad 9 0)), some (.int x)]) rfl ?_
  refine x_aload_n dX9_drop_0 rfl ?_
  refine x_iload_n dX9_drop_1 rfl ?_
  exact x_cVT (as := [_]) dX9_drop_2 fX9_needMessage rfl rfl lk_RX9_128 rfl (hp_get (κ := 9) (by decide)) rfl rfl (Nat.le_of_ble_eq_true rfl) (c_needMsgT hx) rfl rfl (by simp) (by simp)
