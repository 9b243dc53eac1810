set_option maxRecDepth 100000 in
set_option maxHeartbeats 4000000 in
theorem c_msgField_0 {X : XS} {d : Nat} {S : St} {p : Nat} (hp0 : p < 61) : Call X mX5_field false d [.ref (ad 5 p), .int (nI 0)] (hp S) (.inl (some (.int (S.1 5 p 0))), hp (S), 0, 0) := by
  refine Call.of fX5_field (by decide) rfl (by simp [Value.category]) (Nat.le_of_ble_eq_true rfl) (lv := [some (.ref (ad 5 p)), some (.int (nI 0))]) rfl ?_
  refine x_iload_n dX5_field_0 rfl ?_
  refine x_tableIn (tgt := 36) (off := 35) dX5_field_1 (by decide) (by decide) (by decide) (by decide) ?_
  refine x_aload_n dX5_field_36 rfl ?_
  refine x_get dX5_field_37 fl_RX5_7 (hp_get (κ := 5) (by first | assumption | (show _ < _; simp only [cnt]; omega))) rfl ?_
  exact x_rI dX5_field_40 rfl rfl rfl rfl (by simp) (by simp)
set_option maxRecDepth 100000 in
set_option maxHeartbeats 4000000 in
theorem c_msgField_1 {X : XS} {d : Nat} {S : St} {p : Nat} (hp0 : p < 61) : Call X mX5_field false d [.ref (ad 5 p), .int (nI 1)] (hp S) (.inl (some (.int (S.1 5 p 1))), hp (S), 0, 0) := by
  refine Call.of fX5_field (by decide) rfl (by simp [Value.category]) (Nat.le_of_ble_eq_true rfl) (lv := [some (.ref (ad 5 p)), some (.int (nI 1))]) rfl ?_
  refine x_iload_n dX5_field_0 rfl ?_
  refine x_tableIn (tgt := 41) (off := 40) dX5_field_1 (by decide) (by decide) (by decide) (by decide) ?_
  refine x_aload_n dX5_field_41 rfl ?_
  refine x_get dX5_field_42 fl_RX5_13 (hp_get (κ := 5) (by first | assumption | (show _ < _; simp only [cnt]; omega))) rfl ?_
  exact x_rI dX5_field_45 rfl rfl rfl rfl (by simp) (by simp)
set_option maxRecDepth 100000 in
set_option maxHeartbeats 4000000 in
theorem c_msgField_2 {X : XS} {d : Nat} {S : St} {p : Nat} (hp0 : p < 61) : Call X mX5_field false d [.ref (ad 5 p), .int (nI 2)] (hp S) (.inl (some (.int (S.1 5 p 2))), hp (S), 0, 0) := by
  refine Call.of fX5_field (by decide) rfl (by simp [Value.category]) (Nat.le_of_ble_eq_true rfl) (lv := [some (.ref (ad 5 p)), some (.int (nI 2))]) rfl ?_
  refine x_iload_n dX5_field_0 rfl ?_
  refine x_tableIn (tgt := 46) (off := 45) dX5_field_1 (by decide) (by decide) (by decide) (by decide) ?_
  refine x_aload_n dX5_field_46 rfl ?_
  refine x_get dX5_field_47 fl_RX5_16 (hp_get (κ := 5) (by first | assumption | (show _ < _; simp only [cnt]; omega))) rfl ?_
  exact x_rI dX5_field_50 rfl rfl rfl rfl (by simp) (by simp)
set_option maxRecDepth 100000 in
set_option maxHeartbeats 4000000 in
theorem c_msgField_3 {X : XS} {d : Nat} {S : St} {p : Nat} (hp0 : p < 61) : Call X mX5_field false d [.ref (ad 5 p), .int (nI 3)] (hp S) (.inl (some (.int (S.1 5 p 3))), hp (S), 0, 0) := by
  refine Call.of fX5_field (by decide) rfl (by simp [Value.category]) (Nat.le_of_ble_eq_true rfl) (lv := [some (.ref (ad 5 p)), some (.int (nI 3))]) rfl ?_
  refine x_iload_n dX5_field_0 rfl ?_
  refine x_tableIn (tgt := 51) (off := 50) dX5_field_1 (by decide) (by decide) (by decide) (by decide) ?_
  refine x_aload_n dX5_field_51 rfl ?_
  refine x_get dX5_field_52 fl_RX5_19 (hp_get (κ := 5) (by first | assumption | (show _ < _; simp only [cnt]; omega))) rfl ?_
  exact x_rI dX5_field_55 rfl rfl rfl rfl (by simp) (by simp)
set_option maxRecDepth 100000 in
set_option maxHeartbeats 4000000 in
theorem c_msgField_4 {X : XS} {d : Nat} {S : St} {p : Nat} (hp0 : p < 61) : Call X mX5_field false d [.ref (ad 5 p), .int (nI 4)] (hp S) (.inl (some (.int (S.1 5 p 4))), hp (S), 0, 0) := by
  refine Call.of fX5_field (by decide) rfl (by simp [Value.category]) (Nat.le_of_ble_eq_true rfl) (lv := [some (.ref (ad 5 p)), some (.int (nI 4))]) rfl ?_
  refine x_iload_n dX5_field_0 rfl ?_
  refine x_tableIn (tgt := 56) (off := 55) dX5_field_1 (by decide) (by decide) (by decide) (by decide) ?_
  refine x_aload_n dX5_field_56 rfl ?_
  refine x_get dX5_field_57 fl_RX5_22 (hp_get (κ := 5) (by first | assumption | (show _ < _; simp only [cnt]; omega))) rfl ?_
  exact x_rI dX5_field_60 rfl rfl rfl rfl (by simp) (by simp)
set_option maxRecDepth 100000 in
set_option maxHeartbeats 4000000 in
theorem c_msgField_5 {X : XS} {d : Nat} {S : St} {p : Nat} (hp0 : p < 61) : Call X mX5_field false d [.ref (ad 5 p), .int (nI 5)] (hp S) (.inl (some (.int (S.1 5 p 5))), hp (S), 0, 0) := by
  refine Call.of fX5_field (by decide) rfl (by simp [Value.category]) (Nat.le_of_ble_eq_true rfl) (lv := [some (.ref (ad 5 p)), some (.int (nI 5))]) rfl ?_
  refine x_iload_n dX5_field_0 rfl ?_
  refine x_tableOut (tgt := 61) dX5_field_1 (by decide) (by decide) ?_
  refine x_aload_n dX5_field_61 rfl ?_
  refine x_get dX5_field_62 fl_RX5_25 (hp_get (κ := 5) (by first | assumption | (show _ < _; simp only [cnt]; omega))) rfl ?_
  exact x_rI dX5_field_65 rfl rfl rfl rfl (by simp) (by simp)
theorem c_msgField {X : XS} {d : Nat} {S : St} {p : Nat} (hp0 : p < 61) {j : Nat} (hj1 : 0 ≤ j) (hj2 : j < 6) : Call X mX5_field false d [.ref (ad 5 p), .int (nI j)] (hp S) (.inl (some (.int (S.1 5 p j))), hp (S), 0, 0) := by
  have hj : j = 0 ∨ j = 1 ∨ j = 2 ∨ j = 3 ∨ j = 4 ∨ j = 5 := by omega
  rcases hj with rfl | rfl | rfl | rfl | rfl | rfl <;> first | exact c_msgField_0 hp0 | exact c_msgField_1 hp0 | exact c_msgField_2 hp0 | exact c_msgField_3 hp0 | exact c_msgField_4 hp0 | exact c_msgField_5 hp0
def li_field (S : St) (i j : Nat) : Int32 := if j = 8 then S.1 3 i 0 else if j = 9 then bI (decide (¬ S.1 3 i 1 = 0)) else if j = 10 then S.1 3 i 2 else if j = 11 then S.1 3 i 5 else if j = 12 then S.1 3 i 6 else if j = 13 then S.1 3 i 7 else S.1 3 i 8
set_option maxRecDepth 100000 in
set_option maxHeartbeats 4000000 in
theorem c_liField_8 {X : XS} {d : Nat} {S : St} {i : Nat} (hi : i < 18) : Call X mX3_field false d [.ref (ad 3 i), .int (nI 8)] (hp S) (.inl (some (.int (li_field S i 8))), hp (S), 0, 0) := by
  refine Call.of fX3_field (by decide) rfl (by simp [Value.category]) (Nat.le_of_ble_eq_true rfl) (lv := [some (.ref (ad 3 i)), some (.int (nI 8))]) rfl ?_
  refine x_iload_n dX3_field_0 rfl ?_
  refine x_tableIn (tgt := 40) (off := 39) dX3_field_1 (by decide) (by decide) (by decide) (by decide) ?_
  refine x_aload_n dX3_field_40 rfl ?_
  refine x_get dX3_field_41 fl_RX3_15 (hp_get (κ := 3) (by first | assumption | (show _ < _; simp only [cnt]; omega))) rfl ?_
  exact x_rI dX3_field_44 rfl rfl (by simp [li_field, bI]) rfl (by simp) (by simp)
set_option maxRecDepth 100000 in
set_option maxHeartbeats 4000000 in
theorem c_liField_9 {X : XS} {d : Nat} {S : St} {i : Nat} (hi : i < 18) : Call X mX3_field false d [.ref (ad 3 i), .int (nI 9)] (hp S) (.inl (some (.int (li_field S i 9))), hp (S), 0, 0) := by
  refine Call.of fX3_field (by decide) rfl (by simp [Value.category]) (Nat.le_of_ble_eq_true rfl) (lv := [some (.ref (ad 3 i)), some (.int (nI 9))]) rfl ?_
  refine x_iload_n dX3_field_0 rfl ?_
  refine x_tableIn (tgt := 45) (off := 44) dX3_field_1 (by decide) (by decide) (by decide) (by decide) ?_
  refine x_aload_n dX3_field_45 rfl ?_
  refine x_get dX3_field_46 fl_RX3_19 (hp_get (κ := 3) (by first | assumption | (show _ < _; simp only [cnt]; omega))) rfl ?_
  refine x_if_eq (tgt := 56) dX3_field_49 (by decide) (fun hc49 => ?_) (fun hc49 => ?_)
  · refine x_iconst (v := 0) dX3_field_56 (by decide) ?_
    exact x_rI dX3_field_57 rfl rfl (by simp [li_field, bI, hc49]) rfl (by simp) (by simp)
  · refine x_iconst (v := 1) dX3_field_52 (by decide) ?_
    refine x_goto (tgt := 57) dX3_field_53 (by decide) ?_
    exact x_rI dX3_field_57 rfl rfl (by simp [li_field, bI, hc49]) rfl (by simp) (by simp)
set_option maxRecDepth 100000 in
set_option maxHeartbeats 4000000 in
theorem c_liField_10 {X : XS} {d : Nat} {S : St} {i : Nat} (hi : i < 18) : Call X mX3_field false d [.ref (ad 3 i), .int (nI 10)] (hp S) (.inl (some (.int (li_field S i 10))), hp (S), 0, 0) := by
  refine Call.of fX3_field (by decide) rfl (by simp [Value.category]) (Nat.le_of_ble_eq_true rfl) (lv := [some (.ref (ad 3 i)), some (.int (nI 10))]) rfl ?_
  refine x_iload_n dX3_field_0 rfl ?_
  refine x_tableIn (tgt := 58) (off := 57) dX3_field_1 (by decide) (by decide) (by decide) (by decide) ?_
  refine x_aload_n dX3_field_58 rfl ?_
  refine x_get dX3_field_59 fl_RX3_30 (hp_get (κ := 3) (by first | assumption | (show _ < _; simp only [cnt]; omega))) rfl ?_
  exact x_rI dX3_field_62 rfl rfl (by simp [li_field, bI]) rfl (by simp) (by simp)
set_option maxRecDepth 100000 in
set_option maxHeartbeats 4000000 in
theorem c_liField_11 {X : XS} {d : Nat} {S : St} {i : Nat} (hi : i < 18) : Call X mX3_field false d [.ref (ad 3 i), .int (nI 11)] (hp S) (.inl (some (.int (li_field S i 11))), hp (S), 0, 0) := by
  refine Call.of fX3_field (by decide) rfl (by simp [Value.category]) (Nat.le_of_ble_eq_true rfl) (lv := [some (.ref (ad 3 i)), some (.int (nI 11))]) rfl ?_
  refine x_iload_n dX3_field_0 rfl ?_
  refine x_tableIn (tgt := 63) (off := 62) dX3_field_1 (by decide) (by decide) (by decide) (by decide) ?_
  refine x_aload_n dX3_field_63 rfl ?_
  refine x_get dX3_field_64 fl_RX3_59 (hp_get (κ := 3) (by first | assumption | (show _ < _; simp only [cnt]; omega))) rfl ?_
  exact x_rI dX3_field_67 rfl rfl (by simp [li_field, bI]) rfl (by simp) (by simp)
set_option maxRecDepth 100000 in
set_option maxHeartbeats 4000000 in
theorem c_liField_12 {X : XS} {d : Nat} {S : St} {i : Nat} (hi : i < 18) : Call X mX3_field false d [.ref (ad 3 i), .int (nI 12)] (hp S) (.inl (some (.int (li_field S i 12))), hp (S), 0, 0) := by
  refine Call.of fX3_field (by decide) rfl (by simp [Value.category]) (Nat.le_of_ble_eq_true rfl) (lv := [some (.ref (ad 3 i)), some (.int (nI 12))]) rfl ?_
  refine x_iload_n dX3_field_0 rfl ?_
  refine x_tableIn (tgt := 68) (off := 67) dX3_field_1 (by decide) (by decide) (by decide) (by decide) ?_
  refine x_aload_n dX3_field_68 rfl ?_
  refine x_get dX3_field_69 fl_RX3_66 (hp_get (κ := 3) (by first | assumption | (show _ < _; simp only [cnt]; omega))) rfl ?_
  exact x_rI dX3_field_72 rfl rfl (by simp [li_field, bI]) rfl (by simp) (by simp)
set_option maxRecDepth 100000 in
set_option maxHeartbeats 4000000 in
theorem c_liField_13 {X : XS} {d : Nat} {S : St} {i : Nat} (hi : i < 18) : Call X mX3_field false d [.ref (ad 3 i), .int (nI 13)] (hp S) (.inl (some (.int (li_field S i 13))), hp (S), 0, 0) := by
  refine Call.of fX3_field (by decide) rfl (by simp [Value.category]) (Nat.le_of_ble_eq_true rfl) (lv := [some (.ref (ad 3 i)), some (.int (nI 13))]) rfl ?_
  refine x_iload_n dX3_field_0 rfl ?_
  refine x_tableIn (tgt := 73) (off := 72) dX3_field_1 (by decide) (by decide) (by decide) (by decide) ?_
  refine x_aload_n dX3_field_73 rfl ?_
  refine x_get dX3_field_74 fl_RX3_23 (hp_get (κ := 3) (by first | assumption | (show _ < _; simp only [cnt]; omega))) rfl ?_
  exact x_rI dX3_field_77 rfl rfl (by simp [li_field, bI]) rfl (by simp) (by simp)
set_option maxRecDepth 100000 in
set_option maxHeartbeats 4000000 in
theorem c_liField_14 {X : XS} {d : Nat} {S : St} {i : Nat} (hi : i < 18) : Call X mX3_field false d [.ref (ad 3 i), .int (nI 14)] (hp S) (.inl (some (.int (li_field S i 14))), hp (S), 0, 0) := by
  refine Call.of fX3_field (by decide) rfl (by simp [Value.category]) (Nat.le_of_ble_eq_true rfl) (lv := [some (.ref (ad 3 i)), some (.int (nI 14))]) rfl ?_
  refine x_iload_n dX3_field_0 rfl ?_
  refine x_tableOut (tgt := 78) dX3_field_1 (by decide) (by decide) ?_
  refine x_aload_n dX3_field_78 rfl ?_
  refine x_get dX3_field_79 fl_RX3_69 (hp_get (κ := 3) (by first | assumption | (show _ < _; simp only [cnt]; omega))) rfl ?_
  exact x_rI dX3_field_82 rfl rfl (by simp [li_field, bI]) rfl (by simp) (by simp)
theorem c_liField {X : XS} {d : Nat} {S : St} {i : Nat} (hi : i < 18) {j : Nat} (hj1 : 8 ≤ j) (hj2 : j < 15) : Call X mX3_field false d [.ref (ad 3 i), .int (nI j)] (hp S) (.inl (some (.int (li_field S i j))), hp (S), 0, 0) := by
  have hj : j = 8 ∨ j = 9 ∨ j = 10 ∨ j = 11 ∨ j = 12 ∨ j = 13 ∨ j = 14 := by omega
  rcases hj with rfl | rfl | rfl | rfl | rfl | rfl | rfl <;> first | exact c_liField_8 hi | exact c_liField_9 hi | exact c_liField_10 hi | exact c_liField_11 hi | exact c_liField_12 hi | exact c_liField_13 hi | exact c_liField_14 hi
def me_field (S : St) (i j : Nat) : Int32 := if j = 0 then bI (decide (¬ S.1 4 i 0 = 0)) else if j = 1 then S.1 4 i 1 else if j = 2 then S.1 4 i 2 else if j = 3 then S.1 4 i 3 else if j = 4 then S.1 4 i 5 else if j = 5 then S.1 4 i 6 else if j = 6 then S.1 4 i 7 else S.1 4 i 9
set_option maxRecDepth 100000 in
set_option maxHeartbeats 4000000 in
theorem c_meField_0 {X : XS} {d : Nat} {S : St} {i : Nat} (hi : i < 18) : Call X mX4_field false d [.ref (ad 4 i), .int (nI 0)] (hp S) (.inl (some (.int (me_field S i 0))), hp (S), 0, 0) := by
  refine Call.of fX4_field (by decide) rfl (by simp [Value.category]) (Nat.le_of_ble_eq_true rfl) (lv := [some (.ref (ad 4 i)), some (.int (nI 0))]) rfl ?_
  refine x_iload_n dX4_field_0 rfl ?_
  refine x_tableIn (tgt := 44) (off := 43) dX4_field_1 (by decide) (by decide) (by decide) (by decide) ?_
  refine x_aload_n dX4_field_44 rfl ?_
  refine x_get dX4_field_45 fl_RX4_25 (hp_get (κ := 4) (by first | assumption | (show _ < _; simp only [cnt]; omega))) rfl ?_
  refine x_if_eq (tgt := 55) dX4_field_48 (by decide) (fun hc48 => ?_) (fun hc48 => ?_)
  · refine x_iconst (v := 0) dX4_field_55 (by decide) ?_
    exact x_rI dX4_field_56 rfl rfl (by simp [me_field, bI, hc48]) rfl (by simp) (by simp)
  · refine x_iconst (v := 1) dX4_field_51 (by decide) ?_
    refine x_goto (tgt := 56) dX4_field_52 (by decide) ?_
    exact x_rI dX4_field_56 rfl rfl (by simp [me_field, bI, hc48]) rfl (by simp) (by simp)
set_option maxRecDepth 100000 in
set_option maxHeartbeats 4000000 in
theorem c_meField_1 {X : XS} {d : Nat} {S : St} {i : Nat} (hi : i < 18) : Call X mX4_field false d [.ref (ad 4 i), .int (nI 1)] (hp S) (.inl (some (.int (me_field S i 1))), hp (S), 0, 0) := by
  refine Call.of fX4_field (by decide) rfl (by simp [Value.category]) (Nat.le_of_ble_eq_true rfl) (lv := [some (.ref (ad 4 i)), some (.int (nI 1))]) rfl ?_
  refine x_iload_n dX4_field_0 rfl ?_
  refine x_tableIn (tgt := 57) (off := 56) dX4_field_1 (by decide) (by decide) (by decide) (by decide) ?_
  refine x_aload_n dX4_field_57 rfl ?_
  refine x_get dX4_field_58 fl_RX4_80 (hp_get (κ := 4) (by first | assumption | (show _ < _; simp only [cnt]; omega))) rfl ?_
  exact x_rI dX4_field_61 rfl rfl (by simp [me_field, bI]) rfl (by simp) (by simp)
set_option maxRecDepth 100000 in
set_option maxHeartbeats 4000000 in
theorem c_meField_2 {X : XS} {d : Nat} {S : St} {i : Nat} (hi : i < 18) : Call X mX4_field false d [.ref (ad 4 i), .int (nI 2)] (hp S) (.inl (some (.int (me_field S i 2))), hp (S), 0, 0) := by
  refine Call.of fX4_field (by decide) rfl (by simp [Value.category]) (Nat.le_of_ble_eq_true rfl) (lv := [some (.ref (ad 4 i)), some (.int (nI 2))]) rfl ?_
  refine x_iload_n dX4_field_0 rfl ?_
  refine x_tableIn (tgt := 62) (off := 61) dX4_field_1 (by decide) (by decide) (by decide) (by decide) ?_
  refine x_aload_n dX4_field_62 rfl ?_
  refine x_get dX4_field_63 fl_RX4_9 (hp_get (κ := 4) (by first | assumption | (show _ < _; simp only [cnt]; omega))) rfl ?_
  exact x_rI dX4_field_66 rfl rfl (by simp [me_field, bI]) rfl (by simp) (by simp)
set_option maxRecDepth 100000 in
set_option maxHeartbeats 4000000 in
theorem c_meField_3 {X : XS} {d : Nat} {S : St} {i : Nat} (hi : i < 18) : Call X mX4_field false d [.ref (ad 4 i), .int (nI 3)] (hp S) (.inl (some (.int (me_field S i 3))), hp (S), 0, 0) := by
  refine Call.of fX4_field (by decide) rfl (by simp [Value.category]) (Nat.le_of_ble_eq_true rfl) (lv := [some (.ref (ad 4 i)), some (.int (nI 3))]) rfl ?_
  refine x_iload_n dX4_field_0 rfl ?_
  refine x_tableIn (tgt := 67) (off := 66) dX4_field_1 (by decide) (by decide) (by decide) (by decide) ?_
  refine x_aload_n dX4_field_67 rfl ?_
  refine x_get dX4_field_68 fl_RX4_68 (hp_get (κ := 4) (by first | assumption | (show _ < _; simp only [cnt]; omega))) rfl ?_
  exact x_rI dX4_field_71 rfl rfl (by simp [me_field, bI]) rfl (by simp) (by simp)
set_option maxRecDepth 100000 in
set_option maxHeartbeats 4000000 in
theorem c_meField_4 {X : XS} {d : Nat} {S : St} {i : Nat} (hi : i < 18) : Call X mX4_field false d [.ref (ad 4 i), .int (nI 4)] (hp S) (.inl (some (.int (me_field S i 4))), hp (S), 0, 0) := by
  refine Call.of fX4_field (by decide) rfl (by simp [Value.category]) (Nat.le_of_ble_eq_true rfl) (lv := [some (.ref (ad 4 i)), some (.int (nI 4))]) rfl ?_
  refine x_iload_n dX4_field_0 rfl ?_
  refine x_tableIn (tgt := 72) (off := 71) dX4_field_1 (by decide) (by decide) (by decide) (by decide) ?_
  refine x_aload_n dX4_field_72 rfl ?_
  refine x_get dX4_field_73 fl_RX4_74 (hp_get (κ := 4) (by first | assumption | (show _ < _; simp only [cnt]; omega))) rfl ?_
  exact x_rI dX4_field_76 rfl rfl (by simp [me_field, bI]) rfl (by simp) (by simp)
set_option maxRecDepth 100000 in
set_option maxHeartbeats 4000000 in
theorem c_meField_5 {X : XS} {d : Nat} {S : St} {i : Nat} (hi : i < 18) : Call X mX4_field false d [.ref (ad 4 i), .int (nI 5)] (hp S) (.inl (some (.int (me_field S i 5))), hp (S), 0, 0) := by
  refine Call.of fX4_field (by decide) rfl (by simp [Value.category]) (Nat.le_of_ble_eq_true rfl) (lv := [some (.ref (ad 4 i)), some (.int (nI 5))]) rfl ?_
  refine x_iload_n dX4_field_0 rfl ?_
  refine x_tableIn (tgt := 77) (off := 76) dX4_field_1 (by decide) (by decide) (by decide) (by decide) ?_
  refine x_aload_n dX4_field_77 rfl ?_
  refine x_get dX4_field_78 fl_RX4_41 (hp_get (κ := 4) (by first | assumption | (show _ < _; simp only [cnt]; omega))) rfl ?_
  exact x_rI dX4_field_81 rfl rfl (by simp [me_field, bI]) rfl (by simp) (by simp)
set_option maxRecDepth 100000 in
set_option maxHeartbeats 4000000 in
theorem c_meField_6 {X : XS} {d : Nat} {S : St} {i : Nat} (hi : i < 18) : Call X mX4_field false d [.ref (ad 4 i), .int (nI 6)] (hp S) (.inl (some (.int (me_field S i 6))), hp (S), 0, 0) := by
  refine Call.of fX4_field (by decide) rfl (by simp [Value.category]) (Nat.le_of_ble_eq_true rfl) (lv := [some (.ref (ad 4 i)), some (.int (nI 6))]) rfl ?_
  refine x_iload_n dX4_field_0 rfl ?_
  refine x_tableIn (tgt := 82) (off := 81) dX4_field_1 (by decide) (by decide) (by decide) (by decide) ?_
  refine x_aload_n dX4_field_82 rfl ?_
  refine x_get dX4_field_83 fl_RX4_71 (hp_get (κ := 4) (by first | assumption | (show _ < _; simp only [cnt]; omega))) rfl ?_
  exact x_rI dX4_field_86 rfl rfl (by simp [me_field, bI]) rfl (by simp) (by simp)
set_option maxRecDepth 100000 in
set_option maxHeartbeats 4000000 in
theorem c_meField_7 {X : XS} {d : Nat} {S : St} {i : Nat} (hi : i < 18) : Call X mX4_field false d [.ref (ad 4 i), .int (nI 7)] (hp S) (.inl (some (.int (me_field S i 7))), hp (S), 0, 0) := by
  refine Call.of fX4_field (by decide) rfl (by simp [Value.category]) (Nat.le_of_ble_eq_true rfl) (lv := [some (.ref (ad 4 i)), some (.int (nI 7))]) rfl ?_
  refine x_iload_n dX4_field_0 rfl ?_
  refine x_tableOut (tgt := 87) dX4_field_1 (by decide) (by decide) ?_
  refine x_aload_n dX4_field_87 rfl ?_
  refine x_get dX4_field_88 fl_RX4_15 (hp_get (κ := 4) (by first | assumption | (show _ < _; simp only [cnt]; omega))) rfl ?_
  exact x_rI dX4_field_91 rfl rfl (by simp [me_field, bI]) rfl (by simp) (by simp)
theorem c_meField {X : XS} {d : Nat} {S : St} {i : Nat} (hi : i < 18) {j : Nat} (hj1 : 0 ≤ j) (hj2 : j < 8) : Call X mX4_field false d [.ref (ad 4 i), .int (nI j)] (hp S) (.inl (some (.int (me_field S i j))), hp (S), 0, 0) := by
  have hj : j = 0 ∨ j = 1 ∨ j = 2 ∨ j = 3 ∨ j = 4 ∨ j = 5 ∨ j = 6 ∨ j = 7 := by omega
  rcases hj with rfl | rfl | rfl | rfl | rfl | rfl | rfl | rfl <;> first | exact c_meField_0 hi | exact c_meField_1 hi | exact c_meField_2 hi | exact c_meField_3 hi | exact c_meField_4 hi | exact c_meField_5 hi | exact c_meField_6 hi | exact c_meField_7 hi
def fl_field (S : St) (g j : Nat) : Int32 := if j = 0 then S.1 1 g 6 else if j = 1 then S.1 1 g 7 else if j = 2 then S.1 1 g 5 else if j = 3 then bI (decide (¬ S.1 1 g 9 = -1)) else if j = 4 then S.1 1 g 8 else S.1 1 g 10
set_option maxRecDepth 100000 in
set_option maxHeartbeats 4000000 in
theorem c_flField_0 {X : XS} {d : Nat} {S : St} {g : Nat} (hg : g < 3) : Call X mX1_field false d [.ref (ad 1 g), .int (nI 0)] (hp S) (.inl (some (.int (fl_field S g 0))), hp (S), 0, 0) := by
  refine Call.of fX1_field (by decide) rfl (by simp [Value.category]) (Nat.le_of_ble_eq_true rfl) (lv := [some (.ref (ad 1 g)), some (.int (nI 0))]) rfl ?_
  refine x_iload_n dX1_field_0 rfl ?_
  refine x_tableIn (tgt := 36) (off := 35) dX1_field_1 (by decide) (by decide) (by decide) (by decide) ?_
  refine x_aload_n dX1_field_36 rfl ?_
  refine x_get dX1_field_37 fl_RX1_106 (hp_get (κ := 1) (by first | assumption | (show _ < _; simp only [cnt]; omega))) rfl ?_
  exact x_rI dX1_field_40 rfl rfl (by simp [fl_field, bI]) rfl (by simp) (by simp)
set_option maxRecDepth 100000 in
set_option maxHeartbeats 4000000 in
theorem c_flField_1 {X : XS} {d : Nat} {S : St} {g : Nat} (hg : g < 3) : Call X mX1_field false d [.ref (ad 1 g), .int (nI 1)] (hp S) (.inl (some (.int (fl_field S g 1))), hp (S), 0, 0) := by
  refine Call.of fX1_field (by decide) rfl (by simp [Value.category]) (Nat.le_of_ble_eq_true rfl) (lv := [some (.ref (ad 1 g)), some (.int (nI 1))]) rfl ?_
  refine x_iload_n dX1_field_0 rfl ?_
  refine x_tableIn (tgt := 41) (off := 40) dX1_field_1 (by decide) (by decide) (by decide) (by decide) ?_
  refine x_aload_n dX1_field_41 rfl ?_
  refine x_get dX1_field_42 fl_RX1_25 (hp_get (κ := 1) (by first | assumption | (show _ < _; simp only [cnt]; omega))) rfl ?_
  exact x_rI dX1_field_45 rfl rfl (by simp [fl_field, bI]) rfl (by simp) (by simp)
set_option maxRecDepth 100000 in
set_option maxHeartbeats 4000000 in
theorem c_flField_2 {X : XS} {d : Nat} {S : St} {g : Nat} (hg : g < 3) : Call X mX1_field false d [.ref (ad 1 g), .int (nI 2)] (hp S) (.inl (some (.int (fl_field S g 2))), hp (S), 0, 0) := by
  refine Call.of fX1_field (by decide) rfl (by simp [Value.category]) (Nat.le_of_ble_eq_true rfl) (lv := [some (.ref (ad 1 g)), some (.int (nI 2))]) rfl ?_
  refine x_iload_n dX1_field_0 rfl ?_
  refine x_tableIn (tgt := 46) (off := 45) dX1_field_1 (by decide) (by decide) (by decide) (by decide) ?_
  refine x_aload_n dX1_field_46 rfl ?_
  refine x_get dX1_field_47 fl_RX1_79 (hp_get (κ := 1) (by first | assumption | (show _ < _; simp only [cnt]; omega))) rfl ?_
  exact x_rI dX1_field_50 rfl rfl (by simp [fl_field, bI]) rfl (by simp) (by simp)
set_option maxRecDepth 100000 in
set_option maxHeartbeats 4000000 in
theorem c_flField_3 {X : XS} {d : Nat} {S : St} {g : Nat} (hg : g < 3) : Call X mX1_field false d [.ref (ad 1 g), .int (nI 3)] (hp S) (.inl (some (.int (fl_field S g 3))), hp (S), 0, 0) := by
  refine Call.of fX1_field (by decide) rfl (by simp [Value.category]) (Nat.le_of_ble_eq_true rfl) (lv := [some (.ref (ad 1 g)), some (.int (nI 3))]) rfl ?_
  refine x_iload_n dX1_field_0 rfl ?_
  refine x_tableIn (tgt := 51) (off := 50) dX1_field_1 (by decide) (by decide) (by decide) (by decide) ?_
  refine x_aload_n dX1_field_51 rfl ?_
  refine x_get dX1_field_52 fl_RX1_32 (hp_get (κ := 1) (by first | assumption | (show _ < _; simp only [cnt]; omega))) rfl ?_
  refine x_iconst (v := (-1)) dX1_field_55 (by decide) ?_
  refine x_icmp_eq (tgt := 63) dX1_field_56 (by decide) (fun hc56 => ?_) (fun hc56 => ?_)
  · refine x_iconst (v := 0) dX1_field_63 (by decide) ?_
    exact x_rI dX1_field_64 rfl rfl (by simp [fl_field, bI, hc56]) rfl (by simp) (by simp)
  · refine x_iconst (v := 1) dX1_field_59 (by decide) ?_
    refine x_goto (tgt := 64) dX1_field_60 (by decide) ?_
    exact x_rI dX1_field_64 rfl rfl (by simp [fl_field, bI, hc56]) rfl (by simp) (by simp)
set_option maxRecDepth 100000 in
set_option maxHeartbeats 4000000 in
theorem c_flField_4 {X : XS} {d : Nat} {S : St} {g : Nat} (hg : g < 3) : Call X mX1_field false d [.ref (ad 1 g), .int (nI 4)] (hp S) (.inl (some (.int (fl_field S g 4))), hp (S), 0, 0) := by
  refine Call.of fX1_field (by decide) rfl (by simp [Value.category]) (Nat.le_of_ble_eq_true rfl) (lv := [some (.ref (ad 1 g)), some (.int (nI 4))]) rfl ?_
  refine x_iload_n dX1_field_0 rfl ?_
  refine x_tableIn (tgt := 65) (off := 64) dX1_field_1 (by decide) (by decide) (by decide) (by decide) ?_
  refine x_aload_n dX1_field_65 rfl ?_
  refine x_get dX1_field_66 fl_RX1_29 (hp_get (κ := 1) (by first | assumption | (show _ < _; simp only [cnt]; omega))) rfl ?_
  exact x_rI dX1_field_69 rfl rfl (by simp [fl_field, bI]) rfl (by simp) (by simp)
set_option maxRecDepth 100000 in
set_option maxHeartbeats 4000000 in
theorem c_flField_5 {X : XS} {d : Nat} {S : St} {g : Nat} (hg : g < 3) : Call X mX1_field false d [.ref (ad 1 g), .int (nI 5)] (hp S) (.inl (some (.int (fl_field S g 5))), hp (S), 0, 0) := by
  refine Call.of fX1_field (by decide) rfl (by simp [Value.category]) (Nat.le_of_ble_eq_true rfl) (lv := [some (.ref (ad 1 g)), some (.int (nI 5))]) rfl ?_
  refine x_iload_n dX1_field_0 rfl ?_
  refine x_tableOut (tgt := 70) dX1_field_1 (by decide) (by decide) ?_
  refine x_aload_n dX1_field_70 rfl ?_
  refine x_get dX1_field_71 fl_RX1_35 (hp_get (κ := 1) (by first | assumption | (show _ < _; simp only [cnt]; omega))) rfl ?_
  exact x_rI dX1_field_74 rfl rfl (by simp [fl_field, bI]) rfl (by simp) (by simp)
theorem c_flField {X : XS} {d : Nat} {S : St} {g : Nat} (hg : g < 3) {j : Nat} (hj1 : 0 ≤ j) (hj2 : j < 6) : Call X mX1_field false d [.ref (ad 1 g), .int (nI j)] (hp S) (.inl (some (.int (fl_field S g j))), hp (S), 0, 0) := by
  have hj : j = 0 ∨ j = 1 ∨ j = 2 ∨ j = 3 ∨ j = 4 ∨ j = 5 := by omega
  rcases hj with rfl | rfl | rfl | rfl | rfl | rfl <;> first | exact c_flField_0 hg | exact c_flField_1 hg | exact c_flField_2 hg | exact c_flField_3 hg | exact c_flField_4 hg | exact c_flField_5 hg
set_option maxRecDepth 100000 in
set_option maxHeartbeats 4000000 in
theorem c_gtField_0 {X : XS} {d : Nat} {S : St} {g : Nat} (hg : g < 3) : Call X mX2_field false d [.ref (ad 2 g), .int (nI 0)] (hp S) (.inl (some (.int (S.1 2 g (0 + 2)))), hp (S), 0, 0) := by
  refine Call.of fX2_field (by decide) rfl (by simp [Value.category]) (Nat.le_of_ble_eq_true rfl) (lv := [some (.ref (ad 2 g)), some (.int (nI 0))]) rfl ?_
  refine x_iload_n dX2_field_0 rfl ?_
  refine x_tableIn (tgt := 28) (off := 27) dX2_field_1 (by decide) (by decide) (by decide) (by decide) ?_
  refine x_aload_n dX2_field_28 rfl ?_
  refine x_get dX2_field_29 fl_RX2_23 (hp_get (κ := 2) (by first | assumption | (show _ < _; simp only [cnt]; omega))) rfl ?_
  exact x_rI dX2_field_32 rfl rfl rfl rfl (by simp) (by simp)
set_option maxRecDepth 100000 in
set_option maxHeartbeats 4000000 in
theorem c_gtField_1 {X : XS} {d : Nat} {S : St} {g : Nat} (hg : g < 3) : Call X mX2_field false d [.ref (ad 2 g), .int (nI 1)] (hp S) (.inl (some (.int (S.1 2 g (1 + 2)))), hp (S), 0, 0) := by
  refine Call.of fX2_field (by decide) rfl (by simp [Value.category]) (Nat.le_of_ble_eq_true rfl) (lv := [some (.ref (ad 2 g)), some (.int (nI 1))]) rfl ?_
  refine x_iload_n dX2_field_0 rfl ?_
  refine x_tableIn (tgt := 33) (off := 32) dX2_field_1 (by decide) (by decide) (by decide) (by decide) ?_
  refine x_aload_n dX2_field_33 rfl ?_
  refine x_get dX2_field_34 fl_RX2_9 (hp_get (κ := 2) (by first | assumption | (show _ < _; simp only [cnt]; omega))) rfl ?_
  exact x_rI dX2_field_37 rfl rfl rfl rfl (by simp) (by simp)
set_option maxRecDepth 100000 in
set_option maxHeartbeats 4000000 in
theorem c_gtField_2 {X : XS} {d : Nat} {S : St} {g : Nat} (hg : g < 3) : Call X mX2_field false d [.ref (ad 2 g), .int (nI 2)] (hp S) (.inl (some (.int (S.1 2 g (2 + 2)))), hp (S), 0, 0) := by
  refine Call.of fX2_field (by decide) rfl (by simp [Value.category]) (Nat.le_of_ble_eq_true rfl) (lv := [some (.ref (ad 2 g)), some (.int (nI 2))]) rfl ?_
  refine x_iload_n dX2_field_0 rfl ?_
  refine x_tableIn (tgt := 38) (off := 37) dX2_field_1 (by decide) (by decide) (by decide) (by decide) ?_
  refine x_aload_n dX2_field_38 rfl ?_
  refine x_get dX2_field_39 fl_RX2_37 (hp_get (κ := 2) (by first | assumption | (show _ < _; simp only [cnt]; omega))) rfl ?_
  exact x_rI dX2_field_42 rfl rfl rfl rfl (by simp) (by simp)
set_option maxRecDepth 100000 in
set_option maxHeartbeats 4000000 in
theorem c_gtField_3 {X : XS} {d : Nat} {S : St} {g : Nat} (hg : g < 3) : Call X mX2_field false d [.ref (ad 2 g), .int (nI 3)] (hp S) (.inl (some (.int (S.1 2 g (3 + 2)))), hp (S), 0, 0) := by
  refine Call.of fX2_field (by decide) rfl (by simp [Value.category]) (Nat.le_of_ble_eq_true rfl) (lv := [some (.ref (ad 2 g)), some (.int (nI 3))]) rfl ?_
  refine x_iload_n dX2_field_0 rfl ?_
  refine x_tableOut (tgt := 43) dX2_field_1 (by decide) (by decide) ?_
  refine x_aload_n dX2_field_43 rfl ?_
  refine x_get dX2_field_44 fl_RX2_34 (hp_get (κ := 2) (by first | assumption | (show _ < _; simp only [cnt]; omega))) rfl ?_
  exact x_rI dX2_field_47 rfl rfl rfl rfl (by simp) (by simp)
theorem c_gtField {X : XS} {d : Nat} {S : St} {g : Nat} (hg : g < 3) {j : Nat} (hj1 : 0 ≤ j) (hj2 : j < 4) : Call X mX2_field false d [.ref (ad 2 g), .int (nI j)] (hp S) (.inl (some (.int (S.1 2 g (j + 2)))), hp (S), 0, 0) := by
  have hj : j = 0 ∨ j = 1 ∨ j = 2 ∨ j = 3 := by omega
  rcases hj with rfl | rfl | rfl | rfl <;> first | exact c_gtField_0 hg | exact c_gtField_1 hg | exact c_gtField_2 hg | exact c_gtField_3 hg
def me_asks (S : St) (i : Nat) : Bool := decide (S.1 4 i 2 = 1 ∨ S.1 4 i 2 = 2)
def me_talks (S : St) (i : Nat) : Bool := decide (S.1 4 i 2 = 3 ∨ S.1 4 i 2 = 4)
set_option maxRecDepth 100000 in
set_option maxHeartbeats 4000000 in
theorem c_isAsking {X : XS} {d : Nat} {S : St} {i : Nat} (hi : i < 18) : Call X mX4_isAsking false d [.ref (ad 4 i)] (hp S) (.inl (some (.int (bI (me_asks S i)))), hp (S), 0, 0) := by
  refine Call.of fX4_isAsking (by decide) rfl (by simp [Value.category]) (Nat.le_of_ble_eq_true rfl) (lv := [some (.ref (ad 4 i))]) rfl ?_
  refine x_aload_n dX4_isAsking_0 rfl ?_
  refine x_get dX4_isAsking_1 fl_RX4_9 (hp_get (κ := 4) (by first | assumption | (show _ < _; simp only [cnt]; omega))) rfl ?_
  refine x_iconst (v := 1) dX4_isAsking_4 (by decide) ?_
  refine x_icmp_eq (tgt := 16) dX4_isAsking_5 (by decide) (fun hc5 => ?_) (fun hc5 => ?_)
  · refine x_iconst (v := 1) dX4_isAsking_16 (by decide) ?_
    refine x_goto (tgt := 21) dX4_isAsking_17 (by decide) ?_
    exact x_rI dX4_isAsking_21 rfl (by first | exact (bI_nf _).1 | decide) (by first | (simp [me_asks, bI, hc5]; done) | (exfalso; simp_all; done)) rfl (by simp) (by simp)
  · refine x_aload_n dX4_isAsking_8 rfl ?_
    refine x_get dX4_isAsking_9 fl_RX4_9 (hp_get (κ := 4) (by first | assumption | (show _ < _; simp only [cnt]; omega))) rfl ?_
    refine x_iconst (v := 2) dX4_isAsking_12 (by decide) ?_
    refine x_icmp_ne (tgt := 20) dX4_isAsking_13 (by decide) (fun hc13 => ?_) (fun hc13 => ?_)
    · refine x_iconst (v := 0) dX4_isAsking_20 (by decide) ?_
      exact x_rI dX4_isAsking_21 rfl (by first | exact (bI_nf _).1 | decide) (by first | (simp [me_asks, bI, hc5, hc13]; done) | (exfalso; simp_all; done)) rfl (by simp) (by simp)
    · refine x_iconst (v := 1) dX4_isAsking_16 (by decide) ?_
      refine x_goto (tgt := 21) dX4_isAsking_17 (by decide) ?_
      exact x_rI dX4_isAsking_21 rfl (by first | exact (bI_nf _).1 | decide) (by first | (simp [me_asks, bI, hc5, hc13]; done) | (exfalso; simp_all; done)) rfl (by simp) (by simp)
set_option maxRecDepth 100000 in
set_option maxHeartbeats 4000000 in
theorem c_isTalking {X : XS} {d : Nat} {S : St} {i : Nat} (hi : i < 18) : Call X mX4_isTalking false d [.ref (ad 4 i)] (hp S) (.inl (some (.int (bI (me_talks S i)))), hp (S), 0, 0) := by
  refine Call.of fX4_isTalking (by decide) rfl (by simp [Value.category]) (Nat.le_of_ble_eq_true rfl) (lv := [some (.ref (ad 4 i))]) rfl ?_
  refine x_aload_n dX4_isTalking_0 rfl ?_
  refine x_get dX4_isTalking_1 fl_RX4_9 (hp_get (κ := 4) (by first | assumption | (show _ < _; simp only [cnt]; omega))) rfl ?_
  refine x_iconst (v := 3) dX4_isTalking_4 (by decide) ?_
  refine x_icmp_eq (tgt := 16) dX4_isTalking_5 (by decide) (fun hc5 => ?_) (fun hc5 => ?_)
  · refine x_iconst (v := 1) dX4_isTalking_16 (by decide) ?_
    refine x_goto (tgt := 21) dX4_isTalking_17 (by decide) ?_
    exact x_rI dX4_isTalking_21 rfl (by first | exact (bI_nf _).1 | decide) (by first | (simp [me_talks, bI, hc5]; done) | (exfalso; simp_all; done)) rfl (by simp) (by simp)
  · refine x_aload_n dX4_isTalking_8 rfl ?_
    refine x_get dX4_isTalking_9 fl_RX4_9 (hp_get (κ := 4) (by first | assumption | (show _ < _; simp only [cnt]; omega))) rfl ?_
    refine x_iconst (v := 4) dX4_isTalking_12 (by decide) ?_
    refine x_icmp_ne (tgt := 20) dX4_isTalking_13 (by decide) (fun hc13 => ?_) (fun hc13 => ?_)
    · refine x_iconst (v := 0) dX4_isTalking_20 (by decide) ?_
      exact x_rI dX4_isTalking_21 rfl (by first | exact (bI_nf _).1 | decide) (by first | (simp [me_talks, bI, hc5, hc13]; done) | (exfalso; simp_all; done)) rfl (by simp) (by simp)
    · refine x_iconst (v := 1) dX4_isTalking_16 (by decide) ?_
      refine x_goto (tgt := 21) dX4_isTalking_17 (by decide) ?_
      exact x_rI dX4_isTalking_21 rfl (by first | exact (bI_nf _).1 | decide) (by first | (simp [me_talks, bI, hc5, hc13]; done) | (exfalso; simp_all; done)) rfl (by simp) (by simp)
def me_away (S : St) (i : Nat) : St := sc (sc (sc S 4 i 0 0) 4 i 2 0) 3 i 1 0
set_option maxRecDepth 100000 in
set_option maxHeartbeats 4000000 in
theorem c_goAway {X : XS} {d : Nat} {S : St} {i : Nat} (hi : i < 18) : Call X mX4_goAway false d [.ref (ad 4 i)] (hp S) (.inl none, hp (me_away S i), 0, 0) := by
  refine Call.of fX4_goAway (by decide) rfl (by simp [Value.category]) (Nat.le_of_ble_eq_true rfl) (lv := [some (.ref (ad 4 i))]) rfl ?_
  refine x_aload_n dX4_goAway_0 rfl ?_
  refine x_iconst (v := 0) dX4_goAway_1 (by decide) ?_
  refine x_putC dX4_goAway_2 fp_RX4_25 (by first | assumption | (show _ < _; simp only [cnt]; omega)) pb_4_0 (by first | exact bI_nf _ | decide) ?_
  refine x_aload_n dX4_goAway_5 rfl ?_
  refine x_iconst (v := 0) dX4_goAway_6 (by decide) ?_
  refine x_putC dX4_goAway_7 fp_RX4_9 (by first | assumption | (show _ < _; simp only [cnt]; omega)) pb_4_2 ⟨rfl, rfl⟩ ?_
  refine x_aload_n dX4_goAway_10 rfl ?_
  refine x_get dX4_goAway_11 fl_RX4_21 (hp_get (κ := 4) (by first | assumption | (show _ < _; simp only [cnt]; omega))) rfl ?_
  refine x_iconst (v := 0) dX4_goAway_14 (by decide) ?_
  refine x_putC dX4_goAway_15 fp_RX4_29 (by first | assumption | (show _ < _; simp only [cnt]; omega)) pb_3_1 (by first | exact bI_nf _ | decide) ?_
  exact x_rV dX4_goAway_18 rfl rfl rfl (by simp) (by simp)
def me_ans (S : St) (i p : Nat) : St := if me_asks S i = false then S else if S.1 5 p 3 = S.1 4 i 3 then (if S.1 5 p 0 = 3 then sc (sc (sc S 4 i 2 3) 4 i 6 (S.1 5 p 4)) 4 i 7 0 else if S.1 5 p 0 = 4 then sc (sc S 4 i 2 2) 4 i 5 (S.1 5 p 4) else sc S 4 i 2 0) else S
def me_talk (S : St) (i : Nat) (a b : Int32) : St := if a < S.1 4 i 8 then S else sc (sc S 4 i 8 a) 4 i 9 b
set_option maxRecDepth 100000 in
set_option maxHeartbeats 4000000 in
theorem c_hearAnswer {X : XS} {d : Nat} {S : St} {i p : Nat} (hi : i < 18) (hp0 : p < 61) : Call X mX4_hearAnswer false (d + 1) [.ref (ad 4 i), .ref (ad 5 p)] (hp S) (.inl none, hp (me_ans S i p), 0, 0) := by
  refine Call.of fX4_hearAnswer (by decide) rfl (by simp [Value.category]) (Nat.le_of_ble_eq_true rfl) (lv := [some (.ref (ad 4 i)), some (.ref (ad 5 p))]) rfl ?_
  refine x_aload_n dX4_hearAnswer_0 rfl ?_
  refine x_cV (as := []) dX4_hearAnswer_1 fX4_isAsking rfl lk_RX4_65 rfl (hp_get (κ := 4) (by first | assumption | (show _ < _; simp only [cnt]; omega))) rfl rfl (Nat.le_of_ble_eq_true rfl) (c_isAsking hi) (by simp) (by simp) ?_
  refine x_if_eqB (tgt := 18) dX4_hearAnswer_4 (by decide) (fun hc4 => ?_) (fun hc4 => ?_)
  · exact x_rV dX4_hearAnswer_18 rfl rfl (by first | (simp [me_ans, sc_get, hc4]; done) | (exfalso; simp_all; done)) (by simp) (by simp)
  · refine x_aload_n dX4_hearAnswer_7 rfl ?_
    refine x_get dX4_hearAnswer_8 fl_RX4_44 (hp_get (κ := 5) (by first | assumption | (show _ < _; simp only [cnt]; omega))) rfl ?_
    refine x_aload_n dX4_hearAnswer_11 rfl ?_
    refine x_get dX4_hearAnswer_12 fl_RX4_68 (hp_get (κ := 4) (by first | assumption | (show _ < _; simp only [cnt]; omega))) rfl ?_
    refine x_icmp_eq (tgt := 19) dX4_hearAnswer_15 (by decide) (fun hc15 => ?_) (fun hc15 => ?_)
    · refine x_aload_n dX4_hearAnswer_19 rfl ?_
      refine x_get dX4_hearAnswer_20 fl_RX4_32 (hp_get (κ := 5) (by first | assumption | (show _ < _; simp only [cnt]; omega))) rfl ?_
      refine x_iconst (v := 3) dX4_hearAnswer_23 (by decide) ?_
      refine x_icmp_ne (tgt := 48) dX4_hearAnswer_24 (by decide) (fun hc24 => ?_) (fun hc24 => ?_)
      · refine x_aload_n dX4_hearAnswer_48 rfl ?_
        refine x_get dX4_hearAnswer_49 fl_RX4_32 (hp_get (κ := 5) (by first | assumption | (show _ < _; simp only [cnt]; omega))) rfl ?_
        refine x_iconst (v := 4) dX4_hearAnswer_52 (by decide) ?_
        refine x_icmp_ne (tgt := 72) dX4_hearAnswer_53 (by decide) (fun hc53 => ?_) (fun hc53 => ?_)
        · refine x_aload_n dX4_hearAnswer_72 rfl ?_
          refine x_iconst (v := 0) dX4_hearAnswer_73 (by decide) ?_
          refine x_putC dX4_hearAnswer_74 fp_RX4_9 (by first | assumption | (show _ < _; simp only [cnt]; omega)) pb_4_2 ⟨rfl, rfl⟩ ?_
          exact x_rV dX4_hearAnswer_77 rfl rfl (by first | (simp [me_ans, sc_get, hc4, hc15, hc24, hc53]; done) | (exfalso; simp_all; done)) (by simp) (by simp)
        · refine x_aload_n dX4_hearAnswer_56 rfl ?_
          refine x_iconst (v := 2) dX4_hearAnswer_57 (by decide) ?_
          refine x_putC dX4_hearAnswer_58 fp_RX4_9 (by first | assumption | (show _ < _; simp only [cnt]; omega)) pb_4_2 ⟨rfl, rfl⟩ ?_
          refine x_aload_n dX4_hearAnswer_61 rfl ?_
          refine x_aload_n dX4_hearAnswer_62 rfl ?_
          refine x_get dX4_hearAnswer_63 fl_RX4_51 (hp_get (κ := 5) (by first | assumption | (show _ < _; simp only [cnt]; omega))) rfl ?_
          refine x_putC dX4_hearAnswer_66 fp_RX4_74 (by first | assumption | (show _ < _; simp only [cnt]; omega)) pb_4_5 ⟨rfl, rfl⟩ ?_
          refine x_goto (tgt := 77) dX4_hearAnswer_69 (by decide) ?_
          exact x_rV dX4_hearAnswer_77 rfl rfl (by first | (simp [me_ans, sc_get, hc4, hc15, hc24, hc53]; done) | (exfalso; simp_all; done)) (by simp) (by simp)
      · refine x_aload_n dX4_hearAnswer_27 rfl ?_
        refine x_iconst (v := 3) dX4_hearAnswer_28 (by decide) ?_
        refine x_putC dX4_hearAnswer_29 fp_RX4_9 (by first | assumption | (show _ < _; simp only [cnt]; omega)) pb_4_2 ⟨rfl, rfl⟩ ?_
        refine x_aload_n dX4_hearAnswer_32 rfl ?_
        refine x_aload_n dX4_hearAnswer_33 rfl ?_
        refine x_get dX4_hearAnswer_34 fl_RX4_51 (hp_get (κ := 5) (by first | assumption | (show _ < _; simp only [cnt]; omega))) rfl ?_
        refine x_putC dX4_hearAnswer_37 fp_RX4_41 (by first | assumption | (show _ < _; simp only [cnt]; omega)) pb_4_6 ⟨rfl, rfl⟩ ?_
        refine x_aload_n dX4_hearAnswer_40 rfl ?_
        refine x_iconst (v := 0) dX4_hearAnswer_41 (by decide) ?_
        refine x_putC dX4_hearAnswer_42 fp_RX4_71 (by first | assumption | (show _ < _; simp only [cnt]; omega)) pb_4_7 ⟨rfl, rfl⟩ ?_
        refine x_goto (tgt := 77) dX4_hearAnswer_45 (by decide) ?_
        exact x_rV dX4_hearAnswer_77 rfl rfl (by first | (simp [me_ans, sc_get, hc4, hc15, hc24]; done) | (exfalso; simp_all; done)) (by simp) (by simp)
    · exact x_rV dX4_hearAnswer_18 rfl rfl (by first | (simp [me_ans, sc_get, hc4, hc15]; done) | (exfalso; simp_all; done)) (by simp) (by simp)
set_option maxRecDepth 100000 in
set_option maxHeartbeats 4000000 in
theorem c_hearTalker {X : XS} {d : Nat} {S : St} {i : Nat} (hi : i < 18) (a b : Int32) : Call X mX4_hearTalker false d [.ref (ad 4 i), .int a, .int b] (hp S) (.inl none, hp (me_talk S i a b), 0, 0) := by
  refine Call.of fX4_hearTalker (by decide) rfl (by simp [Value.category]) (Nat.le_of_ble_eq_true rfl) (lv := [some (.ref (ad 4 i)), some (.int a), some (.int b)]) rfl ?_
  refine x_iload_n dX4_hearTalker_0 rfl ?_
  refine x_aload_n dX4_hearTalker_1 rfl ?_
  refine x_get dX4_hearTalker_2 fl_RX4_77 (hp_get (κ := 4) (by first | assumption | (show _ < _; simp only [cnt]; omega))) rfl ?_
  refine x_icmp_lt (tgt := 18) dX4_hearTalker_5 (by decide) (fun hc5 => ?_) (fun hc5 => ?_)
  · exact x_rV dX4_hearTalker_18 rfl rfl (by first | (simp [me_talk, hc5]; done) | (exfalso; simp_all; done)) (by simp) (by simp)
  · refine x_aload_n dX4_hearTalker_8 rfl ?_
    refine x_iload_n dX4_hearTalker_9 rfl ?_
    refine x_putC dX4_hearTalker_10 fp_RX4_77 (by first | assumption | (show _ < _; simp only [cnt]; omega)) pb_4_8 ⟨rfl, rfl⟩ ?_
    refine x_aload_n dX4_hearTalker_13 rfl ?_
    refine x_iload_n dX4_hearTalker_14 rfl ?_
    refine x_putC dX4_hearTalker_15 fp_RX4_15 (by first | assumption | (show _ < _; simp only [cnt]; omega)) pb_4_9 ⟨rfl, rfl⟩ ?_
    exact x_rV dX4_hearTalker_18 rfl rfl (by first | (simp [me_talk, hc5]; done) | (exfalso; simp_all; done)) (by simp) (by simp)
def me_hear (S : St) (i p : Nat) (t : Int32) : St := if S.1 4 i 0 = 0 then S else if S.1 5 p 0 = 3 ∨ S.1 5 p 0 = 4 ∨ S.1 5 p 0 = 5 then me_ans S i p else if S.1 5 p 0 = 6 then (if S.1 4 i 2 = 3 ∧ S.1 4 i 6 = S.1 5 p 3 then sc S 4 i 2 4 else S) else if S.1 5 p 0 = 7 then (if me_talks S i = true ∧ S.1 4 i 6 = S.1 5 p 3 then sc S 4 i 2 0 else S) else if S.1 5 p 0 = 8 then me_talk S i (S.1 5 p 3) (S.1 5 p 4) else li_hear S i (S.1 5 p 3) (S.1 5 p 4) (S.1 5 p 5) t
set_option maxRecDepth 100000 in
set_option maxHeartbeats 4000000 in
theorem c_meHear_3 {X : XS} {d : Nat} {S : St} {i p : Nat} (hi : i < 18) (hp0 : p < 61) (hk : S.1 5 p 0 = nI 3) (t : Int32) : Call X mX4_hear false (d + 4) [.ref (ad 4 i), .ref (ad 5 p), .int t] (hp S) (.inl none, hp (me_hear S i p t), 0, 0) := by
  refine Call.of fX4_hear (by decide) rfl (by simp [Value.category]) (Nat.le_of_ble_eq_true rfl) (lv := [some (.ref (ad 4 i)), some (.ref (ad 5 p)), some (.int t)]) rfl ?_
  refine x_aload_n dX4_hear_0 rfl ?_
  refine x_get dX4_hear_1 fl_RX4_25 (hp_get (κ := 4) (by first | assumption | (show _ < _; simp only [cnt]; omega))) rfl ?_
  refine x_if_ne (tgt := 8) dX4_hear_4 (by decide) (fun hc4 => ?_) (fun hc4 => ?_)
  · refine x_aload_n dX4_hear_8 rfl ?_
    refine x_get dX4_hear_9 fl_RX4_32 (hp_get (κ := 5) (by first | assumption | (show _ < _; simp only [cnt]; omega))) rfl ?_
    refine x_eqi hk ?_
    refine x_tableIn (tgt := 52) (off := 40) dX4_hear_12 (by decide) (by decide) (by decide) (by decide) ?_
    refine x_aload_n dX4_hear_52 rfl ?_
    refine x_aload_n dX4_hear_53 rfl ?_
    refine x_cVv (as := [_]) dX4_hear_54 fX4_hearAnswer rfl lk_RX4_37 rfl (hp_get (κ := 4) (by first | assumption | (show _ < _; simp only [cnt]; omega))) rfl rfl (Nat.le_of_ble_eq_true rfl) (c_hearAnswer hi hp0) (by simp) (by simp) ?_
    refine x_goto (tgt := 148) dX4_hear_57 (by decide) ?_
    exact x_rV dX4_hear_148 rfl rfl (by first | (simp [me_hear, hk, nI, hc4]; done) | (exfalso; simp_all; done)) (by simp) (by simp)
  · exact x_rV dX4_hear_7 rfl rfl (by first | (simp [me_hear, hk, nI, hc4]; done) | (exfalso; simp_all; done)) (by simp) (by simp)
set_option maxRecDepth 100000 in
set_option maxHeartbeats 4000000 in
theorem c_meHear_4 {X : XS} {d : Nat} {S : St} {i p : Nat} (hi : i < 18) (hp0 : p < 61) (hk : S.1 5 p 0 = nI 4) (t : Int32) : Call X mX4_hear false (d + 4) [.ref (ad 4 i), .ref (ad 5 p), .int t] (hp S) (.inl none, hp (me_hear S i p t), 0, 0) := by
  refine Call.of fX4_hear (by decide) rfl (by simp [Value.category]) (Nat.le_of_ble_eq_true rfl) (lv := [some (.ref (ad 4 i)), some (.ref (ad 5 p)), some (.int t)]) rfl ?_
  refine x_aload_n dX4_hear_0 rfl ?_
  refine x_get dX4_hear_1 fl_RX4_25 (hp_get (κ := 4) (by first | assumption | (show _ < _; simp only [cnt]; omega))) rfl ?_
  refine x_if_ne (tgt := 8) dX4_hear_4 (by decide) (fun hc4 => ?_) (fun hc4 => ?_)
  · refine x_aload_n dX4_hear_8 rfl ?_
    refine x_get dX4_hear_9 fl_RX4_32 (hp_get (κ := 5) (by first | assumption | (show _ < _; simp only [cnt]; omega))) rfl ?_
    refine x_eqi hk ?_
    refine x_tableIn (tgt := 52) (off := 40) dX4_hear_12 (by decide) (by decide) (by decide) (by decide) ?_
    refine x_aload_n dX4_hear_52 rfl ?_
    refine x_aload_n dX4_hear_53 rfl ?_
    refine x_cVv (as := [_]) dX4_hear_54 fX4_hearAnswer rfl lk_RX4_37 rfl (hp_get (κ := 4) (by first | assumption | (show _ < _; simp only [cnt]; omega))) rfl rfl (Nat.le_of_ble_eq_true rfl) (c_hearAnswer hi hp0) (by simp) (by simp) ?_
    refine x_goto (tgt := 148) dX4_hear_57 (by decide) ?_
    exact x_rV dX4_hear_148 rfl rfl (by first | (simp [me_hear, hk, nI, hc4]; done) | (exfalso; simp_all; done)) (by simp) (by simp)
  · exact x_rV dX4_hear_7 rfl rfl (by first | (simp [me_hear, hk, nI, hc4]; done) | (exfalso; simp_all; done)) (by simp) (by simp)
set_option maxRecDepth 100000 in
set_option maxHeartbeats 4000000 in
theorem c_meHear_5 {X : XS} {d : Nat} {S : St} {i p : Nat} (hi : i < 18) (hp0 : p < 61) (hk : S.1 5 p 0 = nI 5) (t : Int32) : Call X mX4_hear false (d + 4) [.ref (ad 4 i), .ref (ad 5 p), .int t] (hp S) (.inl none, hp (me_hear S i p t), 0, 0) := by
  refine Call.of fX4_hear (by decide) rfl (by simp [Value.category]) (Nat.le_of_ble_eq_true rfl) (lv := [some (.ref (ad 4 i)), some (.ref (ad 5 p)), some (.int t)]) rfl ?_
  refine x_aload_n dX4_hear_0 rfl ?_
  refine x_get dX4_hear_1 fl_RX4_25 (hp_get (κ := 4) (by first | assumption | (show _ < _; simp only [cnt]; omega))) rfl ?_
  refine x_if_ne (tgt := 8) dX4_hear_4 (by decide) (fun hc4 => ?_) (fun hc4 => ?_)
  · refine x_aload_n dX4_hear_8 rfl ?_
    refine x_get dX4_hear_9 fl_RX4_32 (hp_get (κ := 5) (by first | assumption | (show _ < _; simp only [cnt]; omega))) rfl ?_
    refine x_eqi hk ?_
    refine x_tableIn (tgt := 52) (off := 40) dX4_hear_12 (by decide) (by decide) (by decide) (by decide) ?_
    refine x_aload_n dX4_hear_52 rfl ?_
    refine x_aload_n dX4_hear_53 rfl ?_
    refine x_cVv (as := [_]) dX4_hear_54 fX4_hearAnswer rfl lk_RX4_37 rfl (hp_get (κ := 4) (by first | assumption | (show _ < _; simp only [cnt]; omega))) rfl rfl (Nat.le_of_ble_eq_true rfl) (c_hearAnswer hi hp0) (by simp) (by simp) ?_
    refine x_goto (tgt := 148) dX4_hear_57 (by decide) ?_
    exact x_rV dX4_hear_148 rfl rfl (by first | (simp [me_hear, hk, nI, hc4]; done) | (exfalso; simp_all; done)) (by simp) (by simp)
  · exact x_rV dX4_hear_7 rfl rfl (by first | (simp [me_hear, hk, nI, hc4]; done) | (exfalso; simp_all; done)) (by simp) (by simp)
set_option maxRecDepth 100000 in
set_option maxHeartbeats 4000000 in
theorem c_meHear_6 {X : XS} {d : Nat} {S : St} {i p : Nat} (hi : i < 18) (hp0 : p < 61) (hk : S.1 5 p 0 = nI 6) (t : Int32) : Call X mX4_hear false (d + 4) [.ref (ad 4 i), .ref (ad 5 p), .int t] (hp S) (.inl none, hp (me_hear S i p t), 0, 0) := by
  refine Call.of fX4_hear (by decide) rfl (by simp [Value.category]) (Nat.le_of_ble_eq_true rfl) (lv := [some (.ref (ad 4 i)), some (.ref (ad 5 p)), some (.int t)]) rfl ?_
  refine x_aload_n dX4_hear_0 rfl ?_
  refine x_get dX4_hear_1 fl_RX4_25 (hp_get (κ := 4) (by first | assumption | (show _ < _; simp only [cnt]; omega))) rfl ?_
  refine x_if_ne (tgt := 8) dX4_hear_4 (by decide) (fun hc4 => ?_) (fun hc4 => ?_)
  · refine x_aload_n dX4_hear_8 rfl ?_
    refine x_get dX4_hear_9 fl_RX4_32 (hp_get (κ := 5) (by first | assumption | (show _ < _; simp only [cnt]; omega))) rfl ?_
    refine x_eqi hk ?_
    refine x_tableIn (tgt := 60) (off := 48) dX4_hear_12 (by decide) (by decide) (by decide) (by decide) ?_
    refine x_aload_n dX4_hear_60 rfl ?_
    refine x_get dX4_hear_61 fl_RX4_9 (hp_get (κ := 4) (by first | assumption | (show _ < _; simp only [cnt]; omega))) rfl ?_
    refine x_iconst (v := 3) dX4_hear_64 (by decide) ?_
    refine x_icmp_ne (tgt := 148) dX4_hear_65 (by decide) (fun hc65 => ?_) (fun hc65 => ?_)
    · exact x_rV dX4_hear_148 rfl rfl (by first | (simp [me_hear, hk, nI, hc4, hc65]; done) | (exfalso; simp_all; done)) (by simp) (by simp)
    · refine x_aload_n dX4_hear_68 rfl ?_
      refine x_get dX4_hear_69 fl_RX4_41 (hp_get (κ := 4) (by first | assumption | (show _ < _; simp only [cnt]; omega))) rfl ?_
      refine x_aload_n dX4_hear_72 rfl ?_
      refine x_get dX4_hear_73 fl_RX4_44 (hp_get (κ := 5) (by first | assumption | (show _ < _; simp only [cnt]; omega))) rfl ?_
      refine x_icmp_ne (tgt := 148) dX4_hear_76 (by decide) (fun hc76 => ?_) (fun hc76 => ?_)
      · exact x_rV dX4_hear_148 rfl rfl (by first | (simp [me_hear, hk, nI, hc4, hc65, hc76]; done) | (exfalso; simp_all; done)) (by simp) (by simp)
      · refine x_aload_n dX4_hear_79 rfl ?_
        refine x_iconst (v := 4) dX4_hear_80 (by decide) ?_
        refine x_putC dX4_hear_81 fp_RX4_9 (by first | assumption | (show _ < _; simp only [cnt]; omega)) pb_4_2 ⟨rfl, rfl⟩ ?_
        refine x_goto (tgt := 148) dX4_hear_84 (by decide) ?_
        exact x_rV dX4_hear_148 rfl rfl (by first | (simp [me_hear, hk, nI, hc4, hc65, hc76]; done) | (exfalso; simp_all; done)) (by simp) (by simp)
  · exact x_rV dX4_hear_7 rfl rfl (by first | (simp [me_hear, hk, nI, hc4]; done) | (exfalso; simp_all; done)) (by simp) (by simp)
set_option maxRecDepth 100000 in
set_option maxHeartbeats 4000000 in
theorem c_meHear_7 {X : XS} {d : Nat} {S : St} {i p : Nat} (hi : i < 18) (hp0 : p < 61) (hk : S.1 5 p 0 = nI 7) (t : Int32) : Call X mX4_hear false (d + 4) [.ref (ad 4 i), .ref (ad 5 p), .int t] (hp S) (.inl none, hp (me_hear S i p t), 0, 0) := by
  refine Call.of fX4_hear (by decide) rfl (by simp [Value.category]) (Nat.le_of_ble_eq_true rfl) (lv := [some (.ref (ad 4 i)), some (.ref (ad 5 p)), some (.int t)]) rfl ?_
  refine x_aload_n dX4_hear_0 rfl ?_
  refine x_get dX4_hear_1 fl_RX4_25 (hp_get (κ := 4) (by first | assumption | (show _ < _; simp only [cnt]; omega))) rfl ?_
  refine x_if_ne (tgt := 8) dX4_hear_4 (by decide) (fun hc4 => ?_) (fun hc4 => ?_)
  · refine x_aload_n dX4_hear_8 rfl ?_
    refine x_get dX4_hear_9 fl_RX4_32 (hp_get (κ := 5) (by first | assumption | (show _ < _; simp only [cnt]; omega))) rfl ?_
    refine x_eqi hk ?_
    refine x_tableIn (tgt := 87) (off := 75) dX4_hear_12 (by decide) (by decide) (by decide) (by decide) ?_
    refine x_aload_n dX4_hear_87 rfl ?_
    refine x_cV (as := []) dX4_hear_88 fX4_isTalking rfl lk_RX4_47 rfl (hp_get (κ := 4) (by first | assumption | (show _ < _; simp only [cnt]; omega))) rfl rfl (Nat.le_of_ble_eq_true rfl) (c_isTalking hi) (by simp) (by simp) ?_
    refine x_if_eqB (tgt := 148) dX4_hear_91 (by decide) (fun hc91 => ?_) (fun hc91 => ?_)
    · exact x_rV dX4_hear_148 rfl rfl (by first | (simp [me_hear, hk, nI, hc4, hc91]; done) | (exfalso; simp_all; done)) (by simp) (by simp)
    · refine x_aload_n dX4_hear_94 rfl ?_
      refine x_get dX4_hear_95 fl_RX4_41 (hp_get (κ := 4) (by first | assumption | (show _ < _; simp only [cnt]; omega))) rfl ?_
      refine x_aload_n dX4_hear_98 rfl ?_
      refine x_get dX4_hear_99 fl_RX4_44 (hp_get (κ := 5) (by first | assumption | (show _ < _; simp only [cnt]; omega))) rfl ?_
      refine x_icmp_ne (tgt := 148) dX4_hear_102 (by decide) (fun hc102 => ?_) (fun hc102 => ?_)
      · exact x_rV dX4_hear_148 rfl rfl (by first | (simp [me_hear, hk, nI, hc4, hc91, hc102]; done) | (exfalso; simp_all; done)) (by simp) (by simp)
      · refine x_aload_n dX4_hear_105 rfl ?_
        refine x_iconst (v := 0) dX4_hear_106 (by decide) ?_
        refine x_putC dX4_hear_107 fp_RX4_9 (by first | assumption | (show _ < _; simp only [cnt]; omega)) pb_4_2 ⟨rfl, rfl⟩ ?_
        refine x_goto (tgt := 148) dX4_hear_110 (by decide) ?_
        exact x_rV dX4_hear_148 rfl rfl (by first | (simp [me_hear, hk, nI, hc4, hc91, hc102]; done) | (exfalso; simp_all; done)) (by simp) (by simp)
  · exact x_rV dX4_hear_7 rfl rfl (by first | (simp [me_hear, hk, nI, hc4]; done) | (exfalso; simp_all; done)) (by simp) (by simp)
set_option maxRecDepth 100000 in
set_option maxHeartbeats 4000000 in
theorem c_meHear_8 {X : XS} {d : Nat} {S : St} {i p : Nat} (hi : i < 18) (hp0 : p < 61) (hk : S.1 5 p 0 = nI 8) (t : Int32) : Call X mX4_hear false (d + 4) [.ref (ad 4 i), .ref (ad 5 p), .int t] (hp S) (.inl none, hp (me_hear S i p t), 0, 0) := by
  refine Call.of fX4_hear (by decide) rfl (by simp [Value.category]) (Nat.le_of_ble_eq_true rfl) (lv := [some (.ref (ad 4 i)), some (.ref (ad 5 p)), some (.int t)]) rfl ?_
  refine x_aload_n dX4_hear_0 rfl ?_
  refine x_get dX4_hear_1 fl_RX4_25 (hp_get (κ := 4) (by first | assumption | (show _ < _; simp only [cnt]; omega))) rfl ?_
  refine x_if_ne (tgt := 8) dX4_hear_4 (by decide) (fun hc4 => ?_) (fun hc4 => ?_)
  · refine x_aload_n dX4_hear_8 rfl ?_
    refine x_get dX4_hear_9 fl_RX4_32 (hp_get (κ := 5) (by first | assumption | (show _ < _; simp only [cnt]; omega))) rfl ?_
    refine x_eqi hk ?_
    refine x_tableIn (tgt := 113) (off := 101) dX4_hear_12 (by decide) (by decide) (by decide) (by decide) ?_
    refine x_aload_n dX4_hear_113 rfl ?_
    refine x_aload_n dX4_hear_114 rfl ?_
    refine x_get dX4_hear_115 fl_RX4_44 (hp_get (κ := 5) (by first | assumption | (show _ < _; simp only [cnt]; omega))) rfl ?_
    refine x_aload_n dX4_hear_118 rfl ?_
    refine x_get dX4_hear_119 fl_RX4_51 (hp_get (κ := 5) (by first | assumption | (show _ < _; simp only [cnt]; omega))) rfl ?_
    refine x_cVv (as := [_, _]) dX4_hear_122 fX4_hearTalker rfl lk_RX4_54 rfl (hp_get (κ := 4) (by first | assumption | (show _ < _; simp only [cnt]; omega))) rfl rfl (Nat.le_of_ble_eq_true rfl) (c_hearTalker hi _ _) (by simp) (by simp) ?_
    refine x_goto (tgt := 148) dX4_hear_125 (by decide) ?_
    exact x_rV dX4_hear_148 rfl rfl (by first | (simp [me_hear, hk, nI, hc4]; done) | (exfalso; simp_all; done)) (by simp) (by simp)
  · exact x_rV dX4_hear_7 rfl rfl (by first | (simp [me_hear, hk, nI, hc4]; done) | (exfalso; simp_all; done)) (by simp) (by simp)
set_option maxRecDepth 100000 in
set_option maxHeartbeats 4000000 in
theorem c_meHear_9 {X : XS} {d : Nat} {S : St} {i p : Nat} (hi : i < 18) (hp0 : p < 61) (hk : S.1 5 p 0 = nI 9) (t : Int32) : Call X mX4_hear false (d + 4) [.ref (ad 4 i), .ref (ad 5 p), .int t] (hp S) (.inl none, hp (me_hear S i p t), 0, 0) := by
  refine Call.of fX4_hear (by decide) rfl (by simp [Value.category]) (Nat.le_of_ble_eq_true rfl) (lv := [some (.ref (ad 4 i)), some (.ref (ad 5 p)), some (.int t)]) rfl ?_
  refine x_aload_n dX4_hear_0 rfl ?_
  refine x_get dX4_hear_1 fl_RX4_25 (hp_get (κ := 4) (by first | assumption | (show _ < _; simp only [cnt]; omega))) rfl ?_
  refine x_if_ne (tgt := 8) dX4_hear_4 (by decide) (fun hc4 => ?_) (fun hc4 => ?_)
  · refine x_aload_n dX4_hear_8 rfl ?_
    refine x_get dX4_hear_9 fl_RX4_32 (hp_get (κ := 5) (by first | assumption | (show _ < _; simp only [cnt]; omega))) rfl ?_
    refine x_eqi hk ?_
    refine x_tableOut (tgt := 128) dX4_hear_12 (by decide) (by decide) ?_
    refine x_aload_n dX4_hear_128 rfl ?_
    refine x_get dX4_hear_129 fl_RX4_21 (hp_get (κ := 4) (by first | assumption | (show _ < _; simp only [cnt]; omega))) rfl ?_
    refine x_aload_n dX4_hear_132 rfl ?_
    refine x_get dX4_hear_133 fl_RX4_44 (hp_get (κ := 5) (by first | assumption | (show _ < _; simp only [cnt]; omega))) rfl ?_
    refine x_aload_n dX4_hear_136 rfl ?_
    refine x_get dX4_hear_137 fl_RX4_51 (hp_get (κ := 5) (by first | assumption | (show _ < _; simp only [cnt]; omega))) rfl ?_
    refine x_aload_n dX4_hear_140 rfl ?_
    refine x_get dX4_hear_141 fl_RX4_58 (hp_get (κ := 5) (by first | assumption | (show _ < _; simp only [cnt]; omega))) rfl ?_
    refine x_iload_n dX4_hear_144 rfl ?_
    refine x_cVv (as := [_, _, _, _]) dX4_hear_145 fX3_hear rfl lk_RX4_61 rfl (hp_get (κ := 3) (by first | assumption | (show _ < _; simp only [cnt]; omega))) rfl rfl (Nat.le_of_ble_eq_true rfl) (c_liHear hi _ _ _ _) (by simp) (by simp) ?_
    exact x_rV dX4_hear_148 rfl rfl (by first | (simp [me_hear, hk, nI, hc4]; done) | (exfalso; simp_all; done)) (by simp) (by simp)
  · exact x_rV dX4_hear_7 rfl rfl (by first | (simp [me_hear, hk, nI, hc4]; done) | (exfalso; simp_all; done)) (by simp) (by simp)
theorem c_meHear {X : XS} {d : Nat} {S : St} {i p kd : Nat} (hi : i < 18) (hp0 : p < 61) (h3 : 3 ≤ kd) (h9 : kd ≤ 9) (hk : S.1 5 p 0 = nI kd) (t : Int32) : Call X mX4_hear false (d + 4) [.ref (ad 4 i), .ref (ad 5 p), .int t] (hp S) (.inl none, hp (me_hear S i p t), 0, 0) := by
  have hj : kd = 3 ∨ kd = 4 ∨ kd = 5 ∨ kd = 6 ∨ kd = 7 ∨ kd = 8 ∨ kd = 9 := by omega
  rcases hj with rfl | rfl | rfl | rfl | rfl | rfl | rfl
  · exact c_meHear_3 hi hp0 hk t
  · exact c_meHear_4 hi hp0 hk t
  · exact c_meHear_5 hi hp0 hk t
  · exact c_meHear_6 hi hp0 hk t
  · exact c_meHear_7 hi hp0 hk t
  · exact c_meHear_8 hi hp0 hk t
  · exact c_meHear_9 hi hp0 hk t
