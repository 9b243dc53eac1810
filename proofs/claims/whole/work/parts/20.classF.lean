set_option maxRecDepth 100000 in
set_option maxHeartbeats 4000000 in
theorem c_needGroup {X : XS} {d : Nat} {S : St} {g : Nat} (hg : g < 3) : Call X mX9_needGroup false d [.int (nI g)] (hp S) (.inl none, hp (S), 0, 0) := by
  refine Call.of fX9_needGroup (by decide) rfl (by simp [Value.category]) (Nat.le_of_ble_eq_true rfl) (lv := [some (.int (nI g))]) rfl ?_
  refine x_iload_n dX9_needGroup_0 rfl ?_
  refine x_if_lt (tgt := 9) dX9_needGroup_1 (by decide) (fun hc1 => by first | exact absurd hc1 (nI_pos (by omega)) | exact absurd (nI_pos (by omega)) hc1) (fun hc1 => ?_)
  refine x_iload_n dX9_needGroup_4 rfl ?_
  refine x_iconst (v := 3) dX9_needGroup_5 (by decide) ?_
  refine x_icmp_lt (tgt := 17) dX9_needGroup_6 (by decide) (fun hc6 => ?_) (fun hc6 => by first | exact absurd (nI_lt (b := 3) hg (by decide)) hc6 | exact absurd hc6 (nI_lt (b := 3) hg (by decide)))
  exact x_rV dX9_needGroup_17 rfl rfl rfl (by simp) (by simp)
set_option maxRecDepth 100000 in
set_option maxHeartbeats 4000000 in
theorem c_needGroupT {X : XS} {d : Nat} {S : St} {x : Int32} (hx : x < 0 ∨ ¬ x < 3) : Call X mX9_needGroup false (d + 6) [.int x] (hp S) (.inr eN, hp (S), 1, 6) := by
  refine Call.of fX9_needGroup (by decide) rfl (by simp [Value.category]) (Nat.le_of_ble_eq_true rfl) (lv := [some (.int x)]) rfl ?_
  refine x_iload_n dX9_needGroup_0 rfl ?_
  refine x_if_lt (tgt := 9) dX9_needGroup_1 (by decide) (fun hc1 => ?_) (fun hc1 => ?_)
  · exact x_rT th_eN rfl dX9_needGroup_9 dX9_needGroup_12 dX9_needGroup_13 dX9_needGroup_16 (by omega) (Nat.le_of_ble_eq_true rfl) rfl rfl (by simp) (by simp)
  · refine x_iload_n dX9_needGroup_4 rfl ?_
    refine x_iconst (v := 3) dX9_needGroup_5 (by decide) ?_
    refine x_icmp_lt (tgt := 17) dX9_needGroup_6 (by decide) (fun hc6 => ?_) (fun hc6 => ?_)
    · exact (hx.elim hc1 (fun z => z hc6)).elim
    · exact x_rT th_eN rfl dX9_needGroup_9 dX9_needGroup_12 dX9_needGroup_13 dX9_needGroup_16 (by omega) (Nat.le_of_ble_eq_true rfl) rfl rfl (by simp) (by simp)
def okA (v lo hi : Int32) : Prop := ¬ v < lo ∧ v ≤ hi
def badA (v lo hi : Int32) : Prop := v < lo ∨ ¬ v ≤ hi
theorem okA_or (v lo hi : Int32) : okA v lo hi ∨ badA v lo hi := by
  by_cases h1 : v < lo
  · exact Or.inr (Or.inl h1)
  · by_cases h2 : v ≤ hi
    · exact Or.inl ⟨h1, h2⟩
    · exact Or.inr (Or.inr h2)
set_option maxRecDepth 100000 in
set_option maxHeartbeats 4000000 in
theorem c_needArg {X : XS} {d : Nat} {S : St} {v lo hi : Int32} (hv : okA v lo hi) : Call X mX9_needArgument false d [.int v, .int lo, .int hi] (hp S) (.inl none, hp (S), 0, 0) := by
  refine Call.of fX9_needArgument (by decide) rfl (by simp [Value.category]) (Nat.le_of_ble_eq_true rfl) (lv := [some (.int v), some (.int lo), some (.int hi)]) rfl ?_
  refine x_iload_n dX9_needArgument_0 rfl ?_
  refine x_iload_n dX9_needArgument_1 rfl ?_
  refine x_icmp_lt (tgt := 10) dX9_needArgument_2 (by decide) (fun hc2 => by first | exact absurd hc2 hv.1 | exact absurd hv.1 hc2) (fun hc2 => ?_)
  refine x_iload_n dX9_needArgument_5 rfl ?_
  refine x_iload_n dX9_needArgument_6 rfl ?_
  refine x_icmp_le (tgt := 18) dX9_needArgument_7 (by decide) (fun hc7 => ?_) (fun hc7 => by first | exact absurd hv.2 hc7 | exact absurd hc7 hv.2)
  exact x_rV dX9_needArgument_18 rfl rfl rfl (by simp) (by simp)
set_option maxRecDepth 100000 in
set_option maxHeartbeats 4000000 in
theorem c_needArgT {X : XS} {d : Nat} {S : St} {v lo hi : Int32} (hv : badA v lo hi) : Call X mX9_needArgument false (d + 6) [.int v, .int lo, .int hi] (hp S) (.inr eA, hp (S), 1, 6) := by
  refine Call.of fX9_needArgument (by decide) rfl (by simp [Value.category]) (Nat.le_of_ble_eq_true rfl) (lv := [some (.int v), some (.int lo), some (.int hi)]) rfl ?_
  refine x_iload_n dX9_needArgument_0 rfl ?_
  refine x_iload_n dX9_needArgument_1 rfl ?_
  refine x_icmp_lt (tgt := 10) dX9_needArgument_2 (by decide) (fun hc2 => ?_) (fun hc2 => ?_)
  · exact x_rT th_eA rfl dX9_needArgument_10 dX9_needArgument_13 dX9_needArgument_14 dX9_needArgument_17 (by omega) (Nat.le_of_ble_eq_true rfl) rfl rfl (by simp) (by simp)
  · refine x_iload_n dX9_needArgument_5 rfl ?_
    refine x_iload_n dX9_needArgument_6 rfl ?_
    refine x_icmp_le (tgt := 18) dX9_needArgument_7 (by decide) (fun hc7 => ?_) (fun hc7 => ?_)
    · exact (hv.elim hc2 (fun z => z hc7)).elim
    · exact x_rT th_eA rfl dX9_needArgument_10 dX9_needArgument_13 dX9_needArgument_14 dX9_needArgument_17 (by omega) (Nat.le_of_ble_eq_true rfl) rfl rfl (by simp) (by simp)
set_option maxRecDepth 100000 in
set_option maxHeartbeats 4000000 in
theorem c_needIdx {X : XS} {d : Nat} {S : St} {v hi : Int32} (h1 : ¬ v < 0) (h2 : v < hi) : Call X mX9_needIndex false d [.int v, .int hi] (hp S) (.inl none, hp (S), 0, 0) := by
  refine Call.of fX9_needIndex (by decide) rfl (by simp [Value.category]) (Nat.le_of_ble_eq_true rfl) (lv := [some (.int v), some (.int hi)]) rfl ?_
  refine x_iload_n dX9_needIndex_0 rfl ?_
  refine x_if_lt (tgt := 9) dX9_needIndex_1 (by decide) (fun hc1 => by first | exact absurd hc1 h1 | exact absurd h1 hc1) (fun hc1 => ?_)
  refine x_iload_n dX9_needIndex_4 rfl ?_
  refine x_iload_n dX9_needIndex_5 rfl ?_
  refine x_icmp_lt (tgt := 17) dX9_needIndex_6 (by decide) (fun hc6 => ?_) (fun hc6 => by first | exact absurd h2 hc6 | exact absurd hc6 h2)
  exact x_rV dX9_needIndex_17 rfl rfl rfl (by simp) (by simp)
set_option maxRecDepth 100000 in
set_option maxHeartbeats 4000000 in
theorem c_needIdxT {X : XS} {d : Nat} {S : St} {v hi : Int32} (hv : v < 0 ∨ ¬ v < hi) : Call X mX9_needIndex false (d + 6) [.int v, .int hi] (hp S) (.inr eI, hp (S), 1, 6) := by
  refine Call.of fX9_needIndex (by decide) rfl (by simp [Value.category]) (Nat.le_of_ble_eq_true rfl) (lv := [some (.int v), some (.int hi)]) rfl ?_
  refine x_iload_n dX9_needIndex_0 rfl ?_
  refine x_if_lt (tgt := 9) dX9_needIndex_1 (by decide) (fun hc1 => ?_) (fun hc1 => ?_)
  · exact x_rT th_eI rfl dX9_needIndex_9 dX9_needIndex_12 dX9_needIndex_13 dX9_needIndex_16 (by omega) (Nat.le_of_ble_eq_true rfl) rfl rfl (by simp) (by simp)
  · refine x_iload_n dX9_needIndex_4 rfl ?_
    refine x_iload_n dX9_needIndex_5 rfl ?_
    refine x_icmp_lt (tgt := 17) dX9_needIndex_6 (by decide) (fun hc6 => ?_) (fun hc6 => ?_)
    · exact (hv.elim hc1 (fun z => z hc6)).elim
    · exact x_rT th_eI rfl dX9_needIndex_9 dX9_needIndex_12 dX9_needIndex_13 dX9_needIndex_16 (by omega) (Nat.le_of_ble_eq_true rfl) rfl rfl (by simp) (by simp)
set_option maxRecDepth 100000 in
set_option maxHeartbeats 4000000 in
theorem c_needSt {X : XS} {d : Nat} {S : St} {x : Int32} (hx : ¬ x = 0) : Call X mX9_needState false d [.int x] (hp S) (.inl none, hp (S), 0, 0) := by
  refine Call.of fX9_needState (by decide) rfl (by simp [Value.category]) (Nat.le_of_ble_eq_true rfl) (lv := [some (.int x)]) rfl ?_
  refine x_iload_n dX9_needState_0 rfl ?_
  refine x_if_ne (tgt := 12) dX9_needState_1 (by decide) (fun hc1 => ?_) (fun hc1 => by first | exact absurd hx hc1 | exact absurd hc1 hx)
  exact x_rV dX9_needState_12 rfl rfl rfl (by simp) (by simp)
set_option maxRecDepth 100000 in
set_option maxHeartbeats 4000000 in
theorem c_needStT {X : XS} {d : Nat} {S : St} {x : Int32} (hx : x = 0) : Call X mX9_needState false (d + 6) [.int x] (hp S) (.inr eS, hp (S), 1, 6) := by
  refine Call.of fX9_needState (by decide) rfl (by simp [Value.category]) (Nat.le_of_ble_eq_true rfl) (lv := [some (.int x)]) rfl ?_
  refine x_iload_n dX9_needState_0 rfl ?_
  refine x_if_ne (tgt := 12) dX9_needState_1 (by decide) (fun hc1 => by first | exact absurd hc1 hx | exact absurd hx hc1) (fun hc1 => ?_)
  exact x_rT th_eS rfl dX9_needState_4 dX9_needState_7 dX9_needState_8 dX9_needState_11 (by omega) (Nat.le_of_ble_eq_true rfl) rfl rfl (by simp) (by simp)
set_option maxRecDepth 100000 in
set_option maxHeartbeats 4000000 in
theorem c_needMsg {X : XS} {d : Nat} {S : St} {x : Int32} (h1 : ¬ x < 0) (h2 : x < S.1 6 0 2) : Call X mX9_needMessage false d [.ref (ad 9 0), .int x] (hp S) (.inl none, hp (S), 0, 0) := by
  refine Call.of fX9_needMessage (by decide) rfl (by simp [Value.category]) (Nat.le_of_ble_eq_true rfl) (lv := [some (.ref (ad 9 0)), some (.int x)]) rfl ?_
  refine x_iload_n dX9_needMessage_0 rfl ?_
  refine x_if_lt (tgt := 15) dX9_needMessage_1 (by decide) (fun hc1 => by first | exact absurd hc1 h1 | exact absurd h1 hc1) (fun hc1 => ?_)
  refine x_iload_n dX9_needMessage_4 rfl ?_
  refine x_aload_n dX9_needMessage_5 rfl ?_
  refine x_get dX9_needMessage_6 fl_RX9_10 (hp_get (κ := 9) (by decide)) rfl ?_
  refine x_get dX9_needMessage_9 fl_RX9_125 (hp_get (κ := 6) (by decide)) rfl ?_
  refine x_icmp_lt (tgt := 23) dX9_needMessage_12 (by decide) (fun hc12 => ?_) (fun hc12 => by first | exact absurd h2 hc12 | exact absurd hc12 h2)
  exact x_rV dX9_needMessage_23 rfl rfl rfl (by simp) (by simp)
set_option maxRecDepth 100000 in
set_option maxHeartbeats 4000000 in
theorem c_needMsgT {X : XS} {d : Nat} {S : St} {x : Int32} (hx : x < 0 ∨ ¬ x < S.1 6 0 2) : Call X mX9_needMessage false (d + 6) [.ref (ad 9 0), .int x] (hp S) (.inr eN, hp (S), 1, 6) := by
  refine Call.of fX9_needMessage (by decide) rfl (by simp [Value.category]) (Nat.le_of_ble_eq_true rfl) (lv := [some (.ref (ad 9 0)), some (.int x)]) rfl ?_
  refine x_iload_n dX9_needMessage_0 rfl ?_
  refine x_if_lt (tgt := 15) dX9_needMessage_1 (by decide) (fun hc1 => ?_) (fun hc1 => ?_)
  · exact x_rT th_eN rfl dX9_needMessage_15 dX9_needMessage_18 dX9_needMessage_19 dX9_needMessage_22 (by omega) (Nat.le_of_ble_eq_true rfl) rfl rfl (by simp) (by simp)
  · refine x_iload_n dX9_needMessage_4 rfl ?_
    refine x_aload_n dX9_needMessage_5 rfl ?_
    refine x_get dX9_needMessage_6 fl_RX9_10 (hp_get (κ := 9) (by decide)) rfl ?_
    refine x_get dX9_needMessage_9 fl_RX9_125 (hp_get (κ := 6) (by decide)) rfl ?_
    refine x_icmp_lt (tgt := 23) dX9_needMessage_12 (by decide) (fun hc12 => ?_) (fun hc12 => ?_)
    · exact (hx.elim hc1 (fun z => z hc12)).elim
    · exact x_rT th_eN rfl dX9_needMessage_15 dX9_needMessage_18 dX9_needMessage_19 dX9_needMessage_22 (by omega) (Nat.le_of_ble_eq_true rfl) rfl rfl (by simp) (by simp)
set_option maxRecDepth 100000 in
set_option maxHeartbeats 4000000 in
theorem c_memberOf {X : XS} {d : Nat} {S : St} {g m : Nat} (hg : g < 3) (hm : m < 6) : Call X mX9_memberOf false (d + 1) [.ref (ad 9 0), .int (nI g), .int (nI m)] (hp S) (.inl (some (.ref (ad 4 (6 * g + m)))), hp (S), 0, 0) := by
  refine Call.of fX9_memberOf (by decide) rfl (by simp [Value.category]) (Nat.le_of_ble_eq_true rfl) (lv := [some (.ref (ad 9 0)), some (.int (nI g)), some (.int (nI m))]) rfl ?_
  refine x_iload_n dX9_memberOf_0 rfl ?_
  refine x_cSv (as := [_]) dX9_memberOf_1 fX9_needGroup rfl lk_RX9_43 rfl (Nat.le_of_ble_eq_true rfl) (c_needGroup hg) (by simp) (by simp) ?_
  refine x_iload_n dX9_memberOf_4 rfl ?_
  refine x_if_lt (tgt := 14) dX9_memberOf_5 (by decide) (fun hc5 => by first | exact absurd hc5 (nI_pos (by omega)) | exact absurd (nI_pos (by omega)) hc5) (fun hc5 => ?_)
  refine x_iload_n dX9_memberOf_8 rfl ?_
  refine x_bipush (v := 6) dX9_memberOf_9 (by decide) ?_
  refine x_icmp_lt (tgt := 22) dX9_memberOf_11 (by decide) (fun hc11 => ?_) (fun hc11 => by first | exact absurd (nI_lt (b := 6) hm (by decide)) hc11 | exact absurd hc11 (nI_lt (b := 6) hm (by decide)))
  refine x_aload_n dX9_memberOf_22 rfl ?_
  refine x_get dX9_memberOf_23 fl_RX9_18 (hp_get (κ := 9) (by decide)) rfl ?_
  refine x_iload_n dX9_memberOf_26 rfl ?_
  refine x_parties dX9_memberOf_27 (by decide) (by first | omega | exact sl16_lt _ | assumption) ?_
  refine x_get dX9_memberOf_28 fl_RX9_209 (hp_get (κ := 7) (by first | assumption | (show _ < _; simp only [cnt]; omega))) rfl ?_
  refine x_iload_n dX9_memberOf_31 rfl ?_
  refine x_members dX9_memberOf_32 (by first | assumption | (show _ < _; simp only [cnt]; omega)) (by first | omega | exact sl16_lt _ | assumption) ?_
  exact x_rA dX9_memberOf_33 rfl rfl rfl (by simp) (by simp)
set_option maxRecDepth 100000 in
set_option maxHeartbeats 4000000 in
theorem c_memberOfT1 {X : XS} {d : Nat} {S : St} {x y : Int32} (hx : x < 0 ∨ ¬ x < 3) : Call X mX9_memberOf false (d + 7) [.ref (ad 9 0), .int x, .int y] (hp S) (.inr eN, hp (S), 1, 6) := by
  refine Call.of fX9_memberOf (by decide) rfl (by simp [Value.category]) (Nat.le_of_ble_eq_true rfl) (lv := [some (.ref (ad 9 0)), some (.int x), some (.int y)]) rfl ?_
  refine x_iload_n dX9_memberOf_0 rfl ?_
  exact x_cST (as := [_]) dX9_memberOf_1 fX9_needGroup rfl rfl lk_RX9_43 rfl (Nat.le_of_ble_eq_true rfl) (c_needGroupT hx) rfl rfl (by simp) (by simp)
set_option maxRecDepth 100000 in
set_option maxHeartbeats 4000000 in
theorem c_memberOfT2 {X : XS} {d : Nat} {S : St} {g : Nat} {y : Int32} (hg : g < 3) (hy : y < 0 ∨ ¬ y < 6) : Call X mX9_memberOf false (d + 7) [.ref (ad 9 0), .int (nI g), .int y] (hp S) (.inr eN, hp (S), 1, 6) := by
  refine Call.of fX9_memberOf (by decide) rfl (by simp [Value.category]) (Nat.le_of_ble_eq_true rfl) (lv := [some (.ref (ad 9 0)), some (.int (nI g)), some (.int y)]) rfl ?_
  refine x_iload_n dX9_memberOf_0 rfl ?_
  refine x_cSv (as := [_]) dX9_memberOf_1 fX9_needGroup rfl lk_RX9_43 rfl (Nat.le_of_ble_eq_true rfl) (c_needGroup hg) (by simp) (by simp) ?_
  refine x_iload_n dX9_memberOf_4 rfl ?_
  refine x_if_lt (tgt := 14) dX9_memberOf_5 (by decide) (fun hc5 => ?_) (fun hc5 => ?_)
  · exact x_rT th_eN rfl dX9_memberOf_14 dX9_memberOf_17 dX9_memberOf_18 dX9_memberOf_21 (by omega) (Nat.le_of_ble_eq_true rfl) rfl rfl (by simp) (by simp)
  · refine x_iload_n dX9_memberOf_8 rfl ?_
    refine x_bipush (v := 6) dX9_memberOf_9 (by decide) ?_
    refine x_icmp_lt (tgt := 22) dX9_memberOf_11 (by decide) (fun hc11 => ?_) (fun hc11 => ?_)
    · exact (hy.elim hc5 (fun z => z hc11)).elim
    · exact x_rT th_eN rfl dX9_memberOf_14 dX9_memberOf_17 dX9_memberOf_18 dX9_memberOf_21 (by omega) (Nat.le_of_ble_eq_true rfl) rfl rfl (by simp) (by simp)
/-- no such member -/
def badM (x y : Int32) : Prop := (x < 0 ∨ ¬ x < 3) ∨ (y < 0 ∨ ¬ y < 6)
theorem in_or (x : Int32) (N : Nat) (hN : N < 2 ^ 31) : (∃ j, j < N ∧ x = nI j) ∨ (x < 0 ∨ ¬ x < nI N) := by
  rcases pk_ix x hN with h | h | ⟨j, hj, e⟩
  · exact Or.inr (Or.inl h)
  · exact Or.inr (Or.inr (Int32.not_lt.mpr h))
  · exact Or.inl ⟨j, hj, e⟩
theorem c_memberOfT {X : XS} {d : Nat} {S : St} {x y : Int32} (h : badM x y) : Call X mX9_memberOf false (d + 7) [.ref (ad 9 0), .int x, .int y] (hp S) (.inr eN, hp S, 1, 6) := by
  rcases in_or x 3 (by decide) with ⟨g, hg, rfl⟩ | hx
  · rcases h with h | h
    · exact c_memberOfT1 h
    · exact c_memberOfT2 hg h
  · exact c_memberOfT1 hx
set_option maxRecDepth 100000 in
set_option maxHeartbeats 4000000 in
theorem c_there {X : XS} {d : Nat} {S : St} {g m : Nat} (hg : g < 3) (hm : m < 6) (h : ¬ S.1 4 (6 * g + m) 0 = 0) : Call X mX9_memberThere false (d + 2) [.ref (ad 9 0), .int (nI g), .int (nI m)] (hp S) (.inl (some (.ref (ad 4 (6 * g + m)))), hp (S), 0, 0) := by
  refine Call.of fX9_memberThere (by decide) rfl (by simp [Value.category]) (Nat.le_of_ble_eq_true rfl) (lv := [some (.ref (ad 9 0)), some (.int (nI g)), some (.int (nI m)), none]) rfl ?_
  refine x_aload_n dX9_memberThere_0 rfl ?_
  refine x_iload_n dX9_memberThere_1 rfl ?_
  refine x_iload_n dX9_memberThere_2 rfl ?_
  refine x_cV (as := [_, _]) dX9_memberThere_3 fX9_memberOf rfl lk_RX9_61 rfl (hp_get (κ := 9) (by decide)) rfl rfl (Nat.le_of_ble_eq_true rfl) (c_memberOf hg hm) (by simp) (by simp) ?_
  refine x_astore_n (lv' := [_, _, _, _]) dX9_memberThere_6 (by decide) rfl ?_
  refine x_aload_n dX9_memberThere_7 rfl ?_
  refine x_get dX9_memberThere_8 fl_RX9_65 (hp_get (κ := 4) (by first | assumption | (show _ < _; simp only [cnt]; omega))) rfl ?_
  refine x_cSv (as := [_]) dX9_memberThere_11 fX9_needState rfl lk_RX9_91 rfl (Nat.le_of_ble_eq_true rfl) (c_needSt h) (by simp) (by simp) ?_
  refine x_aload_n dX9_memberThere_14 rfl ?_
  exact x_rA dX9_memberThere_15 rfl rfl rfl (by simp) (by simp)
set_option maxRecDepth 100000 in
set_option maxHeartbeats 4000000 in
theorem c_thereT {X : XS} {d : Nat} {S : St} {x y : Int32} (h : badM x y) : Call X mX9_memberThere false (d + 8) [.ref (ad 9 0), .int x, .int y] (hp S) (.inr eN, hp (S), 1, 6) := by
  refine Call.of fX9_memberThere (by decide) rfl (by simp [Value.category]) (Nat.le_of_ble_eq_true rfl) (lv := [some (.ref (ad 9 0)), some (.int x), some (.int y), none]) rfl ?_
  refine x_aload_n dX9_memberThere_0 rfl ?_
  refine x_iload_n dX9_memberThere_1 rfl ?_
  refine x_iload_n dX9_memberThere_2 rfl ?_
  exact x_cVT (as := [_, _]) dX9_memberThere_3 fX9_memberOf rfl rfl lk_RX9_61 rfl (hp_get (κ := 9) (by decide)) rfl rfl (Nat.le_of_ble_eq_true rfl) (c_memberOfT h) rfl rfl (by simp) (by simp)
set_option maxRecDepth 100000 in
set_option maxHeartbeats 4000000 in
theorem c_thereS {X : XS} {d : Nat} {S : St} {g m : Nat} (hg : g < 3) (hm : m < 6) (h : S.1 4 (6 * g + m) 0 = 0) : Call X mX9_memberThere false (d + 7) [.ref (ad 9 0), .int (nI g), .int (nI m)] (hp S) (.inr eS, hp (S), 1, 6) := by
  refine Call.of fX9_memberThere (by decide) rfl (by simp [Value.category]) (Nat.le_of_ble_eq_true rfl) (lv := [some (.ref (ad 9 0)), some (.int (nI g)), some (.int (nI m)), none]) rfl ?_
  refine x_aload_n dX9_memberThere_0 rfl ?_
  refine x_iload_n dX9_memberThere_1 rfl ?_
  refine x_iload_n dX9_memberThere_2 rfl ?_
  refine x_cV (as := [_, _]) dX9_memberThere_3 fX9_memberOf rfl lk_RX9_61 rfl (hp_get (κ := 9) (by decide)) rfl rfl (Nat.le_of_ble_eq_true rfl) (c_memberOf hg hm) (by simp) (by simp) ?_
  refine x_astore_n (lv' := [_, _, _, _]) dX9_memberThere_6 (by decide) rfl ?_
  refine x_aload_n dX9_memberThere_7 rfl ?_
  refine x_get dX9_memberThere_8 fl_RX9_65 (hp_get (κ := 4) (by first | assumption | (show _ < _; simp only [cnt]; omega))) rfl ?_
  exact x_cST (as := [_]) dX9_memberThere_11 fX9_needState rfl rfl lk_RX9_91 rfl (Nat.le_of_ble_eq_true rfl) (c_needStT h) rfl rfl (by simp) (by simp)
set_option maxRecDepth 100000 in
set_option maxHeartbeats 4000000 in
theorem k_rules {X : XS} {d : Nat} {S : St} {g : Nat} {p : Bool} {a b c : Int32} (hg : g < 3) (ha : okA a 1 100) (hb : okA b 1 50) (hc : okA c 0 20) : Call X mX9_rules false (d + 1) [.ref (ad 9 0), .int (nI g), .int (bI p), .int a, .int b, .int c] (hp S) (.inl none, hp (ru_set S (2 * g) p a b c), 0, 0) := by
  refine Call.of fX9_rules (by decide) rfl (by simp [Value.category]) (Nat.le_of_ble_eq_true rfl) (lv := [some (.ref (ad 9 0)), some (.int (nI g)), some (.int (bI p)), some (.int a), some (.int b), some (.int c)]) rfl ?_
  refine x_iload_n dX9_rules_0 rfl ?_
  refine x_cSv (as := [_]) dX9_rules_1 fX9_needGroup rfl lk_RX9_43 rfl (Nat.le_of_ble_eq_true rfl) (c_needGroup hg) (by simp) (by simp) ?_
  refine x_iload_n dX9_rules_4 rfl ?_
  refine x_iconst (v := 1) dX9_rules_5 (by decide) ?_
  refine x_bipush (v := 100) dX9_rules_6 (by decide) ?_
  refine x_cSv (as := [_, _, _]) dX9_rules_8 fX9_needArgument rfl lk_RX9_47 rfl (Nat.le_of_ble_eq_true rfl) (c_needArg ha) (by simp) (by simp) ?_
  refine x_iload dX9_rules_11 rfl ?_
  refine x_iconst (v := 1) dX9_rules_13 (by decide) ?_
  refine x_bipush (v := 50) dX9_rules_14 (by decide) ?_
  refine x_cSv (as := [_, _, _]) dX9_rules_16 fX9_needArgument rfl lk_RX9_47 rfl (Nat.le_of_ble_eq_true rfl) (c_needArg hb) (by simp) (by simp) ?_
  refine x_iload dX9_rules_19 rfl ?_
  refine x_iconst (v := 0) dX9_rules_21 (by decide) ?_
  refine x_bipush (v := 20) dX9_rules_22 (by decide) ?_
  refine x_cSv (as := [_, _, _]) dX9_rules_24 fX9_needArgument rfl lk_RX9_47 rfl (Nat.le_of_ble_eq_true rfl) (c_needArg hc) (by simp) (by simp) ?_
  refine x_aload_n dX9_rules_27 rfl ?_
  refine x_get dX9_rules_28 fl_RX9_24 (hp_get (κ := 9) (by decide)) rfl ?_
  refine x_iload_n dX9_rules_31 rfl ?_
  refine x_floors dX9_rules_32 (by decide) (by first | omega | exact sl16_lt _ | assumption) ?_
  refine x_get dX9_rules_33 fl_RX9_51 (hp_get (κ := 1) (by first | assumption | (show _ < _; simp only [cnt]; omega))) rfl ?_
  refine x_iload_n dX9_rules_36 rfl ?_
  refine x_iload_n dX9_rules_37 rfl ?_
  refine x_iload dX9_rules_38 rfl ?_
  refine x_iload dX9_rules_40 rfl ?_
  refine x_cVv (as := [_, _, _, _]) dX9_rules_42 fX8_set rfl lk_RX9_55 rfl (hp_get (κ := 8) (by first | assumption | (show _ < _; simp only [cnt]; omega))) rfl rfl (Nat.le_of_ble_eq_true rfl) (c_ruSet (by omega) p _ _ _) (by simp) (by simp) ?_
  exact x_rV dX9_rules_45 rfl rfl rfl (by simp) (by simp)
set_option maxRecDepth 100000 in
set_option maxHeartbeats 4000000 in
theorem k_rulesN {X : XS} {d : Nat} {S : St} {x y a b c : Int32} (hx : x < 0 ∨ ¬ x < 3) : Call X mX9_rules false (d + 7) [.ref (ad 9 0), .int x, .int y, .int a, .int b, .int c] (hp S) (.inr eN, hp (S), 1, 6) := by
  refine Call.of fX9_rules (by decide) rfl (by simp [Value.category]) (Nat.le_of_ble_eq_true rfl) (lv := [some (.ref (ad 9 0)), some (.int x), some (.int y), some (.int a), some (.int b), some (.int c)]) rfl ?_
  refine x_iload_n dX9_rules_0 rfl ?_
  exact x_cST (as := [_]) dX9_rules_1 fX9_needGroup rfl rfl lk_RX9_43 rfl (Nat.le_of_ble_eq_true rfl) (c_needGroupT hx) rfl rfl (by simp) (by simp)
set_option maxRecDepth 100000 in
set_option maxHeartbeats 4000000 in
theorem k_rulesA1 {X : XS} {d : Nat} {S : St} {g : Nat} {y a b c : Int32} (hg : g < 3) (ha : badA a 1 100) : Call X mX9_rules false (d + 7) [.ref (ad 9 0), .int (nI g), .int y, .int a, .int b, .int c] (hp S) (.inr eA, hp (S), 1, 6) := by
  refine Call.of fX9_rules (by decide) rfl (by simp [Value.category]) (Nat.le_of_ble_eq_true rfl) (lv := [some (.ref (ad 9 0)), some (.int (nI g)), some (.int y), some (.int a), some (.int b), some (.int c)]) rfl ?_
  refine x_iload_n dX9_rules_0 rfl ?_
  refine x_cSv (as := [_]) dX9_rules_1 fX9_needGroup rfl lk_RX9_43 rfl (Nat.le_of_ble_eq_true rfl) (c_needGroup hg) (by simp) (by simp) ?_
  refine x_iload_n dX9_rules_4 rfl ?_
  refine x_iconst (v := 1) dX9_rules_5 (by decide) ?_
  refine x_bipush (v := 100) dX9_rules_6 (by decide) ?_
  exact x_cST (as := [_, _, _]) dX9_rules_8 fX9_needArgument rfl rfl lk_RX9_47 rfl (Nat.le_of_ble_eq_true rfl) (c_needArgT ha) rfl rfl (by simp) (by simp)
set_option maxRecDepth 100000 in
set_option maxHeartbeats 4000000 in
theorem k_rulesA2 {X : XS} {d : Nat} {S : St} {g : Nat} {y a b c : Int32} (hg : g < 3) (ha : okA a 1 100) (hb : badA b 1 50) : Call X mX9_rules false (d + 7) [.ref (ad 9 0), .int (nI g), .int y, .int a, .int b, .int c] (hp S) (.inr eA, hp (S), 1, 6) := by
  refine Call.of fX9_rules (by decide) rfl (by simp [Value.category]) (Nat.le_of_ble_eq_true rfl) (lv := [some (.ref (ad 9 0)), some (.int (nI g)), some (.int y), some (.int a), some (.int b), some (.int c)]) rfl ?_
  refine x_iload_n dX9_rules_0 rfl ?_
  refine x_cSv (as := [_]) dX9_rules_1 fX9_needGroup rfl lk_RX9_43 rfl (Nat.le_of_ble_eq_true rfl) (c_needGroup hg) (by simp) (by simp) ?_
  refine x_iload_n dX9_rules_4 rfl ?_
  refine x_iconst (v := 1) dX9_rules_5 (by decide) ?_
  refine x_bipush (v := 100) dX9_rules_6 (by decide) ?_
  refine x_cSv (as := [_, _, _]) dX9_rules_8 fX9_needArgument rfl lk_RX9_47 rfl (Nat.le_of_ble_eq_true rfl) (c_needArg ha) (by simp) (by simp) ?_
  refine x_iload dX9_rules_11 rfl ?_
  refine x_iconst (v := 1) dX9_rules_13 (by decide) ?_
  refine x_bipush (v := 50) dX9_rules_14 (by decide) ?_
  exact x_cST (as := [_, _, _]) dX9_rules_16 fX9_needArgument rfl rfl lk_RX9_47 rfl (Nat.le_of_ble_eq_true rfl) (c_needArgT hb) rfl rfl (by simp) (by simp)
set_option maxRecDepth 100000 in
set_option maxHeartbeats 4000000 in
theorem k_rulesA3 {X : XS} {d : Nat} {S : St} {g : Nat} {y a b c : Int32} (hg : g < 3) (ha : okA a 1 100) (hb : okA b 1 50) (hc : badA c 0 20) : Call X mX9_rules false (d + 7) [.ref (ad 9 0), .int (nI g), .int y, .int a, .int b, .int c] (hp S) (.inr eA, hp (S), 1, 6) := by
  refine Call.of fX9_rules (by decide) rfl (by simp [Value.category]) (Nat.le_of_ble_eq_true rfl) (lv := [some (.ref (ad 9 0)), some (.int (nI g)), some (.int y), some (.int a), some (.int b), some (.int c)]) rfl ?_
  refine x_iload_n dX9_rules_0 rfl ?_
  refine x_cSv (as := [_]) dX9_rules_1 fX9_needGroup rfl lk_RX9_43 rfl (Nat.le_of_ble_eq_true rfl) (c_needGroup hg) (by simp) (by simp) ?_
  refine x_iload_n dX9_rules_4 rfl ?_
  refine x_iconst (v := 1) dX9_rules_5 (by decide) ?_
  refine x_bipush (v := 100) dX9_rules_6 (by decide) ?_
  refine x_cSv (as := [_, _, _]) dX9_rules_8 fX9_needArgument rfl lk_RX9_47 rfl (Nat.le_of_ble_eq_true rfl) (c_needArg ha) (by simp) (by simp) ?_
  refine x_iload dX9_rules_11 rfl ?_
  refine x_iconst (v := 1) dX9_rules_13 (by decide) ?_
  refine x_bipush (v := 50) dX9_rules_14 (by decide) ?_
  refine x_cSv (as := [_, _, _]) dX9_rules_16 fX9_needArgument rfl lk_RX9_47 rfl (Nat.le_of_ble_eq_true rfl) (c_needArg hb) (by simp) (by simp) ?_
  refine x_iload dX9_rules_19 rfl ?_
  refine x_iconst (v := 0) dX9_rules_21 (by decide) ?_
  refine x_bipush (v := 20) dX9_rules_22 (by decide) ?_
  exact x_cST (as := [_, _, _]) dX9_rules_24 fX9_needArgument rfl rfl lk_RX9_47 rfl (Nat.le_of_ble_eq_true rfl) (c_needArgT hc) rfl rfl (by simp) (by simp)
set_option maxRecDepth 100000 in
set_option maxHeartbeats 4000000 in
theorem k_member {X : XS} {d : Nat} {S : St} {g m : Nat} (hg : g < 3) (hm : m < 6) {p : Int32} (hp0 : okA p 0 7) : Call X mX9_member false (d + 2) [.ref (ad 9 0), .int (nI g), .int (nI m), .int p] (hp S) (.inl none, hp (sc (sc S 4 (6 * g + m) 0 1) 4 (6 * g + m) 1 p), 0, 0) := by
  refine Call.of fX9_member (by decide) rfl (by simp [Value.category]) (Nat.le_of_ble_eq_true rfl) (lv := [some (.ref (ad 9 0)), some (.int (nI g)), some (.int (nI m)), some (.int p), none]) rfl ?_
  refine x_aload_n dX9_member_0 rfl ?_
  refine x_iload_n dX9_member_1 rfl ?_
  refine x_iload_n dX9_member_2 rfl ?_
  refine x_cV (as := [_, _]) dX9_member_3 fX9_memberOf rfl lk_RX9_61 rfl (hp_get (κ := 9) (by decide)) rfl rfl (Nat.le_of_ble_eq_true rfl) (c_memberOf hg hm) (by simp) (by simp) ?_
  refine x_astore (lv' := [_, _, _, _, _]) dX9_member_6 (by decide) rfl ?_
  refine x_iload_n dX9_member_8 rfl ?_
  refine x_iconst (v := 0) dX9_member_9 (by decide) ?_
  refine x_bipush (v := 7) dX9_member_10 (by decide) ?_
  refine x_cSv (as := [_, _, _]) dX9_member_12 fX9_needArgument rfl lk_RX9_47 rfl (Nat.le_of_ble_eq_true rfl) (c_needArg hp0) (by simp) (by simp) ?_
  refine x_aload dX9_member_15 rfl ?_
  refine x_iconst (v := 1) dX9_member_17 (by decide) ?_
  refine x_putC dX9_member_18 fp_RX9_65 (by first | assumption | (show _ < _; simp only [cnt]; omega)) pb_4_0 (by first | exact bI_nf _ | decide) ?_
  refine x_aload dX9_member_21 rfl ?_
  refine x_iload_n dX9_member_23 rfl ?_
  refine x_putC dX9_member_24 fp_RX9_71 (by first | assumption | (show _ < _; simp only [cnt]; omega)) pb_4_1 ⟨rfl, rfl⟩ ?_
  exact x_rV dX9_member_27 rfl rfl rfl (by simp) (by simp)
set_option maxRecDepth 100000 in
set_option maxHeartbeats 4000000 in
theorem k_memberN {X : XS} {d : Nat} {S : St} {x y : Int32} (h : badM x y) {p : Int32} : Call X mX9_member false (d + 8) [.ref (ad 9 0), .int x, .int y, .int p] (hp S) (.inr eN, hp (S), 1, 6) := by
  refine Call.of fX9_member (by decide) rfl (by simp [Value.category]) (Nat.le_of_ble_eq_true rfl) (lv := [some (.ref (ad 9 0)), some (.int x), some (.int y), some (.int p), none]) rfl ?_
  refine x_aload_n dX9_member_0 rfl ?_
  refine x_iload_n dX9_member_1 rfl ?_
  refine x_iload_n dX9_member_2 rfl ?_
  exact x_cVT (as := [_, _]) dX9_member_3 fX9_memberOf rfl rfl lk_RX9_61 rfl (hp_get (κ := 9) (by decide)) rfl rfl (Nat.le_of_ble_eq_true rfl) (c_memberOfT h) rfl rfl (by simp) (by simp)
set_option maxRecDepth 100000 in
set_option maxHeartbeats 4000000 in
theorem k_memberA {X : XS} {d : Nat} {S : St} {g m : Nat} (hg : g < 3) (hm : m < 6) {p : Int32} (hp0 : badA p 0 7) : Call X mX9_member false (d + 7) [.ref (ad 9 0), .int (nI g), .int (nI m), .int p] (hp S) (.inr eA, hp (S), 1, 6) := by
  refine Call.of fX9_member (by decide) rfl (by simp [Value.category]) (Nat.le_of_ble_eq_true rfl) (lv := [some (.ref (ad 9 0)), some (.int (nI g)), some (.int (nI m)), some (.int p), none]) rfl ?_
  refine x_aload_n dX9_member_0 rfl ?_
  refine x_iload_n dX9_member_1 rfl ?_
  refine x_iload_n dX9_member_2 rfl ?_
  refine x_cV (as := [_, _]) dX9_member_3 fX9_memberOf rfl lk_RX9_61 rfl (hp_get (κ := 9) (by decide)) rfl rfl (Nat.le_of_ble_eq_true rfl) (c_memberOf hg hm) (by simp) (by simp) ?_
  refine x_astore (lv' := [_, _, _, _, _]) dX9_member_6 (by decide) rfl ?_
  refine x_iload_n dX9_member_8 rfl ?_
  refine x_iconst (v := 0) dX9_member_9 (by decide) ?_
  refine x_bipush (v := 7) dX9_member_10 (by decide) ?_
  exact x_cST (as := [_, _, _]) dX9_member_12 fX9_needArgument rfl rfl lk_RX9_47 rfl (Nat.le_of_ble_eq_true rfl) (c_needArgT hp0) rfl rfl (by simp) (by simp)
def tk_leave (S : St) (g m : Nat) : St := fl_back (me_away S (6 * g + m)) g m ((me_away S (6 * g + m)).1 9 0 4)
set_option maxRecDepth 100000 in
set_option maxHeartbeats 4000000 in
theorem k_leave0 {X : XS} {d : Nat} {S : St} {g m : Nat} (hg : g < 3) (hm : m < 6) (h : S.1 4 (6 * g + m) 0 = 0) : Call X mX9_leave false (d + 4) [.ref (ad 9 0), .int (nI g), .int (nI m)] (hp S) (.inl (some (.int (0))), hp (S), 0, 0) := by
  refine Call.of fX9_leave (by decide) rfl (by simp [Value.category]) (Nat.le_of_ble_eq_true rfl) (lv := [some (.ref (ad 9 0)), some (.int (nI g)), some (.int (nI m)), none]) rfl ?_
  refine x_aload_n dX9_leave_0 rfl ?_
  refine x_iload_n dX9_leave_1 rfl ?_
  refine x_iload_n dX9_leave_2 rfl ?_
  refine x_cV (as := [_, _]) dX9_leave_3 fX9_memberOf rfl lk_RX9_61 rfl (hp_get (κ := 9) (by decide)) rfl rfl (Nat.le_of_ble_eq_true rfl) (c_memberOf hg hm) (by simp) (by simp) ?_
  refine x_astore_n (lv' := [_, _, _, _]) dX9_leave_6 (by decide) rfl ?_
  refine x_aload_n dX9_leave_7 rfl ?_
  refine x_get dX9_leave_8 fl_RX9_65 (hp_get (κ := 4) (by first | assumption | (show _ < _; simp only [cnt]; omega))) rfl ?_
  refine x_if_ne (tgt := 16) dX9_leave_11 (by decide) (fun hc11 => by first | exact absurd hc11 h | exact absurd h hc11) (fun hc11 => ?_)
  refine x_iconst (v := 0) dX9_leave_14 (by decide) ?_
  exact x_rI dX9_leave_15 rfl (by first | exact (bI_nf _).1 | decide) rfl rfl (by simp) (by simp)
set_option maxRecDepth 100000 in
set_option maxHeartbeats 4000000 in
theorem k_leave1 {X : XS} {d : Nat} {S : St} {g m : Nat} (hg : g < 3) (hm : m < 6) (h : ¬ S.1 4 (6 * g + m) 0 = 0) (hN : NetOK S) (hI : FlI S g) : Call X mX9_leave false (d + 4) [.ref (ad 9 0), .int (nI g), .int (nI m)] (hp S) (.inl (some (.int (1))), hp (tk_leave S g m), 0, 0) := by
  refine Call.of fX9_leave (by decide) rfl (by simp [Value.category]) (Nat.le_of_ble_eq_true rfl) (lv := [some (.ref (ad 9 0)), some (.int (nI g)), some (.int (nI m)), none]) rfl ?_
  refine x_aload_n dX9_leave_0 rfl ?_
  refine x_iload_n dX9_leave_1 rfl ?_
  refine x_iload_n dX9_leave_2 rfl ?_
  refine x_cV (as := [_, _]) dX9_leave_3 fX9_memberOf rfl lk_RX9_61 rfl (hp_get (κ := 9) (by decide)) rfl rfl (Nat.le_of_ble_eq_true rfl) (c_memberOf hg hm) (by simp) (by simp) ?_
  refine x_astore_n (lv' := [_, _, _, _]) dX9_leave_6 (by decide) rfl ?_
  refine x_aload_n dX9_leave_7 rfl ?_
  refine x_get dX9_leave_8 fl_RX9_65 (hp_get (κ := 4) (by first | assumption | (show _ < _; simp only [cnt]; omega))) rfl ?_
  refine x_if_ne (tgt := 16) dX9_leave_11 (by decide) (fun hc11 => ?_) (fun hc11 => by first | exact absurd h hc11 | exact absurd hc11 h)
  refine x_aload_n dX9_leave_16 rfl ?_
  refine x_cVv (as := []) dX9_leave_17 fX4_goAway rfl lk_RX9_75 rfl (hp_get (κ := 4) (by first | assumption | (show _ < _; simp only [cnt]; omega))) rfl rfl (Nat.le_of_ble_eq_true rfl) (c_goAway (by omega)) (by simp) (by simp) ?_
  refine x_aload_n dX9_leave_20 rfl ?_
  refine x_get dX9_leave_21 fl_RX9_24 (hp_get (κ := 9) (by decide)) rfl ?_
  refine x_iload_n dX9_leave_24 rfl ?_
  refine x_floors dX9_leave_25 (by decide) (by first | omega | exact sl16_lt _ | assumption) ?_
  refine x_iload_n dX9_leave_26 rfl ?_
  refine x_aload_n dX9_leave_27 rfl ?_
  refine x_get dX9_leave_28 fl_RX9_78 (hp_get (κ := 9) (by decide)) rfl ?_
  refine x_cVv (as := [_, _]) dX9_leave_31 fX1_takeBack rfl lk_RX9_81 rfl (hp_get (κ := 1) (by first | assumption | (show _ < _; simp only [cnt]; omega))) rfl rfl (Nat.le_of_ble_eq_true rfl) (c_takeBack hg hm (LiL.away.net hN) (LiL.away.I hI) _) (by simp) (by simp) ?_
  refine x_iconst (v := 1) dX9_leave_34 (by decide) ?_
  exact x_rI dX9_leave_35 rfl (by first | exact (bI_nf _).1 | decide) rfl rfl (by simp) (by simp)
set_option maxRecDepth 100000 in
set_option maxHeartbeats 4000000 in
theorem k_leaveN {X : XS} {d : Nat} {S : St} {x y : Int32} (h : badM x y) : Call X mX9_leave false (d + 8) [.ref (ad 9 0), .int x, .int y] (hp S) (.inr eN, hp (S), 1, 6) := by
  refine Call.of fX9_leave (by decide) rfl (by simp [Value.category]) (Nat.le_of_ble_eq_true rfl) (lv := [some (.ref (ad 9 0)), some (.int x), some (.int y), none]) rfl ?_
  refine x_aload_n dX9_leave_0 rfl ?_
  refine x_iload_n dX9_leave_1 rfl ?_
  refine x_iload_n dX9_leave_2 rfl ?_
  exact x_cVT (as := [_, _]) dX9_leave_3 fX9_memberOf rfl rfl lk_RX9_61 rfl (hp_get (κ := 9) (by decide)) rfl rfl (Nat.le_of_ble_eq_true rfl) (c_memberOfT h) rfl rfl (by simp) (by simp)
def tk_ask (S : St) (g m : Nat) : St := nt_send S 1 (nI g) (nI m) (S.1 4 (6 * g + m) 3) (bI (decide (¬ S.1 4 (6 * g + m) 4 = 0))) 0
set_option maxRecDepth 100000 in
set_option maxHeartbeats 4000000 in
theorem c_sendReq {X : XS} {d : Nat} {S : St} {g m : Nat} (hg : g < 3) (hm : m < 6) (hN : NetOK S) : Call X mX9_sendRequest false (d + 1) [.ref (ad 9 0), .int (nI g), .int (nI m), .ref (ad 4 (6 * g + m))] (hp S) (.inl none, hp (tk_ask S g m), 0, 0) := by
  refine Call.of fX9_sendRequest (by decide) rfl (by simp [Value.category]) (Nat.le_of_ble_eq_true rfl) (lv := [some (.ref (ad 9 0)), some (.int (nI g)), some (.int (nI m)), some (.ref (ad 4 (6 * g + m)))]) rfl ?_
  refine x_aload_n dX9_sendRequest_0 rfl ?_
  refine x_get dX9_sendRequest_1 fl_RX9_10 (hp_get (κ := 9) (by decide)) rfl ?_
  refine x_iconst (v := 1) dX9_sendRequest_4 (by decide) ?_
  refine x_iload_n dX9_sendRequest_5 rfl ?_
  refine x_iload_n dX9_sendRequest_6 rfl ?_
  refine x_aload_n dX9_sendRequest_7 rfl ?_
  refine x_get dX9_sendRequest_8 fl_RX9_95 (hp_get (κ := 4) (by first | assumption | (show _ < _; simp only [cnt]; omega))) rfl ?_
  refine x_aload_n dX9_sendRequest_11 rfl ?_
  refine x_get dX9_sendRequest_12 fl_RX9_98 (hp_get (κ := 4) (by first | assumption | (show _ < _; simp only [cnt]; omega))) rfl ?_
  refine x_if_eq (tgt := 22) dX9_sendRequest_15 (by decide) (fun hc15 => ?_) (fun hc15 => ?_)
  · refine x_iconst (v := 0) dX9_sendRequest_22 (by decide) ?_
    refine x_iconst (v := 0) dX9_sendRequest_23 (by decide) ?_
    refine x_cVv (as := [_, _, _, _, _, _]) dX9_sendRequest_24 fX6_send rfl lk_RX9_109 rfl (hp_get (κ := 6) (by decide)) rfl rfl (Nat.le_of_ble_eq_true rfl) (c_send hN _ _ _ _ _ _) (by simp) (by simp) ?_
    exact x_rV dX9_sendRequest_27 rfl rfl (by simp [tk_ask, bI, hc15]) (by simp) (by simp)
  · refine x_iconst (v := 1) dX9_sendRequest_18 (by decide) ?_
    refine x_goto (tgt := 23) dX9_sendRequest_19 (by decide) ?_
    refine x_iconst (v := 0) dX9_sendRequest_23 (by decide) ?_
    refine x_cVv (as := [_, _, _, _, _, _]) dX9_sendRequest_24 fX6_send rfl lk_RX9_109 rfl (hp_get (κ := 6) (by decide)) rfl rfl (Nat.le_of_ble_eq_true rfl) (c_send hN _ _ _ _ _ _) (by simp) (by simp) ?_
    exact x_rV dX9_sendRequest_27 rfl rfl (by simp [tk_ask, bI, hc15]) (by simp) (by simp)
def tk_pr0 (S : St) (g m : Nat) (e : Bool) : St := sc (sc (sc S 4 (6 * g + m) 3 (S.1 4 (6 * g + m) 3 + 1)) 4 (6 * g + m) 4 (bI e)) 4 (6 * g + m) 2 1
def tk_press (S : St) (g m : Nat) (e : Bool) : St := tk_ask (tk_pr0 S g m e) g m
theorem LiL.pr0 {S : St} {g m : Nat} {e : Bool} : LiL S (tk_pr0 S g m e) := ((LiL.set (by omega)).tr (.set (by omega))).tr (.set (by omega))
set_option maxRecDepth 100000 in
set_option maxHeartbeats 4000000 in
theorem k_press {X : XS} {d : Nat} {S : St} {g m : Nat} (hg : g < 3) (hm : m < 6) (e : Bool) (h : ¬ S.1 4 (6 * g + m) 0 = 0) (h2 : S.1 4 (6 * g + m) 2 = 0) (hN : NetOK S) : Call X mX9_press false (d + 3) [.ref (ad 9 0), .int (nI g), .int (nI m), .int (bI e)] (hp S) (.inl (some (.int ((tk_press S g m e).1 4 (6 * g + m) 3))), hp (tk_press S g m e), 0, 0) := by
  refine Call.of fX9_press (by decide) rfl (by simp [Value.category]) (Nat.le_of_ble_eq_true rfl) (lv := [some (.ref (ad 9 0)), some (.int (nI g)), some (.int (nI m)), some (.int (bI e)), none]) rfl ?_
  refine x_aload_n dX9_press_0 rfl ?_
  refine x_iload_n dX9_press_1 rfl ?_
  refine x_iload_n dX9_press_2 rfl ?_
  refine x_cV (as := [_, _]) dX9_press_3 fX9_memberThere rfl lk_RX9_85 rfl (hp_get (κ := 9) (by decide)) rfl rfl (Nat.le_of_ble_eq_true rfl) (c_there hg hm h) (by simp) (by simp) ?_
  refine x_astore (lv' := [_, _, _, _, _]) dX9_press_6 (by decide) rfl ?_
  refine x_aload dX9_press_8 rfl ?_
  refine x_get dX9_press_10 fl_RX9_88 (hp_get (κ := 4) (by first | assumption | (show _ < _; simp only [cnt]; omega))) rfl ?_
  refine x_if_ne (tgt := 20) dX9_press_13 (by decide) (fun hc13 => by first | exact absurd hc13 h2 | exact absurd h2 hc13) (fun hc13 => ?_)
  refine x_iconst (v := 1) dX9_press_16 (by decide) ?_
  refine x_goto (tgt := 21) dX9_press_17 (by decide) ?_
  refine x_cSv (as := [_]) dX9_press_21 fX9_needState rfl lk_RX9_91 rfl (Nat.le_of_ble_eq_true rfl) (c_needSt (by decide)) (by simp) (by simp) ?_
  refine x_aload dX9_press_24 rfl ?_
  refine x_dup dX9_press_26 rfl ?_
  refine x_get dX9_press_27 fl_RX9_95 (hp_get (κ := 4) (by first | assumption | (show _ < _; simp only [cnt]; omega))) rfl ?_
  refine x_iconst (v := 1) dX9_press_30 (by decide) ?_
  refine x_iadd dX9_press_31 ?_
  refine x_putC dX9_press_32 fp_RX9_95 (by first | assumption | (show _ < _; simp only [cnt]; omega)) pb_4_3 ⟨rfl, rfl⟩ ?_
  refine x_aload dX9_press_35 rfl ?_
  refine x_iload_n dX9_press_37 rfl ?_
  refine x_putC dX9_press_38 fp_RX9_98 (by first | assumption | (show _ < _; simp only [cnt]; omega)) pb_4_4 (by first | exact bI_nf _ | decide) ?_
  refine x_aload dX9_press_41 rfl ?_
  refine x_iconst (v := 1) dX9_press_43 (by decide) ?_
  refine x_putC dX9_press_44 fp_RX9_88 (by first | assumption | (show _ < _; simp only [cnt]; omega)) pb_4_2 ⟨rfl, rfl⟩ ?_
  refine x_heq (S2 := tk_pr0 S g m e) rfl ?_
  refine x_aload_n dX9_press_47 rfl ?_
  refine x_iload_n dX9_press_48 rfl ?_
  refine x_iload_n dX9_press_49 rfl ?_
  refine x_aload dX9_press_50 rfl ?_
  refine x_cVv (as := [_, _, _]) dX9_press_52 fX9_sendRequest rfl lk_RX9_101 rfl (hp_get (κ := 9) (by decide)) rfl rfl (Nat.le_of_ble_eq_true rfl) (c_sendReq hg hm (LiL.pr0 (e := e) |>.net hN)) (by simp) (by simp) ?_
  refine x_aload dX9_press_55 rfl ?_
  refine x_get dX9_press_57 fl_RX9_95 (hp_get (κ := 4) (by first | assumption | (show _ < _; simp only [cnt]; omega))) rfl ?_
  exact x_rI dX9_press_60 rfl rfl rfl rfl (by simp) (by simp)
set_option maxRecDepth 100000 in
set_option maxHeartbeats 4000000 in
theorem k_pressN {X : XS} {d : Nat} {S : St} {x y : Int32} (h : badM x y) {z : Int32} : Call X mX9_press false (d + 9) [.ref (ad 9 0), .int x, .int y, .int z] (hp S) (.inr eN, hp (S), 1, 6) := by
  refine Call.of fX9_press (by decide) rfl (by simp [Value.category]) (Nat.le_of_ble_eq_true rfl) (lv := [some (.ref (ad 9 0)), some (.int x), some (.int y), some (.int z), none]) rfl ?_
  refine x_aload_n dX9_press_0 rfl ?_
  refine x_iload_n dX9_press_1 rfl ?_
  refine x_iload_n dX9_press_2 rfl ?_
  exact x_cVT (as := [_, _]) dX9_press_3 fX9_memberThere rfl rfl lk_RX9_85 rfl (hp_get (κ := 9) (by decide)) rfl rfl (Nat.le_of_ble_eq_true rfl) (c_thereT h) rfl rfl (by simp) (by simp)
set_option maxRecDepth 100000 in
set_option maxHeartbeats 4000000 in
theorem k_pressS1 {X : XS} {d : Nat} {S : St} {g m : Nat} (hg : g < 3) (hm : m < 6) {z : Int32} (h : S.1 4 (6 * g + m) 0 = 0) : Call X mX9_press false (d + 8) [.ref (ad 9 0), .int (nI g), .int (nI m), .int z] (hp S) (.inr eS, hp (S), 1, 6) := by
  refine Call.of fX9_press (by decide) rfl (by simp [Value.category]) (Nat.le_of_ble_eq_true rfl) (lv := [some (.ref (ad 9 0)), some (.int (nI g)), some (.int (nI m)), some (.int z), none]) rfl ?_
  refine x_aload_n dX9_press_0 rfl ?_
  refine x_iload_n dX9_press_1 rfl ?_
  refine x_iload_n dX9_press_2 rfl ?_
  exact x_cVT (as := [_, _]) dX9_press_3 fX9_memberThere rfl rfl lk_RX9_85 rfl (hp_get (κ := 9) (by decide)) rfl rfl (Nat.le_of_ble_eq_true rfl) (c_thereS hg hm h) rfl rfl (by simp) (by simp)
set_option maxRecDepth 100000 in
set_option maxHeartbeats 4000000 in
theorem k_pressS2 {X : XS} {d : Nat} {S : St} {g m : Nat} (hg : g < 3) (hm : m < 6) {z : Int32} (h : ¬ S.1 4 (6 * g + m) 0 = 0) (h2 : ¬ S.1 4 (6 * g + m) 2 = 0) : Call X mX9_press false (d + 7) [.ref (ad 9 0), .int (nI g), .int (nI m), .int z] (hp S) (.inr eS, hp (S), 1, 6) := by
  refine Call.of fX9_press (by decide) rfl (by simp [Value.category]) (Nat.le_of_ble_eq_true rfl) (lv := [some (.ref (ad 9 0)), some (.int (nI g)), some (.int (nI m)), some (.int z), none]) rfl ?_
  refine x_aload_n dX9_press_0 rfl ?_
  refine x_iload_n dX9_press_1 rfl ?_
  refine x_iload_n dX9_press_2 rfl ?_
  refine x_cV (as := [_, _]) dX9_press_3 fX9_memberThere rfl lk_RX9_85 rfl (hp_get (κ := 9) (by decide)) rfl rfl (Nat.le_of_ble_eq_true rfl) (c_there hg hm h) (by simp) (by simp) ?_
  refine x_astore (lv' := [_, _, _, _, _]) dX9_press_6 (by decide) rfl ?_
  refine x_aload dX9_press_8 rfl ?_
  refine x_get dX9_press_10 fl_RX9_88 (hp_get (κ := 4) (by first | assumption | (show _ < _; simp only [cnt]; omega))) rfl ?_
  refine x_if_ne (tgt := 20) dX9_press_13 (by decide) (fun hc13 => ?_) (fun hc13 => by first | exact absurd h2 hc13 | exact absurd hc13 h2)
  refine x_iconst (v := 0) dX9_press_20 (by decide) ?_
  exact x_cST (as := [_]) dX9_press_21 fX9_needState rfl rfl lk_RX9_91 rfl (Nat.le_of_ble_eq_true rfl) (c_needStT rfl) rfl rfl (by simp) (by simp)
set_option maxRecDepth 100000 in
set_option maxHeartbeats 4000000 in
theorem k_again {X : XS} {d : Nat} {S : St} {g m : Nat} (hg : g < 3) (hm : m < 6) (h : ¬ S.1 4 (6 * g + m) 0 = 0) (h2 : me_asks S (6 * g + m) = true) (hN : NetOK S) : Call X mX9_again false (d + 3) [.ref (ad 9 0), .int (nI g), .int (nI m)] (hp S) (.inl none, hp (tk_ask S g m), 0, 0) := by
  refine Call.of fX9_again (by decide) rfl (by simp [Value.category]) (Nat.le_of_ble_eq_true rfl) (lv := [some (.ref (ad 9 0)), some (.int (nI g)), some (.int (nI m)), none]) rfl ?_
  refine x_aload_n dX9_again_0 rfl ?_
  refine x_iload_n dX9_again_1 rfl ?_
  refine x_iload_n dX9_again_2 rfl ?_
  refine x_cV (as := [_, _]) dX9_again_3 fX9_memberThere rfl lk_RX9_85 rfl (hp_get (κ := 9) (by decide)) rfl rfl (Nat.le_of_ble_eq_true rfl) (c_there hg hm h) (by simp) (by simp) ?_
  refine x_astore_n (lv' := [_, _, _, _]) dX9_again_6 (by decide) rfl ?_
  refine x_aload_n dX9_again_7 rfl ?_
  refine x_cV (as := []) dX9_again_8 fX4_isAsking rfl lk_RX9_105 rfl (hp_get (κ := 4) (by first | assumption | (show _ < _; simp only [cnt]; omega))) rfl rfl (Nat.le_of_ble_eq_true rfl) (c_isAsking (by omega)) (by simp) (by simp) ?_
  refine x_cSv (as := [_]) dX9_again_11 fX9_needState rfl lk_RX9_91 rfl (Nat.le_of_ble_eq_true rfl) (c_needSt (by rw [h2]; decide)) (by simp) (by simp) ?_
  refine x_aload_n dX9_again_14 rfl ?_
  refine x_iload_n dX9_again_15 rfl ?_
  refine x_iload_n dX9_again_16 rfl ?_
  refine x_aload_n dX9_again_17 rfl ?_
  refine x_cVv (as := [_, _, _]) dX9_again_18 fX9_sendRequest rfl lk_RX9_101 rfl (hp_get (κ := 9) (by decide)) rfl rfl (Nat.le_of_ble_eq_true rfl) (c_sendReq hg hm hN) (by simp) (by simp) ?_
  exact x_rV dX9_again_21 rfl rfl rfl (by simp) (by simp)
set_option maxRecDepth 100000 in
set_option maxHeartbeats 4000000 in
theorem k_againN {X : XS} {d : Nat} {S : St} {x y : Int32} (h : badM x y) : Call X mX9_again false (d + 9) [.ref (ad 9 0), .int x, .int y] (hp S) (.inr eN, hp (S), 1, 6) := by
  refine Call.of fX9_again (by decide) rfl (by simp [Value.category]) (Nat.le_of_ble_eq_true rfl) (lv := [some (.ref (ad 9 0)), some (.int x), some (.int y), none]) rfl ?_
  refine x_aload_n dX9_again_0 rfl ?_
  refine x_iload_n dX9_again_1 rfl ?_
  refine x_iload_n dX9_again_2 rfl ?_
  exact x_cVT (as := [_, _]) dX9_again_3 fX9_memberThere rfl rfl lk_RX9_85 rfl (hp_get (κ := 9) (by decide)) rfl rfl (Nat.le_of_ble_eq_true rfl) (c_thereT h) rfl rfl (by simp) (by simp)
set_option maxRecDepth 100000 in
set_option maxHeartbeats 4000000 in
theorem k_againS1 {X : XS} {d : Nat} {S : St} {g m : Nat} (hg : g < 3) (hm : m < 6) (h : S.1 4 (6 * g + m) 0 = 0) : Call X mX9_again false (d + 8) [.ref (ad 9 0), .int (nI g), .int (nI m)] (hp S) (.inr eS, hp (S), 1, 6) := by
  refine Call.of fX9_again (by decide) rfl (by simp [Value.category]) (Nat.le_of_ble_eq_true rfl) (lv := [some (.ref (ad 9 0)), some (.int (nI g)), some (.int (nI m)), none]) rfl ?_
  refine x_aload_n dX9_again_0 rfl ?_
  refine x_iload_n dX9_again_1 rfl ?_
  refine x_iload_n dX9_again_2 rfl ?_
  exact x_cVT (as := [_, _]) dX9_again_3 fX9_memberThere rfl rfl lk_RX9_85 rfl (hp_get (κ := 9) (by decide)) rfl rfl (Nat.le_of_ble_eq_true rfl) (c_thereS hg hm h) rfl rfl (by simp) (by simp)
set_option maxRecDepth 100000 in
set_option maxHeartbeats 4000000 in
theorem k_againS2 {X : XS} {d : Nat} {S : St} {g m : Nat} (hg : g < 3) (hm : m < 6) (h : ¬ S.1 4 (6 * g + m) 0 = 0) (h2 : me_asks S (6 * g + m) = false) : Call X mX9_again false (d + 7) [.ref (ad 9 0), .int (nI g), .int (nI m)] (hp S) (.inr eS, hp (S), 1, 6) := by
  refine Call.of fX9_again (by decide) rfl (by simp [Value.category]) (Nat.le_of_ble_eq_true rfl) (lv := [some (.ref (ad 9 0)), some (.int (nI g)), some (.int (nI m)), none]) rfl ?_
  refine x_aload_n dX9_again_0 rfl ?_
  refine x_iload_n dX9_again_1 rfl ?_
  refine x_iload_n dX9_again_2 rfl ?_
  refine x_cV (as := [_, _]) dX9_again_3 fX9_memberThere rfl lk_RX9_85 rfl (hp_get (κ := 9) (by decide)) rfl rfl (Nat.le_of_ble_eq_true rfl) (c_there hg hm h) (by simp) (by simp) ?_
  refine x_astore_n (lv' := [_, _, _, _]) dX9_again_6 (by decide) rfl ?_
  refine x_aload_n dX9_again_7 rfl ?_
  refine x_cV (as := []) dX9_again_8 fX4_isAsking rfl lk_RX9_105 rfl (hp_get (κ := 4) (by first | assumption | (show _ < _; simp only [cnt]; omega))) rfl rfl (Nat.le_of_ble_eq_true rfl) (c_isAsking (by omega)) (by simp) (by simp) ?_
  exact x_cST (as := [_]) dX9_again_11 fX9_needState rfl rfl lk_RX9_91 rfl (Nat.le_of_ble_eq_true rfl) (c_needStT (by rw [h2]; decide)) rfl rfl (by simp) (by simp)
def tk_rel (S : St) (g m : Nat) : St := nt_send (sc S 4 (6 * g + m) 2 0) 2 (nI g) (nI m) ((sc S 4 (6 * g + m) 2 0).1 4 (6 * g + m) 3) 0 0
set_option maxRecDepth 100000 in
set_option maxHeartbeats 4000000 in
theorem k_release {X : XS} {d : Nat} {S : St} {g m : Nat} (hg : g < 3) (hm : m < 6) (h : ¬ S.1 4 (6 * g + m) 0 = 0) (h2 : ¬ S.1 4 (6 * g + m) 2 = 0) (hN : NetOK S) : Call X mX9_release false (d + 3) [.ref (ad 9 0), .int (nI g), .int (nI m)] (hp S) (.inl none, hp (tk_rel S g m), 0, 0) := by
  refine Call.of fX9_release (by decide) rfl (by simp [Value.category]) (Nat.le_of_ble_eq_true rfl) (lv := [some (.ref (ad 9 0)), some (.int (nI g)), some (.int (nI m)), none]) rfl ?_
  refine x_aload_n dX9_release_0 rfl ?_
  refine x_iload_n dX9_release_1 rfl ?_
  refine x_iload_n dX9_release_2 rfl ?_
  refine x_cV (as := [_, _]) dX9_release_3 fX9_memberThere rfl lk_RX9_85 rfl (hp_get (κ := 9) (by decide)) rfl rfl (Nat.le_of_ble_eq_true rfl) (c_there hg hm h) (by simp) (by simp) ?_
  refine x_astore_n (lv' := [_, _, _, _]) dX9_release_6 (by decide) rfl ?_
  refine x_aload_n dX9_release_7 rfl ?_
  refine x_get dX9_release_8 fl_RX9_88 (hp_get (κ := 4) (by first | assumption | (show _ < _; simp only [cnt]; omega))) rfl ?_
  refine x_if_eq (tgt := 18) dX9_release_11 (by decide) (fun hc11 => by first | exact absurd hc11 h2 | exact absurd h2 hc11) (fun hc11 => ?_)
  refine x_iconst (v := 1) dX9_release_14 (by decide) ?_
  refine x_goto (tgt := 19) dX9_release_15 (by decide) ?_
  refine x_cSv (as := [_]) dX9_release_19 fX9_needState rfl lk_RX9_91 rfl (Nat.le_of_ble_eq_true rfl) (c_needSt (by decide)) (by simp) (by simp) ?_
  refine x_aload_n dX9_release_22 rfl ?_
  refine x_iconst (v := 0) dX9_release_23 (by decide) ?_
  refine x_putC dX9_release_24 fp_RX9_88 (by first | assumption | (show _ < _; simp only [cnt]; omega)) pb_4_2 ⟨rfl, rfl⟩ ?_
  refine x_aload_n dX9_release_27 rfl ?_
  refine x_get dX9_release_28 fl_RX9_10 (hp_get (κ := 9) (by decide)) rfl ?_
  refine x_iconst (v := 2) dX9_release_31 (by decide) ?_
  refine x_iload_n dX9_release_32 rfl ?_
  refine x_iload_n dX9_release_33 rfl ?_
  refine x_aload_n dX9_release_34 rfl ?_
  refine x_get dX9_release_35 fl_RX9_95 (hp_get (κ := 4) (by first | assumption | (show _ < _; simp only [cnt]; omega))) rfl ?_
  refine x_iconst (v := 0) dX9_release_38 (by decide) ?_
  refine x_iconst (v := 0) dX9_release_39 (by decide) ?_
  refine x_cVv (as := [_, _, _, _, _, _]) dX9_release_40 fX6_send rfl lk_RX9_109 rfl (hp_get (κ := 6) (by decide)) rfl rfl (Nat.le_of_ble_eq_true rfl) (c_send (hN.sc (by decide) (by decide)) _ _ _ _ _ _) (by simp) (by simp) ?_
  exact x_rV dX9_release_43 rfl rfl rfl (by simp) (by simp)
set_option maxRecDepth 100000 in
set_option maxHeartbeats 4000000 in
theorem k_releaseN {X : XS} {d : Nat} {S : St} {x y : Int32} (h : badM x y) : Call X mX9_release false (d + 9) [.ref (ad 9 0), .int x, .int y] (hp S) (.inr eN, hp (S), 1, 6) := by
  refine Call.of fX9_release (by decide) rfl (by simp [Value.category]) (Nat.le_of_ble_eq_true rfl) (lv := [some (.ref (ad 9 0)), some (.int x), some (.int y), none]) rfl ?_
  refine x_aload_n dX9_release_0 rfl ?_
  refine x_iload_n dX9_release_1 rfl ?_
  refine x_iload_n dX9_release_2 rfl ?_
  exact x_cVT (as := [_, _]) dX9_release_3 fX9_memberThere rfl rfl lk_RX9_85 rfl (hp_get (κ := 9) (by decide)) rfl rfl (Nat.le_of_ble_eq_true rfl) (c_thereT h) rfl rfl (by simp) (by simp)
set_option maxRecDepth 100000 in
set_option maxHeartbeats 4000000 in
theorem k_releaseS1 {X : XS} {d : Nat} {S : St} {g m : Nat} (hg : g < 3) (hm : m < 6) (h : S.1 4 (6 * g + m) 0 = 0) : Call X mX9_release false (d + 8) [.ref (ad 9 0), .int (nI g), .int (nI m)] (hp S) (.inr eS, hp (S), 1, 6) := by
  refine Call.of fX9_release (by decide) rfl (by simp [Value.category]) (Nat.le_of_ble_eq_true rfl) (lv := [some (.ref (ad 9 0)), some (.int (nI g)), some (.int (nI m)), none]) rfl ?_
  refine x_aload_n dX9_release_0 rfl ?_
  refine x_iload_n dX9_release_1 rfl ?_
  refine x_iload_n dX9_release_2 rfl ?_
  exact x_cVT (as := [_, _]) dX9_release_3 fX9_memberThere rfl rfl lk_RX9_85 rfl (hp_get (κ := 9) (by decide)) rfl rfl (Nat.le_of_ble_eq_true rfl) (c_thereS hg hm h) rfl rfl (by simp) (by simp)
set_option maxRecDepth 100000 in
set_option maxHeartbeats 4000000 in
theorem k_releaseS2 {X : XS} {d : Nat} {S : St} {g m : Nat} (hg : g < 3) (hm : m < 6) (h : ¬ S.1 4 (6 * g + m) 0 = 0) (h2 : S.1 4 (6 * g + m) 2 = 0) : Call X mX9_release false (d + 7) [.ref (ad 9 0), .int (nI g), .int (nI m)] (hp S) (.inr eS, hp (S), 1, 6) := by
  refine Call.of fX9_release (by decide) rfl (by simp [Value.category]) (Nat.le_of_ble_eq_true rfl) (lv := [some (.ref (ad 9 0)), some (.int (nI g)), some (.int (nI m)), none]) rfl ?_
  refine x_aload_n dX9_release_0 rfl ?_
  refine x_iload_n dX9_release_1 rfl ?_
  refine x_iload_n dX9_release_2 rfl ?_
  refine x_cV (as := [_, _]) dX9_release_3 fX9_memberThere rfl lk_RX9_85 rfl (hp_get (κ := 9) (by decide)) rfl rfl (Nat.le_of_ble_eq_true rfl) (c_there hg hm h) (by simp) (by simp) ?_
  refine x_astore_n (lv' := [_, _, _, _]) dX9_release_6 (by decide) rfl ?_
  refine x_aload_n dX9_release_7 rfl ?_
  refine x_get dX9_release_8 fl_RX9_88 (hp_get (κ := 4) (by first | assumption | (show _ < _; simp only [cnt]; omega))) rfl ?_
  refine x_if_eq (tgt := 18) dX9_release_11 (by decide) (fun hc11 => ?_) (fun hc11 => by first | exact absurd h2 hc11 | exact absurd hc11 h2)
  refine x_iconst (v := 0) dX9_release_18 (by decide) ?_
  exact x_cST (as := [_]) dX9_release_19 fX9_needState rfl rfl lk_RX9_91 rfl (Nat.le_of_ble_eq_true rfl) (c_needStT rfl) rfl rfl (by simp) (by simp)
def tk_unit (S : St) (g m : Nat) (v : Int32) : St := let S1 := sc S 4 (6 * g + m) 7 (S.1 4 (6 * g + m) 7 + 1); nt_send S1 11 (nI g) (nI m) (S1.1 4 (6 * g + m) 6) (S.1 4 (6 * g + m) 7) v
set_option maxRecDepth 100000 in
set_option maxHeartbeats 4000000 in
theorem k_unit {X : XS} {d : Nat} {S : St} {g m : Nat} (hg : g < 3) (hm : m < 6) (v : Int32) (h : ¬ S.1 4 (6 * g + m) 0 = 0) (h2 : me_talks S (6 * g + m) = true) (h3 : S.1 4 (6 * g + m) 7 < 64) (hN : NetOK S) : Call X mX9_unit false (d + 3) [.ref (ad 9 0), .int (nI g), .int (nI m), .int v] (hp S) (.inl (some (.int (S.1 4 (6 * g + m) 7))), hp (tk_unit S g m v), 0, 0) := by
  refine Call.of fX9_unit (by decide) rfl (by simp [Value.category]) (Nat.le_of_ble_eq_true rfl) (lv := [some (.ref (ad 9 0)), some (.int (nI g)), some (.int (nI m)), some (.int v), none, none]) rfl ?_
  refine x_aload_n dX9_unit_0 rfl ?_
  refine x_iload_n dX9_unit_1 rfl ?_
  refine x_iload_n dX9_unit_2 rfl ?_
  refine x_cV (as := [_, _]) dX9_unit_3 fX9_memberThere rfl lk_RX9_85 rfl (hp_get (κ := 9) (by decide)) rfl rfl (Nat.le_of_ble_eq_true rfl) (c_there hg hm h) (by simp) (by simp) ?_
  refine x_astore (lv' := [_, _, _, _, _, _]) dX9_unit_6 (by decide) rfl ?_
  refine x_aload dX9_unit_8 rfl ?_
  refine x_cV (as := []) dX9_unit_10 fX4_isTalking rfl lk_RX9_113 rfl (hp_get (κ := 4) (by first | assumption | (show _ < _; simp only [cnt]; omega))) rfl rfl (Nat.le_of_ble_eq_true rfl) (c_isTalking (by omega)) (by simp) (by simp) ?_
  refine x_cSv (as := [_]) dX9_unit_13 fX9_needState rfl lk_RX9_91 rfl (Nat.le_of_ble_eq_true rfl) (c_needSt (by rw [h2]; decide)) (by simp) (by simp) ?_
  refine x_aload dX9_unit_16 rfl ?_
  refine x_get dX9_unit_18 fl_RX9_116 (hp_get (κ := 4) (by first | assumption | (show _ < _; simp only [cnt]; omega))) rfl ?_
  refine x_bipush (v := 64) dX9_unit_21 (by decide) ?_
  refine x_icmp_lt (tgt := 34) dX9_unit_23 (by decide) (fun hc23 => ?_) (fun hc23 => by first | exact absurd h3 hc23 | exact absurd hc23 h3)
  refine x_aload dX9_unit_34 rfl ?_
  refine x_get dX9_unit_36 fl_RX9_116 (hp_get (κ := 4) (by first | assumption | (show _ < _; simp only [cnt]; omega))) rfl ?_
  refine x_istore (lv' := [_, _, _, _, _, _]) dX9_unit_39 (by decide) rfl ?_
  refine x_aload dX9_unit_41 rfl ?_
  refine x_dup dX9_unit_43 rfl ?_
  refine x_get dX9_unit_44 fl_RX9_116 (hp_get (κ := 4) (by first | assumption | (show _ < _; simp only [cnt]; omega))) rfl ?_
  refine x_iconst (v := 1) dX9_unit_47 (by decide) ?_
  refine x_iadd dX9_unit_48 ?_
  refine x_putC dX9_unit_49 fp_RX9_116 (by first | assumption | (show _ < _; simp only [cnt]; omega)) pb_4_7 ⟨rfl, rfl⟩ ?_
  refine x_aload_n dX9_unit_52 rfl ?_
  refine x_get dX9_unit_53 fl_RX9_10 (hp_get (κ := 9) (by decide)) rfl ?_
  refine x_bipush (v := 11) dX9_unit_56 (by decide) ?_
  refine x_iload_n dX9_unit_58 rfl ?_
  refine x_iload_n dX9_unit_59 rfl ?_
  refine x_aload dX9_unit_60 rfl ?_
  refine x_get dX9_unit_62 fl_RX9_122 (hp_get (κ := 4) (by first | assumption | (show _ < _; simp only [cnt]; omega))) rfl ?_
  refine x_iload dX9_unit_65 rfl ?_
  refine x_iload_n dX9_unit_67 rfl ?_
  refine x_cVv (as := [_, _, _, _, _, _]) dX9_unit_68 fX6_send rfl lk_RX9_109 rfl (hp_get (κ := 6) (by decide)) rfl rfl (Nat.le_of_ble_eq_true rfl) (c_send (hN.sc (by decide) (by decide)) _ _ _ _ _ _) (by simp) (by simp) ?_
  refine x_iload dX9_unit_71 rfl ?_
  exact x_rI dX9_unit_73 rfl rfl rfl rfl (by simp) (by simp)
set_option maxRecDepth 100000 in
set_option maxHeartbeats 4000000 in
theorem k_unitN {X : XS} {d : Nat} {S : St} {x y : Int32} (h : badM x y) {v : Int32} : Call X mX9_unit false (d + 9) [.ref (ad 9 0), .int x, .int y, .int v] (hp S) (.inr eN, hp (S), 1, 6) := by
  refine Call.of fX9_unit (by decide) rfl (by simp [Value.category]) (Nat.le_of_ble_eq_true rfl) (lv := [some (.ref (ad 9 0)), some (.int x), some (.int y), some (.int v), none, none]) rfl ?_
  refine x_aload_n dX9_unit_0 rfl ?_
  refine x_iload_n dX9_unit_1 rfl ?_
  refine x_iload_n dX9_unit_2 rfl ?_
  exact x_cVT (as := [_, _]) dX9_unit_3 fX9_memberThere rfl rfl lk_RX9_85 rfl (hp_get (κ := 9) (by decide)) rfl rfl (Nat.le_of_ble_eq_true rfl) (c_thereT h) rfl rfl (by simp) (by simp)
set_option maxRecDepth 100000 in
set_option maxHeartbeats 4000000 in
theorem k_unitS1 {X : XS} {d : Nat} {S : St} {g m : Nat} (hg : g < 3) (hm : m < 6) {v : Int32} (h : S.1 4 (6 * g + m) 0 = 0) : Call X mX9_unit false (d + 8) [.ref (ad 9 0), .int (nI g), .int (nI m), .int v] (hp S) (.inr eS, hp (S), 1, 6) := by
  refine Call.of fX9_unit (by decide) rfl (by simp [Value.category]) (Nat.le_of_ble_eq_true rfl) (lv := [some (.ref (ad 9 0)), some (.int (nI g)), some (.int (nI m)), some (.int v), none, none]) rfl ?_
  refine x_aload_n dX9_unit_0 rfl ?_
  refine x_iload_n dX9_unit_1 rfl ?_
  refine x_iload_n dX9_unit_2 rfl ?_
  exact x_cVT (as := [_, _]) dX9_unit_3 fX9_memberThere rfl rfl lk_RX9_85 rfl (hp_get (κ := 9) (by decide)) rfl rfl (Nat.le_of_ble_eq_true rfl) (c_thereS hg hm h) rfl rfl (by simp) (by simp)
set_option maxRecDepth 100000 in
set_option maxHeartbeats 4000000 in
theorem k_unitS2 {X : XS} {d : Nat} {S : St} {g m : Nat} (hg : g < 3) (hm : m < 6) (v : Int32) (h : ¬ S.1 4 (6 * g + m) 0 = 0) (h2 : me_talks S (6 * g + m) = false) : Call X mX9_unit false (d + 7) [.ref (ad 9 0), .int (nI g), .int (nI m), .int v] (hp S) (.inr eS, hp (S), 1, 6) := by
  refine Call.of fX9_unit (by decide) rfl (by simp [Value.category]) (Nat.le_of_ble_eq_true rfl) (lv := [some (.ref (ad 9 0)), some (.int (nI g)), some (.int (nI m)), some (.int v), none, none]) rfl ?_
  refine x_aload_n dX9_unit_0 rfl ?_
  refine x_iload_n dX9_unit_1 rfl ?_
  refine x_iload_n dX9_unit_2 rfl ?_
  refine x_cV (as := [_, _]) dX9_unit_3 fX9_memberThere rfl lk_RX9_85 rfl (hp_get (κ := 9) (by decide)) rfl rfl (Nat.le_of_ble_eq_true rfl) (c_there hg hm h) (by simp) (by simp) ?_
  refine x_astore (lv' := [_, _, _, _, _, _]) dX9_unit_6 (by decide) rfl ?_
  refine x_aload dX9_unit_8 rfl ?_
  refine x_cV (as := []) dX9_unit_10 fX4_isTalking rfl lk_RX9_113 rfl (hp_get (κ := 4) (by first | assumption | (show _ < _; simp only [cnt]; omega))) rfl rfl (Nat.le_of_ble_eq_true rfl) (c_isTalking (by omega)) (by simp) (by simp) ?_
  exact x_cST (as := [_]) dX9_unit_13 fX9_needState rfl rfl lk_RX9_91 rfl (Nat.le_of_ble_eq_true rfl) (c_needStT (by rw [h2]; decide)) rfl rfl (by simp) (by simp)
set_option maxRecDepth 100000 in
set_option maxHeartbeats 4000000 in
theorem k_unitU {X : XS} {d : Nat} {S : St} {g m : Nat} (hg : g < 3) (hm : m < 6) (v : Int32) (h : ¬ S.1 4 (6 * g + m) 0 = 0) (h2 : me_talks S (6 * g + m) = true) (h3 : ¬ S.1 4 (6 * g + m) 7 < 64) : Call X mX9_unit false (d + 6) [.ref (ad 9 0), .int (nI g), .int (nI m), .int v] (hp S) (.inr eU, hp (S), 1, 6) := by
  refine Call.of fX9_unit (by decide) rfl (by simp [Value.category]) (Nat.le_of_ble_eq_true rfl) (lv := [some (.ref (ad 9 0)), some (.int (nI g)), some (.int (nI m)), some (.int v), none, none]) rfl ?_
  refine x_aload_n dX9_unit_0 rfl ?_
  refine x_iload_n dX9_unit_1 rfl ?_
  refine x_iload_n dX9_unit_2 rfl ?_
  refine x_cV (as := [_, _]) dX9_unit_3 fX9_memberThere rfl lk_RX9_85 rfl (hp_get (κ := 9) (by decide)) rfl rfl (Nat.le_of_ble_eq_true rfl) (c_there hg hm h) (by simp) (by simp) ?_
  refine x_astore (lv' := [_, _, _, _, _, _]) dX9_unit_6 (by decide) rfl ?_
  refine x_aload dX9_unit_8 rfl ?_
  refine x_cV (as := []) dX9_unit_10 fX4_isTalking rfl lk_RX9_113 rfl (hp_get (κ := 4) (by first | assumption | (show _ < _; simp only [cnt]; omega))) rfl rfl (Nat.le_of_ble_eq_true rfl) (c_isTalking (by omega)) (by simp) (by simp) ?_
  refine x_cSv (as := [_]) dX9_unit_13 fX9_needState rfl lk_RX9_91 rfl (Nat.le_of_ble_eq_true rfl) (c_needSt (by rw [h2]; decide)) (by simp) (by simp) ?_
  refine x_aload dX9_unit_16 rfl ?_
  refine x_get dX9_unit_18 fl_RX9_116 (hp_get (κ := 4) (by first | assumption | (show _ < _; simp only [cnt]; omega))) rfl ?_
  refine x_bipush (v := 64) dX9_unit_21 (by decide) ?_
  refine x_icmp_lt (tgt := 34) dX9_unit_23 (by decide) (fun hc23 => by first | exact absurd hc23 h3 | exact absurd h3 hc23) (fun hc23 => ?_)
  exact x_rT th_eU rfl dX9_unit_26 dX9_unit_29 dX9_unit_30 dX9_unit_33 (by omega) (Nat.le_of_ble_eq_true rfl) rfl rfl (by simp) (by simp)
set_option maxRecDepth 100000 in
set_option maxHeartbeats 4000000 in
theorem k_messages {X : XS} {d : Nat} {S : St}  : Call X mX9_messages false d [.ref (ad 9 0)] (hp S) (.inl (some (.int (S.1 6 0 2))), hp (S), 0, 0) := by
  refine Call.of fX9_messages (by decide) rfl (by simp [Value.category]) (Nat.le_of_ble_eq_true rfl) (lv := [some (.ref (ad 9 0))]) rfl ?_
  refine x_aload_n dX9_messages_0 rfl ?_
  refine x_get dX9_messages_1 fl_RX9_10 (hp_get (κ := 9) (by decide)) rfl ?_
  refine x_get dX9_messages_4 fl_RX9_125 (hp_get (κ := 6) (by decide)) rfl ?_
  exact x_rI dX9_messages_7 rfl rfl rfl rfl (by simp) (by simp)
set_option maxRecDepth 100000 in
set_option maxHeartbeats 4000000 in
theorem k_lost {X : XS} {d : Nat} {S : St}  : Call X mX9_lost false d [.ref (ad 9 0)] (hp S) (.inl (some (.int (S.1 6 0 3))), hp (S), 0, 0) := by
  refine Call.of fX9_lost (by decide) rfl (by simp [Value.category]) (Nat.le_of_ble_eq_true rfl) (lv := [some (.ref (ad 9 0))]) rfl ?_
  refine x_aload_n dX9_lost_0 rfl ?_
  refine x_get dX9_lost_1 fl_RX9_10 (hp_get (κ := 9) (by decide)) rfl ?_
  refine x_get dX9_lost_4 fl_RX9_174 (hp_get (κ := 6) (by decide)) rfl ?_
  exact x_rI dX9_lost_7 rfl rfl rfl rfl (by simp) (by simp)
set_option maxRecDepth 100000 in
set_option maxHeartbeats 4000000 in
theorem k_message {X : XS} {d : Nat} {S : St} {k j : Nat} (hk : nI k < S.1 6 0 2) (hk6 : k < 61) (hj : j < 6) (hN : NetOK S) : Call X mX9_message false (d + 1) [.ref (ad 9 0), .int (nI k), .int (nI j)] (hp S) (.inl (some (.int (S.1 5 (nt_at S k) j))), hp (S), 0, 0) := by
  refine Call.of fX9_message (by decide) rfl (by simp [Value.category]) (Nat.le_of_ble_eq_true rfl) (lv := [some (.ref (ad 9 0)), some (.int (nI k)), some (.int (nI j))]) rfl ?_
  refine x_aload_n dX9_message_0 rfl ?_
  refine x_iload_n dX9_message_1 rfl ?_
  refine x_cVv (as := [_]) dX9_message_2 fX9_needMessage rfl lk_RX9_128 rfl (hp_get (κ := 9) (by decide)) rfl rfl (Nat.le_of_ble_eq_true rfl) (c_needMsg (nI_pos (by omega)) hk) (by simp) (by simp) ?_
  refine x_iload_n dX9_message_5 rfl ?_
  refine x_bipush (v := 6) dX9_message_6 (by decide) ?_
  refine x_cSv (as := [_, _]) dX9_message_8 fX9_needIndex rfl lk_RX9_131 rfl (Nat.le_of_ble_eq_true rfl) (c_needIdx (nI_pos (by omega)) (nI_lt (b := 6) hj (by decide))) (by simp) (by simp) ?_
  refine x_aload_n dX9_message_11 rfl ?_
  refine x_get dX9_message_12 fl_RX9_10 (hp_get (κ := 9) (by decide)) rfl ?_
  refine x_iload_n dX9_message_15 rfl ?_
  refine x_cV (as := [_]) dX9_message_16 fX6_at rfl lk_RX9_134 rfl (hp_get (κ := 6) (by decide)) rfl rfl (Nat.le_of_ble_eq_true rfl) (c_at hN hk6) (by simp) (by simp) ?_
  refine x_iload_n dX9_message_19 rfl ?_
  refine x_cV (as := [_]) dX9_message_20 fX5_field rfl lk_RX9_138 rfl (hp_get (κ := 5) (nt_at_ok hN hk6).1) rfl rfl (Nat.le_of_ble_eq_true rfl) (c_msgField (nt_at_ok hN hk6).1 (by omega) hj) (by simp) (by simp) ?_
  exact x_rI dX9_message_23 rfl rfl rfl rfl (by simp) (by simp)
set_option maxRecDepth 100000 in
set_option maxHeartbeats 4000000 in
theorem k_messageN {X : XS} {d : Nat} {S : St} {x y : Int32} (hx : x < 0 ∨ ¬ x < S.1 6 0 2) : Call X mX9_message false (d + 7) [.ref (ad 9 0), .int x, .int y] (hp S) (.inr eN, hp (S), 1, 6) := by
  refine Call.of fX9_message (by decide) rfl (by simp [Value.category]) (Nat.le_of_ble_eq_true rfl) (lv := [some (.ref (ad 9 0)), some (.int x), some (.int y)]) rfl ?_
  refine x_aload_n dX9_message_0 rfl ?_
  refine x_iload_n dX9_message_1 rfl ?_
  exact x_cVT (as := [_]) dX9_message_2 fX9_needMessage rfl rfl lk_RX9_128 rfl (hp_get (κ := 9) (by decide)) rfl rfl (Nat.le_of_ble_eq_true rfl) (c_needMsgT hx) rfl rfl (by simp) (by simp)
set_option maxRecDepth 100000 in
set_option maxHeartbeats 4000000 in
theorem k_messageI {X : XS} {d : Nat} {S : St} {x y : Int32} (hx : ¬ x < 0) (hx2 : x < S.1 6 0 2) (hy : y < 0 ∨ ¬ y < 6) : Call X mX9_message false (d + 7) [.ref (ad 9 0), .int x, .int y] (hp S) (.inr eI, hp (S), 1, 6) := by
  refine Call.of fX9_message (by decide) rfl (by simp [Value.category]) (Nat.le_of_ble_eq_true rfl) (lv := [some (.ref (ad 9 0)), some (.int x), some (.int y)]) rfl ?_
  refine x_aload_n dX9_message_0 rfl ?_
  refine x_iload_n dX9_message_1 rfl ?_
  refine x_cVv (as := [_]) dX9_message_2 fX9_needMessage rfl lk_RX9_128 rfl (hp_get (κ := 9) (by decide)) rfl rfl (Nat.le_of_ble_eq_true rfl) (c_needMsg hx hx2) (by simp) (by simp) ?_
  refine x_iload_n dX9_message_5 rfl ?_
  refine x_bipush (v := 6) dX9_message_6 (by decide) ?_
  exact x_cST (as := [_, _]) dX9_message_8 fX9_needIndex rfl rfl lk_RX9_131 rfl (Nat.le_of_ble_eq_true rfl) (c_needIdxT hy) rfl rfl (by simp) (by simp)
set_option maxRecDepth 100000 in
set_option maxHeartbeats 4000000 in
theorem k_server {X : XS} {d : Nat} {S : St} {g j : Nat} (hg : g < 3) (hj : j < 6) : Call X mX9_server false (d + 1) [.ref (ad 9 0), .int (nI g), .int (nI j)] (hp S) (.inl (some (.int (fl_field S g j))), hp (S), 0, 0) := by
  refine Call.of fX9_server (by decide) rfl (by simp [Value.category]) (Nat.le_of_ble_eq_true rfl) (lv := [some (.ref (ad 9 0)), some (.int (nI g)), some (.int (nI j))]) rfl ?_
  refine x_iload_n dX9_server_0 rfl ?_
  refine x_cSv (as := [_]) dX9_server_1 fX9_needGroup rfl lk_RX9_43 rfl (Nat.le_of_ble_eq_true rfl) (c_needGroup hg) (by simp) (by simp) ?_
  refine x_iload_n dX9_server_4 rfl ?_
  refine x_bipush (v := 6) dX9_server_5 (by decide) ?_
  refine x_cSv (as := [_, _]) dX9_server_7 fX9_needIndex rfl lk_RX9_131 rfl (Nat.le_of_ble_eq_true rfl) (c_needIdx (nI_pos (by omega)) (nI_lt (b := 6) hj (by decide))) (by simp) (by simp) ?_
  refine x_aload_n dX9_server_10 rfl ?_
  refine x_get dX9_server_11 fl_RX9_24 (hp_get (κ := 9) (by decide)) rfl ?_
  refine x_iload_n dX9_server_14 rfl ?_
  refine x_floors dX9_server_15 (by decide) (by first | omega | exact sl16_lt _ | assumption) ?_
  refine x_iload_n dX9_server_16 rfl ?_
  refine x_cV (as := [_]) dX9_server_17 fX1_field rfl lk_RX9_157 rfl (hp_get (κ := 1) (by first | assumption | (show _ < _; simp only [cnt]; omega))) rfl rfl (Nat.le_of_ble_eq_true rfl) (c_flField hg (by omega) hj) (by simp) (by simp) ?_
  exact x_rI dX9_server_20 rfl rfl rfl rfl (by simp) (by simp)
set_option maxRecDepth 100000 in
set_option maxHeartbeats 4000000 in
theorem k_serverN {X : XS} {d : Nat} {S : St} {x y : Int32} (hx : x < 0 ∨ ¬ x < 3) : Call X mX9_server false (d + 7) [.ref (ad 9 0), .int x, .int y] (hp S) (.inr eN, hp (S), 1, 6) := by
  refine Call.of fX9_server (by decide) rfl (by simp [Value.category]) (Nat.le_of_ble_eq_true rfl) (lv := [some (.ref (ad 9 0)), some (.int x), some (.int y)]) rfl ?_
  refine x_iload_n dX9_server_0 rfl ?_
  exact x_cST (as := [_]) dX9_server_1 fX9_needGroup rfl rfl lk_RX9_43 rfl (Nat.le_of_ble_eq_true rfl) (c_needGroupT hx) rfl rfl (by simp) (by simp)
set_option maxRecDepth 100000 in
set_option maxHeartbeats 4000000 in
theorem k_serverI {X : XS} {d : Nat} {S : St} {g : Nat} {y : Int32} (hg : g < 3) (hy : y < 0 ∨ ¬ y < 6) : Call X mX9_server false (d + 7) [.ref (ad 9 0), .int (nI g), .int y] (hp S) (.inr eI, hp (S), 1, 6) := by
  refine Call.of fX9_server (by decide) rfl (by simp [Value.category]) (Nat.le_of_ble_eq_true rfl) (lv := [some (.ref (ad 9 0)), some (.int (nI g)), some (.int y)]) rfl ?_
  refine x_iload_n dX9_server_0 rfl ?_
  refine x_cSv (as := [_]) dX9_server_1 fX9_needGroup rfl lk_RX9_43 rfl (Nat.le_of_ble_eq_true rfl) (c_needGroup hg) (by simp) (by simp) ?_
  refine x_iload_n dX9_server_4 rfl ?_
  refine x_bipush (v := 6) dX9_server_5 (by decide) ?_
  exact x_cST (as := [_, _]) dX9_server_7 fX9_needIndex rfl rfl lk_RX9_131 rfl (Nat.le_of_ble_eq_true rfl) (c_needIdxT hy) rfl rfl (by simp) (by simp)
set_option maxRecDepth 100000 in
set_option maxHeartbeats 4000000 in
theorem k_relay {X : XS} {d : Nat} {S : St} {g j : Nat} (hg : g < 3) (hj : j < 4) : Call X mX9_relay false (d + 1) [.ref (ad 9 0), .int (nI g), .int (nI j)] (hp S) (.inl (some (.int (S.1 2 g (j + 2)))), hp (S), 0, 0) := by
  refine Call.of fX9_relay (by decide) rfl (by simp [Value.category]) (Nat.le_of_ble_eq_true rfl) (lv := [some (.ref (ad 9 0)), some (.int (nI g)), some (.int (nI j))]) rfl ?_
  refine x_iload_n dX9_relay_0 rfl ?_
  refine x_cSv (as := [_]) dX9_relay_1 fX9_needGroup rfl lk_RX9_43 rfl (Nat.le_of_ble_eq_true rfl) (c_needGroup hg) (by simp) (by simp) ?_
  refine x_iload_n dX9_relay_4 rfl ?_
  refine x_iconst (v := 4) dX9_relay_5 (by decide) ?_
  refine x_cSv (as := [_, _]) dX9_relay_6 fX9_needIndex rfl lk_RX9_131 rfl (Nat.le_of_ble_eq_true rfl) (c_needIdx (nI_pos (by omega)) (nI_lt (b := 4) hj (by decide))) (by simp) (by simp) ?_
  refine x_aload_n dX9_relay_9 rfl ?_
  refine x_get dX9_relay_10 fl_RX9_30 (hp_get (κ := 9) (by decide)) rfl ?_
  refine x_iload_n dX9_relay_13 rfl ?_
  refine x_gates dX9_relay_14 (by decide) (by first | omega | exact sl16_lt _ | assumption) ?_
  refine x_iload_n dX9_relay_15 rfl ?_
  refine x_cV (as := [_]) dX9_relay_16 fX2_field rfl lk_RX9_165 rfl (hp_get (κ := 2) (by first | assumption | (show _ < _; simp only [cnt]; omega))) rfl rfl (Nat.le_of_ble_eq_true rfl) (c_gtField hg (by omega) hj) (by simp) (by simp) ?_
  exact x_rI dX9_relay_19 rfl rfl rfl rfl (by simp) (by simp)
set_option maxRecDepth 100000 in
set_option maxHeartbeats 4000000 in
theorem k_relayN {X : XS} {d : Nat} {S : St} {x y : Int32} (hx : x < 0 ∨ ¬ x < 3) : Call X mX9_relay false (d + 7) [.ref (ad 9 0), .int x, .int y] (hp S) (.inr eN, hp (S), 1, 6) := by
  refine Call.of fX9_relay (by decide) rfl (by simp [Value.category]) (Nat.le_of_ble_eq_true rfl) (lv := [some (.ref (ad 9 0)), some (.int x), some (.int y)]) rfl ?_
  refine x_iload_n dX9_relay_0 rfl ?_
  exact x_cST (as := [_]) dX9_relay_1 fX9_needGroup rfl rfl lk_RX9_43 rfl (Nat.le_of_ble_eq_true rfl) (c_needGroupT hx) rfl rfl (by simp) (by simp)
set_option maxRecDepth 100000 in
set_option maxHeartbeats 4000000 in
theorem k_relayI {X : XS} {d : Nat} {S : St} {g : Nat} {y : Int32} (hg : g < 3) (hy : y < 0 ∨ ¬ y < 4) : Call X mX9_relay false (d + 7) [.ref (ad 9 0), .int (nI g), .int y] (hp S) (.inr eI, hp (S), 1, 6) := by
  refine Call.of fX9_relay (by decide) rfl (by simp [Value.category]) (Nat.le_of_ble_eq_true rfl) (lv := [some (.ref (ad 9 0)), some (.int (nI g)), some (.int y)]) rfl ?_
  refine x_iload_n dX9_relay_0 rfl ?_
  refine x_cSv (as := [_]) dX9_relay_1 fX9_needGroup rfl lk_RX9_43 rfl (Nat.le_of_ble_eq_true rfl) (c_needGroup hg) (by simp) (by simp) ?_
  refine x_iload_n dX9_relay_4 rfl ?_
  refine x_iconst (v := 4) dX9_relay_5 (by decide) ?_
  exact x_cST (as := [_, _]) dX9_relay_6 fX9_needIndex rfl rfl lk_RX9_131 rfl (Nat.le_of_ble_eq_true rfl) (c_needIdxT hy) rfl rfl (by simp) (by simp)
set_option maxRecDepth 100000 in
set_option maxHeartbeats 4000000 in
theorem k_waiting {X : XS} {d : Nat} {S : St} {g k : Nat} (hg : g < 3) (hI : FlI S g) (hk : k < wN S g) : Call X mX9_waiting false (d + 1) [.ref (ad 9 0), .int (nI g), .int (nI k)] (hp S) (.inl (some (.int (S.1 13 g k))), hp (S), 0, 0) := by
  refine Call.of fX9_waiting (by decide) rfl (by simp [Value.category]) (Nat.le_of_ble_eq_true rfl) (lv := [some (.ref (ad 9 0)), some (.int (nI g)), some (.int (nI k))]) rfl ?_
  refine x_iload_n dX9_waiting_0 rfl ?_
  refine x_cSv (as := [_]) dX9_waiting_1 fX9_needGroup rfl lk_RX9_43 rfl (Nat.le_of_ble_eq_true rfl) (c_needGroup hg) (by simp) (by simp) ?_
  refine x_iload_n dX9_waiting_4 rfl ?_
  refine x_aload_n dX9_waiting_5 rfl ?_
  refine x_get dX9_waiting_6 fl_RX9_24 (hp_get (κ := 9) (by decide)) rfl ?_
  refine x_iload_n dX9_waiting_9 rfl ?_
  refine x_floors dX9_waiting_10 (by decide) (by first | omega | exact sl16_lt _ | assumption) ?_
  refine x_get dX9_waiting_11 fl_RX9_158 (hp_get (κ := 1) (by first | assumption | (show _ < _; simp only [cnt]; omega))) rfl ?_
  refine x_cSv (as := [_, _]) dX9_waiting_14 fX9_needIndex rfl lk_RX9_131 rfl (Nat.le_of_ble_eq_true rfl) (c_needIdx (nI_pos (by have := hI.1.2.1; omega)) (by rw [hI.1.1]; exact nI_lt hk (by have := hI.1.2.1; omega))) (by simp) (by simp) ?_
  refine x_aload_n dX9_waiting_17 rfl ?_
  refine x_get dX9_waiting_18 fl_RX9_24 (hp_get (κ := 9) (by decide)) rfl ?_
  refine x_iload_n dX9_waiting_21 rfl ?_
  refine x_floors dX9_waiting_22 (by decide) (by first | omega | exact sl16_lt _ | assumption) ?_
  refine x_get dX9_waiting_23 fl_RX9_161 (hp_get (κ := 1) (by first | assumption | (show _ < _; simp only [cnt]; omega))) rfl ?_
  refine x_iload_n dX9_waiting_26 rfl ?_
  refine x_ialdC dX9_waiting_27 ac_13 (by first | assumption | (show _ < _; simp only [cnt]; omega)) (by have := hI.1.2.1; omega) (by decide) ?_
  exact x_rI dX9_waiting_28 rfl rfl rfl rfl (by simp) (by simp)
set_option maxRecDepth 100000 in
set_option maxHeartbeats 4000000 in
theorem k_waitingN {X : XS} {d : Nat} {S : St} {x y : Int32} (hx : x < 0 ∨ ¬ x < 3) : Call X mX9_waiting false (d + 7) [.ref (ad 9 0), .int x, .int y] (hp S) (.inr eN, hp (S), 1, 6) := by
  refine Call.of fX9_waiting (by decide) rfl (by simp [Value.category]) (Nat.le_of_ble_eq_true rfl) (lv := [some (.ref (ad 9 0)), some (.int x), some (.int y)]) rfl ?_
  refine x_iload_n dX9_waiting_0 rfl ?_
  exact x_cST (as := [_]) dX9_waiting_1 fX9_needGroup rfl rfl lk_RX9_43 rfl (Nat.le_of_ble_eq_true rfl) (c_needGroupT hx) rfl rfl (by simp) (by simp)
set_option maxRecDepth 100000 in
set_option maxHeartbeats 4000000 in
theorem k_waitingI {X : XS} {d : Nat} {S : St} {g : Nat} {y : Int32} (hg : g < 3) (hy : y < 0 ∨ ¬ y < S.1 1 g 5) : Call X mX9_waiting false (d + 7) [.ref (ad 9 0), .int (nI g), .int y] (hp S) (.inr eI, hp (S), 1, 6) := by
  refine Call.of fX9_waiting (by decide) rfl (by simp [Value.category]) (Nat.le_of_ble_eq_true rfl) (lv := [some (.ref (ad 9 0)), some (.int (nI g)), some (.int y)]) rfl ?_
  refine x_iload_n dX9_waiting_0 rfl ?_
  refine x_cSv (as := [_]) dX9_waiting_1 fX9_needGroup rfl lk_RX9_43 rfl (Nat.le_of_ble_eq_true rfl) (c_needGroup hg) (by simp) (by simp) ?_
  refine x_iload_n dX9_waiting_4 rfl ?_
  refine x_aload_n dX9_waiting_5 rfl ?_
  refine x_get dX9_waiting_6 fl_RX9_24 (hp_get (κ := 9) (by decide)) rfl ?_
  refine x_iload_n dX9_waiting_9 rfl ?_
  refine x_floors dX9_waiting_10 (by decide) (by first | omega | exact sl16_lt _ | assumption) ?_
  refine x_get dX9_waiting_11 fl_RX9_158 (hp_get (κ := 1) (by first | assumption | (show _ < _; simp only [cnt]; omega))) rfl ?_
  exact x_cST (as := [_, _]) dX9_waiting_14 fX9_needIndex rfl rfl lk_RX9_131 rfl (Nat.le_of_ble_eq_true rfl) (c_needIdxT hy) rfl rfl (by simp) (by simp)
def tk_about (S : St) (i j : Nat) : Int32 := if j < 8 then me_field S i j else li_field S i j
set_option maxRecDepth 100000 in
set_option maxHeartbeats 4000000 in
theorem k_about {X : XS} {d : Nat} {S : St} {g m : Nat} (hg : g < 3) (hm : m < 6) {j : Nat} (hj : j < 15) : Call X mX9_about false (d + 2) [.ref (ad 9 0), .int (nI g), .int (nI m), .int (nI j)] (hp S) (.inl (some (.int (tk_about S (6 * g + m) j))), hp (S), 0, 0) := by
  refine Call.of fX9_about (by decide) rfl (by simp [Value.category]) (Nat.le_of_ble_eq_true rfl) (lv := [some (.ref (ad 9 0)), some (.int (nI g)), some (.int (nI m)), some (.int (nI j)), none]) rfl ?_
  refine x_aload_n dX9_about_0 rfl ?_
  refine x_iload_n dX9_about_1 rfl ?_
  refine x_iload_n dX9_about_2 rfl ?_
  refine x_cV (as := [_, _]) dX9_about_3 fX9_memberOf rfl lk_RX9_61 rfl (hp_get (κ := 9) (by decide)) rfl rfl (Nat.le_of_ble_eq_true rfl) (c_memberOf hg hm) (by simp) (by simp) ?_
  refine x_astore (lv' := [_, _, _, _, _]) dX9_about_6 (by decide) rfl ?_
  refine x_iload_n dX9_about_8 rfl ?_
  refine x_bipush (v := 15) dX9_about_9 (by decide) ?_
  refine x_cSv (as := [_, _]) dX9_about_11 fX9_needIndex rfl lk_RX9_131 rfl (Nat.le_of_ble_eq_true rfl) (c_needIdx (nI_pos (by omega)) (nI_lt (b := 15) hj (by decide))) (by simp) (by simp) ?_
  refine x_iload_n dX9_about_14 rfl ?_
  refine x_bipush (v := 8) dX9_about_15 (by decide) ?_
  refine x_icmp_ge (tgt := 29) dX9_about_17 (by decide) (fun hc17 => ?_) (fun hc17 => ?_)
  · have h8 : 8 ≤ j := (nI_leI (a := 8) (by decide) (by omega)).mp hc17
    refine x_aload dX9_about_29 rfl ?_
    refine x_get dX9_about_31 fl_RX9_167 (hp_get (κ := 4) (by first | assumption | (show _ < _; simp only [cnt]; omega))) rfl ?_
    refine x_iload_n dX9_about_34 rfl ?_
    refine x_cV (as := [_]) dX9_about_35 fX3_field rfl lk_RX9_171 rfl (hp_get (κ := 3) (by first | assumption | (show _ < _; simp only [cnt]; omega))) rfl rfl (Nat.le_of_ble_eq_true rfl) (c_liField (by omega) h8 hj) (by simp) (by simp) ?_
    exact x_rI dX9_about_38 rfl rfl (by first | (unfold tk_about; rw [if_pos h8]) | (unfold tk_about; rw [if_neg (by omega)])) rfl (by simp) (by simp)
  · have h8 : j < 8 := Nat.not_le.mp (fun z => hc17 (nI_le (a := 8) z (by omega)))
    refine x_aload dX9_about_20 rfl ?_
    refine x_iload_n dX9_about_22 rfl ?_
    refine x_cV (as := [_]) dX9_about_23 fX4_field rfl lk_RX9_166 rfl (hp_get (κ := 4) (by first | assumption | (show _ < _; simp only [cnt]; omega))) rfl rfl (Nat.le_of_ble_eq_true rfl) (c_meField (by omega) (by omega) h8) (by simp) (by simp) ?_
    refine x_goto (tgt := 38) dX9_about_26 (by decide) ?_
    exact x_rI dX9_about_38 rfl rfl (by first | (unfold tk_about; rw [if_pos h8]) | (unfold tk_about; rw [if_neg (by omega)])) rfl (by simp) (by simp)
set_option maxRecDepth 100000 in
set_option maxHeartbeats 4000000 in
theorem k_aboutN {X : XS} {d : Nat} {S : St} {x y : Int32} (h : badM x y) {z : Int32} : Call X mX9_about false (d + 8) [.ref (ad 9 0), .int x, .int y, .int z] (hp S) (.inr eN, hp (S), 1, 6) := by
  refine Call.of fX9_about (by decide) rfl (by simp [Value.category]) (Nat.le_of_ble_eq_true rfl) (lv := [some (.ref (ad 9 0)), some (.int x), some (.int y), some (.int z), none]) rfl ?_
  refine x_aload_n dX9_about_0 rfl ?_
  refine x_iload_n dX9_about_1 rfl ?_
  refine x_iload_n dX9_about_2 rfl ?_
  exact x_cVT (as := [_, _]) dX9_about_3 fX9_memberOf rfl rfl lk_RX9_61 rfl (hp_get (κ := 9) (by decide)) rfl rfl (Nat.le_of_ble_eq_true rfl) (c_memberOfT h) rfl rfl (by simp) (by simp)
set_option maxRecDepth 100000 in
set_option maxHeartbeats 4000000 in
theorem k_aboutI {X : XS} {d : Nat} {S : St} {g m : Nat} (hg : g < 3) (hm : m < 6) {z : Int32} (hz : z < 0 ∨ ¬ z < 15) : Call X mX9_about false (d + 7) [.ref (ad 9 0), .int (nI g), .int (nI m), .int z] (hp S) (.inr eI, hp (S), 1, 6) := by
  refine Call.of fX9_about (by decide) rfl (by simp [Value.category]) (Nat.le_of_ble_eq_true rfl) (lv := [some (.ref (ad 9 0)), some (.int (nI g)), some (.int (nI m)), some (.int z), none]) rfl ?_
  refine x_aload_n dX9_about_0 rfl ?_
  refine x_iload_n dX9_about_1 rfl ?_
  refine x_iload_n dX9_about_2 rfl ?_
  refine x_cV (as := [_, _]) dX9_about_3 fX9_memberOf rfl lk_RX9_61 rfl (hp_get (κ := 9) (by decide)) rfl rfl (Nat.le_of_ble_eq_true rfl) (c_memberOf hg hm) (by simp) (by simp) ?_
  refine x_astore (lv' := [_, _, _, _, _]) dX9_about_6 (by decide) rfl ?_
  refine x_iload_n dX9_about_8 rfl ?_
  refine x_bipush (v := 15) dX9_about_9 (by decide) ?_
  exact x_cST (as := [_, _]) dX9_about_11 fX9_needIndex rfl rfl lk_RX9_131 rfl (Nat.le_of_ble_eq_true rfl) (c_needIdxT hz) rfl rfl (by simp) (by simp)
