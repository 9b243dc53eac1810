theorem sc_get {S : St} {κ i k a b c : Nat} {v : Int32} : (sc S κ i k v).1 a b c = if a = κ ∧ b = i ∧ c = k then v else S.1 a b c := rfl
theorem sc_2 {S : St} {κ i k : Nat} {v : Int32} : (sc S κ i k v).2 = S.2 := rfl
theorem sl_1 {S : St} {g : Nat} {v : Int64} : (sl S g v).1 = S.1 := rfl
theorem sl_get {S : St} {g a : Nat} {v : Int64} : (sl S g v).2.1 a = if a = g then v else S.2.1 a := rfl
theorem sl_22 {S : St} {g : Nat} {v : Int64} : (sl S g v).2.2 = S.2.2 := rfl
theorem lgc0 {x y : Int64} : lg_cmp x y = 0 ↔ x = y := by
  unfold lg_cmp
  by_cases h1 : y < x
  · simp only [h1, if_true]
    constructor
    · intro h; exact absurd h (by decide)
    · intro h; subst h; exact absurd h1 (by simp)
  · by_cases h2 : x = y
    · simp [h1, h2]
    · simp only [h1, h2, if_false]
      constructor
      · intro h; exact absurd h (by decide)
      · intro h; exact h.elim
def cl_renew (S : St) (i : Nat) (a : Int32) (e : Bool) (p : Int32) : St := sc (sc (sc (sc S 0 i 0 a) 0 i 1 0) 0 i 2 (bI e)) 0 i 3 p
set_option maxRecDepth 100000 in
set_option maxHeartbeats 4000000 in
theorem c_renew {X : XS} {d : Nat} {S : St} {i : Nat} (hi : i < 18) (a : Int32) (e : Bool) (p : Int32) : Call X mX0_renew false d [.ref (ad 0 i), .int a, .int (bI e), .int p] (hp S) (.inl none, hp (cl_renew S i a e p), 0, 0) := by
  refine Call.of fX0_renew (by decide) rfl (by simp [Value.category]) (Nat.le_of_ble_eq_true rfl) (lv := [some (.ref (ad 0 i)), some (.int a), some (.int (bI e)), some (.int p)]) rfl ?_
  refine x_aload_n dX0_renew_0 rfl ?_
  refine x_iload_n dX0_renew_1 rfl ?_
  refine x_putC dX0_renew_2 fp_RX0_7 (by first | assumption | (show _ < _; simp only [cnt]; omega)) pb_0_0 ⟨rfl, rfl⟩ ?_
  refine x_aload_n dX0_renew_5 rfl ?_
  refine x_iconst (v := 0) dX0_renew_6 (by decide) ?_
  refine x_putC dX0_renew_7 fp_RX0_13 (by first | assumption | (show _ < _; simp only [cnt]; omega)) pb_0_1 (by first | exact bI_nf _ | decide) ?_
  refine x_aload_n dX0_renew_10 rfl ?_
  refine x_iload_n dX0_renew_11 rfl ?_
  refine x_putC dX0_renew_12 fp_RX0_17 (by first | assumption | (show _ < _; simp only [cnt]; omega)) pb_0_2 (by first | exact bI_nf _ | decide) ?_
  refine x_aload_n dX0_renew_15 rfl ?_
  refine x_iload_n dX0_renew_16 rfl ?_
  refine x_putC dX0_renew_17 fp_RX0_20 (by first | assumption | (show _ < _; simp only [cnt]; omega)) pb_0_3 ⟨rfl, rfl⟩ ?_
  exact x_rV dX0_renew_20 rfl rfl rfl (by simp) (by simp)
def cl_above (S : St) (i j : Nat) : Bool := if S.1 0 i 2 = S.1 0 j 2 then decide (¬ S.1 0 i 3 ≤ S.1 0 j 3) else decide (S.1 0 i 2 = 1)
set_option maxRecDepth 100000 in
set_option maxHeartbeats 4000000 in
theorem c_isAbove {X : XS} {d : Nat} {S : St} {i j : Nat} (hi : i < 18) (hj : j < 18) (h2 : S.1 0 i 2 = 0 ∨ S.1 0 i 2 = 1) : Call X mX0_isAbove false d [.ref (ad 0 i), .ref (ad 0 j)] (hp S) (.inl (some (.int (bI (cl_above S i j)))), hp (S), 0, 0) := by
  refine Call.of fX0_isAbove (by decide) rfl (by simp [Value.category]) (Nat.le_of_ble_eq_true rfl) (lv := [some (.ref (ad 0 i)), some (.ref (ad 0 j))]) rfl ?_
  refine x_aload_n dX0_isAbove_0 rfl ?_
  refine x_get dX0_isAbove_1 fl_RX0_17 (hp_get (κ := 0) (by first | assumption | (show _ < _; simp only [cnt]; omega))) rfl ?_
  refine x_aload_n dX0_isAbove_4 rfl ?_
  refine x_get dX0_isAbove_5 fl_RX0_17 (hp_get (κ := 0) (by first | assumption | (show _ < _; simp only [cnt]; omega))) rfl ?_
  refine x_icmp_eq (tgt := 16) dX0_isAbove_8 (by decide) (fun hc8 => ?_) (fun hc8 => ?_)
  · refine x_aload_n dX0_isAbove_16 rfl ?_
    refine x_get dX0_isAbove_17 fl_RX0_20 (hp_get (κ := 0) (by first | assumption | (show _ < _; simp only [cnt]; omega))) rfl ?_
    refine x_aload_n dX0_isAbove_20 rfl ?_
    refine x_get dX0_isAbove_21 fl_RX0_20 (hp_get (κ := 0) (by first | assumption | (show _ < _; simp only [cnt]; omega))) rfl ?_
    refine x_icmp_le (tgt := 31) dX0_isAbove_24 (by decide) (fun hc24 => ?_) (fun hc24 => ?_)
    · refine x_iconst (v := 0) dX0_isAbove_31 (by decide) ?_
      exact x_rI dX0_isAbove_32 rfl (by first | exact (bI_nf _).1 | decide) (by rcases h2 with h2 | h2 <;> simp_all [cl_above, bI]) rfl (by simp) (by simp)
    · refine x_iconst (v := 1) dX0_isAbove_27 (by decide) ?_
      refine x_goto (tgt := 32) dX0_isAbove_28 (by decide) ?_
      exact x_rI dX0_isAbove_32 rfl (by first | exact (bI_nf _).1 | decide) (by rcases h2 with h2 | h2 <;> simp_all [cl_above, bI]) rfl (by simp) (by simp)
  · refine x_aload_n dX0_isAbove_11 rfl ?_
    refine x_get dX0_isAbove_12 fl_RX0_17 (hp_get (κ := 0) (by first | assumption | (show _ < _; simp only [cnt]; omega))) rfl ?_
    exact x_rI dX0_isAbove_15 rfl (by rcases h2 with h2 | h2 <;> rw [h2] <;> decide) (by rcases h2 with h2 | h2 <;> simp_all [cl_above, bI]) rfl (by simp) (by simp)
def ru_set (S : St) (i : Nat) (p : Bool) (l d g : Int32) : St := sc (sc (sc (sc S 8 i 0 (bI p)) 8 i 1 l) 8 i 2 d) 8 i 3 g
set_option maxRecDepth 100000 in
set_option maxHeartbeats 4000000 in
theorem c_ruSet {X : XS} {d : Nat} {S : St} {i : Nat} (hi : i < 6) (p : Bool) (a b c : Int32) : Call X mX8_set false d [.ref (ad 8 i), .int (bI p), .int a, .int b, .int c] (hp S) (.inl none, hp (ru_set S i p a b c), 0, 0) := by
  refine Call.of fX8_set (by decide) rfl (by simp [Value.category]) (Nat.le_of_ble_eq_true rfl) (lv := [some (.ref (ad 8 i)), some (.int (bI p)), some (.int a), some (.int b), some (.int c)]) rfl ?_
  refine x_aload_n dX8_set_0 rfl ?_
  refine x_iload_n dX8_set_1 rfl ?_
  refine x_putC dX8_set_2 fp_RX8_19 (by first | assumption | (show _ < _; simp only [cnt]; omega)) pb_8_0 (by first | exact bI_nf _ | decide) ?_
  refine x_aload_n dX8_set_5 rfl ?_
  refine x_iload_n dX8_set_6 rfl ?_
  refine x_putC dX8_set_7 fp_RX8_7 (by first | assumption | (show _ < _; simp only [cnt]; omega)) pb_8_1 ⟨rfl, rfl⟩ ?_
  refine x_aload_n dX8_set_10 rfl ?_
  refine x_iload_n dX8_set_11 rfl ?_
  refine x_putC dX8_set_12 fp_RX8_13 (by first | assumption | (show _ < _; simp only [cnt]; omega)) pb_8_2 ⟨rfl, rfl⟩ ?_
  refine x_aload_n dX8_set_15 rfl ?_
  refine x_iload dX8_set_16 rfl ?_
  refine x_putC dX8_set_18 fp_RX8_16 (by first | assumption | (show _ < _; simp only [cnt]; omega)) pb_8_3 ⟨rfl, rfl⟩ ?_
  exact x_rV dX8_set_21 rfl rfl rfl (by simp) (by simp)
set_option maxRecDepth 100000 in
set_option maxHeartbeats 4000000 in
theorem c_ruCopy {X : XS} {d : Nat} {S : St} {i j : Nat} (hi : i < 6) (hj : j < 6) (p : Bool) (hp0 : S.1 8 j 0 = bI p) : Call X mX8_copyFrom false (d + 1) [.ref (ad 8 i), .ref (ad 8 j)] (hp S) (.inl none, hp (ru_set S i p (S.1 8 j 1) (S.1 8 j 2) (S.1 8 j 3)), 0, 0) := by
  refine Call.of fX8_copyFrom (by decide) rfl (by simp [Value.category]) (Nat.le_of_ble_eq_true rfl) (lv := [some (.ref (ad 8 i)), some (.ref (ad 8 j))]) rfl ?_
  refine x_aload_n dX8_copyFrom_0 rfl ?_
  refine x_aload_n dX8_copyFrom_1 rfl ?_
  refine x_get dX8_copyFrom_2 fl_RX8_19 (hp_get (κ := 8) (by first | assumption | (show _ < _; simp only [cnt]; omega))) rfl ?_
  refine x_eqi hp0 ?_
  refine x_aload_n dX8_copyFrom_5 rfl ?_
  refine x_get dX8_copyFrom_6 fl_RX8_7 (hp_get (κ := 8) (by first | assumption | (show _ < _; simp only [cnt]; omega))) rfl ?_
  refine x_aload_n dX8_copyFrom_9 rfl ?_
  refine x_get dX8_copyFrom_10 fl_RX8_13 (hp_get (κ := 8) (by first | assumption | (show _ < _; simp only [cnt]; omega))) rfl ?_
  refine x_aload_n dX8_copyFrom_13 rfl ?_
  refine x_get dX8_copyFrom_14 fl_RX8_16 (hp_get (κ := 8) (by first | assumption | (show _ < _; simp only [cnt]; omega))) rfl ?_
  refine x_cVv (as := [_, _, _, _]) dX8_copyFrom_17 fX8_set rfl lk_RX8_23 rfl (hp_get (κ := 8) (by first | assumption | (show _ < _; simp only [cnt]; omega))) rfl rfl (Nat.le_of_ble_eq_true rfl) (c_ruSet hi p _ _ _) (by simp) (by simp) ?_
  exact x_rV dX8_copyFrom_20 rfl rfl rfl (by simp) (by simp)
def gt_hear (S : St) (g : Nat) (a b : Int32) : St := if a ≤ S.1 2 g 2 then (if a = S.1 2 g 2 then (if b = -1 then sc S 2 g 3 (-1) else S) else S) else sl (sc (sc S 2 g 2 a) 2 g 3 b) g 0
set_option maxRecDepth 100000 in
set_option maxHeartbeats 4000000 in
theorem c_hearGate {X : XS} {d : Nat} {S : St} {g : Nat} (hg : g < 3) (a b : Int32) : Call X mX2_hearGate false d [.ref (ad 2 g), .int a, .int b] (hp S) (.inl none, hp (gt_hear S g a b), 0, 0) := by
  refine Call.of fX2_hearGate (by decide) rfl (by simp [Value.category]) (Nat.le_of_ble_eq_true rfl) (lv := [some (.ref (ad 2 g)), some (.int a), some (.int b)]) rfl ?_
  refine x_iload_n dX2_hearGate_0 rfl ?_
  refine x_aload_n dX2_hearGate_1 rfl ?_
  refine x_get dX2_hearGate_2 fl_RX2_23 (hp_get (κ := 2) (by first | assumption | (show _ < _; simp only [cnt]; omega))) rfl ?_
  refine x_icmp_le (tgt := 26) dX2_hearGate_5 (by decide) (fun hc5 => ?_) (fun hc5 => ?_)
  · refine x_iload_n dX2_hearGate_26 rfl ?_
    refine x_aload_n dX2_hearGate_27 rfl ?_
    refine x_get dX2_hearGate_28 fl_RX2_23 (hp_get (κ := 2) (by first | assumption | (show _ < _; simp only [cnt]; omega))) rfl ?_
    refine x_icmp_ne (tgt := 44) dX2_hearGate_31 (by decide) (fun hc31 => ?_) (fun hc31 => ?_)
    · exact x_rV dX2_hearGate_44 rfl rfl (by first | (simp [gt_hear, hc5, hc31]; done) | (exfalso; simp_all; done)) (by simp) (by simp)
    · refine x_iload_n dX2_hearGate_34 rfl ?_
      refine x_iconst (v := (-1)) dX2_hearGate_35 (by decide) ?_
      refine x_icmp_ne (tgt := 44) dX2_hearGate_36 (by decide) (fun hc36 => ?_) (fun hc36 => ?_)
      · exact x_rV dX2_hearGate_44 rfl rfl (by first | (simp [gt_hear, hc5, hc31, hc36]; done) | (exfalso; simp_all; done)) (by simp) (by simp)
      · refine x_aload_n dX2_hearGate_39 rfl ?_
        refine x_iconst (v := (-1)) dX2_hearGate_40 (by decide) ?_
        refine x_putC dX2_hearGate_41 fp_RX2_9 (by first | assumption | (show _ < _; simp only [cnt]; omega)) pb_2_3 ⟨rfl, rfl⟩ ?_
        exact x_rV dX2_hearGate_44 rfl rfl (by first | (simp [gt_hear, hc5, hc31, hc36]; done) | (exfalso; simp_all; done)) (by simp) (by simp)
  · refine x_aload_n dX2_hearGate_8 rfl ?_
    refine x_iload_n dX2_hearGate_9 rfl ?_
    refine x_putC dX2_hearGate_10 fp_RX2_23 (by first | assumption | (show _ < _; simp only [cnt]; omega)) pb_2_2 ⟨rfl, rfl⟩ ?_
    refine x_aload_n dX2_hearGate_13 rfl ?_
    refine x_iload_n dX2_hearGate_14 rfl ?_
    refine x_putC dX2_hearGate_15 fp_RX2_9 (by first | assumption | (show _ < _; simp only [cnt]; omega)) pb_2_3 ⟨rfl, rfl⟩ ?_
    refine x_aload_n dX2_hearGate_18 rfl ?_
    refine x_lconst (v := 0) dX2_hearGate_19 (by decide) ?_
    refine x_putL dX2_hearGate_20 fp_RX2_26 (by first | assumption | (show _ < _; simp only [cnt]; omega)) ?_
    refine x_goto (tgt := 44) dX2_hearGate_23 (by decide) ?_
    exact x_rV dX2_hearGate_44 rfl rfl (by first | (simp [gt_hear, hc5]; done) | (exfalso; simp_all; done)) (by simp) (by simp)
def gt_lets (S : St) (g : Nat) (s a n : Int32) : Bool := decide (¬ S.1 2 g 3 = -1 ∧ s = S.1 2 g 3 ∧ a = S.1 2 g 2 ∧ ¬ 64 ≤ n ∧ S.2.1 g &&& ((1 : Int64) <<< (n.toInt64 &&& 63)) = 0)
set_option maxRecDepth 100000 in
set_option maxHeartbeats 4000000 in
theorem c_lets {X : XS} {d : Nat} {S : St} {g : Nat} (hg : g < 3) (s a b : Int32) : Call X mX2_lets false d [.ref (ad 2 g), .int s, .int a, .int b] (hp S) (.inl (some (.int (bI (gt_lets S g s a b)))), hp (S), 0, 0) := by
  refine Call.of fX2_lets (by decide) rfl (by simp [Value.category]) (Nat.le_of_ble_eq_true rfl) (lv := [some (.ref (ad 2 g)), some (.int s), some (.int a), some (.int b)]) rfl ?_
  refine x_aload_n dX2_lets_0 rfl ?_
  refine x_get dX2_lets_1 fl_RX2_9 (hp_get (κ := 2) (by first | assumption | (show _ < _; simp only [cnt]; omega))) rfl ?_
  refine x_iconst (v := (-1)) dX2_lets_4 (by decide) ?_
  refine x_icmp_eq (tgt := 47) dX2_lets_5 (by decide) (fun hc5 => ?_) (fun hc5 => ?_)
  · refine x_iconst (v := 0) dX2_lets_47 (by decide) ?_
    exact x_rI dX2_lets_48 rfl (by first | exact (bI_nf _).1 | decide) (by have l0 := @lgc0; simp_all [gt_lets, bI]) rfl (by simp) (by simp)
  · refine x_iload_n dX2_lets_8 rfl ?_
    refine x_aload_n dX2_lets_9 rfl ?_
    refine x_get dX2_lets_10 fl_RX2_9 (hp_get (κ := 2) (by first | assumption | (show _ < _; simp only [cnt]; omega))) rfl ?_
    refine x_icmp_ne (tgt := 47) dX2_lets_13 (by decide) (fun hc13 => ?_) (fun hc13 => ?_)
    · refine x_iconst (v := 0) dX2_lets_47 (by decide) ?_
      exact x_rI dX2_lets_48 rfl (by first | exact (bI_nf _).1 | decide) (by have l0 := @lgc0; simp_all [gt_lets, bI]) rfl (by simp) (by simp)
    · refine x_iload_n dX2_lets_16 rfl ?_
      refine x_aload_n dX2_lets_17 rfl ?_
      refine x_get dX2_lets_18 fl_RX2_23 (hp_get (κ := 2) (by first | assumption | (show _ < _; simp only [cnt]; omega))) rfl ?_
      refine x_icmp_ne (tgt := 47) dX2_lets_21 (by decide) (fun hc21 => ?_) (fun hc21 => ?_)
      · refine x_iconst (v := 0) dX2_lets_47 (by decide) ?_
        exact x_rI dX2_lets_48 rfl (by first | exact (bI_nf _).1 | decide) (by have l0 := @lgc0; simp_all [gt_lets, bI]) rfl (by simp) (by simp)
      · refine x_iload_n dX2_lets_24 rfl ?_
        refine x_bipush (v := 64) dX2_lets_25 (by decide) ?_
        refine x_icmp_ge (tgt := 47) dX2_lets_27 (by decide) (fun hc27 => ?_) (fun hc27 => ?_)
        · refine x_iconst (v := 0) dX2_lets_47 (by decide) ?_
          exact x_rI dX2_lets_48 rfl (by first | exact (bI_nf _).1 | decide) (by have l0 := @lgc0; simp_all [gt_lets, bI]) rfl (by simp) (by simp)
        · refine x_aload_n dX2_lets_30 rfl ?_
          refine x_get dX2_lets_31 fl_RX2_26 (hp_get (κ := 2) (by first | assumption | (show _ < _; simp only [cnt]; omega))) rfl ?_
          refine x_lconst (v := 1) dX2_lets_34 (by decide) ?_
          refine x_iload_n dX2_lets_35 rfl ?_
          refine x_lshl dX2_lets_36 ?_
          refine x_land dX2_lets_37 ?_
          refine x_lconst (v := 0) dX2_lets_38 (by decide) ?_
          refine x_lcmp dX2_lets_39 ?_
          refine x_if_ne (tgt := 47) dX2_lets_40 (by decide) (fun hc40 => ?_) (fun hc40 => ?_)
          · refine x_iconst (v := 0) dX2_lets_47 (by decide) ?_
            exact x_rI dX2_lets_48 rfl (by first | exact (bI_nf _).1 | decide) (by have l0 := @lgc0; simp_all [gt_lets, bI]) rfl (by simp) (by simp)
          · refine x_iconst (v := 1) dX2_lets_43 (by decide) ?_
            refine x_goto (tgt := 48) dX2_lets_44 (by decide) ?_
            exact x_rI dX2_lets_48 rfl (by first | exact (bI_nf _).1 | decide) (by have l0 := @lgc0; simp_all [gt_lets, bI]) rfl (by simp) (by simp)
def sl16 (x : Int32) : Nat := x.toBitVec.toNat % 16
theorem sl16_lt (x : Int32) : sl16 x < 16 := Nat.mod_lt _ (by decide)
theorem and15 (x : Int32) : x &&& 15 = nI (sl16 x) := pk_and x 4 rfl
def bt16 (x : Int32) : Int32 := 1 <<< (nI (sl16 x) &&& 31)
set_option maxRecDepth 100000 in
set_option maxHeartbeats 4000000 in
theorem c_slotOf {X : XS} {d : Nat} {S : St} (x : Int32) : Call X mX3_slotOf false d [.int x] (hp S) (.inl (some (.int (nI (sl16 x)))), hp (S), 0, 0) := by
  refine Call.of fX3_slotOf (by decide) rfl (by simp [Value.category]) (Nat.le_of_ble_eq_true rfl) (lv := [some (.int x)]) rfl ?_
  refine x_iload_n dX3_slotOf_0 rfl ?_
  refine x_bipush (v := 15) dX3_slotOf_1 (by decide) ?_
  refine x_iand dX3_slotOf_3 ?_
  refine x_eqi (and15 x) ?_
  exact x_rI dX3_slotOf_4 rfl rfl rfl rfl (by simp) (by simp)
set_option maxRecDepth 100000 in
set_option maxHeartbeats 4000000 in
theorem c_bitOf {X : XS} {d : Nat} {S : St} (x : Int32) : Call X mX3_bitOf false (d + 1) [.int x] (hp S) (.inl (some (.int (bt16 x))), hp (S), 0, 0) := by
  refine Call.of fX3_bitOf (by decide) rfl (by simp [Value.category]) (Nat.le_of_ble_eq_true rfl) (lv := [some (.int x)]) rfl ?_
  refine x_iconst (v := 1) dX3_bitOf_0 (by decide) ?_
  refine x_iload_n dX3_bitOf_1 rfl ?_
  refine x_cS (as := [_]) dX3_bitOf_2 fX3_slotOf rfl lk_RX3_44 rfl (Nat.le_of_ble_eq_true rfl) (c_slotOf x) (by simp) (by simp) ?_
  refine x_ishl dX3_bitOf_5 ?_
  exact x_rI dX3_bitOf_6 rfl rfl rfl rfl (by simp) (by simp)
def li_kept (S : St) (i : Nat) (x : Int32) : Bool := decide (¬ S.1 3 i 9 &&& bt16 x = 0)
set_option maxRecDepth 100000 in
set_option maxHeartbeats 4000000 in
theorem c_isKept {X : XS} {d : Nat} {S : St} {i : Nat} (hi : i < 18) (x : Int32) : Call X mX3_isKept false (d + 2) [.ref (ad 3 i), .int x] (hp S) (.inl (some (.int (bI (li_kept S i x)))), hp (S), 0, 0) := by
  refine Call.of fX3_isKept (by decide) rfl (by simp [Value.category]) (Nat.le_of_ble_eq_true rfl) (lv := [some (.ref (ad 3 i)), some (.int x)]) rfl ?_
  refine x_aload_n dX3_isKept_0 rfl ?_
  refine x_get dX3_isKept_1 fl_RX3_37 (hp_get (κ := 3) (by first | assumption | (show _ < _; simp only [cnt]; omega))) rfl ?_
  refine x_iload_n dX3_isKept_4 rfl ?_
  refine x_cS (as := [_]) dX3_isKept_5 fX3_bitOf rfl lk_RX3_40 rfl (Nat.le_of_ble_eq_true rfl) (c_bitOf x) (by simp) (by simp) ?_
  refine x_iand dX3_isKept_8 ?_
  refine x_if_eq (tgt := 16) dX3_isKept_9 (by decide) (fun hc9 => ?_) (fun hc9 => ?_)
  · refine x_iconst (v := 0) dX3_isKept_16 (by decide) ?_
    exact x_rI dX3_isKept_17 rfl (by first | exact (bI_nf _).1 | decide) (by first | (simp [li_kept, bI, hc9]; done) | (exfalso; simp_all; done)) rfl (by simp) (by simp)
  · refine x_iconst (v := 1) dX3_isKept_12 (by decide) ?_
    refine x_goto (tgt := 17) dX3_isKept_13 (by decide) ?_
    exact x_rI dX3_isKept_17 rfl (by first | exact (bI_nf _).1 | decide) (by first | (simp [li_kept, bI, hc9]; done) | (exfalso; simp_all; done)) rfl (by simp) (by simp)
def li_begin (S : St) (i : Nat) (a b t : Int32) : St := sc (sc (sc (sc (sc (sc S 3 i 0 a) 3 i 1 1) 3 i 2 b) 3 i 3 t) 3 i 4 0) 3 i 9 0
set_option maxRecDepth 100000 in
set_option maxHeartbeats 4000000 in
theorem c_begin {X : XS} {d : Nat} {S : St} {i : Nat} (hi : i < 18) (a b t : Int32) : Call X mX3_begin false d [.ref (ad 3 i), .int a, .int b, .int t] (hp S) (.inl none, hp (li_begin S i a b t), 0, 0) := by
  refine Call.of fX3_begin (by decide) rfl (by simp [Value.category]) (Nat.le_of_ble_eq_true rfl) (lv := [some (.ref (ad 3 i)), some (.int a), some (.int b), some (.int t)]) rfl ?_
  refine x_aload_n dX3_begin_0 rfl ?_
  refine x_iload_n dX3_begin_1 rfl ?_
  refine x_putC dX3_begin_2 fp_RX3_15 (by first | assumption | (show _ < _; simp only [cnt]; omega)) pb_3_0 ⟨rfl, rfl⟩ ?_
  refine x_aload_n dX3_begin_5 rfl ?_
  refine x_iconst (v := 1) dX3_begin_6 (by decide) ?_
  refine x_putC dX3_begin_7 fp_RX3_19 (by first | assumption | (show _ < _; simp only [cnt]; omega)) pb_3_1 (by first | exact bI_nf _ | decide) ?_
  refine x_aload_n dX3_begin_10 rfl ?_
  refine x_iload_n dX3_begin_11 rfl ?_
  refine x_putC dX3_begin_12 fp_RX3_30 (by first | assumption | (show _ < _; simp only [cnt]; omega)) pb_3_2 ⟨rfl, rfl⟩ ?_
  refine x_aload_n dX3_begin_15 rfl ?_
  refine x_iload_n dX3_begin_16 rfl ?_
  refine x_putC dX3_begin_17 fp_RX3_47 (by first | assumption | (show _ < _; simp only [cnt]; omega)) pb_3_3 ⟨rfl, rfl⟩ ?_
  refine x_aload_n dX3_begin_20 rfl ?_
  refine x_iconst (v := 0) dX3_begin_21 (by decide) ?_
  refine x_putC dX3_begin_22 fp_RX3_50 (by first | assumption | (show _ < _; simp only [cnt]; omega)) pb_3_4 ⟨rfl, rfl⟩ ?_
  refine x_aload_n dX3_begin_25 rfl ?_
  refine x_iconst (v := 0) dX3_begin_26 (by decide) ?_
  refine x_putC dX3_begin_27 fp_RX3_37 (by first | assumption | (show _ < _; simp only [cnt]; omega)) pb_3_9 ⟨rfl, rfl⟩ ?_
  exact x_rV dX3_begin_30 rfl rfl rfl (by simp) (by simp)
def li_late (S : St) (i : Nat) : St := sc S 3 i 7 (S.1 3 i 7 + 1)
def li_hear2 (S : St) (i : Nat) (b v : Int32) : St := if b < S.1 3 i 2 then li_late S i else if S.1 3 i 2 + 16 ≤ b then li_late S i else if li_kept S i b = true then li_late S i else sc (sc S 3 i 9 (S.1 3 i 9 ||| bt16 b)) 12 i (sl16 b) v
def li_hear (S : St) (i : Nat) (a b v t : Int32) : St := if a < S.1 3 i 0 then li_late S i else if a = S.1 3 i 0 ∧ S.1 3 i 1 = 0 then li_late S i else if a ≤ S.1 3 i 0 then li_hear2 S i b v else li_hear2 (li_begin S i a b t) i b v
set_option maxRecDepth 100000 in
set_option maxHeartbeats 4000000 in
theorem c_liHear {X : XS} {d : Nat} {S : St} {i : Nat} (hi : i < 18) (a b v t : Int32) : Call X mX3_hear false (d + 3) [.ref (ad 3 i), .int a, .int b, .int v, .int t] (hp S) (.inl none, hp (li_hear S i a b v t), 0, 0) := by
  refine Call.of fX3_hear (by decide) rfl (by simp [Value.category]) (Nat.le_of_ble_eq_true rfl) (lv := [some (.ref (ad 3 i)), some (.int a), some (.int b), some (.int v), some (.int t)]) rfl ?_
  refine x_iload_n dX3_hear_0 rfl ?_
  refine x_aload_n dX3_hear_1 rfl ?_
  refine x_get dX3_hear_2 fl_RX3_15 (hp_get (κ := 3) (by first | assumption | (show _ < _; simp only [cnt]; omega))) rfl ?_
  refine x_icmp_lt (tgt := 23) dX3_hear_5 (by decide) (fun hc5 => ?_) (fun hc5 => ?_)
  · refine x_aload_n dX3_hear_23 rfl ?_
    refine x_dup dX3_hear_24 rfl ?_
    refine x_get dX3_hear_25 fl_RX3_23 (hp_get (κ := 3) (by first | assumption | (show _ < _; simp only [cnt]; omega))) rfl ?_
    refine x_iconst (v := 1) dX3_hear_28 (by decide) ?_
    refine x_iadd dX3_hear_29 ?_
    refine x_putC dX3_hear_30 fp_RX3_23 (by first | assumption | (show _ < _; simp only [cnt]; omega)) pb_3_7 ⟨rfl, rfl⟩ ?_
    exact x_rV dX3_hear_33 rfl rfl (by first | (simp [li_hear, li_hear2, li_late, hc5]; done) | (exfalso; simp_all; done)) (by simp) (by simp)
  · refine x_iload_n dX3_hear_8 rfl ?_
    refine x_aload_n dX3_hear_9 rfl ?_
    refine x_get dX3_hear_10 fl_RX3_15 (hp_get (κ := 3) (by first | assumption | (show _ < _; simp only [cnt]; omega))) rfl ?_
    refine x_icmp_ne (tgt := 34) dX3_hear_13 (by decide) (fun hc13 => ?_) (fun hc13 => ?_)
    · refine x_iload_n dX3_hear_34 rfl ?_
      refine x_aload_n dX3_hear_35 rfl ?_
      refine x_get dX3_hear_36 fl_RX3_15 (hp_get (κ := 3) (by first | assumption | (show _ < _; simp only [cnt]; omega))) rfl ?_
      refine x_icmp_le (tgt := 50) dX3_hear_39 (by decide) (fun hc39 => ?_) (fun hc39 => ?_)
      · refine x_iload_n dX3_hear_50 rfl ?_
        refine x_aload_n dX3_hear_51 rfl ?_
        refine x_get dX3_hear_52 fl_RX3_30 (hp_get (κ := 3) (by first | assumption | (show _ < _; simp only [cnt]; omega))) rfl ?_
        refine x_icmp_lt (tgt := 77) dX3_hear_55 (by decide) (fun hc55 => ?_) (fun hc55 => ?_)
        · refine x_aload_n dX3_hear_77 rfl ?_
          refine x_dup dX3_hear_78 rfl ?_
          refine x_get dX3_hear_79 fl_RX3_23 (hp_get (κ := 3) (by first | assumption | (show _ < _; simp only [cnt]; omega))) rfl ?_
          refine x_iconst (v := 1) dX3_hear_82 (by decide) ?_
          refine x_iadd dX3_hear_83 ?_
          refine x_putC dX3_hear_84 fp_RX3_23 (by first | assumption | (show _ < _; simp only [cnt]; omega)) pb_3_7 ⟨rfl, rfl⟩ ?_
          exact x_rV dX3_hear_87 rfl rfl (by first | (simp [li_hear, li_hear2, li_late, hc5, hc13, hc39, hc55]; done) | (exfalso; simp_all; done)) (by simp) (by simp)
        · refine x_iload_n dX3_hear_58 rfl ?_
          refine x_aload_n dX3_hear_59 rfl ?_
          refine x_get dX3_hear_60 fl_RX3_30 (hp_get (κ := 3) (by first | assumption | (show _ < _; simp only [cnt]; omega))) rfl ?_
          refine x_bipush (v := 16) dX3_hear_63 (by decide) ?_
          refine x_iadd dX3_hear_65 ?_
          refine x_icmp_ge (tgt := 77) dX3_hear_66 (by decide) (fun hc66 => ?_) (fun hc66 => ?_)
          · refine x_aload_n dX3_hear_77 rfl ?_
            refine x_dup dX3_hear_78 rfl ?_
            refine x_get dX3_hear_79 fl_RX3_23 (hp_get (κ := 3) (by first | assumption | (show _ < _; simp only [cnt]; omega))) rfl ?_
            refine x_iconst (v := 1) dX3_hear_82 (by decide) ?_
            refine x_iadd dX3_hear_83 ?_
            refine x_putC dX3_hear_84 fp_RX3_23 (by first | assumption | (show _ < _; simp only [cnt]; omega)) pb_3_7 ⟨rfl, rfl⟩ ?_
            exact x_rV dX3_hear_87 rfl rfl (by first | (simp [li_hear, li_hear2, li_late, hc5, hc13, hc39, hc55, hc66]; done) | (exfalso; simp_all; done)) (by simp) (by simp)
          · refine x_aload_n dX3_hear_69 rfl ?_
            refine x_iload_n dX3_hear_70 rfl ?_
            refine x_cV (as := [_]) dX3_hear_71 fX3_isKept rfl lk_RX3_33 rfl (hp_get (κ := 3) (by first | assumption | (show _ < _; simp only [cnt]; omega))) rfl rfl (Nat.le_of_ble_eq_true rfl) (c_isKept hi b) (by simp) (by simp) ?_
            refine x_if_eqB (tgt := 88) dX3_hear_74 (by decide) (fun hc74 => ?_) (fun hc74 => ?_)
            · refine x_aload_n dX3_hear_88 rfl ?_
              refine x_dup dX3_hear_89 rfl ?_
              refine x_get dX3_hear_90 fl_RX3_37 (hp_get (κ := 3) (by first | assumption | (show _ < _; simp only [cnt]; omega))) rfl ?_
              refine x_iload_n dX3_hear_93 rfl ?_
              refine x_cS (as := [_]) dX3_hear_94 fX3_bitOf rfl lk_RX3_40 rfl (Nat.le_of_ble_eq_true rfl) (c_bitOf b) (by simp) (by simp) ?_
              refine x_ior dX3_hear_97 ?_
              refine x_putC dX3_hear_98 fp_RX3_37 (by first | assumption | (show _ < _; simp only [cnt]; omega)) pb_3_9 ⟨rfl, rfl⟩ ?_
              refine x_aload_n dX3_hear_101 rfl ?_
              refine x_get dX3_hear_102 fl_RX3_9 (hp_get (κ := 3) (by first | assumption | (show _ < _; simp only [cnt]; omega))) rfl ?_
              refine x_iload_n dX3_hear_105 rfl ?_
              refine x_cS (as := [_]) dX3_hear_106 fX3_slotOf rfl lk_RX3_44 rfl (Nat.le_of_ble_eq_true rfl) (c_slotOf b) (by simp) (by simp) ?_
              refine x_iload_n dX3_hear_109 rfl ?_
              refine x_iastC dX3_hear_110 ac_12 (by first | assumption | (show _ < _; simp only [cnt]; omega)) (sl16_lt b) (by decide) ?_
              exact x_rV dX3_hear_111 rfl rfl (by first | (simp [li_hear, li_hear2, li_late, hc5, hc13, hc39, hc55, hc66, hc74]; done) | (exfalso; simp_all; done)) (by simp) (by simp)
            · refine x_aload_n dX3_hear_77 rfl ?_
              refine x_dup dX3_hear_78 rfl ?_
              refine x_get dX3_hear_79 fl_RX3_23 (hp_get (κ := 3) (by first | assumption | (show _ < _; simp only [cnt]; omega))) rfl ?_
              refine x_iconst (v := 1) dX3_hear_82 (by decide) ?_
              refine x_iadd dX3_hear_83 ?_
              refine x_putC dX3_hear_84 fp_RX3_23 (by first | assumption | (show _ < _; simp only [cnt]; omega)) pb_3_7 ⟨rfl, rfl⟩ ?_
              exact x_rV dX3_hear_87 rfl rfl (by first | (simp [li_hear, li_hear2, li_late, hc5, hc13, hc39, hc55, hc66, hc74]; done) | (exfalso; simp_all; done)) (by simp) (by simp)
      · refine x_aload_n dX3_hear_42 rfl ?_
        refine x_iload_n dX3_hear_43 rfl ?_
        refine x_iload_n dX3_hear_44 rfl ?_
        refine x_iload dX3_hear_45 rfl ?_
        refine x_cVv (as := [_, _, _]) dX3_hear_47 fX3_begin rfl lk_RX3_26 rfl (hp_get (κ := 3) (by first | assumption | (show _ < _; simp only [cnt]; omega))) rfl rfl (Nat.le_of_ble_eq_true rfl) (c_begin hi a b t) (by simp) (by simp) ?_
        refine x_iload_n dX3_hear_50 rfl ?_
        refine x_aload_n dX3_hear_51 rfl ?_
        refine x_get dX3_hear_52 fl_RX3_30 (hp_get (κ := 3) (by first | assumption | (show _ < _; simp only [cnt]; omega))) rfl ?_
        refine x_icmp_lt (tgt := 77) dX3_hear_55 (by decide) (fun hc55 => ?_) (fun hc55 => ?_)
        · refine x_aload_n dX3_hear_77 rfl ?_
          refine x_dup dX3_hear_78 rfl ?_
          refine x_get dX3_hear_79 fl_RX3_23 (hp_get (κ := 3) (by first | assumption | (show _ < _; simp only [cnt]; omega))) rfl ?_
          refine x_iconst (v := 1) dX3_hear_82 (by decide) ?_
          refine x_iadd dX3_hear_83 ?_
          refine x_putC dX3_hear_84 fp_RX3_23 (by first | assumption | (show _ < _; simp only [cnt]; omega)) pb_3_7 ⟨rfl, rfl⟩ ?_
          exact x_rV dX3_hear_87 rfl rfl (by first | (simp [li_hear, li_hear2, li_late, hc5, hc13, hc39, hc55]; done) | (exfalso; simp_all; done)) (by simp) (by simp)
        · refine x_iload_n dX3_hear_58 rfl ?_
          refine x_aload_n dX3_hear_59 rfl ?_
          refine x_get dX3_hear_60 fl_RX3_30 (hp_get (κ := 3) (by first | assumption | (show _ < _; simp only [cnt]; omega))) rfl ?_
          refine x_bipush (v := 16) dX3_hear_63 (by decide) ?_
          refine x_iadd dX3_hear_65 ?_
          refine x_icmp_ge (tgt := 77) dX3_hear_66 (by decide) (fun hc66 => ?_) (fun hc66 => ?_)
          · refine x_aload_n dX3_hear_77 rfl ?_
            refine x_dup dX3_hear_78 rfl ?_
            refine x_get dX3_hear_79 fl_RX3_23 (hp_get (κ := 3) (by first | assumption | (show _ < _; simp only [cnt]; omega))) rfl ?_
            refine x_iconst (v := 1) dX3_hear_82 (by decide) ?_
            refine x_iadd dX3_hear_83 ?_
            refine x_putC dX3_hear_84 fp_RX3_23 (by first | assumption | (show _ < _; simp only [cnt]; omega)) pb_3_7 ⟨rfl, rfl⟩ ?_
            exact x_rV dX3_hear_87 rfl rfl (by first | (simp [li_hear, li_hear2, li_late, hc5, hc13, hc39, hc55, hc66]; done) | (exfalso; simp_all; done)) (by simp) (by simp)
          · refine x_aload_n dX3_hear_69 rfl ?_
            refine x_iload_n dX3_hear_70 rfl ?_
            refine x_cV (as := [_]) dX3_hear_71 fX3_isKept rfl lk_RX3_33 rfl (hp_get (κ := 3) (by first | assumption | (show _ < _; simp only [cnt]; omega))) rfl rfl (Nat.le_of_ble_eq_true rfl) (c_isKept hi b) (by simp) (by simp) ?_
            refine x_if_eqB (tgt := 88) dX3_hear_74 (by decide) (fun hc74 => ?_) (fun hc74 => ?_)
            · refine x_aload_n dX3_hear_88 rfl ?_
              refine x_dup dX3_hear_89 rfl ?_
              refine x_get dX3_hear_90 fl_RX3_37 (hp_get (κ := 3) (by first | assumption | (show _ < _; simp only [cnt]; omega))) rfl ?_
              refine x_iload_n dX3_hear_93 rfl ?_
              refine x_cS (as := [_]) dX3_hear_94 fX3_bitOf rfl lk_RX3_40 rfl (Nat.le_of_ble_eq_true rfl) (c_bitOf b) (by simp) (by simp) ?_
              refine x_ior dX3_hear_97 ?_
              refine x_putC dX3_hear_98 fp_RX3_37 (by first | assumption | (show _ < _; simp only [cnt]; omega)) pb_3_9 ⟨rfl, rfl⟩ ?_
              refine x_aload_n dX3_hear_101 rfl ?_
              refine x_get dX3_hear_102 fl_RX3_9 (hp_get (κ := 3) (by first | assumption | (show _ < _; simp only [cnt]; omega))) rfl ?_
              refine x_iload_n dX3_hear_105 rfl ?_
              refine x_cS (as := [_]) dX3_hear_106 fX3_slotOf rfl lk_RX3_44 rfl (Nat.le_of_ble_eq_true rfl) (c_slotOf b) (by simp) (by simp) ?_
              refine x_iload_n dX3_hear_109 rfl ?_
              refine x_iastC dX3_hear_110 ac_12 (by first | assumption | (show _ < _; simp only [cnt]; omega)) (sl16_lt b) (by decide) ?_
              exact x_rV dX3_hear_111 rfl rfl (by first | (simp [li_hear, li_hear2, li_late, hc5, hc13, hc39, hc55, hc66, hc74]; done) | (exfalso; simp_all; done)) (by simp) (by simp)
            · refine x_aload_n dX3_hear_77 rfl ?_
              refine x_dup dX3_hear_78 rfl ?_
              refine x_get dX3_hear_79 fl_RX3_23 (hp_get (κ := 3) (by first | assumption | (show _ < _; simp only [cnt]; omega))) rfl ?_
              refine x_iconst (v := 1) dX3_hear_82 (by decide) ?_
              refine x_iadd dX3_hear_83 ?_
              refine x_putC dX3_hear_84 fp_RX3_23 (by first | assumption | (show _ < _; simp only [cnt]; omega)) pb_3_7 ⟨rfl, rfl⟩ ?_
              exact x_rV dX3_hear_87 rfl rfl (by first | (simp [li_hear, li_hear2, li_late, hc5, hc13, hc39, hc55, hc66, hc74]; done) | (exfalso; simp_all; done)) (by simp) (by simp)
    · refine x_aload_n dX3_hear_16 rfl ?_
      refine x_get dX3_hear_17 fl_RX3_19 (hp_get (κ := 3) (by first | assumption | (show _ < _; simp only [cnt]; omega))) rfl ?_
      refine x_if_ne (tgt := 34) dX3_hear_20 (by decide) (fun hc20 => ?_) (fun hc20 => ?_)
      · refine x_iload_n dX3_hear_34 rfl ?_
        refine x_aload_n dX3_hear_35 rfl ?_
        refine x_get dX3_hear_36 fl_RX3_15 (hp_get (κ := 3) (by first | assumption | (show _ < _; simp only [cnt]; omega))) rfl ?_
        refine x_icmp_le (tgt := 50) dX3_hear_39 (by decide) (fun hc39 => ?_) (fun hc39 => ?_)
        · refine x_iload_n dX3_hear_50 rfl ?_
          refine x_aload_n dX3_hear_51 rfl ?_
          refine x_get dX3_hear_52 fl_RX3_30 (hp_get (κ := 3) (by first | assumption | (show _ < _; simp only [cnt]; omega))) rfl ?_
          refine x_icmp_lt (tgt := 77) dX3_hear_55 (by decide) (fun hc55 => ?_) (fun hc55 => ?_)
          · refine x_aload_n dX3_hear_77 rfl ?_
            refine x_dup dX3_hear_78 rfl ?_
            refine x_get dX3_hear_79 fl_RX3_23 (hp_get (κ := 3) (by first | assumption | (show _ < _; simp only [cnt]; omega))) rfl ?_
            refine x_iconst (v := 1) dX3_hear_82 (by decide) ?_
            refine x_iadd dX3_hear_83 ?_
            refine x_putC dX3_hear_84 fp_RX3_23 (by first | assumption | (show _ < _; simp only [cnt]; omega)) pb_3_7 ⟨rfl, rfl⟩ ?_
            exact x_rV dX3_hear_87 rfl rfl (by first | (simp [li_hear, li_hear2, li_late, hc5, hc13, hc20, hc39, hc55]; done) | (exfalso; simp_all; done)) (by simp) (by simp)
          · refine x_iload_n dX3_hear_58 rfl ?_
            refine x_aload_n dX3_hear_59 rfl ?_
            refine x_get dX3_hear_60 fl_RX3_30 (hp_get (κ := 3) (by first | assumption | (show _ < _; simp only [cnt]; omega))) rfl ?_
            refine x_bipush (v := 16) dX3_hear_63 (by decide) ?_
            refine x_iadd dX3_hear_65 ?_
            refine x_icmp_ge (tgt := 77) dX3_hear_66 (by decide) (fun hc66 => ?_) (fun hc66 => ?_)
            · refine x_aload_n dX3_hear_77 rfl ?_
              refine x_dup dX3_hear_78 rfl ?_
              refine x_get dX3_hear_79 fl_RX3_23 (hp_get (κ := 3) (by first | assumption | (show _ < _; simp only [cnt]; omega))) rfl ?_
              refine x_iconst (v := 1) dX3_hear_82 (by decide) ?_
              refine x_iadd dX3_hear_83 ?_
              refine x_putC dX3_hear_84 fp_RX3_23 (by first | assumption | (show _ < _; simp only [cnt]; omega)) pb_3_7 ⟨rfl, rfl⟩ ?_
              exact x_rV dX3_hear_87 rfl rfl (by first | (simp [li_hear, li_hear2, li_late, hc5, hc13, hc20, hc39, hc55, hc66]; done) | (exfalso; simp_all; done)) (by simp) (by simp)
            · refine x_aload_n dX3_hear_69 rfl ?_
              refine x_iload_n dX3_hear_70 rfl ?_
              refine x_cV (as := [_]) dX3_hear_71 fX3_isKept rfl lk_RX3_33 rfl (hp_get (κ := 3) (by first | assumption | (show _ < _; simp only [cnt]; omega))) rfl rfl (Nat.le_of_ble_eq_true rfl) (c_isKept hi b) (by simp) (by simp) ?_
              refine x_if_eqB (tgt := 88) dX3_hear_74 (by decide) (fun hc74 => ?_) (fun hc74 => ?_)
              · refine x_aload_n dX3_hear_88 rfl ?_
                refine x_dup dX3_hear_89 rfl ?_
                refine x_get dX3_hear_90 fl_RX3_37 (hp_get (κ := 3) (by first | assumption | (show _ < _; simp only [cnt]; omega))) rfl ?_
                refine x_iload_n dX3_hear_93 rfl ?_
                refine x_cS (as := [_]) dX3_hear_94 fX3_bitOf rfl lk_RX3_40 rfl (Nat.le_of_ble_eq_true rfl) (c_bitOf b) (by simp) (by simp) ?_
                refine x_ior dX3_hear_97 ?_
                refine x_putC dX3_hear_98 fp_RX3_37 (by first | assumption | (show _ < _; simp only [cnt]; omega)) pb_3_9 ⟨rfl, rfl⟩ ?_
                refine x_aload_n dX3_hear_101 rfl ?_
                refine x_get dX3_hear_102 fl_RX3_9 (hp_get (κ := 3) (by first | assumption | (show _ < _; simp only [cnt]; omega))) rfl ?_
                refine x_iload_n dX3_hear_105 rfl ?_
                refine x_cS (as := [_]) dX3_hear_106 fX3_slotOf rfl lk_RX3_44 rfl (Nat.le_of_ble_eq_true rfl) (c_slotOf b) (by simp) (by simp) ?_
                refine x_iload_n dX3_hear_109 rfl ?_
                refine x_iastC dX3_hear_110 ac_12 (by first | assumption | (show _ < _; simp only [cnt]; omega)) (sl16_lt b) (by decide) ?_
                exact x_rV dX3_hear_111 rfl rfl (by first | (simp [li_hear, li_hear2, li_late, hc5, hc13, hc20, hc39, hc55, hc66, hc74]; done) | (exfalso; simp_all; done)) (by simp) (by simp)
              · refine x_aload_n dX3_hear_77 rfl ?_
                refine x_dup dX3_hear_78 rfl ?_
                refine x_get dX3_hear_79 fl_RX3_23 (hp_get (κ := 3) (by first | assumption | (show _ < _; simp only [cnt]; omega))) rfl ?_
                refine x_iconst (v := 1) dX3_hear_82 (by decide) ?_
                refine x_iadd dX3_hear_83 ?_
                refine x_putC dX3_hear_84 fp_RX3_23 (by first | assumption | (show _ < _; simp only [cnt]; omega)) pb_3_7 ⟨rfl, rfl⟩ ?_
                exact x_rV dX3_hear_87 rfl rfl (by first | (simp [li_hear, li_hear2, li_late, hc5, hc13, hc20, hc39, hc55, hc66, hc74]; done) | (exfalso; simp_all; done)) (by simp) (by simp)
        · refine x_aload_n dX3_hear_42 rfl ?_
          refine x_iload_n dX3_hear_43 rfl ?_
          refine x_iload_n dX3_hear_44 rfl ?_
          refine x_iload dX3_hear_45 rfl ?_
          refine x_cVv (as := [_, _, _]) dX3_hear_47 fX3_begin rfl lk_RX3_26 rfl (hp_get (κ := 3) (by first | assumption | (show _ < _; simp only [cnt]; omega))) rfl rfl (Nat.le_of_ble_eq_true rfl) (c_begin hi a b t) (by simp) (by simp) ?_
          refine x_iload_n dX3_hear_50 rfl ?_
          refine x_aload_n dX3_hear_51 rfl ?_
          refine x_get dX3_hear_52 fl_RX3_30 (hp_get (κ := 3) (by first | assumption | (show _ < _; simp only [cnt]; omega))) rfl ?_
          refine x_icmp_lt (tgt := 77) dX3_hear_55 (by decide) (fun hc55 => ?_) (fun hc55 => ?_)
          · refine x_aload_n dX3_hear_77 rfl ?_
            refine x_dup dX3_hear_78 rfl ?_
            refine x_get dX3_hear_79 fl_RX3_23 (hp_get (κ := 3) (by first | assumption | (show _ < _; simp only [cnt]; omega))) rfl ?_
            refine x_iconst (v := 1) dX3_hear_82 (by decide) ?_
            refine x_iadd dX3_hear_83 ?_
            refine x_putC dX3_hear_84 fp_RX3_23 (by first | assumption | (show _ < _; simp only [cnt]; omega)) pb_3_7 ⟨rfl, rfl⟩ ?_
            exact x_rV dX3_hear_87 rfl rfl (by first | (simp [li_hear, li_hear2, li_late, hc5, hc13, hc20, hc39, hc55]; done) | (exfalso; simp_all; done)) (by simp) (by simp)
          · refine x_iload_n dX3_hear_58 rfl ?_
            refine x_aload_n dX3_hear_59 rfl ?_
            refine x_get dX3_hear_60 fl_RX3_30 (hp_get (κ := 3) (by first | assumption | (show _ < _; simp only [cnt]; omega))) rfl ?_
            refine x_bipush (v := 16) dX3_hear_63 (by decide) ?_
            refine x_iadd dX3_hear_65 ?_
            refine x_icmp_ge (tgt := 77) dX3_hear_66 (by decide) (fun hc66 => ?_) (fun hc66 => ?_)
            · refine x_aload_n dX3_hear_77 rfl ?_
              refine x_dup dX3_hear_78 rfl ?_
              refine x_get dX3_hear_79 fl_RX3_23 (hp_get (κ := 3) (by first | assumption | (show _ < _; simp only [cnt]; omega))) rfl ?_
              refine x_iconst (v := 1) dX3_hear_82 (by decide) ?_
              refine x_iadd dX3_hear_83 ?_
              refine x_putC dX3_hear_84 fp_RX3_23 (by first | assumption | (show _ < _; simp only [cnt]; omega)) pb_3_7 ⟨rfl, rfl⟩ ?_
              exact x_rV dX3_hear_87 rfl rfl (by first | (simp [li_hear, li_hear2, li_late, hc5, hc13, hc20, hc39, hc55, hc66]; done) | (exfalso; simp_all; done)) (by simp) (by simp)
            · refine x_aload_n dX3_hear_69 rfl ?_
              refine x_iload_n dX3_hear_70 rfl ?_
              refine x_cV (as := [_]) dX3_hear_71 fX3_isKept rfl lk_RX3_33 rfl (hp_get (κ := 3) (by first | assumption | (show _ < _; simp only [cnt]; omega))) rfl rfl (Nat.le_of_ble_eq_true rfl) (c_isKept hi b) (by simp) (by simp) ?_
              refine x_if_eqB (tgt := 88) dX3_hear_74 (by decide) (fun hc74 => ?_) (fun hc74 => ?_)
              · refine x_aload_n dX3_hear_88 rfl ?_
                refine x_dup dX3_hear_89 rfl ?_
                refine x_get dX3_hear_90 fl_RX3_37 (hp_get (κ := 3) (by first | assumption | (show _ < _; simp only [cnt]; omega))) rfl ?_
                refine x_iload_n dX3_hear_93 rfl ?_
                refine x_cS (as := [_]) dX3_hear_94 fX3_bitOf rfl lk_RX3_40 rfl (Nat.le_of_ble_eq_true rfl) (c_bitOf b) (by simp) (by simp) ?_
                refine x_ior dX3_hear_97 ?_
                refine x_putC dX3_hear_98 fp_RX3_37 (by first | assumption | (show _ < _; simp only [cnt]; omega)) pb_3_9 ⟨rfl, rfl⟩ ?_
                refine x_aload_n dX3_hear_101 rfl ?_
                refine x_get dX3_hear_102 fl_RX3_9 (hp_get (κ := 3) (by first | assumption | (show _ < _; simp only [cnt]; omega))) rfl ?_
                refine x_iload_n dX3_hear_105 rfl ?_
                refine x_cS (as := [_]) dX3_hear_106 fX3_slotOf rfl lk_RX3_44 rfl (Nat.le_of_ble_eq_true rfl) (c_slotOf b) (by simp) (by simp) ?_
                refine x_iload_n dX3_hear_109 rfl ?_
                refine x_iastC dX3_hear_110 ac_12 (by first | assumption | (show _ < _; simp only [cnt]; omega)) (sl16_lt b) (by decide) ?_
                exact x_rV dX3_hear_111 rfl rfl (by first | (simp [li_hear, li_hear2, li_late, hc5, hc13, hc20, hc39, hc55, hc66, hc74]; done) | (exfalso; simp_all; done)) (by simp) (by simp)
              · refine x_aload_n dX3_hear_77 rfl ?_
                refine x_dup dX3_hear_78 rfl ?_
                refine x_get dX3_hear_79 fl_RX3_23 (hp_get (κ := 3) (by first | assumption | (show _ < _; simp only [cnt]; omega))) rfl ?_
                refine x_iconst (v := 1) dX3_hear_82 (by decide) ?_
                refine x_iadd dX3_hear_83 ?_
                refine x_putC dX3_hear_84 fp_RX3_23 (by first | assumption | (show _ < _; simp only [cnt]; omega)) pb_3_7 ⟨rfl, rfl⟩ ?_
                exact x_rV dX3_hear_87 rfl rfl (by first | (simp [li_hear, li_hear2, li_late, hc5, hc13, hc20, hc39, hc55, hc66, hc74]; done) | (exfalso; simp_all; done)) (by simp) (by simp)
      · refine x_aload_n dX3_hear_23 rfl ?_
        refine x_dup dX3_hear_24 rfl ?_
        refine x_get dX3_hear_25 fl_RX3_23 (hp_get (κ := 3) (by first | assumption | (show _ < _; simp only [cnt]; omega))) rfl ?_
        refine x_iconst (v := 1) dX3_hear_28 (by decide) ?_
        refine x_iadd dX3_hear_29 ?_
        refine x_putC dX3_hear_30 fp_RX3_23 (by first | assumption | (show _ < _; simp only [cnt]; omega)) pb_3_7 ⟨rfl, rfl⟩ ?_
        exact x_rV dX3_hear_33 rfl rfl (by first | (simp [li_hear, li_hear2, li_late, hc5, hc13, hc20]; done) | (exfalso; simp_all; done)) (by simp) (by simp)
def li_add (S : St) (i : Nat) (v : Int32) : St := sc S 3 i 8 (S.1 3 i 8 * 31 + v)
set_option maxRecDepth 100000 in
set_option maxHeartbeats 4000000 in
theorem c_addToSum {X : XS} {d : Nat} {S : St} {i : Nat} (hi : i < 18) (v : Int32) : Call X mX3_addToSum false d [.ref (ad 3 i), .int v] (hp S) (.inl none, hp (li_add S i v), 0, 0) := by
  refine Call.of fX3_addToSum (by decide) rfl (by simp [Value.category]) (Nat.le_of_ble_eq_true rfl) (lv := [some (.ref (ad 3 i)), some (.int v)]) rfl ?_
  refine x_aload_n dX3_addToSum_0 rfl ?_
  refine x_aload_n dX3_addToSum_1 rfl ?_
  refine x_get dX3_addToSum_2 fl_RX3_69 (hp_get (κ := 3) (by first | assumption | (show _ < _; simp only [cnt]; omega))) rfl ?_
  refine x_bipush (v := 31) dX3_addToSum_5 (by decide) ?_
  refine x_imul dX3_addToSum_7 ?_
  refine x_iload_n dX3_addToSum_8 rfl ?_
  refine x_iadd dX3_addToSum_9 ?_
  refine x_putC dX3_addToSum_10 fp_RX3_69 (by first | assumption | (show _ < _; simp only [cnt]; omega)) pb_3_8 ⟨rfl, rfl⟩ ?_
  exact x_rV dX3_addToSum_13 rfl rfl rfl (by simp) (by simp)
def li_unit (S : St) (i : Nat) : St := let S1 := sc S 3 i 9 (S.1 3 i 9 &&& (bt16 (S.1 3 i 2) ^^^ (-1))); let S2 := sc S1 3 i 5 (S1.1 3 i 5 + 1); let S3 := sc S2 3 i 4 0; li_add S3 i (S3.1 12 i (sl16 (S3.1 3 i 2)))
def li_gap (S : St) (i : Nat) : St := let S1 := sc S 3 i 6 (S.1 3 i 6 + 1); let S2 := sc S1 3 i 4 (S1.1 3 i 4 + 1); let S3 := li_add S2 i (-1); if S3.1 3 i 4 < 4 then S3 else sc S3 3 i 1 0
def li_play (S : St) (i : Nat) (t : Int32) : St := if S.1 3 i 1 = 0 then S else if 2 ≤ t - S.1 3 i 3 then (let S1 := if li_kept S i (S.1 3 i 2) = true then li_unit S i else li_gap S i; sc S1 3 i 2 (S1.1 3 i 2 + 1)) else S
set_option maxRecDepth 100000 in
set_option maxHeartbeats 4000000 in
theorem c_playUnit {X : XS} {d : Nat} {S : St} {i : Nat} (hi : i < 18) : Call X mX3_playUnit false (d + 2) [.ref (ad 3 i)] (hp S) (.inl none, hp (li_unit S i), 0, 0) := by
  refine Call.of fX3_playUnit (by decide) rfl (by simp [Value.category]) (Nat.le_of_ble_eq_true rfl) (lv := [some (.ref (ad 3 i))]) rfl ?_
  refine x_aload_n dX3_playUnit_0 rfl ?_
  refine x_dup dX3_playUnit_1 rfl ?_
  refine x_get dX3_playUnit_2 fl_RX3_37 (hp_get (κ := 3) (by first | assumption | (show _ < _; simp only [cnt]; omega))) rfl ?_
  refine x_aload_n dX3_playUnit_5 rfl ?_
  refine x_get dX3_playUnit_6 fl_RX3_30 (hp_get (κ := 3) (by first | assumption | (show _ < _; simp only [cnt]; omega))) rfl ?_
  refine x_cS (as := [_]) dX3_playUnit_9 fX3_bitOf rfl lk_RX3_40 rfl (Nat.le_of_ble_eq_true rfl) (c_bitOf _) (by simp) (by simp) ?_
  refine x_iconst (v := (-1)) dX3_playUnit_12 (by decide) ?_
  refine x_ixor dX3_playUnit_13 ?_
  refine x_iand dX3_playUnit_14 ?_
  refine x_putC dX3_playUnit_15 fp_RX3_37 (by first | assumption | (show _ < _; simp only [cnt]; omega)) pb_3_9 ⟨rfl, rfl⟩ ?_
  refine x_aload_n dX3_playUnit_18 rfl ?_
  refine x_dup dX3_playUnit_19 rfl ?_
  refine x_get dX3_playUnit_20 fl_RX3_59 (hp_get (κ := 3) (by first | assumption | (show _ < _; simp only [cnt]; omega))) rfl ?_
  refine x_iconst (v := 1) dX3_playUnit_23 (by decide) ?_
  refine x_iadd dX3_playUnit_24 ?_
  refine x_putC dX3_playUnit_25 fp_RX3_59 (by first | assumption | (show _ < _; simp only [cnt]; omega)) pb_3_5 ⟨rfl, rfl⟩ ?_
  refine x_aload_n dX3_playUnit_28 rfl ?_
  refine x_iconst (v := 0) dX3_playUnit_29 (by decide) ?_
  refine x_putC dX3_playUnit_30 fp_RX3_50 (by first | assumption | (show _ < _; simp only [cnt]; omega)) pb_3_4 ⟨rfl, rfl⟩ ?_
  refine x_aload_n dX3_playUnit_33 rfl ?_
  refine x_aload_n dX3_playUnit_34 rfl ?_
  refine x_get dX3_playUnit_35 fl_RX3_9 (hp_get (κ := 3) (by first | assumption | (show _ < _; simp only [cnt]; omega))) rfl ?_
  refine x_aload_n dX3_playUnit_38 rfl ?_
  refine x_get dX3_playUnit_39 fl_RX3_30 (hp_get (κ := 3) (by first | assumption | (show _ < _; simp only [cnt]; omega))) rfl ?_
  refine x_cS (as := [_]) dX3_playUnit_42 fX3_slotOf rfl lk_RX3_44 rfl (Nat.le_of_ble_eq_true rfl) (c_slotOf _) (by simp) (by simp) ?_
  refine x_ialdC dX3_playUnit_45 ac_12 (by first | assumption | (show _ < _; simp only [cnt]; omega)) (by first | omega | exact sl16_lt _ | assumption) (by decide) ?_
  refine x_cVv (as := [_]) dX3_playUnit_46 fX3_addToSum rfl lk_RX3_62 rfl (hp_get (κ := 3) (by first | assumption | (show _ < _; simp only [cnt]; omega))) rfl rfl (Nat.le_of_ble_eq_true rfl) (c_addToSum hi _) (by simp) (by simp) ?_
  exact x_rV dX3_playUnit_49 rfl rfl rfl (by simp) (by simp)
set_option maxRecDepth 100000 in
set_option maxHeartbeats 4000000 in
theorem c_playGap {X : XS} {d : Nat} {S : St} {i : Nat} (hi : i < 18) : Call X mX3_playGap false (d + 1) [.ref (ad 3 i)] (hp S) (.inl none, hp (li_gap S i), 0, 0) := by
  refine Call.of fX3_playGap (by decide) rfl (by simp [Value.category]) (Nat.le_of_ble_eq_true rfl) (lv := [some (.ref (ad 3 i))]) rfl ?_
  refine x_aload_n dX3_playGap_0 rfl ?_
  refine x_dup dX3_playGap_1 rfl ?_
  refine x_get dX3_playGap_2 fl_RX3_66 (hp_get (κ := 3) (by first | assumption | (show _ < _; simp only [cnt]; omega))) rfl ?_
  refine x_iconst (v := 1) dX3_playGap_5 (by decide) ?_
  refine x_iadd dX3_playGap_6 ?_
  refine x_putC dX3_playGap_7 fp_RX3_66 (by first | assumption | (show _ < _; simp only [cnt]; omega)) pb_3_6 ⟨rfl, rfl⟩ ?_
  refine x_aload_n dX3_playGap_10 rfl ?_
  refine x_dup dX3_playGap_11 rfl ?_
  refine x_get dX3_playGap_12 fl_RX3_50 (hp_get (κ := 3) (by first | assumption | (show _ < _; simp only [cnt]; omega))) rfl ?_
  refine x_iconst (v := 1) dX3_playGap_15 (by decide) ?_
  refine x_iadd dX3_playGap_16 ?_
  refine x_putC dX3_playGap_17 fp_RX3_50 (by first | assumption | (show _ < _; simp only [cnt]; omega)) pb_3_4 ⟨rfl, rfl⟩ ?_
  refine x_aload_n dX3_playGap_20 rfl ?_
  refine x_iconst (v := (-1)) dX3_playGap_21 (by decide) ?_
  refine x_cVv (as := [_]) dX3_playGap_22 fX3_addToSum rfl lk_RX3_62 rfl (hp_get (κ := 3) (by first | assumption | (show _ < _; simp only [cnt]; omega))) rfl rfl (Nat.le_of_ble_eq_true rfl) (c_addToSum hi _) (by simp) (by simp) ?_
  refine x_aload_n dX3_playGap_25 rfl ?_
  refine x_get dX3_playGap_26 fl_RX3_50 (hp_get (κ := 3) (by first | assumption | (show _ < _; simp only [cnt]; omega))) rfl ?_
  refine x_iconst (v := 4) dX3_playGap_29 (by decide) ?_
  refine x_icmp_lt (tgt := 38) dX3_playGap_30 (by decide) (fun hc30 => ?_) (fun hc30 => ?_)
  · exact x_rV dX3_playGap_38 rfl rfl (by first | (simp [li_gap, hc30]; done) | (exfalso; simp_all; done)) (by simp) (by simp)
  · refine x_aload_n dX3_playGap_33 rfl ?_
    refine x_iconst (v := 0) dX3_playGap_34 (by decide) ?_
    refine x_putC dX3_playGap_35 fp_RX3_19 (by first | assumption | (show _ < _; simp only [cnt]; omega)) pb_3_1 (by first | exact bI_nf _ | decide) ?_
    exact x_rV dX3_playGap_38 rfl rfl (by first | (simp [li_gap, hc30]; done) | (exfalso; simp_all; done)) (by simp) (by simp)
set_option maxRecDepth 100000 in
set_option maxHeartbeats 4000000 in
theorem c_liPlay {X : XS} {d : Nat} {S : St} {i : Nat} (hi : i < 18) (t : Int32) : Call X mX3_play false (d + 3) [.ref (ad 3 i), .int t] (hp S) (.inl none, hp (li_play S i t), 0, 0) := by
  refine Call.of fX3_play (by decide) rfl (by simp [Value.category]) (Nat.le_of_ble_eq_true rfl) (lv := [some (.ref (ad 3 i)), some (.int t)]) rfl ?_
  refine x_aload_n dX3_play_0 rfl ?_
  refine x_get dX3_play_1 fl_RX3_19 (hp_get (κ := 3) (by first | assumption | (show _ < _; simp only [cnt]; omega))) rfl ?_
  refine x_if_eq (tgt := 17) dX3_play_4 (by decide) (fun hc4 => ?_) (fun hc4 => ?_)
  · exact x_rV dX3_play_17 rfl rfl (by first | (simp [li_play, hc4]; done) | (exfalso; simp_all; done)) (by simp) (by simp)
  · refine x_iload_n dX3_play_7 rfl ?_
    refine x_aload_n dX3_play_8 rfl ?_
    refine x_get dX3_play_9 fl_RX3_47 (hp_get (κ := 3) (by first | assumption | (show _ < _; simp only [cnt]; omega))) rfl ?_
    refine x_isub dX3_play_12 ?_
    refine x_iconst (v := 2) dX3_play_13 (by decide) ?_
    refine x_icmp_ge (tgt := 18) dX3_play_14 (by decide) (fun hc14 => ?_) (fun hc14 => ?_)
    · refine x_aload_n dX3_play_18 rfl ?_
      refine x_aload_n dX3_play_19 rfl ?_
      refine x_get dX3_play_20 fl_RX3_30 (hp_get (κ := 3) (by first | assumption | (show _ < _; simp only [cnt]; omega))) rfl ?_
      refine x_cV (as := [_]) dX3_play_23 fX3_isKept rfl lk_RX3_33 rfl (hp_get (κ := 3) (by first | assumption | (show _ < _; simp only [cnt]; omega))) rfl rfl (Nat.le_of_ble_eq_true rfl) (c_isKept hi _) (by simp) (by simp) ?_
      refine x_if_eqB (tgt := 36) dX3_play_26 (by decide) (fun hc26 => ?_) (fun hc26 => ?_)
      · refine x_aload_n dX3_play_36 rfl ?_
        refine x_cVv (as := []) dX3_play_37 fX3_playGap rfl lk_RX3_56 rfl (hp_get (κ := 3) (by first | assumption | (show _ < _; simp only [cnt]; omega))) rfl rfl (Nat.le_of_ble_eq_true rfl) (c_playGap hi) (by simp) (by simp) ?_
        refine x_aload_n dX3_play_40 rfl ?_
        refine x_dup dX3_play_41 rfl ?_
        refine x_get dX3_play_42 fl_RX3_30 (hp_get (κ := 3) (by first | assumption | (show _ < _; simp only [cnt]; omega))) rfl ?_
        refine x_iconst (v := 1) dX3_play_45 (by decide) ?_
        refine x_iadd dX3_play_46 ?_
        refine x_putC dX3_play_47 fp_RX3_30 (by first | assumption | (show _ < _; simp only [cnt]; omega)) pb_3_2 ⟨rfl, rfl⟩ ?_
        exact x_rV dX3_play_50 rfl rfl (by first | (simp [li_play, hc4, hc14, hc26]; done) | (exfalso; simp_all; done)) (by simp) (by simp)
      · refine x_aload_n dX3_play_29 rfl ?_
        refine x_cVv (as := []) dX3_play_30 fX3_playUnit rfl lk_RX3_53 rfl (hp_get (κ := 3) (by first | assumption | (show _ < _; simp only [cnt]; omega))) rfl rfl (Nat.le_of_ble_eq_true rfl) (c_playUnit hi) (by simp) (by simp) ?_
        refine x_goto (tgt := 40) dX3_play_33 (by decide) ?_
        refine x_aload_n dX3_play_40 rfl ?_
        refine x_dup dX3_play_41 rfl ?_
        refine x_get dX3_play_42 fl_RX3_30 (hp_get (κ := 3) (by first | assumption | (show _ < _; simp only [cnt]; omega))) rfl ?_
        refine x_iconst (v := 1) dX3_play_45 (by decide) ?_
        refine x_iadd dX3_play_46 ?_
        refine x_putC dX3_play_47 fp_RX3_30 (by first | assumption | (show _ < _; simp only [cnt]; omega)) pb_3_2 ⟨rfl, rfl⟩ ?_
        exact x_rV dX3_play_50 rfl rfl (by first | (simp [li_play, hc4, hc14, hc26]; done) | (exfalso; simp_all; done)) (by simp) (by simp)
    · exact x_rV dX3_play_17 rfl rfl (by first | (simp [li_play, hc4, hc14]; done) | (exfalso; simp_all; done)) (by simp) (by simp)
