def mto (S : St) (k : Nat) : Nat → St
  | 0 => S
  | n + 1 => sm (mto S k n) 4 (6 * k + n) ((mto S k n).2.2.1 4 (6 * k + n + 6))
theorem mto_s {S : St} {k n : Nat} : mto S k (n + 1) = sm (mto S k n) 4 (6 * k + n) ((mto S k n).2.2.1 4 (6 * k + n + 6)) := by rw [mto]
theorem mto_get {S : St} {k f i : Nat} : ∀ n, (mto S k n).2.2.1 f i = if f = 4 ∧ 6 * k ≤ i ∧ i < 6 * k + n then S.2.2.1 4 (i + 6) else S.2.2.1 f i
  | 0 => by rw [if_neg (by omega)]; rfl
  | n + 1 => by
    rw [mto_s, sm_get, mto_get n, mto_get n]
    by_cases h1 : f = 4 ∧ i = 6 * k + n
    · rw [if_pos h1, if_neg (by omega), if_pos (by omega), h1.2]
    · rw [if_neg h1]
      by_cases h2 : f = 4 ∧ 6 * k ≤ i ∧ i < 6 * k + n
      · rw [if_pos h2, if_pos (by omega)]
      · rw [if_neg h2, if_neg (by omega)]
theorem mto_1 {S : St} {g : Nat} : ∀ n, (mto S g n).1 = S.1 ∧ (mto S g n).2.1 = S.2.1 ∧ (mto S g n).2.2.2 = S.2.2.2
  | 0 => ⟨rfl, rfl, rfl⟩
  | n + 1 => by rw [mto_s]; exact mto_1 n
def ml_out (S : St) (k : Nat) : St := mto (sm S 3 0 (S.2.2.1 3 0 - 1)) k (6 * (mC S - 1) - 6 * k)
theorem ml_out_get {S : St} {k f i : Nat} (h3 : f ≠ 3) (h4 : f ≠ 4) : (ml_out S k).2.2.1 f i = S.2.2.1 f i := by
  unfold ml_out
  rw [mto_get, if_neg (by omega), sm_get, if_neg (by omega)]
theorem ml_out_3 {S : St} {k : Nat} (h : MO S) (hk : k < mC S) : (ml_out S k).2.2.1 3 0 = nI (mC S - 1) := by
  unfold ml_out
  rw [mto_get, if_neg (by omega), sm_get, if_pos ⟨rfl, rfl⟩, h.1, show (1 : Int32) = nI 1 from rfl, pk_sub (by omega)]
theorem ml_out_4 {S : St} {k i : Nat} : (ml_out S k).2.2.1 4 i = if 6 * k ≤ i ∧ i < 6 * k + (6 * (mC S - 1) - 6 * k) then S.2.2.1 4 (i + 6) else S.2.2.1 4 i := by
  unfold ml_out
  rw [mto_get]
  by_cases h : 6 * k ≤ i ∧ i < 6 * k + (6 * (mC S - 1) - 6 * k)
  · rw [if_pos ⟨rfl, h⟩, if_pos h, sm_get, if_neg (by omega)]
  · rw [if_neg (fun z => h z.2), if_neg h, sm_get, if_neg (by omega)]
theorem MO.out {S : St} {k : Nat} (h : MO S) (hk : k < mC S) : MO (ml_out S k) := (MO.mk' (ml_out_3 h hk) (by have := h.2; omega)).1
theorem MI.out {S : St} {g k : Nat} (h : MI S g) (hk : k < mC S) : MI (ml_out S k) g := h.eq (h.1.out hk) (ml_out_get (by decide) (by decide)) (ml_out_get (by decide) (by decide))
theorem ml_out_1 {S : St} {k : Nat} : (ml_out S k).1 = S.1 ∧ (ml_out S k).2.1 = S.2.1 ∧ (ml_out S k).2.2.2 = S.2.2.2 := mto_1 _
set_option maxRecDepth 100000 in
set_option maxHeartbeats 400000 in
theorem l_mOut {X : XS} {d : Nat} {T : St} {k c1 : Nat} (h3 : T.2.2.1 3 0 = nI c1) (hc : c1 ≤ 59) (hk : k ≤ c1) : ∀ c j, j ≤ 6 * c1 - 6 * k → 6 * k + j + c = 6 * c1 → Ex X mX10_takeOut false d 15 [some (.ref (ad 10 0)), some (.int (nI k)), some (.int (nI (6 * k + j)))] [] (hp (mto T k j)) 0 0 (.inl none, hp (mto T k (6 * c1 - 6 * k)), 0, 0) := by
  intro c
  induction c with
  | zero =>
    intro j hj0 hj
    have hj6 : j = 6 * c1 - 6 * k := by omega
    subst hj6
    refine x_iload_n dX10_takeOut_15 rfl ?_
    refine x_bipush (v := 6) dX10_takeOut_16 (by decide) ?_
    refine x_aload_n dX10_takeOut_18 rfl ?_
    refine x_get dX10_takeOut_19 fl_RX10_154 (hp_get (κ := 10) (by decide)) rfl ?_
    refine x_eqi (y := nI c1) (by rw [mto_get, if_neg (by omega)]; exact h3) ?_
    refine x_imul dX10_takeOut_22 ?_
    refine x_eqi (ix6m _) ?_
    refine x_icmp_ge (tgt := 47) dX10_takeOut_23 (by decide) (fun hc23 => ?_) (fun hc23 => by first | exact absurd (nI_le (by omega) (by omega)) hc23 | exact absurd hc23 (nI_le (by omega) (by omega)))
    exact x_rV dX10_takeOut_47 rfl rfl rfl (by simp) (by simp)
  | succ c ih =>
    intro j hj0 hj
    refine x_iload_n dX10_takeOut_15 rfl ?_
    refine x_bipush (v := 6) dX10_takeOut_16 (by decide) ?_
    refine x_aload_n dX10_takeOut_18 rfl ?_
    refine x_get dX10_takeOut_19 fl_RX10_154 (hp_get (κ := 10) (by decide)) rfl ?_
    refine x_eqi (y := nI c1) (by rw [mto_get, if_neg (by omega)]; exact h3) ?_
    refine x_imul dX10_takeOut_22 ?_
    refine x_eqi (ix6m _) ?_
    refine x_icmp_ge (tgt := 47) dX10_takeOut_23 (by decide) (fun hc23 => by first | exact absurd hc23 (nI_ge (by omega) (by omega)) | exact absurd (nI_ge (by omega) (by omega)) hc23) (fun hc23 => ?_)
    refine x_aload_n dX10_takeOut_26 rfl ?_
    refine x_get dX10_takeOut_27 fl_RX10_7 (hp_get (κ := 10) (by decide)) rfl ?_
    refine x_iload_n dX10_takeOut_30 rfl ?_
    refine x_aload_n dX10_takeOut_31 rfl ?_
    refine x_get dX10_takeOut_32 fl_RX10_7 (hp_get (κ := 10) (by decide)) rfl ?_
    refine x_iload_n dX10_takeOut_35 rfl ?_
    refine x_bipush (v := 6) dX10_takeOut_36 (by decide) ?_
    refine x_iadd dX10_takeOut_38 ?_
    refine x_eqi (nIp_6 _) ?_
    refine y_ialdM (f := 4) (κ := 34) dX10_takeOut_39 am_4 rfl (by first | omega | exact sl16_lt _ | assumption) (by decide) ?_
    refine y_iastM (f := 4) (κ := 34) dX10_takeOut_40 am_4 rfl (by first | omega | exact sl16_lt _ | assumption) (by decide) ?_
    refine x_iinc (v := _ + 1) (lv' := [_, _, _]) dX10_takeOut_41 rfl rfl (by decide) rfl ?_
    refine x_goto (tgt := 15) dX10_takeOut_44 (by decide) ?_
    rw [nI_1]
    refine x_heq (S2 := mto T k (j + 1)) mto_s ?_
    exact ih (j + 1) (by omega) (by omega)
set_option maxRecDepth 100000 in
set_option maxHeartbeats 400000 in
theorem c_mOut {X : XS} {d : Nat} {S : St} {k : Nat} (h : MO S) (hk : k < mC S) : Call X mX10_takeOut false d [.ref (ad 10 0), .int (nI k)] (hp S) (.inl none, hp (ml_out S k), 0, 0) := by
  refine Call.of fX10_takeOut (by decide) rfl (by simp [Value.category]) (Nat.le_of_ble_eq_true rfl) (lv := [some (.ref (ad 10 0)), some (.int (nI k)), none]) rfl ?_
  refine x_aload_n dX10_takeOut_0 rfl ?_
  refine x_dup dX10_takeOut_1 rfl ?_
  refine x_get dX10_takeOut_2 fl_RX10_154 (hp_get (κ := 10) (by decide)) rfl ?_
  refine x_iconst (v := 1) dX10_takeOut_5 (by decide) ?_
  refine x_isub dX10_takeOut_6 ?_
  refine x_putM dX10_takeOut_7 fp_RX10_154 pm_3 ?_
  refine x_bipush (v := 6) dX10_takeOut_10 (by decide) ?_
  refine x_iload_n dX10_takeOut_12 rfl ?_
  refine x_imul dX10_takeOut_13 ?_
  refine x_eqi (ix6m _) ?_
  refine x_istore_n (lv' := [_, _, _]) dX10_takeOut_14 (by decide) rfl ?_
  exact l_mOut (T := sm S 3 0 (S.2.2.1 3 0 - 1)) (by rw [sm_get, if_pos ⟨rfl, rfl⟩, h.1, show (1 : Int32) = nI 1 from rfl, pk_sub (by omega)]) (by have := h.2; omega) (by omega) (6 * (mC S - 1) - 6 * k) 0 (by omega) (by omega)
def ml_msg (S : St) (kd g m b : Nat) (a x e : Int32) : St := if kd = 1 then ml_req S g m a (decide (x = 1)) else if kd = 2 then ml_rel S g m a else if kd = 10 then ml_gate S g a x else if kd = 11 then ml_unit S g m b a e else ml_hear S (6 * g + m) kd b a x e
theorem ml_msg_1 {S : St} {g m b : Nat} {a x e : Int32} : ml_msg S 1 g m b a x e = ml_req S g m a (decide (x = 1)) := by
  unfold ml_msg
  rw [if_pos rfl]
theorem ml_msg_2 {S : St} {g m b : Nat} {a x e : Int32} : ml_msg S 2 g m b a x e = ml_rel S g m a := by
  unfold ml_msg
  rw [if_neg (by decide), if_pos rfl]
theorem ml_msg_3 {S : St} {g m b : Nat} {a x e : Int32} : ml_msg S 3 g m b a x e = ml_hear S (6 * g + m) 3 b a x e := by
  unfold ml_msg
  rw [if_neg (by decide), if_neg (by decide), if_neg (by decide), if_neg (by decide)]
theorem ml_msg_4 {S : St} {g m b : Nat} {a x e : Int32} : ml_msg S 4 g m b a x e = ml_hear S (6 * g + m) 4 b a x e := by
  unfold ml_msg
  rw [if_neg (by decide), if_neg (by decide), if_neg (by decide), if_neg (by decide)]
theorem ml_msg_5 {S : St} {g m b : Nat} {a x e : Int32} : ml_msg S 5 g m b a x e = ml_hear S (6 * g + m) 5 b a x e := by
  unfold ml_msg
  rw [if_neg (by decide), if_neg (by decide), if_neg (by decide), if_neg (by decide)]
theorem ml_msg_6 {S : St} {g m b : Nat} {a x e : Int32} : ml_msg S 6 g m b a x e = ml_hear S (6 * g + m) 6 b a x e := by
  unfold ml_msg
  rw [if_neg (by decide), if_neg (by decide), if_neg (by decide), if_neg (by decide)]
theorem ml_msg_7 {S : St} {g m b : Nat} {a x e : Int32} : ml_msg S 7 g m b a x e = ml_hear S (6 * g + m) 7 b a x e := by
  unfold ml_msg
  rw [if_neg (by decide), if_neg (by decide), if_neg (by decide), if_neg (by decide)]
theorem ml_msg_8 {S : St} {g m b : Nat} {a x e : Int32} : ml_msg S 8 g m b a x e = ml_hear S (6 * g + m) 8 b a x e := by
  unfold ml_msg
  rw [if_neg (by decide), if_neg (by decide), if_neg (by decide), if_neg (by decide)]
theorem ml_msg_9 {S : St} {g m b : Nat} {a x e : Int32} : ml_msg S 9 g m b a x e = ml_hear S (6 * g + m) 9 b a x e := by
  unfold ml_msg
  rw [if_neg (by decide), if_neg (by decide), if_neg (by decide), if_neg (by decide)]
theorem ml_msg_10 {S : St} {g m b : Nat} {a x e : Int32} : ml_msg S 10 g m b a x e = ml_gate S g a x := by
  unfold ml_msg
  rw [if_neg (by decide), if_neg (by decide), if_pos rfl]
theorem ml_msg_11 {S : St} {g m b : Nat} {a x e : Int32} : ml_msg S 11 g m b a x e = ml_unit S g m b a e := by
  unfold ml_msg
  rw [if_neg (by decide), if_neg (by decide), if_neg (by decide), if_pos rfl]
set_option maxRecDepth 100000 in
set_option maxHeartbeats 400000 in
theorem l_cm_1 {X : XS} {d : Nat} {S : St} {k g m b : Nat} {z a x e : Int32} (hg : g < 3) (hm : m < 6) (h : MI S g) : Ex X mX10_comes false (d + 6) 84 [some (.ref (ad 10 0)), some (.int (nI k)), some (.int z), some (.int 1), some (.int (nI g)), some (.int (nI m)), some (.int a), some (.int x), some (.int e)] [] (hp S) 0 0 (.inl none, hp (ml_msg S 1 g m b a x e), 0, 0) := by
  refine x_iload_n dX10_comes_84 rfl ?_
  refine x_iconst (v := 1) dX10_comes_85 (by decide) ?_
  refine x_icmp_ne (tgt := 113) dX10_comes_86 (by decide) (fun hc86 => by first | exact absurd hc86 (by decide) | exact absurd (by decide) hc86) (fun hc86 => ?_)
  refine x_aload_n dX10_comes_89 rfl ?_
  refine x_iload dX10_comes_90 rfl ?_
  refine x_iload dX10_comes_92 rfl ?_
  refine x_iload dX10_comes_94 rfl ?_
  refine x_iload dX10_comes_96 rfl ?_
  refine x_iconst (v := 1) dX10_comes_98 (by decide) ?_
  refine x_icmp_ne (tgt := 106) dX10_comes_99 (by decide) (fun hc99 => ?_) (fun hc99 => ?_)
  · refine x_iconst (v := 0) dX10_comes_106 (by decide) ?_
    refine x_eqi (y := bI (decide (x = 1))) (by simp [bI, hc99]) ?_
    refine x_cVv (as := [_, _, _, _]) dX10_comes_107 fX10_requested rfl lk_RX10_216 rfl (hp_get (κ := 10) (by decide)) rfl rfl (Nat.le_of_ble_eq_true rfl) (c_mReq hg hm h _ _) (by simp) (by simp) ?_
    refine x_goto (tgt := 188) dX10_comes_110 (by decide) ?_
    exact x_rV dX10_comes_188 rfl rfl (congrArg hp ml_msg_1) (by simp) (by simp)
  · refine x_iconst (v := 1) dX10_comes_102 (by decide) ?_
    refine x_goto (tgt := 107) dX10_comes_103 (by decide) ?_
    refine x_eqi (y := bI (decide (x = 1))) (by simp [bI, hc99]) ?_
    refine x_cVv (as := [_, _, _, _]) dX10_comes_107 fX10_requested rfl lk_RX10_216 rfl (hp_get (κ := 10) (by decide)) rfl rfl (Nat.le_of_ble_eq_true rfl) (c_mReq hg hm h _ _) (by simp) (by simp) ?_
    refine x_goto (tgt := 188) dX10_comes_110 (by decide) ?_
    exact x_rV dX10_comes_188 rfl rfl (congrArg hp ml_msg_1) (by simp) (by simp)
set_option maxRecDepth 100000 in
set_option maxHeartbeats 400000 in
theorem l_cm_2 {X : XS} {d : Nat} {S : St} {k g m b : Nat} {z a x e : Int32} (hg : g < 3) (hm : m < 6) (h : MI S g) : Ex X mX10_comes false (d + 6) 84 [some (.ref (ad 10 0)), some (.int (nI k)), some (.int z), some (.int 2), some (.int (nI g)), some (.int (nI m)), some (.int a), some (.int x), some (.int e)] [] (hp S) 0 0 (.inl none, hp (ml_msg S 2 g m b a x e), 0, 0) := by
  refine x_iload_n dX10_comes_84 rfl ?_
  refine x_iconst (v := 1) dX10_comes_85 (by decide) ?_
  refine x_icmp_ne (tgt := 113) dX10_comes_86 (by decide) (fun hc86 => ?_) (fun hc86 => by first | exact absurd (by decide) hc86 | exact absurd hc86 (by decide))
  refine x_iload_n dX10_comes_113 rfl ?_
  refine x_iconst (v := 2) dX10_comes_114 (by decide) ?_
  refine x_icmp_ne (tgt := 131) dX10_comes_115 (by decide) (fun hc115 => by first | exact absurd hc115 (by decide) | exact absurd (by decide) hc115) (fun hc115 => ?_)
  refine x_aload_n dX10_comes_118 rfl ?_
  refine x_iload dX10_comes_119 rfl ?_
  refine x_iload dX10_comes_121 rfl ?_
  refine x_iload dX10_comes_123 rfl ?_
  refine x_cVv (as := [_, _, _]) dX10_comes_125 fX10_released rfl lk_RX10_220 rfl (hp_get (κ := 10) (by decide)) rfl rfl (Nat.le_of_ble_eq_true rfl) (c_mRel hg hm h _) (by simp) (by simp) ?_
  refine x_goto (tgt := 188) dX10_comes_128 (by decide) ?_
  exact x_rV dX10_comes_188 rfl rfl (congrArg hp ml_msg_2) (by simp) (by simp)
set_option maxRecDepth 100000 in
set_option maxHeartbeats 400000 in
theorem l_cm_3 {X : XS} {d : Nat} {S : St} {k g m b : Nat} {z a x e : Int32} (hg : g < 3) (hm : m < 6) (h : MI S g) : Ex X mX10_comes false (d + 6) 84 [some (.ref (ad 10 0)), some (.int (nI k)), some (.int z), some (.int 3), some (.int (nI g)), some (.int (nI m)), some (.int a), some (.int x), some (.int e)] [] (hp S) 0 0 (.inl none, hp (ml_msg S 3 g m b a x e), 0, 0) := by
  refine x_iload_n dX10_comes_84 rfl ?_
  refine x_iconst (v := 1) dX10_comes_85 (by decide) ?_
  refine x_icmp_ne (tgt := 113) dX10_comes_86 (by decide) (fun hc86 => ?_) (fun hc86 => by first | exact absurd (by decide) hc86 | exact absurd hc86 (by decide))
  refine x_iload_n dX10_comes_113 rfl ?_
  refine x_iconst (v := 2) dX10_comes_114 (by decide) ?_
  refine x_icmp_ne (tgt := 131) dX10_comes_115 (by decide) (fun hc115 => ?_) (fun hc115 => by first | exact absurd (by decide) hc115 | exact absurd hc115 (by decide))
  refine x_iload_n dX10_comes_131 rfl ?_
  refine x_bipush (v := 10) dX10_comes_132 (by decide) ?_
  refine x_icmp_ne (tgt := 150) dX10_comes_134 (by decide) (fun hc134 => ?_) (fun hc134 => by first | exact absurd (by decide) hc134 | exact absurd hc134 (by decide))
  refine x_iload_n dX10_comes_150 rfl ?_
  refine x_bipush (v := 11) dX10_comes_151 (by decide) ?_
  refine x_icmp_ne (tgt := 173) dX10_comes_153 (by decide) (fun hc153 => ?_) (fun hc153 => by first | exact absurd (by decide) hc153 | exact absurd hc153 (by decide))
  refine x_aload_n dX10_comes_173 rfl ?_
  refine x_iload_n dX10_comes_174 rfl ?_
  refine x_iload dX10_comes_175 rfl ?_
  refine x_iload dX10_comes_177 rfl ?_
  refine x_iload dX10_comes_179 rfl ?_
  refine x_iload dX10_comes_181 rfl ?_
  refine x_iload dX10_comes_183 rfl ?_
  refine x_cVv (as := [_, _, _, _, _, _]) dX10_comes_185 fX10_memberHears rfl lk_RX10_231 rfl (hp_get (κ := 10) (by decide)) rfl rfl (Nat.le_of_ble_eq_true rfl) (c_mHear_3 (b := b) hg hm) (by simp) (by simp) ?_
  exact x_rV dX10_comes_188 rfl rfl (congrArg hp ml_msg_3) (by simp) (by simp)
set_option maxRecDepth 100000 in
set_option maxHeartbeats 400000 in
theorem l_cm_4 {X : XS} {d : Nat} {S : St} {k g m b : Nat} {z a x e : Int32} (hg : g < 3) (hm : m < 6) (h : MI S g) : Ex X mX10_comes false (d + 6) 84 [some (.ref (ad 10 0)), some (.int (nI k)), some (.int z), some (.int 4), some (.int (nI g)), some (.int (nI m)), some (.int a), some (.int x), some (.int e)] [] (hp S) 0 0 (.inl none, hp (ml_msg S 4 g m b a x e), 0, 0) := by
  refine x_iload_n dX10_comes_84 rfl ?_
  refine x_iconst (v := 1) dX10_comes_85 (by decide) ?_
  refine x_icmp_ne (tgt := 113) dX10_comes_86 (by decide) (fun hc86 => ?_) (fun hc86 => by first | exact absurd (by decide) hc86 | exact absurd hc86 (by decide))
  refine x_iload_n dX10_comes_113 rfl ?_
  refine x_iconst (v := 2) dX10_comes_114 (by decide) ?_
  refine x_icmp_ne (tgt := 131) dX10_comes_115 (by decide) (fun hc115 => ?_) (fun hc115 => by first | exact absurd (by decide) hc115 | exact absurd hc115 (by decide))
  refine x_iload_n dX10_comes_131 rfl ?_
  refine x_bipush (v := 10) dX10_comes_132 (by decide) ?_
  refine x_icmp_ne (tgt := 150) dX10_comes_134 (by decide) (fun hc134 => ?_) (fun hc134 => by first | exact absurd (by decide) hc134 | exact absurd hc134 (by decide))
  refine x_iload_n dX10_comes_150 rfl ?_
  refine x_bipush (v := 11) dX10_comes_151 (by decide) ?_
  refine x_icmp_ne (tgt := 173) dX10_comes_153 (by decide) (fun hc153 => ?_) (fun hc153 => by first | exact absurd (by decide) hc153 | exact absurd hc153 (by decide))
  refine x_aload_n dX10_comes_173 rfl ?_
  refine x_iload_n dX10_comes_174 rfl ?_
  refine x_iload dX10_comes_175 rfl ?_
  refine x_iload dX10_comes_177 rfl ?_
  refine x_iload dX10_comes_179 rfl ?_
  refine x_iload dX10_comes_181 rfl ?_
  refine x_iload dX10_comes_183 rfl ?_
  refine x_cVv (as := [_, _, _, _, _, _]) dX10_comes_185 fX10_memberHears rfl lk_RX10_231 rfl (hp_get (κ := 10) (by decide)) rfl rfl (Nat.le_of_ble_eq_true rfl) (c_mHear_4 (b := b) hg hm) (by simp) (by simp) ?_
  exact x_rV dX10_comes_188 rfl rfl (congrArg hp ml_msg_4) (by simp) (by simp)
set_option maxRecDepth 100000 in
set_option maxHeartbeats 400000 in
theorem l_cm_5 {X : XS} {d : Nat} {S : St} {k g m b : Nat} {z a x e : Int32} (hg : g < 3) (hm : m < 6) (h : MI S g) : Ex X mX10_comes false (d + 6) 84 [some (.ref (ad 10 0)), some (.int (nI k)), some (.int z), some (.int 5), some (.int (nI g)), some (.int (nI m)), some (.int a), some (.int x), some (.int e)] [] (hp S) 0 0 (.inl none, hp (ml_msg S 5 g m b a x e), 0, 0) := by
  refine x_iload_n dX10_comes_84 rfl ?_
  refine x_iconst (v := 1) dX10_comes_85 (by decide) ?_
  refine x_icmp_ne (tgt := 113) dX10_comes_86 (by decide) (fun hc86 => ?_) (fun hc86 => by first | exact absurd (by decide) hc86 | exact absurd hc86 (by decide))
  refine x_iload_n dX10_comes_113 rfl ?_
  refine x_iconst (v := 2) dX10_comes_114 (by decide) ?_
  refine x_icmp_ne (tgt := 131) dX10_comes_115 (by decide) (fun hc115 => ?_) (fun hc115 => by first | exact absurd (by decide) hc115 | exact absurd hc115 (by decide))
  refine x_iload_n dX10_comes_131 rfl ?_
  refine x_bipush (v := 10) dX10_comes_132 (by decide) ?_
  refine x_icmp_ne (tgt := 150) dX10_comes_134 (by decide) (fun hc134 => ?_) (fun hc134 => by first | exact absurd (by decide) hc134 | exact absurd hc134 (by decide))
  refine x_iload_n dX10_comes_150 rfl ?_
  refine x_bipush (v := 11) dX10_comes_151 (by decide) ?_
  refine x_icmp_ne (tgt := 173) dX10_comes_153 (by decide) (fun hc153 => ?_) (fun hc153 => by first | exact absurd (by decide) hc153 | exact absurd hc153 (by decide))
  refine x_aload_n dX10_comes_173 rfl ?_
  refine x_iload_n dX10_comes_174 rfl ?_
  refine x_iload dX10_comes_175 rfl ?_
  refine x_iload dX10_comes_177 rfl ?_
  refine x_iload dX10_comes_179 rfl ?_
  refine x_iload dX10_comes_181 rfl ?_
  refine x_iload dX10_comes_183 rfl ?_
  refine x_cVv (as := [_, _, _, _, _, _]) dX10_comes_185 fX10_memberHears rfl lk_RX10_231 rfl (hp_get (κ := 10) (by decide)) rfl rfl (Nat.le_of_ble_eq_true rfl) (c_mHear_5 (b := b) hg hm) (by simp) (by simp) ?_
  exact x_rV dX10_comes_188 rfl rfl (congrArg hp ml_msg_5) (by simp) (by simp)
set_option maxRecDepth 100000 in
set_option maxHeartbeats 400000 in
theorem l_cm_6 {X : XS} {d : Nat} {S : St} {k g m b : Nat} {z a x e : Int32} (hg : g < 3) (hm : m < 6) (h : MI S g) : Ex X mX10_comes false (d + 6) 84 [some (.ref (ad 10 0)), some (.int (nI k)), some (.int z), some (.int 6), some (.int (nI g)), some (.int (nI m)), some (.int a), some (.int x), some (.int e)] [] (hp S) 0 0 (.inl none, hp (ml_msg S 6 g m b a x e), 0, 0) := by
  refine x_iload_n dX10_comes_84 rfl ?_
  refine x_iconst (v := 1) dX10_comes_85 (by decide) ?_
  refine x_icmp_ne (tgt := 113) dX10_comes_86 (by decide) (fun hc86 => ?_) (fun hc86 => by first | exact absurd (by decide) hc86 | exact absurd hc86 (by decide))
  refine x_iload_n dX10_comes_113 rfl ?_
  refine x_iconst (v := 2) dX10_comes_114 (by decide) ?_
  refine x_icmp_ne (tgt := 131) dX10_comes_115 (by decide) (fun hc115 => ?_) (fun hc115 => by first | exact absurd (by decide) hc115 | exact absurd hc115 (by decide))
  refine x_iload_n dX10_comes_131 rfl ?_
  refine x_bipush (v := 10) dX10_comes_132 (by decide) ?_
  refine x_icmp_ne (tgt := 150) dX10_comes_134 (by decide) (fun hc134 => ?_) (fun hc134 => by first | exact absurd (by decide) hc134 | exact absurd hc134 (by decide))
  refine x_iload_n dX10_comes_150 rfl ?_
  refine x_bipush (v := 11) dX10_comes_151 (by decide) ?_
  refine x_icmp_ne (tgt := 173) dX10_comes_153 (by decide) (fun hc153 => ?_) (fun hc153 => by first | exact absurd (by decide) hc153 | exact absurd hc153 (by decide))
  refine x_aload_n dX10_comes_173 rfl ?_
  refine x_iload_n dX10_comes_174 rfl ?_
  refine x_iload dX10_comes_175 rfl ?_
  refine x_iload dX10_comes_177 rfl ?_
  refine x_iload dX10_comes_179 rfl ?_
  refine x_iload dX10_comes_181 rfl ?_
  refine x_iload dX10_comes_183 rfl ?_
  refine x_cVv (as := [_, _, _, _, _, _]) dX10_comes_185 fX10_memberHears rfl lk_RX10_231 rfl (hp_get (κ := 10) (by decide)) rfl rfl (Nat.le_of_ble_eq_true rfl) (c_mHear_6 (b := b) hg hm) (by simp) (by simp) ?_
  exact x_rV dX10_comes_188 rfl rfl (congrArg hp ml_msg_6) (by simp) (by simp)
set_option maxRecDepth 100000 in
set_option maxHeartbeats 400000 in
theorem l_cm_7 {X : XS} {d : Nat} {S : St} {k g m b : Nat} {z a x e : Int32} (hg : g < 3) (hm : m < 6) (h : MI S g) : Ex X mX10_comes false (d + 6) 84 [some (.ref (ad 10 0)), some (.int (nI k)), some (.int z), some (.int 7), some (.int (nI g)), some (.int (nI m)), some (.int a), some (.int x), some (.int e)] [] (hp S) 0 0 (.inl none, hp (ml_msg S 7 g m b a x e), 0, 0) := by
  refine x_iload_n dX10_comes_84 rfl ?_
  refine x_iconst (v := 1) dX10_comes_85 (by decide) ?_
  refine x_icmp_ne (tgt := 113) dX10_comes_86 (by decide) (fun hc86 => ?_) (fun hc86 => by first | exact absurd (by decide) hc86 | exact absurd hc86 (by decide))
  refine x_iload_n dX10_comes_113 rfl ?_
  refine x_iconst (v := 2) dX10_comes_114 (by decide) ?_
  refine x_icmp_ne (tgt := 131) dX10_comes_115 (by decide) (fun hc115 => ?_) (fun hc115 => by first | exact absurd (by decide) hc115 | exact absurd hc115 (by decide))
  refine x_iload_n dX10_comes_131 rfl ?_
  refine x_bipush (v := 10) dX10_comes_132 (by decide) ?_
  refine x_icmp_ne (tgt := 150) dX10_comes_134 (by decide) (fun hc134 => ?_) (fun hc134 => by first | exact absurd (by decide) hc134 | exact absurd hc134 (by decide))
  refine x_iload_n dX10_comes_150 rfl ?_
  refine x_bipush (v := 11) dX10_comes_151 (by decide) ?_
  refine x_icmp_ne (tgt := 173) dX10_comes_153 (by decide) (fun hc153 => ?_) (fun hc153 => by first | exact absurd (by decide) hc153 | exact absurd hc153 (by decide))
  refine x_aload_n dX10_comes_173 rfl ?_
  refine x_iload_n dX10_comes_174 rfl ?_
  refine x_iload dX10_comes_175 rfl ?_
  refine x_iload dX10_comes_177 rfl ?_
  refine x_iload dX10_comes_179 rfl ?_
  refine x_iload dX10_comes_181 rfl ?_
  refine x_iload dX10_comes_183 rfl ?_
  refine x_cVv (as := [_, _, _, _, _, _]) dX10_comes_185 fX10_memberHears rfl lk_RX10_231 rfl (hp_get (κ := 10) (by decide)) rfl rfl (Nat.le_of_ble_eq_true rfl) (c_mHear_7 (b := b) hg hm) (by simp) (by simp) ?_
  exact x_rV dX10_comes_188 rfl rfl (congrArg hp ml_msg_7) (by simp) (by simp)
set_option maxRecDepth 100000 in
set_option maxHeartbeats 400000 in
theorem l_cm_8 {X : XS} {d : Nat} {S : St} {k g m b : Nat} {z a x e : Int32} (hg : g < 3) (hm : m < 6) (h : MI S g) : Ex X mX10_comes false (d + 6) 84 [some (.ref (ad 10 0)), some (.int (nI k)), some (.int z), some (.int 8), some (.int (nI g)), some (.int (nI m)), some (.int a), some (.int x), some (.int e)] [] (hp S) 0 0 (.inl none, hp (ml_msg S 8 g m b a x e), 0, 0) := by
  refine x_iload_n dX10_comes_84 rfl ?_
  refine x_iconst (v := 1) dX10_comes_85 (by decide) ?_
  refine x_icmp_ne (tgt := 113) dX10_comes_86 (by decide) (fun hc86 => ?_) (fun hc86 => by first | exact absurd (by decide) hc86 | exact absurd hc86 (by decide))
  refine x_iload_n dX10_comes_113 rfl ?_
  refine x_iconst (v := 2) dX10_comes_114 (by decide) ?_
  refine x_icmp_ne (tgt := 131) dX10_comes_115 (by decide) (fun hc115 => ?_) (fun hc115 => by first | exact absurd (by decide) hc115 | exact absurd hc115 (by decide))
  refine x_iload_n dX10_comes_131 rfl ?_
  refine x_bipush (v := 10) dX10_comes_132 (by decide) ?_
  refine x_icmp_ne (tgt := 150) dX10_comes_134 (by decide) (fun hc134 => ?_) (fun hc134 => by first | exact absurd (by decide) hc134 | exact absurd hc134 (by decide))
  refine x_iload_n dX10_comes_150 rfl ?_
  refine x_bipush (v := 11) dX10_comes_151 (by decide) ?_
  refine x_icmp_ne (tgt := 173) dX10_comes_153 (by decide) (fun hc153 => ?_) (fun hc153 => by first | exact absurd (by decide) hc153 | exact absurd hc153 (by decide))
  refine x_aload_n dX10_comes_173 rfl ?_
  refine x_iload_n dX10_comes_174 rfl ?_
  refine x_iload dX10_comes_175 rfl ?_
  refine x_iload dX10_comes_177 rfl ?_
  refine x_iload dX10_comes_179 rfl ?_
  refine x_iload dX10_comes_181 rfl ?_
  refine x_iload dX10_comes_183 rfl ?_
  refine x_cVv (as := [_, _, _, _, _, _]) dX10_comes_185 fX10_memberHears rfl lk_RX10_231 rfl (hp_get (κ := 10) (by decide)) rfl rfl (Nat.le_of_ble_eq_true rfl) (c_mHear_8 (b := b) hg hm) (by simp) (by simp) ?_
  exact x_rV dX10_comes_188 rfl rfl (congrArg hp ml_msg_8) (by simp) (by simp)
set_option maxRecDepth 100000 in
set_option maxHeartbeats 400000 in
theorem l_cm_9 {X : XS} {d : Nat} {S : St} {k g m b : Nat} {z a x e : Int32} (hg : g < 3) (hm : m < 6) (h : MI S g) (hb : b < 64) (hx : x = nI b) : Ex X mX10_comes false (d + 6) 84 [some (.ref (ad 10 0)), some (.int (nI k)), some (.int z), some (.int 9), some (.int (nI g)), some (.int (nI m)), some (.int a), some (.int x), some (.int e)] [] (hp S) 0 0 (.inl none, hp (ml_msg S 9 g m b a x e), 0, 0) := by
  refine x_iload_n dX10_comes_84 rfl ?_
  refine x_iconst (v := 1) dX10_comes_85 (by decide) ?_
  refine x_icmp_ne (tgt := 113) dX10_comes_86 (by decide) (fun hc86 => ?_) (fun hc86 => by first | exact absurd (by decide) hc86 | exact absurd hc86 (by decide))
  refine x_iload_n dX10_comes_113 rfl ?_
  refine x_iconst (v := 2) dX10_comes_114 (by decide) ?_
  refine x_icmp_ne (tgt := 131) dX10_comes_115 (by decide) (fun hc115 => ?_) (fun hc115 => by first | exact absurd (by decide) hc115 | exact absurd hc115 (by decide))
  refine x_iload_n dX10_comes_131 rfl ?_
  refine x_bipush (v := 10) dX10_comes_132 (by decide) ?_
  refine x_icmp_ne (tgt := 150) dX10_comes_134 (by decide) (fun hc134 => ?_) (fun hc134 => by first | exact absurd (by decide) hc134 | exact absurd hc134 (by decide))
  refine x_iload_n dX10_comes_150 rfl ?_
  refine x_bipush (v := 11) dX10_comes_151 (by decide) ?_
  refine x_icmp_ne (tgt := 173) dX10_comes_153 (by decide) (fun hc153 => ?_) (fun hc153 => by first | exact absurd (by decide) hc153 | exact absurd hc153 (by decide))
  refine x_aload_n dX10_comes_173 rfl ?_
  refine x_iload_n dX10_comes_174 rfl ?_
  refine x_iload dX10_comes_175 rfl ?_
  refine x_iload dX10_comes_177 rfl ?_
  refine x_iload dX10_comes_179 rfl ?_
  refine x_iload dX10_comes_181 rfl ?_
  refine x_iload dX10_comes_183 rfl ?_
  refine x_cVv (as := [_, _, _, _, _, _]) dX10_comes_185 fX10_memberHears rfl lk_RX10_231 rfl (hp_get (κ := 10) (by decide)) rfl rfl (Nat.le_of_ble_eq_true rfl) (c_mHear_9 (b := b) hg hm hb hx) (by simp) (by simp) ?_
  exact x_rV dX10_comes_188 rfl rfl (congrArg hp ml_msg_9) (by simp) (by simp)
set_option maxRecDepth 100000 in
set_option maxHeartbeats 400000 in
theorem l_cm_10 {X : XS} {d : Nat} {S : St} {k g m b : Nat} {z a x e : Int32} (hg : g < 3) (hm : m < 6) (h : MI S g) : Ex X mX10_comes false (d + 6) 84 [some (.ref (ad 10 0)), some (.int (nI k)), some (.int z), some (.int 10), some (.int (nI g)), some (.int (nI m)), some (.int a), some (.int x), some (.int e)] [] (hp S) 0 0 (.inl none, hp (ml_msg S 10 g m b a x e), 0, 0) := by
  refine x_iload_n dX10_comes_84 rfl ?_
  refine x_iconst (v := 1) dX10_comes_85 (by decide) ?_
  refine x_icmp_ne (tgt := 113) dX10_comes_86 (by decide) (fun hc86 => ?_) (fun hc86 => by first | exact absurd (by decide) hc86 | exact absurd hc86 (by decide))
  refine x_iload_n dX10_comes_113 rfl ?_
  refine x_iconst (v := 2) dX10_comes_114 (by decide) ?_
  refine x_icmp_ne (tgt := 131) dX10_comes_115 (by decide) (fun hc115 => ?_) (fun hc115 => by first | exact absurd (by decide) hc115 | exact absurd hc115 (by decide))
  refine x_iload_n dX10_comes_131 rfl ?_
  refine x_bipush (v := 10) dX10_comes_132 (by decide) ?_
  refine x_icmp_ne (tgt := 150) dX10_comes_134 (by decide) (fun hc134 => by first | exact absurd hc134 (by decide) | exact absurd (by decide) hc134) (fun hc134 => ?_)
  refine x_aload_n dX10_comes_137 rfl ?_
  refine x_iload dX10_comes_138 rfl ?_
  refine x_iload dX10_comes_140 rfl ?_
  refine x_iload dX10_comes_142 rfl ?_
  refine x_cVv (as := [_, _, _]) dX10_comes_144 fX10_gateComes rfl lk_RX10_224 rfl (hp_get (κ := 10) (by decide)) rfl rfl (Nat.le_of_ble_eq_true rfl) (c_mGate hg _ _) (by simp) (by simp) ?_
  refine x_goto (tgt := 188) dX10_comes_147 (by decide) ?_
  exact x_rV dX10_comes_188 rfl rfl (congrArg hp ml_msg_10) (by simp) (by simp)
set_option maxRecDepth 100000 in
set_option maxHeartbeats 400000 in
theorem l_cm_11 {X : XS} {d : Nat} {S : St} {k g m b : Nat} {z a x e : Int32} (hg : g < 3) (hm : m < 6) (h : MI S g) (hb : b < 64) (hx : x = nI b) : Ex X mX10_comes false (d + 6) 84 [some (.ref (ad 10 0)), some (.int (nI k)), some (.int z), some (.int 11), some (.int (nI g)), some (.int (nI m)), some (.int a), some (.int x), some (.int e)] [] (hp S) 0 0 (.inl none, hp (ml_msg S 11 g m b a x e), 0, 0) := by
  refine x_iload_n dX10_comes_84 rfl ?_
  refine x_iconst (v := 1) dX10_comes_85 (by decide) ?_
  refine x_icmp_ne (tgt := 113) dX10_comes_86 (by decide) (fun hc86 => ?_) (fun hc86 => by first | exact absurd (by decide) hc86 | exact absurd hc86 (by decide))
  refine x_iload_n dX10_comes_113 rfl ?_
  refine x_iconst (v := 2) dX10_comes_114 (by decide) ?_
  refine x_icmp_ne (tgt := 131) dX10_comes_115 (by decide) (fun hc115 => ?_) (fun hc115 => by first | exact absurd (by decide) hc115 | exact absurd hc115 (by decide))
  refine x_iload_n dX10_comes_131 rfl ?_
  refine x_bipush (v := 10) dX10_comes_132 (by decide) ?_
  refine x_icmp_ne (tgt := 150) dX10_comes_134 (by decide) (fun hc134 => ?_) (fun hc134 => by first | exact absurd (by decide) hc134 | exact absurd hc134 (by decide))
  refine x_iload_n dX10_comes_150 rfl ?_
  refine x_bipush (v := 11) dX10_comes_151 (by decide) ?_
  refine x_icmp_ne (tgt := 173) dX10_comes_153 (by decide) (fun hc153 => by first | exact absurd hc153 (by decide) | exact absurd (by decide) hc153) (fun hc153 => ?_)
  refine x_aload_n dX10_comes_156 rfl ?_
  refine x_iload dX10_comes_157 rfl ?_
  refine x_iload dX10_comes_159 rfl ?_
  refine x_iload dX10_comes_161 rfl ?_
  refine x_iload dX10_comes_163 rfl ?_
  refine x_eqi hx ?_
  refine x_iload dX10_comes_165 rfl ?_
  refine x_cVv (as := [_, _, _, _, _]) dX10_comes_167 fX10_unitComes rfl lk_RX10_227 rfl (hp_get (κ := 10) (by decide)) rfl rfl (Nat.le_of_ble_eq_true rfl) (c_mUnit hg hm hb h.1 _ _) (by simp) (by simp) ?_
  refine x_goto (tgt := 188) dX10_comes_170 (by decide) ?_
  exact x_rV dX10_comes_188 rfl rfl (congrArg hp ml_msg_11) (by simp) (by simp)
set_option maxRecDepth 100000 in
set_option maxHeartbeats 400000 in
theorem l_cm0 {X : XS} {d : Nat} {S : St} {k : Nat} {z v0 v1 v2 v3 v4 v5 : Int32} {r : Rs} (hk : k < 61) (h0 : S.2.2.1 4 (6 * k) = v0) (h1 : S.2.2.1 4 (6 * k + 1) = v1) (h2 : S.2.2.1 4 (6 * k + 2) = v2) (h3 : S.2.2.1 4 (6 * k + 3) = v3) (h4 : S.2.2.1 4 (6 * k + 4) = v4) (h5 : S.2.2.1 4 (6 * k + 5) = v5) (kk : Ex X mX10_comes false (d + 6) 75 [some (.ref (ad 10 0)), some (.int (nI k)), some (.int z), some (.int v0), some (.int v1), some (.int v2), some (.int v3), some (.int v4), some (.int v5)] [] (hp S) 0 0 r) : Ex X mX10_comes false (d + 6) 0 [some (.ref (ad 10 0)), some (.int (nI k)), some (.int z), none, none, none, none, none, none] [] (hp S) 0 0 r := by
  refine x_aload_n dX10_comes_0 rfl ?_
  refine x_get dX10_comes_1 fl_RX10_7 (hp_get (κ := 10) (by decide)) rfl ?_
  refine x_bipush (v := 6) dX10_comes_4 (by decide) ?_
  refine x_iload_n dX10_comes_6 rfl ?_
  refine x_imul dX10_comes_7 ?_
  refine x_eqi (ix6m _) ?_
  refine y_ialdM (f := 4) (κ := 34) dX10_comes_8 am_4 rfl (by first | omega | exact sl16_lt _ | assumption) (by decide) ?_
  refine x_eqi h0 ?_
  refine x_istore_n (lv' := [_, _, _, _, _, _, _, _, _]) dX10_comes_9 (by decide) rfl ?_
  refine x_aload_n dX10_comes_10 rfl ?_
  refine x_get dX10_comes_11 fl_RX10_7 (hp_get (κ := 10) (by decide)) rfl ?_
  refine x_bipush (v := 6) dX10_comes_14 (by decide) ?_
  refine x_iload_n dX10_comes_16 rfl ?_
  refine x_imul dX10_comes_17 ?_
  refine x_iconst (v := 1) dX10_comes_18 (by decide) ?_
  refine x_iadd dX10_comes_19 ?_
  refine x_eqi (ix6_1 _) ?_
  refine y_ialdM (f := 4) (κ := 34) dX10_comes_20 am_4 rfl (by first | omega | exact sl16_lt _ | assumption) (by decide) ?_
  refine x_eqi h1 ?_
  refine x_istore (lv' := [_, _, _, _, _, _, _, _, _]) dX10_comes_21 (by decide) rfl ?_
  refine x_aload_n dX10_comes_23 rfl ?_
  refine x_get dX10_comes_24 fl_RX10_7 (hp_get (κ := 10) (by decide)) rfl ?_
  refine x_bipush (v := 6) dX10_comes_27 (by decide) ?_
  refine x_iload_n dX10_comes_29 rfl ?_
  refine x_imul dX10_comes_30 ?_
  refine x_iconst (v := 2) dX10_comes_31 (by decide) ?_
  refine x_iadd dX10_comes_32 ?_
  refine x_eqi (ix6_2 _) ?_
  refine y_ialdM (f := 4) (κ := 34) dX10_comes_33 am_4 rfl (by first | omega | exact sl16_lt _ | assumption) (by decide) ?_
  refine x_eqi h2 ?_
  refine x_istore (lv' := [_, _, _, _, _, _, _, _, _]) dX10_comes_34 (by decide) rfl ?_
  refine x_aload_n dX10_comes_36 rfl ?_
  refine x_get dX10_comes_37 fl_RX10_7 (hp_get (κ := 10) (by decide)) rfl ?_
  refine x_bipush (v := 6) dX10_comes_40 (by decide) ?_
  refine x_iload_n dX10_comes_42 rfl ?_
  refine x_imul dX10_comes_43 ?_
  refine x_iconst (v := 3) dX10_comes_44 (by decide) ?_
  refine x_iadd dX10_comes_45 ?_
  refine x_eqi (ix6_3 _) ?_
  refine y_ialdM (f := 4) (κ := 34) dX10_comes_46 am_4 rfl (by first | omega | exact sl16_lt _ | assumption) (by decide) ?_
  refine x_eqi h3 ?_
  refine x_istore (lv' := [_, _, _, _, _, _, _, _, _]) dX10_comes_47 (by decide) rfl ?_
  refine x_aload_n dX10_comes_49 rfl ?_
  refine x_get dX10_comes_50 fl_RX10_7 (hp_get (κ := 10) (by decide)) rfl ?_
  refine x_bipush (v := 6) dX10_comes_53 (by decide) ?_
  refine x_iload_n dX10_comes_55 rfl ?_
  refine x_imul dX10_comes_56 ?_
  refine x_iconst (v := 4) dX10_comes_57 (by decide) ?_
  refine x_iadd dX10_comes_58 ?_
  refine x_eqi (ix6_4 _) ?_
  refine y_ialdM (f := 4) (κ := 34) dX10_comes_59 am_4 rfl (by first | omega | exact sl16_lt _ | assumption) (by decide) ?_
  refine x_eqi h4 ?_
  refine x_istore (lv' := [_, _, _, _, _, _, _, _, _]) dX10_comes_60 (by decide) rfl ?_
  refine x_aload_n dX10_comes_62 rfl ?_
  refine x_get dX10_comes_63 fl_RX10_7 (hp_get (κ := 10) (by decide)) rfl ?_
  refine x_bipush (v := 6) dX10_comes_66 (by decide) ?_
  refine x_iload_n dX10_comes_68 rfl ?_
  refine x_imul dX10_comes_69 ?_
  refine x_iconst (v := 5) dX10_comes_70 (by decide) ?_
  refine x_iadd dX10_comes_71 ?_
  refine x_eqi (ix6_5 _) ?_
  refine y_ialdM (f := 4) (κ := 34) dX10_comes_72 am_4 rfl (by first | omega | exact sl16_lt _ | assumption) (by decide) ?_
  refine x_eqi h5 ?_
  refine x_istore (lv' := [_, _, _, _, _, _, _, _, _]) dX10_comes_73 (by decide) rfl ?_
  exact kk
def RK (S : St) (k : Nat) : Nat := (S.2.2.1 4 (6 * k)).toNatClampNeg
def RG (S : St) (k : Nat) : Nat := (S.2.2.1 4 (6 * k + 1)).toNatClampNeg
def RM (S : St) (k : Nat) : Nat := (S.2.2.1 4 (6 * k + 2)).toNatClampNeg
def RB (S : St) (k : Nat) : Nat := (S.2.2.1 4 (6 * k + 4)).toNatClampNeg
def ml_com (S : St) (k : Nat) (goes : Bool) : St := ml_msg (if goes = true then ml_out S k else S) (RK S k) (RG S k) (RM S k) (RB S k) (S.2.2.1 4 (6 * k + 3)) (S.2.2.1 4 (6 * k + 4)) (S.2.2.1 4 (6 * k + 5))
def ComOK (S : St) (k : Nat) : Prop := k < mC S ∧ 1 ≤ RK S k ∧ RK S k ≤ 11 ∧ RG S k < 3 ∧ RM S k < 6 ∧ S.2.2.1 4 (6 * k) = nI (RK S k) ∧ S.2.2.1 4 (6 * k + 1) = nI (RG S k) ∧ S.2.2.1 4 (6 * k + 2) = nI (RM S k) ∧ (RK S k = 9 ∨ RK S k = 11 → RB S k < 64 ∧ S.2.2.1 4 (6 * k + 4) = nI (RB S k)) ∧ MI S (RG S k)
set_option maxRecDepth 100000 in
set_option maxHeartbeats 400000 in
theorem c_com_0_1 {X : XS} {d : Nat} {S : St} {k g m b : Nat} (hg : g < 3) (hm : m < 6) (h : MI S g) (hk : k < mC S) (h0 : S.2.2.1 4 (6 * k) = 1) (h1 : S.2.2.1 4 (6 * k + 1) = nI g) (h2 : S.2.2.1 4 (6 * k + 2) = nI m) : Call X mX10_comes false (d + 6) [.ref (ad 10 0), .int (nI k), .int 0] (hp S) (.inl none, hp (ml_msg (S) 1 g m b (S.2.2.1 4 (6 * k + 3)) (S.2.2.1 4 (6 * k + 4)) (S.2.2.1 4 (6 * k + 5))), 0, 0) := by
  have hk6 : k < 61 := by have := h.1.2; omega
  refine Call.of fX10_comes (by decide) rfl (by simp [Value.category]) (Nat.le_of_ble_eq_true rfl) (lv := [some (.ref (ad 10 0)), some (.int (nI k)), some (.int 0), none, none, none, none, none, none]) rfl ?_
  refine l_cm0 hk6 h0 h1 h2 rfl rfl rfl ?_
  refine x_iload_n dX10_comes_75 rfl ?_
  refine x_if_eq (tgt := 84) dX10_comes_76 (by decide) (fun hc76 => ?_) (fun hc76 => by first | exact absurd (by decide) hc76 | exact absurd hc76 (by decide))
  exact l_cm_1 hg hm h
set_option maxRecDepth 100000 in
set_option maxHeartbeats 400000 in
theorem c_com_0_2 {X : XS} {d : Nat} {S : St} {k g m b : Nat} (hg : g < 3) (hm : m < 6) (h : MI S g) (hk : k < mC S) (h0 : S.2.2.1 4 (6 * k) = 2) (h1 : S.2.2.1 4 (6 * k + 1) = nI g) (h2 : S.2.2.1 4 (6 * k + 2) = nI m) : Call X mX10_comes false (d + 6) [.ref (ad 10 0), .int (nI k), .int 0] (hp S) (.inl none, hp (ml_msg (S) 2 g m b (S.2.2.1 4 (6 * k + 3)) (S.2.2.1 4 (6 * k + 4)) (S.2.2.1 4 (6 * k + 5))), 0, 0) := by
  have hk6 : k < 61 := by have := h.1.2; omega
  refine Call.of fX10_comes (by decide) rfl (by simp [Value.category]) (Nat.le_of_ble_eq_true rfl) (lv := [some (.ref (ad 10 0)), some (.int (nI k)), some (.int 0), none, none, none, none, none, none]) rfl ?_
  refine l_cm0 hk6 h0 h1 h2 rfl rfl rfl ?_
  refine x_iload_n dX10_comes_75 rfl ?_
  refine x_if_eq (tgt := 84) dX10_comes_76 (by decide) (fun hc76 => ?_) (fun hc76 => by first | exact absurd (by decide) hc76 | exact absurd hc76 (by decide))
  exact l_cm_2 hg hm h
set_option maxRecDepth 100000 in
set_option maxHeartbeats 400000 in
theorem c_com_0_3 {X : XS} {d : Nat} {S : St} {k g m b : Nat} (hg : g < 3) (hm : m < 6) (h : MI S g) (hk : k < mC S) (h0 : S.2.2.1 4 (6 * k) = 3) (h1 : S.2.2.1 4 (6 * k + 1) = nI g) (h2 : S.2.2.1 4 (6 * k + 2) = nI m) : Call X mX10_comes false (d + 6) [.ref (ad 10 0), .int (nI k), .int 0] (hp S) (.inl none, hp (ml_msg (S) 3 g m b (S.2.2.1 4 (6 * k + 3)) (S.2.2.1 4 (6 * k + 4)) (S.2.2.1 4 (6 * k + 5))), 0, 0) := by
  have hk6 : k < 61 := by have := h.1.2; omega
  refine Call.of fX10_comes (by decide) rfl (by simp [Value.category]) (Nat.le_of_ble_eq_true rfl) (lv := [some (.ref (ad 10 0)), some (.int (nI k)), some (.int 0), none, none, none, none, none, none]) rfl ?_
  refine l_cm0 hk6 h0 h1 h2 rfl rfl rfl ?_
  refine x_iload_n dX10_comes_75 rfl ?_
  refine x_if_eq (tgt := 84) dX10_comes_76 (by decide) (fun hc76 => ?_) (fun hc76 => by first | exact absurd (by decide) hc76 | exact absurd hc76 (by decide))
  exact l_cm_3 hg hm h
set_option maxRecDepth 100000 in
set_option maxHeartbeats 400000 in
theorem c_com_0_4 {X : XS} {d : Nat} {S : St} {k g m b : Nat} (hg : g < 3) (hm : m < 6) (h : MI S g) (hk : k < mC S) (h0 : S.2.2.1 4 (6 * k) = 4) (h1 : S.2.2.1 4 (6 * k + 1) = nI g) (h2 : S.2.2.1 4 (6 * k + 2) = nI m) : Call X mX10_comes false (d + 6) [.ref (ad 10 0), .int (nI k), .int 0] (hp S) (.inl none, hp (ml_msg (S) 4 g m b (S.2.2.1 4 (6 * k + 3)) (S.2.2.1 4 (6 * k + 4)) (S.2.2.1 4 (6 * k + 5))), 0, 0) := by
  have hk6 : k < 61 := by have := h.1.2; omega
  refine Call.of fX10_comes (by decide) rfl (by simp [Value.category]) (Nat.le_of_ble_eq_true rfl) (lv := [some (.ref (ad 10 0)), some (.int (nI k)), some (.int 0), none, none, none, none, none, none]) rfl ?_
  refine l_cm0 hk6 h0 h1 h2 rfl rfl rfl ?_
  refine x_iload_n dX10_comes_75 rfl ?_
  refine x_if_eq (tgt := 84) dX10_comes_76 (by decide) (fun hc76 => ?_) (fun hc76 => by first | exact absurd (by decide) hc76 | exact absurd hc76 (by decide))
  exact l_cm_4 hg hm h
set_option maxRecDepth 100000 in
set_option maxHeartbeats 400000 in
theorem c_com_0_5 {X : XS} {d : Nat} {S : St} {k g m b : Nat} (hg : g < 3) (hm : m < 6) (h : MI S g) (hk : k < mC S) (h0 : S.2.2.1 4 (6 * k) = 5) (h1 : S.2.2.1 4 (6 * k + 1) = nI g) (h2 : S.2.2.1 4 (6 * k + 2) = nI m) : Call X mX10_comes false (d + 6) [.ref (ad 10 0), .int (nI k), .int 0] (hp S) (.inl none, hp (ml_msg (S) 5 g m b (S.2.2.1 4 (6 * k + 3)) (S.2.2.1 4 (6 * k + 4)) (S.2.2.1 4 (6 * k + 5))), 0, 0) := by
  have hk6 : k < 61 := by have := h.1.2; omega
  refine Call.of fX10_comes (by decide) rfl (by simp [Value.category]) (Nat.le_of_ble_eq_true rfl) (lv := [some (.ref (ad 10 0)), some (.int (nI k)), some (.int 0), none, none, none, none, none, none]) rfl ?_
  refine l_cm0 hk6 h0 h1 h2 rfl rfl rfl ?_
  refine x_iload_n dX10_comes_75 rfl ?_
  refine x_if_eq (tgt := 84) dX10_comes_76 (by decide) (fun hc76 => ?_) (fun hc76 => by first | exact absurd (by decide) hc76 | exact absurd hc76 (by decide))
  exact l_cm_5 hg hm h
set_option maxRecDepth 100000 in
set_option maxHeartbeats 400000 in
theorem c_com_0_6 {X : XS} {d : Nat} {S : St} {k g m b : Nat} (hg : g < 3) (hm : m < 6) (h : MI S g) (hk : k < mC S) (h0 : S.2.2.1 4 (6 * k) = 6) (h1 : S.2.2.1 4 (6 * k + 1) = nI g) (h2 : S.2.2.1 4 (6 * k + 2) = nI m) : Call X mX10_comes false (d + 6) [.ref (ad 10 0), .int (nI k), .int 0] (hp S) (.inl none, hp (ml_msg (S) 6 g m b (S.2.2.1 4 (6 * k + 3)) (S.2.2.1 4 (6 * k + 4)) (S.2.2.1 4 (6 * k + 5))), 0, 0) := by
  have hk6 : k < 61 := by have := h.1.2; omega
  refine Call.of fX10_comes (by decide) rfl (by simp [Value.category]) (Nat.le_of_ble_eq_true rfl) (lv := [some (.ref (ad 10 0)), some (.int (nI k)), some (.int 0), none, none, none, none, none, none]) rfl ?_
  refine l_cm0 hk6 h0 h1 h2 rfl rfl rfl ?_
  refine x_iload_n dX10_comes_75 rfl ?_
  refine x_if_eq (tgt := 84) dX10_comes_76 (by decide) (fun hc76 => ?_) (fun hc76 => by first | exact absurd (by decide) hc76 | exact absurd hc76 (by decide))
  exact l_cm_6 hg hm h
set_option maxRecDepth 100000 in
set_option maxHeartbeats 400000 in
theorem c_com_0_7 {X : XS} {d : Nat} {S : St} {k g m b : Nat} (hg : g < 3) (hm : m < 6) (h : MI S g) (hk : k < mC S) (h0 : S.2.2.1 4 (6 * k) = 7) (h1 : S.2.2.1 4 (6 * k + 1) = nI g) (h2 : S.2.2.1 4 (6 * k + 2) = nI m) : Call X mX10_comes false (d + 6) [.ref (ad 10 0), .int (nI k), .int 0] (hp S) (.inl none, hp (ml_msg (S) 7 g m b (S.2.2.1 4 (6 * k + 3)) (S.2.2.1 4 (6 * k + 4)) (S.2.2.1 4 (6 * k + 5))), 0, 0) := by
  have hk6 : k < 61 := by have := h.1.2; omega
  refine Call.of fX10_comes (by decide) rfl (by simp [Value.category]) (Nat.le_of_ble_eq_true rfl) (lv := [some (.ref (ad 10 0)), some (.int (nI k)), some (.int 0), none, none, none, none, none, none]) rfl ?_
  refine l_cm0 hk6 h0 h1 h2 rfl rfl rfl ?_
  refine x_iload_n dX10_comes_75 rfl ?_
  refine x_if_eq (tgt := 84) dX10_comes_76 (by decide) (fun hc76 => ?_) (fun hc76 => by first | exact absurd (by decide) hc76 | exact absurd hc76 (by decide))
  exact l_cm_7 hg hm h
set_option maxRecDepth 100000 in
set_option maxHeartbeats 400000 in
theorem c_com_0_8 {X : XS} {d : Nat} {S : St} {k g m b : Nat} (hg : g < 3) (hm : m < 6) (h : MI S g) (hk : k < mC S) (h0 : S.2.2.1 4 (6 * k) = 8) (h1 : S.2.2.1 4 (6 * k + 1) = nI g) (h2 : S.2.2.1 4 (6 * k + 2) = nI m) : Call X mX10_comes false (d + 6) [.ref (ad 10 0), .int (nI k), .int 0] (hp S) (.inl none, hp (ml_msg (S) 8 g m b (S.2.2.1 4 (6 * k + 3)) (S.2.2.1 4 (6 * k + 4)) (S.2.2.1 4 (6 * k + 5))), 0, 0) := by
  have hk6 : k < 61 := by have := h.1.2; omega
  refine Call.of fX10_comes (by decide) rfl (by simp [Value.category]) (Nat.le_of_ble_eq_true rfl) (lv := [some (.ref (ad 10 0)), some (.int (nI k)), some (.int 0), none, none, none, none, none, none]) rfl ?_
  refine l_cm0 hk6 h0 h1 h2 rfl rfl rfl ?_
  refine x_iload_n dX10_comes_75 rfl ?_
  refine x_if_eq (tgt := 84) dX10_comes_76 (by decide) (fun hc76 => ?_) (fun hc76 => by first | exact absurd (by decide) hc76 | exact absurd hc76 (by decide))
  exact l_cm_8 hg hm h
set_option maxRecDepth 100000 in
set_option maxHeartbeats 400000 in
theorem c_com_0_9 {X : XS} {d : Nat} {S : St} {k g m b : Nat} (hg : g < 3) (hm : m < 6) (h : MI S g) (hk : k < mC S) (h0 : S.2.2.1 4 (6 * k) = 9) (h1 : S.2.2.1 4 (6 * k + 1) = nI g) (h2 : S.2.2.1 4 (6 * k + 2) = nI m) (hb : b < 64) (hx : S.2.2.1 4 (6 * k + 4) = nI b) : Call X mX10_comes false (d + 6) [.ref (ad 10 0), .int (nI k), .int 0] (hp S) (.inl none, hp (ml_msg (S) 9 g m b (S.2.2.1 4 (6 * k + 3)) (S.2.2.1 4 (6 * k + 4)) (S.2.2.1 4 (6 * k + 5))), 0, 0) := by
  have hk6 : k < 61 := by have := h.1.2; omega
  refine Call.of fX10_comes (by decide) rfl (by simp [Value.category]) (Nat.le_of_ble_eq_true rfl) (lv := [some (.ref (ad 10 0)), some (.int (nI k)), some (.int 0), none, none, none, none, none, none]) rfl ?_
  refine l_cm0 hk6 h0 h1 h2 rfl rfl rfl ?_
  refine x_iload_n dX10_comes_75 rfl ?_
  refine x_if_eq (tgt := 84) dX10_comes_76 (by decide) (fun hc76 => ?_) (fun hc76 => by first | exact absurd (by decide) hc76 | exact absurd hc76 (by decide))
  exact l_cm_9 hg hm h hb hx
set_option maxRecDepth 100000 in
set_option maxHeartbeats 400000 in
theorem c_com_0_10 {X : XS} {d : Nat} {S : St} {k g m b : Nat} (hg : g < 3) (hm : m < 6) (h : MI S g) (hk : k < mC S) (h0 : S.2.2.1 4 (6 * k) = 10) (h1 : S.2.2.1 4 (6 * k + 1) = nI g) (h2 : S.2.2.1 4 (6 * k + 2) = nI m) : Call X mX10_comes false (d + 6) [.ref (ad 10 0), .int (nI k), .int 0] (hp S) (.inl none, hp (ml_msg (S) 10 g m b (S.2.2.1 4 (6 * k + 3)) (S.2.2.1 4 (6 * k + 4)) (S.2.2.1 4 (6 * k + 5))), 0, 0) := by
  have hk6 : k < 61 := by have := h.1.2; omega
  refine Call.of fX10_comes (by decide) rfl (by simp [Value.category]) (Nat.le_of_ble_eq_true rfl) (lv := [some (.ref (ad 10 0)), some (.int (nI k)), some (.int 0), none, none, none, none, none, none]) rfl ?_
  refine l_cm0 hk6 h0 h1 h2 rfl rfl rfl ?_
  refine x_iload_n dX10_comes_75 rfl ?_
  refine x_if_eq (tgt := 84) dX10_comes_76 (by decide) (fun hc76 => ?_) (fun hc76 => by first | exact absurd (by decide) hc76 | exact absurd hc76 (by decide))
  exact l_cm_10 hg hm h
set_option maxRecDepth 100000 in
set_option maxHeartbeats 400000 in
theorem c_com_0_11 {X : XS} {d : Nat} {S : St} {k g m b : Nat} (hg : g < 3) (hm : m < 6) (h : MI S g) (hk : k < mC S) (h0 : S.2.2.1 4 (6 * k) = 11) (h1 : S.2.2.1 4 (6 * k + 1) = nI g) (h2 : S.2.2.1 4 (6 * k + 2) = nI m) (hb : b < 64) (hx : S.2.2.1 4 (6 * k + 4) = nI b) : Call X mX10_comes false (d + 6) [.ref (ad 10 0), .int (nI k), .int 0] (hp S) (.inl none, hp (ml_msg (S) 11 g m b (S.2.2.1 4 (6 * k + 3)) (S.2.2.1 4 (6 * k + 4)) (S.2.2.1 4 (6 * k + 5))), 0, 0) := by
  have hk6 : k < 61 := by have := h.1.2; omega
  refine Call.of fX10_comes (by decide) rfl (by simp [Value.category]) (Nat.le_of_ble_eq_true rfl) (lv := [some (.ref (ad 10 0)), some (.int (nI k)), some (.int 0), none, none, none, none, none, none]) rfl ?_
  refine l_cm0 hk6 h0 h1 h2 rfl rfl rfl ?_
  refine x_iload_n dX10_comes_75 rfl ?_
  refine x_if_eq (tgt := 84) dX10_comes_76 (by decide) (fun hc76 => ?_) (fun hc76 => by first | exact absurd (by decide) hc76 | exact absurd hc76 (by decide))
  exact l_cm_11 hg hm h hb hx
set_option maxRecDepth 100000 in
set_option maxHeartbeats 400000 in
theorem c_com_1_1 {X : XS} {d : Nat} {S : St} {k g m b : Nat} (hg : g < 3) (hm : m < 6) (h : MI S g) (hk : k < mC S) (h0 : S.2.2.1 4 (6 * k) = 1) (h1 : S.2.2.1 4 (6 * k + 1) = nI g) (h2 : S.2.2.1 4 (6 * k + 2) = nI m) : Call X mX10_comes false (d + 6) [.ref (ad 10 0), .int (nI k), .int 1] (hp S) (.inl none, hp (ml_msg (ml_out S k) 1 g m b (S.2.2.1 4 (6 * k + 3)) (S.2.2.1 4 (6 * k + 4)) (S.2.2.1 4 (6 * k + 5))), 0, 0) := by
  have hk6 : k < 61 := by have := h.1.2; omega
  refine Call.of fX10_comes (by decide) rfl (by simp [Value.category]) (Nat.le_of_ble_eq_true rfl) (lv := [some (.ref (ad 10 0)), some (.int (nI k)), some (.int 1), none, none, none, none, none, none]) rfl ?_
  refine l_cm0 hk6 h0 h1 h2 rfl rfl rfl ?_
  refine x_iload_n dX10_comes_75 rfl ?_
  refine x_if_eq (tgt := 84) dX10_comes_76 (by decide) (fun hc76 => by first | exact absurd hc76 (by decide) | exact absurd (by decide) hc76) (fun hc76 => ?_)
  refine x_aload_n dX10_comes_79 rfl ?_
  refine x_iload_n dX10_comes_80 rfl ?_
  refine x_cVv (as := [_]) dX10_comes_81 fX10_takeOut rfl lk_RX10_213 rfl (hp_get (κ := 10) (by decide)) rfl rfl (Nat.le_of_ble_eq_true rfl) (c_mOut h.1 hk) (by simp) (by simp) ?_
  exact l_cm_1 hg hm (h.out hk)
set_option maxRecDepth 100000 in
set_option maxHeartbeats 400000 in
theorem c_com_1_2 {X : XS} {d : Nat} {S : St} {k g m b : Nat} (hg : g < 3) (hm : m < 6) (h : MI S g) (hk : k < mC S) (h0 : S.2.2.1 4 (6 * k) = 2) (h1 : S.2.2.1 4 (6 * k + 1) = nI g) (h2 : S.2.2.1 4 (6 * k + 2) = nI m) : Call X mX10_comes false (d + 6) [.ref (ad 10 0), .int (nI k), .int 1] (hp S) (.inl none, hp (ml_msg (ml_out S k) 2 g m b (S.2.2.1 4 (6 * k + 3)) (S.2.2.1 4 (6 * k + 4)) (S.2.2.1 4 (6 * k + 5))), 0, 0) := by
  have hk6 : k < 61 := by have := h.1.2; omega
  refine Call.of fX10_comes (by decide) rfl (by simp [Value.category]) (Nat.le_of_ble_eq_true rfl) (lv := [some (.ref (ad 10 0)), some (.int (nI k)), some (.int 1), none, none, none, none, none, none]) rfl ?_
  refine l_cm0 hk6 h0 h1 h2 rfl rfl rfl ?_
  refine x_iload_n dX10_comes_75 rfl ?_
  refine x_if_eq (tgt := 84) dX10_comes_76 (by decide) (fun hc76 => by first | exact absurd hc76 (by decide) | exact absurd (by decide) hc76) (fun hc76 => ?_)
  refine x_aload_n dX10_comes_79 rfl ?_
  refine x_iload_n dX10_comes_80 rfl ?_
  refine x_cVv (as := [_]) dX10_comes_81 fX10_takeOut rfl lk_RX10_213 rfl (hp_get (κ := 10) (by decide)) rfl rfl (Nat.le_of_ble_eq_true rfl) (c_mOut h.1 hk) (by simp) (by simp) ?_
  exact l_cm_2 hg hm (h.out hk)
set_option maxRecDepth 100000 in
set_option maxHeartbeats 400000 in
theorem c_com_1_3 {X : XS} {d : Nat} {S : St} {k g m b : Nat} (hg : g < 3) (hm : m < 6) (h : MI S g) (hk : k < mC S) (h0 : S.2.2.1 4 (6 * k) = 3) (h1 : S.2.2.1 4 (6 * k + 1) = nI g) (h2 : S.2.2.1 4 (6 * k + 2) = nI m) : Call X mX10_comes false (d + 6) [.ref (ad 10 0), .int (nI k), .int 1] (hp S) (.inl none, hp (ml_msg (ml_out S k) 3 g m b (S.2.2.1 4 (6 * k + 3)) (S.2.2.1 4 (6 * k + 4)) (S.2.2.1 4 (6 * k + 5))), 0, 0) := by
  have hk6 : k < 61 := by have := h.1.2; omega
  refine Call.of fX10_comes (by decide) rfl (by simp [Value.category]) (Nat.le_of_ble_eq_true rfl) (lv := [some (.ref (ad 10 0)), some (.int (nI k)), some (.int 1), none, none, none, none, none, none]) rfl ?_
  refine l_cm0 hk6 h0 h1 h2 rfl rfl rfl ?_
  refine x_iload_n dX10_comes_75 rfl ?_
  refine x_if_eq (tgt := 84) dX10_comes_76 (by decide) (fun hc76 => by first | exact absurd hc76 (by decide) | exact absurd (by decide) hc76) (fun hc76 => ?_)
  refine x_aload_n dX10_comes_79 rfl ?_
  refine x_iload_n dX10_comes_80 rfl ?_
  refine x_cVv (as := [_]) dX10_comes_81 fX10_takeOut rfl lk_RX10_213 rfl (hp_get (κ := 10) (by decide)) rfl rfl (Nat.le_of_ble_eq_true rfl) (c_mOut h.1 hk) (by simp) (by simp) ?_
  exact l_cm_3 hg hm (h.out hk)
set_option maxRecDepth 100000 in
set_option maxHeartbeats 400000 in
theorem c_com_1_4 {X : XS} {d : Nat} {S : St} {k g m b : Nat} (hg : g < 3) (hm : m < 6) (h : MI S g) (hk : k < mC S) (h0 : S.2.2.1 4 (6 * k) = 4) (h1 : S.2.2.1 4 (6 * k + 1) = nI g) (h2 : S.2.2.1 4 (6 * k + 2) = nI m) : Call X mX10_comes false (d + 6) [.ref (ad 10 0), .int (nI k), .int 1] (hp S) (.inl none, hp (ml_msg (ml_out S k) 4 g m b (S.2.2.1 4 (6 * k + 3)) (S.2.2.1 4 (6 * k + 4)) (S.2.2.1 4 (6 * k + 5))), 0, 0) := by
  have hk6 : k < 61 := by have := h.1.2; omega
  refine Call.of fX10_comes (by decide) rfl (by simp [Value.category]) (Nat.le_of_ble_eq_true rfl) (lv := [some (.ref (ad 10 0)), some (.int (nI k)), some (.int 1), none, none, none, none, none, none]) rfl ?_
  refine l_cm0 hk6 h0 h1 h2 rfl rfl rfl ?_
  refine x_iload_n dX10_comes_75 rfl ?_
  refine x_if_eq (tgt := 84) dX10_comes_76 (by decide) (fun hc76 => by first | exact absurd hc76 (by decide) | exact absurd (by decide) hc76) (fun hc76 => ?_)
  refine x_aload_n dX10_comes_79 rfl ?_
  refine x_iload_n dX10_comes_80 rfl ?_
  refine x_cVv (as := [_]) dX10_comes_81 fX10_takeOut rfl lk_RX10_213 rfl (hp_get (κ := 10) (by decide)) rfl rfl (Nat.le_of_ble_eq_true rfl) (c_mOut h.1 hk) (by simp) (by simp) ?_
  exact l_cm_4 hg hm (h.out hk)
set_option maxRecDepth 100000 in
set_option maxHeartbeats 400000 in
theorem c_com_1_5 {X : XS} {d : Nat} {S : St} {k g m b : Nat} (hg : g < 3) (hm : m < 6) (h : MI S g) (hk : k < mC S) (h0 : S.2.2.1 4 (6 * k) = 5) (h1 : S.2.2.1 4 (6 * k + 1) = nI g) (h2 : S.2.2.1 4 (6 * k + 2) = nI m) : Call X mX10_comes false (d + 6) [.ref (ad 10 0), .int (nI k), .int 1] (hp S) (.inl none, hp (ml_msg (ml_out S k) 5 g m b (S.2.2.1 4 (6 * k + 3)) (S.2.2.1 4 (6 * k + 4)) (S.2.2.1 4 (6 * k + 5))), 0, 0) := by
  have hk6 : k < 61 := by have := h.1.2; omega
  refine Call.of fX10_comes (by decide) rfl (by simp [Value.category]) (Nat.le_of_ble_eq_true rfl) (lv := [some (.ref (ad 10 0)), some (.int (nI k)), some (.int 1), none, none, none, none, none, none]) rfl ?_
  refine l_cm0 hk6 h0 h1 h2 rfl rfl rfl ?_
  refine x_iload_n dX10_comes_75 rfl ?_
  refine x_if_eq (tgt := 84) dX10_comes_76 (by decide) (fun hc76 => by first | exact absurd hc76 (by decide) | exact absurd (by decide) hc76) (fun hc76 => ?_)
  refine x_aload_n dX10_comes_79 rfl ?_
  refine x_iload_n dX10_comes_80 rfl ?_
  refine x_cVv (as := [_]) dX10_comes_81 fX10_takeOut rfl lk_RX10_213 rfl (hp_get (κ := 10) (by decide)) rfl rfl (Nat.le_of_ble_eq_true rfl) (c_mOut h.1 hk) (by simp) (by simp) ?_
  exact l_cm_5 hg hm (h.out hk)
set_option maxRecDepth 100000 in
set_option maxHeartbeats 400000 in
theorem c_com_1_6 {X : XS} {d : Nat} {S : St} {k g m b : Nat} (hg : g < 3) (hm : m < 6) (h : MI S g) (hk : k < mC S) (h0 : S.2.2.1 4 (6 * k) = 6) (h1 : S.2.2.1 4 (6 * k + 1) = nI g) (h2 : S.2.2.1 4 (6 * k + 2) = nI m) : Call X mX10_comes false (d + 6) [.ref (ad 10 0), .int (nI k), .int 1] (hp S) (.inl none, hp (ml_msg (ml_out S k) 6 g m b (S.2.2.1 4 (6 * k + 3)) (S.2.2.1 4 (6 * k + 4)) (S.2.2.1 4 (6 * k + 5))), 0, 0) := by
  have hk6 : k < 61 := by have := h.1.2; omega
  refine Call.of fX10_comes (by decide) rfl (by simp [Value.category]) (Nat.le_of_ble_eq_true rfl) (lv := [some (.ref (ad 10 0)), some (.int (nI k)), some (.int 1), none, none, none, none, none, none]) rfl ?_
  refine l_cm0 hk6 h0 h1 h2 rfl rfl rfl ?_
  refine x_iload_n dX10_comes_75 rfl ?_
  refine x_if_eq (tgt := 84) dX10_comes_76 (by decide) (fun hc76 => by first | exact absurd hc76 (by decide) | exact absurd (by decide) hc76) (fun hc76 => ?_)
  refine x_aload_n dX10_comes_79 rfl ?_
  refine x_iload_n dX10_comes_80 rfl ?_
  refine x_cVv (as := [_]) dX10_comes_81 fX10_takeOut rfl lk_RX10_213 rfl (hp_get (κ := 10) (by decide)) rfl rfl (Nat.le_of_ble_eq_true rfl) (c_mOut h.1 hk) (by simp) (by simp) ?_
  exact l_cm_6 hg hm (h.out hk)
set_option maxRecDepth 100000 in
set_option maxHeartbeats 400000 in
theorem c_com_1_7 {X : XS} {d : Nat} {S : St} {k g m b : Nat} (hg : g < 3) (hm : m < 6) (h : MI S g) (hk : k < mC S) (h0 : S.2.2.1 4 (6 * k) = 7) (h1 : S.2.2.1 4 (6 * k + 1) = nI g) (h2 : S.2.2.1 4 (6 * k + 2) = nI m) : Call X mX10_comes false (d + 6) [.ref (ad 10 0), .int (nI k), .int 1] (hp S) (.inl none, hp (ml_msg (ml_out S k) 7 g m b (S.2.2.1 4 (6 * k + 3)) (S.2.2.1 4 (6 * k + 4)) (S.2.2.1 4 (6 * k + 5))), 0, 0) := by
  have hk6 : k < 61 := by have := h.1.2; omega
  refine Call.of fX10_comes (by decide) rfl (by simp [Value.category]) (Nat.le_of_ble_eq_true rfl) (lv := [some (.ref (ad 10 0)), some (.int (nI k)), some (.int 1), none, none, none, none, none, none]) rfl ?_
  refine l_cm0 hk6 h0 h1 h2 rfl rfl rfl ?_
  refine x_iload_n dX10_comes_75 rfl ?_
  refine x_if_eq (tgt := 84) dX10_comes_76 (by decide) (fun hc76 => by first | exact absurd hc76 (by decide) | exact absurd (by decide) hc76) (fun hc76 => ?_)
  refine x_aload_n dX10_comes_79 rfl ?_
  refine x_iload_n dX10_comes_80 rfl ?_
  refine x_cVv (as := [_]) dX10_comes_81 fX10_takeOut rfl lk_RX10_213 rfl (hp_get (κ := 10) (by decide)) rfl rfl (Nat.le_of_ble_eq_true rfl) (c_mOut h.1 hk) (by simp) (by simp) ?_
  exact l_cm_7 hg hm (h.out hk)
set_option maxRecDepth 100000 in
set_option maxHeartbeats 400000 in
theorem c_com_1_8 {X : XS} {d : Nat} {S : St} {k g m b : Nat} (hg : g < 3) (hm : m < 6) (h : MI S g) (hk : k < mC S) (h0 : S.2.2.1 4 (6 * k) = 8) (h1 : S.2.2.1 4 (6 * k + 1) = nI g) (h2 : S.2.2.1 4 (6 * k + 2) = nI m) : Call X mX10_comes false (d + 6) [.ref (ad 10 0), .int (nI k), .int 1] (hp S) (.inl none, hp (ml_msg (ml_out S k) 8 g m b (S.2.2.1 4 (6 * k + 3)) (S.2.2.1 4 (6 * k + 4)) (S.2.2.1 4 (6 * k + 5))), 0, 0) := by
  have hk6 : k < 61 := by have := h.1.2; omega
  refine Call.of fX10_comes (by decide) rfl (by simp [Value.category]) (Nat.le_of_ble_eq_true rfl) (lv := [some (.ref (ad 10 0)), some (.int (nI k)), some (.int 1), none, none, none, none, none, none]) rfl ?_
  refine l_cm0 hk6 h0 h1 h2 rfl rfl rfl ?_
  refine x_iload_n dX10_comes_75 rfl ?_
  refine x_if_eq (tgt := 84) dX10_comes_76 (by decide) (fun hc76 => by first | exact absurd hc76 (by decide) | exact absurd (by decide) hc76) (fun hc76 => ?_)
  refine x_aload_n dX10_comes_79 rfl ?_
  refine x_iload_n dX10_comes_80 rfl ?_
  refine x_cVv (as := [_]) dX10_comes_81 fX10_takeOut rfl lk_RX10_213 rfl (hp_get (κ := 10) (by decide)) rfl rfl (Nat.le_of_ble_eq_true rfl) (c_mOut h.1 hk) (by simp) (by simp) ?_
  exact l_cm_8 hg hm (h.out hk)
set_option maxRecDepth 100000 in
set_option maxHeartbeats 400000 in
theorem c_com_1_9 {X : XS} {d : Nat} {S : St} {k g m b : Nat} (hg : g < 3) (hm : m < 6) (h : MI S g) (hk : k < mC S) (h0 : S.2.2.1 4 (6 * k) = 9) (h1 : S.2.2.1 4 (6 * k + 1) = nI g) (h2 : S.2.2.1 4 (6 * k + 2) = nI m) (hb : b < 64) (hx : S.2.2.1 4 (6 * k + 4) = nI b) : Call X mX10_comes false (d + 6) [.ref (ad 10 0), .int (nI k), .int 1] (hp S) (.inl none, hp (ml_msg (ml_out S k) 9 g m b (S.2.2.1 4 (6 * k + 3)) (S.2.2.1 4 (6 * k + 4)) (S.2.2.1 4 (6 * k + 5))), 0, 0) := by
  have hk6 : k < 61 := by have := h.1.2; omega
  refine Call.of fX10_comes (by decide) rfl (by simp [Value.category]) (Nat.le_of_ble_eq_true rfl) (lv := [some (.ref (ad 10 0)), some (.int (nI k)), some (.int 1), none, none, none, none, none, none]) rfl ?_
  refine l_cm0 hk6 h0 h1 h2 rfl rfl rfl ?_
  refine x_iload_n dX10_comes_75 rfl ?_
  refine x_if_eq (tgt := 84) dX10_comes_76 (by decide) (fun hc76 => by first | exact absurd hc76 (by decide) | exact absurd (by decide) hc76) (fun hc76 => ?_)
  refine x_aload_n dX10_comes_79 rfl ?_
  refine x_iload_n dX10_comes_80 rfl ?_
  refine x_cVv (as := [_]) dX10_comes_81 fX10_takeOut rfl lk_RX10_213 rfl (hp_get (κ := 10) (by decide)) rfl rfl (Nat.le_of_ble_eq_true rfl) (c_mOut h.1 hk) (by simp) (by simp) ?_
  exact l_cm_9 hg hm (h.out hk) hb hx
set_option maxRecDepth 100000 in
set_option maxHeartbeats 400000 in
theorem c_com_1_10 {X : XS} {d : Nat} {S : St} {k g m b : Nat} (hg : g < 3) (hm : m < 6) (h : MI S g) (hk : k < mC S) (h0 : S.2.2.1 4 (6 * k) = 10) (h1 : S.2.2.1 4 (6 * k + 1) = nI g) (h2 : S.2.2.1 4 (6 * k + 2) = nI m) : Call X mX10_comes false (d + 6) [.ref (ad 10 0), .int (nI k), .int 1] (hp S) (.inl none, hp (ml_msg (ml_out S k) 10 g m b (S.2.2.1 4 (6 * k + 3)) (S.2.2.1 4 (6 * k + 4)) (S.2.2.1 4 (6 * k + 5))), 0, 0) := by
  have hk6 : k < 61 := by have := h.1.2; omega
  refine Call.of fX10_comes (by decide) rfl (by simp [Value.category]) (Nat.le_of_ble_eq_true rfl) (lv := [some (.ref (ad 10 0)), some (.int (nI k)), some (.int 1), none, none, none, none, none, none]) rfl ?_
  refine l_cm0 hk6 h0 h1 h2 rfl rfl rfl ?_
  refine x_iload_n dX10_comes_75 rfl ?_
  refine x_if_eq (tgt := 84) dX10_comes_76 (by decide) (fun hc76 => by first | exact absurd hc76 (by decide) | exact absurd (by decide) hc76) (fun hc76 => ?_)
  refine x_aload_n dX10_comes_79 rfl ?_
  refine x_iload_n dX10_comes_80 rfl ?_
  refine x_cVv (as := [_]) dX10_comes_81 fX10_takeOut rfl lk_RX10_213 rfl (hp_get (κ := 10) (by decide)) rfl rfl (Nat.le_of_ble_eq_true rfl) (c_mOut h.1 hk) (by simp) (by simp) ?_
  exact l_cm_10 hg hm (h.out hk)
set_option maxRecDepth 100000 in
set_option maxHeartbeats 400000 in
theorem c_com_1_11 {X : XS} {d : Nat} {S : St} {k g m b : Nat} (hg : g < 3) (hm : m < 6) (h : MI S g) (hk : k < mC S) (h0 : S.2.2.1 4 (6 * k) = 11) (h1 : S.2.2.1 4 (6 * k + 1) = nI g) (h2 : S.2.2.1 4 (6 * k + 2) = nI m) (hb : b < 64) (hx : S.2.2.1 4 (6 * k + 4) = nI b) : Call X mX10_comes false (d + 6) [.ref (ad 10 0), .int (nI k), .int 1] (hp S) (.inl none, hp (ml_msg (ml_out S k) 11 g m b (S.2.2.1 4 (6 * k + 3)) (S.2.2.1 4 (6 * k + 4)) (S.2.2.1 4 (6 * k + 5))), 0, 0) := by
  have hk6 : k < 61 := by have := h.1.2; omega
  refine Call.of fX10_comes (by decide) rfl (by simp [Value.category]) (Nat.le_of_ble_eq_true rfl) (lv := [some (.ref (ad 10 0)), some (.int (nI k)), some (.int 1), none, none, none, none, none, none]) rfl ?_
  refine l_cm0 hk6 h0 h1 h2 rfl rfl rfl ?_
  refine x_iload_n dX10_comes_75 rfl ?_
  refine x_if_eq (tgt := 84) dX10_comes_76 (by decide) (fun hc76 => by first | exact absurd hc76 (by decide) | exact absurd (by decide) hc76) (fun hc76 => ?_)
  refine x_aload_n dX10_comes_79 rfl ?_
  refine x_iload_n dX10_comes_80 rfl ?_
  refine x_cVv (as := [_]) dX10_comes_81 fX10_takeOut rfl lk_RX10_213 rfl (hp_get (κ := 10) (by decide)) rfl rfl (Nat.le_of_ble_eq_true rfl) (c_mOut h.1 hk) (by simp) (by simp) ?_
  exact l_cm_11 hg hm (h.out hk) hb hx
theorem c_mCom {X : XS} {d : Nat} {S : St} {k : Nat} (goes : Bool) (h : ComOK S k) : Call X mX10_comes false (d + 6) [.ref (ad 10 0), .int (nI k), .int (bI goes)] (hp S) (.inl none, hp (ml_com S k goes), 0, 0) := by
  obtain ⟨hk, h1, h11, hg, hm, e0, e1, e2, eb, hI⟩ := h
  unfold ml_com
  generalize RK S k = kd at *
  generalize RG S k = g at *
  generalize RM S k = m at *
  generalize RB S k = b at *
  have hj : kd = 1 ∨ kd = 2 ∨ kd = 3 ∨ kd = 4 ∨ kd = 5 ∨ kd = 6 ∨ kd = 7 ∨ kd = 8 ∨ kd = 9 ∨ kd = 10 ∨ kd = 11 := by omega
  cases goes
  · rcases hj with rfl | rfl | rfl | rfl | rfl | rfl | rfl | rfl | rfl | rfl | rfl
    · exact c_com_0_1 hg hm hI hk e0 e1 e2
    · exact c_com_0_2 hg hm hI hk e0 e1 e2
    · exact c_com_0_3 hg hm hI hk e0 e1 e2
    · exact c_com_0_4 hg hm hI hk e0 e1 e2
    · exact c_com_0_5 hg hm hI hk e0 e1 e2
    · exact c_com_0_6 hg hm hI hk e0 e1 e2
    · exact c_com_0_7 hg hm hI hk e0 e1 e2
    · exact c_com_0_8 hg hm hI hk e0 e1 e2
    · exact c_com_0_9 hg hm hI hk e0 e1 e2 (eb (by decide)).1 (eb (by decide)).2
    · exact c_com_0_10 hg hm hI hk e0 e1 e2
    · exact c_com_0_11 hg hm hI hk e0 e1 e2 (eb (by decide)).1 (eb (by decide)).2
  · rcases hj with rfl | rfl | rfl | rfl | rfl | rfl | rfl | rfl | rfl | rfl | rfl
    · exact c_com_1_1 hg hm hI hk e0 e1 e2
    · exact c_com_1_2 hg hm hI hk e0 e1 e2
    · exact c_com_1_3 hg hm hI hk e0 e1 e2
    · exact c_com_1_4 hg hm hI hk e0 e1 e2
    · exact c_com_1_5 hg hm hI hk e0 e1 e2
    · exact c_com_1_6 hg hm hI hk e0 e1 e2
    · exact c_com_1_7 hg hm hI hk e0 e1 e2
    · exact c_com_1_8 hg hm hI hk e0 e1 e2
    · exact c_com_1_9 hg hm hI hk e0 e1 e2 (eb (by decide)).1 (eb (by decide)).2
    · exact c_com_1_10 hg hm hI hk e0 e1 e2
    · exact c_com_1_11 hg hm hI hk e0 e1 e2 (eb (by decide)).1 (eb (by decide)).2
