def mcg (S : St) (g : Nat) : Nat → St
  | 0 => S
  | n + 1 => sm (mcg S g n) 49 (64 * g + n) 0
theorem mcg_s {S : St} {g n : Nat} : mcg S g (n + 1) = sm (mcg S g n) 49 (64 * g + n) 0 := by rw [mcg]
theorem mcg_get {S : St} {g f i : Nat} : ∀ n, (mcg S g n).2.2.1 f i = if f = 49 ∧ 64 * g ≤ i ∧ i < 64 * g + n then 0 else S.2.2.1 f i
  | 0 => by rw [if_neg (by omega)]; rfl
  | n + 1 => by
    rw [mcg_s, sm_get, mcg_get n]
    by_cases h1 : f = 49 ∧ i = 64 * g + n
    · rw [if_pos h1, if_pos (by omega)]
    · rw [if_neg h1]
      by_cases h2 : f = 49 ∧ 64 * g ≤ i ∧ i < 64 * g + n
      · rw [if_pos h2, if_pos (by omega)]
      · rw [if_neg h2, if_neg (by omega)]
theorem mcg_1 {S : St} {g : Nat} : ∀ n, (mcg S g n).1 = S.1 ∧ (mcg S g n).2.1 = S.2.1 ∧ (mcg S g n).2.2.2 = S.2.2.2
  | 0 => ⟨rfl, rfl, rfl⟩
  | n + 1 => by rw [mcg_s]; exact mcg_1 n
def ml_gate (S : St) (g : Nat) (a b : Int32) : St := if a < S.2.2.1 45 g then S else if a = S.2.2.1 45 g ∧ ¬ b < 0 then S else let S1 := if a ≤ S.2.2.1 45 g then S else mcg S g 64; sm (sm S1 45 g a) 46 g b
set_option maxRecDepth 100000 in
set_option maxHeartbeats 400000 in
theorem l_mGate {X : XS} {d : Nat} {S : St} {g : Nat} {a b : Int32} (hg : g < 3) (ha : ¬ a ≤ S.2.2.1 45 g) : ∀ c j, j + c = 64 → Ex X mX10_gateComes false d 28 [some (.ref (ad 10 0)), some (.int (nI g)), some (.int a), some (.int b), some (.int (nI j))] [] (hp (mcg S g j)) 0 0 (.inl none, hp (sm (sm (mcg S g 64) 45 g a) 46 g b), 0, 0) := by
  intro c
  induction c with
  | zero =>
    intro j hj
    have hj6 : j = 64 := by omega
    subst hj6
    refine x_iload dX10_gateComes_28 rfl ?_
    refine x_bipush (v := 64) dX10_gateComes_30 (by decide) ?_
    refine x_icmp_ge (tgt := 64) dX10_gateComes_32 (by decide) (fun hc32 => ?_) (fun hc32 => by first | exact absurd (by decide) hc32 | exact absurd hc32 (by decide))
    refine x_aload_n dX10_gateComes_64 rfl ?_
    refine x_get dX10_gateComes_65 fl_RX10_131 (hp_get (κ := 10) (by decide)) rfl ?_
    refine x_iload_n dX10_gateComes_68 rfl ?_
    refine x_iload_n dX10_gateComes_69 rfl ?_
    refine y_iastM (f := 45) (κ := 75) dX10_gateComes_70 am_45 rfl (by first | omega | exact sl16_lt _ | assumption) (by decide) ?_
    refine x_aload_n dX10_gateComes_71 rfl ?_
    refine x_get dX10_gateComes_72 fl_RX10_134 (hp_get (κ := 10) (by decide)) rfl ?_
    refine x_iload_n dX10_gateComes_75 rfl ?_
    refine x_iload_n dX10_gateComes_76 rfl ?_
    refine y_iastM (f := 46) (κ := 76) dX10_gateComes_77 am_46 rfl (by first | omega | exact sl16_lt _ | assumption) (by decide) ?_
    exact x_rV dX10_gateComes_78 rfl rfl rfl (by simp) (by simp)
  | succ c ih =>
    intro j hj
    refine x_iload dX10_gateComes_28 rfl ?_
    refine x_bipush (v := 64) dX10_gateComes_30 (by decide) ?_
    refine x_icmp_ge (tgt := 64) dX10_gateComes_32 (by decide) (fun hc32 => by first | exact absurd hc32 (nI_ge (b := 64) (by omega) (by decide)) | exact absurd (nI_ge (b := 64) (by omega) (by decide)) hc32) (fun hc32 => ?_)
    refine x_iload_n dX10_gateComes_35 rfl ?_
    refine x_aload_n dX10_gateComes_36 rfl ?_
    refine x_get dX10_gateComes_37 fl_RX10_131 (hp_get (κ := 10) (by decide)) rfl ?_
    refine x_iload_n dX10_gateComes_40 rfl ?_
    refine y_ialdM (f := 45) (κ := 75) dX10_gateComes_41 am_45 rfl (by first | omega | exact sl16_lt _ | assumption) (by decide) ?_
    refine x_icmp_le (tgt := 64) dX10_gateComes_42 (by decide) (fun hc42 => by first | exact absurd hc42 (by rw [mcg_get, if_neg (by omega)]; exact ha) | exact absurd (by rw [mcg_get, if_neg (by omega)]; exact ha) hc42) (fun hc42 => ?_)
    refine x_aload_n dX10_gateComes_45 rfl ?_
    refine x_get dX10_gateComes_46 fl_RX10_143 (hp_get (κ := 10) (by decide)) rfl ?_
    refine x_bipush (v := 64) dX10_gateComes_49 (by decide) ?_
    refine x_iload_n dX10_gateComes_51 rfl ?_
    refine x_imul dX10_gateComes_52 ?_
    refine x_iload dX10_gateComes_53 rfl ?_
    refine x_iadd dX10_gateComes_55 ?_
    refine x_eqi (ix64 _ _) ?_
    refine x_iconst (v := 0) dX10_gateComes_56 (by decide) ?_
    refine y_zastM (f := 49) (κ := 79) dX10_gateComes_57 am_49 rfl (by first | omega | exact sl16_lt _ | assumption) (by decide) (by first | decide | exact bI_nar _) ?_
    refine x_iinc (v := _ + 1) (lv' := [_, _, _, _, _]) dX10_gateComes_58 rfl rfl (by decide) rfl ?_
    refine x_goto (tgt := 28) dX10_gateComes_61 (by decide) ?_
    rw [nI_1]
    refine x_heq (S2 := mcg S g (j + 1)) mcg_s ?_
    exact ih (j + 1) (by omega)
set_option maxRecDepth 100000 in
set_option maxHeartbeats 400000 in
theorem c_mGate1 {X : XS} {d : Nat} {S : St} {g : Nat} (hg : g < 3) (a b : Int32) (ha : ¬ a ≤ S.2.2.1 45 g) : Call X mX10_gateComes false d [.ref (ad 10 0), .int (nI g), .int a, .int b] (hp S) (.inl none, hp (ml_gate S g a b), 0, 0) := by
  refine Call.of fX10_gateComes (by decide) rfl (by simp [Value.category]) (Nat.le_of_ble_eq_true rfl) (lv := [some (.ref (ad 10 0)), some (.int (nI g)), some (.int a), some (.int b), none]) rfl ?_
  refine x_iload_n dX10_gateComes_0 rfl ?_
  refine x_aload_n dX10_gateComes_1 rfl ?_
  refine x_get dX10_gateComes_2 fl_RX10_131 (hp_get (κ := 10) (by decide)) rfl ?_
  refine x_iload_n dX10_gateComes_5 rfl ?_
  refine y_ialdM (f := 45) (κ := 75) dX10_gateComes_6 am_45 rfl (by first | omega | exact sl16_lt _ | assumption) (by decide) ?_
  refine x_icmp_lt (tgt := 24) dX10_gateComes_7 (by decide) (fun hc7 => by first | exact absurd hc7 (fun z => ha (Int32.le_of_lt z)) | exact absurd (fun z => ha (Int32.le_of_lt z)) hc7) (fun hc7 => ?_)
  refine x_iload_n dX10_gateComes_10 rfl ?_
  refine x_aload_n dX10_gateComes_11 rfl ?_
  refine x_get dX10_gateComes_12 fl_RX10_131 (hp_get (κ := 10) (by decide)) rfl ?_
  refine x_iload_n dX10_gateComes_15 rfl ?_
  refine y_ialdM (f := 45) (κ := 75) dX10_gateComes_16 am_45 rfl (by first | omega | exact sl16_lt _ | assumption) (by decide) ?_
  refine x_icmp_ne (tgt := 25) dX10_gateComes_17 (by decide) (fun hc17 => ?_) (fun hc17 => ?_)
  · refine x_iconst (v := 0) dX10_gateComes_25 (by decide) ?_
    refine x_istore (lv' := [_, _, _, _, _]) dX10_gateComes_26 (by decide) rfl ?_
    have e : ml_gate S g a b = sm (sm (mcg S g 64) 45 g a) 46 g b := by
      unfold ml_gate
      rw [if_neg hc7, if_neg (fun z => hc17 z.1), if_neg ha]
    rw [e]
    exact l_mGate hg ha 64 0 (by omega)
  · exact absurd (hc17 ▸ Int32.le_refl _) ha
set_option maxRecDepth 100000 in
set_option maxHeartbeats 400000 in
theorem c_mGate0 {X : XS} {d : Nat} {S : St} {g : Nat} (hg : g < 3) (a b : Int32) (ha : a ≤ S.2.2.1 45 g) : Call X mX10_gateComes false d [.ref (ad 10 0), .int (nI g), .int a, .int b] (hp S) (.inl none, hp (ml_gate S g a b), 0, 0) := by
  refine Call.of fX10_gateComes (by decide) rfl (by simp [Value.category]) (Nat.le_of_ble_eq_true rfl) (lv := [some (.ref (ad 10 0)), some (.int (nI g)), some (.int a), some (.int b), none]) rfl ?_
  refine x_iload_n dX10_gateComes_0 rfl ?_
  refine x_aload_n dX10_gateComes_1 rfl ?_
  refine x_get dX10_gateComes_2 fl_RX10_131 (hp_get (κ := 10) (by decide)) rfl ?_
  refine x_iload_n dX10_gateComes_5 rfl ?_
  refine y_ialdM (f := 45) (κ := 75) dX10_gateComes_6 am_45 rfl (by first | omega | exact sl16_lt _ | assumption) (by decide) ?_
  refine x_icmp_lt (tgt := 24) dX10_gateComes_7 (by decide) (fun hc7 => ?_) (fun hc7 => ?_)
  · exact x_rV dX10_gateComes_24 rfl rfl (by unfold ml_gate; (repeat' split) <;> first | (exfalso; simp_all; done) | rfl) (by simp) (by simp)
  · refine x_iload_n dX10_gateComes_10 rfl ?_
    refine x_aload_n dX10_gateComes_11 rfl ?_
    refine x_get dX10_gateComes_12 fl_RX10_131 (hp_get (κ := 10) (by decide)) rfl ?_
    refine x_iload_n dX10_gateComes_15 rfl ?_
    refine y_ialdM (f := 45) (κ := 75) dX10_gateComes_16 am_45 rfl (by first | omega | exact sl16_lt _ | assumption) (by decide) ?_
    refine x_icmp_ne (tgt := 25) dX10_gateComes_17 (by decide) (fun hc17 => ?_) (fun hc17 => ?_)
    · refine x_iconst (v := 0) dX10_gateComes_25 (by decide) ?_
      refine x_istore (lv' := [_, _, _, _, _]) dX10_gateComes_26 (by decide) rfl ?_
      refine x_iload dX10_gateComes_28 rfl ?_
      refine x_bipush (v := 64) dX10_gateComes_30 (by decide) ?_
      refine x_icmp_ge (tgt := 64) dX10_gateComes_32 (by decide) (fun hc32 => by first | exact absurd hc32 (by decide) | exact absurd (by decide) hc32) (fun hc32 => ?_)
      refine x_iload_n dX10_gateComes_35 rfl ?_
      refine x_aload_n dX10_gateComes_36 rfl ?_
      refine x_get dX10_gateComes_37 fl_RX10_131 (hp_get (κ := 10) (by decide)) rfl ?_
      refine x_iload_n dX10_gateComes_40 rfl ?_
      refine y_ialdM (f := 45) (κ := 75) dX10_gateComes_41 am_45 rfl (by first | omega | exact sl16_lt _ | assumption) (by decide) ?_
      refine x_icmp_le (tgt := 64) dX10_gateComes_42 (by decide) (fun hc42 => ?_) (fun hc42 => by first | exact absurd ha hc42 | exact absurd hc42 ha)
      refine x_aload_n dX10_gateComes_64 rfl ?_
      refine x_get dX10_gateComes_65 fl_RX10_131 (hp_get (κ := 10) (by decide)) rfl ?_
      refine x_iload_n dX10_gateComes_68 rfl ?_
      refine x_iload_n dX10_gateComes_69 rfl ?_
      refine y_iastM (f := 45) (κ := 75) dX10_gateComes_70 am_45 rfl (by first | omega | exact sl16_lt _ | assumption) (by decide) ?_
      refine x_aload_n dX10_gateComes_71 rfl ?_
      refine x_get dX10_gateComes_72 fl_RX10_134 (hp_get (κ := 10) (by decide)) rfl ?_
      refine x_iload_n dX10_gateComes_75 rfl ?_
      refine x_iload_n dX10_gateComes_76 rfl ?_
      refine y_iastM (f := 46) (κ := 76) dX10_gateComes_77 am_46 rfl (by first | omega | exact sl16_lt _ | assumption) (by decide) ?_
      exact x_rV dX10_gateComes_78 rfl rfl (by unfold ml_gate; (repeat' split) <;> first | (exfalso; simp_all; done) | rfl) (by simp) (by simp)
    · refine x_iload_n dX10_gateComes_20 rfl ?_
      refine x_if_lt (tgt := 25) dX10_gateComes_21 (by decide) (fun hc21 => ?_) (fun hc21 => ?_)
      · refine x_iconst (v := 0) dX10_gateComes_25 (by decide) ?_
        refine x_istore (lv' := [_, _, _, _, _]) dX10_gateComes_26 (by decide) rfl ?_
        refine x_iload dX10_gateComes_28 rfl ?_
        refine x_bipush (v := 64) dX10_gateComes_30 (by decide) ?_
        refine x_icmp_ge (tgt := 64) dX10_gateComes_32 (by decide) (fun hc32 => by first | exact absurd hc32 (by decide) | exact absurd (by decide) hc32) (fun hc32 => ?_)
        refine x_iload_n dX10_gateComes_35 rfl ?_
        refine x_aload_n dX10_gateComes_36 rfl ?_
        refine x_get dX10_gateComes_37 fl_RX10_131 (hp_get (κ := 10) (by decide)) rfl ?_
        refine x_iload_n dX10_gateComes_40 rfl ?_
        refine y_ialdM (f := 45) (κ := 75) dX10_gateComes_41 am_45 rfl (by first | omega | exact sl16_lt _ | assumption) (by decide) ?_
        refine x_icmp_le (tgt := 64) dX10_gateComes_42 (by decide) (fun hc42 => ?_) (fun hc42 => by first | exact absurd ha hc42 | exact absurd hc42 ha)
        refine x_aload_n dX10_gateComes_64 rfl ?_
        refine x_get dX10_gateComes_65 fl_RX10_131 (hp_get (κ := 10) (by decide)) rfl ?_
        refine x_iload_n dX10_gateComes_68 rfl ?_
        refine x_iload_n dX10_gateComes_69 rfl ?_
        refine y_iastM (f := 45) (κ := 75) dX10_gateComes_70 am_45 rfl (by first | omega | exact sl16_lt _ | assumption) (by decide) ?_
        refine x_aload_n dX10_gateComes_71 rfl ?_
        refine x_get dX10_gateComes_72 fl_RX10_134 (hp_get (κ := 10) (by decide)) rfl ?_
        refine x_iload_n dX10_gateComes_75 rfl ?_
        refine x_iload_n dX10_gateComes_76 rfl ?_
        refine y_iastM (f := 46) (κ := 76) dX10_gateComes_77 am_46 rfl (by first | omega | exact sl16_lt _ | assumption) (by decide) ?_
        exact x_rV dX10_gateComes_78 rfl rfl (by unfold ml_gate; (repeat' split) <;> first | (exfalso; simp_all; done) | rfl) (by simp) (by simp)
      · exact x_rV dX10_gateComes_24 rfl rfl (by unfold ml_gate; (repeat' split) <;> first | (exfalso; simp_all; done) | rfl) (by simp) (by simp)
theorem c_mGate {X : XS} {d : Nat} {S : St} {g : Nat} (hg : g < 3) (a b : Int32) : Call X mX10_gateComes false d [.ref (ad 10 0), .int (nI g), .int a, .int b] (hp S) (.inl none, hp (ml_gate S g a b), 0, 0) := by
  by_cases ha : a ≤ S.2.2.1 45 g
  · exact c_mGate0 hg a b ha
  · exact c_mGate1 hg a b ha
def mu1 (S : St) (g : Nat) (m a b c : Int32) (o : Nat) : St := if S.2.2.1 5 (6 * g + o) = 0 then S else if nI o = m then S else ml_send S 9 (nI g) (nI o) a b c
def mu (S : St) (g : Nat) (m a b c : Int32) : Nat → St
  | 0 => S
  | o + 1 => mu1 (mu S g m a b c o) g m a b c o
theorem mu_s {S : St} {g o : Nat} {m a b c : Int32} : mu S g m a b c (o + 1) = mu1 (mu S g m a b c o) g m a b c o := by rw [mu]
theorem mu_ok {S : St} {g : Nat} {m a b c : Int32} (h : MO S) : ∀ n, MO (mu S g m a b c n)
  | 0 => h
  | n + 1 => by
    rw [mu_s]
    unfold mu1
    split
    · exact mu_ok h n
    · split
      · exact mu_ok h n
      · exact (mu_ok h n).send
def ml_pa (S : St) (g : Nat) (a : Int32) : Int32 := if S.2.2.1 35 g < 0 then S.2.2.1 38 g else if S.2.2.1 34 g = a then S.2.2.1 1 0 else S.2.2.1 38 g
def ml_ug (S : St) (g m b : Nat) (a : Int32) : Bool := decide (S.2.2.1 46 g = nI m ∧ a = S.2.2.1 45 g ∧ S.2.2.1 49 (64 * g + b) = 0)
def ml_u0 (S : St) (g b : Nat) (a : Int32) : St := let S1 := sm S 49 (64 * g + b) 1; let S2 := sm S1 47 g (S1.2.2.1 47 g + 1); sm S2 38 g (ml_pa S2 g a)
def ml_unit (S : St) (g m b : Nat) (a c : Int32) : St := if ml_ug S g m b a = true then mu (ml_u0 S g b a) g (nI m) a (nI b) c 6 else sm S 48 g (S.2.2.1 48 g + 1)
set_option maxRecDepth 100000 in
set_option maxHeartbeats 400000 in
theorem l_mUnit {X : XS} {d : Nat} {S : St} {g : Nat} {m a b e : Int32} {x6 : Option Value} (hg : g < 3) (h : MO S) : ∀ c j, j + c = 6 → Ex X mX10_unitComes false (d + 1) 122 [some (.ref (ad 10 0)), some (.int (nI g)), some (.int m), some (.int a), some (.int b), some (.int e), x6, some (.int (nI j))] [] (hp (mu S g m a b e j)) 0 0 (.inl none, hp (mu S g m a b e 6), 0, 0) := by
  intro c
  induction c with
  | zero =>
    intro j hj
    have hj6 : j = 6 := by omega
    subst hj6
    refine x_iload dX10_unitComes_122 rfl ?_
    refine x_bipush (v := 6) dX10_unitComes_124 (by decide) ?_
    refine x_icmp_ge (tgt := 170) dX10_unitComes_126 (by decide) (fun hc126 => ?_) (fun hc126 => by first | exact absurd (by decide) hc126 | exact absurd hc126 (by decide))
    exact x_rV dX10_unitComes_170 rfl rfl rfl (by simp) (by simp)
  | succ c ih =>
    intro j hj
    refine x_iload dX10_unitComes_122 rfl ?_
    refine x_bipush (v := 6) dX10_unitComes_124 (by decide) ?_
    refine x_icmp_ge (tgt := 170) dX10_unitComes_126 (by decide) (fun hc126 => by first | exact absurd hc126 (nI_ge (b := 6) (by omega) (by decide)) | exact absurd (nI_ge (b := 6) (by omega) (by decide)) hc126) (fun hc126 => ?_)
    refine x_aload_n dX10_unitComes_129 rfl ?_
    refine x_get dX10_unitComes_130 fl_RX10_13 (hp_get (κ := 10) (by decide)) rfl ?_
    refine x_bipush (v := 6) dX10_unitComes_133 (by decide) ?_
    refine x_iload_n dX10_unitComes_135 rfl ?_
    refine x_imul dX10_unitComes_136 ?_
    refine x_iload dX10_unitComes_137 rfl ?_
    refine x_iadd dX10_unitComes_139 ?_
    refine x_eqi (ix6 _ _) ?_
    refine y_zaldM (f := 5) (κ := 35) dX10_unitComes_140 am_5 rfl (by first | omega | exact sl16_lt _ | assumption) (by decide) ?_
    refine x_if_eq (tgt := 164) dX10_unitComes_141 (by decide) (fun hc141 => ?_) (fun hc141 => ?_)
    · refine x_iinc (v := _ + 1) (lv' := [_, _, _, _, _, _, _, _]) dX10_unitComes_164 rfl rfl (by decide) rfl ?_
      refine x_goto (tgt := 122) dX10_unitComes_167 (by decide) ?_
      rw [nI_1]
      refine x_heq (S2 := mu S g m a b e (j + 1)) (by rw [mu_s]; simp [mu1, hc126, hc141]) ?_
      exact ih (j + 1) (by omega)
    · refine x_iload dX10_unitComes_144 rfl ?_
      refine x_iload_n dX10_unitComes_146 rfl ?_
      refine x_icmp_eq (tgt := 164) dX10_unitComes_147 (by decide) (fun hc147 => ?_) (fun hc147 => ?_)
      · refine x_iinc (v := _ + 1) (lv' := [_, _, _, _, _, _, _, _]) dX10_unitComes_164 rfl rfl (by decide) rfl ?_
        refine x_goto (tgt := 122) dX10_unitComes_167 (by decide) ?_
        rw [nI_1]
        refine x_heq (S2 := mu S g m a b e (j + 1)) (by rw [mu_s]; simp [mu1, hc126, hc141, hc147]) ?_
        exact ih (j + 1) (by omega)
      · refine x_aload_n dX10_unitComes_150 rfl ?_
        refine x_bipush (v := 9) dX10_unitComes_151 (by decide) ?_
        refine x_iload_n dX10_unitComes_153 rfl ?_
        refine x_iload dX10_unitComes_154 rfl ?_
        refine x_iload_n dX10_unitComes_156 rfl ?_
        refine x_iload dX10_unitComes_157 rfl ?_
        refine x_iload dX10_unitComes_159 rfl ?_
        refine x_cVv (as := [_, _, _, _, _, _]) dX10_unitComes_161 fX10_send rfl lk_RX10_168 rfl (hp_get (κ := 10) (by decide)) rfl rfl (Nat.le_of_ble_eq_true rfl) (c_mSend (mu_ok h j) _ _ _ _ _ _) (by simp) (by simp) ?_
        refine x_iinc (v := _ + 1) (lv' := [_, _, _, _, _, _, _, _]) dX10_unitComes_164 rfl rfl (by decide) rfl ?_
        refine x_goto (tgt := 122) dX10_unitComes_167 (by decide) ?_
        rw [nI_1]
        refine x_heq (S2 := mu S g m a b e (j + 1)) (by rw [mu_s]; simp [mu1, hc126, hc141, hc147]) ?_
        exact ih (j + 1) (by omega)
set_option maxRecDepth 100000 in
set_option maxHeartbeats 400000 in
theorem c_mUnit {X : XS} {d : Nat} {S : St} {g m : Nat} (hg : g < 3) (hm : m < 6) {b : Nat} (hb : b < 64) (h : MO S) (a e : Int32) : Call X mX10_unitComes false (d + 1) [.ref (ad 10 0), .int (nI g), .int (nI m), .int a, .int (nI b), .int e] (hp S) (.inl none, hp (ml_unit S g m b a e), 0, 0) := by
  refine Call.of fX10_unitComes (by decide) rfl (by simp [Value.category]) (Nat.le_of_ble_eq_true rfl) (lv := [some (.ref (ad 10 0)), some (.int (nI g)), some (.int (nI m)), some (.int a), some (.int (nI b)), some (.int e), none, none]) rfl ?_
  refine x_aload_n dX10_unitComes_0 rfl ?_
  refine x_get dX10_unitComes_1 fl_RX10_134 (hp_get (κ := 10) (by decide)) rfl ?_
  refine x_iload_n dX10_unitComes_4 rfl ?_
  refine y_ialdM (f := 46) (κ := 76) dX10_unitComes_5 am_46 rfl (by first | omega | exact sl16_lt _ | assumption) (by decide) ?_
  refine x_iload_n dX10_unitComes_6 rfl ?_
  refine x_icmp_ne (tgt := 39) dX10_unitComes_7 (by decide) (fun hc7 => ?_) (fun hc7 => ?_)
  · refine x_iconst (v := 0) dX10_unitComes_39 (by decide) ?_
    refine x_istore (lv' := [_, _, _, _, _, _, _, _]) dX10_unitComes_40 (by decide) rfl ?_
    refine x_iload dX10_unitComes_42 rfl ?_
    refine x_if_ne (tgt := 58) dX10_unitComes_44 (by decide) (fun hc44 => by first | exact absurd hc44 (by decide) | exact absurd (by decide) hc44) (fun hc44 => ?_)
    refine x_aload_n dX10_unitComes_47 rfl ?_
    refine x_get dX10_unitComes_48 fl_RX10_140 (hp_get (κ := 10) (by decide)) rfl ?_
    refine x_iload_n dX10_unitComes_51 rfl ?_
    refine x_dup2 dX10_unitComes_52 rfl rfl ?_
    refine y_ialdM (f := 48) (κ := 78) dX10_unitComes_53 am_48 rfl (by first | omega | exact sl16_lt _ | assumption) (by decide) ?_
    refine x_iconst (v := 1) dX10_unitComes_54 (by decide) ?_
    refine x_iadd dX10_unitComes_55 ?_
    refine y_iastM (f := 48) (κ := 78) dX10_unitComes_56 am_48 rfl (by first | omega | exact sl16_lt _ | assumption) (by decide) ?_
    exact x_rV dX10_unitComes_57 rfl rfl (by have hu : ml_ug S g m b a = false := (by simp [ml_ug, hc7, hc44]); unfold ml_unit; rw [if_neg (by rw [hu]; decide)]) (by simp) (by simp)
  · refine x_iload_n dX10_unitComes_10 rfl ?_
    refine x_aload_n dX10_unitComes_11 rfl ?_
    refine x_get dX10_unitComes_12 fl_RX10_131 (hp_get (κ := 10) (by decide)) rfl ?_
    refine x_iload_n dX10_unitComes_15 rfl ?_
    refine y_ialdM (f := 45) (κ := 75) dX10_unitComes_16 am_45 rfl (by first | omega | exact sl16_lt _ | assumption) (by decide) ?_
    refine x_icmp_ne (tgt := 39) dX10_unitComes_17 (by decide) (fun hc17 => ?_) (fun hc17 => ?_)
    · refine x_iconst (v := 0) dX10_unitComes_39 (by decide) ?_
      refine x_istore (lv' := [_, _, _, _, _, _, _, _]) dX10_unitComes_40 (by decide) rfl ?_
      refine x_iload dX10_unitComes_42 rfl ?_
      refine x_if_ne (tgt := 58) dX10_unitComes_44 (by decide) (fun hc44 => by first | exact absurd hc44 (by decide) | exact absurd (by decide) hc44) (fun hc44 => ?_)
      refine x_aload_n dX10_unitComes_47 rfl ?_
      refine x_get dX10_unitComes_48 fl_RX10_140 (hp_get (κ := 10) (by decide)) rfl ?_
      refine x_iload_n dX10_unitComes_51 rfl ?_
      refine x_dup2 dX10_unitComes_52 rfl rfl ?_
      refine y_ialdM (f := 48) (κ := 78) dX10_unitComes_53 am_48 rfl (by first | omega | exact sl16_lt _ | assumption) (by decide) ?_
      refine x_iconst (v := 1) dX10_unitComes_54 (by decide) ?_
      refine x_iadd dX10_unitComes_55 ?_
      refine y_iastM (f := 48) (κ := 78) dX10_unitComes_56 am_48 rfl (by first | omega | exact sl16_lt _ | assumption) (by decide) ?_
      exact x_rV dX10_unitComes_57 rfl rfl (by have hu : ml_ug S g m b a = false := (by simp [ml_ug, hc7, hc17, hc44]); unfold ml_unit; rw [if_neg (by rw [hu]; decide)]) (by simp) (by simp)
    · refine x_aload_n dX10_unitComes_20 rfl ?_
      refine x_get dX10_unitComes_21 fl_RX10_143 (hp_get (κ := 10) (by decide)) rfl ?_
      refine x_bipush (v := 64) dX10_unitComes_24 (by decide) ?_
      refine x_iload_n dX10_unitComes_26 rfl ?_
      refine x_imul dX10_unitComes_27 ?_
      refine x_iload dX10_unitComes_28 rfl ?_
      refine x_iadd dX10_unitComes_30 ?_
      refine x_eqi (ix64 _ _) ?_
      refine y_zaldM (f := 49) (κ := 79) dX10_unitComes_31 am_49 rfl (by first | omega | exact sl16_lt _ | assumption) (by decide) ?_
      refine x_if_ne (tgt := 39) dX10_unitComes_32 (by decide) (fun hc32 => ?_) (fun hc32 => ?_)
      · refine x_iconst (v := 0) dX10_unitComes_39 (by decide) ?_
        refine x_istore (lv' := [_, _, _, _, _, _, _, _]) dX10_unitComes_40 (by decide) rfl ?_
        refine x_iload dX10_unitComes_42 rfl ?_
        refine x_if_ne (tgt := 58) dX10_unitComes_44 (by decide) (fun hc44 => by first | exact absurd hc44 (by decide) | exact absurd (by decide) hc44) (fun hc44 => ?_)
        refine x_aload_n dX10_unitComes_47 rfl ?_
        refine x_get dX10_unitComes_48 fl_RX10_140 (hp_get (κ := 10) (by decide)) rfl ?_
        refine x_iload_n dX10_unitComes_51 rfl ?_
        refine x_dup2 dX10_unitComes_52 rfl rfl ?_
        refine y_ialdM (f := 48) (κ := 78) dX10_unitComes_53 am_48 rfl (by first | omega | exact sl16_lt _ | assumption) (by decide) ?_
        refine x_iconst (v := 1) dX10_unitComes_54 (by decide) ?_
        refine x_iadd dX10_unitComes_55 ?_
        refine y_iastM (f := 48) (κ := 78) dX10_unitComes_56 am_48 rfl (by first | omega | exact sl16_lt _ | assumption) (by decide) ?_
        exact x_rV dX10_unitComes_57 rfl rfl (by have hu : ml_ug S g m b a = false := (by simp [ml_ug, hc7, hc17, hc32, hc44]); unfold ml_unit; rw [if_neg (by rw [hu]; decide)]) (by simp) (by simp)
      · refine x_iconst (v := 1) dX10_unitComes_35 (by decide) ?_
        refine x_goto (tgt := 40) dX10_unitComes_36 (by decide) ?_
        refine x_istore (lv' := [_, _, _, _, _, _, _, _]) dX10_unitComes_40 (by decide) rfl ?_
        refine x_iload dX10_unitComes_42 rfl ?_
        refine x_if_ne (tgt := 58) dX10_unitComes_44 (by decide) (fun hc44 => ?_) (fun hc44 => by first | exact absurd (by decide) hc44 | exact absurd hc44 (by decide))
        refine x_aload_n dX10_unitComes_58 rfl ?_
        refine x_get dX10_unitComes_59 fl_RX10_143 (hp_get (κ := 10) (by decide)) rfl ?_
        refine x_bipush (v := 64) dX10_unitComes_62 (by decide) ?_
        refine x_iload_n dX10_unitComes_64 rfl ?_
        refine x_imul dX10_unitComes_65 ?_
        refine x_iload dX10_unitComes_66 rfl ?_
        refine x_iadd dX10_unitComes_68 ?_
        refine x_eqi (ix64 _ _) ?_
        refine x_iconst (v := 1) dX10_unitComes_69 (by decide) ?_
        refine y_zastM (f := 49) (κ := 79) dX10_unitComes_70 am_49 rfl (by first | omega | exact sl16_lt _ | assumption) (by decide) (by first | decide | exact bI_nar _) ?_
        refine x_aload_n dX10_unitComes_71 rfl ?_
        refine x_get dX10_unitComes_72 fl_RX10_137 (hp_get (κ := 10) (by decide)) rfl ?_
        refine x_iload_n dX10_unitComes_75 rfl ?_
        refine x_dup2 dX10_unitComes_76 rfl rfl ?_
        refine y_ialdM (f := 47) (κ := 77) dX10_unitComes_77 am_47 rfl (by first | omega | exact sl16_lt _ | assumption) (by decide) ?_
        refine x_iconst (v := 1) dX10_unitComes_78 (by decide) ?_
        refine x_iadd dX10_unitComes_79 ?_
        refine y_iastM (f := 47) (κ := 77) dX10_unitComes_80 am_47 rfl (by first | omega | exact sl16_lt _ | assumption) (by decide) ?_
        refine x_aload_n dX10_unitComes_81 rfl ?_
        refine x_get dX10_unitComes_82 fl_RX10_113 (hp_get (κ := 10) (by decide)) rfl ?_
        refine x_iload_n dX10_unitComes_85 rfl ?_
        refine x_aload_n dX10_unitComes_86 rfl ?_
        refine x_get dX10_unitComes_87 fl_RX10_104 (hp_get (κ := 10) (by decide)) rfl ?_
        refine x_iload_n dX10_unitComes_90 rfl ?_
        refine y_ialdM (f := 35) (κ := 65) dX10_unitComes_91 am_35 rfl (by first | omega | exact sl16_lt _ | assumption) (by decide) ?_
        refine x_if_lt (tgt := 112) dX10_unitComes_92 (by decide) (fun hc92 => ?_) (fun hc92 => ?_)
        · refine x_aload_n dX10_unitComes_112 rfl ?_
          refine x_get dX10_unitComes_113 fl_RX10_113 (hp_get (κ := 10) (by decide)) rfl ?_
          refine x_iload_n dX10_unitComes_116 rfl ?_
          refine y_ialdM (f := 38) (κ := 68) dX10_unitComes_117 am_38 rfl (by first | omega | exact sl16_lt _ | assumption) (by decide) ?_
          refine x_eqi (y := ml_pa (sm (sm S 49 (64 * g + b) 1) 47 g ((sm S 49 (64 * g + b) 1).2.2.1 47 g + 1)) g a) (by unfold ml_pa; first | rw [if_pos hc92] | rw [if_neg hc92, if_pos hc102] | rw [if_neg hc92, if_neg hc102]) ?_
          refine y_iastM (f := 38) (κ := 68) dX10_unitComes_118 am_38 rfl (by first | omega | exact sl16_lt _ | assumption) (by decide) ?_
          refine x_iconst (v := 0) dX10_unitComes_119 (by decide) ?_
          refine x_istore (lv' := [_, _, _, _, _, _, _, _]) dX10_unitComes_120 (by decide) rfl ?_
          have hu : ml_ug S g m b a = true := by simp [ml_ug, hc7, hc17, hc32, hc44, hc92]
          unfold ml_unit
          rw [if_pos hu]
          exact l_mUnit (S := ml_u0 S g b a) hg (((h.sm (by decide)).sm (by decide)).sm (by decide)) 6 0 (by omega)
        · refine x_aload_n dX10_unitComes_95 rfl ?_
          refine x_get dX10_unitComes_96 fl_RX10_101 (hp_get (κ := 10) (by decide)) rfl ?_
          refine x_iload_n dX10_unitComes_99 rfl ?_
          refine y_ialdM (f := 34) (κ := 64) dX10_unitComes_100 am_34 rfl (by first | omega | exact sl16_lt _ | assumption) (by decide) ?_
          refine x_iload_n dX10_unitComes_101 rfl ?_
          refine x_icmp_ne (tgt := 112) dX10_unitComes_102 (by decide) (fun hc102 => ?_) (fun hc102 => ?_)
          · refine x_aload_n dX10_unitComes_112 rfl ?_
            refine x_get dX10_unitComes_113 fl_RX10_113 (hp_get (κ := 10) (by decide)) rfl ?_
            refine x_iload_n dX10_unitComes_116 rfl ?_
            refine y_ialdM (f := 38) (κ := 68) dX10_unitComes_117 am_38 rfl (by first | omega | exact sl16_lt _ | assumption) (by decide) ?_
            refine x_eqi (y := ml_pa (sm (sm S 49 (64 * g + b) 1) 47 g ((sm S 49 (64 * g + b) 1).2.2.1 47 g + 1)) g a) (by unfold ml_pa; first | rw [if_pos hc92] | rw [if_neg hc92, if_pos hc102] | rw [if_neg hc92, if_neg hc102]) ?_
            refine y_iastM (f := 38) (κ := 68) dX10_unitComes_118 am_38 rfl (by first | omega | exact sl16_lt _ | assumption) (by decide) ?_
            refine x_iconst (v := 0) dX10_unitComes_119 (by decide) ?_
            refine x_istore (lv' := [_, _, _, _, _, _, _, _]) dX10_unitComes_120 (by decide) rfl ?_
            have hu : ml_ug S g m b a = true := by simp [ml_ug, hc7, hc17, hc32, hc44, hc92, hc102]
            unfold ml_unit
            rw [if_pos hu]
            exact l_mUnit (S := ml_u0 S g b a) hg (((h.sm (by decide)).sm (by decide)).sm (by decide)) 6 0 (by omega)
          · refine x_aload_n dX10_unitComes_105 rfl ?_
            refine x_get dX10_unitComes_106 fl_RX10_179 (hp_get (κ := 10) (by decide)) rfl ?_
            refine x_goto (tgt := 118) dX10_unitComes_109 (by decide) ?_
            refine x_eqi (y := ml_pa (sm (sm S 49 (64 * g + b) 1) 47 g ((sm S 49 (64 * g + b) 1).2.2.1 47 g + 1)) g a) (by unfold ml_pa; first | rw [if_pos hc92] | rw [if_neg hc92, if_pos hc102] | rw [if_neg hc92, if_neg hc102]) ?_
            refine y_iastM (f := 38) (κ := 68) dX10_unitComes_118 am_38 rfl (by first | omega | exact sl16_lt _ | assumption) (by decide) ?_
            refine x_iconst (v := 0) dX10_unitComes_119 (by decide) ?_
            refine x_istore (lv' := [_, _, _, _, _, _, _, _]) dX10_unitComes_120 (by decide) rfl ?_
            have hu : ml_ug S g m b a = true := by simp [ml_ug, hc7, hc17, hc32, hc44, hc92, hc102]
            unfold ml_unit
            rw [if_pos hu]
            exact l_mUnit (S := ml_u0 S g b a) hg (((h.sm (by decide)).sm (by decide)).sm (by decide)) 6 0 (by omega)
def mcl (S : St) (i : Nat) : Nat → St
  | 0 => S
  | n + 1 => sm (mcl S i n) 24 (64 * i + n) 0
theorem mcl_s {S : St} {i n : Nat} : mcl S i (n + 1) = sm (mcl S i n) 24 (64 * i + n) 0 := by rw [mcl]
theorem mcl_get {S : St} {g f i : Nat} : ∀ n, (mcl S g n).2.2.1 f i = if f = 24 ∧ 64 * g ≤ i ∧ i < 64 * g + n then 0 else S.2.2.1 f i
  | 0 => by rw [if_neg (by omega)]; rfl
  | n + 1 => by
    rw [mcl_s, sm_get, mcl_get n]
    by_cases h1 : f = 24 ∧ i = 64 * g + n
    · rw [if_pos h1, if_pos (by omega)]
    · rw [if_neg h1]
      by_cases h2 : f = 24 ∧ 64 * g ≤ i ∧ i < 64 * g + n
      · rw [if_pos h2, if_pos (by omega)]
      · rw [if_neg h2, if_neg (by omega)]
theorem mcl_1 {S : St} {g : Nat} : ∀ n, (mcl S g n).1 = S.1 ∧ (mcl S g n).2.1 = S.2.1 ∧ (mcl S g n).2.2.2 = S.2.2.2
  | 0 => ⟨rfl, rfl, rfl⟩
  | n + 1 => by rw [mcl_s]; exact mcl_1 n
def ml_bg0 (S : St) (i : Nat) (a b : Int32) : St := let S3 := sm (sm (sm S 15 i a) 16 i 1) 17 i b; sm (sm S3 18 i (S3.2.2.1 1 0)) 19 i 0
def ml_lg (S : St) (i b : Nat) (a : Int32) : Bool := decide (a = S.2.2.1 15 i ∧ ¬ S.2.2.1 16 i = 0 ∧ wi (nI b - S.2.2.1 17 i) 0 15 = true ∧ S.2.2.1 24 (64 * i + b) = 0)
def ml_li2 (S : St) (i b : Nat) (a c : Int32) : St := if ml_lg S i b a = true then sm (sm S 24 (64 * i + b) 1) 25 (64 * i + b) c else sm S 22 i (S.2.2.1 22 i + 1)
def ml_li (S : St) (i b : Nat) (a c : Int32) : St := if a ≤ S.2.2.1 15 i then ml_li2 S i b a c else ml_li2 (mcl (ml_bg0 S i a (nI b)) i 64) i b a c
set_option maxRecDepth 100000 in
set_option maxHeartbeats 400000 in
theorem l_mLi2 {X : XS} {d : Nat} {S : St} {i b : Nat} {a e : Int32} {x5 : Option Value} (hi : i < 18) (hb : b < 64) : Ex X mX10_listen false (d + 1) 77 [some (.ref (ad 10 0)), some (.int (nI i)), some (.int a), some (.int (nI b)), some (.int e), x5] [] (hp S) 0 0 (.inl none, hp (ml_li2 S i b a e), 0, 0) := by
  refine x_iload_n dX10_listen_77 rfl ?_
  refine x_aload_n dX10_listen_78 rfl ?_
  refine x_get dX10_listen_79 fl_RX10_44 (hp_get (κ := 10) (by decide)) rfl ?_
  refine x_iload_n dX10_listen_82 rfl ?_
  refine y_ialdM (f := 15) (κ := 45) dX10_listen_83 am_15 rfl (by first | omega | exact sl16_lt _ | assumption) (by decide) ?_
  refine x_icmp_ne (tgt := 131) dX10_listen_84 (by decide) (fun hc84 => ?_) (fun hc84 => ?_)
  · refine x_iconst (v := 0) dX10_listen_131 (by decide) ?_
    refine x_istore (lv' := [_, _, _, _, _, _]) dX10_listen_132 (by decide) rfl ?_
    refine x_iload dX10_listen_134 rfl ?_
    refine x_if_eq (tgt := 167) dX10_listen_136 (by decide) (fun hc136 => ?_) (fun hc136 => by first | exact absurd (by decide) hc136 | exact absurd hc136 (by decide))
    refine x_aload_n dX10_listen_167 rfl ?_
    refine x_get dX10_listen_168 fl_RX10_65 (hp_get (κ := 10) (by decide)) rfl ?_
    refine x_iload_n dX10_listen_171 rfl ?_
    refine x_dup2 dX10_listen_172 rfl rfl ?_
    refine y_ialdM (f := 22) (κ := 52) dX10_listen_173 am_22 rfl (by first | omega | exact sl16_lt _ | assumption) (by decide) ?_
    refine x_iconst (v := 1) dX10_listen_174 (by decide) ?_
    refine x_iadd dX10_listen_175 ?_
    refine y_iastM (f := 22) (κ := 52) dX10_listen_176 am_22 rfl (by first | omega | exact sl16_lt _ | assumption) (by decide) ?_
    exact x_rV dX10_listen_177 rfl rfl (by unfold ml_li2; cases hb : ml_lg S i b a <;> first | (exfalso; revert hb; simp [ml_lg, hc84, hc136]; done) | rfl) (by simp) (by simp)
  · refine x_aload_n dX10_listen_87 rfl ?_
    refine x_get dX10_listen_88 fl_RX10_47 (hp_get (κ := 10) (by decide)) rfl ?_
    refine x_iload_n dX10_listen_91 rfl ?_
    refine y_zaldM (f := 16) (κ := 46) dX10_listen_92 am_16 rfl (by first | omega | exact sl16_lt _ | assumption) (by decide) ?_
    refine x_if_eq (tgt := 131) dX10_listen_93 (by decide) (fun hc93 => ?_) (fun hc93 => ?_)
    · refine x_iconst (v := 0) dX10_listen_131 (by decide) ?_
      refine x_istore (lv' := [_, _, _, _, _, _]) dX10_listen_132 (by decide) rfl ?_
      refine x_iload dX10_listen_134 rfl ?_
      refine x_if_eq (tgt := 167) dX10_listen_136 (by decide) (fun hc136 => ?_) (fun hc136 => by first | exact absurd (by decide) hc136 | exact absurd hc136 (by decide))
      refine x_aload_n dX10_listen_167 rfl ?_
      refine x_get dX10_listen_168 fl_RX10_65 (hp_get (κ := 10) (by decide)) rfl ?_
      refine x_iload_n dX10_listen_171 rfl ?_
      refine x_dup2 dX10_listen_172 rfl rfl ?_
      refine y_ialdM (f := 22) (κ := 52) dX10_listen_173 am_22 rfl (by first | omega | exact sl16_lt _ | assumption) (by decide) ?_
      refine x_iconst (v := 1) dX10_listen_174 (by decide) ?_
      refine x_iadd dX10_listen_175 ?_
      refine y_iastM (f := 22) (κ := 52) dX10_listen_176 am_22 rfl (by first | omega | exact sl16_lt _ | assumption) (by decide) ?_
      exact x_rV dX10_listen_177 rfl rfl (by unfold ml_li2; cases hb : ml_lg S i b a <;> first | (exfalso; revert hb; simp [ml_lg, hc84, hc93, hc136]; done) | rfl) (by simp) (by simp)
    · refine x_iload_n dX10_listen_96 rfl ?_
      refine x_aload_n dX10_listen_97 rfl ?_
      refine x_get dX10_listen_98 fl_RX10_50 (hp_get (κ := 10) (by decide)) rfl ?_
      refine x_iload_n dX10_listen_101 rfl ?_
      refine y_ialdM (f := 17) (κ := 47) dX10_listen_102 am_17 rfl (by first | omega | exact sl16_lt _ | assumption) (by decide) ?_
      refine x_isub dX10_listen_103 ?_
      refine x_iconst (v := 0) dX10_listen_104 (by decide) ?_
      refine x_bipush (v := 15) dX10_listen_105 (by decide) ?_
      refine x_cS (as := [_, _, _]) dX10_listen_107 fX10_within rfl lk_RX10_150 rfl (Nat.le_of_ble_eq_true rfl) (c_within _ _ _) (by simp) (by simp) ?_
      refine x_if_eqB (tgt := 131) dX10_listen_110 (by decide) (fun hc110 => ?_) (fun hc110 => ?_)
      · refine x_iconst (v := 0) dX10_listen_131 (by decide) ?_
        refine x_istore (lv' := [_, _, _, _, _, _]) dX10_listen_132 (by decide) rfl ?_
        refine x_iload dX10_listen_134 rfl ?_
        refine x_if_eq (tgt := 167) dX10_listen_136 (by decide) (fun hc136 => ?_) (fun hc136 => by first | exact absurd (by decide) hc136 | exact absurd hc136 (by decide))
        refine x_aload_n dX10_listen_167 rfl ?_
        refine x_get dX10_listen_168 fl_RX10_65 (hp_get (κ := 10) (by decide)) rfl ?_
        refine x_iload_n dX10_listen_171 rfl ?_
        refine x_dup2 dX10_listen_172 rfl rfl ?_
        refine y_ialdM (f := 22) (κ := 52) dX10_listen_173 am_22 rfl (by first | omega | exact sl16_lt _ | assumption) (by decide) ?_
        refine x_iconst (v := 1) dX10_listen_174 (by decide) ?_
        refine x_iadd dX10_listen_175 ?_
        refine y_iastM (f := 22) (κ := 52) dX10_listen_176 am_22 rfl (by first | omega | exact sl16_lt _ | assumption) (by decide) ?_
        exact x_rV dX10_listen_177 rfl rfl (by unfold ml_li2; cases hb : ml_lg S i b a <;> first | (exfalso; revert hb; simp [ml_lg, hc84, hc93, hc110, hc136]; done) | rfl) (by simp) (by simp)
      · refine x_aload_n dX10_listen_113 rfl ?_
        refine x_get dX10_listen_114 fl_RX10_71 (hp_get (κ := 10) (by decide)) rfl ?_
        refine x_bipush (v := 64) dX10_listen_117 (by decide) ?_
        refine x_iload_n dX10_listen_119 rfl ?_
        refine x_imul dX10_listen_120 ?_
        refine x_iload_n dX10_listen_121 rfl ?_
        refine x_iadd dX10_listen_122 ?_
        refine x_eqi (ix64 _ _) ?_
        refine y_zaldM (f := 24) (κ := 54) dX10_listen_123 am_24 rfl (by first | omega | exact sl16_lt _ | assumption) (by decide) ?_
        refine x_if_ne (tgt := 131) dX10_listen_124 (by decide) (fun hc124 => ?_) (fun hc124 => ?_)
        · refine x_iconst (v := 0) dX10_listen_131 (by decide) ?_
          refine x_istore (lv' := [_, _, _, _, _, _]) dX10_listen_132 (by decide) rfl ?_
          refine x_iload dX10_listen_134 rfl ?_
          refine x_if_eq (tgt := 167) dX10_listen_136 (by decide) (fun hc136 => ?_) (fun hc136 => by first | exact absurd (by decide) hc136 | exact absurd hc136 (by decide))
          refine x_aload_n dX10_listen_167 rfl ?_
          refine x_get dX10_listen_168 fl_RX10_65 (hp_get (κ := 10) (by decide)) rfl ?_
          refine x_iload_n dX10_listen_171 rfl ?_
          refine x_dup2 dX10_listen_172 rfl rfl ?_
          refine y_ialdM (f := 22) (κ := 52) dX10_listen_173 am_22 rfl (by first | omega | exact sl16_lt _ | assumption) (by decide) ?_
          refine x_iconst (v := 1) dX10_listen_174 (by decide) ?_
          refine x_iadd dX10_listen_175 ?_
          refine y_iastM (f := 22) (κ := 52) dX10_listen_176 am_22 rfl (by first | omega | exact sl16_lt _ | assumption) (by decide) ?_
          exact x_rV dX10_listen_177 rfl rfl (by unfold ml_li2; cases hb : ml_lg S i b a <;> first | (exfalso; revert hb; simp [ml_lg, hc84, hc93, hc110, hc124, hc136]; done) | rfl) (by simp) (by simp)
        · refine x_iconst (v := 1) dX10_listen_127 (by decide) ?_
          refine x_goto (tgt := 132) dX10_listen_128 (by decide) ?_
          refine x_istore (lv' := [_, _, _, _, _, _]) dX10_listen_132 (by decide) rfl ?_
          refine x_iload dX10_listen_134 rfl ?_
          refine x_if_eq (tgt := 167) dX10_listen_136 (by decide) (fun hc136 => by first | exact absurd hc136 (by decide) | exact absurd (by decide) hc136) (fun hc136 => ?_)
          refine x_aload_n dX10_listen_139 rfl ?_
          refine x_get dX10_listen_140 fl_RX10_71 (hp_get (κ := 10) (by decide)) rfl ?_
          refine x_bipush (v := 64) dX10_listen_143 (by decide) ?_
          refine x_iload_n dX10_listen_145 rfl ?_
          refine x_imul dX10_listen_146 ?_
          refine x_iload_n dX10_listen_147 rfl ?_
          refine x_iadd dX10_listen_148 ?_
          refine x_eqi (ix64 _ _) ?_
          refine x_iconst (v := 1) dX10_listen_149 (by decide) ?_
          refine y_zastM (f := 24) (κ := 54) dX10_listen_150 am_24 rfl (by first | omega | exact sl16_lt _ | assumption) (by decide) (by first | decide | exact bI_nar _) ?_
          refine x_aload_n dX10_listen_151 rfl ?_
          refine x_get dX10_listen_152 fl_RX10_74 (hp_get (κ := 10) (by decide)) rfl ?_
          refine x_bipush (v := 64) dX10_listen_155 (by decide) ?_
          refine x_iload_n dX10_listen_157 rfl ?_
          refine x_imul dX10_listen_158 ?_
          refine x_iload_n dX10_listen_159 rfl ?_
          refine x_iadd dX10_listen_160 ?_
          refine x_eqi (ix64 _ _) ?_
          refine x_iload dX10_listen_161 rfl ?_
          refine y_iastM (f := 25) (κ := 55) dX10_listen_163 am_25 rfl (by first | omega | exact sl16_lt _ | assumption) (by decide) ?_
          refine x_goto (tgt := 177) dX10_listen_164 (by decide) ?_
          exact x_rV dX10_listen_177 rfl rfl (by unfold ml_li2; cases hb : ml_lg S i b a <;> first | (exfalso; revert hb; simp [ml_lg, hc84, hc93, hc110, hc124, hc136]; done) | rfl) (by simp) (by simp)
set_option maxRecDepth 100000 in
set_option maxHeartbeats 400000 in
theorem l_mLi1 {X : XS} {d : Nat} {S : St} {i b : Nat} {a e : Int32} (hi : i < 18) (hb : b < 64) : ∀ c j, j + c = 64 → Ex X mX10_listen false (d + 1) 51 [some (.ref (ad 10 0)), some (.int (nI i)), some (.int a), some (.int (nI b)), some (.int e), some (.int (nI j))] [] (hp (mcl S i j)) 0 0 (.inl none, hp (ml_li2 (mcl S i 64) i b a e), 0, 0) := by
  intro c
  induction c with
  | zero =>
    intro j hj
    have hj6 : j = 64 := by omega
    subst hj6
    refine x_iload dX10_listen_51 rfl ?_
    refine x_bipush (v := 64) dX10_listen_53 (by decide) ?_
    refine x_icmp_ge (tgt := 77) dX10_listen_55 (by decide) (fun hc55 => ?_) (fun hc55 => by first | exact absurd (by decide) hc55 | exact absurd hc55 (by decide))
    exact l_mLi2 hi hb
  | succ c ih =>
    intro j hj
    refine x_iload dX10_listen_51 rfl ?_
    refine x_bipush (v := 64) dX10_listen_53 (by decide) ?_
    refine x_icmp_ge (tgt := 77) dX10_listen_55 (by decide) (fun hc55 => by first | exact absurd hc55 (nI_ge (b := 64) (by omega) (by decide)) | exact absurd (nI_ge (b := 64) (by omega) (by decide)) hc55) (fun hc55 => ?_)
    refine x_aload_n dX10_listen_58 rfl ?_
    refine x_get dX10_listen_59 fl_RX10_71 (hp_get (κ := 10) (by decide)) rfl ?_
    refine x_bipush (v := 64) dX10_listen_62 (by decide) ?_
    refine x_iload_n dX10_listen_64 rfl ?_
    refine x_imul dX10_listen_65 ?_
    refine x_iload dX10_listen_66 rfl ?_
    refine x_iadd dX10_listen_68 ?_
    refine x_eqi (ix64 _ _) ?_
    refine x_iconst (v := 0) dX10_listen_69 (by decide) ?_
    refine y_zastM (f := 24) (κ := 54) dX10_listen_70 am_24 rfl (by first | omega | exact sl16_lt _ | assumption) (by decide) (by first | decide | exact bI_nar _) ?_
    refine x_iinc (v := _ + 1) (lv' := [_, _, _, _, _, _]) dX10_listen_71 rfl rfl (by decide) rfl ?_
    refine x_goto (tgt := 51) dX10_listen_74 (by decide) ?_
    rw [nI_1]
    refine x_heq (S2 := mcl S i (j + 1)) mcl_s ?_
    exact ih (j + 1) (by omega)
set_option maxRecDepth 100000 in
set_option maxHeartbeats 400000 in
theorem c_mListen {X : XS} {d : Nat} {S : St} {i b : Nat} (hi : i < 18) (hb : b < 64) (a e : Int32) : Call X mX10_listen false (d + 1) [.ref (ad 10 0), .int (nI i), .int a, .int (nI b), .int e] (hp S) (.inl none, hp (ml_li S i b a e), 0, 0) := by
  refine Call.of fX10_listen (by decide) rfl (by simp [Value.category]) (Nat.le_of_ble_eq_true rfl) (lv := [some (.ref (ad 10 0)), some (.int (nI i)), some (.int a), some (.int (nI b)), some (.int e), none]) rfl ?_
  refine x_iload_n dX10_listen_0 rfl ?_
  refine x_aload_n dX10_listen_1 rfl ?_
  refine x_get dX10_listen_2 fl_RX10_44 (hp_get (κ := 10) (by decide)) rfl ?_
  refine x_iload_n dX10_listen_5 rfl ?_
  refine y_ialdM (f := 15) (κ := 45) dX10_listen_6 am_15 rfl (by first | omega | exact sl16_lt _ | assumption) (by decide) ?_
  refine x_icmp_le (tgt := 77) dX10_listen_7 (by decide) (fun hc7 => ?_) (fun hc7 => ?_)
  · unfold ml_li
    rw [if_pos hc7]
    exact l_mLi2 hi hb
  · refine x_aload_n dX10_listen_10 rfl ?_
    refine x_get dX10_listen_11 fl_RX10_44 (hp_get (κ := 10) (by decide)) rfl ?_
    refine x_iload_n dX10_listen_14 rfl ?_
    refine x_iload_n dX10_listen_15 rfl ?_
    refine y_iastM (f := 15) (κ := 45) dX10_listen_16 am_15 rfl (by first | omega | exact sl16_lt _ | assumption) (by decide) ?_
    refine x_aload_n dX10_listen_17 rfl ?_
    refine x_get dX10_listen_18 fl_RX10_47 (hp_get (κ := 10) (by decide)) rfl ?_
    refine x_iload_n dX10_listen_21 rfl ?_
    refine x_iconst (v := 1) dX10_listen_22 (by decide) ?_
    refine y_zastM (f := 16) (κ := 46) dX10_listen_23 am_16 rfl (by first | omega | exact sl16_lt _ | assumption) (by decide) (by first | decide | exact bI_nar _) ?_
    refine x_aload_n dX10_listen_24 rfl ?_
    refine x_get dX10_listen_25 fl_RX10_50 (hp_get (κ := 10) (by decide)) rfl ?_
    refine x_iload_n dX10_listen_28 rfl ?_
    refine x_iload_n dX10_listen_29 rfl ?_
    refine y_iastM (f := 17) (κ := 47) dX10_listen_30 am_17 rfl (by first | omega | exact sl16_lt _ | assumption) (by decide) ?_
    refine x_aload_n dX10_listen_31 rfl ?_
    refine x_get dX10_listen_32 fl_RX10_53 (hp_get (κ := 10) (by decide)) rfl ?_
    refine x_iload_n dX10_listen_35 rfl ?_
    refine x_aload_n dX10_listen_36 rfl ?_
    refine x_get dX10_listen_37 fl_RX10_179 (hp_get (κ := 10) (by decide)) rfl ?_
    refine y_iastM (f := 18) (κ := 48) dX10_listen_40 am_18 rfl (by first | omega | exact sl16_lt _ | assumption) (by decide) ?_
    refine x_aload_n dX10_listen_41 rfl ?_
    refine x_get dX10_listen_42 fl_RX10_56 (hp_get (κ := 10) (by decide)) rfl ?_
    refine x_iload_n dX10_listen_45 rfl ?_
    refine x_iconst (v := 0) dX10_listen_46 (by decide) ?_
    refine y_iastM (f := 19) (κ := 49) dX10_listen_47 am_19 rfl (by first | omega | exact sl16_lt _ | assumption) (by decide) ?_
    refine x_iconst (v := 0) dX10_listen_48 (by decide) ?_
    refine x_istore (lv' := [_, _, _, _, _, _]) dX10_listen_49 (by decide) rfl ?_
    refine x_heq (S2 := mcl (ml_bg0 S i a (nI b)) i 0) rfl ?_
    unfold ml_li
    rw [if_neg hc7]
    exact l_mLi1 hi hb 64 0 (by omega)
def mh_m (S : St) (i : Nat) (a : Int32) : Bool := wi (S.2.2.1 7 i) 1 2 && decide (a = S.2.2.1 8 i)
def mh_t (S : St) (i : Nat) (a : Int32) : Bool := decide (S.2.2.1 7 i = 3) && decide (a = S.2.2.1 11 i)
def mh_e (S : St) (i : Nat) (a : Int32) : Bool := decide (S.2.2.1 7 i = 4) && decide (a = S.2.2.1 11 i)
def ml_hr (S : St) (i kd b : Nat) (a x c : Int32) : St := if kd = 3 then (if mh_m S i a = true then sm (sm (sm S 7 i 3) 11 i x) 12 i 0 else S) else if kd = 4 then (if mh_m S i a = true then sm (sm S 7 i 2) 10 i x else S) else if kd = 5 then (if mh_m S i a = true then sm S 7 i 0 else S) else if kd = 6 then (if mh_t S i a = true then sm S 7 i 4 else S) else if kd = 7 then (if mh_t S i a = true ∨ mh_e S i a = true then sm S 7 i 0 else S) else if kd = 8 then (if a < S.2.2.1 13 i then S else sm (sm S 13 i a) 14 i x) else ml_li S i b a c
def ml_hear (S : St) (i kd b : Nat) (a x c : Int32) : St := if S.2.2.1 5 i = 0 then S else ml_hr S i kd b a x c
set_option maxRecDepth 100000 in
set_option maxHeartbeats 400000 in
theorem l_mh3 {X : XS} {d : Nat} {S : St} {g m : Nat} {kd v x e : Int32} {r : Rs} {x10 : Option Value} (hg : g < 3) (hm : m < 6) (kk : Ex X mX10_memberHears false (d + 2) 113 [some (.ref (ad 10 0)), some (.int kd), some (.int (nI g)), some (.int (nI m)), some (.int v), some (.int x), some (.int e), some (.int (nI (6 * g + m))), some (.int (bI (mh_m S (6 * g + m) v))), some (.int (bI (mh_t S (6 * g + m) v))), some (.int (bI (mh_e S (6 * g + m) v)))] [] (hp S) 0 0 r) : Ex X mX10_memberHears false (d + 2) 83 [some (.ref (ad 10 0)), some (.int kd), some (.int (nI g)), some (.int (nI m)), some (.int v), some (.int x), some (.int e), some (.int (nI (6 * g + m))), some (.int (bI (mh_m S (6 * g + m) v))), some (.int (bI (mh_t S (6 * g + m) v))), x10] [] (hp S) 0 0 r := by
  refine x_aload_n dX10_memberHears_83 rfl ?_
  refine x_get dX10_memberHears_84 fl_RX10_20 (hp_get (κ := 10) (by decide)) rfl ?_
  refine x_iload dX10_memberHears_87 rfl ?_
  refine y_ialdM (f := 7) (κ := 37) dX10_memberHears_89 am_7 rfl (by first | omega | exact sl16_lt _ | assumption) (by decide) ?_
  refine x_iconst (v := 4) dX10_memberHears_90 (by decide) ?_
  refine x_icmp_ne (tgt := 110) dX10_memberHears_91 (by decide) (fun hc91 => ?_) (fun hc91 => ?_)
  · refine x_iconst (v := 0) dX10_memberHears_110 (by decide) ?_
    refine x_eqi (y := bI (mh_e S (6 * g + m) v)) (by simp [bI, mh_e, hc91]) ?_
    refine x_istore (lv' := [_, _, _, _, _, _, _, _, _, _, _]) dX10_memberHears_111 (by decide) rfl ?_
    exact kk
  · refine x_iload dX10_memberHears_94 rfl ?_
    refine x_aload_n dX10_memberHears_96 rfl ?_
    refine x_get dX10_memberHears_97 fl_RX10_32 (hp_get (κ := 10) (by decide)) rfl ?_
    refine x_iload dX10_memberHears_100 rfl ?_
    refine y_ialdM (f := 11) (κ := 41) dX10_memberHears_102 am_11 rfl (by first | omega | exact sl16_lt _ | assumption) (by decide) ?_
    refine x_icmp_ne (tgt := 110) dX10_memberHears_103 (by decide) (fun hc103 => ?_) (fun hc103 => ?_)
    · refine x_iconst (v := 0) dX10_memberHears_110 (by decide) ?_
      refine x_eqi (y := bI (mh_e S (6 * g + m) v)) (by simp [bI, mh_e, hc91, hc103]) ?_
      refine x_istore (lv' := [_, _, _, _, _, _, _, _, _, _, _]) dX10_memberHears_111 (by decide) rfl ?_
      exact kk
    · refine x_iconst (v := 1) dX10_memberHears_106 (by decide) ?_
      refine x_goto (tgt := 111) dX10_memberHears_107 (by decide) ?_
      refine x_eqi (y := bI (mh_e S (6 * g + m) v)) (by simp [bI, mh_e, hc91, hc103]) ?_
      refine x_istore (lv' := [_, _, _, _, _, _, _, _, _, _, _]) dX10_memberHears_111 (by decide) rfl ?_
      exact kk
set_option maxRecDepth 100000 in
set_option maxHeartbeats 400000 in
theorem l_mh2 {X : XS} {d : Nat} {S : St} {g m : Nat} {kd v x e : Int32} {r : Rs} {x9 x10 : Option Value} (hg : g < 3) (hm : m < 6) (kk : Ex X mX10_memberHears false (d + 2) 83 [some (.ref (ad 10 0)), some (.int kd), some (.int (nI g)), some (.int (nI m)), some (.int v), some (.int x), some (.int e), some (.int (nI (6 * g + m))), some (.int (bI (mh_m S (6 * g + m) v))), some (.int (bI (mh_t S (6 * g + m) v))), x10] [] (hp S) 0 0 r) : Ex X mX10_memberHears false (d + 2) 53 [some (.ref (ad 10 0)), some (.int kd), some (.int (nI g)), some (.int (nI m)), some (.int v), some (.int x), some (.int e), some (.int (nI (6 * g + m))), some (.int (bI (mh_m S (6 * g + m) v))), x9, x10] [] (hp S) 0 0 r := by
  refine x_aload_n dX10_memberHears_53 rfl ?_
  refine x_get dX10_memberHears_54 fl_RX10_20 (hp_get (κ := 10) (by decide)) rfl ?_
  refine x_iload dX10_memberHears_57 rfl ?_
  refine y_ialdM (f := 7) (κ := 37) dX10_memberHears_59 am_7 rfl (by first | omega | exact sl16_lt _ | assumption) (by decide) ?_
  refine x_iconst (v := 3) dX10_memberHears_60 (by decide) ?_
  refine x_icmp_ne (tgt := 80) dX10_memberHears_61 (by decide) (fun hc61 => ?_) (fun hc61 => ?_)
  · refine x_iconst (v := 0) dX10_memberHears_80 (by decide) ?_
    refine x_eqi (y := bI (mh_t S (6 * g + m) v)) (by simp [bI, mh_t, hc61]) ?_
    refine x_istore (lv' := [_, _, _, _, _, _, _, _, _, _, _]) dX10_memberHears_81 (by decide) rfl ?_
    exact kk
  · refine x_iload dX10_memberHears_64 rfl ?_
    refine x_aload_n dX10_memberHears_66 rfl ?_
    refine x_get dX10_memberHears_67 fl_RX10_32 (hp_get (κ := 10) (by decide)) rfl ?_
    refine x_iload dX10_memberHears_70 rfl ?_
    refine y_ialdM (f := 11) (κ := 41) dX10_memberHears_72 am_11 rfl (by first | omega | exact sl16_lt _ | assumption) (by decide) ?_
    refine x_icmp_ne (tgt := 80) dX10_memberHears_73 (by decide) (fun hc73 => ?_) (fun hc73 => ?_)
    · refine x_iconst (v := 0) dX10_memberHears_80 (by decide) ?_
      refine x_eqi (y := bI (mh_t S (6 * g + m) v)) (by simp [bI, mh_t, hc61, hc73]) ?_
      refine x_istore (lv' := [_, _, _, _, _, _, _, _, _, _, _]) dX10_memberHears_81 (by decide) rfl ?_
      exact kk
    · refine x_iconst (v := 1) dX10_memberHears_76 (by decide) ?_
      refine x_goto (tgt := 81) dX10_memberHears_77 (by decide) ?_
      refine x_eqi (y := bI (mh_t S (6 * g + m) v)) (by simp [bI, mh_t, hc61, hc73]) ?_
      refine x_istore (lv' := [_, _, _, _, _, _, _, _, _, _, _]) dX10_memberHears_81 (by decide) rfl ?_
      exact kk
set_option maxRecDepth 100000 in
set_option maxHeartbeats 400000 in
theorem l_mh1 {X : XS} {d : Nat} {S : St} {g m : Nat} {kd v x e : Int32} {r : Rs} {x8 x9 x10 : Option Value} (hg : g < 3) (hm : m < 6) (kk : Ex X mX10_memberHears false (d + 2) 53 [some (.ref (ad 10 0)), some (.int kd), some (.int (nI g)), some (.int (nI m)), some (.int v), some (.int x), some (.int e), some (.int (nI (6 * g + m))), some (.int (bI (mh_m S (6 * g + m) v))), x9, x10] [] (hp S) 0 0 r) : Ex X mX10_memberHears false (d + 2) 19 [some (.ref (ad 10 0)), some (.int kd), some (.int (nI g)), some (.int (nI m)), some (.int v), some (.int x), some (.int e), some (.int (nI (6 * g + m))), x8, x9, x10] [] (hp S) 0 0 r := by
  refine x_aload_n dX10_memberHears_19 rfl ?_
  refine x_get dX10_memberHears_20 fl_RX10_20 (hp_get (κ := 10) (by decide)) rfl ?_
  refine x_iload dX10_memberHears_23 rfl ?_
  refine y_ialdM (f := 7) (κ := 37) dX10_memberHears_25 am_7 rfl (by first | omega | exact sl16_lt _ | assumption) (by decide) ?_
  refine x_iconst (v := 1) dX10_memberHears_26 (by decide) ?_
  refine x_iconst (v := 2) dX10_memberHears_27 (by decide) ?_
  refine x_cS (as := [_, _, _]) dX10_memberHears_28 fX10_within rfl lk_RX10_150 rfl (Nat.le_of_ble_eq_true rfl) (c_within _ _ _) (by simp) (by simp) ?_
  refine x_if_eqB (tgt := 50) dX10_memberHears_31 (by decide) (fun hc31 => ?_) (fun hc31 => ?_)
  · refine x_iconst (v := 0) dX10_memberHears_50 (by decide) ?_
    refine x_eqi (y := bI (mh_m S (6 * g + m) v)) (by simp [bI, mh_m, hc31]) ?_
    refine x_istore (lv' := [_, _, _, _, _, _, _, _, _, _, _]) dX10_memberHears_51 (by decide) rfl ?_
    exact kk
  · refine x_iload dX10_memberHears_34 rfl ?_
    refine x_aload_n dX10_memberHears_36 rfl ?_
    refine x_get dX10_memberHears_37 fl_RX10_23 (hp_get (κ := 10) (by decide)) rfl ?_
    refine x_iload dX10_memberHears_40 rfl ?_
    refine y_ialdM (f := 8) (κ := 38) dX10_memberHears_42 am_8 rfl (by first | omega | exact sl16_lt _ | assumption) (by decide) ?_
    refine x_icmp_ne (tgt := 50) dX10_memberHears_43 (by decide) (fun hc43 => ?_) (fun hc43 => ?_)
    · refine x_iconst (v := 0) dX10_memberHears_50 (by decide) ?_
      refine x_eqi (y := bI (mh_m S (6 * g + m) v)) (by simp [bI, mh_m, hc31, hc43]) ?_
      refine x_istore (lv' := [_, _, _, _, _, _, _, _, _, _, _]) dX10_memberHears_51 (by decide) rfl ?_
      exact kk
    · refine x_iconst (v := 1) dX10_memberHears_46 (by decide) ?_
      refine x_goto (tgt := 51) dX10_memberHears_47 (by decide) ?_
      refine x_eqi (y := bI (mh_m S (6 * g + m) v)) (by simp [bI, mh_m, hc31, hc43]) ?_
      refine x_istore (lv' := [_, _, _, _, _, _, _, _, _, _, _]) dX10_memberHears_51 (by decide) rfl ?_
      exact kk
set_option maxRecDepth 100000 in
set_option maxHeartbeats 400000 in
theorem l_mh4_3 {X : XS} {d : Nat} {S : St} {g m : Nat} {v x e : Int32} (hg : g < 3) (hm : m < 6) {b : Nat} : Ex X mX10_memberHears false (d + 2) 113 [some (.ref (ad 10 0)), some (.int 3), some (.int (nI g)), some (.int (nI m)), some (.int v), some (.int x), some (.int e), some (.int (nI (6 * g + m))), some (.int (bI (mh_m S (6 * g + m) v))), some (.int (bI (mh_t S (6 * g + m) v))), some (.int (bI (mh_e S (6 * g + m) v)))] [] (hp S) 0 0 (.inl none, hp (ml_hr S (6 * g + m) 3 b v x e), 0, 0) := by
  refine x_iload_n dX10_memberHears_113 rfl ?_
  refine x_iconst (v := 3) dX10_memberHears_114 (by decide) ?_
  refine x_icmp_ne (tgt := 151) dX10_memberHears_115 (by decide) (fun hc115 => by first | exact absurd hc115 (by decide) | exact absurd (by decide) hc115) (fun hc115 => ?_)
  refine x_iload dX10_memberHears_118 rfl ?_
  refine x_if_eqB (tgt := 151) dX10_memberHears_120 (by decide) (fun hc120 => ?_) (fun hc120 => ?_)
  · refine x_iload_n dX10_memberHears_151 rfl ?_
    refine x_iconst (v := 4) dX10_memberHears_152 (by decide) ?_
    refine x_icmp_ne (tgt := 181) dX10_memberHears_153 (by decide) (fun hc153 => ?_) (fun hc153 => by first | exact absurd (by decide) hc153 | exact absurd hc153 (by decide))
    refine x_iload_n dX10_memberHears_181 rfl ?_
    refine x_iconst (v := 5) dX10_memberHears_182 (by decide) ?_
    refine x_icmp_ne (tgt := 202) dX10_memberHears_183 (by decide) (fun hc183 => ?_) (fun hc183 => by first | exact absurd (by decide) hc183 | exact absurd hc183 (by decide))
    refine x_iload_n dX10_memberHears_202 rfl ?_
    refine x_bipush (v := 6) dX10_memberHears_203 (by decide) ?_
    refine x_icmp_ne (tgt := 224) dX10_memberHears_205 (by decide) (fun hc205 => ?_) (fun hc205 => by first | exact absurd (by decide) hc205 | exact absurd hc205 (by decide))
    refine x_iload_n dX10_memberHears_224 rfl ?_
    refine x_bipush (v := 7) dX10_memberHears_225 (by decide) ?_
    refine x_icmp_ne (tgt := 251) dX10_memberHears_227 (by decide) (fun hc227 => ?_) (fun hc227 => by first | exact absurd (by decide) hc227 | exact absurd hc227 (by decide))
    refine x_iload_n dX10_memberHears_251 rfl ?_
    refine x_bipush (v := 8) dX10_memberHears_252 (by decide) ?_
    refine x_icmp_ne (tgt := 290) dX10_memberHears_254 (by decide) (fun hc254 => ?_) (fun hc254 => by first | exact absurd (by decide) hc254 | exact absurd hc254 (by decide))
    refine x_iload_n dX10_memberHears_290 rfl ?_
    refine x_bipush (v := 9) dX10_memberHears_291 (by decide) ?_
    refine x_icmp_ne (tgt := 308) dX10_memberHears_293 (by decide) (fun hc293 => ?_) (fun hc293 => by first | exact absurd (by decide) hc293 | exact absurd hc293 (by decide))
    exact x_rV dX10_memberHears_308 rfl rfl (by unfold ml_hr; simp [hc120]) (by simp) (by simp)
  · refine x_aload_n dX10_memberHears_123 rfl ?_
    refine x_get dX10_memberHears_124 fl_RX10_20 (hp_get (κ := 10) (by decide)) rfl ?_
    refine x_iload dX10_memberHears_127 rfl ?_
    refine x_iconst (v := 3) dX10_memberHears_129 (by decide) ?_
    refine y_iastM (f := 7) (κ := 37) dX10_memberHears_130 am_7 rfl (by first | omega | exact sl16_lt _ | assumption) (by decide) ?_
    refine x_aload_n dX10_memberHears_131 rfl ?_
    refine x_get dX10_memberHears_132 fl_RX10_32 (hp_get (κ := 10) (by decide)) rfl ?_
    refine x_iload dX10_memberHears_135 rfl ?_
    refine x_iload dX10_memberHears_137 rfl ?_
    refine y_iastM (f := 11) (κ := 41) dX10_memberHears_139 am_11 rfl (by first | omega | exact sl16_lt _ | assumption) (by decide) ?_
    refine x_aload_n dX10_memberHears_140 rfl ?_
    refine x_get dX10_memberHears_141 fl_RX10_35 (hp_get (κ := 10) (by decide)) rfl ?_
    refine x_iload dX10_memberHears_144 rfl ?_
    refine x_iconst (v := 0) dX10_memberHears_146 (by decide) ?_
    refine y_iastM (f := 12) (κ := 42) dX10_memberHears_147 am_12 rfl (by first | omega | exact sl16_lt _ | assumption) (by decide) ?_
    refine x_goto (tgt := 308) dX10_memberHears_148 (by decide) ?_
    exact x_rV dX10_memberHears_308 rfl rfl (by unfold ml_hr; simp [hc120]) (by simp) (by simp)
set_option maxRecDepth 100000 in
set_option maxHeartbeats 400000 in
theorem c_mHear_3 {X : XS} {d : Nat} {S : St} {g m : Nat} (hg : g < 3) (hm : m < 6) {v x e : Int32} {b : Nat} : Call X mX10_memberHears false (d + 2) [.ref (ad 10 0), .int 3, .int (nI g), .int (nI m), .int v, .int x, .int e] (hp S) (.inl none, hp (ml_hear S (6 * g + m) 3 b v x e), 0, 0) := by
  refine Call.of fX10_memberHears (by decide) rfl (by simp [Value.category]) (Nat.le_of_ble_eq_true rfl) (lv := [some (.ref (ad 10 0)), some (.int 3), some (.int (nI g)), some (.int (nI m)), some (.int v), some (.int x), some (.int e), none, none, none, none]) rfl ?_
  refine x_bipush (v := 6) dX10_memberHears_0 (by decide) ?_
  refine x_iload_n dX10_memberHears_2 rfl ?_
  refine x_imul dX10_memberHears_3 ?_
  refine x_iload_n dX10_memberHears_4 rfl ?_
  refine x_iadd dX10_memberHears_5 ?_
  refine x_eqi (ix6 _ _) ?_
  refine x_istore (lv' := [_, _, _, _, _, _, _, _, _, _, _]) dX10_memberHears_6 (by decide) rfl ?_
  refine x_aload_n dX10_memberHears_8 rfl ?_
  refine x_get dX10_memberHears_9 fl_RX10_13 (hp_get (κ := 10) (by decide)) rfl ?_
  refine x_iload dX10_memberHears_12 rfl ?_
  refine y_zaldM (f := 5) (κ := 35) dX10_memberHears_14 am_5 rfl (by first | omega | exact sl16_lt _ | assumption) (by decide) ?_
  refine x_if_ne (tgt := 19) dX10_memberHears_15 (by decide) (fun hc15 => ?_) (fun hc15 => ?_)
  · unfold ml_hear
    rw [if_neg hc15]
    exact l_mh1 hg hm (l_mh2 hg hm (l_mh3 hg hm (l_mh4_3 hg hm)))
  · exact x_rV dX10_memberHears_18 rfl rfl (by unfold ml_hear; rw [if_pos hc15]) (by simp) (by simp)
set_option maxRecDepth 100000 in
set_option maxHeartbeats 400000 in
theorem l_mh4_4 {X : XS} {d : Nat} {S : St} {g m : Nat} {v x e : Int32} (hg : g < 3) (hm : m < 6) {b : Nat} : Ex X mX10_memberHears false (d + 2) 113 [some (.ref (ad 10 0)), some (.int 4), some (.int (nI g)), some (.int (nI m)), some (.int v), some (.int x), some (.int e), some (.int (nI (6 * g + m))), some (.int (bI (mh_m S (6 * g + m) v))), some (.int (bI (mh_t S (6 * g + m) v))), some (.int (bI (mh_e S (6 * g + m) v)))] [] (hp S) 0 0 (.inl none, hp (ml_hr S (6 * g + m) 4 b v x e), 0, 0) := by
  refine x_iload_n dX10_memberHears_113 rfl ?_
  refine x_iconst (v := 3) dX10_memberHears_114 (by decide) ?_
  refine x_icmp_ne (tgt := 151) dX10_memberHears_115 (by decide) (fun hc115 => ?_) (fun hc115 => by first | exact absurd (by decide) hc115 | exact absurd hc115 (by decide))
  refine x_iload_n dX10_memberHears_151 rfl ?_
  refine x_iconst (v := 4) dX10_memberHears_152 (by decide) ?_
  refine x_icmp_ne (tgt := 181) dX10_memberHears_153 (by decide) (fun hc153 => by first | exact absurd hc153 (by decide) | exact absurd (by decide) hc153) (fun hc153 => ?_)
  refine x_iload dX10_memberHears_156 rfl ?_
  refine x_if_eqB (tgt := 181) dX10_memberHears_158 (by decide) (fun hc158 => ?_) (fun hc158 => ?_)
  · refine x_iload_n dX10_memberHears_181 rfl ?_
    refine x_iconst (v := 5) dX10_memberHears_182 (by decide) ?_
    refine x_icmp_ne (tgt := 202) dX10_memberHears_183 (by decide) (fun hc183 => ?_) (fun hc183 => by first | exact absurd (by decide) hc183 | exact absurd hc183 (by decide))
    refine x_iload_n dX10_memberHears_202 rfl ?_
    refine x_bipush (v := 6) dX10_memberHears_203 (by decide) ?_
    refine x_icmp_ne (tgt := 224) dX10_memberHears_205 (by decide) (fun hc205 => ?_) (fun hc205 => by first | exact absurd (by decide) hc205 | exact absurd hc205 (by decide))
    refine x_iload_n dX10_memberHears_224 rfl ?_
    refine x_bipush (v := 7) dX10_memberHears_225 (by decide) ?_
    refine x_icmp_ne (tgt := 251) dX10_memberHears_227 (by decide) (fun hc227 => ?_) (fun hc227 => by first | exact absurd (by decide) hc227 | exact absurd hc227 (by decide))
    refine x_iload_n dX10_memberHears_251 rfl ?_
    refine x_bipush (v := 8) dX10_memberHears_252 (by decide) ?_
    refine x_icmp_ne (tgt := 290) dX10_memberHears_254 (by decide) (fun hc254 => ?_) (fun hc254 => by first | exact absurd (by decide) hc254 | exact absurd hc254 (by decide))
    refine x_iload_n dX10_memberHears_290 rfl ?_
    refine x_bipush (v := 9) dX10_memberHears_291 (by decide) ?_
    refine x_icmp_ne (tgt := 308) dX10_memberHears_293 (by decide) (fun hc293 => ?_) (fun hc293 => by first | exact absurd (by decide) hc293 | exact absurd hc293 (by decide))
    exact x_rV dX10_memberHears_308 rfl rfl (by unfold ml_hr; simp [hc158]) (by simp) (by simp)
  · refine x_aload_n dX10_memberHears_161 rfl ?_
    refine x_get dX10_memberHears_162 fl_RX10_20 (hp_get (κ := 10) (by decide)) rfl ?_
    refine x_iload dX10_memberHears_165 rfl ?_
    refine x_iconst (v := 2) dX10_memberHears_167 (by decide) ?_
    refine y_iastM (f := 7) (κ := 37) dX10_memberHears_168 am_7 rfl (by first | omega | exact sl16_lt _ | assumption) (by decide) ?_
    refine x_aload_n dX10_memberHears_169 rfl ?_
    refine x_get dX10_memberHears_170 fl_RX10_29 (hp_get (κ := 10) (by decide)) rfl ?_
    refine x_iload dX10_memberHears_173 rfl ?_
    refine x_iload dX10_memberHears_175 rfl ?_
    refine y_iastM (f := 10) (κ := 40) dX10_memberHears_177 am_10 rfl (by first | omega | exact sl16_lt _ | assumption) (by decide) ?_
    refine x_goto (tgt := 308) dX10_memberHears_178 (by decide) ?_
    exact x_rV dX10_memberHears_308 rfl rfl (by unfold ml_hr; simp [hc158]) (by simp) (by simp)
set_option maxRecDepth 100000 in
set_option maxHeartbeats 400000 in
theorem c_mHear_4 {X : XS} {d : Nat} {S : St} {g m : Nat} (hg : g < 3) (hm : m < 6) {v x e : Int32} {b : Nat} : Call X mX10_memberHears false (d + 2) [.ref (ad 10 0), .int 4, .int (nI g), .int (nI m), .int v, .int x, .int e] (hp S) (.inl none, hp (ml_hear S (6 * g + m) 4 b v x e), 0, 0) := by
  refine Call.of fX10_memberHears (by decide) rfl (by simp [Value.category]) (Nat.le_of_ble_eq_true rfl) (lv := [some (.ref (ad 10 0)), some (.int 4), some (.int (nI g)), some (.int (nI m)), some (.int v), some (.int x), some (.int e), none, none, none, none]) rfl ?_
  refine x_bipush (v := 6) dX10_memberHears_0 (by decide) ?_
  refine x_iload_n dX10_memberHears_2 rfl ?_
  refine x_imul dX10_memberHears_3 ?_
  refine x_iload_n dX10_memberHears_4 rfl ?_
  refine x_iadd dX10_memberHears_5 ?_
  refine x_eqi (ix6 _ _) ?_
  refine x_istore (lv' := [_, _, _, _, _, _, _, _, _, _, _]) dX10_memberHears_6 (by decide) rfl ?_
  refine x_aload_n dX10_memberHears_8 rfl ?_
  refine x_get dX10_memberHears_9 fl_RX10_13 (hp_get (κ := 10) (by decide)) rfl ?_
  refine x_iload dX10_memberHears_12 rfl ?_
  refine y_zaldM (f := 5) (κ := 35) dX10_memberHears_14 am_5 rfl (by first | omega | exact sl16_lt _ | assumption) (by decide) ?_
  refine x_if_ne (tgt := 19) dX10_memberHears_15 (by decide) (fun hc15 => ?_) (fun hc15 => ?_)
  · unfold ml_hear
    rw [if_neg hc15]
    exact l_mh1 hg hm (l_mh2 hg hm (l_mh3 hg hm (l_mh4_4 hg hm)))
  · exact x_rV dX10_memberHears_18 rfl rfl (by unfold ml_hear; rw [if_pos hc15]) (by simp) (by simp)
set_option maxRecDepth 100000 in
set_option maxHeartbeats 400000 in
theorem l_mh4_5 {X : XS} {d : Nat} {S : St} {g m : Nat} {v x e : Int32} (hg : g < 3) (hm : m < 6) {b : Nat} : Ex X mX10_memberHears false (d + 2) 113 [some (.ref (ad 10 0)), some (.int 5), some (.int (nI g)), some (.int (nI m)), some (.int v), some (.int x), some (.int e), some (.int (nI (6 * g + m))), some (.int (bI (mh_m S (6 * g + m) v))), some (.int (bI (mh_t S (6 * g + m) v))), some (.int (bI (mh_e S (6 * g + m) v)))] [] (hp S) 0 0 (.inl none, hp (ml_hr S (6 * g + m) 5 b v x e), 0, 0) := by
  refine x_iload_n dX10_memberHears_113 rfl ?_
  refine x_iconst (v := 3) dX10_memberHears_114 (by decide) ?_
  refine x_icmp_ne (tgt := 151) dX10_memberHears_115 (by decide) (fun hc115 => ?_) (fun hc115 => by first | exact absurd (by decide) hc115 | exact absurd hc115 (by decide))
  refine x_iload_n dX10_memberHears_151 rfl ?_
  refine x_iconst (v := 4) dX10_memberHears_152 (by decide) ?_
  refine x_icmp_ne (tgt := 181) dX10_memberHears_153 (by decide) (fun hc153 => ?_) (fun hc153 => by first | exact absurd (by decide) hc153 | exact absurd hc153 (by decide))
  refine x_iload_n dX10_memberHears_181 rfl ?_
  refine x_iconst (v := 5) dX10_memberHears_182 (by decide) ?_
  refine x_icmp_ne (tgt := 202) dX10_memberHears_183 (by decide) (fun hc183 => by first | exact absurd hc183 (by decide) | exact absurd (by decide) hc183) (fun hc183 => ?_)
  refine x_iload dX10_memberHears_186 rfl ?_
  refine x_if_eqB (tgt := 202) dX10_memberHears_188 (by decide) (fun hc188 => ?_) (fun hc188 => ?_)
  · refine x_iload_n dX10_memberHears_202 rfl ?_
    refine x_bipush (v := 6) dX10_memberHears_203 (by decide) ?_
    refine x_icmp_ne (tgt := 224) dX10_memberHears_205 (by decide) (fun hc205 => ?_) (fun hc205 => by first | exact absurd (by decide) hc205 | exact absurd hc205 (by decide))
    refine x_iload_n dX10_memberHears_224 rfl ?_
    refine x_bipush (v := 7) dX10_memberHears_225 (by decide) ?_
    refine x_icmp_ne (tgt := 251) dX10_memberHears_227 (by decide) (fun hc227 => ?_) (fun hc227 => by first | exact absurd (by decide) hc227 | exact absurd hc227 (by decide))
    refine x_iload_n dX10_memberHears_251 rfl ?_
    refine x_bipush (v := 8) dX10_memberHears_252 (by decide) ?_
    refine x_icmp_ne (tgt := 290) dX10_memberHears_254 (by decide) (fun hc254 => ?_) (fun hc254 => by first | exact absurd (by decide) hc254 | exact absurd hc254 (by decide))
    refine x_iload_n dX10_memberHears_290 rfl ?_
    refine x_bipush (v := 9) dX10_memberHears_291 (by decide) ?_
    refine x_icmp_ne (tgt := 308) dX10_memberHears_293 (by decide) (fun hc293 => ?_) (fun hc293 => by first | exact absurd (by decide) hc293 | exact absurd hc293 (by decide))
    exact x_rV dX10_memberHears_308 rfl rfl (by unfold ml_hr; simp [hc188]) (by simp) (by simp)
  · refine x_aload_n dX10_memberHears_191 rfl ?_
    refine x_get dX10_memberHears_192 fl_RX10_20 (hp_get (κ := 10) (by decide)) rfl ?_
    refine x_iload dX10_memberHears_195 rfl ?_
    refine x_iconst (v := 0) dX10_memberHears_197 (by decide) ?_
    refine y_iastM (f := 7) (κ := 37) dX10_memberHears_198 am_7 rfl (by first | omega | exact sl16_lt _ | assumption) (by decide) ?_
    refine x_goto (tgt := 308) dX10_memberHears_199 (by decide) ?_
    exact x_rV dX10_memberHears_308 rfl rfl (by unfold ml_hr; simp [hc188]) (by simp) (by simp)
set_option maxRecDepth 100000 in
set_option maxHeartbeats 400000 in
theorem c_mHear_5 {X : XS} {d : Nat} {S : St} {g m : Nat} (hg : g < 3) (hm : m < 6) {v x e : Int32} {b : Nat} : Call X mX10_memberHears false (d + 2) [.ref (ad 10 0), .int 5, .int (nI g), .int (nI m), .int v, .int x, .int e] (hp S) (.inl none, hp (ml_hear S (6 * g + m) 5 b v x e), 0, 0) := by
  refine Call.of fX10_memberHears (by decide) rfl (by simp [Value.category]) (Nat.le_of_ble_eq_true rfl) (lv := [some (.ref (ad 10 0)), some (.int 5), some (.int (nI g)), some (.int (nI m)), some (.int v), some (.int x), some (.int e), none, none, none, none]) rfl ?_
  refine x_bipush (v := 6) dX10_memberHears_0 (by decide) ?_
  refine x_iload_n dX10_memberHears_2 rfl ?_
  refine x_imul dX10_memberHears_3 ?_
  refine x_iload_n dX10_memberHears_4 rfl ?_
  refine x_iadd dX10_memberHears_5 ?_
  refine x_eqi (ix6 _ _) ?_
  refine x_istore (lv' := [_, _, _, _, _, _, _, _, _, _, _]) dX10_memberHears_6 (by decide) rfl ?_
  refine x_aload_n dX10_memberHears_8 rfl ?_
  refine x_get dX10_memberHears_9 fl_RX10_13 (hp_get (κ := 10) (by decide)) rfl ?_
  refine x_iload dX10_memberHears_12 rfl ?_
  refine y_zaldM (f := 5) (κ := 35) dX10_memberHears_14 am_5 rfl (by first | omega | exact sl16_lt _ | assumption) (by decide) ?_
  refine x_if_ne (tgt := 19) dX10_memberHears_15 (by decide) (fun hc15 => ?_) (fun hc15 => ?_)
  · unfold ml_hear
    rw [if_neg hc15]
    exact l_mh1 hg hm (l_mh2 hg hm (l_mh3 hg hm (l_mh4_5 hg hm)))
  · exact x_rV dX10_memberHears_18 rfl rfl (by unfold ml_hear; rw [if_pos hc15]) (by simp) (by simp)
set_option maxRecDepth 100000 in
set_option maxHeartbeats 400000 in
theorem l_mh4_6 {X : XS} {d : Nat} {S : St} {g m : Nat} {v x e : Int32} (hg : g < 3) (hm : m < 6) {b : Nat} : Ex X mX10_memberHears false (d + 2) 113 [some (.ref (ad 10 0)), some (.int 6), some (.int (nI g)), some (.int (nI m)), some (.int v), some (.int x), some (.int e), some (.int (nI (6 * g + m))), some (.int (bI (mh_m S (6 * g + m) v))), some (.int (bI (mh_t S (6 * g + m) v))), some (.int (bI (mh_e S (6 * g + m) v)))] [] (hp S) 0 0 (.inl none, hp (ml_hr S (6 * g + m) 6 b v x e), 0, 0) := by
  refine x_iload_n dX10_memberHears_113 rfl ?_
  refine x_iconst (v := 3) dX10_memberHears_114 (by decide) ?_
  refine x_icmp_ne (tgt := 151) dX10_memberHears_115 (by decide) (fun hc115 => ?_) (fun hc115 => by first | exact absurd (by decide) hc115 | exact absurd hc115 (by decide))
  refine x_iload_n dX10_memberHears_151 rfl ?_
  refine x_iconst (v := 4) dX10_memberHears_152 (by decide) ?_
  refine x_icmp_ne (tgt := 181) dX10_memberHears_153 (by decide) (fun hc153 => ?_) (fun hc153 => by first | exact absurd (by decide) hc153 | exact absurd hc153 (by decide))
  refine x_iload_n dX10_memberHears_181 rfl ?_
  refine x_iconst (v := 5) dX10_memberHears_182 (by decide) ?_
  refine x_icmp_ne (tgt := 202) dX10_memberHears_183 (by decide) (fun hc183 => ?_) (fun hc183 => by first | exact absurd (by decide) hc183 | exact absurd hc183 (by decide))
  refine x_iload_n dX10_memberHears_202 rfl ?_
  refine x_bipush (v := 6) dX10_memberHears_203 (by decide) ?_
  refine x_icmp_ne (tgt := 224) dX10_memberHears_205 (by decide) (fun hc205 => by first | exact absurd hc205 (by decide) | exact absurd (by decide) hc205) (fun hc205 => ?_)
  refine x_iload dX10_memberHears_208 rfl ?_
  refine x_if_eqB (tgt := 224) dX10_memberHears_210 (by decide) (fun hc210 => ?_) (fun hc210 => ?_)
  · refine x_iload_n dX10_memberHears_224 rfl ?_
    refine x_bipush (v := 7) dX10_memberHears_225 (by decide) ?_
    refine x_icmp_ne (tgt := 251) dX10_memberHears_227 (by decide) (fun hc227 => ?_) (fun hc227 => by first | exact absurd (by decide) hc227 | exact absurd hc227 (by decide))
    refine x_iload_n dX10_memberHears_251 rfl ?_
    refine x_bipush (v := 8) dX10_memberHears_252 (by decide) ?_
    refine x_icmp_ne (tgt := 290) dX10_memberHears_254 (by decide) (fun hc254 => ?_) (fun hc254 => by first | exact absurd (by decide) hc254 | exact absurd hc254 (by decide))
    refine x_iload_n dX10_memberHears_290 rfl ?_
    refine x_bipush (v := 9) dX10_memberHears_291 (by decide) ?_
    refine x_icmp_ne (tgt := 308) dX10_memberHears_293 (by decide) (fun hc293 => ?_) (fun hc293 => by first | exact absurd (by decide) hc293 | exact absurd hc293 (by decide))
    exact x_rV dX10_memberHears_308 rfl rfl (by unfold ml_hr; simp [hc210]) (by simp) (by simp)
  · refine x_aload_n dX10_memberHears_213 rfl ?_
    refine x_get dX10_memberHears_214 fl_RX10_20 (hp_get (κ := 10) (by decide)) rfl ?_
    refine x_iload dX10_memberHears_217 rfl ?_
    refine x_iconst (v := 4) dX10_memberHears_219 (by decide) ?_
    refine y_iastM (f := 7) (κ := 37) dX10_memberHears_220 am_7 rfl (by first | omega | exact sl16_lt _ | assumption) (by decide) ?_
    refine x_goto (tgt := 308) dX10_memberHears_221 (by decide) ?_
    exact x_rV dX10_memberHears_308 rfl rfl (by unfold ml_hr; simp [hc210]) (by simp) (by simp)
set_option maxRecDepth 100000 in
set_option maxHeartbeats 400000 in
theorem c_mHear_6 {X : XS} {d : Nat} {S : St} {g m : Nat} (hg : g < 3) (hm : m < 6) {v x e : Int32} {b : Nat} : Call X mX10_memberHears false (d + 2) [.ref (ad 10 0), .int 6, .int (nI g), .int (nI m), .int v, .int x, .int e] (hp S) (.inl none, hp (ml_hear S (6 * g + m) 6 b v x e), 0, 0) := by
  refine Call.of fX10_memberHears (by decide) rfl (by simp [Value.category]) (Nat.le_of_ble_eq_true rfl) (lv := [some (.ref (ad 10 0)), some (.int 6), some (.int (nI g)), some (.int (nI m)), some (.int v), some (.int x), some (.int e), none, none, none, none]) rfl ?_
  refine x_bipush (v := 6) dX10_memberHears_0 (by decide) ?_
  refine x_iload_n dX10_memberHears_2 rfl ?_
  refine x_imul dX10_memberHears_3 ?_
  refine x_iload_n dX10_memberHears_4 rfl ?_
  refine x_iadd dX10_memberHears_5 ?_
  refine x_eqi (ix6 _ _) ?_
  refine x_istore (lv' := [_, _, _, _, _, _, _, _, _, _, _]) dX10_memberHears_6 (by decide) rfl ?_
  refine x_aload_n dX10_memberHears_8 rfl ?_
  refine x_get dX10_memberHears_9 fl_RX10_13 (hp_get (κ := 10) (by decide)) rfl ?_
  refine x_iload dX10_memberHears_12 rfl ?_
  refine y_zaldM (f := 5) (κ := 35) dX10_memberHears_14 am_5 rfl (by first | omega | exact sl16_lt _ | assumption) (by decide) ?_
  refine x_if_ne (tgt := 19) dX10_memberHears_15 (by decide) (fun hc15 => ?_) (fun hc15 => ?_)
  · unfold ml_hear
    rw [if_neg hc15]
    exact l_mh1 hg hm (l_mh2 hg hm (l_mh3 hg hm (l_mh4_6 hg hm)))
  · exact x_rV dX10_memberHears_18 rfl rfl (by unfold ml_hear; rw [if_pos hc15]) (by simp) (by simp)
set_option maxRecDepth 100000 in
set_option maxHeartbeats 400000 in
theorem l_mh4_7 {X : XS} {d : Nat} {S : St} {g m : Nat} {v x e : Int32} (hg : g < 3) (hm : m < 6) {b : Nat} : Ex X mX10_memberHears false (d + 2) 113 [some (.ref (ad 10 0)), some (.int 7), some (.int (nI g)), some (.int (nI m)), some (.int v), some (.int x), some (.int e), some (.int (nI (6 * g + m))), some (.int (bI (mh_m S (6 * g + m) v))), some (.int (bI (mh_t S (6 * g + m) v))), some (.int (bI (mh_e S (6 * g + m) v)))] [] (hp S) 0 0 (.inl none, hp (ml_hr S (6 * g + m) 7 b v x e), 0, 0) := by
  refine x_iload_n dX10_memberHears_113 rfl ?_
  refine x_iconst (v := 3) dX10_memberHears_114 (by decide) ?_
  refine x_icmp_ne (tgt := 151) dX10_memberHears_115 (by decide) (fun hc115 => ?_) (fun hc115 => by first | exact absurd (by decide) hc115 | exact absurd hc115 (by decide))
  refine x_iload_n dX10_memberHears_151 rfl ?_
  refine x_iconst (v := 4) dX10_memberHears_152 (by decide) ?_
  refine x_icmp_ne (tgt := 181) dX10_memberHears_153 (by decide) (fun hc153 => ?_) (fun hc153 => by first | exact absurd (by decide) hc153 | exact absurd hc153 (by decide))
  refine x_iload_n dX10_memberHears_181 rfl ?_
  refine x_iconst (v := 5) dX10_memberHears_182 (by decide) ?_
  refine x_icmp_ne (tgt := 202) dX10_memberHears_183 (by decide) (fun hc183 => ?_) (fun hc183 => by first | exact absurd (by decide) hc183 | exact absurd hc183 (by decide))
  refine x_iload_n dX10_memberHears_202 rfl ?_
  refine x_bipush (v := 6) dX10_memberHears_203 (by decide) ?_
  refine x_icmp_ne (tgt := 224) dX10_memberHears_205 (by decide) (fun hc205 => ?_) (fun hc205 => by first | exact absurd (by decide) hc205 | exact absurd hc205 (by decide))
  refine x_iload_n dX10_memberHears_224 rfl ?_
  refine x_bipush (v := 7) dX10_memberHears_225 (by decide) ?_
  refine x_icmp_ne (tgt := 251) dX10_memberHears_227 (by decide) (fun hc227 => by first | exact absurd hc227 (by decide) | exact absurd (by decide) hc227) (fun hc227 => ?_)
  refine x_iload dX10_memberHears_230 rfl ?_
  refine x_if_neB (tgt := 240) dX10_memberHears_232 (by decide) (fun hc232 => ?_) (fun hc232 => ?_)
  · refine x_aload_n dX10_memberHears_240 rfl ?_
    refine x_get dX10_memberHears_241 fl_RX10_20 (hp_get (κ := 10) (by decide)) rfl ?_
    refine x_iload dX10_memberHears_244 rfl ?_
    refine x_iconst (v := 0) dX10_memberHears_246 (by decide) ?_
    refine y_iastM (f := 7) (κ := 37) dX10_memberHears_247 am_7 rfl (by first | omega | exact sl16_lt _ | assumption) (by decide) ?_
    refine x_goto (tgt := 308) dX10_memberHears_248 (by decide) ?_
    exact x_rV dX10_memberHears_308 rfl rfl (by unfold ml_hr; first | (simp [hc232]; done) | (simp [hc232, hc237]; done)) (by simp) (by simp)
  · refine x_iload dX10_memberHears_235 rfl ?_
    refine x_if_eqB (tgt := 251) dX10_memberHears_237 (by decide) (fun hc237 => ?_) (fun hc237 => ?_)
    · refine x_iload_n dX10_memberHears_251 rfl ?_
      refine x_bipush (v := 8) dX10_memberHears_252 (by decide) ?_
      refine x_icmp_ne (tgt := 290) dX10_memberHears_254 (by decide) (fun hc254 => ?_) (fun hc254 => by first | exact absurd (by decide) hc254 | exact absurd hc254 (by decide))
      refine x_iload_n dX10_memberHears_290 rfl ?_
      refine x_bipush (v := 9) dX10_memberHears_291 (by decide) ?_
      refine x_icmp_ne (tgt := 308) dX10_memberHears_293 (by decide) (fun hc293 => ?_) (fun hc293 => by first | exact absurd (by decide) hc293 | exact absurd hc293 (by decide))
      exact x_rV dX10_memberHears_308 rfl rfl (by unfold ml_hr; first | (simp [hc232]; done) | (simp [hc232, hc237]; done)) (by simp) (by simp)
    · refine x_aload_n dX10_memberHears_240 rfl ?_
      refine x_get dX10_memberHears_241 fl_RX10_20 (hp_get (κ := 10) (by decide)) rfl ?_
      refine x_iload dX10_memberHears_244 rfl ?_
      refine x_iconst (v := 0) dX10_memberHears_246 (by decide) ?_
      refine y_iastM (f := 7) (κ := 37) dX10_memberHears_247 am_7 rfl (by first | omega | exact sl16_lt _ | assumption) (by decide) ?_
      refine x_goto (tgt := 308) dX10_memberHears_248 (by decide) ?_
      exact x_rV dX10_memberHears_308 rfl rfl (by unfold ml_hr; first | (simp [hc232]; done) | (simp [hc232, hc237]; done)) (by simp) (by simp)
set_option maxRecDepth 100000 in
set_option maxHeartbeats 400000 in
theorem c_mHear_7 {X : XS} {d : Nat} {S : St} {g m : Nat} (hg : g < 3) (hm : m < 6) {v x e : Int32} {b : Nat} : Call X mX10_memberHears false (d + 2) [.ref (ad 10 0), .int 7, .int (nI g), .int (nI m), .int v, .int x, .int e] (hp S) (.inl none, hp (ml_hear S (6 * g + m) 7 b v x e), 0, 0) := by
  refine Call.of fX10_memberHears (by decide) rfl (by simp [Value.category]) (Nat.le_of_ble_eq_true rfl) (lv := [some (.ref (ad 10 0)), some (.int 7), some (.int (nI g)), some (.int (nI m)), some (.int v), some (.int x), some (.int e), none, none, none, none]) rfl ?_
  refine x_bipush (v := 6) dX10_memberHears_0 (by decide) ?_
  refine x_iload_n dX10_memberHears_2 rfl ?_
  refine x_imul dX10_memberHears_3 ?_
  refine x_iload_n dX10_memberHears_4 rfl ?_
  refine x_iadd dX10_memberHears_5 ?_
  refine x_eqi (ix6 _ _) ?_
  refine x_istore (lv' := [_, _, _, _, _, _, _, _, _, _, _]) dX10_memberHears_6 (by decide) rfl ?_
  refine x_aload_n dX10_memberHears_8 rfl ?_
  refine x_get dX10_memberHears_9 fl_RX10_13 (hp_get (κ := 10) (by decide)) rfl ?_
  refine x_iload dX10_memberHears_12 rfl ?_
  refine y_zaldM (f := 5) (κ := 35) dX10_memberHears_14 am_5 rfl (by first | omega | exact sl16_lt _ | assumption) (by decide) ?_
  refine x_if_ne (tgt := 19) dX10_memberHears_15 (by decide) (fun hc15 => ?_) (fun hc15 => ?_)
  · unfold ml_hear
    rw [if_neg hc15]
    exact l_mh1 hg hm (l_mh2 hg hm (l_mh3 hg hm (l_mh4_7 hg hm)))
  · exact x_rV dX10_memberHears_18 rfl rfl (by unfold ml_hear; rw [if_pos hc15]) (by simp) (by simp)
set_option maxRecDepth 100000 in
set_option maxHeartbeats 400000 in
theorem l_mh4_8 {X : XS} {d : Nat} {S : St} {g m : Nat} {v x e : Int32} (hg : g < 3) (hm : m < 6) {b : Nat} : Ex X mX10_memberHears false (d + 2) 113 [some (.ref (ad 10 0)), some (.int 8), some (.int (nI g)), some (.int (nI m)), some (.int v), some (.int x), some (.int e), some (.int (nI (6 * g + m))), some (.int (bI (mh_m S (6 * g + m) v))), some (.int (bI (mh_t S (6 * g + m) v))), some (.int (bI (mh_e S (6 * g + m) v)))] [] (hp S) 0 0 (.inl none, hp (ml_hr S (6 * g + m) 8 b v x e), 0, 0) := by
  refine x_iload_n dX10_memberHears_113 rfl ?_
  refine x_iconst (v := 3) dX10_memberHears_114 (by decide) ?_
  refine x_icmp_ne (tgt := 151) dX10_memberHears_115 (by decide) (fun hc115 => ?_) (fun hc115 => by first | exact absurd (by decide) hc115 | exact absurd hc115 (by decide))
  refine x_iload_n dX10_memberHears_151 rfl ?_
  refine x_iconst (v := 4) dX10_memberHears_152 (by decide) ?_
  refine x_icmp_ne (tgt := 181) dX10_memberHears_153 (by decide) (fun hc153 => ?_) (fun hc153 => by first | exact absurd (by decide) hc153 | exact absurd hc153 (by decide))
  refine x_iload_n dX10_memberHears_181 rfl ?_
  refine x_iconst (v := 5) dX10_memberHears_182 (by decide) ?_
  refine x_icmp_ne (tgt := 202) dX10_memberHears_183 (by decide) (fun hc183 => ?_) (fun hc183 => by first | exact absurd (by decide) hc183 | exact absurd hc183 (by decide))
  refine x_iload_n dX10_memberHears_202 rfl ?_
  refine x_bipush (v := 6) dX10_memberHears_203 (by decide) ?_
  refine x_icmp_ne (tgt := 224) dX10_memberHears_205 (by decide) (fun hc205 => ?_) (fun hc205 => by first | exact absurd (by decide) hc205 | exact absurd hc205 (by decide))
  refine x_iload_n dX10_memberHears_224 rfl ?_
  refine x_bipush (v := 7) dX10_memberHears_225 (by decide) ?_
  refine x_icmp_ne (tgt := 251) dX10_memberHears_227 (by decide) (fun hc227 => ?_) (fun hc227 => by first | exact absurd (by decide) hc227 | exact absurd hc227 (by decide))
  refine x_iload_n dX10_memberHears_251 rfl ?_
  refine x_bipush (v := 8) dX10_memberHears_252 (by decide) ?_
  refine x_icmp_ne (tgt := 290) dX10_memberHears_254 (by decide) (fun hc254 => by first | exact absurd hc254 (by decide) | exact absurd (by decide) hc254) (fun hc254 => ?_)
  refine x_iload dX10_memberHears_257 rfl ?_
  refine x_aload_n dX10_memberHears_259 rfl ?_
  refine x_get dX10_memberHears_260 fl_RX10_38 (hp_get (κ := 10) (by decide)) rfl ?_
  refine x_iload dX10_memberHears_263 rfl ?_
  refine y_ialdM (f := 13) (κ := 43) dX10_memberHears_265 am_13 rfl (by first | omega | exact sl16_lt _ | assumption) (by decide) ?_
  refine x_icmp_lt (tgt := 290) dX10_memberHears_266 (by decide) (fun hc266 => ?_) (fun hc266 => ?_)
  · refine x_iload_n dX10_memberHears_290 rfl ?_
    refine x_bipush (v := 9) dX10_memberHears_291 (by decide) ?_
    refine x_icmp_ne (tgt := 308) dX10_memberHears_293 (by decide) (fun hc293 => ?_) (fun hc293 => by first | exact absurd (by decide) hc293 | exact absurd hc293 (by decide))
    exact x_rV dX10_memberHears_308 rfl rfl (by unfold ml_hr; simp [hc266]) (by simp) (by simp)
  · refine x_aload_n dX10_memberHears_269 rfl ?_
    refine x_get dX10_memberHears_270 fl_RX10_38 (hp_get (κ := 10) (by decide)) rfl ?_
    refine x_iload dX10_memberHears_273 rfl ?_
    refine x_iload dX10_memberHears_275 rfl ?_
    refine y_iastM (f := 13) (κ := 43) dX10_memberHears_277 am_13 rfl (by first | omega | exact sl16_lt _ | assumption) (by decide) ?_
    refine x_aload_n dX10_memberHears_278 rfl ?_
    refine x_get dX10_memberHears_279 fl_RX10_41 (hp_get (κ := 10) (by decide)) rfl ?_
    refine x_iload dX10_memberHears_282 rfl ?_
    refine x_iload dX10_memberHears_284 rfl ?_
    refine y_iastM (f := 14) (κ := 44) dX10_memberHears_286 am_14 rfl (by first | omega | exact sl16_lt _ | assumption) (by decide) ?_
    refine x_goto (tgt := 308) dX10_memberHears_287 (by decide) ?_
    exact x_rV dX10_memberHears_308 rfl rfl (by unfold ml_hr; simp [hc266]) (by simp) (by simp)
set_option maxRecDepth 100000 in
set_option maxHeartbeats 400000 in
theorem c_mHear_8 {X : XS} {d : Nat} {S : St} {g m : Nat} (hg : g < 3) (hm : m < 6) {v x e : Int32} {b : Nat} : Call X mX10_memberHears false (d + 2) [.ref (ad 10 0), .int 8, .int (nI g), .int (nI m), .int v, .int x, .int e] (hp S) (.inl none, hp (ml_hear S (6 * g + m) 8 b v x e), 0, 0) := by
  refine Call.of fX10_memberHears (by decide) rfl (by simp [Value.category]) (Nat.le_of_ble_eq_true rfl) (lv := [some (.ref (ad 10 0)), some (.int 8), some (.int (nI g)), some (.int (nI m)), some (.int v), some (.int x), some (.int e), none, none, none, none]) rfl ?_
  refine x_bipush (v := 6) dX10_memberHears_0 (by decide) ?_
  refine x_iload_n dX10_memberHears_2 rfl ?_
  refine x_imul dX10_memberHears_3 ?_
  refine x_iload_n dX10_memberHears_4 rfl ?_
  refine x_iadd dX10_memberHears_5 ?_
  refine x_eqi (ix6 _ _) ?_
  refine x_istore (lv' := [_, _, _, _, _, _, _, _, _, _, _]) dX10_memberHears_6 (by decide) rfl ?_
  refine x_aload_n dX10_memberHears_8 rfl ?_
  refine x_get dX10_memberHears_9 fl_RX10_13 (hp_get (κ := 10) (by decide)) rfl ?_
  refine x_iload dX10_memberHears_12 rfl ?_
  refine y_zaldM (f := 5) (κ := 35) dX10_memberHears_14 am_5 rfl (by first | omega | exact sl16_lt _ | assumption) (by decide) ?_
  refine x_if_ne (tgt := 19) dX10_memberHears_15 (by decide) (fun hc15 => ?_) (fun hc15 => ?_)
  · unfold ml_hear
    rw [if_neg hc15]
    exact l_mh1 hg hm (l_mh2 hg hm (l_mh3 hg hm (l_mh4_8 hg hm)))
  · exact x_rV dX10_memberHears_18 rfl rfl (by unfold ml_hear; rw [if_pos hc15]) (by simp) (by simp)
set_option maxRecDepth 100000 in
set_option maxHeartbeats 400000 in
theorem l_mh4_9 {X : XS} {d : Nat} {S : St} {g m : Nat} {v x e : Int32} (hg : g < 3) (hm : m < 6) {b : Nat} (hb : b < 64) (hx : x = nI b) : Ex X mX10_memberHears false (d + 2) 113 [some (.ref (ad 10 0)), some (.int 9), some (.int (nI g)), some (.int (nI m)), some (.int v), some (.int x), some (.int e), some (.int (nI (6 * g + m))), some (.int (bI (mh_m S (6 * g + m) v))), some (.int (bI (mh_t S (6 * g + m) v))), some (.int (bI (mh_e S (6 * g + m) v)))] [] (hp S) 0 0 (.inl none, hp (ml_hr S (6 * g + m) 9 b v x e), 0, 0) := by
  refine x_iload_n dX10_memberHears_113 rfl ?_
  refine x_iconst (v := 3) dX10_memberHears_114 (by decide) ?_
  refine x_icmp_ne (tgt := 151) dX10_memberHears_115 (by decide) (fun hc115 => ?_) (fun hc115 => by first | exact absurd (by decide) hc115 | exact absurd hc115 (by decide))
  refine x_iload_n dX10_memberHears_151 rfl ?_
  refine x_iconst (v := 4) dX10_memberHears_152 (by decide) ?_
  refine x_icmp_ne (tgt := 181) dX10_memberHears_153 (by decide) (fun hc153 => ?_) (fun hc153 => by first | exact absurd (by decide) hc153 | exact absurd hc153 (by decide))
  refine x_iload_n dX10_memberHears_181 rfl ?_
  refine x_iconst (v := 5) dX10_memberHears_182 (by decide) ?_
  refine x_icmp_ne (tgt := 202) dX10_memberHears_183 (by decide) (fun hc183 => ?_) (fun hc183 => by first | exact absurd (by decide) hc183 | exact absurd hc183 (by decide))
  refine x_iload_n dX10_memberHears_202 rfl ?_
  refine x_bipush (v := 6) dX10_memberHears_203 (by decide) ?_
  refine x_icmp_ne (tgt := 224) dX10_memberHears_205 (by decide) (fun hc205 => ?_) (fun hc205 => by first | exact absurd (by decide) hc205 | exact absurd hc205 (by decide))
  refine x_iload_n dX10_memberHears_224 rfl ?_
  refine x_bipush (v := 7) dX10_memberHears_225 (by decide) ?_
  refine x_icmp_ne (tgt := 251) dX10_memberHears_227 (by decide) (fun hc227 => ?_) (fun hc227 => by first | exact absurd (by decide) hc227 | exact absurd hc227 (by decide))
  refine x_iload_n dX10_memberHears_251 rfl ?_
  refine x_bipush (v := 8) dX10_memberHears_252 (by decide) ?_
  refine x_icmp_ne (tgt := 290) dX10_memberHears_254 (by decide) (fun hc254 => ?_) (fun hc254 => by first | exact absurd (by decide) hc254 | exact absurd hc254 (by decide))
  refine x_iload_n dX10_memberHears_290 rfl ?_
  refine x_bipush (v := 9) dX10_memberHears_291 (by decide) ?_
  refine x_icmp_ne (tgt := 308) dX10_memberHears_293 (by decide) (fun hc293 => by first | exact absurd hc293 (by decide) | exact absurd (by decide) hc293) (fun hc293 => ?_)
  refine x_aload_n dX10_memberHears_296 rfl ?_
  refine x_iload dX10_memberHears_297 rfl ?_
  refine x_iload dX10_memberHears_299 rfl ?_
  refine x_iload dX10_memberHears_301 rfl ?_
  refine x_eqi hx ?_
  refine x_iload dX10_memberHears_303 rfl ?_
  refine x_cVv (as := [_, _, _, _]) dX10_memberHears_305 fX10_listen rfl lk_RX10_175 rfl (hp_get (κ := 10) (by decide)) rfl rfl (Nat.le_of_ble_eq_true rfl) (c_mListen (by omega) hb _ _) (by simp) (by simp) ?_
  exact x_rV dX10_memberHears_308 rfl rfl (by unfold ml_hr; simp) (by simp) (by simp)
set_option maxRecDepth 100000 in
set_option maxHeartbeats 400000 in
theorem c_mHear_9 {X : XS} {d : Nat} {S : St} {g m : Nat} (hg : g < 3) (hm : m < 6) {v x e : Int32} {b : Nat} (hb : b < 64) (hx : x = nI b) : Call X mX10_memberHears false (d + 2) [.ref (ad 10 0), .int 9, .int (nI g), .int (nI m), .int v, .int x, .int e] (hp S) (.inl none, hp (ml_hear S (6 * g + m) 9 b v x e), 0, 0) := by
  refine Call.of fX10_memberHears (by decide) rfl (by simp [Value.category]) (Nat.le_of_ble_eq_true rfl) (lv := [some (.ref (ad 10 0)), some (.int 9), some (.int (nI g)), some (.int (nI m)), some (.int v), some (.int x), some (.int e), none, none, none, none]) rfl ?_
  refine x_bipush (v := 6) dX10_memberHears_0 (by decide) ?_
  refine x_iload_n dX10_memberHears_2 rfl ?_
  refine x_imul dX10_memberHears_3 ?_
  refine x_iload_n dX10_memberHears_4 rfl ?_
  refine x_iadd dX10_memberHears_5 ?_
  refine x_eqi (ix6 _ _) ?_
  refine x_istore (lv' := [_, _, _, _, _, _, _, _, _, _, _]) dX10_memberHears_6 (by decide) rfl ?_
  refine x_aload_n dX10_memberHears_8 rfl ?_
  refine x_get dX10_memberHears_9 fl_RX10_13 (hp_get (κ := 10) (by decide)) rfl ?_
  refine x_iload dX10_memberHears_12 rfl ?_
  refine y_zaldM (f := 5) (κ := 35) dX10_memberHears_14 am_5 rfl (by first | omega | exact sl16_lt _ | assumption) (by decide) ?_
  refine x_if_ne (tgt := 19) dX10_memberHears_15 (by decide) (fun hc15 => ?_) (fun hc15 => ?_)
  · unfold ml_hear
    rw [if_neg hc15]
    exact l_mh1 hg hm (l_mh2 hg hm (l_mh3 hg hm (l_mh4_9 hg hm hb hx)))
  · exact x_rV dX10_memberHears_18 rfl rfl (by unfold ml_hear; rw [if_pos hc15]) (by simp) (by simp)
def mN (S : St) (i : Nat) : Nat := (S.2.2.1 17 i).toNatClampNeg
def mp_is (S : St) (i : Nat) : Bool := decide (¬ 64 ≤ S.2.2.1 17 i ∧ ¬ S.2.2.1 24 (64 * i + mN S i) = 0)
def ml_p1 (S : St) (i : Nat) : St := if mp_is S i = true then (let S1 := sm S 23 i (S.2.2.1 23 i * 31 + S.2.2.1 25 (64 * i + mN S i)); let S2 := sm S1 20 i (S1.2.2.1 20 i + 1); sm S2 19 i 0) else (let S1 := sm S 23 i (S.2.2.1 23 i * 31 + (-1)); let S2 := sm S1 21 i (S1.2.2.1 21 i + 1); sm S2 19 i (S2.2.2.1 19 i + 1))
def ml_p2 (S : St) (i : Nat) : St := let S3 := sm S 17 i (S.2.2.1 17 i + 1); sm S3 16 i (bI (decide (¬ 4 ≤ S3.2.2.1 19 i)))
def ml_play (S : St) (i : Nat) : St := if S.2.2.1 5 i = 0 then S else if S.2.2.1 16 i = 0 then S else if 2 ≤ S.2.2.1 1 0 - S.2.2.1 18 i then ml_p2 (ml_p1 S i) i else S
set_option maxRecDepth 100000 in
set_option maxHeartbeats 400000 in
theorem l_mP2 {X : XS} {d : Nat} {S : St} {i : Nat} {x2 x3 : Option Value} (hi : i < 18) : Ex X mX10_play false d 156 [some (.ref (ad 10 0)), some (.int (nI i)), x2, x3] [] (hp S) 0 0 (.inl none, hp (ml_p2 S i), 0, 0) := by
  refine x_aload_n dX10_play_156 rfl ?_
  refine x_get dX10_play_157 fl_RX10_50 (hp_get (κ := 10) (by decide)) rfl ?_
  refine x_iload_n dX10_play_160 rfl ?_
  refine x_dup2 dX10_play_161 rfl rfl ?_
  refine y_ialdM (f := 17) (κ := 47) dX10_play_162 am_17 rfl (by first | omega | exact sl16_lt _ | assumption) (by decide) ?_
  refine x_iconst (v := 1) dX10_play_163 (by decide) ?_
  refine x_iadd dX10_play_164 ?_
  refine y_iastM (f := 17) (κ := 47) dX10_play_165 am_17 rfl (by first | omega | exact sl16_lt _ | assumption) (by decide) ?_
  refine x_aload_n dX10_play_166 rfl ?_
  refine x_get dX10_play_167 fl_RX10_47 (hp_get (κ := 10) (by decide)) rfl ?_
  refine x_iload_n dX10_play_170 rfl ?_
  refine x_aload_n dX10_play_171 rfl ?_
  refine x_get dX10_play_172 fl_RX10_56 (hp_get (κ := 10) (by decide)) rfl ?_
  refine x_iload_n dX10_play_175 rfl ?_
  refine y_ialdM (f := 19) (κ := 49) dX10_play_176 am_19 rfl (by first | omega | exact sl16_lt _ | assumption) (by decide) ?_
  refine x_iconst (v := 4) dX10_play_177 (by decide) ?_
  refine x_icmp_ge (tgt := 185) dX10_play_178 (by decide) (fun hc178 => ?_) (fun hc178 => ?_)
  · refine x_iconst (v := 0) dX10_play_185 (by decide) ?_
    refine x_eqi (y := bI (decide (¬ 4 ≤ (sm S 17 i (S.2.2.1 17 i + 1)).2.2.1 19 i))) (by simp [bI, hc178]) ?_
    refine y_zastM (f := 16) (κ := 46) dX10_play_186 am_16 rfl (by first | omega | exact sl16_lt _ | assumption) (by decide) (bI_nar _) ?_
    exact x_rV dX10_play_187 rfl rfl rfl (by simp) (by simp)
  · refine x_iconst (v := 1) dX10_play_181 (by decide) ?_
    refine x_goto (tgt := 186) dX10_play_182 (by decide) ?_
    refine x_eqi (y := bI (decide (¬ 4 ≤ (sm S 17 i (S.2.2.1 17 i + 1)).2.2.1 19 i))) (by simp [bI, hc178]) ?_
    refine y_zastM (f := 16) (κ := 46) dX10_play_186 am_16 rfl (by first | omega | exact sl16_lt _ | assumption) (by decide) (bI_nar _) ?_
    exact x_rV dX10_play_187 rfl rfl rfl (by simp) (by simp)
set_option maxRecDepth 100000 in
set_option maxHeartbeats 400000 in
theorem c_mPlay {X : XS} {d : Nat} {S : St} {i : Nat} (hi : i < 18) (hx : S.2.2.1 17 i = nI (mN S i) ∧ mN S i < 2 ^ 31) : Call X mX10_play false d [.ref (ad 10 0), .int (nI i)] (hp S) (.inl none, hp (ml_play S i), 0, 0) := by
  refine Call.of fX10_play (by decide) rfl (by simp [Value.category]) (Nat.le_of_ble_eq_true rfl) (lv := [some (.ref (ad 10 0)), some (.int (nI i)), none, none]) rfl ?_
  refine x_aload_n dX10_play_0 rfl ?_
  refine x_get dX10_play_1 fl_RX10_13 (hp_get (κ := 10) (by decide)) rfl ?_
  refine x_iload_n dX10_play_4 rfl ?_
  refine y_zaldM (f := 5) (κ := 35) dX10_play_5 am_5 rfl (by first | omega | exact sl16_lt _ | assumption) (by decide) ?_
  refine x_if_eq (tgt := 33) dX10_play_6 (by decide) (fun hc6 => ?_) (fun hc6 => ?_)
  · exact x_rV dX10_play_33 rfl rfl (by unfold ml_play; first | rw [if_pos hc6] | rw [if_neg hc6, if_pos hc15] | rw [if_neg hc6, if_neg hc15, if_neg hc30]) (by simp) (by simp)
  · refine x_aload_n dX10_play_9 rfl ?_
    refine x_get dX10_play_10 fl_RX10_47 (hp_get (κ := 10) (by decide)) rfl ?_
    refine x_iload_n dX10_play_13 rfl ?_
    refine y_zaldM (f := 16) (κ := 46) dX10_play_14 am_16 rfl (by first | omega | exact sl16_lt _ | assumption) (by decide) ?_
    refine x_if_eq (tgt := 33) dX10_play_15 (by decide) (fun hc15 => ?_) (fun hc15 => ?_)
    · exact x_rV dX10_play_33 rfl rfl (by unfold ml_play; first | rw [if_pos hc6] | rw [if_neg hc6, if_pos hc15] | rw [if_neg hc6, if_neg hc15, if_neg hc30]) (by simp) (by simp)
    · refine x_aload_n dX10_play_18 rfl ?_
      refine x_get dX10_play_19 fl_RX10_179 (hp_get (κ := 10) (by decide)) rfl ?_
      refine x_aload_n dX10_play_22 rfl ?_
      refine x_get dX10_play_23 fl_RX10_53 (hp_get (κ := 10) (by decide)) rfl ?_
      refine x_iload_n dX10_play_26 rfl ?_
      refine y_ialdM (f := 18) (κ := 48) dX10_play_27 am_18 rfl (by first | omega | exact sl16_lt _ | assumption) (by decide) ?_
      refine x_isub dX10_play_28 ?_
      refine x_iconst (v := 2) dX10_play_29 (by decide) ?_
      refine x_icmp_ge (tgt := 34) dX10_play_30 (by decide) (fun hc30 => ?_) (fun hc30 => ?_)
      · unfold ml_play
        rw [if_neg hc6, if_neg hc15, if_pos hc30]
        refine x_aload_n dX10_play_34 rfl ?_
        refine x_get dX10_play_35 fl_RX10_50 (hp_get (κ := 10) (by decide)) rfl ?_
        refine x_iload_n dX10_play_38 rfl ?_
        refine y_ialdM (f := 17) (κ := 47) dX10_play_39 am_17 rfl (by first | omega | exact sl16_lt _ | assumption) (by decide) ?_
        refine x_bipush (v := 64) dX10_play_40 (by decide) ?_
        refine x_icmp_ge (tgt := 68) dX10_play_42 (by decide) (fun hc42 => ?_) (fun hc42 => ?_)
        · refine x_iconst (v := 0) dX10_play_68 (by decide) ?_
          refine x_istore_n (lv' := [_, _, _, _]) dX10_play_69 (by decide) rfl ?_
          refine x_iload_n dX10_play_70 rfl ?_
          refine x_if_eq (tgt := 93) dX10_play_71 (by decide) (fun hc71 => ?_) (fun hc71 => by first | exact absurd (by decide) hc71 | exact absurd hc71 (by decide))
          refine x_iconst (v := (-1)) dX10_play_93 (by decide) ?_
          refine x_istore_n (lv' := [_, _, _, _]) dX10_play_94 (by decide) rfl ?_
          refine x_aload_n dX10_play_95 rfl ?_
          refine x_get dX10_play_96 fl_RX10_68 (hp_get (κ := 10) (by decide)) rfl ?_
          refine x_iload_n dX10_play_99 rfl ?_
          refine x_aload_n dX10_play_100 rfl ?_
          refine x_get dX10_play_101 fl_RX10_68 (hp_get (κ := 10) (by decide)) rfl ?_
          refine x_iload_n dX10_play_104 rfl ?_
          refine y_ialdM (f := 23) (κ := 53) dX10_play_105 am_23 rfl (by first | omega | exact sl16_lt _ | assumption) (by decide) ?_
          refine x_bipush (v := 31) dX10_play_106 (by decide) ?_
          refine x_imul dX10_play_108 ?_
          refine x_iload_n dX10_play_109 rfl ?_
          refine x_iadd dX10_play_110 ?_
          refine y_iastM (f := 23) (κ := 53) dX10_play_111 am_23 rfl (by first | omega | exact sl16_lt _ | assumption) (by decide) ?_
          refine x_iload_n dX10_play_112 rfl ?_
          refine x_if_eq (tgt := 136) dX10_play_113 (by decide) (fun hc113 => ?_) (fun hc113 => by first | exact absurd (by decide) hc113 | exact absurd hc113 (by decide))
          refine x_aload_n dX10_play_136 rfl ?_
          refine x_get dX10_play_137 fl_RX10_62 (hp_get (κ := 10) (by decide)) rfl ?_
          refine x_iload_n dX10_play_140 rfl ?_
          refine x_dup2 dX10_play_141 rfl rfl ?_
          refine y_ialdM (f := 21) (κ := 51) dX10_play_142 am_21 rfl (by first | omega | exact sl16_lt _ | assumption) (by decide) ?_
          refine x_iconst (v := 1) dX10_play_143 (by decide) ?_
          refine x_iadd dX10_play_144 ?_
          refine y_iastM (f := 21) (κ := 51) dX10_play_145 am_21 rfl (by first | omega | exact sl16_lt _ | assumption) (by decide) ?_
          refine x_aload_n dX10_play_146 rfl ?_
          refine x_get dX10_play_147 fl_RX10_56 (hp_get (κ := 10) (by decide)) rfl ?_
          refine x_iload_n dX10_play_150 rfl ?_
          refine x_dup2 dX10_play_151 rfl rfl ?_
          refine y_ialdM (f := 19) (κ := 49) dX10_play_152 am_19 rfl (by first | omega | exact sl16_lt _ | assumption) (by decide) ?_
          refine x_iconst (v := 1) dX10_play_153 (by decide) ?_
          refine x_iadd dX10_play_154 ?_
          refine y_iastM (f := 19) (κ := 49) dX10_play_155 am_19 rfl (by first | omega | exact sl16_lt _ | assumption) (by decide) ?_
          cases hb : mp_is S i
          · first
            | (exfalso; revert hb; simp [mp_is, hc6, hc15, hc30, hc42, hc71, hc113]; done)
            | (refine x_heq (S2 := ml_p1 S i) (by unfold ml_p1; rw [if_neg (by rw [hb]; decide)]) ?_; exact l_mP2 hi)
          · first
            | (exfalso; revert hb; simp [mp_is, hc6, hc15, hc30, hc42, hc71, hc113]; done)
            | (refine x_heq (S2 := ml_p1 S i) (by unfold ml_p1; rw [if_pos hb]) ?_; exact l_mP2 hi)
        · have hN64 : mN S i < 64 := by
            have := hc42
            rw [hx.1] at this
            exact Nat.not_le.mp (fun z => this (nI_le (a := 64) z hx.2))
          refine x_aload_n dX10_play_45 rfl ?_
          refine x_get dX10_play_46 fl_RX10_71 (hp_get (κ := 10) (by decide)) rfl ?_
          refine x_bipush (v := 64) dX10_play_49 (by decide) ?_
          refine x_iload_n dX10_play_51 rfl ?_
          refine x_imul dX10_play_52 ?_
          refine x_aload_n dX10_play_53 rfl ?_
          refine x_get dX10_play_54 fl_RX10_50 (hp_get (κ := 10) (by decide)) rfl ?_
          refine x_iload_n dX10_play_57 rfl ?_
          refine y_ialdM (f := 17) (κ := 47) dX10_play_58 am_17 rfl (by first | omega | exact sl16_lt _ | assumption) (by decide) ?_
          refine x_eqi hx.1 ?_
          refine x_iadd dX10_play_59 ?_
          refine x_eqi (ix64 _ _) ?_
          refine y_zaldM (f := 24) (κ := 54) dX10_play_60 am_24 rfl (by first | omega | exact sl16_lt _ | assumption) (by decide) ?_
          refine x_if_eq (tgt := 68) dX10_play_61 (by decide) (fun hc61 => ?_) (fun hc61 => ?_)
          · refine x_iconst (v := 0) dX10_play_68 (by decide) ?_
            refine x_istore_n (lv' := [_, _, _, _]) dX10_play_69 (by decide) rfl ?_
            refine x_iload_n dX10_play_70 rfl ?_
            refine x_if_eq (tgt := 93) dX10_play_71 (by decide) (fun hc71 => ?_) (fun hc71 => by first | exact absurd (by decide) hc71 | exact absurd hc71 (by decide))
            refine x_iconst (v := (-1)) dX10_play_93 (by decide) ?_
            refine x_istore_n (lv' := [_, _, _, _]) dX10_play_94 (by decide) rfl ?_
            refine x_aload_n dX10_play_95 rfl ?_
            refine x_get dX10_play_96 fl_RX10_68 (hp_get (κ := 10) (by decide)) rfl ?_
            refine x_iload_n dX10_play_99 rfl ?_
            refine x_aload_n dX10_play_100 rfl ?_
            refine x_get dX10_play_101 fl_RX10_68 (hp_get (κ := 10) (by decide)) rfl ?_
            refine x_iload_n dX10_play_104 rfl ?_
            refine y_ialdM (f := 23) (κ := 53) dX10_play_105 am_23 rfl (by first | omega | exact sl16_lt _ | assumption) (by decide) ?_
            refine x_bipush (v := 31) dX10_play_106 (by decide) ?_
            refine x_imul dX10_play_108 ?_
            refine x_iload_n dX10_play_109 rfl ?_
            refine x_iadd dX10_play_110 ?_
            refine y_iastM (f := 23) (κ := 53) dX10_play_111 am_23 rfl (by first | omega | exact sl16_lt _ | assumption) (by decide) ?_
            refine x_iload_n dX10_play_112 rfl ?_
            refine x_if_eq (tgt := 136) dX10_play_113 (by decide) (fun hc113 => ?_) (fun hc113 => by first | exact absurd (by decide) hc113 | exact absurd hc113 (by decide))
            refine x_aload_n dX10_play_136 rfl ?_
            refine x_get dX10_play_137 fl_RX10_62 (hp_get (κ := 10) (by decide)) rfl ?_
            refine x_iload_n dX10_play_140 rfl ?_
            refine x_dup2 dX10_play_141 rfl rfl ?_
            refine y_ialdM (f := 21) (κ := 51) dX10_play_142 am_21 rfl (by first | omega | exact sl16_lt _ | assumption) (by decide) ?_
            refine x_iconst (v := 1) dX10_play_143 (by decide) ?_
            refine x_iadd dX10_play_144 ?_
            refine y_iastM (f := 21) (κ := 51) dX10_play_145 am_21 rfl (by first | omega | exact sl16_lt _ | assumption) (by decide) ?_
            refine x_aload_n dX10_play_146 rfl ?_
            refine x_get dX10_play_147 fl_RX10_56 (hp_get (κ := 10) (by decide)) rfl ?_
            refine x_iload_n dX10_play_150 rfl ?_
            refine x_dup2 dX10_play_151 rfl rfl ?_
            refine y_ialdM (f := 19) (κ := 49) dX10_play_152 am_19 rfl (by first | omega | exact sl16_lt _ | assumption) (by decide) ?_
            refine x_iconst (v := 1) dX10_play_153 (by decide) ?_
            refine x_iadd dX10_play_154 ?_
            refine y_iastM (f := 19) (κ := 49) dX10_play_155 am_19 rfl (by first | omega | exact sl16_lt _ | assumption) (by decide) ?_
            cases hb : mp_is S i
            · first
              | (exfalso; revert hb; simp [mp_is, hc6, hc15, hc30, hc42, hc61, hc71, hc113]; done)
              | (refine x_heq (S2 := ml_p1 S i) (by unfold ml_p1; rw [if_neg (by rw [hb]; decide)]) ?_; exact l_mP2 hi)
            · first
              | (exfalso; revert hb; simp [mp_is, hc6, hc15, hc30, hc42, hc61, hc71, hc113]; done)
              | (refine x_heq (S2 := ml_p1 S i) (by unfold ml_p1; rw [if_pos hb]) ?_; exact l_mP2 hi)
          · refine x_iconst (v := 1) dX10_play_64 (by decide) ?_
            refine x_goto (tgt := 69) dX10_play_65 (by decide) ?_
            refine x_istore_n (lv' := [_, _, _, _]) dX10_play_69 (by decide) rfl ?_
            refine x_iload_n dX10_play_70 rfl ?_
            refine x_if_eq (tgt := 93) dX10_play_71 (by decide) (fun hc71 => by first | exact absurd hc71 (by decide) | exact absurd (by decide) hc71) (fun hc71 => ?_)
            refine x_aload_n dX10_play_74 rfl ?_
            refine x_get dX10_play_75 fl_RX10_74 (hp_get (κ := 10) (by decide)) rfl ?_
            refine x_bipush (v := 64) dX10_play_78 (by decide) ?_
            refine x_iload_n dX10_play_80 rfl ?_
            refine x_imul dX10_play_81 ?_
            refine x_aload_n dX10_play_82 rfl ?_
            refine x_get dX10_play_83 fl_RX10_50 (hp_get (κ := 10) (by decide)) rfl ?_
            refine x_iload_n dX10_play_86 rfl ?_
            refine y_ialdM (f := 17) (κ := 47) dX10_play_87 am_17 rfl (by first | omega | exact sl16_lt _ | assumption) (by decide) ?_
            refine x_eqi hx.1 ?_
            refine x_iadd dX10_play_88 ?_
            refine x_eqi (ix64 _ _) ?_
            refine y_ialdM (f := 25) (κ := 55) dX10_play_89 am_25 rfl (by first | omega | exact sl16_lt _ | assumption) (by decide) ?_
            refine x_goto (tgt := 94) dX10_play_90 (by decide) ?_
            refine x_istore_n (lv' := [_, _, _, _]) dX10_play_94 (by decide) rfl ?_
            refine x_aload_n dX10_play_95 rfl ?_
            refine x_get dX10_play_96 fl_RX10_68 (hp_get (κ := 10) (by decide)) rfl ?_
            refine x_iload_n dX10_play_99 rfl ?_
            refine x_aload_n dX10_play_100 rfl ?_
            refine x_get dX10_play_101 fl_RX10_68 (hp_get (κ := 10) (by decide)) rfl ?_
            refine x_iload_n dX10_play_104 rfl ?_
            refine y_ialdM (f := 23) (κ := 53) dX10_play_105 am_23 rfl (by first | omega | exact sl16_lt _ | assumption) (by decide) ?_
            refine x_bipush (v := 31) dX10_play_106 (by decide) ?_
            refine x_imul dX10_play_108 ?_
            refine x_iload_n dX10_play_109 rfl ?_
            refine x_iadd dX10_play_110 ?_
            refine y_iastM (f := 23) (κ := 53) dX10_play_111 am_23 rfl (by first | omega | exact sl16_lt _ | assumption) (by decide) ?_
            refine x_iload_n dX10_play_112 rfl ?_
            refine x_if_eq (tgt := 136) dX10_play_113 (by decide) (fun hc113 => by first | exact absurd hc113 (by decide) | exact absurd (by decide) hc113) (fun hc113 => ?_)
            refine x_aload_n dX10_play_116 rfl ?_
            refine x_get dX10_play_117 fl_RX10_59 (hp_get (κ := 10) (by decide)) rfl ?_
            refine x_iload_n dX10_play_120 rfl ?_
            refine x_dup2 dX10_play_121 rfl rfl ?_
            refine y_ialdM (f := 20) (κ := 50) dX10_play_122 am_20 rfl (by first | omega | exact sl16_lt _ | assumption) (by decide) ?_
            refine x_iconst (v := 1) dX10_play_123 (by decide) ?_
            refine x_iadd dX10_play_124 ?_
            refine y_iastM (f := 20) (κ := 50) dX10_play_125 am_20 rfl (by first | omega | exact sl16_lt _ | assumption) (by decide) ?_
            refine x_aload_n dX10_play_126 rfl ?_
            refine x_get dX10_play_127 fl_RX10_56 (hp_get (κ := 10) (by decide)) rfl ?_
            refine x_iload_n dX10_play_130 rfl ?_
            refine x_iconst (v := 0) dX10_play_131 (by decide) ?_
            refine y_iastM (f := 19) (κ := 49) dX10_play_132 am_19 rfl (by first | omega | exact sl16_lt _ | assumption) (by decide) ?_
            refine x_goto (tgt := 156) dX10_play_133 (by decide) ?_
            cases hb : mp_is S i
            · first
              | (exfalso; revert hb; simp [mp_is, hc6, hc15, hc30, hc42, hc61, hc71, hc113]; done)
              | (refine x_heq (S2 := ml_p1 S i) (by unfold ml_p1; rw [if_neg (by rw [hb]; decide)]) ?_; exact l_mP2 hi)
            · first
              | (exfalso; revert hb; simp [mp_is, hc6, hc15, hc30, hc42, hc61, hc71, hc113]; done)
              | (refine x_heq (S2 := ml_p1 S i) (by unfold ml_p1; rw [if_pos hb]) ?_; exact l_mP2 hi)
      · exact x_rV dX10_play_33 rfl rfl (by unfold ml_play; first | rw [if_pos hc6] | rw [if_neg hc6, if_pos hc15] | rw [if_neg hc6, if_neg hc15, if_neg hc30]) (by simp) (by simp)
