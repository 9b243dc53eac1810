def tkn (S : St) : Nat → St
  | 0 => sc S 9 0 4 (S.1 9 0 4 + 1)
  | g + 1 => pp (fl_time (tkn S g) g (S.1 9 0 4 + 1)) g (S.1 9 0 4 + 1) 6
theorem tkn_0 {S : St} : tkn S 0 = sc S 9 0 4 (S.1 9 0 4 + 1) := by rw [tkn]
theorem tkn_s {S : St} {g : Nat} : tkn S (g + 1) = pp (fl_time (tkn S g) g (S.1 9 0 4 + 1)) g (S.1 9 0 4 + 1) 6 := by rw [tkn]
theorem tkn_t {S : St} : ∀ g, (tkn S g).1 9 0 4 = S.1 9 0 4 + 1
  | 0 => by simp [tkn, sc_get]
  | g + 1 => by
    rw [tkn_s, (LiL.pp 6).2 9 0 4 (by decide) (by decide) (by decide), Loc.time.2 9 0 4 (by decide) (by decide) (by omega) (by omega) (by omega) (by omega)]
    exact tkn_t g
theorem time_t {S : St} {g : Nat} {t : Int32} : (fl_time S g t).1 9 0 4 = S.1 9 0 4 := Loc.time.2 9 0 4 (by decide) (by decide) (by omega) (by omega) (by omega) (by omega)
def TickOK (S : St) : Prop := ∀ g, g < 3 → NetOK (tkn S g) ∧ FlI (tkn S g) g
set_option maxRecDepth 100000 in
set_option maxHeartbeats 4000000 in
theorem l_tick {X : XS} {d : Nat} {S : St} (hT : TickOK S) : ∀ c j, j + c = 3 → Ex X mX9_tick false (d + 5) 12 [some (.ref (ad 9 0)), some (.int (nI j))] [] (hp (tkn S j)) 0 0 (.inl (some (.int (S.1 9 0 4 + 1))), hp (tkn S 3), 0, 0) := by
  intro c
  induction c with
  | zero =>
    intro j hj
    have hj : j = 3 := by omega
    subst hj
    refine x_iload_n dX9_tick_12 rfl ?_
    refine x_iconst (v := 3) dX9_tick_13 (by decide) ?_
    refine x_icmp_ge (tgt := 49) dX9_tick_14 (by decide) (fun hc14 => ?_) (fun hc14 => by first | exact absurd (by decide) hc14 | exact absurd hc14 (by decide))
    refine x_aload_n dX9_tick_49 rfl ?_
    refine x_get dX9_tick_50 fl_RX9_78 (hp_get (κ := 9) (by decide)) rfl ?_
    exact x_rI dX9_tick_53 rfl rfl (by rw [tkn_t]) rfl (by simp) (by simp)
  | succ c ih =>
    intro j hj
    refine x_iload_n dX9_tick_12 rfl ?_
    refine x_iconst (v := 3) dX9_tick_13 (by decide) ?_
    refine x_icmp_ge (tgt := 49) dX9_tick_14 (by decide) (fun hc14 => by first | exact absurd hc14 (nI_ge (b := 3) (by omega) (by decide)) | exact absurd (nI_ge (b := 3) (by omega) (by decide)) hc14) (fun hc14 => ?_)
    refine x_aload_n dX9_tick_17 rfl ?_
    refine x_get dX9_tick_18 fl_RX9_24 (hp_get (κ := 9) (by decide)) rfl ?_
    refine x_iload_n dX9_tick_21 rfl ?_
    refine x_floors dX9_tick_22 (by decide) (by first | omega | exact sl16_lt _ | assumption) ?_
    refine x_aload_n dX9_tick_23 rfl ?_
    refine x_get dX9_tick_24 fl_RX9_78 (hp_get (κ := 9) (by decide)) rfl ?_
    refine x_eqi (tkn_t j) ?_
    refine x_cVv (as := [_]) dX9_tick_27 fX1_passTime rfl lk_RX9_151 rfl (hp_get (κ := 1) (by first | assumption | (show _ < _; simp only [cnt]; omega))) rfl rfl (Nat.le_of_ble_eq_true rfl) (c_passTime (by omega) (hT j (by omega)).1 (hT j (by omega)).2 _) (by simp) (by simp) ?_
    refine x_aload_n dX9_tick_30 rfl ?_
    refine x_get dX9_tick_31 fl_RX9_18 (hp_get (κ := 9) (by decide)) rfl ?_
    refine x_iload_n dX9_tick_34 rfl ?_
    refine x_parties dX9_tick_35 (by decide) (by first | omega | exact sl16_lt _ | assumption) ?_
    refine x_aload_n dX9_tick_36 rfl ?_
    refine x_get dX9_tick_37 fl_RX9_78 (hp_get (κ := 9) (by decide)) rfl ?_
    refine x_eqi (time_t.trans (tkn_t j)) ?_
    refine x_cVv (as := [_]) dX9_tick_40 fX7_play rfl lk_RX9_154 rfl (hp_get (κ := 7) (by first | assumption | (show _ < _; simp only [cnt]; omega))) rfl rfl (Nat.le_of_ble_eq_true rfl) (c_ppl (by omega) _) (by simp) (by simp) ?_
    refine x_iinc (v := _ + 1) (lv' := [_, _]) dX9_tick_43 rfl rfl (by decide) rfl ?_
    refine x_goto (tgt := 12) dX9_tick_46 (by decide) ?_
    rw [nI_1]
    refine x_heq (S2 := tkn S (j + 1)) tkn_s ?_
    exact ih (j + 1) (by omega)
set_option maxRecDepth 100000 in
set_option maxHeartbeats 4000000 in
theorem k_tick {X : XS} {d : Nat} {S : St} (hT : TickOK S) : Call X mX9_tick false (d + 5) [.ref (ad 9 0)] (hp S) (.inl (some (.int (S.1 9 0 4 + 1))), hp (tkn S 3), 0, 0) := by
  refine Call.of fX9_tick (by decide) rfl (by simp [Value.category]) (Nat.le_of_ble_eq_true rfl) (lv := [some (.ref (ad 9 0)), none]) rfl ?_
  refine x_aload_n dX9_tick_0 rfl ?_
  refine x_dup dX9_tick_1 rfl ?_
  refine x_get dX9_tick_2 fl_RX9_78 (hp_get (κ := 9) (by decide)) rfl ?_
  refine x_iconst (v := 1) dX9_tick_5 (by decide) ?_
  refine x_iadd dX9_tick_6 ?_
  refine x_putC dX9_tick_7 fp_RX9_78 (by decide) pb_9_4 ⟨rfl, rfl⟩ ?_
  refine x_iconst (v := 0) dX9_tick_10 (by decide) ?_
  refine x_istore_n (lv' := [_, _]) dX9_tick_11 (by decide) rfl ?_
  refine x_heq (S2 := tkn S 0) tkn_0 ?_
  exact l_tick hT 3 0 (by omega)
