def rn (S : St) : Nat → St
  | 0 => S
  | j + 1 => tk_del (nt_out (rn S j) 0) (nt_at (rn S j) 0)
theorem rn_s {S : St} {j : Nat} : rn S (j + 1) = tk_del (nt_out (rn S j) 0) (nt_at (rn S j) 0) := by rw [rn]
def rk (S : St) : Nat → Nat → Nat
  | j, 0 => j
  | j, n + 1 => if (rn S j).1 6 0 2 ≤ 0 then j else rk S (j + 1) n
theorem rk_0 {S : St} {j c : Nat} (h : (rn S j).1 6 0 2 ≤ 0) : rk S j (c + 1) = j := by rw [rk, if_pos h]
theorem rk_1 {S : St} {j c : Nat} (h : ¬ (rn S j).1 6 0 2 ≤ 0) : rk S j (c + 1) = rk S (j + 1) c := by rw [rk, if_neg h]
def RunOK (S : St) (n : Nat) : Prop := ∀ j, j < n → ¬ (rn S j).1 6 0 2 ≤ 0 → NetOK (rn S j) ∧ DlOK (nt_out (rn S j) 0) (nt_at (rn S j) 0)
set_option maxRecDepth 100000 in
set_option maxHeartbeats 4000000 in
theorem l_run {X : XS} {d : Nat} {S : St} {n : Nat} (hn : n ≤ 200) (hR : RunOK S n) : ∀ c j, j + c = n → Ex X mX9_run false (d + 6) 10 [some (.ref (ad 9 0)), some (.int (nI n)), some (.int (nI j))] [] (hp (rn S j)) 0 0 (.inl (some (.int (nI (rk S j c)))), hp (rn S (rk S j c)), 0, 0) := by
  intro c
  induction c with
  | zero =>
    intro j hj
    have hj : j = n := by omega
    subst hj
    refine x_iload_n dX9_run_10 rfl ?_
    refine x_iload_n dX9_run_11 rfl ?_
    refine x_icmp_ge (tgt := 43) dX9_run_12 (by decide) (fun hc12 => ?_) (fun hc12 => by first | exact absurd (Int32.le_refl _) hc12 | exact absurd hc12 (Int32.le_refl _))
    refine x_iload_n dX9_run_43 rfl ?_
    exact x_rI dX9_run_44 rfl rfl rfl rfl (by simp) (by simp)
  | succ c ih =>
    intro j hj
    refine x_iload_n dX9_run_10 rfl ?_
    refine x_iload_n dX9_run_11 rfl ?_
    refine x_icmp_ge (tgt := 43) dX9_run_12 (by decide) (fun hc12 => by first | exact absurd hc12 (nI_ge (by omega) (by omega)) | exact absurd (nI_ge (by omega) (by omega)) hc12) (fun hc12 => ?_)
    refine x_aload_n dX9_run_15 rfl ?_
    refine x_get dX9_run_16 fl_RX9_10 (hp_get (κ := 9) (by decide)) rfl ?_
    refine x_get dX9_run_19 fl_RX9_125 (hp_get (κ := 6) (by decide)) rfl ?_
    refine x_if_le (tgt := 43) dX9_run_22 (by decide) (fun hc22 => ?_) (fun hc22 => ?_)
    · refine x_iload_n dX9_run_43 rfl ?_
      exact x_rI dX9_run_44 rfl rfl (by rw [rk_0 hc22]) (by rw [rk_0 hc22]) (by simp) (by simp)
    · obtain ⟨hN1, hD1⟩ := hR j (by omega) hc22
      refine x_aload_n dX9_run_25 rfl ?_
      refine x_aload_n dX9_run_26 rfl ?_
      refine x_get dX9_run_27 fl_RX9_10 (hp_get (κ := 9) (by decide)) rfl ?_
      refine x_iconst (v := 0) dX9_run_30 (by decide) ?_
      refine x_eqi (show (0 : Int32) = nI 0 from rfl) ?_
      refine x_cV (as := [_]) dX9_run_31 fX6_takeOut rfl lk_RX9_144 rfl (hp_get (κ := 6) (by decide)) rfl rfl (Nat.le_of_ble_eq_true rfl) (c_takeOut hN1 (by omega)) (by simp) (by simp) ?_
      refine x_cVv (as := [_]) dX9_run_34 fX9_deliver rfl lk_RX9_147 rfl (hp_get (κ := 9) (by decide)) rfl rfl (Nat.le_of_ble_eq_true rfl) (c_deliver hD1) (by simp) (by simp) ?_
      refine x_iinc (v := _ + 1) (lv' := [_, _, _]) dX9_run_37 rfl rfl (by decide) rfl ?_
      refine x_goto (tgt := 10) dX9_run_40 (by decide) ?_
      rw [nI_1]
      rw [rk_1 hc22]
      refine x_heq (S2 := rn S (j + 1)) rn_s ?_
      exact ih (j + 1) (by omega)
set_option maxRecDepth 100000 in
set_option maxHeartbeats 4000000 in
theorem k_run {X : XS} {d : Nat} {S : St} {n : Nat} (hn : n ≤ 200) (hR : RunOK S n) : Call X mX9_run false (d + 6) [.ref (ad 9 0), .int (nI n)] (hp S) (.inl (some (.int (nI (rk S 0 n)))), hp (rn S (rk S 0 n)), 0, 0) := by
  refine Call.of fX9_run (by decide) rfl (by simp [Value.category]) (Nat.le_of_ble_eq_true rfl) (lv := [some (.ref (ad 9 0)), some (.int (nI n)), none]) rfl ?_
  refine x_iload_n dX9_run_0 rfl ?_
  refine x_iconst (v := 0) dX9_run_1 (by decide) ?_
  refine x_sipush (v := 200) dX9_run_2 (by decide) ?_
  refine x_cSv (as := [_, _, _]) dX9_run_5 fX9_needArgument rfl lk_RX9_47 rfl (Nat.le_of_ble_eq_true rfl) (c_needArg ⟨nI_pos (by omega), nI_le (b := 200) hn (by decide)⟩) (by simp) (by simp) ?_
  refine x_iconst (v := 0) dX9_run_8 (by decide) ?_
  refine x_istore_n (lv' := [_, _, _]) dX9_run_9 (by decide) rfl ?_
  refine x_heq (S2 := rn S 0) rfl ?_
  exact l_run hn hR n 0 (by omega)
set_option maxRecDepth 100000 in
set_option maxHeartbeats 4000000 in
theorem k_runA {X : XS} {d : Nat} {S : St} {x : Int32} (hx : badA x 0 200) : Call X mX9_run false (d + 7) [.ref (ad 9 0), .int x] (hp S) (.inr eA, hp (S), 1, 6) := by
  refine Call.of fX9_run (by decide) rfl (by simp [Value.category]) (Nat.le_of_ble_eq_true rfl) (lv := [some (.ref (ad 9 0)), some (.int x), none]) rfl ?_
  refine x_iload_n dX9_run_0 rfl ?_
  refine x_iconst (v := 0) dX9_run_1 (by decide) ?_
  refine x_sipush (v := 200) dX9_run_2 (by decide) ?_
  exact x_cST (as := [_, _, _]) dX9_run_5 fX9_needArgument rfl rfl lk_RX9_47 rfl (Nat.le_of_ble_eq_true rfl) (c_needArgT hx) rfl rfl (by simp) (by simp)
