theorem x_heq {X : XS} {M : Mt} {al : Bool} {d pc k n : Nat} {lv : List (Option Value)} {st : List Value} {S S2 : St} {r : Rs} (e : S2 = S) (kk : Ex X M al d pc lv st (hp S2) k n r) : Ex X M al d pc lv st (hp S) k n r := e ▸ kk
def NetOK (S : St) : Prop := ∃ (c : Nat) (p : Nat → Nat), c ≤ 60 ∧ S.1 6 0 2 = nI c ∧ ∀ k, k < 61 → p k < 61 ∧ S.1 11 0 k = nI (p k)
def nt_put (S : St) (p : Nat) (kd g m a b e : Int32) : St := sc (sc (sc (sc (sc (sc (sc S 6 0 2 (S.1 6 0 2 + 1)) 5 p 0 kd) 5 p 1 g) 5 p 2 m) 5 p 3 a) 5 p 4 b) 5 p 5 e
def nt_send (S : St) (kd g m a b e : Int32) : St := if S.1 6 0 2 < 60 then nt_put S (S.1 11 0 (S.1 6 0 2).toNatClampNeg).toNatClampNeg kd g m a b e else sc S 6 0 3 (S.1 6 0 3 + 1)
theorem nt_send_lt {S : St} {c p : Nat} {kd g m a b e : Int32} (hcn : S.1 6 0 2 = nI c) (hlt : c < 60) (hp : S.1 11 0 c = nI p) (hpl : p < 61) : nt_send S kd g m a b e = nt_put S p kd g m a b e := by
  unfold nt_send
  rw [if_pos (by rw [hcn]; exact nI_lt (b := 60) hlt (by decide)), hcn, nI_clamp (by omega), hp, nI_clamp (by omega)]
theorem nt_send_ge {S : St} {c : Nat} {kd g m a b e : Int32} (hcn : S.1 6 0 2 = nI c) (hge : 60 ≤ c) (hc : c ≤ 60) : nt_send S kd g m a b e = sc S 6 0 3 (S.1 6 0 3 + 1) := by
  unfold nt_send
  rw [if_neg (by rw [hcn]; exact nI_nlt (b := 60) hge (by omega))]
theorem nt_send_ok {S : St} {kd g m a b e : Int32} (h : NetOK S) : NetOK (nt_send S kd g m a b e) := by
  obtain ⟨c, p, hc, hcn, hpo⟩ := h
  by_cases hlt : c < 60
  · rw [nt_send_lt hcn hlt (hpo c (by omega)).2 (hpo c (by omega)).1]
    refine ⟨c + 1, p, by omega, ?_, fun k hk => ⟨(hpo k hk).1, ?_⟩⟩
    · simp [nt_put, sc_get, hcn, nI_1]
    · simp [nt_put, sc_get, (hpo k hk).2]
  · rw [nt_send_ge hcn (by omega) hc]
    refine ⟨c, p, hc, ?_, fun k hk => ⟨(hpo k hk).1, ?_⟩⟩
    · simp [sc_get, hcn]
    · simp [sc_get, (hpo k hk).2]
set_option maxRecDepth 100000 in
set_option maxHeartbeats 4000000 in
theorem c_send {X : XS} {d : Nat} {S : St} (hN : NetOK S) (kd g m a b e : Int32) : Call X mX6_send false d [.ref (ad 6 0), .int kd, .int g, .int m, .int a, .int b, .int e] (hp S) (.inl none, hp (nt_send S kd g m a b e), 0, 0) := by
  obtain ⟨c, p, hc, hcn, hpo⟩ := hN
  refine Call.of fX6_send (by decide) rfl (by simp [Value.category]) (Nat.le_of_ble_eq_true rfl) (lv := [some (.ref (ad 6 0)), some (.int kd), some (.int g), some (.int m), some (.int a), some (.int b), some (.int e), none]) rfl ?_
  refine x_aload_n dX6_send_0 rfl ?_
  refine x_get dX6_send_1 fl_RX6_22 (hp_get (κ := 6) (by decide)) rfl ?_
  refine x_bipush (v := 60) dX6_send_4 (by decide) ?_
  refine x_icmp_lt (tgt := 20) dX6_send_6 (by decide) (fun hc6 => ?_) (fun hc6 => ?_)
  · have hlt : c < 60 := (nI_ltI (b := 60) (by omega) (by decide)).mp (by rw [← hcn]; exact hc6)
    have hpc : p c < 61 := (hpo c (by omega)).1
    refine x_aload_n dX6_send_20 rfl ?_
    refine x_get dX6_send_21 fl_RX6_13 (hp_get (κ := 6) (by decide)) rfl ?_
    refine x_aload_n dX6_send_24 rfl ?_
    refine x_get dX6_send_25 fl_RX6_17 (hp_get (κ := 6) (by decide)) rfl ?_
    refine x_aload_n dX6_send_28 rfl ?_
    refine x_get dX6_send_29 fl_RX6_22 (hp_get (κ := 6) (by decide)) rfl ?_
    refine x_eqi hcn ?_
    refine x_ialdC dX6_send_32 ac_11 (by decide) (by first | omega | exact sl16_lt _ | assumption) (by decide) ?_
    refine x_eqi (hpo c (by omega)).2 ?_
    refine x_slots dX6_send_33 (by decide) (by first | omega | exact sl16_lt _ | assumption) ?_
    refine x_astore (lv' := [_, _, _, _, _, _, _, _]) dX6_send_34 (by decide) rfl ?_
    refine x_aload_n dX6_send_36 rfl ?_
    refine x_dup dX6_send_37 rfl ?_
    refine x_get dX6_send_38 fl_RX6_22 (hp_get (κ := 6) (by decide)) rfl ?_
    refine x_iconst (v := 1) dX6_send_41 (by decide) ?_
    refine x_iadd dX6_send_42 ?_
    refine x_putC dX6_send_43 fp_RX6_22 (by decide) pb_6_2 ⟨rfl, rfl⟩ ?_
    refine x_aload dX6_send_46 rfl ?_
    refine x_iload_n dX6_send_48 rfl ?_
    refine x_putC dX6_send_49 fp_RX6_29 (by first | assumption | (show _ < _; simp only [cnt]; omega)) pb_5_0 ⟨rfl, rfl⟩ ?_
    refine x_aload dX6_send_52 rfl ?_
    refine x_iload_n dX6_send_54 rfl ?_
    refine x_putC dX6_send_55 fp_RX6_32 (by first | assumption | (show _ < _; simp only [cnt]; omega)) pb_5_1 ⟨rfl, rfl⟩ ?_
    refine x_aload dX6_send_58 rfl ?_
    refine x_iload_n dX6_send_60 rfl ?_
    refine x_putC dX6_send_61 fp_RX6_35 (by first | assumption | (show _ < _; simp only [cnt]; omega)) pb_5_2 ⟨rfl, rfl⟩ ?_
    refine x_aload dX6_send_64 rfl ?_
    refine x_iload dX6_send_66 rfl ?_
    refine x_putC dX6_send_68 fp_RX6_38 (by first | assumption | (show _ < _; simp only [cnt]; omega)) pb_5_3 ⟨rfl, rfl⟩ ?_
    refine x_aload dX6_send_71 rfl ?_
    refine x_iload dX6_send_73 rfl ?_
    refine x_putC dX6_send_75 fp_RX6_41 (by first | assumption | (show _ < _; simp only [cnt]; omega)) pb_5_4 ⟨rfl, rfl⟩ ?_
    refine x_aload dX6_send_78 rfl ?_
    refine x_iload dX6_send_80 rfl ?_
    refine x_putC dX6_send_82 fp_RX6_44 (by first | assumption | (show _ < _; simp only [cnt]; omega)) pb_5_5 ⟨rfl, rfl⟩ ?_
    exact x_rV dX6_send_85 rfl rfl (by first | (rw [nt_send_lt hcn hlt (hpo c (by omega)).2 hpc]; rfl) | (rw [nt_send_ge hcn hge hc]) | (exfalso; simp_all; done)) (by simp) (by simp)
  · have hge : 60 ≤ c := Nat.not_lt.mp (fun z => hc6 (by rw [hcn]; exact nI_lt (b := 60) z (by decide)))
    refine x_aload_n dX6_send_9 rfl ?_
    refine x_dup dX6_send_10 rfl ?_
    refine x_get dX6_send_11 fl_RX6_26 (hp_get (κ := 6) (by decide)) rfl ?_
    refine x_iconst (v := 1) dX6_send_14 (by decide) ?_
    refine x_iadd dX6_send_15 ?_
    refine x_putC dX6_send_16 fp_RX6_26 (by decide) pb_6_3 ⟨rfl, rfl⟩ ?_
    exact x_rV dX6_send_19 rfl rfl (by first | (rw [nt_send_lt hcn hlt (hpo c (by omega)).2 hpc]; rfl) | (rw [nt_send_ge hcn hge hc]) | (exfalso; simp_all; done)) (by simp) (by simp)
def nt_at (S : St) (k : Nat) : Nat := (S.1 11 0 k).toNatClampNeg
theorem nt_at_ok {S : St} {k : Nat} (h : NetOK S) (hk : k < 61) : nt_at S k < 61 ∧ S.1 11 0 k = nI (nt_at S k) := by
  obtain ⟨c, p, hc, hcn, hpo⟩ := h
  have e : nt_at S k = p k := by unfold nt_at; rw [(hpo k hk).2, nI_clamp (by have := (hpo k hk).1; omega)]
  rw [e]
  exact hpo k hk
set_option maxRecDepth 100000 in
set_option maxHeartbeats 4000000 in
theorem c_at {X : XS} {d : Nat} {S : St} {k : Nat} (hN : NetOK S) (hk : k < 61) : Call X mX6_at false d [.ref (ad 6 0), .int (nI k)] (hp S) (.inl (some (.ref (ad 5 (nt_at S k)))), hp (S), 0, 0) := by
  refine Call.of fX6_at (by decide) rfl (by simp [Value.category]) (Nat.le_of_ble_eq_true rfl) (lv := [some (.ref (ad 6 0)), some (.int (nI k))]) rfl ?_
  refine x_aload_n dX6_at_0 rfl ?_
  refine x_get dX6_at_1 fl_RX6_13 (hp_get (κ := 6) (by decide)) rfl ?_
  refine x_aload_n dX6_at_4 rfl ?_
  refine x_get dX6_at_5 fl_RX6_17 (hp_get (κ := 6) (by decide)) rfl ?_
  refine x_iload_n dX6_at_8 rfl ?_
  refine x_ialdC dX6_at_9 ac_11 (by decide) (by first | omega | exact sl16_lt _ | assumption) (by decide) ?_
  refine x_eqi (nt_at_ok hN hk).2 ?_
  refine x_slots dX6_at_10 (by decide) (nt_at_ok hN hk).1 ?_
  exact x_rA dX6_at_11 rfl rfl rfl (by simp) (by simp)
def sa (S : St) (κ i : Nat) (f : Nat → Int32) : St := (fun a b c => if a = κ ∧ b = i then f c else S.1 a b c, S.2)
theorem sa_get {S : St} {κ i a b c : Nat} {f : Nat → Int32} : (sa S κ i f).1 a b c = if a = κ ∧ b = i then f c else S.1 a b c := rfl
theorem bld_sa {S : St} {κ i : Nat} {f : Nat → Int32} : ∀ κ' i', ¬ (κ' = κ ∧ i' = i) → bld (sa S κ i f) κ' i' = bld S κ' i' := by
  intro κ' i' h
  have e : ∀ j, (sa S κ i f).1 κ' i' j = S.1 κ' i' j := fun j => if_neg h
  have e2 : (sa S κ i f).1 κ' i' = S.1 κ' i' := funext e
  unfold bld
  split <;> first | rfl | (simp only [e]; done) | (rw [e2]; done) | (simp only [e]; rfl) | (rw [e2]; rfl)
theorem x_acopyO {X : XS} {M : Mt} {al : Bool} {d pc k n : Nat} {lv : List (Option Value)} {st : List Value} {S : St} {r : Rs} {sp dp m0 : Nat} {idx : Nat} (hd : decode (Mc M) pc = .ok (.invokestatic idx, 3)) (hlk : Cond.methodLink M.1.cls idx arraycopyName ∈ wsL_law) (h4 : sp + m0 ≤ 61) (h5 : dp + m0 ≤ 61) (hdp : 1 ≤ d) (hrs : (st.map fun v => v.category).sum + (nativeFrameWords "java/lang/System" "arraycopy" 5 + 11) ≤ 34)
    (kk : Ex X M al d (pc + 3) lv st (hp (sa S 11 0 (va_cpy (S.1 11 0) (S.1 11 0) sp dp m0))) k n r) : Ex X M al d pc lv (.int (nI m0) :: .int (nI dp) :: .ref (ad 11 0) :: .int (nI sp) :: .ref (ad 11 0) :: st) (hp S) k n r := by
  refine x_acopy hd hlk wo_nt wo_st wo_sy (hp_get (κ := 11) (by decide)) (nI_pos (by omega)) (nI_pos (by omega)) (nI_pos (by omega)) (by rw [nI_clamp (by omega), nI_clamp (by omega)]; exact h4) (by rw [nI_clamp (by omega), nI_clamp (by omega)]; exact h5) hdp hrs ?_
  rw [nI_clamp (by omega), nI_clamp (by omega), nI_clamp (by omega)]
  have e1 : bld (sa S 11 0 (va_cpy (S.1 11 0) (S.1 11 0) sp dp m0)) 11 0 = .inl (0, 61, .inl (va_cpy (S.1 11 0) (S.1 11 0) sp dp m0)) := by
    have e0 : (sa S 11 0 (va_cpy (S.1 11 0) (S.1 11 0) sp dp m0)).1 11 0 = va_cpy (S.1 11 0) (S.1 11 0) sp dp m0 := by funext c; simp [sa]
    rw [ac_11, e0]
  have e2 := hp_set (S := S) (S' := sa S 11 0 (va_cpy (S.1 11 0) (S.1 11 0) sp dp m0)) (κ := 11) (i := 0) (by decide) (fun κ' i' q _ => bld_sa κ' i' q)
  rw [e1] at e2
  rw [e2]
  exact kk
def nt_out (S : St) (k : Nat) : St := let S1 := sc (sa S 11 0 (va_cpy (S.1 11 0) (S.1 11 0) (k + 1) k (60 - k))) 11 0 60 (nI (nt_at S k)); sc S1 6 0 2 (S1.1 6 0 2 - 1)
set_option maxRecDepth 100000 in
set_option maxHeartbeats 4000000 in
theorem c_takeOut {X : XS} {d : Nat} {S : St} {k : Nat} (hN : NetOK S) (hk : k < 60) : Call X mX6_takeOut false (d + 1) [.ref (ad 6 0), .int (nI k)] (hp S) (.inl (some (.ref (ad 5 (nt_at S k)))), hp (nt_out S k), 0, 0) := by
  refine Call.of fX6_takeOut (by decide) rfl (by simp [Value.category]) (Nat.le_of_ble_eq_true rfl) (lv := [some (.ref (ad 6 0)), some (.int (nI k)), none]) rfl ?_
  refine x_aload_n dX6_takeOut_0 rfl ?_
  refine x_get dX6_takeOut_1 fl_RX6_17 (hp_get (κ := 6) (by decide)) rfl ?_
  refine x_iload_n dX6_takeOut_4 rfl ?_
  refine x_ialdC dX6_takeOut_5 ac_11 (by decide) (by first | omega | exact sl16_lt _ | assumption) (by decide) ?_
  refine x_eqi (nt_at_ok hN (by omega)).2 ?_
  refine x_istore_n (lv' := [_, _, _]) dX6_takeOut_6 (by decide) rfl ?_
  refine x_aload_n dX6_takeOut_7 rfl ?_
  refine x_get dX6_takeOut_8 fl_RX6_17 (hp_get (κ := 6) (by decide)) rfl ?_
  refine x_iload_n dX6_takeOut_11 rfl ?_
  refine x_iconst (v := 1) dX6_takeOut_12 (by decide) ?_
  refine x_iadd dX6_takeOut_13 ?_
  refine x_eqi (nI_1 k) ?_
  refine x_aload_n dX6_takeOut_14 rfl ?_
  refine x_get dX6_takeOut_15 fl_RX6_17 (hp_get (κ := 6) (by decide)) rfl ?_
  refine x_iload_n dX6_takeOut_18 rfl ?_
  refine x_bipush (v := 60) dX6_takeOut_19 (by decide) ?_
  refine x_iload_n dX6_takeOut_21 rfl ?_
  refine x_isub dX6_takeOut_22 ?_
  refine x_eqi (show (60 : Int32) - nI k = nI (60 - k) from pk_sub (a := 60) (by omega)) ?_
  refine x_acopyO dX6_takeOut_23 wo_RX6_47 (by omega) (by omega) (by omega) (Nat.le_of_ble_eq_true rfl) ?_
  refine x_aload_n dX6_takeOut_26 rfl ?_
  refine x_get dX6_takeOut_27 fl_RX6_17 (hp_get (κ := 6) (by decide)) rfl ?_
  refine x_bipush (v := 60) dX6_takeOut_30 (by decide) ?_
  refine x_iload_n dX6_takeOut_32 rfl ?_
  refine x_iastC dX6_takeOut_33 ac_11 (by decide) (show (60 : Nat) < 61 by decide) (by decide) ?_
  refine x_aload_n dX6_takeOut_34 rfl ?_
  refine x_dup dX6_takeOut_35 rfl ?_
  refine x_get dX6_takeOut_36 fl_RX6_22 (hp_get (κ := 6) (by decide)) rfl ?_
  refine x_iconst (v := 1) dX6_takeOut_39 (by decide) ?_
  refine x_isub dX6_takeOut_40 ?_
  refine x_putC dX6_takeOut_41 fp_RX6_22 (by decide) pb_6_2 ⟨rfl, rfl⟩ ?_
  refine x_aload_n dX6_takeOut_44 rfl ?_
  refine x_get dX6_takeOut_45 fl_RX6_13 (hp_get (κ := 6) (by decide)) rfl ?_
  refine x_iload_n dX6_takeOut_48 rfl ?_
  refine x_slots dX6_takeOut_49 (by decide) (nt_at_ok hN (by omega)).1 ?_
  exact x_rA dX6_takeOut_50 rfl rfl rfl (by simp) (by simp)
set_option maxRecDepth 100000 in
set_option maxHeartbeats 4000000 in
theorem c_tell {X : XS} {d : Nat} {S : St} {g : Nat} (hg : g < 3) (hN : NetOK S) (kd m a b : Int32) : Call X mX7_tell false (d + 1) [.ref (ad 7 g), .int kd, .int m, .int a, .int b] (hp S) (.inl none, hp (nt_send S kd (nI g) m a b 0), 0, 0) := by
  refine Call.of fX7_tell (by decide) rfl (by simp [Value.category]) (Nat.le_of_ble_eq_true rfl) (lv := [some (.ref (ad 7 g)), some (.int kd), some (.int m), some (.int a), some (.int b)]) rfl ?_
  refine x_aload_n dX7_tell_0 rfl ?_
  refine x_get dX7_tell_1 fl_RX7_9 (hp_get (κ := 7) (by first | assumption | (show _ < _; simp only [cnt]; omega))) rfl ?_
  refine x_iload_n dX7_tell_4 rfl ?_
  refine x_aload_n dX7_tell_5 rfl ?_
  refine x_get dX7_tell_6 fl_RX7_15 (hp_get (κ := 7) (by first | assumption | (show _ < _; simp only [cnt]; omega))) rfl ?_
  refine x_iload_n dX7_tell_9 rfl ?_
  refine x_iload_n dX7_tell_10 rfl ?_
  refine x_iload dX7_tell_11 rfl ?_
  refine x_iconst (v := 0) dX7_tell_13 (by decide) ?_
  refine x_cVv (as := [_, _, _, _, _, _]) dX7_tell_14 fX6_send rfl lk_RX7_26 rfl (hp_get (κ := 6) (by decide)) rfl rfl (Nat.le_of_ble_eq_true rfl) (c_send hN _ _ _ _ _ _) (by simp) (by simp) ?_
  exact x_rV dX7_tell_17 rfl rfl rfl (by simp) (by simp)
def ot1 (S : St) (g : Nat) (kd mem a b e : Int32) (i : Nat) : St := if nI i = mem then S else if S.1 4 (6 * g + i) 0 = 0 then S else nt_send S kd (nI g) (nI i) a b e
def ot (S : St) (g : Nat) (kd mem a b e : Int32) : Nat → St
  | 0 => S
  | i + 1 => ot1 (ot S g kd mem a b e i) g kd mem a b e i
theorem ot_ok {S : St} {g : Nat} {kd mem a b e : Int32} (h : NetOK S) : ∀ n, NetOK (ot S g kd mem a b e n)
  | 0 => h
  | n + 1 => by
    show NetOK (ot1 _ _ _ _ _ _ _ _)
    unfold ot1
    split
    · exact ot_ok h n
    · split
      · exact ot_ok h n
      · exact nt_send_ok (ot_ok h n)
set_option maxRecDepth 100000 in
set_option maxHeartbeats 4000000 in
theorem l_others {X : XS} {d : Nat} {S : St} {g : Nat} (hg : g < 3) (hN : NetOK S) (kd mem a b e : Int32) : ∀ n j, j + n = 6 → Ex X mX7_tellOthers false (d + 1) 3 [some (.ref (ad 7 g)), some (.int kd), some (.int mem), some (.int a), some (.int b), some (.int e), some (.int (nI j))] [] (hp (ot S g kd mem a b e j)) 0 0 (.inl none, hp (ot S g kd mem a b e 6), 0, 0) := by
  intro n
  induction n with
  | zero =>
    intro j hj
    have hj6 : j = 6 := by omega
    subst hj6
    refine x_iload dX7_tellOthers_3 rfl ?_
    refine x_bipush (v := 6) dX7_tellOthers_5 (by decide) ?_
    refine x_icmp_ge (tgt := 54) dX7_tellOthers_7 (by decide) (fun hc7 => ?_) (fun hc7 => absurd hc7 (by decide))
    exact x_rV dX7_tellOthers_54 rfl rfl rfl (by simp) (by simp)
  | succ n ih =>
    intro j hj
    refine x_iload dX7_tellOthers_3 rfl ?_
    refine x_bipush (v := 6) dX7_tellOthers_5 (by decide) ?_
    refine x_icmp_ge (tgt := 54) dX7_tellOthers_7 (by decide) (fun hc7 => absurd hc7 (nI_ge (b := 6) (by omega) (by decide))) (fun hc7 => ?_)
    refine x_iload dX7_tellOthers_10 rfl ?_
    refine x_iload_n dX7_tellOthers_12 rfl ?_
    refine x_icmp_eq (tgt := 48) dX7_tellOthers_13 (by decide) (fun hc13 => ?_) (fun hc13 => ?_)
    · refine x_iinc (v := _ + 1) (lv' := [_, _, _, _, _, _, _]) dX7_tellOthers_48 rfl rfl (by decide) rfl ?_
      refine x_goto (tgt := 3) dX7_tellOthers_51 (by decide) ?_
      refine x_heq (S2 := ot S g kd mem a b e (j + 1)) (by simp [ot, ot1, hc7, hc13]) ?_
      rw [nI_1]
      exact ih (j + 1) (by omega)
    · refine x_aload_n dX7_tellOthers_16 rfl ?_
      refine x_get dX7_tellOthers_17 fl_RX7_21 (hp_get (κ := 7) (by first | assumption | (show _ < _; simp only [cnt]; omega))) rfl ?_
      refine x_iload dX7_tellOthers_20 rfl ?_
      refine x_members dX7_tellOthers_22 (by first | assumption | (show _ < _; simp only [cnt]; omega)) (by first | omega | exact sl16_lt _ | assumption) ?_
      refine x_get dX7_tellOthers_23 fl_RX7_32 (hp_get (κ := 4) (by first | assumption | (show _ < _; simp only [cnt]; omega))) rfl ?_
      refine x_if_eq (tgt := 48) dX7_tellOthers_26 (by decide) (fun hc26 => ?_) (fun hc26 => ?_)
      · refine x_iinc (v := _ + 1) (lv' := [_, _, _, _, _, _, _]) dX7_tellOthers_48 rfl rfl (by decide) rfl ?_
        refine x_goto (tgt := 3) dX7_tellOthers_51 (by decide) ?_
        refine x_heq (S2 := ot S g kd mem a b e (j + 1)) (by simp [ot, ot1, hc7, hc13, hc26]) ?_
        rw [nI_1]
        exact ih (j + 1) (by omega)
      · refine x_aload_n dX7_tellOthers_29 rfl ?_
        refine x_get dX7_tellOthers_30 fl_RX7_9 (hp_get (κ := 7) (by first | assumption | (show _ < _; simp only [cnt]; omega))) rfl ?_
        refine x_iload_n dX7_tellOthers_33 rfl ?_
        refine x_aload_n dX7_tellOthers_34 rfl ?_
        refine x_get dX7_tellOthers_35 fl_RX7_15 (hp_get (κ := 7) (by first | assumption | (show _ < _; simp only [cnt]; omega))) rfl ?_
        refine x_iload dX7_tellOthers_38 rfl ?_
        refine x_iload_n dX7_tellOthers_40 rfl ?_
        refine x_iload dX7_tellOthers_41 rfl ?_
        refine x_iload dX7_tellOthers_43 rfl ?_
        refine x_cVv (as := [_, _, _, _, _, _]) dX7_tellOthers_45 fX6_send rfl lk_RX7_26 rfl (hp_get (κ := 6) (by decide)) rfl rfl (Nat.le_of_ble_eq_true rfl) (c_send (ot_ok hN j) _ _ _ _ _ _) (by simp) (by simp) ?_
        refine x_iinc (v := _ + 1) (lv' := [_, _, _, _, _, _, _]) dX7_tellOthers_48 rfl rfl (by decide) rfl ?_
        refine x_goto (tgt := 3) dX7_tellOthers_51 (by decide) ?_
        refine x_heq (S2 := ot S g kd mem a b e (j + 1)) (by simp [ot, ot1, hc7, hc13, hc26]) ?_
        rw [nI_1]
        exact ih (j + 1) (by omega)
set_option maxRecDepth 100000 in
set_option maxHeartbeats 4000000 in
theorem c_tellOthers {X : XS} {d : Nat} {S : St} {g : Nat} (hg : g < 3) (hN : NetOK S) (kd mem a b e : Int32) : Call X mX7_tellOthers false (d + 1) [.ref (ad 7 g), .int kd, .int mem, .int a, .int b, .int e] (hp S) (.inl none, hp (ot S g kd mem a b e 6), 0, 0) := by
  refine Call.of fX7_tellOthers (by decide) rfl (by simp [Value.category]) (Nat.le_of_ble_eq_true rfl) (lv := [some (.ref (ad 7 g)), some (.int kd), some (.int mem), some (.int a), some (.int b), some (.int e), none]) rfl ?_
  refine x_iconst (v := 0) dX7_tellOthers_0 (by decide) ?_
  refine x_istore (lv' := [_, _, _, _, _, _, _]) dX7_tellOthers_1 (by decide) rfl ?_
  exact l_others hg hN kd mem a b e 6 0 (by omega)
def pp1 (S : St) (g : Nat) (t : Int32) (i : Nat) : St := if S.1 4 (6 * g + i) 0 = 0 then S else li_play S (6 * g + i) t
def pp (S : St) (g : Nat) (t : Int32) : Nat → St
  | 0 => S
  | i + 1 => pp1 (pp S g t i) g t i
set_option maxRecDepth 100000 in
set_option maxHeartbeats 4000000 in
theorem l_ppl {X : XS} {d : Nat} {S : St} {g : Nat} (hg : g < 3) (t : Int32) : ∀ n j, j + n = 6 → Ex X mX7_play false (d + 4) 2 [some (.ref (ad 7 g)), some (.int t), some (.int (nI j))] [] (hp (pp S g t j)) 0 0 (.inl none, hp (pp S g t 6), 0, 0) := by
  intro n
  induction n with
  | zero =>
    intro j hj
    have hj6 : j = 6 := by omega
    subst hj6
    refine x_iload_n dX7_play_2 rfl ?_
    refine x_bipush (v := 6) dX7_play_3 (by decide) ?_
    refine x_icmp_ge (tgt := 39) dX7_play_5 (by decide) (fun hc5 => ?_) (fun hc5 => absurd hc5 (by decide))
    exact x_rV dX7_play_39 rfl rfl rfl (by simp) (by simp)
  | succ n ih =>
    intro j hj
    refine x_iload_n dX7_play_2 rfl ?_
    refine x_bipush (v := 6) dX7_play_3 (by decide) ?_
    refine x_icmp_ge (tgt := 39) dX7_play_5 (by decide) (fun hc5 => absurd hc5 (nI_ge (b := 6) (by omega) (by decide))) (fun hc5 => ?_)
    refine x_aload_n dX7_play_8 rfl ?_
    refine x_get dX7_play_9 fl_RX7_21 (hp_get (κ := 7) (by first | assumption | (show _ < _; simp only [cnt]; omega))) rfl ?_
    refine x_iload_n dX7_play_12 rfl ?_
    refine x_members dX7_play_13 (by first | assumption | (show _ < _; simp only [cnt]; omega)) (by first | omega | exact sl16_lt _ | assumption) ?_
    refine x_get dX7_play_14 fl_RX7_32 (hp_get (κ := 4) (by first | assumption | (show _ < _; simp only [cnt]; omega))) rfl ?_
    refine x_if_eq (tgt := 33) dX7_play_17 (by decide) (fun hc17 => ?_) (fun hc17 => ?_)
    · refine x_iinc (v := _ + 1) (lv' := [_, _, _]) dX7_play_33 rfl rfl (by decide) rfl ?_
      refine x_goto (tgt := 2) dX7_play_36 (by decide) ?_
      refine x_heq (S2 := pp S g t (j + 1)) (by simp [pp, pp1, hc5, hc17]) ?_
      rw [nI_1]
      exact ih (j + 1) (by omega)
    · refine x_aload_n dX7_play_20 rfl ?_
      refine x_get dX7_play_21 fl_RX7_21 (hp_get (κ := 7) (by first | assumption | (show _ < _; simp only [cnt]; omega))) rfl ?_
      refine x_iload_n dX7_play_24 rfl ?_
      refine x_members dX7_play_25 (by first | assumption | (show _ < _; simp only [cnt]; omega)) (by first | omega | exact sl16_lt _ | assumption) ?_
      refine x_get dX7_play_26 fl_RX7_36 (hp_get (κ := 4) (by first | assumption | (show _ < _; simp only [cnt]; omega))) rfl ?_
      refine x_iload_n dX7_play_29 rfl ?_
      refine x_cVv (as := [_]) dX7_play_30 fX3_play rfl lk_RX7_40 rfl (hp_get (κ := 3) (by first | assumption | (show _ < _; simp only [cnt]; omega))) rfl rfl (Nat.le_of_ble_eq_true rfl) (c_liPlay (by omega) _) (by simp) (by simp) ?_
      refine x_iinc (v := _ + 1) (lv' := [_, _, _]) dX7_play_33 rfl rfl (by decide) rfl ?_
      refine x_goto (tgt := 2) dX7_play_36 (by decide) ?_
      refine x_heq (S2 := pp S g t (j + 1)) (by simp [pp, pp1, hc5, hc17]) ?_
      rw [nI_1]
      exact ih (j + 1) (by omega)
set_option maxRecDepth 100000 in
set_option maxHeartbeats 4000000 in
theorem c_ppl {X : XS} {d : Nat} {S : St} {g : Nat} (hg : g < 3) (t : Int32) : Call X mX7_play false (d + 4) [.ref (ad 7 g), .int t] (hp S) (.inl none, hp (pp S g t 6), 0, 0) := by
  refine Call.of fX7_play (by decide) rfl (by simp [Value.category]) (Nat.le_of_ble_eq_true rfl) (lv := [some (.ref (ad 7 g)), some (.int t), none]) rfl ?_
  refine x_iconst (v := 0) dX7_play_0 (by decide) ?_
  refine x_istore_n (lv' := [_, _, _]) dX7_play_1 (by decide) rfl ?_
  exact l_ppl hg t 6 0 (by omega)
