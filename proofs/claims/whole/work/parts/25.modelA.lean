/-! the model's methods -/
section YM
variable {X : XS} {M : Mt} {al : Bool} {d pc k n : Nat} {lv : List (Option Value)} {st : List Value} {S : St} {r : Rs}
theorem y_ialdM {f κ N j : Nat} (hd : decode (Mc M) pc = .ok (.iaload, 1)) (ha : AM f 0 N) (hκ : 30 + f = κ) (hj : j < N) (hN : N < 2 ^ 31) (kk : Ex X M al d (pc + 1) lv (.int (S.2.2.1 f j) :: st) (hp S) k n r) : Ex X M al d pc lv (.int (nI j) :: .ref (ad κ 0) :: st) (hp S) k n r := by
  subst hκ; exact x_ialdM hd ha hj hN kk
theorem y_zaldM {f κ N j : Nat} (hd : decode (Mc M) pc = .ok (.baload, 1)) (ha : AM f 1 N) (hκ : 30 + f = κ) (hj : j < N) (hN : N < 2 ^ 31) (kk : Ex X M al d (pc + 1) lv (.int (S.2.2.1 f j) :: st) (hp S) k n r) : Ex X M al d pc lv (.int (nI j) :: .ref (ad κ 0) :: st) (hp S) k n r := by
  subst hκ; exact x_zaldM hd ha hj hN kk
theorem y_iastM {f κ N j : Nat} {x : Int32} (hd : decode (Mc M) pc = .ok (.iastore, 1)) (ha : AM f 0 N) (hκ : 30 + f = κ) (hj : j < N) (hN : N < 2 ^ 31) (kk : Ex X M al d (pc + 1) lv st (hp (sm S f j x)) k n r) : Ex X M al d pc lv (.int x :: .int (nI j) :: .ref (ad κ 0) :: st) (hp S) k n r := by
  subst hκ; exact x_iastM hd ha hj hN kk
theorem y_zastM {f κ N j : Nat} {x : Int32} (hd : decode (Mc M) pc = .ok (.bastore, 1)) (ha : AM f 1 N) (hκ : 30 + f = κ) (hj : j < N) (hN : N < 2 ^ 31) (hx : vp_nar .boolean x = x) (kk : Ex X M al d (pc + 1) lv st (hp (sm S f j x)) k n r) : Ex X M al d pc lv (.int x :: .int (nI j) :: .ref (ad κ 0) :: st) (hp S) k n r := by
  subst hκ; exact x_zastM hd ha hj hN hx kk
end YM
theorem sm_get {S : St} {f i a b : Nat} {v : Int32} : (sm S f i v).2.2.1 a b = if a = f ∧ b = i then v else S.2.2.1 a b := rfl
theorem sm_1 {S : St} {f i : Nat} {v : Int32} : (sm S f i v).1 = S.1 := rfl
theorem sm_21 {S : St} {f i : Nat} {v : Int32} : (sm S f i v).2.1 = S.2.1 := rfl
theorem sm_222 {S : St} {f i : Nat} {v : Int32} : (sm S f i v).2.2.2 = S.2.2.2 := rfl
theorem ix6m (g : Nat) : (6 : Int32) * nI g = nI (6 * g) := by rw [show (6 : Int32) = nI 6 from rfl, pk_mul]
theorem ix64m (g : Nat) : (64 : Int32) * nI g = nI (64 * g) := by rw [show (64 : Int32) = nI 64 from rfl, pk_mul]
theorem ix6_1 (g : Nat) : (6 : Int32) * nI g + 1 = nI (6 * g + 1) := ix6 g 1
theorem ix6_2 (g : Nat) : (6 : Int32) * nI g + 2 = nI (6 * g + 2) := ix6 g 2
theorem ix6_3 (g : Nat) : (6 : Int32) * nI g + 3 = nI (6 * g + 3) := ix6 g 3
theorem ix6_4 (g : Nat) : (6 : Int32) * nI g + 4 = nI (6 * g + 4) := ix6 g 4
theorem ix6_5 (g : Nat) : (6 : Int32) * nI g + 5 = nI (6 * g + 5) := ix6 g 5
theorem ix6_6 (g : Nat) : (6 : Int32) * nI g + 6 = nI (6 * g + 6) := ix6 g 6
theorem nIp_1 (g : Nat) : nI g + 1 = nI (g + 1) := by rw [show (1 : Int32) = nI 1 from rfl, nI_add]
theorem nIp_2 (g : Nat) : nI g + 2 = nI (g + 2) := by rw [show (2 : Int32) = nI 2 from rfl, nI_add]
theorem nIp_3 (g : Nat) : nI g + 3 = nI (g + 3) := by rw [show (3 : Int32) = nI 3 from rfl, nI_add]
theorem nIp_4 (g : Nat) : nI g + 4 = nI (g + 4) := by rw [show (4 : Int32) = nI 4 from rfl, nI_add]
theorem nIp_5 (g : Nat) : nI g + 5 = nI (g + 5) := by rw [show (5 : Int32) = nI 5 from rfl, nI_add]
theorem nIp_6 (g : Nat) : nI g + 6 = nI (g + 6) := by rw [show (6 : Int32) = nI 6 from rfl, nI_add]
theorem div6 : ∀ g, g < 3 → ∀ m, m < 6 → nI (6 * g + m) / 6 = nI g := by decide
theorem sub6 (g j : Nat) : nI (6 * g + j) - 6 * nI g = nI j := by
  rw [ix6m, pk_sub (by omega)]
  congr 1
  omega
def wi (v a b : Int32) : Bool := decide (¬ v < a ∧ v ≤ b)
set_option maxRecDepth 100000 in
set_option maxHeartbeats 400000 in
theorem c_within {X : XS} {d : Nat} {S : St} (v a b : Int32) : Call X mX10_within false d [.int v, .int a, .int b] (hp S) (.inl (some (.int (bI (wi v a b)))), hp (S), 0, 0) := by
  refine Call.of fX10_within (by decide) rfl (by simp [Value.category]) (Nat.le_of_ble_eq_true rfl) (lv := [some (.int v), some (.int a), some (.int b)]) rfl ?_
  refine x_iload_n dX10_within_0 rfl ?_
  refine x_iload_n dX10_within_1 rfl ?_
  refine x_icmp_lt (tgt := 14) dX10_within_2 (by decide) (fun hc2 => ?_) (fun hc2 => ?_)
  · refine x_iconst (v := 0) dX10_within_14 (by decide) ?_
    exact x_rI dX10_within_15 rfl (by first | exact (bI_nf _).1 | decide) (by first | (simp [wi, bI, hc2]; done) | (exfalso; simp_all; done)) rfl (by simp) (by simp)
  · refine x_iload_n dX10_within_5 rfl ?_
    refine x_iload_n dX10_within_6 rfl ?_
    refine x_icmp_gt (tgt := 14) dX10_within_7 (by decide) (fun hc7 => ?_) (fun hc7 => ?_)
    · refine x_iconst (v := 0) dX10_within_14 (by decide) ?_
      exact x_rI dX10_within_15 rfl (by first | exact (bI_nf _).1 | decide) (by first | (simp [wi, bI, hc2, hc7]; done) | (exfalso; simp_all; done)) rfl (by simp) (by simp)
    · refine x_iconst (v := 1) dX10_within_10 (by decide) ?_
      refine x_goto (tgt := 15) dX10_within_11 (by decide) ?_
      exact x_rI dX10_within_15 rfl (by first | exact (bI_nf _).1 | decide) (by first | (simp [wi, bI, hc2, hc7]; done) | (exfalso; simp_all; done)) rfl (by simp) (by simp)
def isM (x y : Int32) : Bool := wi x 0 2 && wi y 0 5
set_option maxRecDepth 100000 in
set_option maxHeartbeats 400000 in
theorem c_isMember {X : XS} {d : Nat} {S : St} (x y : Int32) : Call X mX10_isMember false (d + 1) [.int x, .int y] (hp S) (.inl (some (.int (bI (isM x y)))), hp (S), 0, 0) := by
  refine Call.of fX10_isMember (by decide) rfl (by simp [Value.category]) (Nat.le_of_ble_eq_true rfl) (lv := [some (.int x), some (.int y)]) rfl ?_
  refine x_iload_n dX10_isMember_0 rfl ?_
  refine x_iconst (v := 0) dX10_isMember_1 (by decide) ?_
  refine x_iconst (v := 2) dX10_isMember_2 (by decide) ?_
  refine x_cS (as := [_, _, _]) dX10_isMember_3 fX10_within rfl lk_RX10_150 rfl (Nat.le_of_ble_eq_true rfl) (c_within _ _ _) (by simp) (by simp) ?_
  refine x_if_eqB (tgt := 22) dX10_isMember_6 (by decide) (fun hc6 => ?_) (fun hc6 => ?_)
  · refine x_iconst (v := 0) dX10_isMember_22 (by decide) ?_
    exact x_rI dX10_isMember_23 rfl (by first | exact (bI_nf _).1 | decide) (by first | (simp [isM, bI, hc6]; done) | (exfalso; simp_all; done)) rfl (by simp) (by simp)
  · refine x_iload_n dX10_isMember_9 rfl ?_
    refine x_iconst (v := 0) dX10_isMember_10 (by decide) ?_
    refine x_iconst (v := 5) dX10_isMember_11 (by decide) ?_
    refine x_cS (as := [_, _, _]) dX10_isMember_12 fX10_within rfl lk_RX10_150 rfl (Nat.le_of_ble_eq_true rfl) (c_within _ _ _) (by simp) (by simp) ?_
    refine x_if_eqB (tgt := 22) dX10_isMember_15 (by decide) (fun hc15 => ?_) (fun hc15 => ?_)
    · refine x_iconst (v := 0) dX10_isMember_22 (by decide) ?_
      exact x_rI dX10_isMember_23 rfl (by first | exact (bI_nf _).1 | decide) (by first | (simp [isM, bI, hc6, hc15]; done) | (exfalso; simp_all; done)) rfl (by simp) (by simp)
    · refine x_iconst (v := 1) dX10_isMember_18 (by decide) ?_
      refine x_goto (tgt := 23) dX10_isMember_19 (by decide) ?_
      exact x_rI dX10_isMember_23 rfl (by first | exact (bI_nf _).1 | decide) (by first | (simp [isM, bI, hc6, hc15]; done) | (exfalso; simp_all; done)) rfl (by simp) (by simp)
def mC (S : St) : Nat := (S.2.2.1 3 0).toNatClampNeg
def MO (S : St) : Prop := S.2.2.1 3 0 = nI (mC S) ∧ mC S ≤ 60
def ml_put (S : St) (c : Nat) (kd g m a b e : Int32) : St := let S1 := sm (sm (sm (sm (sm (sm S 4 (6 * c) kd) 4 (6 * c + 1) g) 4 (6 * c + 2) m) 4 (6 * c + 3) a) 4 (6 * c + 4) b) 4 (6 * c + 5) e; sm S1 3 0 (S1.2.2.1 3 0 + 1)
def ml_send (S : St) (kd g m a b e : Int32) : St := if S.2.2.1 3 0 = 60 then sm S 2 0 (S.2.2.1 2 0 + 1) else ml_put S (mC S) kd g m a b e
theorem MO.lt {S : St} (h : MO S) (h2 : ¬ S.2.2.1 3 0 = 60) : mC S < 60 := by
  rcases Nat.lt_or_ge (mC S) 60 with q | q
  · exact q
  · exfalso
    apply h2
    rw [h.1, show mC S = 60 by have := h.2; omega]
    rfl
set_option maxRecDepth 100000 in
set_option maxHeartbeats 400000 in
theorem c_mSend {X : XS} {d : Nat} {S : St} (h : MO S) (kd g m a b e : Int32) : Call X mX10_send false d [.ref (ad 10 0), .int kd, .int g, .int m, .int a, .int b, .int e] (hp S) (.inl none, hp (ml_send S kd g m a b e), 0, 0) := by
  refine Call.of fX10_send (by decide) rfl (by simp [Value.category]) (Nat.le_of_ble_eq_true rfl) (lv := [some (.ref (ad 10 0)), some (.int kd), some (.int g), some (.int m), some (.int a), some (.int b), some (.int e), none]) rfl ?_
  refine x_aload_n dX10_send_0 rfl ?_
  refine x_get dX10_send_1 fl_RX10_154 (hp_get (κ := 10) (by decide)) rfl ?_
  refine x_bipush (v := 60) dX10_send_4 (by decide) ?_
  refine x_icmp_ne (tgt := 20) dX10_send_6 (by decide) (fun hc6 => ?_) (fun hc6 => ?_)
  · have hlt := h.lt hc6
    refine x_bipush (v := 6) dX10_send_20 (by decide) ?_
    refine x_aload_n dX10_send_22 rfl ?_
    refine x_get dX10_send_23 fl_RX10_154 (hp_get (κ := 10) (by decide)) rfl ?_
    refine x_eqi h.1 ?_
    refine x_imul dX10_send_26 ?_
    refine x_eqi (ix6m _) ?_
    refine x_istore (lv' := [_, _, _, _, _, _, _, _]) dX10_send_27 (by decide) rfl ?_
    refine x_aload_n dX10_send_29 rfl ?_
    refine x_get dX10_send_30 fl_RX10_7 (hp_get (κ := 10) (by decide)) rfl ?_
    refine x_iload dX10_send_33 rfl ?_
    refine x_iload_n dX10_send_35 rfl ?_
    refine y_iastM (f := 4) (κ := 34) dX10_send_36 am_4 rfl (by first | omega | exact sl16_lt _ | assumption) (by decide) ?_
    refine x_aload_n dX10_send_37 rfl ?_
    refine x_get dX10_send_38 fl_RX10_7 (hp_get (κ := 10) (by decide)) rfl ?_
    refine x_iload dX10_send_41 rfl ?_
    refine x_iconst (v := 1) dX10_send_43 (by decide) ?_
    refine x_iadd dX10_send_44 ?_
    refine x_eqi (nIp_1 _) ?_
    refine x_iload_n dX10_send_45 rfl ?_
    refine y_iastM (f := 4) (κ := 34) dX10_send_46 am_4 rfl (by first | omega | exact sl16_lt _ | assumption) (by decide) ?_
    refine x_aload_n dX10_send_47 rfl ?_
    refine x_get dX10_send_48 fl_RX10_7 (hp_get (κ := 10) (by decide)) rfl ?_
    refine x_iload dX10_send_51 rfl ?_
    refine x_iconst (v := 2) dX10_send_53 (by decide) ?_
    refine x_iadd dX10_send_54 ?_
    refine x_eqi (nIp_2 _) ?_
    refine x_iload_n dX10_send_55 rfl ?_
    refine y_iastM (f := 4) (κ := 34) dX10_send_56 am_4 rfl (by first | omega | exact sl16_lt _ | assumption) (by decide) ?_
    refine x_aload_n dX10_send_57 rfl ?_
    refine x_get dX10_send_58 fl_RX10_7 (hp_get (κ := 10) (by decide)) rfl ?_
    refine x_iload dX10_send_61 rfl ?_
    refine x_iconst (v := 3) dX10_send_63 (by decide) ?_
    refine x_iadd dX10_send_64 ?_
    refine x_eqi (nIp_3 _) ?_
    refine x_iload dX10_send_65 rfl ?_
    refine y_iastM (f := 4) (κ := 34) dX10_send_67 am_4 rfl (by first | omega | exact sl16_lt _ | assumption) (by decide) ?_
    refine x_aload_n dX10_send_68 rfl ?_
    refine x_get dX10_send_69 fl_RX10_7 (hp_get (κ := 10) (by decide)) rfl ?_
    refine x_iload dX10_send_72 rfl ?_
    refine x_iconst (v := 4) dX10_send_74 (by decide) ?_
    refine x_iadd dX10_send_75 ?_
    refine x_eqi (nIp_4 _) ?_
    refine x_iload dX10_send_76 rfl ?_
    refine y_iastM (f := 4) (κ := 34) dX10_send_78 am_4 rfl (by first | omega | exact sl16_lt _ | assumption) (by decide) ?_
    refine x_aload_n dX10_send_79 rfl ?_
    refine x_get dX10_send_80 fl_RX10_7 (hp_get (κ := 10) (by decide)) rfl ?_
    refine x_iload dX10_send_83 rfl ?_
    refine x_iconst (v := 5) dX10_send_85 (by decide) ?_
    refine x_iadd dX10_send_86 ?_
    refine x_eqi (nIp_5 _) ?_
    refine x_iload dX10_send_87 rfl ?_
    refine y_iastM (f := 4) (κ := 34) dX10_send_89 am_4 rfl (by first | omega | exact sl16_lt _ | assumption) (by decide) ?_
    refine x_aload_n dX10_send_90 rfl ?_
    refine x_dup dX10_send_91 rfl ?_
    refine x_get dX10_send_92 fl_RX10_154 (hp_get (κ := 10) (by decide)) rfl ?_
    refine x_iconst (v := 1) dX10_send_95 (by decide) ?_
    refine x_iadd dX10_send_96 ?_
    refine x_putM dX10_send_97 fp_RX10_154 pm_3 ?_
    exact x_rV dX10_send_100 rfl rfl (by first | (simp [ml_send, ml_put, hc6]; done) | (exfalso; simp_all; done)) (by simp) (by simp)
  · refine x_aload_n dX10_send_9 rfl ?_
    refine x_dup dX10_send_10 rfl ?_
    refine x_get dX10_send_11 fl_RX10_157 (hp_get (κ := 10) (by decide)) rfl ?_
    refine x_iconst (v := 1) dX10_send_14 (by decide) ?_
    refine x_iadd dX10_send_15 ?_
    refine x_putM dX10_send_16 fp_RX10_157 pm_2 ?_
    exact x_rV dX10_send_19 rfl rfl (by first | (simp [ml_send, ml_put, hc6]; done) | (exfalso; simp_all; done)) (by simp) (by simp)
theorem ml_send_get {S : St} {kd g m x y z : Int32} {f i : Nat} (h2 : f ≠ 2) (h3 : f ≠ 3) (h4 : f ≠ 4) : (ml_send S kd g m x y z).2.2.1 f i = S.2.2.1 f i := by
  unfold ml_send ml_put
  split <;> simp [sm_get, h2, h3, h4]
theorem ml_send_1 {S : St} {kd g m x y z : Int32} : (ml_send S kd g m x y z).1 = S.1 := by
  unfold ml_send ml_put
  split <;> rfl
theorem ml_send_21 {S : St} {kd g m x y z : Int32} : (ml_send S kd g m x y z).2.1 = S.2.1 := by
  unfold ml_send ml_put
  split <;> rfl
theorem mC_eq {S T : St} (h : S.2.2.1 3 0 = T.2.2.1 3 0) : mC S = mC T := by unfold mC; rw [h]
theorem MO.eq {S T : St} (h : MO S) (e : T.2.2.1 3 0 = S.2.2.1 3 0) : MO T := ⟨by rw [mC_eq e, e]; exact h.1, by rw [mC_eq e]; exact h.2⟩
theorem MO.sm {S : St} {f i : Nat} {v : Int32} (h : MO S) (hf : f ≠ 3) : MO (sm S f i v) := h.eq (by rw [sm_get, if_neg (by omega)])
theorem MO.mk' {S : St} {c : Nat} (h : S.2.2.1 3 0 = nI c) (hc : c ≤ 60) : MO S ∧ mC S = c := by
  have e : mC S = c := by unfold mC; rw [h, nI_clamp (by omega)]
  exact ⟨⟨by rw [e]; exact h, by omega⟩, e⟩
theorem MO.send {S : St} {kd g m x y z : Int32} (h : MO S) : MO (ml_send S kd g m x y z) := by
  by_cases h6 : S.2.2.1 3 0 = 60
  · unfold ml_send
    rw [if_pos h6]
    exact h.sm (by decide)
  · have hl := h.lt h6
    refine (MO.mk' (c := mC S + 1) ?_ (by omega)).1
    unfold ml_send ml_put
    rw [if_neg h6]
    simp only [sm_get]
    simp only [show ¬ ((3 : Nat) = 4) by decide, false_and, if_false, true_and, if_true]
    simp only [h.1, nI_1]
    try simp
def ml_ask (S : St) (g m : Nat) : St := ml_send S 1 (nI g) (nI m) (S.2.2.1 8 (6 * g + m)) (bI (decide (¬ S.2.2.1 9 (6 * g + m) = 0))) 0
set_option maxRecDepth 100000 in
set_option maxHeartbeats 400000 in
theorem c_mAsk {X : XS} {d : Nat} {S : St} {g m : Nat} (hg : g < 3) (hm : m < 6) (h : MO S) : Call X mX10_ask false (d + 1) [.ref (ad 10 0), .int (nI g), .int (nI m)] (hp S) (.inl none, hp (ml_ask S g m), 0, 0) := by
  refine Call.of fX10_ask (by decide) rfl (by simp [Value.category]) (Nat.le_of_ble_eq_true rfl) (lv := [some (.ref (ad 10 0)), some (.int (nI g)), some (.int (nI m)), none]) rfl ?_
  refine x_bipush (v := 6) dX10_ask_0 (by decide) ?_
  refine x_iload_n dX10_ask_2 rfl ?_
  refine x_imul dX10_ask_3 ?_
  refine x_iload_n dX10_ask_4 rfl ?_
  refine x_iadd dX10_ask_5 ?_
  refine x_eqi (ix6 _ _) ?_
  refine x_istore_n (lv' := [_, _, _, _]) dX10_ask_6 (by decide) rfl ?_
  refine x_aload_n dX10_ask_7 rfl ?_
  refine x_iconst (v := 1) dX10_ask_8 (by decide) ?_
  refine x_iload_n dX10_ask_9 rfl ?_
  refine x_iload_n dX10_ask_10 rfl ?_
  refine x_aload_n dX10_ask_11 rfl ?_
  refine x_get dX10_ask_12 fl_RX10_23 (hp_get (κ := 10) (by decide)) rfl ?_
  refine x_iload_n dX10_ask_15 rfl ?_
  refine y_ialdM (f := 8) (κ := 38) dX10_ask_16 am_8 rfl (by first | omega | exact sl16_lt _ | assumption) (by decide) ?_
  refine x_aload_n dX10_ask_17 rfl ?_
  refine x_get dX10_ask_18 fl_RX10_26 (hp_get (κ := 10) (by decide)) rfl ?_
  refine x_iload_n dX10_ask_21 rfl ?_
  refine y_zaldM (f := 9) (κ := 39) dX10_ask_22 am_9 rfl (by first | omega | exact sl16_lt _ | assumption) (by decide) ?_
  refine x_if_eq (tgt := 30) dX10_ask_23 (by decide) (fun hc23 => ?_) (fun hc23 => ?_)
  · refine x_iconst (v := 0) dX10_ask_30 (by decide) ?_
    refine x_iconst (v := 0) dX10_ask_31 (by decide) ?_
    refine x_cVv (as := [_, _, _, _, _, _]) dX10_ask_32 fX10_send rfl lk_RX10_168 rfl (hp_get (κ := 10) (by decide)) rfl rfl (Nat.le_of_ble_eq_true rfl) (c_mSend h _ _ _ _ _ _) (by simp) (by simp) ?_
    exact x_rV dX10_ask_35 rfl rfl (by simp [ml_ask, bI, hc23]) (by simp) (by simp)
  · refine x_iconst (v := 1) dX10_ask_26 (by decide) ?_
    refine x_goto (tgt := 31) dX10_ask_27 (by decide) ?_
    refine x_iconst (v := 0) dX10_ask_31 (by decide) ?_
    refine x_cVv (as := [_, _, _, _, _, _]) dX10_ask_32 fX10_send rfl lk_RX10_168 rfl (hp_get (κ := 10) (by decide)) rfl rfl (Nat.le_of_ble_eq_true rfl) (c_mSend h _ _ _ _ _ _) (by simp) (by simp) ?_
    exact x_rV dX10_ask_35 rfl rfl (by simp [ml_ask, bI, hc23]) (by simp) (by simp)
def mt1 (S : St) (g i : Nat) : St := if S.2.2.1 5 (6 * g + i) = 0 then S else if nI i = S.2.2.1 35 g then S else ml_send S 8 (nI g) (nI i) (S.2.2.1 34 g) (S.2.2.1 35 g) 0
def mt (S : St) (g : Nat) : Nat → St
  | 0 => S
  | i + 1 => mt1 (mt S g i) g i
theorem mt_ok {S : St} {g : Nat} (h : MO S) : ∀ n, MO (mt S g n)
  | 0 => h
  | n + 1 => by
    show MO (mt1 _ _ _)
    unfold mt1
    split
    · exact mt_ok h n
    · split
      · exact mt_ok h n
      · exact (mt_ok h n).send
theorem mt_get {S : St} {g f i : Nat} (h2 : f ≠ 2) (h3 : f ≠ 3) (h4 : f ≠ 4) : ∀ n, (mt S g n).2.2.1 f i = S.2.2.1 f i
  | 0 => rfl
  | n + 1 => by
    show (mt1 _ _ _).2.2.1 f i = _
    unfold mt1
    split
    · exact mt_get h2 h3 h4 n
    · split
      · exact mt_get h2 h3 h4 n
      · exact (ml_send_get h2 h3 h4).trans (mt_get h2 h3 h4 n)
theorem mt_1 {S : St} {g : Nat} : ∀ n, (mt S g n).1 = S.1 ∧ (mt S g n).2.1 = S.2.1
  | 0 => ⟨rfl, rfl⟩
  | n + 1 => by
    show (mt1 _ _ _).1 = _ ∧ (mt1 _ _ _).2.1 = _
    unfold mt1
    split
    · exact mt_1 n
    · split
      · exact mt_1 n
      · exact ⟨ml_send_1.trans (mt_1 n).1, ml_send_21.trans (mt_1 n).2⟩
theorem mt_s {S : St} {g n : Nat} : mt S g (n + 1) = mt1 (mt S g n) g n := by rw [mt]
set_option maxRecDepth 100000 in
set_option maxHeartbeats 400000 in
theorem l_mTell {X : XS} {d : Nat} {S : St} {g : Nat} (hg : g < 3) (h : MO S) : ∀ c j, j + c = 6 → Ex X mX10_tellTalker false (d + 1) 2 [some (.ref (ad 10 0)), some (.int (nI g)), some (.int (nI j))] [] (hp (mt S g j)) 0 0 (.inl none, hp (mt S g 6), 0, 0) := by
  intro c
  induction c with
  | zero =>
    intro j hj
    have hj6 : j = 6 := by omega
    subst hj6
    refine x_iload_n dX10_tellTalker_2 rfl ?_
    refine x_bipush (v := 6) dX10_tellTalker_3 (by decide) ?_
    refine x_icmp_ge (tgt := 59) dX10_tellTalker_5 (by decide) (fun hc5 => ?_) (fun hc5 => by first | exact absurd (by decide) hc5 | exact absurd hc5 (by decide))
    exact x_rV dX10_tellTalker_59 rfl rfl rfl (by simp) (by simp)
  | succ c ih =>
    intro j hj
    refine x_iload_n dX10_tellTalker_2 rfl ?_
    refine x_bipush (v := 6) dX10_tellTalker_3 (by decide) ?_
    refine x_icmp_ge (tgt := 59) dX10_tellTalker_5 (by decide) (fun hc5 => by first | exact absurd hc5 (nI_ge (b := 6) (by omega) (by decide)) | exact absurd (nI_ge (b := 6) (by omega) (by decide)) hc5) (fun hc5 => ?_)
    refine x_aload_n dX10_tellTalker_8 rfl ?_
    refine x_get dX10_tellTalker_9 fl_RX10_13 (hp_get (κ := 10) (by decide)) rfl ?_
    refine x_bipush (v := 6) dX10_tellTalker_12 (by decide) ?_
    refine x_iload_n dX10_tellTalker_14 rfl ?_
    refine x_imul dX10_tellTalker_15 ?_
    refine x_iload_n dX10_tellTalker_16 rfl ?_
    refine x_iadd dX10_tellTalker_17 ?_
    refine x_eqi (ix6 _ _) ?_
    refine y_zaldM (f := 5) (κ := 35) dX10_tellTalker_18 am_5 rfl (by first | omega | exact sl16_lt _ | assumption) (by decide) ?_
    refine x_if_eq (tgt := 53) dX10_tellTalker_19 (by decide) (fun hc19 => ?_) (fun hc19 => ?_)
    · refine x_iinc (v := _ + 1) (lv' := [_, _, _]) dX10_tellTalker_53 rfl rfl (by decide) rfl ?_
      refine x_goto (tgt := 2) dX10_tellTalker_56 (by decide) ?_
      refine x_heq (S2 := mt S g (j + 1)) (by rw [mt_s]; simp [mt1, hc5, hc19]) ?_
      rw [nI_1]
      exact ih (j + 1) (by omega)
    · refine x_iload_n dX10_tellTalker_22 rfl ?_
      refine x_aload_n dX10_tellTalker_23 rfl ?_
      refine x_get dX10_tellTalker_24 fl_RX10_104 (hp_get (κ := 10) (by decide)) rfl ?_
      refine x_iload_n dX10_tellTalker_27 rfl ?_
      refine y_ialdM (f := 35) (κ := 65) dX10_tellTalker_28 am_35 rfl (by first | omega | exact sl16_lt _ | assumption) (by decide) ?_
      refine x_icmp_eq (tgt := 53) dX10_tellTalker_29 (by decide) (fun hc29 => ?_) (fun hc29 => ?_)
      · refine x_iinc (v := _ + 1) (lv' := [_, _, _]) dX10_tellTalker_53 rfl rfl (by decide) rfl ?_
        refine x_goto (tgt := 2) dX10_tellTalker_56 (by decide) ?_
        refine x_heq (S2 := mt S g (j + 1)) (by rw [mt_s]; simp [mt1, hc5, hc19, hc29]) ?_
        rw [nI_1]
        exact ih (j + 1) (by omega)
      · refine x_aload_n dX10_tellTalker_32 rfl ?_
        refine x_bipush (v := 8) dX10_tellTalker_33 (by decide) ?_
        refine x_iload_n dX10_tellTalker_35 rfl ?_
        refine x_iload_n dX10_tellTalker_36 rfl ?_
        refine x_aload_n dX10_tellTalker_37 rfl ?_
        refine x_get dX10_tellTalker_38 fl_RX10_101 (hp_get (κ := 10) (by decide)) rfl ?_
        refine x_iload_n dX10_tellTalker_41 rfl ?_
        refine y_ialdM (f := 34) (κ := 64) dX10_tellTalker_42 am_34 rfl (by first | omega | exact sl16_lt _ | assumption) (by decide) ?_
        refine x_aload_n dX10_tellTalker_43 rfl ?_
        refine x_get dX10_tellTalker_44 fl_RX10_104 (hp_get (κ := 10) (by decide)) rfl ?_
        refine x_iload_n dX10_tellTalker_47 rfl ?_
        refine y_ialdM (f := 35) (κ := 65) dX10_tellTalker_48 am_35 rfl (by first | omega | exact sl16_lt _ | assumption) (by decide) ?_
        refine x_iconst (v := 0) dX10_tellTalker_49 (by decide) ?_
        refine x_cVv (as := [_, _, _, _, _, _]) dX10_tellTalker_50 fX10_send rfl lk_RX10_168 rfl (hp_get (κ := 10) (by decide)) rfl rfl (Nat.le_of_ble_eq_true rfl) (c_mSend (mt_ok h j) _ _ _ _ _ _) (by simp) (by simp) ?_
        refine x_iinc (v := _ + 1) (lv' := [_, _, _]) dX10_tellTalker_53 rfl rfl (by decide) rfl ?_
        refine x_goto (tgt := 2) dX10_tellTalker_56 (by decide) ?_
        refine x_heq (S2 := mt S g (j + 1)) (by rw [mt_s]; simp [mt1, hc5, hc19, hc29]) ?_
        rw [nI_1]
        exact ih (j + 1) (by omega)
set_option maxRecDepth 100000 in
set_option maxHeartbeats 400000 in
theorem c_mTell {X : XS} {d : Nat} {S : St} {g : Nat} (hg : g < 3) (h : MO S) : Call X mX10_tellTalker false (d + 1) [.ref (ad 10 0), .int (nI g)] (hp S) (.inl none, hp (mt S g 6), 0, 0) := by
  refine Call.of fX10_tellTalker (by decide) rfl (by simp [Value.category]) (Nat.le_of_ble_eq_true rfl) (lv := [some (.ref (ad 10 0)), some (.int (nI g)), none]) rfl ?_
  refine x_iconst (v := 0) dX10_tellTalker_0 (by decide) ?_
  refine x_istore_n (lv' := [_, _, _]) dX10_tellTalker_1 (by decide) rfl ?_
  exact l_mTell hg h 6 0 (by omega)
def ml_ab (S : St) (i j : Nat) : Int32 := if S.2.2.1 42 i = S.2.2.1 42 j then (if S.2.2.1 43 i ≤ S.2.2.1 43 j then (if S.2.2.1 43 j ≤ S.2.2.1 43 i then 0 else -1) else 1) else (if S.2.2.1 42 i = 0 then -1 else 1)
set_option maxRecDepth 100000 in
set_option maxHeartbeats 400000 in
theorem c_mAbove {X : XS} {d : Nat} {S : St} {i j : Nat} (hi : i < 18) (hj : j < 18) : Call X mX10_above false d [.ref (ad 10 0), .int (nI i), .int (nI j)] (hp S) (.inl (some (.int (ml_ab S i j))), hp (S), 0, 0) := by
  refine Call.of fX10_above (by decide) rfl (by simp [Value.category]) (Nat.le_of_ble_eq_true rfl) (lv := [some (.ref (ad 10 0)), some (.int (nI i)), some (.int (nI j))]) rfl ?_
  refine x_aload_n dX10_above_0 rfl ?_
  refine x_get dX10_above_1 fl_RX10_122 (hp_get (κ := 10) (by decide)) rfl ?_
  refine x_iload_n dX10_above_4 rfl ?_
  refine y_zaldM (f := 42) (κ := 72) dX10_above_5 am_42 rfl (by first | omega | exact sl16_lt _ | assumption) (by decide) ?_
  refine x_aload_n dX10_above_6 rfl ?_
  refine x_get dX10_above_7 fl_RX10_122 (hp_get (κ := 10) (by decide)) rfl ?_
  refine x_iload_n dX10_above_10 rfl ?_
  refine y_zaldM (f := 42) (κ := 72) dX10_above_11 am_42 rfl (by first | omega | exact sl16_lt _ | assumption) (by decide) ?_
  refine x_icmp_eq (tgt := 30) dX10_above_12 (by decide) (fun hc12 => ?_) (fun hc12 => ?_)
  · refine x_aload_n dX10_above_30 rfl ?_
    refine x_get dX10_above_31 fl_RX10_125 (hp_get (κ := 10) (by decide)) rfl ?_
    refine x_iload_n dX10_above_34 rfl ?_
    refine y_ialdM (f := 43) (κ := 73) dX10_above_35 am_43 rfl (by first | omega | exact sl16_lt _ | assumption) (by decide) ?_
    refine x_aload_n dX10_above_36 rfl ?_
    refine x_get dX10_above_37 fl_RX10_125 (hp_get (κ := 10) (by decide)) rfl ?_
    refine x_iload_n dX10_above_40 rfl ?_
    refine y_ialdM (f := 43) (κ := 73) dX10_above_41 am_43 rfl (by first | omega | exact sl16_lt _ | assumption) (by decide) ?_
    refine x_icmp_le (tgt := 49) dX10_above_42 (by decide) (fun hc42 => ?_) (fun hc42 => ?_)
    · refine x_aload_n dX10_above_49 rfl ?_
      refine x_get dX10_above_50 fl_RX10_125 (hp_get (κ := 10) (by decide)) rfl ?_
      refine x_iload_n dX10_above_53 rfl ?_
      refine y_ialdM (f := 43) (κ := 73) dX10_above_54 am_43 rfl (by first | omega | exact sl16_lt _ | assumption) (by decide) ?_
      refine x_aload_n dX10_above_55 rfl ?_
      refine x_get dX10_above_56 fl_RX10_125 (hp_get (κ := 10) (by decide)) rfl ?_
      refine x_iload_n dX10_above_59 rfl ?_
      refine y_ialdM (f := 43) (κ := 73) dX10_above_60 am_43 rfl (by first | omega | exact sl16_lt _ | assumption) (by decide) ?_
      refine x_icmp_ge (tgt := 68) dX10_above_61 (by decide) (fun hc61 => ?_) (fun hc61 => ?_)
      · refine x_iconst (v := 0) dX10_above_68 (by decide) ?_
        exact x_rI dX10_above_69 rfl rfl (by unfold ml_ab; first | rw [if_neg hc12, if_pos hc21] | rw [if_neg hc12, if_neg hc21] | rw [if_pos hc12, if_neg hc42] | rw [if_pos hc12, if_pos hc42, if_pos hc61] | rw [if_pos hc12, if_pos hc42, if_neg hc61]) rfl (by simp) (by simp)
      · refine x_iconst (v := (-1)) dX10_above_64 (by decide) ?_
        refine x_goto (tgt := 69) dX10_above_65 (by decide) ?_
        exact x_rI dX10_above_69 rfl rfl (by unfold ml_ab; first | rw [if_neg hc12, if_pos hc21] | rw [if_neg hc12, if_neg hc21] | rw [if_pos hc12, if_neg hc42] | rw [if_pos hc12, if_pos hc42, if_pos hc61] | rw [if_pos hc12, if_pos hc42, if_neg hc61]) rfl (by simp) (by simp)
    · refine x_iconst (v := 1) dX10_above_45 (by decide) ?_
      refine x_goto (tgt := 69) dX10_above_46 (by decide) ?_
      exact x_rI dX10_above_69 rfl rfl (by unfold ml_ab; first | rw [if_neg hc12, if_pos hc21] | rw [if_neg hc12, if_neg hc21] | rw [if_pos hc12, if_neg hc42] | rw [if_pos hc12, if_pos hc42, if_pos hc61] | rw [if_pos hc12, if_pos hc42, if_neg hc61]) rfl (by simp) (by simp)
  · refine x_aload_n dX10_above_15 rfl ?_
    refine x_get dX10_above_16 fl_RX10_122 (hp_get (κ := 10) (by decide)) rfl ?_
    refine x_iload_n dX10_above_19 rfl ?_
    refine y_zaldM (f := 42) (κ := 72) dX10_above_20 am_42 rfl (by first | omega | exact sl16_lt _ | assumption) (by decide) ?_
    refine x_if_eq (tgt := 28) dX10_above_21 (by decide) (fun hc21 => ?_) (fun hc21 => ?_)
    · refine x_iconst (v := (-1)) dX10_above_28 (by decide) ?_
      exact x_rI dX10_above_29 rfl rfl (by unfold ml_ab; first | rw [if_neg hc12, if_pos hc21] | rw [if_neg hc12, if_neg hc21] | rw [if_pos hc12, if_neg hc42] | rw [if_pos hc12, if_pos hc42, if_pos hc61] | rw [if_pos hc12, if_pos hc42, if_neg hc61]) rfl (by simp) (by simp)
    · refine x_iconst (v := 1) dX10_above_24 (by decide) ?_
      refine x_goto (tgt := 29) dX10_above_25 (by decide) ?_
      exact x_rI dX10_above_29 rfl rfl (by unfold ml_ab; first | rw [if_neg hc12, if_pos hc21] | rw [if_neg hc12, if_neg hc21] | rw [if_pos hc12, if_neg hc42] | rw [if_pos hc12, if_pos hc42, if_pos hc61] | rw [if_pos hc12, if_pos hc42, if_neg hc61]) rfl (by simp) (by simp)
def cntB (p : Nat → Bool) : Nat → Nat
  | 0 => 0
  | n + 1 => if p n = true then cntB p n + 1 else cntB p n
theorem cntB_le (p : Nat → Bool) : ∀ n, cntB p n ≤ n
  | 0 => Nat.le_refl _
  | n + 1 => by
    have := cntB_le p n
    show (if p n = true then cntB p n + 1 else cntB p n) ≤ n + 1
    split <;> omega
theorem cntB_s {p : Nat → Bool} {n : Nat} : cntB p (n + 1) = if p n = true then cntB p n + 1 else cntB p n := by rw [cntB]
def ml_bf (S : St) (o i : Nat) : Bool := decide (¬ nI o = nI i ∧ ¬ S.2.2.1 44 o ≤ 0 ∧ (¬ ml_ab S o i ≤ 0 ∨ (ml_ab S o i = 0 ∧ ¬ S.2.2.1 44 i ≤ S.2.2.1 44 o)))
def ml_pl (S : St) (g i : Nat) : Nat := cntB (fun o => ml_bf S (6 * g + o) i) 6
set_option maxRecDepth 100000 in
set_option maxHeartbeats 400000 in
theorem l_mPl {X : XS} {d : Nat} {S : St} {g m : Nat} (hg : g < 3) (hm : m < 6) : ∀ c j x5, j + c = 6 → Ex X mX10_placeOf false (d + 1) 13 [some (.ref (ad 10 0)), some (.int (nI (6 * g + m))), some (.int (nI g)), some (.int (nI (cntB (fun o => ml_bf S (6 * g + o) (6 * g + m)) j))), some (.int (nI (6 * g + j))), x5] [] (hp S) 0 0 (.inl (some (.int (nI (ml_pl S g (6 * g + m))))), hp (S), 0, 0) := by
  intro c
  induction c with
  | zero =>
    intro j x5 hj
    have hj6 : j = 6 := by omega
    subst hj6
    refine x_iload dX10_placeOf_13 rfl ?_
    refine x_bipush (v := 6) dX10_placeOf_15 (by decide) ?_
    refine x_iload_n dX10_placeOf_17 rfl ?_
    refine x_imul dX10_placeOf_18 ?_
    refine x_bipush (v := 6) dX10_placeOf_19 (by decide) ?_
    refine x_iadd dX10_placeOf_21 ?_
    refine x_eqi (ix6_6 _) ?_
    refine x_icmp_ge (tgt := 103) dX10_placeOf_22 (by decide) (fun hc22 => ?_) (fun hc22 => by first | exact absurd (Int32.le_refl _) hc22 | exact absurd hc22 (Int32.le_refl _))
    refine x_iload_n dX10_placeOf_103 rfl ?_
    exact x_rI dX10_placeOf_104 rfl rfl rfl rfl (by simp) (by simp)
  | succ c ih =>
    intro j x5 hj
    refine x_iload dX10_placeOf_13 rfl ?_
    refine x_bipush (v := 6) dX10_placeOf_15 (by decide) ?_
    refine x_iload_n dX10_placeOf_17 rfl ?_
    refine x_imul dX10_placeOf_18 ?_
    refine x_bipush (v := 6) dX10_placeOf_19 (by decide) ?_
    refine x_iadd dX10_placeOf_21 ?_
    refine x_eqi (ix6_6 _) ?_
    refine x_icmp_ge (tgt := 103) dX10_placeOf_22 (by decide) (fun hc22 => by first | exact absurd hc22 (nI_ge (by omega) (by omega)) | exact absurd (nI_ge (by omega) (by omega)) hc22) (fun hc22 => ?_)
    refine x_iload dX10_placeOf_25 rfl ?_
    refine x_iload_n dX10_placeOf_27 rfl ?_
    refine x_icmp_eq (tgt := 81) dX10_placeOf_28 (by decide) (fun hc28 => ?_) (fun hc28 => ?_)
    · refine x_iconst (v := 0) dX10_placeOf_81 (by decide) ?_
      refine x_istore (lv' := [_, _, _, _, _, _]) dX10_placeOf_82 (by decide) rfl ?_
      refine x_iload dX10_placeOf_84 rfl ?_
      refine x_if_eq (tgt := 95) dX10_placeOf_86 (by decide) (fun hc86 => ?_) (fun hc86 => by first | exact absurd (by decide) hc86 | exact absurd hc86 (by decide))
      refine x_iload_n dX10_placeOf_95 rfl ?_
      refine x_eqi (y := nI (cntB (fun o => ml_bf S (6 * g + o) (6 * g + m)) (j + 1))) (by first | (have hb : ml_bf S (6 * g + j) (6 * g + m) = true := (by simp [ml_bf, hc22, hc28, hc86]); rw [cntB_s, if_pos hb, nI_1]) | (have hb : ml_bf S (6 * g + j) (6 * g + m) = false := (by simp [ml_bf, hc22, hc28, hc86]); rw [cntB_s, if_neg (by rw [hb]; decide)])) ?_
      refine x_istore_n (lv' := [_, _, _, _, _, _]) dX10_placeOf_96 (by decide) rfl ?_
      refine x_iinc (v := _ + 1) (lv' := [_, _, _, _, _, _]) dX10_placeOf_97 rfl rfl (by decide) rfl ?_
      refine x_goto (tgt := 13) dX10_placeOf_100 (by decide) ?_
      rw [nI_1]
      exact ih (j + 1) _ (by omega)
    · refine x_aload_n dX10_placeOf_31 rfl ?_
      refine x_get dX10_placeOf_32 fl_RX10_128 (hp_get (κ := 10) (by decide)) rfl ?_
      refine x_iload dX10_placeOf_35 rfl ?_
      refine y_ialdM (f := 44) (κ := 74) dX10_placeOf_37 am_44 rfl (by omega) (by decide) ?_
      refine x_if_le (tgt := 81) dX10_placeOf_38 (by decide) (fun hc38 => ?_) (fun hc38 => ?_)
      · refine x_iconst (v := 0) dX10_placeOf_81 (by decide) ?_
        refine x_istore (lv' := [_, _, _, _, _, _]) dX10_placeOf_82 (by decide) rfl ?_
        refine x_iload dX10_placeOf_84 rfl ?_
        refine x_if_eq (tgt := 95) dX10_placeOf_86 (by decide) (fun hc86 => ?_) (fun hc86 => by first | exact absurd (by decide) hc86 | exact absurd hc86 (by decide))
        refine x_iload_n dX10_placeOf_95 rfl ?_
        refine x_eqi (y := nI (cntB (fun o => ml_bf S (6 * g + o) (6 * g + m)) (j + 1))) (by first | (have hb : ml_bf S (6 * g + j) (6 * g + m) = true := (by simp [ml_bf, hc22, hc28, hc38, hc86]); rw [cntB_s, if_pos hb, nI_1]) | (have hb : ml_bf S (6 * g + j) (6 * g + m) = false := (by simp [ml_bf, hc22, hc28, hc38, hc86]); rw [cntB_s, if_neg (by rw [hb]; decide)])) ?_
        refine x_istore_n (lv' := [_, _, _, _, _, _]) dX10_placeOf_96 (by decide) rfl ?_
        refine x_iinc (v := _ + 1) (lv' := [_, _, _, _, _, _]) dX10_placeOf_97 rfl rfl (by decide) rfl ?_
        refine x_goto (tgt := 13) dX10_placeOf_100 (by decide) ?_
        rw [nI_1]
        exact ih (j + 1) _ (by omega)
      · refine x_aload_n dX10_placeOf_41 rfl ?_
        refine x_iload dX10_placeOf_42 rfl ?_
        refine x_iload_n dX10_placeOf_44 rfl ?_
        refine x_cV (as := [_, _]) dX10_placeOf_45 fX10_above rfl lk_RX10_182 rfl (hp_get (κ := 10) (by decide)) rfl rfl (Nat.le_of_ble_eq_true rfl) (c_mAbove (by omega) (by omega)) (by simp) (by simp) ?_
        refine x_if_gt (tgt := 77) dX10_placeOf_48 (by decide) (fun hc48 => ?_) (fun hc48 => ?_)
        · refine x_iconst (v := 1) dX10_placeOf_77 (by decide) ?_
          refine x_goto (tgt := 82) dX10_placeOf_78 (by decide) ?_
          refine x_istore (lv' := [_, _, _, _, _, _]) dX10_placeOf_82 (by decide) rfl ?_
          refine x_iload dX10_placeOf_84 rfl ?_
          refine x_if_eq (tgt := 95) dX10_placeOf_86 (by decide) (fun hc86 => by first | exact absurd hc86 (by decide) | exact absurd (by decide) hc86) (fun hc86 => ?_)
          refine x_iload_n dX10_placeOf_89 rfl ?_
          refine x_iconst (v := 1) dX10_placeOf_90 (by decide) ?_
          refine x_iadd dX10_placeOf_91 ?_
          refine x_goto (tgt := 96) dX10_placeOf_92 (by decide) ?_
          refine x_eqi (y := nI (cntB (fun o => ml_bf S (6 * g + o) (6 * g + m)) (j + 1))) (by first | (have hb : ml_bf S (6 * g + j) (6 * g + m) = true := (by simp [ml_bf, hc22, hc28, hc38, hc48, hc86]); rw [cntB_s, if_pos hb, nI_1]) | (have hb : ml_bf S (6 * g + j) (6 * g + m) = false := (by simp [ml_bf, hc22, hc28, hc38, hc48, hc86]); rw [cntB_s, if_neg (by rw [hb]; decide)])) ?_
          refine x_istore_n (lv' := [_, _, _, _, _, _]) dX10_placeOf_96 (by decide) rfl ?_
          refine x_iinc (v := _ + 1) (lv' := [_, _, _, _, _, _]) dX10_placeOf_97 rfl rfl (by decide) rfl ?_
          refine x_goto (tgt := 13) dX10_placeOf_100 (by decide) ?_
          rw [nI_1]
          exact ih (j + 1) _ (by omega)
        · refine x_aload_n dX10_placeOf_51 rfl ?_
          refine x_iload dX10_placeOf_52 rfl ?_
          refine x_iload_n dX10_placeOf_54 rfl ?_
          refine x_cV (as := [_, _]) dX10_placeOf_55 fX10_above rfl lk_RX10_182 rfl (hp_get (κ := 10) (by decide)) rfl rfl (Nat.le_of_ble_eq_true rfl) (c_mAbove (by omega) (by omega)) (by simp) (by simp) ?_
          refine x_if_ne (tgt := 81) dX10_placeOf_58 (by decide) (fun hc58 => ?_) (fun hc58 => ?_)
          · refine x_iconst (v := 0) dX10_placeOf_81 (by decide) ?_
            refine x_istore (lv' := [_, _, _, _, _, _]) dX10_placeOf_82 (by decide) rfl ?_
            refine x_iload dX10_placeOf_84 rfl ?_
            refine x_if_eq (tgt := 95) dX10_placeOf_86 (by decide) (fun hc86 => ?_) (fun hc86 => by first | exact absurd (by decide) hc86 | exact absurd hc86 (by decide))
            refine x_iload_n dX10_placeOf_95 rfl ?_
            refine x_eqi (y := nI (cntB (fun o => ml_bf S (6 * g + o) (6 * g + m)) (j + 1))) (by first | (have hb : ml_bf S (6 * g + j) (6 * g + m) = true := (by simp [ml_bf, hc22, hc28, hc38, hc48, hc58, hc86]); rw [cntB_s, if_pos hb, nI_1]) | (have hb : ml_bf S (6 * g + j) (6 * g + m) = false := (by simp [ml_bf, hc22, hc28, hc38, hc48, hc58, hc86]); rw [cntB_s, if_neg (by rw [hb]; decide)])) ?_
            refine x_istore_n (lv' := [_, _, _, _, _, _]) dX10_placeOf_96 (by decide) rfl ?_
            refine x_iinc (v := _ + 1) (lv' := [_, _, _, _, _, _]) dX10_placeOf_97 rfl rfl (by decide) rfl ?_
            refine x_goto (tgt := 13) dX10_placeOf_100 (by decide) ?_
            rw [nI_1]
            exact ih (j + 1) _ (by omega)
          · refine x_aload_n dX10_placeOf_61 rfl ?_
            refine x_get dX10_placeOf_62 fl_RX10_128 (hp_get (κ := 10) (by decide)) rfl ?_
            refine x_iload dX10_placeOf_65 rfl ?_
            refine y_ialdM (f := 44) (κ := 74) dX10_placeOf_67 am_44 rfl (by omega) (by decide) ?_
            refine x_aload_n dX10_placeOf_68 rfl ?_
            refine x_get dX10_placeOf_69 fl_RX10_128 (hp_get (κ := 10) (by decide)) rfl ?_
            refine x_iload_n dX10_placeOf_72 rfl ?_
            refine y_ialdM (f := 44) (κ := 74) dX10_placeOf_73 am_44 rfl (by omega) (by decide) ?_
            refine x_icmp_ge (tgt := 81) dX10_placeOf_74 (by decide) (fun hc74 => ?_) (fun hc74 => ?_)
            · refine x_iconst (v := 0) dX10_placeOf_81 (by decide) ?_
              refine x_istore (lv' := [_, _, _, _, _, _]) dX10_placeOf_82 (by decide) rfl ?_
              refine x_iload dX10_placeOf_84 rfl ?_
              refine x_if_eq (tgt := 95) dX10_placeOf_86 (by decide) (fun hc86 => ?_) (fun hc86 => by first | exact absurd (by decide) hc86 | exact absurd hc86 (by decide))
              refine x_iload_n dX10_placeOf_95 rfl ?_
              refine x_eqi (y := nI (cntB (fun o => ml_bf S (6 * g + o) (6 * g + m)) (j + 1))) (by first | (have hb : ml_bf S (6 * g + j) (6 * g + m) = true := (by simp [ml_bf, hc22, hc28, hc38, hc48, hc58, hc74, hc86]); rw [cntB_s, if_pos hb, nI_1]) | (have hb : ml_bf S (6 * g + j) (6 * g + m) = false := (by simp [ml_bf, hc22, hc28, hc38, hc48, hc58, hc74, hc86]); rw [cntB_s, if_neg (by rw [hb]; decide)])) ?_
              refine x_istore_n (lv' := [_, _, _, _, _, _]) dX10_placeOf_96 (by decide) rfl ?_
              refine x_iinc (v := _ + 1) (lv' := [_, _, _, _, _, _]) dX10_placeOf_97 rfl rfl (by decide) rfl ?_
              refine x_goto (tgt := 13) dX10_placeOf_100 (by decide) ?_
              rw [nI_1]
              exact ih (j + 1) _ (by omega)
            · refine x_iconst (v := 1) dX10_placeOf_77 (by decide) ?_
              refine x_goto (tgt := 82) dX10_placeOf_78 (by decide) ?_
              refine x_istore (lv' := [_, _, _, _, _, _]) dX10_placeOf_82 (by decide) rfl ?_
              refine x_iload dX10_placeOf_84 rfl ?_
              refine x_if_eq (tgt := 95) dX10_placeOf_86 (by decide) (fun hc86 => by first | exact absurd hc86 (by decide) | exact absurd (by decide) hc86) (fun hc86 => ?_)
              refine x_iload_n dX10_placeOf_89 rfl ?_
              refine x_iconst (v := 1) dX10_placeOf_90 (by decide) ?_
              refine x_iadd dX10_placeOf_91 ?_
              refine x_goto (tgt := 96) dX10_placeOf_92 (by decide) ?_
              refine x_eqi (y := nI (cntB (fun o => ml_bf S (6 * g + o) (6 * g + m)) (j + 1))) (by first | (have hb : ml_bf S (6 * g + j) (6 * g + m) = true := (by simp [ml_bf, hc22, hc28, hc38, hc48, hc58, hc74, hc86]); rw [cntB_s, if_pos hb, nI_1]) | (have hb : ml_bf S (6 * g + j) (6 * g + m) = false := (by simp [ml_bf, hc22, hc28, hc38, hc48, hc58, hc74, hc86]); rw [cntB_s, if_neg (by rw [hb]; decide)])) ?_
              refine x_istore_n (lv' := [_, _, _, _, _, _]) dX10_placeOf_96 (by decide) rfl ?_
              refine x_iinc (v := _ + 1) (lv' := [_, _, _, _, _, _]) dX10_placeOf_97 rfl rfl (by decide) rfl ?_
              refine x_goto (tgt := 13) dX10_placeOf_100 (by decide) ?_
              rw [nI_1]
              exact ih (j + 1) _ (by omega)
set_option maxRecDepth 100000 in
set_option maxHeartbeats 400000 in
theorem c_mPlace {X : XS} {d : Nat} {S : St} {g m : Nat} (hg : g < 3) (hm : m < 6) : Call X mX10_placeOf false (d + 1) [.ref (ad 10 0), .int (nI (6 * g + m))] (hp S) (.inl (some (.int (nI (ml_pl S g (6 * g + m))))), hp (S), 0, 0) := by
  refine Call.of fX10_placeOf (by decide) rfl (by simp [Value.category]) (Nat.le_of_ble_eq_true rfl) (lv := [some (.ref (ad 10 0)), some (.int (nI (6 * g + m))), none, none, none, none]) rfl ?_
  refine x_iload_n dX10_placeOf_0 rfl ?_
  refine x_bipush (v := 6) dX10_placeOf_1 (by decide) ?_
  refine x_idiv dX10_placeOf_3 (by decide) ?_
  refine x_eqi (div6 g hg m hm) ?_
  refine x_istore_n (lv' := [_, _, _, _, _, _]) dX10_placeOf_4 (by decide) rfl ?_
  refine x_iconst (v := 0) dX10_placeOf_5 (by decide) ?_
  refine x_istore_n (lv' := [_, _, _, _, _, _]) dX10_placeOf_6 (by decide) rfl ?_
  refine x_bipush (v := 6) dX10_placeOf_7 (by decide) ?_
  refine x_iload_n dX10_placeOf_9 rfl ?_
  refine x_imul dX10_placeOf_10 ?_
  refine x_eqi (ix6m _) ?_
  refine x_istore (lv' := [_, _, _, _, _, _]) dX10_placeOf_11 (by decide) rfl ?_
  exact l_mPl hg hm 6 0 _ (by omega)
def ml_w (S : St) (o : Nat) : Bool := decide (¬ S.2.2.1 44 o ≤ 0)
def ml_wc (S : St) (g : Nat) : Nat := cntB (fun o => ml_w S (6 * g + o)) 6
set_option maxRecDepth 100000 in
set_option maxHeartbeats 400000 in
theorem l_mWc {X : XS} {d : Nat} {S : St} {g : Nat} (hg : g < 3) : ∀ c j, j + c = 6 → Ex X mX10_waitCount false d 7 [some (.ref (ad 10 0)), some (.int (nI g)), some (.int (nI (cntB (fun o => ml_w S (6 * g + o)) j))), some (.int (nI (6 * g + j)))] [] (hp S) 0 0 (.inl (some (.int (nI (ml_wc S g)))), hp (S), 0, 0) := by
  intro c
  induction c with
  | zero =>
    intro j hj
    have hj6 : j = 6 := by omega
    subst hj6
    refine x_iload_n dX10_waitCount_7 rfl ?_
    refine x_bipush (v := 6) dX10_waitCount_8 (by decide) ?_
    refine x_iload_n dX10_waitCount_10 rfl ?_
    refine x_imul dX10_waitCount_11 ?_
    refine x_bipush (v := 6) dX10_waitCount_12 (by decide) ?_
    refine x_iadd dX10_waitCount_14 ?_
    refine x_eqi (ix6_6 _) ?_
    refine x_icmp_ge (tgt := 41) dX10_waitCount_15 (by decide) (fun hc15 => ?_) (fun hc15 => by first | exact absurd (Int32.le_refl _) hc15 | exact absurd hc15 (Int32.le_refl _))
    refine x_iload_n dX10_waitCount_41 rfl ?_
    exact x_rI dX10_waitCount_42 rfl rfl rfl rfl (by simp) (by simp)
  | succ c ih =>
    intro j hj
    refine x_iload_n dX10_waitCount_7 rfl ?_
    refine x_bipush (v := 6) dX10_waitCount_8 (by decide) ?_
    refine x_iload_n dX10_waitCount_10 rfl ?_
    refine x_imul dX10_waitCount_11 ?_
    refine x_bipush (v := 6) dX10_waitCount_12 (by decide) ?_
    refine x_iadd dX10_waitCount_14 ?_
    refine x_eqi (ix6_6 _) ?_
    refine x_icmp_ge (tgt := 41) dX10_waitCount_15 (by decide) (fun hc15 => by first | exact absurd hc15 (nI_ge (by omega) (by omega)) | exact absurd (nI_ge (by omega) (by omega)) hc15) (fun hc15 => ?_)
    refine x_aload_n dX10_waitCount_18 rfl ?_
    refine x_get dX10_waitCount_19 fl_RX10_128 (hp_get (κ := 10) (by decide)) rfl ?_
    refine x_iload_n dX10_waitCount_22 rfl ?_
    refine y_ialdM (f := 44) (κ := 74) dX10_waitCount_23 am_44 rfl (by omega) (by decide) ?_
    refine x_if_le (tgt := 33) dX10_waitCount_24 (by decide) (fun hc24 => ?_) (fun hc24 => ?_)
    · refine x_iload_n dX10_waitCount_33 rfl ?_
      refine x_eqi (y := nI (cntB (fun o => ml_w S (6 * g + o)) (j + 1))) (by first | (have hb : ml_w S (6 * g + j) = true := (by simp [ml_w, hc15, hc24]); rw [cntB_s, if_pos hb, nI_1]) | (have hb : ml_w S (6 * g + j) = false := (by simp [ml_w, hc15, hc24]); rw [cntB_s, if_neg (by rw [hb]; decide)])) ?_
      refine x_istore_n (lv' := [_, _, _, _]) dX10_waitCount_34 (by decide) rfl ?_
      refine x_iinc (v := _ + 1) (lv' := [_, _, _, _]) dX10_waitCount_35 rfl rfl (by decide) rfl ?_
      refine x_goto (tgt := 7) dX10_waitCount_38 (by decide) ?_
      rw [nI_1]
      exact ih (j + 1) (by omega)
    · refine x_iload_n dX10_waitCount_27 rfl ?_
      refine x_iconst (v := 1) dX10_waitCount_28 (by decide) ?_
      refine x_iadd dX10_waitCount_29 ?_
      refine x_goto (tgt := 34) dX10_waitCount_30 (by decide) ?_
      refine x_eqi (y := nI (cntB (fun o => ml_w S (6 * g + o)) (j + 1))) (by first | (have hb : ml_w S (6 * g + j) = true := (by simp [ml_w, hc15, hc24]); rw [cntB_s, if_pos hb, nI_1]) | (have hb : ml_w S (6 * g + j) = false := (by simp [ml_w, hc15, hc24]); rw [cntB_s, if_neg (by rw [hb]; decide)])) ?_
      refine x_istore_n (lv' := [_, _, _, _]) dX10_waitCount_34 (by decide) rfl ?_
      refine x_iinc (v := _ + 1) (lv' := [_, _, _, _]) dX10_waitCount_35 rfl rfl (by decide) rfl ?_
      refine x_goto (tgt := 7) dX10_waitCount_38 (by decide) ?_
      rw [nI_1]
      exact ih (j + 1) (by omega)
set_option maxRecDepth 100000 in
set_option maxHeartbeats 400000 in
theorem c_mWc {X : XS} {d : Nat} {S : St} {g : Nat} (hg : g < 3) : Call X mX10_waitCount false d [.ref (ad 10 0), .int (nI g)] (hp S) (.inl (some (.int (nI (ml_wc S g)))), hp (S), 0, 0) := by
  refine Call.of fX10_waitCount (by decide) rfl (by simp [Value.category]) (Nat.le_of_ble_eq_true rfl) (lv := [some (.ref (ad 10 0)), some (.int (nI g)), none, none]) rfl ?_
  refine x_iconst (v := 0) dX10_waitCount_0 (by decide) ?_
  refine x_istore_n (lv' := [_, _, _, _]) dX10_waitCount_1 (by decide) rfl ?_
  refine x_bipush (v := 6) dX10_waitCount_2 (by decide) ?_
  refine x_iload_n dX10_waitCount_4 rfl ?_
  refine x_imul dX10_waitCount_5 ?_
  refine x_eqi (ix6m _) ?_
  refine x_istore_n (lv' := [_, _, _, _]) dX10_waitCount_6 (by decide) rfl ?_
  exact l_mWc hg 6 0 (by omega)
def ml_wa (S : St) (g : Nat) (p : Int32) : Nat → Int32
  | 0 => -1
  | j + 1 => if S.2.2.1 44 (6 * g + j) ≤ 0 then ml_wa S g p j else if nI (ml_pl S g (6 * g + j)) = p then nI j else ml_wa S g p j
theorem ml_wa_s {S : St} {g j : Nat} {p : Int32} : ml_wa S g p (j + 1) = if S.2.2.1 44 (6 * g + j) ≤ 0 then ml_wa S g p j else if nI (ml_pl S g (6 * g + j)) = p then nI j else ml_wa S g p j := by rw [ml_wa]
theorem ml_wa_in {S : St} {g : Nat} {p : Int32} : ∀ n, ml_wa S g p n = -1 ∨ ∃ q, q < n ∧ ml_wa S g p n = nI q
  | 0 => Or.inl rfl
  | n + 1 => by
    rw [ml_wa_s]
    have ih := ml_wa_in (S := S) (g := g) (p := p) n
    have ih2 : ml_wa S g p n = -1 ∨ ∃ q, q < n + 1 ∧ ml_wa S g p n = nI q := ih.imp id (fun ⟨q, hq, e⟩ => ⟨q, by omega, e⟩)
    split
    · exact ih2
    · split
      · exact Or.inr ⟨n, by omega, rfl⟩
      · exact ih2
set_option maxRecDepth 100000 in
set_option maxHeartbeats 400000 in
theorem l_mWa {X : XS} {d : Nat} {S : St} {g : Nat} (hg : g < 3) (p : Int32) : ∀ c j, j + c = 6 → Ex X mX10_waitsAt false (d + 2) 8 [some (.ref (ad 10 0)), some (.int (nI g)), some (.int p), some (.int (ml_wa S g p j)), some (.int (nI (6 * g + j)))] [] (hp S) 0 0 (.inl (some (.int (ml_wa S g p 6))), hp (S), 0, 0) := by
  intro c
  induction c with
  | zero =>
    intro j hj
    have hj6 : j = 6 := by omega
    subst hj6
    refine x_iload dX10_waitsAt_8 rfl ?_
    refine x_bipush (v := 6) dX10_waitsAt_10 (by decide) ?_
    refine x_iload_n dX10_waitsAt_12 rfl ?_
    refine x_imul dX10_waitsAt_13 ?_
    refine x_bipush (v := 6) dX10_waitsAt_14 (by decide) ?_
    refine x_iadd dX10_waitsAt_16 ?_
    refine x_eqi (ix6_6 _) ?_
    refine x_icmp_ge (tgt := 58) dX10_waitsAt_17 (by decide) (fun hc17 => ?_) (fun hc17 => by first | exact absurd (Int32.le_refl _) hc17 | exact absurd hc17 (Int32.le_refl _))
    refine x_iload_n dX10_waitsAt_58 rfl ?_
    exact x_rI dX10_waitsAt_59 rfl rfl rfl rfl (by simp) (by simp)
  | succ c ih =>
    intro j hj
    refine x_iload dX10_waitsAt_8 rfl ?_
    refine x_bipush (v := 6) dX10_waitsAt_10 (by decide) ?_
    refine x_iload_n dX10_waitsAt_12 rfl ?_
    refine x_imul dX10_waitsAt_13 ?_
    refine x_bipush (v := 6) dX10_waitsAt_14 (by decide) ?_
    refine x_iadd dX10_waitsAt_16 ?_
    refine x_eqi (ix6_6 _) ?_
    refine x_icmp_ge (tgt := 58) dX10_waitsAt_17 (by decide) (fun hc17 => by first | exact absurd hc17 (nI_ge (by omega) (by omega)) | exact absurd (nI_ge (by omega) (by omega)) hc17) (fun hc17 => ?_)
    refine x_aload_n dX10_waitsAt_20 rfl ?_
    refine x_get dX10_waitsAt_21 fl_RX10_128 (hp_get (κ := 10) (by decide)) rfl ?_
    refine x_iload dX10_waitsAt_24 rfl ?_
    refine y_ialdM (f := 44) (κ := 74) dX10_waitsAt_26 am_44 rfl (by omega) (by decide) ?_
    refine x_if_le (tgt := 50) dX10_waitsAt_27 (by decide) (fun hc27 => ?_) (fun hc27 => ?_)
    · refine x_iload_n dX10_waitsAt_50 rfl ?_
      refine x_eqi (y := ml_wa S g p (j + 1)) (by simp [ml_wa_s, hc17, hc27]) ?_
      refine x_istore_n (lv' := [_, _, _, _, _]) dX10_waitsAt_51 (by decide) rfl ?_
      refine x_iinc (v := _ + 1) (lv' := [_, _, _, _, _]) dX10_waitsAt_52 rfl rfl (by decide) rfl ?_
      refine x_goto (tgt := 8) dX10_waitsAt_55 (by decide) ?_
      rw [nI_1]
      exact ih (j + 1) (by omega)
    · refine x_aload_n dX10_waitsAt_30 rfl ?_
      refine x_iload dX10_waitsAt_31 rfl ?_
      refine x_cV (as := [_]) dX10_waitsAt_33 fX10_placeOf rfl lk_RX10_186 rfl (hp_get (κ := 10) (by decide)) rfl rfl (Nat.le_of_ble_eq_true rfl) (c_mPlace hg (by omega)) (by simp) (by simp) ?_
      refine x_iload_n dX10_waitsAt_36 rfl ?_
      refine x_icmp_ne (tgt := 50) dX10_waitsAt_37 (by decide) (fun hc37 => ?_) (fun hc37 => ?_)
      · refine x_iload_n dX10_waitsAt_50 rfl ?_
        refine x_eqi (y := ml_wa S g p (j + 1)) (by simp [ml_wa_s, hc17, hc27, hc37]) ?_
        refine x_istore_n (lv' := [_, _, _, _, _]) dX10_waitsAt_51 (by decide) rfl ?_
        refine x_iinc (v := _ + 1) (lv' := [_, _, _, _, _]) dX10_waitsAt_52 rfl rfl (by decide) rfl ?_
        refine x_goto (tgt := 8) dX10_waitsAt_55 (by decide) ?_
        rw [nI_1]
        exact ih (j + 1) (by omega)
      · refine x_iload dX10_waitsAt_40 rfl ?_
        refine x_bipush (v := 6) dX10_waitsAt_42 (by decide) ?_
        refine x_iload_n dX10_waitsAt_44 rfl ?_
        refine x_imul dX10_waitsAt_45 ?_
        refine x_isub dX10_waitsAt_46 ?_
        refine x_eqi (sub6 _ _) ?_
        refine x_goto (tgt := 51) dX10_waitsAt_47 (by decide) ?_
        refine x_eqi (y := ml_wa S g p (j + 1)) (by simp [ml_wa_s, hc17, hc27, hc37]) ?_
        refine x_istore_n (lv' := [_, _, _, _, _]) dX10_waitsAt_51 (by decide) rfl ?_
        refine x_iinc (v := _ + 1) (lv' := [_, _, _, _, _]) dX10_waitsAt_52 rfl rfl (by decide) rfl ?_
        refine x_goto (tgt := 8) dX10_waitsAt_55 (by decide) ?_
        rw [nI_1]
        exact ih (j + 1) (by omega)
set_option maxRecDepth 100000 in
set_option maxHeartbeats 400000 in
theorem c_mWa {X : XS} {d : Nat} {S : St} {g : Nat} (hg : g < 3) (p : Int32) : Call X mX10_waitsAt false (d + 2) [.ref (ad 10 0), .int (nI g), .int p] (hp S) (.inl (some (.int (ml_wa S g p 6))), hp (S), 0, 0) := by
  refine Call.of fX10_waitsAt (by decide) rfl (by simp [Value.category]) (Nat.le_of_ble_eq_true rfl) (lv := [some (.ref (ad 10 0)), some (.int (nI g)), some (.int p), none, none]) rfl ?_
  refine x_iconst (v := (-1)) dX10_waitsAt_0 (by decide) ?_
  refine x_istore_n (lv' := [_, _, _, _, _]) dX10_waitsAt_1 (by decide) rfl ?_
  refine x_bipush (v := 6) dX10_waitsAt_2 (by decide) ?_
  refine x_iload_n dX10_waitsAt_4 rfl ?_
  refine x_imul dX10_waitsAt_5 ?_
  refine x_eqi (ix6m _) ?_
  refine x_istore (lv' := [_, _, _, _, _]) dX10_waitsAt_6 (by decide) rfl ?_
  exact l_mWa hg p 6 0 (by omega)
