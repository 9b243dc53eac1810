/-! run, with what is asked of the reached states alone -/
def RunOK2 (S : St) (n : Nat) : Prop := ∀ j, j < n → (∀ i, i < j → ¬ (rn S i).1 6 0 2 ≤ 0) → ¬ (rn S j).1 6 0 2 ≤ 0 → NetOK (rn S j) ∧ DlOK (nt_out (rn S j) 0) (nt_at (rn S j) 0)
def MRunOK2 (S : St) (n : Nat) : Prop := ∀ j, j ≤ n → (∀ i, i < j → ¬ (mrn S i).2.2.1 3 0 ≤ 0) → (mrn S j).2.2.1 0 0 = 0 ∧ (j < n → ¬ (mrn S j).2.2.1 3 0 ≤ 0 → ComOK (mrn S j) 0)
set_option maxRecDepth 100000 in
set_option maxHeartbeats 4000000 in
theorem l_run2 {X : XS} {d : Nat} {S : St} {n : Nat} (hn : n ≤ 200) (hR : RunOK2 S n) : ∀ c j, j + c = n → (∀ i, i < j → ¬ (rn S i).1 6 0 2 ≤ 0) → Ex X mX9_run false (d + 6) 10 [some (.ref (ad 9 0)), some (.int (nI n)), some (.int (nI j))] [] (hp (rn S j)) 0 0 (.inl (some (.int (nI (rk S j c)))), hp (rn S (rk S j c)), 0, 0) := by
  intro c
  induction c with
  | zero =>
    intro j hj hpre
    have hj : j = n := by omega
    subst hj
    refine x_iload_n dX9_run_10 rfl ?_
    refine x_iload_n dX9_run_11 rfl ?_
    refine x_icmp_ge (tgt := 43) dX9_run_12 (by decide) (fun hc12 => ?_) (fun hc12 => by first | exact absurd (Int32.le_refl _) hc12 | exact absurd hc12 (Int32.le_refl _))
    refine x_iload_n dX9_run_43 rfl ?_
    exact x_rI dX9_run_44 rfl rfl rfl rfl (by simp) (by simp)
  | succ c ih =>
    intro j hj hpre
    refine x_iload_n dX9_run_10 rfl ?_
    refine x_iload_n dX9_run_11 rfl ?_
    refine x_icmp_ge (tgt := 43) dX9_run_12 (by decide) (fun hc12 => by first | exact absurd hc12 (nI_ge (by omega) (by omega)) | exact absurd (nI_ge (by omega) (by omega)) hc12) (fun hc12 => ?_)
    refine x_aload_n dX9_run_15 rfl ?_
    refine x_get dX9_run_16 fl_RX9_10 (hp_get (κ := 9) (by decide)) rfl ?_
    refine x_get dX9_run_19 fl_RX9_125 (hp_get (κ := 6) (by decide)) rfl ?_
    refine x_if_le (tgt := 43) dX9_run_22 (by decide) (fun hc22 => ?_) (fun hc22 => ?_)
    · refine x_iload_n dX9_run_43 rfl ?_
      exact x_rI dX9_run_44 rfl rfl (by rw [rk_0 hc22]) (by rw [rk_0 hc22]) (by simp) (by simp)
    · obtain ⟨hN1, hD1⟩ := hR j (by omega) hpre hc22
      refine x_aload_n dX9_run_25 rfl ?_
      refine x_aload_n dX9_run_26 rfl ?_
      refine x_get dX9_run_27 fl_RX9_10 (hp_get (κ := 9) (by decide)) rfl ?_
      refine x_iconst (v := 0) dX9_run_30 (by decide) ?_
      refine x_eqi (show (0 : Int32) = nI 0 from rfl) ?_
      refine x_cV (as := [_]) dX9_run_31 fX6_takeOut rfl lk_RX9_144 rfl (hp_get (κ := 6) (by decide)) rfl rfl (Nat.le_of_ble_eq_true rfl) (c_takeOut hN1 (by omega)) (by simp) (by simp) ?_
      refine x_cVv (as := [_]) dX9_run_34 fX9_deliver rfl lk_RX9_147 rfl (hp_get (κ := 9) (by decide)) rfl rfl (Nat.le_of_ble_eq_true rfl) (c_deliver hD1) (by simp) (by simp) ?_
      refine x_iinc (v := _ + 1) (lv' := [_, _, _]) dX9_run_37 rfl rfl (by decide) rfl ?_
      refine x_goto (tgt := 10) dX9_run_40 (by decide) ?_
      rw [nI_1]
      rw [rk_1 hc22]
      refine x_heq (S2 := rn S (j + 1)) rn_s ?_
      refine ih (j + 1) (by omega) (fun i hi => ?_)
      by_cases hij : i = j
      · rw [hij]; exact hc22
      · exact hpre i (by omega)
set_option maxRecDepth 100000 in
set_option maxHeartbeats 4000000 in
theorem k_run2 {X : XS} {d : Nat} {S : St} {n : Nat} (hn : n ≤ 200) (hR : RunOK2 S n) : Call X mX9_run false (d + 6) [.ref (ad 9 0), .int (nI n)] (hp S) (.inl (some (.int (nI (rk S 0 n)))), hp (rn S (rk S 0 n)), 0, 0) := by
  refine Call.of fX9_run (by decide) rfl (by simp [Value.category]) (Nat.le_of_ble_eq_true rfl) (lv := [some (.ref (ad 9 0)), some (.int (nI n)), none]) rfl ?_
  refine x_iload_n dX9_run_0 rfl ?_
  refine x_iconst (v := 0) dX9_run_1 (by decide) ?_
  refine x_sipush (v := 200) dX9_run_2 (by decide) ?_
  refine x_cSv (as := [_, _, _]) dX9_run_5 fX9_needArgument rfl lk_RX9_47 rfl (Nat.le_of_ble_eq_true rfl) (c_needArg ⟨nI_pos (by omega), nI_le (b := 200) hn (by decide)⟩) (by simp) (by simp) ?_
  refine x_iconst (v := 0) dX9_run_8 (by decide) ?_
  refine x_istore_n (lv' := [_, _, _]) dX9_run_9 (by decide) rfl ?_
  refine x_heq (S2 := rn S 0) rfl ?_
  exact l_run2 hn hR n 0 (by omega) (fun i hi => by omega)
set_option maxRecDepth 100000 in
set_option maxHeartbeats 400000 in
theorem l_mRun2 {X : XS} {d : Nat} {S : St} {n : Nat} (hn : n ≤ 200) (hR : MRunOK2 S n) : ∀ c j, j + c = n → (∀ i, i < j → ¬ (mrn S i).2.2.1 3 0 ≤ 0) → Ex X mX10_run false (d + 7) 22 [some (.ref (ad 10 0)), some (.int (nI n)), some (.int (nI j))] [] (hp (mrn S j)) 0 0 (.inl (some (.int (nI (mrk S j c)))), hp (mrn S (mrk S j c)), 0, 0) := by
  intro c
  induction c with
  | zero =>
    intro j hj hpre
    have hj : j = n := by omega
    subst hj
    refine x_aload_n dX10_run_22 rfl ?_
    refine x_get dX10_run_23 fl_RX10_146 (hp_get (κ := 10) (by decide)) rfl ?_
    refine x_if_ne (tgt := 53) dX10_run_26 (by decide) (fun hc26 => by first | exact absurd hc26 (hR j (by omega) hpre).1 | exact absurd (hR j (by omega) hpre).1 hc26) (fun hc26 => ?_)
    refine x_iload_n dX10_run_29 rfl ?_
    refine x_iload_n dX10_run_30 rfl ?_
    refine x_icmp_ge (tgt := 53) dX10_run_31 (by decide) (fun hc31 => ?_) (fun hc31 => by first | exact absurd (Int32.le_refl _) hc31 | exact absurd hc31 (Int32.le_refl _))
    refine x_iload_n dX10_run_53 rfl ?_
    exact x_rI dX10_run_54 rfl rfl rfl rfl (by simp) (by simp)
  | succ c ih =>
    intro j hj hpre
    refine x_aload_n dX10_run_22 rfl ?_
    refine x_get dX10_run_23 fl_RX10_146 (hp_get (κ := 10) (by decide)) rfl ?_
    refine x_if_ne (tgt := 53) dX10_run_26 (by decide) (fun hc26 => by first | exact absurd hc26 (hR j (by omega) hpre).1 | exact absurd (hR j (by omega) hpre).1 hc26) (fun hc26 => ?_)
    refine x_iload_n dX10_run_29 rfl ?_
    refine x_iload_n dX10_run_30 rfl ?_
    refine x_icmp_ge (tgt := 53) dX10_run_31 (by decide) (fun hc31 => by first | exact absurd hc31 (nI_ge (by omega) (by omega)) | exact absurd (nI_ge (by omega) (by omega)) hc31) (fun hc31 => ?_)
    refine x_aload_n dX10_run_34 rfl ?_
    refine x_get dX10_run_35 fl_RX10_154 (hp_get (κ := 10) (by decide)) rfl ?_
    refine x_if_le (tgt := 53) dX10_run_38 (by decide) (fun hc38 => ?_) (fun hc38 => ?_)
    · refine x_iload_n dX10_run_53 rfl ?_
      exact x_rI dX10_run_54 rfl rfl (by rw [mrk_0 hc38]) (by rw [mrk_0 hc38]) (by simp) (by simp)
    · refine x_aload_n dX10_run_41 rfl ?_
      refine x_iconst (v := 0) dX10_run_42 (by decide) ?_
      refine x_eqi (show (0 : Int32) = nI 0 from rfl) ?_
      refine x_iconst (v := 1) dX10_run_43 (by decide) ?_
      refine x_eqi (show (1 : Int32) = bI true from rfl) ?_
      refine x_cVv (as := [_, _]) dX10_run_44 fX10_comes rfl lk_RX10_234 rfl (hp_get (κ := 10) (by decide)) rfl rfl (Nat.le_of_ble_eq_true rfl) (c_mCom true ((hR j (by omega) hpre).2 (by omega) hc38)) (by simp) (by simp) ?_
      refine x_iinc (v := _ + 1) (lv' := [_, _, _]) dX10_run_47 rfl rfl (by decide) rfl ?_
      refine x_goto (tgt := 22) dX10_run_50 (by decide) ?_
      rw [nI_1, mrk_1 hc38]
      refine x_heq (S2 := mrn S (j + 1)) mrn_s ?_
      refine ih (j + 1) (by omega) (fun i hi => ?_)
      by_cases hij : i = j
      · rw [hij]; exact hc38
      · exact hpre i (by omega)
set_option maxRecDepth 100000 in
set_option maxHeartbeats 400000 in
theorem j_run2 {X : XS} {d : Nat} {S : St} {n : Nat} (hn : n ≤ 200) (h0 : wi (nI n) 0 200 = true) (hR : MRunOK2 (sm S 0 0 0) n) : Call X mX10_run false (d + 7) [.ref (ad 10 0), .int (nI n)] (hp S) (.inl (some (.int (nI (mrk (sm S 0 0 0) 0 n)))), hp (mrn (sm S 0 0 0) (mrk (sm S 0 0 0) 0 n)), 0, 0) := by
  refine Call.of fX10_run (by decide) rfl (by simp [Value.category]) (Nat.le_of_ble_eq_true rfl) (lv := [some (.ref (ad 10 0)), some (.int (nI n)), none]) rfl ?_
  refine x_aload_n dX10_run_0 rfl ?_
  refine x_iload_n dX10_run_1 rfl ?_
  refine x_iconst (v := 0) dX10_run_2 (by decide) ?_
  refine x_sipush (v := 200) dX10_run_3 (by decide) ?_
  refine x_cS (as := [_, _, _]) dX10_run_6 fX10_within rfl lk_RX10_150 rfl (Nat.le_of_ble_eq_true rfl) (c_within _ _ _) (by simp) (by simp) ?_
  refine x_if_eqB (tgt := 16) dX10_run_9 (by decide) (fun hc9 => by first | exact absurd hc9 (by simp [h0]) | exact absurd (by simp [h0]) hc9) (fun hc9 => ?_)
  refine x_iconst (v := 0) dX10_run_12 (by decide) ?_
  refine x_goto (tgt := 17) dX10_run_13 (by decide) ?_
  refine x_putM dX10_run_17 fp_RX10_146 pm_0 ?_
  refine x_iconst (v := 0) dX10_run_20 (by decide) ?_
  refine x_istore_n (lv' := [_, _, _]) dX10_run_21 (by decide) rfl ?_
  exact l_mRun2 hn hR n 0 (by omega) (fun i hi => by omega)
theorem i32_pos {x : Int32} (h : ¬ x ≤ 0) : nI 0 < x := by
  rw [nI_0]
  rw [Int32.le_iff_toInt_le] at h
  rw [Int32.lt_iff_toInt_lt]
  omega
theorem Rel.cnt {H TM L : Nat} {S T : St} (h : Rel H TM L S T) : S.1 6 0 2 = T.2.2.1 3 0 := by
  obtain ⟨-, -, ⟨c, p, hc, h1, h2, -⟩, -⟩ := h
  rw [h1, h2]
theorem run_rel {H TM L n : Nat} {S T : St} (h : Rel H TM L S T) (hT : TM < 2 ^ 20) (hL : L < 2 ^ 20) (hH : H + n + 1 < 2 ^ 30) : ∀ j, j ≤ n → (∀ i, i < j → ¬ (rn S i).1 6 0 2 ≤ 0) → Rel (H + j) TM L (rn S j) (mrn T j) ∧ KeM T (mrn T j) ∧ KeC S (rn S j)
  | 0, _, _ => ⟨h, .rf, rfl⟩
  | j + 1, hj, hp => by
    obtain ⟨a1, a2, a3⟩ := run_rel h hT hL hH j (by omega) (fun i hi => hp i (by omega))
    have hpos := i32_pos (hp j (by omega))
    obtain ⟨b1, b2⟩ := a1.carry hT hL (by omega) hpos (by omega)
    obtain ⟨c1, -⟩ := a1.say hpos (by omega)
    rw [rn_s, mrn_s]
    refine ⟨b2, a2.tr (.com c1), ?_⟩
    have := KeC.del b1
    unfold KeC at this a3 ⊢
    rw [this, out_2]; exact a3
theorem run_pre {H TM L n : Nat} {S T : St} (h : Rel H TM L S T) (hT : TM < 2 ^ 20) (hL : L < 2 ^ 20) (hH : H + n + 1 < 2 ^ 30) : ∀ j, j ≤ n → (∀ i, i < j → ¬ (mrn T i).2.2.1 3 0 ≤ 0) → ∀ i, i < j → ¬ (rn S i).1 6 0 2 ≤ 0
  | 0, _, _ => fun i hi => by omega
  | j + 1, hj, hp => by
    have ih := run_pre h hT hL hH j (by omega) (fun i hi => hp i (by omega))
    intro i hi
    by_cases z : i = j
    · rw [z, (run_rel h hT hL hH j (by omega) ih).1.cnt]; exact hp j (by omega)
    · exact ih i (by omega)
theorem run_ok {H TM L n : Nat} {S T : St} (h : Rel H TM L S T) (hT : TM < 2 ^ 20) (hL : L < 2 ^ 20) (hH : H + n + 1 < 2 ^ 30) : RunOK2 S n := fun j hj hp hq => by
  obtain ⟨a1, -⟩ := run_rel h hT hL hH j (by omega) hp
  exact ⟨a1.nok, (a1.carry hT hL (by omega) (i32_pos hq) (by omega)).1⟩
theorem run_mok {H TM L n : Nat} {S T : St} (h : Rel H TM L S T) (hT : TM < 2 ^ 20) (hL : L < 2 ^ 20) (hH : H + n + 1 < 2 ^ 30) (h0 : T.2.2.1 0 0 = 0) : MRunOK2 T n := fun j hj hp => by
  obtain ⟨a1, a2, -⟩ := run_rel h hT hL hH j hj (run_pre h hT hL hH j hj hp)
  refine ⟨a2.2.2.2.trans h0, fun _ hq => (a1.say (k := 0) ?_ (by omega)).1⟩
  rw [a1.cnt]; exact i32_pos hq
theorem rk_z {S : St} {j : Nat} : rk S j 0 = j := by rw [rk]
theorem mrk_z {S : St} {j : Nat} : mrk S j 0 = j := by rw [mrk]
theorem run_k {H TM L n : Nat} {S T : St} (h : Rel H TM L S T) (hT : TM < 2 ^ 20) (hL : L < 2 ^ 20) (hH : H + n + 1 < 2 ^ 30) : ∀ c j, j + c ≤ n → (∀ i, i < j → ¬ (rn S i).1 6 0 2 ≤ 0) → rk S j c = mrk T j c ∧ rk S j c ≤ j + c ∧ ∀ i, i < rk S j c → ¬ (rn S i).1 6 0 2 ≤ 0
  | 0, j, hj, hp => by rw [rk_z, mrk_z]; exact ⟨rfl, Nat.le_refl _, hp⟩
  | c + 1, j, hj, hp => by
    have hc := (run_rel h hT hL hH j (by omega) hp).1.cnt
    by_cases z : (rn S j).1 6 0 2 ≤ 0
    · rw [rk_0 z, mrk_0 (by rw [← hc]; exact z)]; exact ⟨rfl, by omega, hp⟩
    · rw [rk_1 z, mrk_1 (by rw [← hc]; exact z)]
      obtain ⟨a1, a2, a3⟩ := run_k h hT hL hH c (j + 1) (by omega) (fun i hi => by
        by_cases y : i = j
        · rw [y]; exact z
        · exact hp i (by omega))
      exact ⟨a1, by omega, a3⟩
/-! a tick -/
theorem Rel.tick0 {H TM L : Nat} {S T : St} (h : Rel H TM L S T) (hH : H < 2 ^ 30) : Rel H (TM + 1) L (tkn S 0) (mtk T 0) := by
  obtain ⟨⟨tm, t1, t2, t3⟩, ⟨d1, d2⟩, n, em, bm, li, gt, fl⟩ := h
  rw [tkn_0, mtk_0]
  have s0 : ∀ x y z, x ≠ 9 → (sc S 9 0 4 (S.1 9 0 4 + 1)).1 x y z = S.1 x y z := fun x y z a => by rw [sc_get, if_neg (by omega)]
  have m0 : ∀ f i, f ≠ 0 → f ≠ 1 → (sm (sm T 0 0 0) 1 0 ((sm T 0 0 0).2.2.1 1 0 + 1)).2.2.1 f i = T.2.2.1 f i := fun f i a b => by rw [sm_get, if_neg (by omega), sm_get, if_neg (by omega)]
  have eh : hdN (sm (sm T 0 0 0) 1 0 ((sm T 0 0 0).2.2.1 1 0 + 1)) = hdN T := hdN_eq (m0 _ _ (by omega) (by omega))
  refine ⟨⟨tm + 1, by omega, by rw [sc_get, if_pos ⟨rfl, rfl, rfl⟩, t2, nI_1], by rw [sm_get, if_pos ⟨rfl, rfl⟩, sm_get, if_neg (by omega), t3, nI_1]⟩, ⟨by rw [m0 _ _ (by omega) (by omega), eh]; exact d1, by rw [eh]; exact d2⟩, n.eq (fun x y z k => s0 _ _ _ (by omega)) (fun f i k => m0 _ _ (by omega) (by omega)), em.eq (fun i k => s0 _ _ _ (by omega)) (fun f i a b => m0 _ _ (by omega) (by omega)), bm.eq (fun i => ⟨m0 _ _ (by omega) (by omega), m0 _ _ (by omega) (by omega)⟩), fun i hi => ?_, fun y hy => ?_, fun y hy => ?_⟩
  · exact (li i hi).eq (fun x k z => s0 _ _ _ (by omega)) (fun f a b => m0 _ _ (by omega) (by omega)) (fun f b a c => m0 _ _ (by omega) (by omega))
  · exact (gt y hy).eq (fun k => s0 _ _ _ (by omega)) rfl (fun f a b => m0 _ _ (by omega) (by omega)) (fun n hn => m0 _ _ (by omega) (by omega))
  · exact (fl y hy).eq (fun x w z k => s0 _ _ _ (by omega)) (fun f i k => m0 _ _ (by omega) (by omega)) (by omega) (by omega)
theorem Rel.tickA {H TM L g : Nat} {S T : St} {t : Int32} (h : Rel H TM L S T) (hg : g < 3) (hH : H < 2 ^ 30) (ht : t = S.1 9 0 4) : Rel H TM L (fl_time S g t) (ml_st T g) := by
  have ti := h.time
  obtain ⟨-, hd, n, em, bm, li, gt, fl⟩ := id h
  obtain ⟨a1, a2, a3⟩ := (fl g hg).time (t := t) n em.th hg (ht.trans ti)
  exact h.floor .time .st a1 a2 (hd_same hd a3) hH
theorem Rel.play1 {H TM L g n : Nat} {S T : St} {t : Int32} (h : Rel H TM L S T) (hg : g < 3) (hn : n < 6) (hL : L < 2 ^ 20) (hH : H < 2 ^ 30) (ht : t = S.1 9 0 4) : Rel H TM (L + 1) (pp1 S g t n) (ml_play T (6 * g + n)) := by
  have ti := h.time
  obtain ⟨-, hd, nn, em, bm, li, gt, fl⟩ := id h
  have e0 : S.1 4 (6 * g + n) 0 = T.2.2.1 5 (6 * g + n) := em _ 0 (by omega) (by omega)
  unfold pp1
  rw [e0]
  by_cases z : T.2.2.1 5 (6 * g + n) = 0
  · rw [if_pos z]
    unfold ml_play
    rw [if_pos z]
    exact h.mono (Nat.le_refl _) (Nat.le_refl _) (by omega)
  · rw [if_neg z]
    exact h.lis LiJ.play MiJ.play ((li _ (by omega)).play hL (ht.trans ti) z) (by omega) hH
theorem pp_t {S : St} {g : Nat} {t : Int32} {n : Nat} : (pp S g t n).1 9 0 4 = S.1 9 0 4 := (LiL.pp n).2 9 0 4 (by decide) (by decide) (by decide)
theorem Rel.tickB {H TM L g : Nat} {S T : St} {t : Int32} (h : Rel H TM L S T) (hg : g < 3) (hL : L + 6 < 2 ^ 20) (hH : H < 2 ^ 30) (ht : t = S.1 9 0 4) : ∀ n, n ≤ 6 → Rel H TM (L + n) (pp S g t n) (mpl T g n) ∧ KeM T (mpl T g n)
  | 0, _ => ⟨h, .rf⟩
  | n + 1, hn => by
    obtain ⟨a1, a2⟩ := Rel.tickB h hg hL hH ht n (by omega)
    rw [mpl_s]
    exact ⟨a1.play1 hg (by omega) (by omega) hH (by rw [pp_t]; exact ht), a2.tr (.mj MiJ.play)⟩
theorem Rel.tick {H TM L : Nat} {S T : St} (h : Rel H TM L S T) (hL : L + 18 < 2 ^ 20) (hH : H < 2 ^ 30) : ∀ g, g ≤ 3 → Rel H (TM + 1) (L + 6 * g) (tkn S g) (mtk T g) ∧ KeC S (tkn S g) ∧ ((mtk T g).1 = T.1 ∧ (mtk T g).2.1 = T.2.1 ∧ (mtk T g).2.2.2 = T.2.2.2 ∧ (mtk T g).2.2.1 0 0 = 0)
  | 0, _ => ⟨h.tick0 hH, by rw [tkn_0]; rfl, by rw [mtk_0]; exact ⟨rfl, rfl, rfl, by rw [sm_get, if_neg (by omega), sm_get, if_pos ⟨rfl, rfl⟩]⟩⟩
  | g + 1, hg => by
    obtain ⟨a1, a2, a3, a4, a5, a6⟩ := Rel.tick h hL hH g (by omega)
    have b1 := a1.tickA (g := g) (t := S.1 9 0 4 + 1) (by omega) hH (tkn_t g).symm
    obtain ⟨b2, b3⟩ := b1.tickB (g := g) (t := S.1 9 0 4 + 1) (by omega) (by omega) hH (by rw [time_t, tkn_t]) 6 (Nat.le_refl _)
    rw [tkn_s, mtk_s]
    have k1 : KeM (mtk T g) (mpl (ml_st (mtk T g) g) g 6) := (KeM.lc LcM.st).tr b3
    refine ⟨b2, ?_, k1.1.trans a3, k1.2.1.trans a4, k1.2.2.1.trans a5, k1.2.2.2.trans a6⟩
    unfold KeC at a2 ⊢
    rw [(LiL.pp 6).1, Loc.time.1]; exact a2
theorem tick_ok {H TM L : Nat} {S T : St} (h : Rel H TM L S T) (hL : L + 18 < 2 ^ 20) (hH : H < 2 ^ 30) : TickOK S := fun g hg => by
  obtain ⟨a1, -⟩ := h.tick hL hH g (by omega)
  exact ⟨a1.nok, a1.fli hg⟩
theorem tick_mok {H TM L : Nat} {S T : St} (h : Rel H TM L S T) (hL : L + 18 < 2 ^ 20) (hH : H < 2 ^ 30) : MTickOK T := fun g hg => by
  obtain ⟨a1, -⟩ := h.tick hL hH g (by omega)
  refine ⟨a1.mi hg, fun n hn => ?_⟩
  have b1 := a1.tickA (g := g) (t := S.1 9 0 4 + 1) hg hH (tkn_t g).symm
  obtain ⟨b2, -⟩ := b1.tickB (g := g) (t := S.1 9 0 4 + 1) hg (by omega) hH (by rw [time_t, tkn_t]) n (by omega)
  obtain ⟨-, -, -, -, -, li, -, -⟩ := b2
  obtain ⟨-, -, c3, c4, -⟩ := li (6 * g + n) (by omega)
  exact ⟨c3, by omega⟩
