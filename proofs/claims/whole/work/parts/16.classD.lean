def wN (S : St) (g : Nat) : Nat := (S.1 1 g 5).toNatClampNeg
def rN (S : St) (g k : Nat) : Nat := (S.1 13 g k).toNatClampNeg
/-- the row that waits: its length, its members -/
def FlW (S : St) (g : Nat) : Prop := S.1 1 g 5 = nI (wN S g) ∧ wN S g ≤ 4 ∧ ∀ k, k < wN S g → rN S g k < 6 ∧ S.1 13 g k = nI (rN S g k)
theorem NetOK.sc {S : St} {κ i k : Nat} {v : Int32} (h : NetOK S) (h6 : κ ≠ 6) (h11 : κ ≠ 11) : NetOK (sc S κ i k v) := by
  obtain ⟨c, p, hc, hcn, hpo⟩ := h
  refine ⟨c, p, hc, ?_, fun q hq => ⟨(hpo q hq).1, ?_⟩⟩
  · rw [sc_get, if_neg (by omega)]; exact hcn
  · rw [sc_get, if_neg (by omega)]; exact (hpo q hq).2
theorem NetOK.sl {S : St} {g : Nat} {v : Int64} (h : NetOK S) : NetOK (sl S g v) := h
def plf (S : St) (g : Nat) (m : Int32) : Nat → Nat → Nat
  | p, 0 => p
  | p, n + 1 => if S.1 13 g p = m then p else plf S g m (p + 1) n
theorem plf_le (S : St) (g : Nat) (m : Int32) : ∀ n p, p ≤ plf S g m p n ∧ plf S g m p n ≤ p + n
  | 0, p => ⟨Nat.le_refl _, Nat.le_refl _⟩
  | n + 1, p => by
    unfold plf
    split
    · omega
    · have := plf_le S g m n (p + 1); omega
def fl_place (S : St) (g : Nat) (m : Int32) : Nat := plf S g m 0 (wN S g)
set_option maxRecDepth 100000 in
set_option maxHeartbeats 4000000 in
theorem l_place {X : XS} {d : Nat} {S : St} {g : Nat} (hg : g < 3) (hW : FlW S g) (m : Int32) : ∀ n j, j + n = wN S g → Ex X mX1_placeOf false d 2 [some (.ref (ad 1 g)), some (.int m), some (.int (nI j))] [] (hp S) 0 0 (.inl (some (.int (nI (plf S g m j n)))), hp (S), 0, 0) := by
  intro n
  induction n with
  | zero =>
    intro j hj
    have hw4 := hW.2.1
    have e0 : plf S g m j 0 = j := rfl
    rw [e0]
    refine x_iload_n dX1_placeOf_2 rfl ?_
    refine x_aload_n dX1_placeOf_3 rfl ?_
    refine x_get dX1_placeOf_4 fl_RX1_79 (hp_get (κ := 1) (by first | assumption | (show _ < _; simp only [cnt]; omega))) rfl ?_
    refine x_icmp_ge (tgt := 26) dX1_placeOf_7 (by decide) (fun hc7 => ?_) (fun hc7 => by first | exact absurd (by rw [hW.1]; exact nI_le (by omega) (by omega)) hc7 | exact absurd hc7 (by rw [hW.1]; exact nI_le (by omega) (by omega)))
    refine x_iload_n dX1_placeOf_26 rfl ?_
    exact x_rI dX1_placeOf_27 rfl rfl rfl rfl (by simp) (by simp)
  | succ n ih =>
    intro j hj
    have hw4 := hW.2.1
    refine x_iload_n dX1_placeOf_2 rfl ?_
    refine x_aload_n dX1_placeOf_3 rfl ?_
    refine x_get dX1_placeOf_4 fl_RX1_79 (hp_get (κ := 1) (by first | assumption | (show _ < _; simp only [cnt]; omega))) rfl ?_
    refine x_icmp_ge (tgt := 26) dX1_placeOf_7 (by decide) (fun hc7 => by first | exact absurd hc7 (by rw [hW.1]; exact nI_ge (by omega) (by omega)) | exact absurd (by rw [hW.1]; exact nI_ge (by omega) (by omega)) hc7) (fun hc7 => ?_)
    refine x_aload_n dX1_placeOf_10 rfl ?_
    refine x_get dX1_placeOf_11 fl_RX1_21 (hp_get (κ := 1) (by first | assumption | (show _ < _; simp only [cnt]; omega))) rfl ?_
    refine x_iload_n dX1_placeOf_14 rfl ?_
    refine x_ialdC dX1_placeOf_15 ac_13 (by first | assumption | (show _ < _; simp only [cnt]; omega)) (by first | omega | exact sl16_lt _ | assumption) (by decide) ?_
    refine x_iload_n dX1_placeOf_16 rfl ?_
    refine x_icmp_eq (tgt := 26) dX1_placeOf_17 (by decide) (fun hc17 => ?_) (fun hc17 => ?_)
    · refine x_iload_n dX1_placeOf_26 rfl ?_
      exact x_rI dX1_placeOf_27 rfl rfl (by simp [plf, hc7, hc17]) rfl (by simp) (by simp)
    · refine x_iinc (v := _ + 1) (lv' := [_, _, _]) dX1_placeOf_20 rfl rfl (by decide) rfl ?_
      refine x_goto (tgt := 2) dX1_placeOf_23 (by decide) ?_
      rw [show plf S g m j (n + 1) = plf S g m (j + 1) n by simp [plf, hc7, hc17], nI_1]
      exact ih (j + 1) (by omega)
set_option maxRecDepth 100000 in
set_option maxHeartbeats 4000000 in
theorem c_placeOf {X : XS} {d : Nat} {S : St} {g : Nat} (hg : g < 3) (hW : FlW S g) (m : Int32) : Call X mX1_placeOf false d [.ref (ad 1 g), .int m] (hp S) (.inl (some (.int (nI (fl_place S g m)))), hp (S), 0, 0) := by
  refine Call.of fX1_placeOf (by decide) rfl (by simp [Value.category]) (Nat.le_of_ble_eq_true rfl) (lv := [some (.ref (ad 1 g)), some (.int m), none]) rfl ?_
  refine x_iconst (v := 0) dX1_placeOf_0 (by decide) ?_
  refine x_istore_n (lv' := [_, _, _]) dX1_placeOf_1 (by decide) rfl ?_
  exact l_place hg hW m (wN S g) 0 (by omega)
def gof (S : St) (g p : Nat) : Nat → St
  | 0 => S
  | n + 1 => sc (gof S g p n) 13 g (p + n) ((gof S g p n).1 13 g (p + n + 1))
theorem gof_get {S : St} {g p a b c : Nat} (h : a ≠ 13) : ∀ n, (gof S g p n).1 a b c = S.1 a b c
  | 0 => rfl
  | n + 1 => by
    show (sc _ _ _ _ _).1 a b c = _
    rw [sc_get, if_neg (by omega)]
    exact gof_get h n
def fl_go (S : St) (g p : Nat) : St := if wN S g ≤ p then S else gof (sc S 1 g 5 (S.1 1 g 5 - 1)) g p (wN S g - 1 - p)
set_option maxRecDepth 100000 in
set_option maxHeartbeats 4000000 in
theorem l_go {X : XS} {d : Nat} {S : St} {g p w1 : Nat} (hg : g < 3) (hw : S.1 1 g 5 = nI w1) (hw3 : w1 ≤ 3) : ∀ n j, p + j + n = w1 → Ex X mX1_goFromRow false d 21 [some (.ref (ad 1 g)), some (.int (nI p)), some (.int (nI (p + j)))] [] (hp (gof S g p j)) 0 0 (.inl none, hp (gof S g p (w1 - p)), 0, 0) := by
  intro n
  induction n with
  | zero =>
    intro j hj
    refine x_iload_n dX1_goFromRow_21 rfl ?_
    refine x_aload_n dX1_goFromRow_22 rfl ?_
    refine x_get dX1_goFromRow_23 fl_RX1_79 (hp_get (κ := 1) (by first | assumption | (show _ < _; simp only [cnt]; omega))) rfl ?_
    refine x_eqi ((gof_get (by decide) j).trans hw) ?_
    refine x_icmp_ge (tgt := 49) dX1_goFromRow_26 (by decide) (fun hc26 => ?_) (fun hc26 => by first | exact absurd (nI_le (by omega) (by omega)) hc26 | exact absurd hc26 (nI_le (by omega) (by omega)))
    exact x_rV dX1_goFromRow_49 rfl rfl (by rw [show w1 - p = j by omega]) (by simp) (by simp)
  | succ n ih =>
    intro j hj
    refine x_iload_n dX1_goFromRow_21 rfl ?_
    refine x_aload_n dX1_goFromRow_22 rfl ?_
    refine x_get dX1_goFromRow_23 fl_RX1_79 (hp_get (κ := 1) (by first | assumption | (show _ < _; simp only [cnt]; omega))) rfl ?_
    refine x_eqi ((gof_get (by decide) j).trans hw) ?_
    refine x_icmp_ge (tgt := 49) dX1_goFromRow_26 (by decide) (fun hc26 => by first | exact absurd hc26 (nI_ge (by omega) (by omega)) | exact absurd (nI_ge (by omega) (by omega)) hc26) (fun hc26 => ?_)
    refine x_aload_n dX1_goFromRow_29 rfl ?_
    refine x_get dX1_goFromRow_30 fl_RX1_21 (hp_get (κ := 1) (by first | assumption | (show _ < _; simp only [cnt]; omega))) rfl ?_
    refine x_iload_n dX1_goFromRow_33 rfl ?_
    refine x_aload_n dX1_goFromRow_34 rfl ?_
    refine x_get dX1_goFromRow_35 fl_RX1_21 (hp_get (κ := 1) (by first | assumption | (show _ < _; simp only [cnt]; omega))) rfl ?_
    refine x_iload_n dX1_goFromRow_38 rfl ?_
    refine x_iconst (v := 1) dX1_goFromRow_39 (by decide) ?_
    refine x_iadd dX1_goFromRow_40 ?_
    refine x_eqi (nI_1 (p + j)) ?_
    refine x_ialdC dX1_goFromRow_41 ac_13 (by first | assumption | (show _ < _; simp only [cnt]; omega)) (by first | omega | exact sl16_lt _ | assumption) (by decide) ?_
    refine x_iastC dX1_goFromRow_42 ac_13 (by first | assumption | (show _ < _; simp only [cnt]; omega)) (by first | omega | exact sl16_lt _ | assumption) (by decide) ?_
    refine x_iinc (v := _ + 1) (lv' := [_, _, _]) dX1_goFromRow_43 rfl rfl (by decide) rfl ?_
    refine x_goto (tgt := 21) dX1_goFromRow_46 (by decide) ?_
    rw [nI_1, show p + j + 1 = p + (j + 1) by omega]
    exact ih (j + 1) (by omega)
set_option maxRecDepth 100000 in
set_option maxHeartbeats 4000000 in
theorem c_goFromRow {X : XS} {d : Nat} {S : St} {g p : Nat} (hg : g < 3) (hW : FlW S g) (hp4 : p ≤ 4) : Call X mX1_goFromRow false d [.ref (ad 1 g), .int (nI p)] (hp S) (.inl none, hp (fl_go S g p), 0, 0) := by
  have hw4 := hW.2.1
  refine Call.of fX1_goFromRow (by decide) rfl (by simp [Value.category]) (Nat.le_of_ble_eq_true rfl) (lv := [some (.ref (ad 1 g)), some (.int (nI p)), none]) rfl ?_
  refine x_iload_n dX1_goFromRow_0 rfl ?_
  refine x_aload_n dX1_goFromRow_1 rfl ?_
  refine x_get dX1_goFromRow_2 fl_RX1_79 (hp_get (κ := 1) (by first | assumption | (show _ < _; simp only [cnt]; omega))) rfl ?_
  refine x_eqi hW.1 ?_
  refine x_icmp_lt (tgt := 9) dX1_goFromRow_5 (by decide) (fun hc5 => ?_) (fun hc5 => ?_)
  · refine x_aload_n dX1_goFromRow_9 rfl ?_
    refine x_dup dX1_goFromRow_10 rfl ?_
    refine x_get dX1_goFromRow_11 fl_RX1_79 (hp_get (κ := 1) (by first | assumption | (show _ < _; simp only [cnt]; omega))) rfl ?_
    refine x_iconst (v := 1) dX1_goFromRow_14 (by decide) ?_
    refine x_isub dX1_goFromRow_15 ?_
    refine x_putC dX1_goFromRow_16 fp_RX1_79 (by first | assumption | (show _ < _; simp only [cnt]; omega)) pb_1_5 ⟨rfl, rfl⟩ ?_
    refine x_iload_n dX1_goFromRow_19 rfl ?_
    refine x_istore_n (lv' := [_, _, _]) dX1_goFromRow_20 (by decide) rfl ?_
    have hlt : p < wN S g := (nI_ltI (by omega) (by omega)).mp hc5
    have e1 : fl_go S g p = gof (sc S 1 g 5 (S.1 1 g 5 - 1)) g p (wN S g - 1 - p) := if_neg (by omega)
    rw [e1]
    exact l_go (S := sc S 1 g 5 (S.1 1 g 5 - 1)) hg (w1 := wN S g - 1) (by rw [sc_get, if_pos ⟨rfl, rfl, rfl⟩, hW.1, show wN S g = (wN S g - 1) + 1 by omega, nI_pred]; rfl) (by omega) (wN S g - 1 - p) 0 (by omega)
  · exact x_rV dX1_goFromRow_8 rfl rfl (by unfold fl_go; rw [if_pos (Nat.not_lt.mp (fun z => hc5 (nI_lt z (by omega))))]) (by simp) (by simp)
def enf (S : St) (g m : Nat) : Nat → Nat → Nat
  | p, 0 => p
  | p, n + 1 => if cl_above S (6 * g + m) (6 * g + rN S g p) = true then p else enf S g m (p + 1) n
theorem enf_le (S : St) (g m : Nat) : ∀ n p, p ≤ enf S g m p n ∧ enf S g m p n ≤ p + n
  | 0, p => ⟨Nat.le_refl _, Nat.le_refl _⟩
  | n + 1, p => by
    unfold enf
    split
    · omega
    · have := enf_le S g m n (p + 1); omega
def shf (S : St) (g w : Nat) : Nat → St
  | 0 => S
  | n + 1 => sc (shf S g w n) 13 g (w - n) ((shf S g w n).1 13 g (w - n - 1))
theorem shf_get {S : St} {g w a b c : Nat} (h : a ≠ 13) : ∀ n, (shf S g w n).1 a b c = S.1 a b c
  | 0 => rfl
  | n + 1 => by
    show (sc _ _ _ _ _).1 a b c = _
    rw [sc_get, if_neg (by omega)]
    exact shf_get h n
theorem shf_net {S : St} {g w : Nat} (h : NetOK S) : ∀ n, NetOK (shf S g w n)
  | 0 => h
  | n + 1 => (shf_net h n).sc (by decide) (by decide)
def fl_at (S : St) (g m : Nat) : Nat := enf S g m 0 (wN S g)
def fl_ins (S : St) (g m : Nat) : St := let p := fl_at S g m; let S1 := shf S g (wN S g) (wN S g - p); let S2 := sc S1 13 g p (nI m); sc S2 1 g 5 (S2.1 1 g 5 + 1)
def fl_enq (S : St) (g m : Nat) : St := nt_send (fl_ins S g m) 4 (nI g) (nI m) ((fl_ins S g m).1 0 (6 * g + m) 0) (nI (fl_at S g m)) 0
/-- the flags of a group's claims -/
def ClB (S : St) (g : Nat) : Prop := ∀ m, m < 6 → S.1 0 (6 * g + m) 2 = 0 ∨ S.1 0 (6 * g + m) 2 = 1
set_option maxRecDepth 100000 in
set_option maxHeartbeats 4000000 in
theorem l_enq1 {X : XS} {d : Nat} {S : St} {g m : Nat} {r : Rs} (hg : g < 3) (hm : m < 6) (hW : FlW S g) (hB : ClB S g) (h1 : 0 ≤ r.2.2.1) : ∀ n j, j + n = wN S g → Ex X mX1_enqueue false (d + 2) 39 [some (.ref (ad 1 g)), some (.int (nI m)), some (.int (nI (enf S g m j n))), none] [] (hp S) 0 0 r → Ex X mX1_enqueue false (d + 2) 2 [some (.ref (ad 1 g)), some (.int (nI m)), some (.int (nI j)), none] [] (hp S) 0 0 r := by
  have hw4 := hW.2.1
  intro n
  induction n with
  | zero =>
    intro j hj kk
    refine x_iload_n dX1_enqueue_2 rfl ?_
    refine x_aload_n dX1_enqueue_3 rfl ?_
    refine x_get dX1_enqueue_4 fl_RX1_79 (hp_get (κ := 1) (by first | assumption | (show _ < _; simp only [cnt]; omega))) rfl ?_
    refine x_icmp_ge (tgt := 39) dX1_enqueue_7 (by decide) (fun hc7 => ?_) (fun hc7 => by first | exact absurd (by rw [hW.1]; exact nI_le (by omega) (by omega)) hc7 | exact absurd hc7 (by rw [hW.1]; exact nI_le (by omega) (by omega)))
    exact kk
  | succ n ih =>
    intro j hj kk
    refine x_iload_n dX1_enqueue_2 rfl ?_
    refine x_aload_n dX1_enqueue_3 rfl ?_
    refine x_get dX1_enqueue_4 fl_RX1_79 (hp_get (κ := 1) (by first | assumption | (show _ < _; simp only [cnt]; omega))) rfl ?_
    refine x_icmp_ge (tgt := 39) dX1_enqueue_7 (by decide) (fun hc7 => by first | exact absurd hc7 (by rw [hW.1]; exact nI_ge (by omega) (by omega)) | exact absurd (by rw [hW.1]; exact nI_ge (by omega) (by omega)) hc7) (fun hc7 => ?_)
    refine x_aload_n dX1_enqueue_10 rfl ?_
    refine x_get dX1_enqueue_11 fl_RX1_44 (hp_get (κ := 1) (by first | assumption | (show _ < _; simp only [cnt]; omega))) rfl ?_
    refine x_iload_n dX1_enqueue_14 rfl ?_
    refine x_claims dX1_enqueue_15 (by first | assumption | (show _ < _; simp only [cnt]; omega)) (by first | omega | exact sl16_lt _ | assumption) ?_
    refine x_aload_n dX1_enqueue_16 rfl ?_
    refine x_get dX1_enqueue_17 fl_RX1_44 (hp_get (κ := 1) (by first | assumption | (show _ < _; simp only [cnt]; omega))) rfl ?_
    refine x_aload_n dX1_enqueue_20 rfl ?_
    refine x_get dX1_enqueue_21 fl_RX1_21 (hp_get (κ := 1) (by first | assumption | (show _ < _; simp only [cnt]; omega))) rfl ?_
    refine x_iload_n dX1_enqueue_24 rfl ?_
    refine x_ialdC dX1_enqueue_25 ac_13 (by first | assumption | (show _ < _; simp only [cnt]; omega)) (by first | omega | exact sl16_lt _ | assumption) (by decide) ?_
    refine x_eqi (hW.2.2 j (by omega)).2 ?_
    refine x_claims dX1_enqueue_26 (by first | assumption | (show _ < _; simp only [cnt]; omega)) (hW.2.2 j (by omega)).1 ?_
    refine x_cV (as := [_]) dX1_enqueue_27 fX0_isAbove rfl lk_RX1_130 rfl (hp_get (κ := 0) (by show _ < 18; omega)) rfl rfl (Nat.le_of_ble_eq_true rfl) (c_isAbove (by omega) (by have := (hW.2.2 j (by omega)).1; omega) (hB m hm)) (by simp) (by simp) ?_
    refine x_if_neB (tgt := 39) dX1_enqueue_30 (by decide) (fun hc30 => ?_) (fun hc30 => ?_)
    · have e0 : enf S g m j (n + 1) = j := by simp [enf, hc7, hc30]
      rw [e0] at kk
      exact kk
    · refine x_iinc (v := _ + 1) (lv' := [_, _, _, _]) dX1_enqueue_33 rfl rfl (by decide) rfl ?_
      refine x_goto (tgt := 2) dX1_enqueue_36 (by decide) ?_
      rw [show enf S g m j (n + 1) = enf S g m (j + 1) n by simp [enf, hc7, hc30]] at kk
      rw [nI_1]
      exact ih (j + 1) (by omega) kk
set_option maxRecDepth 100000 in
set_option maxHeartbeats 4000000 in
theorem l_enq2 {X : XS} {d : Nat} {S : St} {g m p w : Nat} {r : Rs} (hg : g < 3) (hw : w ≤ 3) : ∀ n j, p + j + n = w → Ex X mX1_enqueue false (d + 2) 69 [some (.ref (ad 1 g)), some (.int (nI m)), some (.int (nI p)), some (.int (nI p))] [] (hp (shf S g w (w - p))) 0 0 r → Ex X mX1_enqueue false (d + 2) 44 [some (.ref (ad 1 g)), some (.int (nI m)), some (.int (nI p)), some (.int (nI (w - j)))] [] (hp (shf S g w j)) 0 0 r := by
  intro n
  induction n with
  | zero =>
    intro j hj kk
    have ej : w - j = p := by omega
    rw [ej]
    refine x_iload_n dX1_enqueue_44 rfl ?_
    refine x_iload_n dX1_enqueue_45 rfl ?_
    refine x_icmp_le (tgt := 69) dX1_enqueue_46 (by decide) (fun hc46 => ?_) (fun hc46 => by first | exact absurd (nI_le (by omega) (by omega)) hc46 | exact absurd hc46 (nI_le (by omega) (by omega)))
    rw [show w - p = j by omega] at kk
    exact kk
  | succ n ih =>
    intro j hj kk
    refine x_iload_n dX1_enqueue_44 rfl ?_
    refine x_iload_n dX1_enqueue_45 rfl ?_
    refine x_icmp_le (tgt := 69) dX1_enqueue_46 (by decide) (fun hc46 => by first | exact absurd hc46 (nI_ge (by omega) (by omega)) | exact absurd (nI_ge (by omega) (by omega)) hc46) (fun hc46 => ?_)
    refine x_aload_n dX1_enqueue_49 rfl ?_
    refine x_get dX1_enqueue_50 fl_RX1_21 (hp_get (κ := 1) (by first | assumption | (show _ < _; simp only [cnt]; omega))) rfl ?_
    refine x_iload_n dX1_enqueue_53 rfl ?_
    refine x_aload_n dX1_enqueue_54 rfl ?_
    refine x_get dX1_enqueue_55 fl_RX1_21 (hp_get (κ := 1) (by first | assumption | (show _ < _; simp only [cnt]; omega))) rfl ?_
    refine x_iload_n dX1_enqueue_58 rfl ?_
    refine x_iconst (v := 1) dX1_enqueue_59 (by decide) ?_
    refine x_isub dX1_enqueue_60 ?_
    refine x_eqi (show nI (w - j) - 1 = nI (w - j - 1) from pk_sub (b := 1) (by omega)) ?_
    refine x_ialdC dX1_enqueue_61 ac_13 (by first | assumption | (show _ < _; simp only [cnt]; omega)) (by first | omega | exact sl16_lt _ | assumption) (by decide) ?_
    refine x_iastC dX1_enqueue_62 ac_13 (by first | assumption | (show _ < _; simp only [cnt]; omega)) (by first | omega | exact sl16_lt _ | assumption) (by decide) ?_
    refine x_iinc (v := _ + (-1)) (lv' := [_, _, _, _]) dX1_enqueue_63 rfl rfl (by decide) rfl ?_
    refine x_goto (tgt := 44) dX1_enqueue_66 (by decide) ?_
    rw [show nI (w - j) + (-1) = nI (w - (j + 1)) by rw [sb_m1 (by omega)]; rfl]
    exact ih (j + 1) (by omega) kk
set_option maxRecDepth 100000 in
set_option maxHeartbeats 4000000 in
theorem c_enqueue {X : XS} {d : Nat} {S : St} {g m : Nat} (hg : g < 3) (hm : m < 6) (hW : FlW S g) (hw : wN S g ≤ 3) (hB : ClB S g) (hN : NetOK S) : Call X mX1_enqueue false (d + 2) [.ref (ad 1 g), .int (nI m)] (hp S) (.inl none, hp (fl_enq S g m), 0, 0) := by
  have hpl := enf_le S g m (wN S g) 0
  refine Call.of fX1_enqueue (by decide) rfl (by simp [Value.category]) (Nat.le_of_ble_eq_true rfl) (lv := [some (.ref (ad 1 g)), some (.int (nI m)), none, none]) rfl ?_
  refine x_iconst (v := 0) dX1_enqueue_0 (by decide) ?_
  refine x_istore_n (lv' := [_, _, _, _]) dX1_enqueue_1 (by decide) rfl ?_
  refine l_enq1 hg hm hW hB (by simp) (wN S g) 0 (by omega) ?_
  refine x_aload_n dX1_enqueue_39 rfl ?_
  refine x_get dX1_enqueue_40 fl_RX1_79 (hp_get (κ := 1) (by first | assumption | (show _ < _; simp only [cnt]; omega))) rfl ?_
  refine x_eqi hW.1 ?_
  refine x_istore_n (lv' := [_, _, _, _]) dX1_enqueue_43 (by decide) rfl ?_
  refine l_enq2 (S := S) (w := wN S g) (p := enf S g m 0 (wN S g)) hg hw (wN S g - enf S g m 0 (wN S g)) 0 (by omega) ?_
  refine x_aload_n dX1_enqueue_69 rfl ?_
  refine x_get dX1_enqueue_70 fl_RX1_21 (hp_get (κ := 1) (by first | assumption | (show _ < _; simp only [cnt]; omega))) rfl ?_
  refine x_iload_n dX1_enqueue_73 rfl ?_
  refine x_iload_n dX1_enqueue_74 rfl ?_
  refine x_iastC dX1_enqueue_75 ac_13 (by first | assumption | (show _ < _; simp only [cnt]; omega)) (by first | omega | exact sl16_lt _ | assumption) (by decide) ?_
  refine x_aload_n dX1_enqueue_76 rfl ?_
  refine x_dup dX1_enqueue_77 rfl ?_
  refine x_get dX1_enqueue_78 fl_RX1_79 (hp_get (κ := 1) (by first | assumption | (show _ < _; simp only [cnt]; omega))) rfl ?_
  refine x_iconst (v := 1) dX1_enqueue_81 (by decide) ?_
  refine x_iadd dX1_enqueue_82 ?_
  refine x_putC dX1_enqueue_83 fp_RX1_79 (by first | assumption | (show _ < _; simp only [cnt]; omega)) pb_1_5 ⟨rfl, rfl⟩ ?_
  refine x_aload_n dX1_enqueue_86 rfl ?_
  refine x_get dX1_enqueue_87 fl_RX1_38 (hp_get (κ := 1) (by first | assumption | (show _ < _; simp only [cnt]; omega))) rfl ?_
  refine x_iconst (v := 4) dX1_enqueue_90 (by decide) ?_
  refine x_iload_n dX1_enqueue_91 rfl ?_
  refine x_aload_n dX1_enqueue_92 rfl ?_
  refine x_get dX1_enqueue_93 fl_RX1_44 (hp_get (κ := 1) (by first | assumption | (show _ < _; simp only [cnt]; omega))) rfl ?_
  refine x_iload_n dX1_enqueue_96 rfl ?_
  refine x_claims dX1_enqueue_97 (by first | assumption | (show _ < _; simp only [cnt]; omega)) (by first | omega | exact sl16_lt _ | assumption) ?_
  refine x_get dX1_enqueue_98 fl_RX1_61 (hp_get (κ := 0) (by first | assumption | (show _ < _; simp only [cnt]; omega))) rfl ?_
  refine x_iload_n dX1_enqueue_101 rfl ?_
  refine x_cVv (as := [_, _, _, _]) dX1_enqueue_102 fX7_tell rfl lk_RX1_88 rfl (hp_get (κ := 7) (by first | assumption | (show _ < _; simp only [cnt]; omega))) rfl rfl (Nat.le_of_ble_eq_true rfl) (c_tell hg (((shf_net hN _).sc (by decide) (by decide)).sc (by decide) (by decide)) _ _ _ _) (by simp) (by simp) ?_
  exact x_rV dX1_enqueue_105 rfl rfl rfl (by simp) (by simp)
def fl_gr0 (S : St) (g m : Nat) (t : Int32) : St := let S1 := sc (sc (sc S 1 g 6 (S.1 1 g 6 + 1)) 1 g 7 (nI m)) 1 g 8 t; ru_set S1 (2 * g + 1) (decide (S1.1 8 (2 * g) 0 = 1)) (S1.1 8 (2 * g) 1) (S1.1 8 (2 * g) 2) (S1.1 8 (2 * g) 3)
def fl_grant (S : St) (g m : Nat) (t : Int32) : St := let S0 := fl_gr0 S g m t; let S1 := nt_send S0 3 (nI g) (nI m) (S0.1 0 (6 * g + m) 0) (S0.1 1 g 6) 0; let S2 := nt_send S1 10 (nI g) (nI m) (S1.1 1 g 6) (nI m) 0; ot S2 g 8 (nI m) (S2.1 1 g 6) (nI m) 0 6
theorem b01 {x : Int32} (h : x = 0 ∨ x = 1) : x = bI (decide (x = 1)) := by rcases h with rfl | rfl <;> decide
theorem gr0_net {S : St} {g m : Nat} {t : Int32} (h : NetOK S) : NetOK (fl_gr0 S g m t) := ((((((h.sc (by decide) (by decide)).sc (by decide) (by decide)).sc (by decide) (by decide)).sc (by decide) (by decide)).sc (by decide) (by decide)).sc (by decide) (by decide)).sc (by decide) (by decide)
set_option maxRecDepth 100000 in
set_option maxHeartbeats 4000000 in
theorem c_grantTo {X : XS} {d : Nat} {S : St} {g m : Nat} (hg : g < 3) (hm : m < 6) (hN : NetOK S) (hb : S.1 8 (2 * g) 0 = 0 ∨ S.1 8 (2 * g) 0 = 1) (t : Int32) : Call X mX1_grantTo false (d + 2) [.ref (ad 1 g), .int (nI m), .int t] (hp S) (.inl none, hp (fl_grant S g m t), 0, 0) := by
  refine Call.of fX1_grantTo (by decide) rfl (by simp [Value.category]) (Nat.le_of_ble_eq_true rfl) (lv := [some (.ref (ad 1 g)), some (.int (nI m)), some (.int t)]) rfl ?_
  refine x_aload_n dX1_grantTo_0 rfl ?_
  refine x_dup dX1_grantTo_1 rfl ?_
  refine x_get dX1_grantTo_2 fl_RX1_106 (hp_get (κ := 1) (by first | assumption | (show _ < _; simp only [cnt]; omega))) rfl ?_
  refine x_iconst (v := 1) dX1_grantTo_5 (by decide) ?_
  refine x_iadd dX1_grantTo_6 ?_
  refine x_putC dX1_grantTo_7 fp_RX1_106 (by first | assumption | (show _ < _; simp only [cnt]; omega)) pb_1_6 ⟨rfl, rfl⟩ ?_
  refine x_aload_n dX1_grantTo_10 rfl ?_
  refine x_iload_n dX1_grantTo_11 rfl ?_
  refine x_putC dX1_grantTo_12 fp_RX1_25 (by first | assumption | (show _ < _; simp only [cnt]; omega)) pb_1_7 ⟨rfl, rfl⟩ ?_
  refine x_aload_n dX1_grantTo_15 rfl ?_
  refine x_iload_n dX1_grantTo_16 rfl ?_
  refine x_putC dX1_grantTo_17 fp_RX1_29 (by first | assumption | (show _ < _; simp only [cnt]; omega)) pb_1_8 ⟨rfl, rfl⟩ ?_
  refine x_aload_n dX1_grantTo_20 rfl ?_
  refine x_get dX1_grantTo_21 fl_RX1_18 (hp_get (κ := 1) (by first | assumption | (show _ < _; simp only [cnt]; omega))) rfl ?_
  refine x_aload_n dX1_grantTo_24 rfl ?_
  refine x_get dX1_grantTo_25 fl_RX1_12 (hp_get (κ := 1) (by first | assumption | (show _ < _; simp only [cnt]; omega))) rfl ?_
  refine x_cVv (as := [_]) dX1_grantTo_28 fX8_copyFrom rfl lk_RX1_126 rfl (hp_get (κ := 8) (by first | assumption | (show _ < _; simp only [cnt]; omega))) rfl rfl (Nat.le_of_ble_eq_true rfl) (c_ruCopy (by omega) (by omega) _ (b01 (by simpa [sc_get] using hb))) (by simp) (by simp) ?_
  refine x_aload_n dX1_grantTo_31 rfl ?_
  refine x_get dX1_grantTo_32 fl_RX1_38 (hp_get (κ := 1) (by first | assumption | (show _ < _; simp only [cnt]; omega))) rfl ?_
  refine x_iconst (v := 3) dX1_grantTo_35 (by decide) ?_
  refine x_iload_n dX1_grantTo_36 rfl ?_
  refine x_aload_n dX1_grantTo_37 rfl ?_
  refine x_get dX1_grantTo_38 fl_RX1_44 (hp_get (κ := 1) (by first | assumption | (show _ < _; simp only [cnt]; omega))) rfl ?_
  refine x_iload_n dX1_grantTo_41 rfl ?_
  refine x_claims dX1_grantTo_42 (by first | assumption | (show _ < _; simp only [cnt]; omega)) (by first | omega | exact sl16_lt _ | assumption) ?_
  refine x_get dX1_grantTo_43 fl_RX1_61 (hp_get (κ := 0) (by first | assumption | (show _ < _; simp only [cnt]; omega))) rfl ?_
  refine x_aload_n dX1_grantTo_46 rfl ?_
  refine x_get dX1_grantTo_47 fl_RX1_106 (hp_get (κ := 1) (by first | assumption | (show _ < _; simp only [cnt]; omega))) rfl ?_
  refine x_cVv (as := [_, _, _, _]) dX1_grantTo_50 fX7_tell rfl lk_RX1_88 rfl (hp_get (κ := 7) (by first | assumption | (show _ < _; simp only [cnt]; omega))) rfl rfl (Nat.le_of_ble_eq_true rfl) (c_tell hg (gr0_net hN) _ _ _ _) (by simp) (by simp) ?_
  refine x_aload_n dX1_grantTo_53 rfl ?_
  refine x_get dX1_grantTo_54 fl_RX1_38 (hp_get (κ := 1) (by first | assumption | (show _ < _; simp only [cnt]; omega))) rfl ?_
  refine x_bipush (v := 10) dX1_grantTo_57 (by decide) ?_
  refine x_iload_n dX1_grantTo_59 rfl ?_
  refine x_aload_n dX1_grantTo_60 rfl ?_
  refine x_get dX1_grantTo_61 fl_RX1_106 (hp_get (κ := 1) (by first | assumption | (show _ < _; simp only [cnt]; omega))) rfl ?_
  refine x_iload_n dX1_grantTo_64 rfl ?_
  refine x_cVv (as := [_, _, _, _]) dX1_grantTo_65 fX7_tell rfl lk_RX1_88 rfl (hp_get (κ := 7) (by first | assumption | (show _ < _; simp only [cnt]; omega))) rfl rfl (Nat.le_of_ble_eq_true rfl) (c_tell hg (nt_send_ok (gr0_net hN)) _ _ _ _) (by simp) (by simp) ?_
  refine x_aload_n dX1_grantTo_68 rfl ?_
  refine x_get dX1_grantTo_69 fl_RX1_38 (hp_get (κ := 1) (by first | assumption | (show _ < _; simp only [cnt]; omega))) rfl ?_
  refine x_bipush (v := 8) dX1_grantTo_72 (by decide) ?_
  refine x_iload_n dX1_grantTo_74 rfl ?_
  refine x_aload_n dX1_grantTo_75 rfl ?_
  refine x_get dX1_grantTo_76 fl_RX1_106 (hp_get (κ := 1) (by first | assumption | (show _ < _; simp only [cnt]; omega))) rfl ?_
  refine x_iload_n dX1_grantTo_79 rfl ?_
  refine x_iconst (v := 0) dX1_grantTo_80 (by decide) ?_
  refine x_cVv (as := [_, _, _, _, _]) dX1_grantTo_81 fX7_tellOthers rfl lk_RX1_113 rfl (hp_get (κ := 7) (by first | assumption | (show _ < _; simp only [cnt]; omega))) rfl rfl (Nat.le_of_ble_eq_true rfl) (c_tellOthers hg (nt_send_ok (nt_send_ok (gr0_net hN))) _ _ _ _ _) (by simp) (by simp) ?_
  exact x_rV dX1_grantTo_84 rfl rfl rfl (by simp) (by simp)
