def nSA (b i : Nat) : ME := .inl (3, 61, .inr (.inr (.inr (.inr (fun j => if j < i then some (b + 3 + j) else none)))))
def nOA (i : Nat) : ME := .inl (0, 61, .inl (fun j => if j < i then nI j else 0))
def nN (b : Nat) : ME := .inr (6, [.ref (b + 1), .ref (b + 2), .int 0, .int 0])
def nMs : ME := .inr (5, nf_X5)
def nHp (b i : Nat) : MH := nN b :: nSA b i :: nOA i :: List.replicate i nMs
theorem nHp_len {b i : Nat} : (nHp b i).length = 3 + i := by simp [nHp]; omega
theorem oa_step {i : Nat} : upd (fun j => if j < i then nI j else 0) i (nI i) = fun j => if j < i + 1 then nI j else 0 := by
  funext j
  unfold upd
  by_cases h1 : j = i
  · subst h1; simp
  · by_cases h2 : j < i
    · simp [h1, h2, show j < i + 1 by omega]
    · simp [h1, h2, show ¬ j < i + 1 by omega]
theorem sa_step {b i : Nat} : va_up (fun j => if j < i then some (b + 3 + j) else none) i (some (b + (3 + i))) = fun j => if j < i + 1 then some (b + 3 + j) else none := rq_step (A := fun j => b + 3 + j) (by show b + 3 + i = b + (3 + i); omega)
set_option maxRecDepth 100000 in
set_option maxHeartbeats 400000 in
theorem l_X6 {X : XS} {d b : Nat} {h : MH} (hb : h.length = b) : ∀ c i k n, i + c = 61 → k = 2 + i → n = 122 + 6 * i → Ex X mX6_init true (d + 2) 23 [some (.ref (b + 0)), some (.int (nI i))] [] (h ++ nHp b i) k n (.inl none, h ++ nHp b 61, 63, 488) := by
  intro c
  induction c with
  | zero =>
    intro i k n hi hk hn
    have hi : i = 61 := by omega
    subst hi
    subst hk hn
    refine x_iload_n dX6_init_23 rfl ?_
    refine x_bipush (v := 61) dX6_init_24 (by decide) ?_
    refine x_icmp_ge (tgt := 55) dX6_init_26 (by decide) (fun _ => ?_) (fun hc => absurd (by decide) hc)
    exact x_vret dX6_init_55 rfl (Nat.le_of_ble_eq_true rfl) (Nat.le_of_ble_eq_true rfl)
  | succ c ih =>
    intro i k n hi hk hn
    subst hk hn
    refine x_iload_n dX6_init_23 rfl ?_
    refine x_bipush (v := 61) dX6_init_24 (by decide) ?_
    refine x_icmp_ge (tgt := 55) dX6_init_26 (by decide) (fun hc => absurd hc (nI_ge (b := 61) (by omega) (by decide))) (fun _ => ?_)
    refine x_aload_n dX6_init_29 rfl ?_
    refine z_get (b := b) (i := 0) dX6_init_30 fl_RX6_13 hb (show (nHp b i)[0]? = some (.inr (6, [.ref (b + 1), .ref (b + 2), .int 0, .int 0])) from rfl) rfl ?_
    refine x_iload_n dX6_init_33 rfl ?_
    refine z_new (b := b) (i := 3 + i) (l2 := nHp b i ++ [nMs]) dX6_init_34 nw_RX6_11 hb nHp_len rfl (show 2 + i + 1 ≤ 63 by omega) (show 122 + 6 * i + 6 ≤ 488 by omega) ?_
    refine x_dup dX6_init_37 rfl ?_
    refine z_invI (b := b) (i := 3 + i) (as := []) (mc := 0) (ms := 0) (l3 := nHp b i ++ [nMs]) dX6_init_38 fX5_init rfl lk_RX6_21 rfl (Nat.le_of_ble_eq_true rfl) (Call.pre (l0 := nHp b i) (l1 := [nMs]) (fun h1 hb1 => i_X5_init hb1) hb nHp_len rfl rfl) rfl (show 2 + i + 1 + 0 ≤ 63 by omega) (show 122 + 6 * i + 6 + 0 ≤ 488 by omega) ?_
    refine z_aast (b := b) (i := 1) (j := 3 + i) (m0 := i) (ci := 5) (vs := nf_X5) (l2 := nN b :: nSA b (i + 1) :: nOA i :: (List.replicate i nMs ++ [nMs])) dX6_init_41 (fun _ => rfl) hb (show (nHp b i ++ [nMs])[1]? = some (nSA b i) from rfl) (by rw [List.getElem?_append_right (by rw [nHp_len]; omega), nHp_len, Nat.sub_self]; rfl) rfl (pk_in i 61 (by omega)) (nI_clamp (by omega)) (by
      rw [sa_step]
      rfl) ?_
    refine x_aload_n dX6_init_42 rfl ?_
    refine z_get (b := b) (i := 0) dX6_init_43 fl_RX6_17 hb (show (nN b :: nSA b (i + 1) :: nOA i :: (List.replicate i nMs ++ [nMs]))[0]? = some (.inr (6, [.ref (b + 1), .ref (b + 2), .int 0, .int 0])) from rfl) rfl ?_
    refine x_iload_n dX6_init_46 rfl ?_
    refine x_iload_n dX6_init_47 rfl ?_
    refine z_iast (b := b) (i := 2) (m0 := i) (l2 := nN b :: nSA b (i + 1) :: nOA (i + 1) :: (List.replicate i nMs ++ [nMs])) dX6_init_48 hb (show (nN b :: nSA b (i + 1) :: nOA i :: (List.replicate i nMs ++ [nMs]))[2]? = some (nOA i) from rfl) (pk_in i 61 (by omega)) (nI_clamp (by omega)) (by
      rw [oa_step]
      rfl) ?_
    refine x_iinc (v := _ + 1) (lv' := [_, _]) dX6_init_49 rfl rfl (by decide) rfl ?_
    refine x_goto (tgt := 23) dX6_init_52 (by decide) ?_
    rw [nI_1]
    refine x_hh (h1 := h ++ nHp b (i + 1)) (by unfold nHp; rw [List.replicate_succ']) ?_
    exact ih (i + 1) _ _ (by omega) (by omega) (by show 122 + 6 * i + 6 + 0 = _; omega)
set_option maxRecDepth 100000 in
set_option maxHeartbeats 400000 in
theorem i_X6_init {X : XS} {d b : Nat} {h : MH} (hb : h.length = b) : Call X mX6_init true (d + 2) [.ref (b + 0)] (h ++ [.inr (6, nf_X6)]) (.inl none, h ++ nHp b 61, 63, 488) := by
  refine Call.of fX6_init (by decide) rfl (by simp [Value.category]) (Nat.le_of_ble_eq_true rfl) (lv := [some (.ref (b + 0)), none]) rfl ?_
  refine x_hh (h1 := h ++ [.inr (6, [.null, .null, .int 0, .int 0])]) rfl ?_
  refine x_aload_n dX6_init_0 rfl ?_
  refine x_objInit dX6_init_1 wo_RX6_3 wo_in wo_co (by omega) (Nat.le_of_ble_eq_true rfl) ?_
  refine x_aload_n dX6_init_4 rfl ?_
  refine x_bipush (v := 61) dX6_init_5 (by decide) ?_
  refine z_anew (t := 3) (b := b) (i := 1) (N' := 61) (l2 := [.inr (6, [.null, .null, .int 0, .int 0]), .inl (3, 61, .inr (.inr (.inr (.inr (fun _ => none)))))]) dX6_init_7 wn_RX6_11 (by decide) (fun _ => rfl) hb rfl (by decide) (by decide) (by decide) rfl (Nat.le_of_ble_eq_true rfl) (Nat.le_of_ble_eq_true rfl) ?_
  refine z_putF (b := b) (i := 0) (l2 := [.inr (6, [.ref (b + 1), .null, .int 0, .int 0]), .inl (3, 61, .inr (.inr (.inr (.inr (fun _ => none)))))]) dX6_init_10 fp_RX6_13 hb rfl (Nat.le_of_ble_eq_true rfl) rfl (fun q hq => by cases hq; rfl) (fun _ _ => ⟨rfl, rfl⟩) rfl ?_
  refine x_aload_n dX6_init_13 rfl ?_
  refine x_bipush (v := 61) dX6_init_14 (by decide) ?_
  refine z_newi (b := b) (i := 2) (N' := 61) (l2 := [.inr (6, [.ref (b + 1), .null, .int 0, .int 0]), .inl (3, 61, .inr (.inr (.inr (.inr (fun _ => none))))), .inl (0, 61, .inl (fun _ => 0))]) dX6_init_16 hb rfl (by decide) (by decide) (by decide) rfl (Nat.le_of_ble_eq_true rfl) (Nat.le_of_ble_eq_true rfl) ?_
  refine z_putF (b := b) (i := 0) (l2 := [.inr (6, [.ref (b + 1), .ref (b + 2), .int 0, .int 0]), .inl (3, 61, .inr (.inr (.inr (.inr (fun _ => none))))), .inl (0, 61, .inl (fun _ => 0))]) dX6_init_18 fp_RX6_17 hb rfl (Nat.le_of_ble_eq_true rfl) rfl (fun q hq => by cases hq; rfl) (fun _ _ => ⟨rfl, rfl⟩) rfl ?_
  refine x_iconst (v := 0) dX6_init_21 (by decide) ?_
  refine x_istore_n (lv' := [_, _]) dX6_init_22 (by decide) rfl ?_
  refine x_hh (h1 := h ++ nHp b 0) (by unfold nHp nSA nOA; simp [nN]) ?_
  exact l_X6 hb 61 0 _ _ (by omega) rfl rfl
