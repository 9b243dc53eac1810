def Steps (X : XS) (RR : Nat → St → Prop) : Prop := ∀ t S, t < 64 → RR t S → RR (t + 1) S ∧ (∀ (x1 : Int32) (p2 : Bool) (x3 : Int32) (x4 : Int32) (x5 : Int32), StA (RR (t + 1)) X S mL_rules mX10_rules [.int x1, .int (bI p2), .int x3, .int x4, .int x5]) ∧ (∀ (x1 : Int32) (x2 : Int32) (x3 : Int32), StA (RR (t + 1)) X S mL_member mX10_member [.int x1, .int x2, .int x3]) ∧ (∀ (x1 : Int32) (x2 : Int32), StZ (RR (t + 1)) X S mL_leave mX10_leave [.int x1, .int x2]) ∧ (∀ (x1 : Int32) (x2 : Int32) (p3 : Bool), StB (RR (t + 1)) X S mL_press mX10_press [.int x1, .int x2, .int (bI p3)]) ∧ (∀ (x1 : Int32) (x2 : Int32), StA (RR (t + 1)) X S mL_again mX10_again [.int x1, .int x2]) ∧ (∀ (x1 : Int32) (x2 : Int32), StA (RR (t + 1)) X S mL_release mX10_release [.int x1, .int x2]) ∧ (∀ (x1 : Int32) (x2 : Int32) (x3 : Int32), StB (RR (t + 1)) X S mL_unit mX10_unit [.int x1, .int x2, .int x3]) ∧ StC (RR (t + 1)) X S mX9_messages mX10_messages ∧ (∀ (x1 : Int32) (x2 : Int32), StB (RR (t + 1)) X S mL_message mX10_message [.int x1, .int x2]) ∧ (∀ (x1 : Int32), StA (RR (t + 1)) X S mL_carry mX10_carry [.int x1]) ∧ (∀ (x1 : Int32), StA (RR (t + 1)) X S mL_twice mX10_twice [.int x1]) ∧ (∀ (x1 : Int32), StA (RR (t + 1)) X S mL_drop mX10_drop [.int x1]) ∧ (∀ (x1 : Int32), StB (RR (t + 1)) X S mL_run mX10_run [.int x1]) ∧ StC (RR (t + 1)) X S mX9_tick mX10_tick ∧ (∀ (x1 : Int32) (x2 : Int32), StB (RR (t + 1)) X S mL_server mX10_server [.int x1, .int x2]) ∧ (∀ (x1 : Int32) (x2 : Int32), StB (RR (t + 1)) X S mL_waiting mX10_waiting [.int x1, .int x2]) ∧ (∀ (x1 : Int32) (x2 : Int32), StB (RR (t + 1)) X S mL_relay mX10_relay [.int x1, .int x2]) ∧ (∀ (x1 : Int32) (x2 : Int32) (x3 : Int32), StB (RR (t + 1)) X S mL_about mX10_about [.int x1, .int x2, .int x3]) ∧ StC (RR (t + 1)) X S mX9_lost mX10_lost
theorem lw_lt {a i : Nat} (ha : a ≤ 384) (hi : i < 1000) (h : a < i + 6) : nI a - 6 < nI i := by
  rw [Int32.lt_iff_toInt_lt, show (6 : Int32) = nI 6 from rfl, pk_sub_toInt (by omega) (by omega), nI_toInt (by omega)]
  omega
theorem lw_ge {a i : Nat} (ha : a ≤ 384) (hi : i < 1000) (h : i + 6 ≤ a) : ¬ nI a - 6 < nI i := by
  rw [Int32.lt_iff_toInt_lt, show (6 : Int32) = nI 6 from rfl, pk_sub_toInt (by omega) (by omega), nI_toInt (by omega)]
  omega
theorem lw_exit {X : XS} {i k n MC MS : Nat} {S : St} {x5 x6 : Option Value} (hX : X.1 ≤ 384) (hi : i < 1000) (h : X.1 < i + 6) (hk : k ≤ MC) (hn : n ≤ MS) : ∃ S', Ex X mL_law false 13 23 (LVw i x5 x6) [] (hp S) k n (.inl (some (.int 1)), hp S', MC, MS) := by
  refine ⟨S, ?_⟩
  refine x_iload dL_law_23 rfl ?_
  refine x_aload_ns dL_law_25 rfl ?_
  refine x_slen dL_law_26 ?_
  refine x_bipush (v := 6) dL_law_27 (by decide) ?_
  refine x_isub dL_law_29 ?_
  refine x_icmp_gt (tgt := 1200) dL_law_30 (by decide) (fun _ => ?_) (fun hc => absurd (lw_lt hX hi h) hc)
  refine x_iconst (v := 1) dL_law_1200 (by decide) ?_
  exact x_zret dL_law_1201 rfl (by decide) hk hn
set_option maxRecDepth 100000 in
set_option maxHeartbeats 400000 in
theorem lw_body {X : XS} {RR : Nat → St → Prop} {t i k n MC MS : Nat} {S : St} {x5 x6 : Option Value} (hX : X.1 ≤ 384) (hSt : Steps X RR) (ht : t < 64) (hR : RR t S) (hi : i + 6 ≤ X.1) (hk : k + 1 ≤ MC) (hn : n + 6 ≤ MS) (hK : Kt (RR (t + 1)) X i k n MC MS) : ∃ S', Ex X mL_law false 13 40 (LVw i x5 x6) [.int (X.2 i &&& 31)] (hp S) k n (.inl (some (.int 1)), hp S', MC, MS) := by
  obtain ⟨hup, hrules, hmember, hleave, hpress, hagain, hrelease, hunit, hmessages, hmessage, hcarry, htwice, hdrop, hrun, htick, hserver, hwaiting, hrelay, habout, hlost⟩ := hSt t S ht hR
  obtain ⟨j, hj, e⟩ := pk_andE (X.2 i) (m := 31) 5 rfl
  rw [e]
  have hj : j = 0 ∨ j = 1 ∨ j = 2 ∨ j = 3 ∨ j = 4 ∨ j = 5 ∨ j = 6 ∨ j = 7 ∨ j = 8 ∨ j = 9 ∨ j = 10 ∨ j = 11 ∨ j = 12 ∨ j = 13 ∨ j = 14 ∨ j = 15 ∨ j = 16 ∨ j = 17 ∨ j = 18 ∨ j = 19 ∨ j = 20 ∨ j = 21 ∨ j = 22 ∨ j = 23 ∨ j = 24 ∨ j = 25 ∨ j = 26 ∨ j = 27 ∨ j = 28 ∨ j = 29 ∨ j = 30 ∨ j = 31 := by
    have : j < 32 := hj
    omega
  rcases hj with rfl | rfl | rfl | rfl | rfl | rfl | rfl | rfl | rfl | rfl | rfl | rfl | rfl | rfl | rfl | rfl | rfl | rfl | rfl | rfl | rfl | rfl | rfl | rfl | rfl | rfl | rfl | rfl | rfl | rfl | rfl | rfl
  · obtain ⟨S', hE⟩ := w_rules (by omega) hX (by omega) (by omega) (hrules _ _ _ _ _) hK
    exact ⟨S', x_tableIn (tgt := 132) (off := 92) dL_law_40 (by decide) (by decide) (by decide) (by decide) hE⟩
  · obtain ⟨S', hE⟩ := w_member (by omega) hX (by omega) (by omega) (hmember _ _ _) hK
    exact ⟨S', x_tableIn (tgt := 232) (off := 192) dL_law_40 (by decide) (by decide) (by decide) (by decide) hE⟩
  · obtain ⟨S', hE⟩ := w_leave (by omega) hX (by omega) (by omega) (hleave _ _) hK
    exact ⟨S', x_tableIn (tgt := 292) (off := 252) dL_law_40 (by decide) (by decide) (by decide) (by decide) hE⟩
  · obtain ⟨S', hE⟩ := w_press (by omega) hX (by omega) (by omega) (hpress _ _ _) hK
    exact ⟨S', x_tableIn (tgt := 367) (off := 327) dL_law_40 (by decide) (by decide) (by decide) (by decide) hE⟩
  · obtain ⟨S', hE⟩ := w_again (by omega) hX (by omega) (by omega) (hagain _ _) hK
    exact ⟨S', x_tableIn (tgt := 463) (off := 423) dL_law_40 (by decide) (by decide) (by decide) (by decide) hE⟩
  · obtain ⟨S', hE⟩ := w_release (by omega) hX (by omega) (by omega) (hrelease _ _) hK
    exact ⟨S', x_tableIn (tgt := 511) (off := 471) dL_law_40 (by decide) (by decide) (by decide) (by decide) hE⟩
  · obtain ⟨S', hE⟩ := w_unit (by omega) hX (by omega) (by omega) (hunit _ _ _) hK
    exact ⟨S', x_tableIn (tgt := 559) (off := 519) dL_law_40 (by decide) (by decide) (by decide) (by decide) hE⟩
  · obtain ⟨S', hE⟩ := w_messages (by omega) (by omega) hmessages hK
    exact ⟨S', x_tableIn (tgt := 639) (off := 599) dL_law_40 (by decide) (by decide) (by decide) (by decide) hE⟩
  · obtain ⟨S', hE⟩ := w_message (by omega) hX (by omega) (by omega) (hmessage _ _) hK
    exact ⟨S', x_tableIn (tgt := 652) (off := 612) dL_law_40 (by decide) (by decide) (by decide) (by decide) hE⟩
  · obtain ⟨S', hE⟩ := w_carry (by omega) hX (by omega) (by omega) (hcarry _) hK
    exact ⟨S', x_tableIn (tgt := 720) (off := 680) dL_law_40 (by decide) (by decide) (by decide) (by decide) hE⟩
  · obtain ⟨S', hE⟩ := w_twice (by omega) hX (by omega) (by omega) (htwice _) hK
    exact ⟨S', x_tableIn (tgt := 756) (off := 716) dL_law_40 (by decide) (by decide) (by decide) (by decide) hE⟩
  · obtain ⟨S', hE⟩ := w_drop (by omega) hX (by omega) (by omega) (hdrop _) hK
    exact ⟨S', x_tableIn (tgt := 792) (off := 752) dL_law_40 (by decide) (by decide) (by decide) (by decide) hE⟩
  · obtain ⟨S', hE⟩ := w_run (by omega) hX (by omega) (by omega) (hrun _) hK
    exact ⟨S', x_tableIn (tgt := 828) (off := 788) dL_law_40 (by decide) (by decide) (by decide) (by decide) hE⟩
  · obtain ⟨S', hE⟩ := w_tick (by omega) (by omega) htick hK
    exact ⟨S', x_tableIn (tgt := 884) (off := 844) dL_law_40 (by decide) (by decide) (by decide) (by decide) hE⟩
  · obtain ⟨S', hE⟩ := w_server (by omega) hX (by omega) (by omega) (hserver _ _) hK
    exact ⟨S', x_tableIn (tgt := 897) (off := 857) dL_law_40 (by decide) (by decide) (by decide) (by decide) hE⟩
  · obtain ⟨S', hE⟩ := w_waiting (by omega) hX (by omega) (by omega) (hwaiting _ _) hK
    exact ⟨S', x_tableIn (tgt := 965) (off := 925) dL_law_40 (by decide) (by decide) (by decide) (by decide) hE⟩
  · obtain ⟨S', hE⟩ := w_relay (by omega) hX (by omega) (by omega) (hrelay _ _) hK
    exact ⟨S', x_tableIn (tgt := 1033) (off := 993) dL_law_40 (by decide) (by decide) (by decide) (by decide) hE⟩
  · obtain ⟨S', hE⟩ := w_about (by omega) hX (by omega) (by omega) (habout _ _ _) hK
    exact ⟨S', x_tableIn (tgt := 1101) (off := 1061) dL_law_40 (by decide) (by decide) (by decide) (by decide) hE⟩
  · obtain ⟨S', hE⟩ := w_lost (by omega) (by omega) hlost hK
    exact ⟨S', x_tableIn (tgt := 1181) (off := 1141) dL_law_40 (by decide) (by decide) (by decide) (by decide) hE⟩
  · obtain ⟨S', hE⟩ := hK S x5 x6 k n (by omega) (by omega) hup
    exact ⟨S', x_tableOut (tgt := 1194) dL_law_40 (by decide) (by decide) hE⟩
  · obtain ⟨S', hE⟩ := hK S x5 x6 k n (by omega) (by omega) hup
    exact ⟨S', x_tableOut (tgt := 1194) dL_law_40 (by decide) (by decide) hE⟩
  · obtain ⟨S', hE⟩ := hK S x5 x6 k n (by omega) (by omega) hup
    exact ⟨S', x_tableOut (tgt := 1194) dL_law_40 (by decide) (by decide) hE⟩
  · obtain ⟨S', hE⟩ := hK S x5 x6 k n (by omega) (by omega) hup
    exact ⟨S', x_tableOut (tgt := 1194) dL_law_40 (by decide) (by decide) hE⟩
  · obtain ⟨S', hE⟩ := hK S x5 x6 k n (by omega) (by omega) hup
    exact ⟨S', x_tableOut (tgt := 1194) dL_law_40 (by decide) (by decide) hE⟩
  · obtain ⟨S', hE⟩ := hK S x5 x6 k n (by omega) (by omega) hup
    exact ⟨S', x_tableOut (tgt := 1194) dL_law_40 (by decide) (by decide) hE⟩
  · obtain ⟨S', hE⟩ := hK S x5 x6 k n (by omega) (by omega) hup
    exact ⟨S', x_tableOut (tgt := 1194) dL_law_40 (by decide) (by decide) hE⟩
  · obtain ⟨S', hE⟩ := hK S x5 x6 k n (by omega) (by omega) hup
    exact ⟨S', x_tableOut (tgt := 1194) dL_law_40 (by decide) (by decide) hE⟩
  · obtain ⟨S', hE⟩ := hK S x5 x6 k n (by omega) (by omega) hup
    exact ⟨S', x_tableOut (tgt := 1194) dL_law_40 (by decide) (by decide) hE⟩
  · obtain ⟨S', hE⟩ := hK S x5 x6 k n (by omega) (by omega) hup
    exact ⟨S', x_tableOut (tgt := 1194) dL_law_40 (by decide) (by decide) hE⟩
  · obtain ⟨S', hE⟩ := hK S x5 x6 k n (by omega) (by omega) hup
    exact ⟨S', x_tableOut (tgt := 1194) dL_law_40 (by decide) (by decide) hE⟩
  · obtain ⟨S', hE⟩ := hK S x5 x6 k n (by omega) (by omega) hup
    exact ⟨S', x_tableOut (tgt := 1194) dL_law_40 (by decide) (by decide) hE⟩
  · obtain ⟨S', hE⟩ := hK S x5 x6 k n (by omega) (by omega) hup
    exact ⟨S', x_tableOut (tgt := 1194) dL_law_40 (by decide) (by decide) hE⟩
set_option maxRecDepth 100000 in
set_option maxHeartbeats 400000 in
theorem lw_loop {X : XS} {RR : Nat → St → Prop} (hX : X.1 ≤ 384) (hSt : Steps X RR) {MC MS : Nat} : ∀ c t i S x5 x6 k n, RR t S → t + c ≤ 64 → X.1 < i + 6 * c + 6 → i < 500 → k + c ≤ MC → n + 6 * c ≤ MS → ∃ S', Ex X mL_law false 13 23 (LVw i x5 x6) [] (hp S) k n (.inl (some (.int 1)), hp S', MC, MS) := by
  intro c
  induction c with
  | zero => intro t i S x5 x6 k n hR ht hc hi hk hn; exact lw_exit hX (by omega) (by omega) (by omega) (by omega)
  | succ c ih =>
    intro t i S x5 x6 k n hR ht hc hi hk hn
    by_cases hx : X.1 < i + 6
    · exact lw_exit hX (by omega) hx (by omega) (by omega)
    · have hK : Kt (RR (t + 1)) X i k n MC MS := by
        intro S2 y5 y6 k2 n2 hk2 hn2 hR2
        obtain ⟨S', hE⟩ := ih (t + 1) (i + 6) S2 y5 y6 k2 n2 hR2 (by omega) (by omega) (by omega) (by omega) (by omega)
        refine ⟨S', ?_⟩
        refine x_iinc (v := _ + 6) (lv' := [_, _, _, _, _, _, _]) dL_law_1194 rfl rfl (by decide) rfl ?_
        refine x_goto (tgt := 23) dL_law_1197 (by decide) ?_
        rw [nIp_6]
        exact hE
      obtain ⟨S', hE⟩ := lw_body (x5 := x5) (x6 := x6) hX hSt (by omega) hR (by omega) (by omega) (by omega) hK
      refine ⟨S', ?_⟩
      refine x_iload dL_law_23 rfl ?_
      refine x_aload_ns dL_law_25 rfl ?_
      refine x_slen dL_law_26 ?_
      refine x_bipush (v := 6) dL_law_27 (by decide) ?_
      refine x_isub dL_law_29 ?_
      refine x_icmp_gt (tgt := 1200) dL_law_30 (by decide) (fun hc => absurd hc (lw_ge hX (by omega) (by omega))) (fun _ => ?_)
      refine x_aload_ns dL_law_33 rfl ?_
      refine x_iload dL_law_34 rfl ?_
      refine y_sld dL_law_36 (show i < X.1 by omega) hX ?_
      refine x_bipush (v := 31) dL_law_37 (by decide) ?_
      refine x_iand dL_law_39 ?_
      exact hE
theorem tkC_len : (tkC 0).length = 164 := tl_len (j := 99) nT_len rfl rfl
theorem hp0' : hp S0 = [] ++ ((tkC 0 ++ mdC (0 + 164)) ++ [.inl (2, 1, .inr (.inl (fun _ => 0)))]) := by
  rw [hp0, List.nil_append, List.append_assoc]
  rw [show (fun j : Nat => if j = 0 then (0 : Int64) else 0) = fun _ => 0 from by funext j; split <;> rfl]
set_option maxRecDepth 100000 in
set_option maxHeartbeats 400000 in
theorem lw_run {X : XS} {RR : Nat → St → Prop} (hX : X.1 ≤ 384) (hSt : Steps X RR) (hR : RR 0 S0) {MC MS : Nat} (hMC : 600 ≤ MC) (hMS : 6000 ≤ MS) : ∃ S', Ex X mL_law true 13 0 [some (.float 0), none, none, none, none, none, none] [] [] 0 0 (.inl (some (.int 1)), hp S', MC, MS) := by
  obtain ⟨S', hE⟩ := lw_loop (MC := MC) (MS := MS) hX hSt 64 0 0 S0 none none 211 4793 hR (by omega) (by omega) (by omega) (by omega) (by omega)
  refine ⟨S', ?_⟩
  refine x_hh (h1 := [] ++ []) rfl ?_
  refine z_new (b := 0) (i := 0) (l2 := [.inr (9, nf_X9)]) dL_law_0 nw_RL_8 rfl rfl rfl (show 0 + 1 ≤ MC by omega) (show 0 + 5 ≤ MS by omega) ?_
  refine x_dup dL_law_3 rfl ?_
  refine z_invI (b := 0) (i := 0) (as := []) (mc := 163) (ms := 1392) (l3 := tkC 0) dL_law_4 fX9_init rfl lk_RL_76 rfl (Nat.le_of_ble_eq_true rfl) (i_X9_init (h := []) rfl) (by rw [tkC_len]; rfl) (show 0 + 1 + 163 ≤ MC by omega) (show 0 + 5 + 1392 ≤ MS by omega) ?_
  refine x_astore_n (lv' := [_, _, _, _, _, _, _]) dL_law_7 (by decide) rfl ?_
  refine z_new (b := 0) (i := 164) (l2 := tkC 0 ++ [.inr (10, nf_X10)]) dL_law_8 nw_RL_77 rfl tkC_len rfl (show 0 + 1 + 163 + 1 ≤ MC by omega) (show 0 + 5 + 1392 + 50 ≤ MS by omega) ?_
  refine x_dup dL_law_11 rfl ?_
  refine z_invI (b := 0) (i := 164) (as := []) (mc := 45) (ms := 3345) (l3 := tkC 0 ++ mdC (0 + 164)) dL_law_12 fX10_init rfl lk_RL_79 rfl (Nat.le_of_ble_eq_true rfl) (Call.pre (l0 := tkC 0) (l1 := [.inr (10, nf_X10)]) (fun h1 hb1 => i_X10_init hb1) rfl tkC_len rfl rfl) (by rw [List.length_append, List.length_append, tkC_len]; rfl) (show 0 + 1 + 163 + 1 + 45 ≤ MC by omega) (show 0 + 5 + 1392 + 50 + 3345 ≤ MS by omega) ?_
  refine x_astore_n (lv' := [_, _, _, _, _, _, _]) dL_law_15 (by decide) rfl ?_
  refine x_iconst (v := 1) dL_law_16 (by decide) ?_
  refine z_newl (b := 0) (i := 210) (N' := 1) (l2 := (tkC 0 ++ mdC (0 + 164)) ++ [.inl (2, 1, .inr (.inl (fun _ => 0)))]) dL_law_17 rfl (by rw [List.length_append, tkC_len]; rfl) (by decide) (by decide) (by decide) rfl (show 0 + 1 + 163 + 1 + 45 + 1 ≤ MC by omega) (show 0 + 5 + 1392 + 50 + 3345 + 1 ≤ MS by omega) ?_
  refine x_astore_n (lv' := [_, _, _, _, _, _, _]) dL_law_19 (by decide) rfl ?_
  refine x_iconst (v := 0) dL_law_20 (by decide) ?_
  refine x_istore (lv' := [_, _, _, _, _, _, _]) dL_law_21 (by decide) rfl ?_
  refine x_made ?_
  refine x_hh (h1 := hp S0) hp0' ?_
  exact hE
