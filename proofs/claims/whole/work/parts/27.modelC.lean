/-! requests, releases, the server's tick -/
def mq (S : St) (g : Nat) : Nat := (S.2.2.1 35 g).toNatClampNeg
theorem mq_ok {S : St} {g : Nat} (h : HO S g) (h2 : ¬ S.2.2.1 35 g < 0) : mq S g < 6 ∧ S.2.2.1 35 g = nI (mq S g) := by
  rcases h with e | ⟨q, hq, e⟩
  · exact absurd (by rw [e]; decide) h2
  · have : mq S g = q := by unfold mq; rw [e, nI_clamp (by omega)]
    rw [this]
    exact ⟨hq, e⟩
def ml_rv (S : St) (g i : Nat) : St := if S.2.2.1 30 g = 0 then S else if 0 ≤ S.2.2.1 36 g then S else if ml_ab S i (6 * g + mq S g) ≤ 0 then S else let S7 := sm S 36 g (S.2.2.1 1 0); ml_send S7 6 (nI g) (S7.2.2.1 35 g) (S7.2.2.1 34 g) 0 0
set_option maxRecDepth 100000 in
set_option maxHeartbeats 400000 in
theorem l_mRv {X : XS} {d : Nat} {S : St} {g m : Nat} {a : Int32} {e : Bool} (hg : g < 3) (hm : m < 6) (h : MI S g) (hh : ¬ S.2.2.1 35 g < 0) : Ex X mX10_requested false (d + 5) 247 [some (.ref (ad 10 0)), some (.int (nI g)), some (.int (nI m)), some (.int a), some (.int (bI e)), some (.int (nI (6 * g + m)))] [] (hp S) 0 0 (.inl none, hp (ml_rv S g (6 * g + m)), 0, 0) := by
  obtain ⟨hq6, hqe⟩ := mq_ok h.2.2 hh
  refine x_aload_n dX10_requested_247 rfl ?_
  refine x_get dX10_requested_248 fl_RX10_89 (hp_get (κ := 10) (by decide)) rfl ?_
  refine x_iload_n dX10_requested_251 rfl ?_
  refine y_zaldM (f := 30) (κ := 60) dX10_requested_252 am_30 rfl (by first | omega | exact sl16_lt _ | assumption) (by decide) ?_
  refine x_if_eq (tgt := 316) dX10_requested_253 (by decide) (fun hc253 => ?_) (fun hc253 => ?_)
  · exact x_rV dX10_requested_316 rfl rfl (by unfold ml_rv; first | rw [if_pos hc253] | rw [if_neg hc253, if_pos hc262] | rw [if_neg hc253, if_neg hc262, if_pos hc282] | rw [if_neg hc253, if_neg hc262, if_neg hc282]) (by simp) (by simp)
  · refine x_aload_n dX10_requested_256 rfl ?_
    refine x_get dX10_requested_257 fl_RX10_107 (hp_get (κ := 10) (by decide)) rfl ?_
    refine x_iload_n dX10_requested_260 rfl ?_
    refine y_ialdM (f := 36) (κ := 66) dX10_requested_261 am_36 rfl (by first | omega | exact sl16_lt _ | assumption) (by decide) ?_
    refine x_if_ge (tgt := 316) dX10_requested_262 (by decide) (fun hc262 => ?_) (fun hc262 => ?_)
    · exact x_rV dX10_requested_316 rfl rfl (by unfold ml_rv; first | rw [if_pos hc253] | rw [if_neg hc253, if_pos hc262] | rw [if_neg hc253, if_neg hc262, if_pos hc282] | rw [if_neg hc253, if_neg hc262, if_neg hc282]) (by simp) (by simp)
    · refine x_aload_n dX10_requested_265 rfl ?_
      refine x_iload dX10_requested_266 rfl ?_
      refine x_bipush (v := 6) dX10_requested_268 (by decide) ?_
      refine x_iload_n dX10_requested_270 rfl ?_
      refine x_imul dX10_requested_271 ?_
      refine x_aload_n dX10_requested_272 rfl ?_
      refine x_get dX10_requested_273 fl_RX10_104 (hp_get (κ := 10) (by decide)) rfl ?_
      refine x_iload_n dX10_requested_276 rfl ?_
      refine y_ialdM (f := 35) (κ := 65) dX10_requested_277 am_35 rfl (by first | omega | exact sl16_lt _ | assumption) (by decide) ?_
      refine x_eqi hqe ?_
      refine x_iadd dX10_requested_278 ?_
      refine x_eqi (ix6 _ _) ?_
      refine x_cV (as := [_, _]) dX10_requested_279 fX10_above rfl lk_RX10_182 rfl (hp_get (κ := 10) (by decide)) rfl rfl (Nat.le_of_ble_eq_true rfl) (c_mAbove (by omega) (by omega)) (by simp) (by simp) ?_
      refine x_if_le (tgt := 316) dX10_requested_282 (by decide) (fun hc282 => ?_) (fun hc282 => ?_)
      · exact x_rV dX10_requested_316 rfl rfl (by unfold ml_rv; first | rw [if_pos hc253] | rw [if_neg hc253, if_pos hc262] | rw [if_neg hc253, if_neg hc262, if_pos hc282] | rw [if_neg hc253, if_neg hc262, if_neg hc282]) (by simp) (by simp)
      · refine x_aload_n dX10_requested_285 rfl ?_
        refine x_get dX10_requested_286 fl_RX10_107 (hp_get (κ := 10) (by decide)) rfl ?_
        refine x_iload_n dX10_requested_289 rfl ?_
        refine x_aload_n dX10_requested_290 rfl ?_
        refine x_get dX10_requested_291 fl_RX10_179 (hp_get (κ := 10) (by decide)) rfl ?_
        refine y_iastM (f := 36) (κ := 66) dX10_requested_294 am_36 rfl (by first | omega | exact sl16_lt _ | assumption) (by decide) ?_
        refine x_aload_n dX10_requested_295 rfl ?_
        refine x_bipush (v := 6) dX10_requested_296 (by decide) ?_
        refine x_iload_n dX10_requested_298 rfl ?_
        refine x_aload_n dX10_requested_299 rfl ?_
        refine x_get dX10_requested_300 fl_RX10_104 (hp_get (κ := 10) (by decide)) rfl ?_
        refine x_iload_n dX10_requested_303 rfl ?_
        refine y_ialdM (f := 35) (κ := 65) dX10_requested_304 am_35 rfl (by first | omega | exact sl16_lt _ | assumption) (by decide) ?_
        refine x_aload_n dX10_requested_305 rfl ?_
        refine x_get dX10_requested_306 fl_RX10_101 (hp_get (κ := 10) (by decide)) rfl ?_
        refine x_iload_n dX10_requested_309 rfl ?_
        refine y_ialdM (f := 34) (κ := 64) dX10_requested_310 am_34 rfl (by first | omega | exact sl16_lt _ | assumption) (by decide) ?_
        refine x_iconst (v := 0) dX10_requested_311 (by decide) ?_
        refine x_iconst (v := 0) dX10_requested_312 (by decide) ?_
        refine x_cVv (as := [_, _, _, _, _, _]) dX10_requested_313 fX10_send rfl lk_RX10_168 rfl (hp_get (κ := 10) (by decide)) rfl rfl (Nat.le_of_ble_eq_true rfl) (c_mSend (h.sm (f := 36) (by decide) (by decide) (by decide)).1 _ _ _ _ _ _) (by simp) (by simp) ?_
        exact x_rV dX10_requested_316 rfl rfl (by unfold ml_rv; first | rw [if_pos hc253] | rw [if_neg hc253, if_pos hc262] | rw [if_neg hc253, if_neg hc262, if_pos hc282] | rw [if_neg hc253, if_neg hc262, if_neg hc282]) (by simp) (by simp)
def ml_n0 (S : St) (g m : Nat) (a : Int32) : St := ml_clear (sm (sm S 40 (6 * g + m) a) 41 (6 * g + m) 0) g m
def ml_new (S : St) (g m : Nat) (a : Int32) (e : Bool) : St := let S2 := sm (ml_n0 S g m a) 42 (6 * g + m) (bI e); sm S2 43 (6 * g + m) (S2.2.2.1 6 (6 * g + m))
theorem n0_MI {S : St} {g m : Nat} {a : Int32} (h : MI S g) : MI (ml_n0 S g m a) g := ((h.sm (by decide) (by decide) (by decide)).sm (by decide) (by decide) (by decide)).clear
theorem MI.new {S : St} {g m : Nat} {a : Int32} {e : Bool} (h : MI S g) : MI (ml_new S g m a e) g := ((n0_MI h).sm (by decide) (by decide) (by decide)).sm (by decide) (by decide) (by decide)
theorem LcM.new {g m : Nat} {S : St} {a : Int32} {e : Bool} (hm : m < 6) : LcM g S (ml_new S g m a e) := by
  unfold ml_new ml_n0
  exact ((((LcM.si (by decide) (by decide) (gm6 hm)).tr (.si (by decide) (by decide) (gm6 hm))).tr (.clear hm)).tr (.si (by decide) (by decide) (gm6 hm))).tr (.si (by decide) (by decide) (gm6 hm))
def ml_wt (S : St) (g m : Nat) : St := let S4 := sm S 39 0 (S.2.2.1 39 0 + 1); sm S4 44 (6 * g + m) (S4.2.2.1 39 0)
def ml_q4 (S : St) (g m : Nat) (a : Int32) : St := let S5 := ml_wt S g m; ml_send S5 4 (nI g) (nI m) a (nI (ml_pl S5 g (6 * g + m))) 0
def ml_rq2 (S : St) (g m : Nat) (a : Int32) : St := if 0 ≤ S.2.2.1 35 g then (if nI (ml_wc S g) = 4 then ml_send (sm S 41 (6 * g + m) 1) 5 (nI g) (nI m) a 0 0 else ml_rv (ml_q4 S g m a) g (6 * g + m)) else ml_give S g m
theorem wt_MI {S : St} {g m : Nat} (h : MI S g) : MI (ml_wt S g m) g := (h.sm (by decide) (by decide) (by decide)).sm (by decide) (by decide) (by decide)
theorem q4_35 {S : St} {g m : Nat} {a : Int32} : (ml_q4 S g m a).2.2.1 35 g = S.2.2.1 35 g := by
  unfold ml_q4 ml_wt
  rw [ml_send_get (by decide) (by decide) (by decide), sm_get, if_neg (by omega), sm_get, if_neg (by omega)]
set_option maxRecDepth 100000 in
set_option maxHeartbeats 400000 in
theorem l_mRq2 {X : XS} {d : Nat} {S : St} {g m : Nat} {a : Int32} {e : Bool} (hg : g < 3) (hm : m < 6) (h : MI S g) : Ex X mX10_requested false (d + 5) 163 [some (.ref (ad 10 0)), some (.int (nI g)), some (.int (nI m)), some (.int a), some (.int (bI e)), some (.int (nI (6 * g + m)))] [] (hp S) 0 0 (.inl none, hp (ml_rq2 S g m a), 0, 0) := by
  refine x_aload_n dX10_requested_163 rfl ?_
  refine x_get dX10_requested_164 fl_RX10_104 (hp_get (κ := 10) (by decide)) rfl ?_
  refine x_iload_n dX10_requested_167 rfl ?_
  refine y_ialdM (f := 35) (κ := 65) dX10_requested_168 am_35 rfl (by first | omega | exact sl16_lt _ | assumption) (by decide) ?_
  refine x_if_ge (tgt := 181) dX10_requested_169 (by decide) (fun hc169 => ?_) (fun hc169 => ?_)
  · refine x_aload_n dX10_requested_181 rfl ?_
    refine x_iload_n dX10_requested_182 rfl ?_
    refine x_cV (as := [_]) dX10_requested_183 fX10_waitCount rfl lk_RX10_203 rfl (hp_get (κ := 10) (by decide)) rfl rfl (Nat.le_of_ble_eq_true rfl) (c_mWc hg) (by simp) (by simp) ?_
    refine x_iconst (v := 4) dX10_requested_186 (by decide) ?_
    refine x_icmp_ne (tgt := 211) dX10_requested_187 (by decide) (fun hc187 => ?_) (fun hc187 => ?_)
    · refine x_aload_n dX10_requested_211 rfl ?_
      refine x_dup dX10_requested_212 rfl ?_
      refine x_get dX10_requested_213 fl_RX10_206 (hp_get (κ := 10) (by decide)) rfl ?_
      refine x_iconst (v := 1) dX10_requested_216 (by decide) ?_
      refine x_iadd dX10_requested_217 ?_
      refine x_putM dX10_requested_218 fp_RX10_206 pm_39 ?_
      refine x_aload_n dX10_requested_221 rfl ?_
      refine x_get dX10_requested_222 fl_RX10_128 (hp_get (κ := 10) (by decide)) rfl ?_
      refine x_iload dX10_requested_225 rfl ?_
      refine x_aload_n dX10_requested_227 rfl ?_
      refine x_get dX10_requested_228 fl_RX10_206 (hp_get (κ := 10) (by decide)) rfl ?_
      refine y_iastM (f := 44) (κ := 74) dX10_requested_231 am_44 rfl (by first | omega | exact sl16_lt _ | assumption) (by decide) ?_
      refine x_heq (S2 := ml_wt S g m) rfl ?_
      refine x_aload_n dX10_requested_232 rfl ?_
      refine x_iconst (v := 4) dX10_requested_233 (by decide) ?_
      refine x_iload_n dX10_requested_234 rfl ?_
      refine x_iload_n dX10_requested_235 rfl ?_
      refine x_iload_n dX10_requested_236 rfl ?_
      refine x_aload_n dX10_requested_237 rfl ?_
      refine x_iload dX10_requested_238 rfl ?_
      refine x_cV (as := [_]) dX10_requested_240 fX10_placeOf rfl lk_RX10_186 rfl (hp_get (κ := 10) (by decide)) rfl rfl (Nat.le_of_ble_eq_true rfl) (c_mPlace hg hm) (by simp) (by simp) ?_
      refine x_iconst (v := 0) dX10_requested_243 (by decide) ?_
      refine x_cVv (as := [_, _, _, _, _, _]) dX10_requested_244 fX10_send rfl lk_RX10_168 rfl (hp_get (κ := 10) (by decide)) rfl rfl (Nat.le_of_ble_eq_true rfl) (c_mSend (wt_MI h).1 _ _ _ _ _ _) (by simp) (by simp) ?_
      refine x_heq (S2 := ml_q4 S g m a) rfl ?_
      unfold ml_rq2
      rw [if_pos hc169, if_neg hc187]
      exact l_mRv hg hm (wt_MI h).send (by rw [q4_35]; exact Int32.not_lt.mpr hc169)
    · refine x_aload_n dX10_requested_190 rfl ?_
      refine x_get dX10_requested_191 fl_RX10_119 (hp_get (κ := 10) (by decide)) rfl ?_
      refine x_iload dX10_requested_194 rfl ?_
      refine x_iconst (v := 1) dX10_requested_196 (by decide) ?_
      refine y_zastM (f := 41) (κ := 71) dX10_requested_197 am_41 rfl (by first | omega | exact sl16_lt _ | assumption) (by decide) (by first | decide | exact bI_nar _) ?_
      refine x_aload_n dX10_requested_198 rfl ?_
      refine x_iconst (v := 5) dX10_requested_199 (by decide) ?_
      refine x_iload_n dX10_requested_200 rfl ?_
      refine x_iload_n dX10_requested_201 rfl ?_
      refine x_iload_n dX10_requested_202 rfl ?_
      refine x_iconst (v := 0) dX10_requested_203 (by decide) ?_
      refine x_iconst (v := 0) dX10_requested_204 (by decide) ?_
      refine x_cVv (as := [_, _, _, _, _, _]) dX10_requested_205 fX10_send rfl lk_RX10_168 rfl (hp_get (κ := 10) (by decide)) rfl rfl (Nat.le_of_ble_eq_true rfl) (c_mSend (h.sm (f := 41) (by decide) (by decide) (by decide)).1 _ _ _ _ _ _) (by simp) (by simp) ?_
      refine x_goto (tgt := 316) dX10_requested_208 (by decide) ?_
      exact x_rV dX10_requested_316 rfl rfl (by unfold ml_rq2; first | rw [if_neg hc169] | rw [if_pos hc169, if_pos hc187]) (by simp) (by simp)
  · refine x_aload_n dX10_requested_172 rfl ?_
    refine x_iload_n dX10_requested_173 rfl ?_
    refine x_iload_n dX10_requested_174 rfl ?_
    refine x_cVv (as := [_, _]) dX10_requested_175 fX10_give rfl lk_RX10_197 rfl (hp_get (κ := 10) (by decide)) rfl rfl (Nat.le_of_ble_eq_true rfl) (c_mGive hg hm h) (by simp) (by simp) ?_
    refine x_goto (tgt := 316) dX10_requested_178 (by decide) ?_
    exact x_rV dX10_requested_316 rfl rfl (by unfold ml_rq2; first | rw [if_neg hc169] | rw [if_pos hc169, if_pos hc187]) (by simp) (by simp)
def ml_req (S : St) (g m : Nat) (a : Int32) (e : Bool) : St := if S.2.2.1 5 (6 * g + m) = 0 then S else if S.2.2.1 40 (6 * g + m) ≤ a then (if a = S.2.2.1 40 (6 * g + m) then (if S.2.2.1 35 g = nI m then ml_send S 3 (nI g) (nI m) a (S.2.2.1 34 g) 0 else if S.2.2.1 44 (6 * g + m) ≤ 0 then (if S.2.2.1 41 (6 * g + m) = 0 then S else ml_send S 5 (nI g) (nI m) a 0 0) else ml_send S 4 (nI g) (nI m) a (nI (ml_pl S g (6 * g + m))) 0) else ml_rq2 (ml_new S g m a e) g m a) else S
set_option maxRecDepth 100000 in
set_option maxHeartbeats 400000 in
theorem c_mReq {X : XS} {d : Nat} {S : St} {g m : Nat} (hg : g < 3) (hm : m < 6) (h : MI S g) (a : Int32) (e : Bool) : Call X mX10_requested false (d + 5) [.ref (ad 10 0), .int (nI g), .int (nI m), .int a, .int (bI e)] (hp S) (.inl none, hp (ml_req S g m a e), 0, 0) := by
  refine Call.of fX10_requested (by decide) rfl (by simp [Value.category]) (Nat.le_of_ble_eq_true rfl) (lv := [some (.ref (ad 10 0)), some (.int (nI g)), some (.int (nI m)), some (.int a), some (.int (bI e)), none]) rfl ?_
  refine x_bipush (v := 6) dX10_requested_0 (by decide) ?_
  refine x_iload_n dX10_requested_2 rfl ?_
  refine x_imul dX10_requested_3 ?_
  refine x_iload_n dX10_requested_4 rfl ?_
  refine x_iadd dX10_requested_5 ?_
  refine x_eqi (ix6 _ _) ?_
  refine x_istore (lv' := [_, _, _, _, _, _]) dX10_requested_6 (by decide) rfl ?_
  refine x_aload_n dX10_requested_8 rfl ?_
  refine x_get dX10_requested_9 fl_RX10_13 (hp_get (κ := 10) (by decide)) rfl ?_
  refine x_iload dX10_requested_12 rfl ?_
  refine y_zaldM (f := 5) (κ := 35) dX10_requested_14 am_5 rfl (by first | omega | exact sl16_lt _ | assumption) (by decide) ?_
  refine x_if_eq (tgt := 29) dX10_requested_15 (by decide) (fun hc15 => ?_) (fun hc15 => ?_)
  · exact x_rV dX10_requested_29 rfl rfl (by unfold ml_req; first | rw [if_pos hc15] | rw [if_neg hc15, if_neg hc26] | rw [if_neg hc15, if_pos hc26, if_pos hc38, if_pos hc48] | rw [if_neg hc15, if_pos hc26, if_pos hc38, if_neg hc48, if_pos hc76, if_pos hc104] | rw [if_neg hc15, if_pos hc26, if_pos hc38, if_neg hc48, if_pos hc76, if_neg hc104] | rw [if_neg hc15, if_pos hc26, if_pos hc38, if_neg hc48, if_neg hc76]) (by simp) (by simp)
  · refine x_iload_n dX10_requested_18 rfl ?_
    refine x_aload_n dX10_requested_19 rfl ?_
    refine x_get dX10_requested_20 fl_RX10_116 (hp_get (κ := 10) (by decide)) rfl ?_
    refine x_iload dX10_requested_23 rfl ?_
    refine y_ialdM (f := 40) (κ := 70) dX10_requested_25 am_40 rfl (by first | omega | exact sl16_lt _ | assumption) (by decide) ?_
    refine x_icmp_ge (tgt := 30) dX10_requested_26 (by decide) (fun hc26 => ?_) (fun hc26 => ?_)
    · refine x_iload_n dX10_requested_30 rfl ?_
      refine x_aload_n dX10_requested_31 rfl ?_
      refine x_get dX10_requested_32 fl_RX10_116 (hp_get (κ := 10) (by decide)) rfl ?_
      refine x_iload dX10_requested_35 rfl ?_
      refine y_ialdM (f := 40) (κ := 70) dX10_requested_37 am_40 rfl (by first | omega | exact sl16_lt _ | assumption) (by decide) ?_
      refine x_icmp_ne (tgt := 118) dX10_requested_38 (by decide) (fun hc38 => ?_) (fun hc38 => ?_)
      · refine x_aload_n dX10_requested_118 rfl ?_
        refine x_get dX10_requested_119 fl_RX10_116 (hp_get (κ := 10) (by decide)) rfl ?_
        refine x_iload dX10_requested_122 rfl ?_
        refine x_iload_n dX10_requested_124 rfl ?_
        refine y_iastM (f := 40) (κ := 70) dX10_requested_125 am_40 rfl (by first | omega | exact sl16_lt _ | assumption) (by decide) ?_
        refine x_aload_n dX10_requested_126 rfl ?_
        refine x_get dX10_requested_127 fl_RX10_119 (hp_get (κ := 10) (by decide)) rfl ?_
        refine x_iload dX10_requested_130 rfl ?_
        refine x_iconst (v := 0) dX10_requested_132 (by decide) ?_
        refine y_zastM (f := 41) (κ := 71) dX10_requested_133 am_41 rfl (by first | omega | exact sl16_lt _ | assumption) (by decide) (by first | decide | exact bI_nar _) ?_
        refine x_aload_n dX10_requested_134 rfl ?_
        refine x_iload_n dX10_requested_135 rfl ?_
        refine x_iload_n dX10_requested_136 rfl ?_
        refine x_cVv (as := [_, _]) dX10_requested_137 fX10_clear rfl lk_RX10_164 rfl (hp_get (κ := 10) (by decide)) rfl rfl (Nat.le_of_ble_eq_true rfl) (c_mClear hg hm ((h.sm (f := 40) (by decide) (by decide) (by decide)).sm (f := 41) (by decide) (by decide) (by decide))) (by simp) (by simp) ?_
        refine x_aload_n dX10_requested_140 rfl ?_
        refine x_get dX10_requested_141 fl_RX10_122 (hp_get (κ := 10) (by decide)) rfl ?_
        refine x_iload dX10_requested_144 rfl ?_
        refine x_iload dX10_requested_146 rfl ?_
        refine y_zastM (f := 42) (κ := 72) dX10_requested_148 am_42 rfl (by first | omega | exact sl16_lt _ | assumption) (by decide) (by first | decide | exact bI_nar _) ?_
        refine x_aload_n dX10_requested_149 rfl ?_
        refine x_get dX10_requested_150 fl_RX10_125 (hp_get (κ := 10) (by decide)) rfl ?_
        refine x_iload dX10_requested_153 rfl ?_
        refine x_aload_n dX10_requested_155 rfl ?_
        refine x_get dX10_requested_156 fl_RX10_17 (hp_get (κ := 10) (by decide)) rfl ?_
        refine x_iload dX10_requested_159 rfl ?_
        refine y_ialdM (f := 6) (κ := 36) dX10_requested_161 am_6 rfl (by first | omega | exact sl16_lt _ | assumption) (by decide) ?_
        refine y_iastM (f := 43) (κ := 73) dX10_requested_162 am_43 rfl (by first | omega | exact sl16_lt _ | assumption) (by decide) ?_
        refine x_heq (S2 := ml_new S g m a e) rfl ?_
        unfold ml_req
        rw [if_neg hc15, if_pos hc26, if_neg hc38]
        exact l_mRq2 hg hm h.new
      · refine x_aload_n dX10_requested_41 rfl ?_
        refine x_get dX10_requested_42 fl_RX10_104 (hp_get (κ := 10) (by decide)) rfl ?_
        refine x_iload_n dX10_requested_45 rfl ?_
        refine y_ialdM (f := 35) (κ := 65) dX10_requested_46 am_35 rfl (by first | omega | exact sl16_lt _ | assumption) (by decide) ?_
        refine x_iload_n dX10_requested_47 rfl ?_
        refine x_icmp_ne (tgt := 69) dX10_requested_48 (by decide) (fun hc48 => ?_) (fun hc48 => ?_)
        · refine x_aload_n dX10_requested_69 rfl ?_
          refine x_get dX10_requested_70 fl_RX10_128 (hp_get (κ := 10) (by decide)) rfl ?_
          refine x_iload dX10_requested_73 rfl ?_
          refine y_ialdM (f := 44) (κ := 74) dX10_requested_75 am_44 rfl (by first | omega | exact sl16_lt _ | assumption) (by decide) ?_
          refine x_if_le (tgt := 97) dX10_requested_76 (by decide) (fun hc76 => ?_) (fun hc76 => ?_)
          · refine x_aload_n dX10_requested_97 rfl ?_
            refine x_get dX10_requested_98 fl_RX10_119 (hp_get (κ := 10) (by decide)) rfl ?_
            refine x_iload dX10_requested_101 rfl ?_
            refine y_zaldM (f := 41) (κ := 71) dX10_requested_103 am_41 rfl (by first | omega | exact sl16_lt _ | assumption) (by decide) ?_
            refine x_if_eq (tgt := 117) dX10_requested_104 (by decide) (fun hc104 => ?_) (fun hc104 => ?_)
            · exact x_rV dX10_requested_117 rfl rfl (by unfold ml_req; first | rw [if_pos hc15] | rw [if_neg hc15, if_neg hc26] | rw [if_neg hc15, if_pos hc26, if_pos hc38, if_pos hc48] | rw [if_neg hc15, if_pos hc26, if_pos hc38, if_neg hc48, if_pos hc76, if_pos hc104] | rw [if_neg hc15, if_pos hc26, if_pos hc38, if_neg hc48, if_pos hc76, if_neg hc104] | rw [if_neg hc15, if_pos hc26, if_pos hc38, if_neg hc48, if_neg hc76]) (by simp) (by simp)
            · refine x_aload_n dX10_requested_107 rfl ?_
              refine x_iconst (v := 5) dX10_requested_108 (by decide) ?_
              refine x_iload_n dX10_requested_109 rfl ?_
              refine x_iload_n dX10_requested_110 rfl ?_
              refine x_iload_n dX10_requested_111 rfl ?_
              refine x_iconst (v := 0) dX10_requested_112 (by decide) ?_
              refine x_iconst (v := 0) dX10_requested_113 (by decide) ?_
              refine x_cVv (as := [_, _, _, _, _, _]) dX10_requested_114 fX10_send rfl lk_RX10_168 rfl (hp_get (κ := 10) (by decide)) rfl rfl (Nat.le_of_ble_eq_true rfl) (c_mSend h.1 _ _ _ _ _ _) (by simp) (by simp) ?_
              exact x_rV dX10_requested_117 rfl rfl (by unfold ml_req; first | rw [if_pos hc15] | rw [if_neg hc15, if_neg hc26] | rw [if_neg hc15, if_pos hc26, if_pos hc38, if_pos hc48] | rw [if_neg hc15, if_pos hc26, if_pos hc38, if_neg hc48, if_pos hc76, if_pos hc104] | rw [if_neg hc15, if_pos hc26, if_pos hc38, if_neg hc48, if_pos hc76, if_neg hc104] | rw [if_neg hc15, if_pos hc26, if_pos hc38, if_neg hc48, if_neg hc76]) (by simp) (by simp)
          · refine x_aload_n dX10_requested_79 rfl ?_
            refine x_iconst (v := 4) dX10_requested_80 (by decide) ?_
            refine x_iload_n dX10_requested_81 rfl ?_
            refine x_iload_n dX10_requested_82 rfl ?_
            refine x_iload_n dX10_requested_83 rfl ?_
            refine x_aload_n dX10_requested_84 rfl ?_
            refine x_iload dX10_requested_85 rfl ?_
            refine x_cV (as := [_]) dX10_requested_87 fX10_placeOf rfl lk_RX10_186 rfl (hp_get (κ := 10) (by decide)) rfl rfl (Nat.le_of_ble_eq_true rfl) (c_mPlace hg hm) (by simp) (by simp) ?_
            refine x_iconst (v := 0) dX10_requested_90 (by decide) ?_
            refine x_cVv (as := [_, _, _, _, _, _]) dX10_requested_91 fX10_send rfl lk_RX10_168 rfl (hp_get (κ := 10) (by decide)) rfl rfl (Nat.le_of_ble_eq_true rfl) (c_mSend h.1 _ _ _ _ _ _) (by simp) (by simp) ?_
            refine x_goto (tgt := 117) dX10_requested_94 (by decide) ?_
            exact x_rV dX10_requested_117 rfl rfl (by unfold ml_req; first | rw [if_pos hc15] | rw [if_neg hc15, if_neg hc26] | rw [if_neg hc15, if_pos hc26, if_pos hc38, if_pos hc48] | rw [if_neg hc15, if_pos hc26, if_pos hc38, if_neg hc48, if_pos hc76, if_pos hc104] | rw [if_neg hc15, if_pos hc26, if_pos hc38, if_neg hc48, if_pos hc76, if_neg hc104] | rw [if_neg hc15, if_pos hc26, if_pos hc38, if_neg hc48, if_neg hc76]) (by simp) (by simp)
        · refine x_aload_n dX10_requested_51 rfl ?_
          refine x_iconst (v := 3) dX10_requested_52 (by decide) ?_
          refine x_iload_n dX10_requested_53 rfl ?_
          refine x_iload_n dX10_requested_54 rfl ?_
          refine x_iload_n dX10_requested_55 rfl ?_
          refine x_aload_n dX10_requested_56 rfl ?_
          refine x_get dX10_requested_57 fl_RX10_101 (hp_get (κ := 10) (by decide)) rfl ?_
          refine x_iload_n dX10_requested_60 rfl ?_
          refine y_ialdM (f := 34) (κ := 64) dX10_requested_61 am_34 rfl (by first | omega | exact sl16_lt _ | assumption) (by decide) ?_
          refine x_iconst (v := 0) dX10_requested_62 (by decide) ?_
          refine x_cVv (as := [_, _, _, _, _, _]) dX10_requested_63 fX10_send rfl lk_RX10_168 rfl (hp_get (κ := 10) (by decide)) rfl rfl (Nat.le_of_ble_eq_true rfl) (c_mSend h.1 _ _ _ _ _ _) (by simp) (by simp) ?_
          refine x_goto (tgt := 117) dX10_requested_66 (by decide) ?_
          exact x_rV dX10_requested_117 rfl rfl (by unfold ml_req; first | rw [if_pos hc15] | rw [if_neg hc15, if_neg hc26] | rw [if_neg hc15, if_pos hc26, if_pos hc38, if_pos hc48] | rw [if_neg hc15, if_pos hc26, if_pos hc38, if_neg hc48, if_pos hc76, if_pos hc104] | rw [if_neg hc15, if_pos hc26, if_pos hc38, if_neg hc48, if_pos hc76, if_neg hc104] | rw [if_neg hc15, if_pos hc26, if_pos hc38, if_neg hc48, if_neg hc76]) (by simp) (by simp)
    · exact x_rV dX10_requested_29 rfl rfl (by unfold ml_req; first | rw [if_pos hc15] | rw [if_neg hc15, if_neg hc26] | rw [if_neg hc15, if_pos hc26, if_pos hc38, if_pos hc48] | rw [if_neg hc15, if_pos hc26, if_pos hc38, if_neg hc48, if_pos hc76, if_pos hc104] | rw [if_neg hc15, if_pos hc26, if_pos hc38, if_neg hc48, if_pos hc76, if_neg hc104] | rw [if_neg hc15, if_pos hc26, if_pos hc38, if_neg hc48, if_neg hc76]) (by simp) (by simp)
def ml_dn (S : St) (i : Nat) (a : Int32) : Bool := decide (¬ S.2.2.1 41 i = 0 ∧ a = S.2.2.1 40 i)
def ml_rel (S : St) (g m : Nat) (a : Int32) : St := if S.2.2.1 40 (6 * g + m) ≤ a then ml_clear (sm (sm S 41 (6 * g + m) (bI (ml_dn S (6 * g + m) a))) 40 (6 * g + m) a) g m else S
set_option maxRecDepth 100000 in
set_option maxHeartbeats 400000 in
theorem c_mRel {X : XS} {d : Nat} {S : St} {g m : Nat} (hg : g < 3) (hm : m < 6) (h : MI S g) (a : Int32) : Call X mX10_released false (d + 5) [.ref (ad 10 0), .int (nI g), .int (nI m), .int a] (hp S) (.inl none, hp (ml_rel S g m a), 0, 0) := by
  refine Call.of fX10_released (by decide) rfl (by simp [Value.category]) (Nat.le_of_ble_eq_true rfl) (lv := [some (.ref (ad 10 0)), some (.int (nI g)), some (.int (nI m)), some (.int a), none]) rfl ?_
  refine x_bipush (v := 6) dX10_released_0 (by decide) ?_
  refine x_iload_n dX10_released_2 rfl ?_
  refine x_imul dX10_released_3 ?_
  refine x_iload_n dX10_released_4 rfl ?_
  refine x_iadd dX10_released_5 ?_
  refine x_eqi (ix6 _ _) ?_
  refine x_istore (lv' := [_, _, _, _, _]) dX10_released_6 (by decide) rfl ?_
  refine x_iload_n dX10_released_8 rfl ?_
  refine x_aload_n dX10_released_9 rfl ?_
  refine x_get dX10_released_10 fl_RX10_116 (hp_get (κ := 10) (by decide)) rfl ?_
  refine x_iload dX10_released_13 rfl ?_
  refine y_ialdM (f := 40) (κ := 70) dX10_released_15 am_40 rfl (by first | omega | exact sl16_lt _ | assumption) (by decide) ?_
  refine x_icmp_ge (tgt := 20) dX10_released_16 (by decide) (fun hc16 => ?_) (fun hc16 => ?_)
  · refine x_aload_n dX10_released_20 rfl ?_
    refine x_get dX10_released_21 fl_RX10_119 (hp_get (κ := 10) (by decide)) rfl ?_
    refine x_iload dX10_released_24 rfl ?_
    refine x_aload_n dX10_released_26 rfl ?_
    refine x_get dX10_released_27 fl_RX10_119 (hp_get (κ := 10) (by decide)) rfl ?_
    refine x_iload dX10_released_30 rfl ?_
    refine y_zaldM (f := 41) (κ := 71) dX10_released_32 am_41 rfl (by first | omega | exact sl16_lt _ | assumption) (by decide) ?_
    refine x_if_eq (tgt := 51) dX10_released_33 (by decide) (fun hc33 => ?_) (fun hc33 => ?_)
    · refine x_iconst (v := 0) dX10_released_51 (by decide) ?_
      refine x_eqi (y := bI (ml_dn S (6 * g + m) a)) (by simp [bI, ml_dn, hc16, hc33]) ?_
      refine y_zastM (f := 41) (κ := 71) dX10_released_52 am_41 rfl (by first | omega | exact sl16_lt _ | assumption) (by decide) (by first | decide | exact bI_nar _) ?_
      refine x_aload_n dX10_released_53 rfl ?_
      refine x_get dX10_released_54 fl_RX10_116 (hp_get (κ := 10) (by decide)) rfl ?_
      refine x_iload dX10_released_57 rfl ?_
      refine x_iload_n dX10_released_59 rfl ?_
      refine y_iastM (f := 40) (κ := 70) dX10_released_60 am_40 rfl (by first | omega | exact sl16_lt _ | assumption) (by decide) ?_
      refine x_aload_n dX10_released_61 rfl ?_
      refine x_iload_n dX10_released_62 rfl ?_
      refine x_iload_n dX10_released_63 rfl ?_
      refine x_cVv (as := [_, _]) dX10_released_64 fX10_clear rfl lk_RX10_164 rfl (hp_get (κ := 10) (by decide)) rfl rfl (Nat.le_of_ble_eq_true rfl) (c_mClear hg hm ((h.sm (f := 41) (by decide) (by decide) (by decide)).sm (f := 40) (by decide) (by decide) (by decide))) (by simp) (by simp) ?_
      exact x_rV dX10_released_67 rfl rfl (by unfold ml_rel; first | rw [if_pos hc16] | rw [if_neg hc16]) (by simp) (by simp)
    · refine x_iload_n dX10_released_36 rfl ?_
      refine x_aload_n dX10_released_37 rfl ?_
      refine x_get dX10_released_38 fl_RX10_116 (hp_get (κ := 10) (by decide)) rfl ?_
      refine x_iload dX10_released_41 rfl ?_
      refine y_ialdM (f := 40) (κ := 70) dX10_released_43 am_40 rfl (by first | omega | exact sl16_lt _ | assumption) (by decide) ?_
      refine x_icmp_ne (tgt := 51) dX10_released_44 (by decide) (fun hc44 => ?_) (fun hc44 => ?_)
      · refine x_iconst (v := 0) dX10_released_51 (by decide) ?_
        refine x_eqi (y := bI (ml_dn S (6 * g + m) a)) (by simp [bI, ml_dn, hc16, hc33, hc44]) ?_
        refine y_zastM (f := 41) (κ := 71) dX10_released_52 am_41 rfl (by first | omega | exact sl16_lt _ | assumption) (by decide) (by first | decide | exact bI_nar _) ?_
        refine x_aload_n dX10_released_53 rfl ?_
        refine x_get dX10_released_54 fl_RX10_116 (hp_get (κ := 10) (by decide)) rfl ?_
        refine x_iload dX10_released_57 rfl ?_
        refine x_iload_n dX10_released_59 rfl ?_
        refine y_iastM (f := 40) (κ := 70) dX10_released_60 am_40 rfl (by first | omega | exact sl16_lt _ | assumption) (by decide) ?_
        refine x_aload_n dX10_released_61 rfl ?_
        refine x_iload_n dX10_released_62 rfl ?_
        refine x_iload_n dX10_released_63 rfl ?_
        refine x_cVv (as := [_, _]) dX10_released_64 fX10_clear rfl lk_RX10_164 rfl (hp_get (κ := 10) (by decide)) rfl rfl (Nat.le_of_ble_eq_true rfl) (c_mClear hg hm ((h.sm (f := 41) (by decide) (by decide) (by decide)).sm (f := 40) (by decide) (by decide) (by decide))) (by simp) (by simp) ?_
        exact x_rV dX10_released_67 rfl rfl (by unfold ml_rel; first | rw [if_pos hc16] | rw [if_neg hc16]) (by simp) (by simp)
      · refine x_iconst (v := 1) dX10_released_47 (by decide) ?_
        refine x_goto (tgt := 52) dX10_released_48 (by decide) ?_
        refine x_eqi (y := bI (ml_dn S (6 * g + m) a)) (by simp [bI, ml_dn, hc16, hc33, hc44]) ?_
        refine y_zastM (f := 41) (κ := 71) dX10_released_52 am_41 rfl (by first | omega | exact sl16_lt _ | assumption) (by decide) (by first | decide | exact bI_nar _) ?_
        refine x_aload_n dX10_released_53 rfl ?_
        refine x_get dX10_released_54 fl_RX10_116 (hp_get (κ := 10) (by decide)) rfl ?_
        refine x_iload dX10_released_57 rfl ?_
        refine x_iload_n dX10_released_59 rfl ?_
        refine y_iastM (f := 40) (κ := 70) dX10_released_60 am_40 rfl (by first | omega | exact sl16_lt _ | assumption) (by decide) ?_
        refine x_aload_n dX10_released_61 rfl ?_
        refine x_iload_n dX10_released_62 rfl ?_
        refine x_iload_n dX10_released_63 rfl ?_
        refine x_cVv (as := [_, _]) dX10_released_64 fX10_clear rfl lk_RX10_164 rfl (hp_get (κ := 10) (by decide)) rfl rfl (Nat.le_of_ble_eq_true rfl) (c_mClear hg hm ((h.sm (f := 41) (by decide) (by decide) (by decide)).sm (f := 40) (by decide) (by decide) (by decide))) (by simp) (by simp) ?_
        exact x_rV dX10_released_67 rfl rfl (by unfold ml_rel; first | rw [if_pos hc16] | rw [if_neg hc16]) (by simp) (by simp)
  · exact x_rV dX10_released_19 rfl rfl (by unfold ml_rel; first | rw [if_pos hc16] | rw [if_neg hc16]) (by simp) (by simp)
def ml_last (S : St) (g : Nat) : Int32 := if 0 ≤ S.2.2.1 38 g then S.2.2.1 38 g else S.2.2.1 37 g
def ml_over (S : St) (g : Nat) : Bool := decide ((¬ S.2.2.1 36 g < 0 ∧ ¬ S.2.2.1 1 0 - S.2.2.1 36 g < S.2.2.1 33 g) ∨ S.2.2.1 31 g ≤ S.2.2.1 1 0 - S.2.2.1 37 g ∨ ¬ S.2.2.1 1 0 - ml_last S g < S.2.2.1 32 g)
def ml_stE (S : St) (g : Nat) : St := if ml_over S g = true then ml_free (ml_send S 7 (nI g) (S.2.2.1 35 g) (S.2.2.1 34 g) 0 0) g else S
def ml_stT (S : St) (g : Nat) : St := if S.2.2.1 1 0 - S.2.2.1 1 0 / 5 * 5 = 0 then (if S.2.2.1 35 g < 0 then S else mt S g 6) else S
def ml_st (S : St) (g : Nat) : St := if 0 ≤ S.2.2.1 35 g then ml_stT (ml_stE S g) g else S
theorem stE_MI {S : St} {g : Nat} (h : MI S g) : MI (ml_stE S g) g := by
  unfold ml_stE
  split
  · exact h.send.free
  · exact h
set_option maxRecDepth 100000 in
set_option maxHeartbeats 400000 in
theorem l_mStT {X : XS} {d : Nat} {S : St} {g : Nat} {x2 x3 : Option Value} (hg : g < 3) (h : MO S) : Ex X mX10_serverTick false (d + 4) 145 [some (.ref (ad 10 0)), some (.int (nI g)), x2, x3] [] (hp S) 0 0 (.inl none, hp (ml_stT S g), 0, 0) := by
  refine x_aload_n dX10_serverTick_145 rfl ?_
  refine x_get dX10_serverTick_146 fl_RX10_179 (hp_get (κ := 10) (by decide)) rfl ?_
  refine x_iconst (v := 5) dX10_serverTick_149 (by decide) ?_
  refine x_irem dX10_serverTick_150 (by decide) ?_
  refine x_if_ne (tgt := 168) dX10_serverTick_151 (by decide) (fun hc151 => ?_) (fun hc151 => ?_)
  · exact x_rV dX10_serverTick_168 rfl rfl (by unfold ml_stT; first | rw [if_neg hc151] | rw [if_pos hc151, if_pos hc160] | rw [if_pos hc151, if_neg hc160]) (by simp) (by simp)
  · refine x_aload_n dX10_serverTick_154 rfl ?_
    refine x_get dX10_serverTick_155 fl_RX10_104 (hp_get (κ := 10) (by decide)) rfl ?_
    refine x_iload_n dX10_serverTick_158 rfl ?_
    refine y_ialdM (f := 35) (κ := 65) dX10_serverTick_159 am_35 rfl (by first | omega | exact sl16_lt _ | assumption) (by decide) ?_
    refine x_if_lt (tgt := 168) dX10_serverTick_160 (by decide) (fun hc160 => ?_) (fun hc160 => ?_)
    · exact x_rV dX10_serverTick_168 rfl rfl (by unfold ml_stT; first | rw [if_neg hc151] | rw [if_pos hc151, if_pos hc160] | rw [if_pos hc151, if_neg hc160]) (by simp) (by simp)
    · refine x_aload_n dX10_serverTick_163 rfl ?_
      refine x_iload_n dX10_serverTick_164 rfl ?_
      refine x_cVv (as := [_]) dX10_serverTick_165 fX10_tellTalker rfl lk_RX10_190 rfl (hp_get (κ := 10) (by decide)) rfl rfl (Nat.le_of_ble_eq_true rfl) (c_mTell hg h) (by simp) (by simp) ?_
      exact x_rV dX10_serverTick_168 rfl rfl (by unfold ml_stT; first | rw [if_neg hc151] | rw [if_pos hc151, if_pos hc160] | rw [if_pos hc151, if_neg hc160]) (by simp) (by simp)
set_option maxRecDepth 100000 in
set_option maxHeartbeats 400000 in
theorem l_mStE {X : XS} {d : Nat} {S : St} {g : Nat} {x3 : Option Value} (hg : g < 3) (h : MI S g) : Ex X mX10_serverTick false (d + 4) 35 [some (.ref (ad 10 0)), some (.int (nI g)), some (.int (ml_last S g)), x3] [] (hp S) 0 0 (.inl none, hp (ml_stT (ml_stE S g) g), 0, 0) := by
  refine x_aload_n dX10_serverTick_35 rfl ?_
  refine x_get dX10_serverTick_36 fl_RX10_107 (hp_get (κ := 10) (by decide)) rfl ?_
  refine x_iload_n dX10_serverTick_39 rfl ?_
  refine y_ialdM (f := 36) (κ := 66) dX10_serverTick_40 am_36 rfl (by first | omega | exact sl16_lt _ | assumption) (by decide) ?_
  refine x_if_lt (tgt := 68) dX10_serverTick_41 (by decide) (fun hc41 => ?_) (fun hc41 => ?_)
  · refine x_iconst (v := 0) dX10_serverTick_68 (by decide) ?_
    refine x_istore_n (lv' := [_, _, _, _]) dX10_serverTick_69 (by decide) rfl ?_
    refine x_iload_n dX10_serverTick_70 rfl ?_
    refine x_if_ne (tgt := 109) dX10_serverTick_71 (by decide) (fun hc71 => by first | exact absurd hc71 (by decide) | exact absurd (by decide) hc71) (fun hc71 => ?_)
    refine x_aload_n dX10_serverTick_74 rfl ?_
    refine x_get dX10_serverTick_75 fl_RX10_179 (hp_get (κ := 10) (by decide)) rfl ?_
    refine x_aload_n dX10_serverTick_78 rfl ?_
    refine x_get dX10_serverTick_79 fl_RX10_110 (hp_get (κ := 10) (by decide)) rfl ?_
    refine x_iload_n dX10_serverTick_82 rfl ?_
    refine y_ialdM (f := 37) (κ := 67) dX10_serverTick_83 am_37 rfl (by first | omega | exact sl16_lt _ | assumption) (by decide) ?_
    refine x_isub dX10_serverTick_84 ?_
    refine x_aload_n dX10_serverTick_85 rfl ?_
    refine x_get dX10_serverTick_86 fl_RX10_92 (hp_get (κ := 10) (by decide)) rfl ?_
    refine x_iload_n dX10_serverTick_89 rfl ?_
    refine y_ialdM (f := 31) (κ := 61) dX10_serverTick_90 am_31 rfl (by first | omega | exact sl16_lt _ | assumption) (by decide) ?_
    refine x_icmp_ge (tgt := 109) dX10_serverTick_91 (by decide) (fun hc91 => ?_) (fun hc91 => ?_)
    · refine x_iconst (v := 1) dX10_serverTick_109 (by decide) ?_
      refine x_goto (tgt := 114) dX10_serverTick_110 (by decide) ?_
      refine x_istore_n (lv' := [_, _, _, _]) dX10_serverTick_114 (by decide) rfl ?_
      refine x_iload_n dX10_serverTick_115 rfl ?_
      refine x_if_eq (tgt := 145) dX10_serverTick_116 (by decide) (fun hc116 => by first | exact absurd hc116 (by decide) | exact absurd (by decide) hc116) (fun hc116 => ?_)
      refine x_aload_n dX10_serverTick_119 rfl ?_
      refine x_bipush (v := 7) dX10_serverTick_120 (by decide) ?_
      refine x_iload_n dX10_serverTick_122 rfl ?_
      refine x_aload_n dX10_serverTick_123 rfl ?_
      refine x_get dX10_serverTick_124 fl_RX10_104 (hp_get (κ := 10) (by decide)) rfl ?_
      refine x_iload_n dX10_serverTick_127 rfl ?_
      refine y_ialdM (f := 35) (κ := 65) dX10_serverTick_128 am_35 rfl (by first | omega | exact sl16_lt _ | assumption) (by decide) ?_
      refine x_aload_n dX10_serverTick_129 rfl ?_
      refine x_get dX10_serverTick_130 fl_RX10_101 (hp_get (κ := 10) (by decide)) rfl ?_
      refine x_iload_n dX10_serverTick_133 rfl ?_
      refine y_ialdM (f := 34) (κ := 64) dX10_serverTick_134 am_34 rfl (by first | omega | exact sl16_lt _ | assumption) (by decide) ?_
      refine x_iconst (v := 0) dX10_serverTick_135 (by decide) ?_
      refine x_iconst (v := 0) dX10_serverTick_136 (by decide) ?_
      refine x_cVv (as := [_, _, _, _, _, _]) dX10_serverTick_137 fX10_send rfl lk_RX10_168 rfl (hp_get (κ := 10) (by decide)) rfl rfl (Nat.le_of_ble_eq_true rfl) (c_mSend h.1 _ _ _ _ _ _) (by simp) (by simp) ?_
      refine x_aload_n dX10_serverTick_140 rfl ?_
      refine x_iload_n dX10_serverTick_141 rfl ?_
      refine x_cVv (as := [_]) dX10_serverTick_142 fX10_free rfl lk_RX10_200 rfl (hp_get (κ := 10) (by decide)) rfl rfl (Nat.le_of_ble_eq_true rfl) (c_mFree hg h.send) (by simp) (by simp) ?_
      cases hb : ml_over S g
      · first
        | (exfalso; revert hb; simp [ml_over, hc41, hc71, hc91, hc116]; done)
        | (refine x_heq (S2 := ml_stE S g) (by unfold ml_stE; rw [if_neg (by rw [hb]; decide)]) ?_; exact l_mStT hg (stE_MI h).1)
      · first
        | (exfalso; revert hb; simp [ml_over, hc41, hc71, hc91, hc116]; done)
        | (refine x_heq (S2 := ml_stE S g) (by unfold ml_stE; rw [if_pos hb]) ?_; exact l_mStT hg (stE_MI h).1)
    · refine x_aload_n dX10_serverTick_94 rfl ?_
      refine x_get dX10_serverTick_95 fl_RX10_179 (hp_get (κ := 10) (by decide)) rfl ?_
      refine x_iload_n dX10_serverTick_98 rfl ?_
      refine x_isub dX10_serverTick_99 ?_
      refine x_aload_n dX10_serverTick_100 rfl ?_
      refine x_get dX10_serverTick_101 fl_RX10_95 (hp_get (κ := 10) (by decide)) rfl ?_
      refine x_iload_n dX10_serverTick_104 rfl ?_
      refine y_ialdM (f := 32) (κ := 62) dX10_serverTick_105 am_32 rfl (by first | omega | exact sl16_lt _ | assumption) (by decide) ?_
      refine x_icmp_lt (tgt := 113) dX10_serverTick_106 (by decide) (fun hc106 => ?_) (fun hc106 => ?_)
      · refine x_iconst (v := 0) dX10_serverTick_113 (by decide) ?_
        refine x_istore_n (lv' := [_, _, _, _]) dX10_serverTick_114 (by decide) rfl ?_
        refine x_iload_n dX10_serverTick_115 rfl ?_
        refine x_if_eq (tgt := 145) dX10_serverTick_116 (by decide) (fun hc116 => ?_) (fun hc116 => by first | exact absurd (by decide) hc116 | exact absurd hc116 (by decide))
        cases hb : ml_over S g
        · first
          | (exfalso; revert hb; simp [ml_over, hc41, hc71, hc91, hc106, hc116]; done)
          | (refine x_heq (S2 := ml_stE S g) (by unfold ml_stE; rw [if_neg (by rw [hb]; decide)]) ?_; exact l_mStT hg (stE_MI h).1)
        · first
          | (exfalso; revert hb; simp [ml_over, hc41, hc71, hc91, hc106, hc116]; done)
          | (refine x_heq (S2 := ml_stE S g) (by unfold ml_stE; rw [if_pos hb]) ?_; exact l_mStT hg (stE_MI h).1)
      · refine x_iconst (v := 1) dX10_serverTick_109 (by decide) ?_
        refine x_goto (tgt := 114) dX10_serverTick_110 (by decide) ?_
        refine x_istore_n (lv' := [_, _, _, _]) dX10_serverTick_114 (by decide) rfl ?_
        refine x_iload_n dX10_serverTick_115 rfl ?_
        refine x_if_eq (tgt := 145) dX10_serverTick_116 (by decide) (fun hc116 => by first | exact absurd hc116 (by decide) | exact absurd (by decide) hc116) (fun hc116 => ?_)
        refine x_aload_n dX10_serverTick_119 rfl ?_
        refine x_bipush (v := 7) dX10_serverTick_120 (by decide) ?_
        refine x_iload_n dX10_serverTick_122 rfl ?_
        refine x_aload_n dX10_serverTick_123 rfl ?_
        refine x_get dX10_serverTick_124 fl_RX10_104 (hp_get (κ := 10) (by decide)) rfl ?_
        refine x_iload_n dX10_serverTick_127 rfl ?_
        refine y_ialdM (f := 35) (κ := 65) dX10_serverTick_128 am_35 rfl (by first | omega | exact sl16_lt _ | assumption) (by decide) ?_
        refine x_aload_n dX10_serverTick_129 rfl ?_
        refine x_get dX10_serverTick_130 fl_RX10_101 (hp_get (κ := 10) (by decide)) rfl ?_
        refine x_iload_n dX10_serverTick_133 rfl ?_
        refine y_ialdM (f := 34) (κ := 64) dX10_serverTick_134 am_34 rfl (by first | omega | exact sl16_lt _ | assumption) (by decide) ?_
        refine x_iconst (v := 0) dX10_serverTick_135 (by decide) ?_
        refine x_iconst (v := 0) dX10_serverTick_136 (by decide) ?_
        refine x_cVv (as := [_, _, _, _, _, _]) dX10_serverTick_137 fX10_send rfl lk_RX10_168 rfl (hp_get (κ := 10) (by decide)) rfl rfl (Nat.le_of_ble_eq_true rfl) (c_mSend h.1 _ _ _ _ _ _) (by simp) (by simp) ?_
        refine x_aload_n dX10_serverTick_140 rfl ?_
        refine x_iload_n dX10_serverTick_141 rfl ?_
        refine x_cVv (as := [_]) dX10_serverTick_142 fX10_free rfl lk_RX10_200 rfl (hp_get (κ := 10) (by decide)) rfl rfl (Nat.le_of_ble_eq_true rfl) (c_mFree hg h.send) (by simp) (by simp) ?_
        cases hb : ml_over S g
        · first
          | (exfalso; revert hb; simp [ml_over, hc41, hc71, hc91, hc106, hc116]; done)
          | (refine x_heq (S2 := ml_stE S g) (by unfold ml_stE; rw [if_neg (by rw [hb]; decide)]) ?_; exact l_mStT hg (stE_MI h).1)
        · first
          | (exfalso; revert hb; simp [ml_over, hc41, hc71, hc91, hc106, hc116]; done)
          | (refine x_heq (S2 := ml_stE S g) (by unfold ml_stE; rw [if_pos hb]) ?_; exact l_mStT hg (stE_MI h).1)
  · refine x_aload_n dX10_serverTick_44 rfl ?_
    refine x_get dX10_serverTick_45 fl_RX10_179 (hp_get (κ := 10) (by decide)) rfl ?_
    refine x_aload_n dX10_serverTick_48 rfl ?_
    refine x_get dX10_serverTick_49 fl_RX10_107 (hp_get (κ := 10) (by decide)) rfl ?_
    refine x_iload_n dX10_serverTick_52 rfl ?_
    refine y_ialdM (f := 36) (κ := 66) dX10_serverTick_53 am_36 rfl (by first | omega | exact sl16_lt _ | assumption) (by decide) ?_
    refine x_isub dX10_serverTick_54 ?_
    refine x_aload_n dX10_serverTick_55 rfl ?_
    refine x_get dX10_serverTick_56 fl_RX10_98 (hp_get (κ := 10) (by decide)) rfl ?_
    refine x_iload_n dX10_serverTick_59 rfl ?_
    refine y_ialdM (f := 33) (κ := 63) dX10_serverTick_60 am_33 rfl (by first | omega | exact sl16_lt _ | assumption) (by decide) ?_
    refine x_icmp_lt (tgt := 68) dX10_serverTick_61 (by decide) (fun hc61 => ?_) (fun hc61 => ?_)
    · refine x_iconst (v := 0) dX10_serverTick_68 (by decide) ?_
      refine x_istore_n (lv' := [_, _, _, _]) dX10_serverTick_69 (by decide) rfl ?_
      refine x_iload_n dX10_serverTick_70 rfl ?_
      refine x_if_ne (tgt := 109) dX10_serverTick_71 (by decide) (fun hc71 => by first | exact absurd hc71 (by decide) | exact absurd (by decide) hc71) (fun hc71 => ?_)
      refine x_aload_n dX10_serverTick_74 rfl ?_
      refine x_get dX10_serverTick_75 fl_RX10_179 (hp_get (κ := 10) (by decide)) rfl ?_
      refine x_aload_n dX10_serverTick_78 rfl ?_
      refine x_get dX10_serverTick_79 fl_RX10_110 (hp_get (κ := 10) (by decide)) rfl ?_
      refine x_iload_n dX10_serverTick_82 rfl ?_
      refine y_ialdM (f := 37) (κ := 67) dX10_serverTick_83 am_37 rfl (by first | omega | exact sl16_lt _ | assumption) (by decide) ?_
      refine x_isub dX10_serverTick_84 ?_
      refine x_aload_n dX10_serverTick_85 rfl ?_
      refine x_get dX10_serverTick_86 fl_RX10_92 (hp_get (κ := 10) (by decide)) rfl ?_
      refine x_iload_n dX10_serverTick_89 rfl ?_
      refine y_ialdM (f := 31) (κ := 61) dX10_serverTick_90 am_31 rfl (by first | omega | exact sl16_lt _ | assumption) (by decide) ?_
      refine x_icmp_ge (tgt := 109) dX10_serverTick_91 (by decide) (fun hc91 => ?_) (fun hc91 => ?_)
      · refine x_iconst (v := 1) dX10_serverTick_109 (by decide) ?_
        refine x_goto (tgt := 114) dX10_serverTick_110 (by decide) ?_
        refine x_istore_n (lv' := [_, _, _, _]) dX10_serverTick_114 (by decide) rfl ?_
        refine x_iload_n dX10_serverTick_115 rfl ?_
        refine x_if_eq (tgt := 145) dX10_serverTick_116 (by decide) (fun hc116 => by first | exact absurd hc116 (by decide) | exact absurd (by decide) hc116) (fun hc116 => ?_)
        refine x_aload_n dX10_serverTick_119 rfl ?_
        refine x_bipush (v := 7) dX10_serverTick_120 (by decide) ?_
        refine x_iload_n dX10_serverTick_122 rfl ?_
        refine x_aload_n dX10_serverTick_123 rfl ?_
        refine x_get dX10_serverTick_124 fl_RX10_104 (hp_get (κ := 10) (by decide)) rfl ?_
        refine x_iload_n dX10_serverTick_127 rfl ?_
        refine y_ialdM (f := 35) (κ := 65) dX10_serverTick_128 am_35 rfl (by first | omega | exact sl16_lt _ | assumption) (by decide) ?_
        refine x_aload_n dX10_serverTick_129 rfl ?_
        refine x_get dX10_serverTick_130 fl_RX10_101 (hp_get (κ := 10) (by decide)) rfl ?_
        refine x_iload_n dX10_serverTick_133 rfl ?_
        refine y_ialdM (f := 34) (κ := 64) dX10_serverTick_134 am_34 rfl (by first | omega | exact sl16_lt _ | assumption) (by decide) ?_
        refine x_iconst (v := 0) dX10_serverTick_135 (by decide) ?_
        refine x_iconst (v := 0) dX10_serverTick_136 (by decide) ?_
        refine x_cVv (as := [_, _, _, _, _, _]) dX10_serverTick_137 fX10_send rfl lk_RX10_168 rfl (hp_get (κ := 10) (by decide)) rfl rfl (Nat.le_of_ble_eq_true rfl) (c_mSend h.1 _ _ _ _ _ _) (by simp) (by simp) ?_
        refine x_aload_n dX10_serverTick_140 rfl ?_
        refine x_iload_n dX10_serverTick_141 rfl ?_
        refine x_cVv (as := [_]) dX10_serverTick_142 fX10_free rfl lk_RX10_200 rfl (hp_get (κ := 10) (by decide)) rfl rfl (Nat.le_of_ble_eq_true rfl) (c_mFree hg h.send) (by simp) (by simp) ?_
        cases hb : ml_over S g
        · first
          | (exfalso; revert hb; simp [ml_over, hc41, hc61, hc71, hc91, hc116]; done)
          | (refine x_heq (S2 := ml_stE S g) (by unfold ml_stE; rw [if_neg (by rw [hb]; decide)]) ?_; exact l_mStT hg (stE_MI h).1)
        · first
          | (exfalso; revert hb; simp [ml_over, hc41, hc61, hc71, hc91, hc116]; done)
          | (refine x_heq (S2 := ml_stE S g) (by unfold ml_stE; rw [if_pos hb]) ?_; exact l_mStT hg (stE_MI h).1)
      · refine x_aload_n dX10_serverTick_94 rfl ?_
        refine x_get dX10_serverTick_95 fl_RX10_179 (hp_get (κ := 10) (by decide)) rfl ?_
        refine x_iload_n dX10_serverTick_98 rfl ?_
        refine x_isub dX10_serverTick_99 ?_
        refine x_aload_n dX10_serverTick_100 rfl ?_
        refine x_get dX10_serverTick_101 fl_RX10_95 (hp_get (κ := 10) (by decide)) rfl ?_
        refine x_iload_n dX10_serverTick_104 rfl ?_
        refine y_ialdM (f := 32) (κ := 62) dX10_serverTick_105 am_32 rfl (by first | omega | exact sl16_lt _ | assumption) (by decide) ?_
        refine x_icmp_lt (tgt := 113) dX10_serverTick_106 (by decide) (fun hc106 => ?_) (fun hc106 => ?_)
        · refine x_iconst (v := 0) dX10_serverTick_113 (by decide) ?_
          refine x_istore_n (lv' := [_, _, _, _]) dX10_serverTick_114 (by decide) rfl ?_
          refine x_iload_n dX10_serverTick_115 rfl ?_
          refine x_if_eq (tgt := 145) dX10_serverTick_116 (by decide) (fun hc116 => ?_) (fun hc116 => by first | exact absurd (by decide) hc116 | exact absurd hc116 (by decide))
          cases hb : ml_over S g
          · first
            | (exfalso; revert hb; simp [ml_over, hc41, hc61, hc71, hc91, hc106, hc116]; done)
            | (refine x_heq (S2 := ml_stE S g) (by unfold ml_stE; rw [if_neg (by rw [hb]; decide)]) ?_; exact l_mStT hg (stE_MI h).1)
          · first
            | (exfalso; revert hb; simp [ml_over, hc41, hc61, hc71, hc91, hc106, hc116]; done)
            | (refine x_heq (S2 := ml_stE S g) (by unfold ml_stE; rw [if_pos hb]) ?_; exact l_mStT hg (stE_MI h).1)
        · refine x_iconst (v := 1) dX10_serverTick_109 (by decide) ?_
          refine x_goto (tgt := 114) dX10_serverTick_110 (by decide) ?_
          refine x_istore_n (lv' := [_, _, _, _]) dX10_serverTick_114 (by decide) rfl ?_
          refine x_iload_n dX10_serverTick_115 rfl ?_
          refine x_if_eq (tgt := 145) dX10_serverTick_116 (by decide) (fun hc116 => by first | exact absurd hc116 (by decide) | exact absurd (by decide) hc116) (fun hc116 => ?_)
          refine x_aload_n dX10_serverTick_119 rfl ?_
          refine x_bipush (v := 7) dX10_serverTick_120 (by decide) ?_
          refine x_iload_n dX10_serverTick_122 rfl ?_
          refine x_aload_n dX10_serverTick_123 rfl ?_
          refine x_get dX10_serverTick_124 fl_RX10_104 (hp_get (κ := 10) (by decide)) rfl ?_
          refine x_iload_n dX10_serverTick_127 rfl ?_
          refine y_ialdM (f := 35) (κ := 65) dX10_serverTick_128 am_35 rfl (by first | omega | exact sl16_lt _ | assumption) (by decide) ?_
          refine x_aload_n dX10_serverTick_129 rfl ?_
          refine x_get dX10_serverTick_130 fl_RX10_101 (hp_get (κ := 10) (by decide)) rfl ?_
          refine x_iload_n dX10_serverTick_133 rfl ?_
          refine y_ialdM (f := 34) (κ := 64) dX10_serverTick_134 am_34 rfl (by first | omega | exact sl16_lt _ | assumption) (by decide) ?_
          refine x_iconst (v := 0) dX10_serverTick_135 (by decide) ?_
          refine x_iconst (v := 0) dX10_serverTick_136 (by decide) ?_
          refine x_cVv (as := [_, _, _, _, _, _]) dX10_serverTick_137 fX10_send rfl lk_RX10_168 rfl (hp_get (κ := 10) (by decide)) rfl rfl (Nat.le_of_ble_eq_true rfl) (c_mSend h.1 _ _ _ _ _ _) (by simp) (by simp) ?_
          refine x_aload_n dX10_serverTick_140 rfl ?_
          refine x_iload_n dX10_serverTick_141 rfl ?_
          refine x_cVv (as := [_]) dX10_serverTick_142 fX10_free rfl lk_RX10_200 rfl (hp_get (κ := 10) (by decide)) rfl rfl (Nat.le_of_ble_eq_true rfl) (c_mFree hg h.send) (by simp) (by simp) ?_
          cases hb : ml_over S g
          · first
            | (exfalso; revert hb; simp [ml_over, hc41, hc61, hc71, hc91, hc106, hc116]; done)
            | (refine x_heq (S2 := ml_stE S g) (by unfold ml_stE; rw [if_neg (by rw [hb]; decide)]) ?_; exact l_mStT hg (stE_MI h).1)
          · first
            | (exfalso; revert hb; simp [ml_over, hc41, hc61, hc71, hc91, hc106, hc116]; done)
            | (refine x_heq (S2 := ml_stE S g) (by unfold ml_stE; rw [if_pos hb]) ?_; exact l_mStT hg (stE_MI h).1)
    · refine x_iconst (v := 1) dX10_serverTick_64 (by decide) ?_
      refine x_goto (tgt := 69) dX10_serverTick_65 (by decide) ?_
      refine x_istore_n (lv' := [_, _, _, _]) dX10_serverTick_69 (by decide) rfl ?_
      refine x_iload_n dX10_serverTick_70 rfl ?_
      refine x_if_ne (tgt := 109) dX10_serverTick_71 (by decide) (fun hc71 => ?_) (fun hc71 => by first | exact absurd (by decide) hc71 | exact absurd hc71 (by decide))
      refine x_iconst (v := 1) dX10_serverTick_109 (by decide) ?_
      refine x_goto (tgt := 114) dX10_serverTick_110 (by decide) ?_
      refine x_istore_n (lv' := [_, _, _, _]) dX10_serverTick_114 (by decide) rfl ?_
      refine x_iload_n dX10_serverTick_115 rfl ?_
      refine x_if_eq (tgt := 145) dX10_serverTick_116 (by decide) (fun hc116 => by first | exact absurd hc116 (by decide) | exact absurd (by decide) hc116) (fun hc116 => ?_)
      refine x_aload_n dX10_serverTick_119 rfl ?_
      refine x_bipush (v := 7) dX10_serverTick_120 (by decide) ?_
      refine x_iload_n dX10_serverTick_122 rfl ?_
      refine x_aload_n dX10_serverTick_123 rfl ?_
      refine x_get dX10_serverTick_124 fl_RX10_104 (hp_get (κ := 10) (by decide)) rfl ?_
      refine x_iload_n dX10_serverTick_127 rfl ?_
      refine y_ialdM (f := 35) (κ := 65) dX10_serverTick_128 am_35 rfl (by first | omega | exact sl16_lt _ | assumption) (by decide) ?_
      refine x_aload_n dX10_serverTick_129 rfl ?_
      refine x_get dX10_serverTick_130 fl_RX10_101 (hp_get (κ := 10) (by decide)) rfl ?_
      refine x_iload_n dX10_serverTick_133 rfl ?_
      refine y_ialdM (f := 34) (κ := 64) dX10_serverTick_134 am_34 rfl (by first | omega | exact sl16_lt _ | assumption) (by decide) ?_
      refine x_iconst (v := 0) dX10_serverTick_135 (by decide) ?_
      refine x_iconst (v := 0) dX10_serverTick_136 (by decide) ?_
      refine x_cVv (as := [_, _, _, _, _, _]) dX10_serverTick_137 fX10_send rfl lk_RX10_168 rfl (hp_get (κ := 10) (by decide)) rfl rfl (Nat.le_of_ble_eq_true rfl) (c_mSend h.1 _ _ _ _ _ _) (by simp) (by simp) ?_
      refine x_aload_n dX10_serverTick_140 rfl ?_
      refine x_iload_n dX10_serverTick_141 rfl ?_
      refine x_cVv (as := [_]) dX10_serverTick_142 fX10_free rfl lk_RX10_200 rfl (hp_get (κ := 10) (by decide)) rfl rfl (Nat.le_of_ble_eq_true rfl) (c_mFree hg h.send) (by simp) (by simp) ?_
      cases hb : ml_over S g
      · first
        | (exfalso; revert hb; simp [ml_over, hc41, hc61, hc71, hc116]; done)
        | (refine x_heq (S2 := ml_stE S g) (by unfold ml_stE; rw [if_neg (by rw [hb]; decide)]) ?_; exact l_mStT hg (stE_MI h).1)
      · first
        | (exfalso; revert hb; simp [ml_over, hc41, hc61, hc71, hc116]; done)
        | (refine x_heq (S2 := ml_stE S g) (by unfold ml_stE; rw [if_pos hb]) ?_; exact l_mStT hg (stE_MI h).1)
set_option maxRecDepth 100000 in
set_option maxHeartbeats 400000 in
theorem c_mSt {X : XS} {d : Nat} {S : St} {g : Nat} (hg : g < 3) (h : MI S g) : Call X mX10_serverTick false (d + 4) [.ref (ad 10 0), .int (nI g)] (hp S) (.inl none, hp (ml_st S g), 0, 0) := by
  refine Call.of fX10_serverTick (by decide) rfl (by simp [Value.category]) (Nat.le_of_ble_eq_true rfl) (lv := [some (.ref (ad 10 0)), some (.int (nI g)), none, none]) rfl ?_
  refine x_aload_n dX10_serverTick_0 rfl ?_
  refine x_get dX10_serverTick_1 fl_RX10_104 (hp_get (κ := 10) (by decide)) rfl ?_
  refine x_iload_n dX10_serverTick_4 rfl ?_
  refine y_ialdM (f := 35) (κ := 65) dX10_serverTick_5 am_35 rfl (by first | omega | exact sl16_lt _ | assumption) (by decide) ?_
  refine x_if_ge (tgt := 10) dX10_serverTick_6 (by decide) (fun hc6 => ?_) (fun hc6 => ?_)
  · refine x_aload_n dX10_serverTick_10 rfl ?_
    refine x_get dX10_serverTick_11 fl_RX10_113 (hp_get (κ := 10) (by decide)) rfl ?_
    refine x_iload_n dX10_serverTick_14 rfl ?_
    refine y_ialdM (f := 38) (κ := 68) dX10_serverTick_15 am_38 rfl (by first | omega | exact sl16_lt _ | assumption) (by decide) ?_
    refine x_if_ge (tgt := 28) dX10_serverTick_16 (by decide) (fun hc16 => ?_) (fun hc16 => ?_)
    · refine x_aload_n dX10_serverTick_28 rfl ?_
      refine x_get dX10_serverTick_29 fl_RX10_113 (hp_get (κ := 10) (by decide)) rfl ?_
      refine x_iload_n dX10_serverTick_32 rfl ?_
      refine y_ialdM (f := 38) (κ := 68) dX10_serverTick_33 am_38 rfl (by first | omega | exact sl16_lt _ | assumption) (by decide) ?_
      refine x_eqi (y := ml_last S g) (by simp [ml_last, hc6, hc16]) ?_
      refine x_istore_n (lv' := [_, _, _, _]) dX10_serverTick_34 (by decide) rfl ?_
      unfold ml_st
      rw [if_pos hc6]
      exact l_mStE hg h
    · refine x_aload_n dX10_serverTick_19 rfl ?_
      refine x_get dX10_serverTick_20 fl_RX10_110 (hp_get (κ := 10) (by decide)) rfl ?_
      refine x_iload_n dX10_serverTick_23 rfl ?_
      refine y_ialdM (f := 37) (κ := 67) dX10_serverTick_24 am_37 rfl (by first | omega | exact sl16_lt _ | assumption) (by decide) ?_
      refine x_goto (tgt := 34) dX10_serverTick_25 (by decide) ?_
      refine x_eqi (y := ml_last S g) (by simp [ml_last, hc6, hc16]) ?_
      refine x_istore_n (lv' := [_, _, _, _]) dX10_serverTick_34 (by decide) rfl ?_
      unfold ml_st
      rw [if_pos hc6]
      exact l_mStE hg h
  · exact x_rV dX10_serverTick_9 rfl rfl (by unfold ml_st; rw [if_neg hc6]) (by simp) (by simp)
