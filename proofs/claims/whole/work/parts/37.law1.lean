/-! the law: one call each -/
section LW
variable {X : XS} {M N : Mt} {al : Bool} {d pc k n : Nat} {lv : List (Option Value)} {st as : List Value} {h h1 : MH} {r : Rs}
theorem y_sld {u : UInt32} {j : Nat} (hd : decode (Mc M) pc = .ok (.iaload, 1)) (hj : j < X.1) (hX : X.1 ≤ 384) (kk : Ex X M al d (pc + 1) lv (.int (X.2 j) :: st) h k n r) : Ex X M al d pc lv (.int (nI j) :: .float u :: st) h k n r := by
  refine x_sld hd (vp_in_nI hj (by omega)) ?_
  rw [nI_clamp (by omega)]
  exact kk
theorem x_cSH {v : Value} {np idx : Nat} (hd : decode (Mc M) pc = .ok (.invokestatic idx, 3)) (hN : MF N np) (hm : ¬ Mh N = []) (hlk : LKS M.1.cls idx N) (hnp : as.length = np) (hrs : (st.map fun v => v.category).sum ≤ 8)
    (hC : Call X N false d as h (.inl (some v), h1, 1, 6)) (hk : k + 1 ≤ r.2.2.1) (hn : n + 6 ≤ r.2.2.2) (kk : Ex X M false (d + 1) (pc + 3) lv (v :: st) h1 (k + 1) (n + 6) r) : Ex X M false (d + 1) pc lv (as.reverse ++ st) h k n r :=
  x_invSH hd hN hm hlk hnp hrs hC rfl (fun z => by cases z) hk hn kk
end LW
abbrev LVw (i : Nat) (x5 x6 : Option Value) : List (Option Value) := [some (.float 0), some (.ref (ad 9 0)), some (.ref (ad 10 0)), some (.ref (ad 26 0)), some (.int (nI i)), x5, x6]
def StA (RR : St → Prop) (X : XS) (S : St) (L M : Mt) (as : List Value) : Prop := ∃ (kk : Int32) (S1 S2 : St), Call X L false 12 (.ref (ad 9 0) :: as) (hp S) (.inl (some (.int kk)), hp S1, 1, 6) ∧ Call X M false 12 (.ref (ad 10 0) :: as) (hp S1) (.inl none, hp S2, 0, 0) ∧ S2.2.2.1 0 0 = kk ∧ RR S2
def StB (RR : St → Prop) (X : XS) (S : St) (L M : Mt) (as : List Value) : Prop := ∃ (kk v : Int32) (S1 S2 : St), Call X L false 12 (.ref (ad 9 0) :: (as ++ [.ref (ad 26 0)])) (hp S) (.inl (some (.int kk)), hp S1, 1, 6) ∧ Call X M false 12 (.ref (ad 10 0) :: as) (hp S1) (.inl (some (.int v)), hp S2, 0, 0) ∧ S2.2.2.1 0 0 = kk ∧ (kk = 0 → S2.2.2.2 = v.toInt64) ∧ RR S2
def StZ (RR : St → Prop) (X : XS) (S : St) (L M : Mt) (as : List Value) : Prop := ∃ (kk : Int32) (v : Bool) (S1 S2 : St), Call X L false 12 (.ref (ad 9 0) :: (as ++ [.ref (ad 26 0)])) (hp S) (.inl (some (.int kk)), hp S1, 1, 6) ∧ Call X M false 12 (.ref (ad 10 0) :: as) (hp S1) (.inl (some (.int (bI v))), hp S2, 0, 0) ∧ S2.2.2.1 0 0 = kk ∧ (kk = 0 → S2.2.2.2 = if v = true then 1 else 0) ∧ RR S2
def StC (RR : St → Prop) (X : XS) (S : St) (L M : Mt) : Prop := ∃ (v : Int32) (S1 S2 : St), Call X L false 12 [.ref (ad 9 0)] (hp S) (.inl (some (.int v)), hp S1, 0, 0) ∧ Call X M false 12 [.ref (ad 10 0)] (hp S1) (.inl (some (.int v)), hp S2, 0, 0) ∧ RR S2
def Kt (RR : St → Prop) (X : XS) (i k n MC MS : Nat) : Prop := ∀ S x5 x6 k' n', k' ≤ k + 1 → n' ≤ n + 6 → RR S → ∃ S', Ex X mL_law false 13 1194 (LVw i x5 x6) [] (hp S) k' n' (.inl (some (.int 1)), hp S', MC, MS)
set_option maxRecDepth 100000 in
set_option maxHeartbeats 400000 in
theorem w_rules {RR : St → Prop} {X : XS} {i k n MC MS : Nat} {S : St} {x5 x6 : Option Value} (hi : i + 5 < X.1) (hX : X.1 ≤ 384) (hk : k + 1 ≤ MC) (hn : n + 6 ≤ MS) (hS : StA RR X S mL_rules mX10_rules [.int (X.2 (i + 1)), .int (bI (decide (¬ X.2 (i + 2) = 0))), .int (X.2 (i + 3)), .int (X.2 (i + 4)), .int (X.2 (i + 5))]) (hK : Kt RR X i k n MC MS) : ∃ S', Ex X mL_law false 13 132 (LVw i x5 x6) [] (hp S) k n (.inl (some (.int 1)), hp S', MC, MS) := by
  obtain ⟨kk, S1, S2, hL, hM, he, hR⟩ := hS
  obtain ⟨S', hE⟩ := hK S2 (some (.int kk)) x6 (k + 1) (n + 6) (by omega) (by omega) hR
  refine ⟨S', ?_⟩
  refine x_aload_n dL_law_132 rfl ?_
  refine x_aload_ns dL_law_133 rfl ?_
  refine x_iload dL_law_134 rfl ?_
  refine x_iconst (v := 1) dL_law_136 (by decide) ?_
  refine x_iadd dL_law_137 ?_
  refine x_eqi (nIp_1 _) ?_
  refine y_sld dL_law_138 (show _ < X.1 by omega) hX ?_
  refine x_aload_ns dL_law_139 rfl ?_
  refine x_iload dL_law_140 rfl ?_
  refine x_iconst (v := 2) dL_law_142 (by decide) ?_
  refine x_iadd dL_law_143 ?_
  refine x_eqi (nIp_2 _) ?_
  refine y_sld dL_law_144 (show _ < X.1 by omega) hX ?_
  refine x_if_eq (tgt := 152) dL_law_145 (by decide) (fun hc145 => ?_) (fun hc145 => ?_)
  · refine x_iconst (v := 0) dL_law_152 (by decide) ?_
    refine x_eqi (y := bI (decide (¬ X.2 (i + 2) = 0))) (by simp [bI, hc145]) ?_
    refine x_aload_ns dL_law_153 rfl ?_
    refine x_iload dL_law_154 rfl ?_
    refine x_iconst (v := 3) dL_law_156 (by decide) ?_
    refine x_iadd dL_law_157 ?_
    refine x_eqi (nIp_3 _) ?_
    refine y_sld dL_law_158 (show _ < X.1 by omega) hX ?_
    refine x_aload_ns dL_law_159 rfl ?_
    refine x_iload dL_law_160 rfl ?_
    refine x_iconst (v := 4) dL_law_162 (by decide) ?_
    refine x_iadd dL_law_163 ?_
    refine x_eqi (nIp_4 _) ?_
    refine y_sld dL_law_164 (show _ < X.1 by omega) hX ?_
    refine x_aload_ns dL_law_165 rfl ?_
    refine x_iload dL_law_166 rfl ?_
    refine x_iconst (v := 5) dL_law_168 (by decide) ?_
    refine x_iadd dL_law_169 ?_
    refine x_eqi (nIp_5 _) ?_
    refine y_sld dL_law_170 (show _ < X.1 by omega) hX ?_
    refine x_cSH (as := [_, _, _, _, _, _]) dL_law_171 fL_rules (by decide) lk_RL_80 rfl (Nat.le_of_ble_eq_true rfl) (hL) hk hn ?_
    refine x_istore (lv' := [_, _, _, _, _, _, _]) dL_law_174 (by decide) rfl ?_
    refine x_aload_n dL_law_176 rfl ?_
    refine x_aload_ns dL_law_177 rfl ?_
    refine x_iload dL_law_178 rfl ?_
    refine x_iconst (v := 1) dL_law_180 (by decide) ?_
    refine x_iadd dL_law_181 ?_
    refine x_eqi (nIp_1 _) ?_
    refine y_sld dL_law_182 (show _ < X.1 by omega) hX ?_
    refine x_aload_ns dL_law_183 rfl ?_
    refine x_iload dL_law_184 rfl ?_
    refine x_iconst (v := 2) dL_law_186 (by decide) ?_
    refine x_iadd dL_law_187 ?_
    refine x_eqi (nIp_2 _) ?_
    refine y_sld dL_law_188 (show _ < X.1 by omega) hX ?_
    refine x_if_eq (tgt := 196) dL_law_189 (by decide) (fun hc189 => ?_) (fun hc189 => ?_)
    · refine x_iconst (v := 0) dL_law_196 (by decide) ?_
      refine x_eqi (y := bI (decide (¬ X.2 (i + 2) = 0))) (by simp [bI, hc189]) ?_
      refine x_aload_ns dL_law_197 rfl ?_
      refine x_iload dL_law_198 rfl ?_
      refine x_iconst (v := 3) dL_law_200 (by decide) ?_
      refine x_iadd dL_law_201 ?_
      refine x_eqi (nIp_3 _) ?_
      refine y_sld dL_law_202 (show _ < X.1 by omega) hX ?_
      refine x_aload_ns dL_law_203 rfl ?_
      refine x_iload dL_law_204 rfl ?_
      refine x_iconst (v := 4) dL_law_206 (by decide) ?_
      refine x_iadd dL_law_207 ?_
      refine x_eqi (nIp_4 _) ?_
      refine y_sld dL_law_208 (show _ < X.1 by omega) hX ?_
      refine x_aload_ns dL_law_209 rfl ?_
      refine x_iload dL_law_210 rfl ?_
      refine x_iconst (v := 5) dL_law_212 (by decide) ?_
      refine x_iadd dL_law_213 ?_
      refine x_eqi (nIp_5 _) ?_
      refine y_sld dL_law_214 (show _ < X.1 by omega) hX ?_
      refine x_cVv (as := [_, _, _, _, _]) dL_law_215 fX10_rules rfl lk_RL_85 rfl (hp_get (κ := 10) (by decide)) rfl rfl (Nat.le_of_ble_eq_true rfl) (hM) (show k + 1 ≤ MC by omega) (show n + 6 ≤ MS by omega) ?_
      refine x_aload_n dL_law_218 rfl ?_
      refine x_cV (as := []) dL_law_219 fX10_thrown rfl lk_RL_86 rfl (hp_get (κ := 10) (by decide)) rfl rfl (Nat.le_of_ble_eq_true rfl) (j_thrown) (show k + 1 ≤ MC by omega) (show n + 6 ≤ MS by omega) ?_
      refine x_iload dL_law_222 rfl ?_
      refine x_icmp_eq (tgt := 229) dL_law_224 (by decide) (fun hc224 => ?_) (fun hc224 => by first | exact absurd he hc224 | exact absurd hc224 he)
      refine x_goto (tgt := 1194) dL_law_229 (by decide) ?_
      exact hE
    · refine x_iconst (v := 1) dL_law_192 (by decide) ?_
      refine x_goto (tgt := 197) dL_law_193 (by decide) ?_
      refine x_eqi (y := bI (decide (¬ X.2 (i + 2) = 0))) (by simp [bI, hc189]) ?_
      refine x_aload_ns dL_law_197 rfl ?_
      refine x_iload dL_law_198 rfl ?_
      refine x_iconst (v := 3) dL_law_200 (by decide) ?_
      refine x_iadd dL_law_201 ?_
      refine x_eqi (nIp_3 _) ?_
      refine y_sld dL_law_202 (show _ < X.1 by omega) hX ?_
      refine x_aload_ns dL_law_203 rfl ?_
      refine x_iload dL_law_204 rfl ?_
      refine x_iconst (v := 4) dL_law_206 (by decide) ?_
      refine x_iadd dL_law_207 ?_
      refine x_eqi (nIp_4 _) ?_
      refine y_sld dL_law_208 (show _ < X.1 by omega) hX ?_
      refine x_aload_ns dL_law_209 rfl ?_
      refine x_iload dL_law_210 rfl ?_
      refine x_iconst (v := 5) dL_law_212 (by decide) ?_
      refine x_iadd dL_law_213 ?_
      refine x_eqi (nIp_5 _) ?_
      refine y_sld dL_law_214 (show _ < X.1 by omega) hX ?_
      refine x_cVv (as := [_, _, _, _, _]) dL_law_215 fX10_rules rfl lk_RL_85 rfl (hp_get (κ := 10) (by decide)) rfl rfl (Nat.le_of_ble_eq_true rfl) (hM) (show k + 1 ≤ MC by omega) (show n + 6 ≤ MS by omega) ?_
      refine x_aload_n dL_law_218 rfl ?_
      refine x_cV (as := []) dL_law_219 fX10_thrown rfl lk_RL_86 rfl (hp_get (κ := 10) (by decide)) rfl rfl (Nat.le_of_ble_eq_true rfl) (j_thrown) (show k + 1 ≤ MC by omega) (show n + 6 ≤ MS by omega) ?_
      refine x_iload dL_law_222 rfl ?_
      refine x_icmp_eq (tgt := 229) dL_law_224 (by decide) (fun hc224 => ?_) (fun hc224 => by first | exact absurd he hc224 | exact absurd hc224 he)
      refine x_goto (tgt := 1194) dL_law_229 (by decide) ?_
      exact hE
  · refine x_iconst (v := 1) dL_law_148 (by decide) ?_
    refine x_goto (tgt := 153) dL_law_149 (by decide) ?_
    refine x_eqi (y := bI (decide (¬ X.2 (i + 2) = 0))) (by simp [bI, hc145]) ?_
    refine x_aload_ns dL_law_153 rfl ?_
    refine x_iload dL_law_154 rfl ?_
    refine x_iconst (v := 3) dL_law_156 (by decide) ?_
    refine x_iadd dL_law_157 ?_
    refine x_eqi (nIp_3 _) ?_
    refine y_sld dL_law_158 (show _ < X.1 by omega) hX ?_
    refine x_aload_ns dL_law_159 rfl ?_
    refine x_iload dL_law_160 rfl ?_
    refine x_iconst (v := 4) dL_law_162 (by decide) ?_
    refine x_iadd dL_law_163 ?_
    refine x_eqi (nIp_4 _) ?_
    refine y_sld dL_law_164 (show _ < X.1 by omega) hX ?_
    refine x_aload_ns dL_law_165 rfl ?_
    refine x_iload dL_law_166 rfl ?_
    refine x_iconst (v := 5) dL_law_168 (by decide) ?_
    refine x_iadd dL_law_169 ?_
    refine x_eqi (nIp_5 _) ?_
    refine y_sld dL_law_170 (show _ < X.1 by omega) hX ?_
    refine x_cSH (as := [_, _, _, _, _, _]) dL_law_171 fL_rules (by decide) lk_RL_80 rfl (Nat.le_of_ble_eq_true rfl) (hL) hk hn ?_
    refine x_istore (lv' := [_, _, _, _, _, _, _]) dL_law_174 (by decide) rfl ?_
    refine x_aload_n dL_law_176 rfl ?_
    refine x_aload_ns dL_law_177 rfl ?_
    refine x_iload dL_law_178 rfl ?_
    refine x_iconst (v := 1) dL_law_180 (by decide) ?_
    refine x_iadd dL_law_181 ?_
    refine x_eqi (nIp_1 _) ?_
    refine y_sld dL_law_182 (show _ < X.1 by omega) hX ?_
    refine x_aload_ns dL_law_183 rfl ?_
    refine x_iload dL_law_184 rfl ?_
    refine x_iconst (v := 2) dL_law_186 (by decide) ?_
    refine x_iadd dL_law_187 ?_
    refine x_eqi (nIp_2 _) ?_
    refine y_sld dL_law_188 (show _ < X.1 by omega) hX ?_
    refine x_if_eq (tgt := 196) dL_law_189 (by decide) (fun hc189 => ?_) (fun hc189 => ?_)
    · refine x_iconst (v := 0) dL_law_196 (by decide) ?_
      refine x_eqi (y := bI (decide (¬ X.2 (i + 2) = 0))) (by simp [bI, hc189]) ?_
      refine x_aload_ns dL_law_197 rfl ?_
      refine x_iload dL_law_198 rfl ?_
      refine x_iconst (v := 3) dL_law_200 (by decide) ?_
      refine x_iadd dL_law_201 ?_
      refine x_eqi (nIp_3 _) ?_
      refine y_sld dL_law_202 (show _ < X.1 by omega) hX ?_
      refine x_aload_ns dL_law_203 rfl ?_
      refine x_iload dL_law_204 rfl ?_
      refine x_iconst (v := 4) dL_law_206 (by decide) ?_
      refine x_iadd dL_law_207 ?_
      refine x_eqi (nIp_4 _) ?_
      refine y_sld dL_law_208 (show _ < X.1 by omega) hX ?_
      refine x_aload_ns dL_law_209 rfl ?_
      refine x_iload dL_law_210 rfl ?_
      refine x_iconst (v := 5) dL_law_212 (by decide) ?_
      refine x_iadd dL_law_213 ?_
      refine x_eqi (nIp_5 _) ?_
      refine y_sld dL_law_214 (show _ < X.1 by omega) hX ?_
      refine x_cVv (as := [_, _, _, _, _]) dL_law_215 fX10_rules rfl lk_RL_85 rfl (hp_get (κ := 10) (by decide)) rfl rfl (Nat.le_of_ble_eq_true rfl) (hM) (show k + 1 ≤ MC by omega) (show n + 6 ≤ MS by omega) ?_
      refine x_aload_n dL_law_218 rfl ?_
      refine x_cV (as := []) dL_law_219 fX10_thrown rfl lk_RL_86 rfl (hp_get (κ := 10) (by decide)) rfl rfl (Nat.le_of_ble_eq_true rfl) (j_thrown) (show k + 1 ≤ MC by omega) (show n + 6 ≤ MS by omega) ?_
      refine x_iload dL_law_222 rfl ?_
      refine x_icmp_eq (tgt := 229) dL_law_224 (by decide) (fun hc224 => ?_) (fun hc224 => by first | exact absurd he hc224 | exact absurd hc224 he)
      refine x_goto (tgt := 1194) dL_law_229 (by decide) ?_
      exact hE
    · refine x_iconst (v := 1) dL_law_192 (by decide) ?_
      refine x_goto (tgt := 197) dL_law_193 (by decide) ?_
      refine x_eqi (y := bI (decide (¬ X.2 (i + 2) = 0))) (by simp [bI, hc189]) ?_
      refine x_aload_ns dL_law_197 rfl ?_
      refine x_iload dL_law_198 rfl ?_
      refine x_iconst (v := 3) dL_law_200 (by decide) ?_
      refine x_iadd dL_law_201 ?_
      refine x_eqi (nIp_3 _) ?_
      refine y_sld dL_law_202 (show _ < X.1 by omega) hX ?_
      refine x_aload_ns dL_law_203 rfl ?_
      refine x_iload dL_law_204 rfl ?_
      refine x_iconst (v := 4) dL_law_206 (by decide) ?_
      refine x_iadd dL_law_207 ?_
      refine x_eqi (nIp_4 _) ?_
      refine y_sld dL_law_208 (show _ < X.1 by omega) hX ?_
      refine x_aload_ns dL_law_209 rfl ?_
      refine x_iload dL_law_210 rfl ?_
      refine x_iconst (v := 5) dL_law_212 (by decide) ?_
      refine x_iadd dL_law_213 ?_
      refine x_eqi (nIp_5 _) ?_
      refine y_sld dL_law_214 (show _ < X.1 by omega) hX ?_
      refine x_cVv (as := [_, _, _, _, _]) dL_law_215 fX10_rules rfl lk_RL_85 rfl (hp_get (κ := 10) (by decide)) rfl rfl (Nat.le_of_ble_eq_true rfl) (hM) (show k + 1 ≤ MC by omega) (show n + 6 ≤ MS by omega) ?_
      refine x_aload_n dL_law_218 rfl ?_
      refine x_cV (as := []) dL_law_219 fX10_thrown rfl lk_RL_86 rfl (hp_get (κ := 10) (by decide)) rfl rfl (Nat.le_of_ble_eq_true rfl) (j_thrown) (show k + 1 ≤ MC by omega) (show n + 6 ≤ MS by omega) ?_
      refine x_iload dL_law_222 rfl ?_
      refine x_icmp_eq (tgt := 229) dL_law_224 (by decide) (fun hc224 => ?_) (fun hc224 => by first | exact absurd he hc224 | exact absurd hc224 he)
      refine x_goto (tgt := 1194) dL_law_229 (by decide) ?_
      exact hE
set_option maxRecDepth 100000 in
set_option maxHeartbeats 400000 in
theorem w_member {RR : St → Prop} {X : XS} {i k n MC MS : Nat} {S : St} {x5 x6 : Option Value} (hi : i + 5 < X.1) (hX : X.1 ≤ 384) (hk : k + 1 ≤ MC) (hn : n + 6 ≤ MS) (hS : StA RR X S mL_member mX10_member [.int (X.2 (i + 1)), .int (X.2 (i + 2)), .int (X.2 (i + 3))]) (hK : Kt RR X i k n MC MS) : ∃ S', Ex X mL_law false 13 232 (LVw i x5 x6) [] (hp S) k n (.inl (some (.int 1)), hp S', MC, MS) := by
  obtain ⟨kk, S1, S2, hL, hM, he, hR⟩ := hS
  obtain ⟨S', hE⟩ := hK S2 (some (.int kk)) x6 (k + 1) (n + 6) (by omega) (by omega) hR
  refine ⟨S', ?_⟩
  refine x_aload_n dL_law_232 rfl ?_
  refine x_aload_ns dL_law_233 rfl ?_
  refine x_iload dL_law_234 rfl ?_
  refine x_iconst (v := 1) dL_law_236 (by decide) ?_
  refine x_iadd dL_law_237 ?_
  refine x_eqi (nIp_1 _) ?_
  refine y_sld dL_law_238 (show _ < X.1 by omega) hX ?_
  refine x_aload_ns dL_law_239 rfl ?_
  refine x_iload dL_law_240 rfl ?_
  refine x_iconst (v := 2) dL_law_242 (by decide) ?_
  refine x_iadd dL_law_243 ?_
  refine x_eqi (nIp_2 _) ?_
  refine y_sld dL_law_244 (show _ < X.1 by omega) hX ?_
  refine x_aload_ns dL_law_245 rfl ?_
  refine x_iload dL_law_246 rfl ?_
  refine x_iconst (v := 3) dL_law_248 (by decide) ?_
  refine x_iadd dL_law_249 ?_
  refine x_eqi (nIp_3 _) ?_
  refine y_sld dL_law_250 (show _ < X.1 by omega) hX ?_
  refine x_cSH (as := [_, _, _, _]) dL_law_251 fL_member (by decide) lk_RL_90 rfl (Nat.le_of_ble_eq_true rfl) (hL) hk hn ?_
  refine x_istore (lv' := [_, _, _, _, _, _, _]) dL_law_254 (by decide) rfl ?_
  refine x_aload_n dL_law_256 rfl ?_
  refine x_aload_ns dL_law_257 rfl ?_
  refine x_iload dL_law_258 rfl ?_
  refine x_iconst (v := 1) dL_law_260 (by decide) ?_
  refine x_iadd dL_law_261 ?_
  refine x_eqi (nIp_1 _) ?_
  refine y_sld dL_law_262 (show _ < X.1 by omega) hX ?_
  refine x_aload_ns dL_law_263 rfl ?_
  refine x_iload dL_law_264 rfl ?_
  refine x_iconst (v := 2) dL_law_266 (by decide) ?_
  refine x_iadd dL_law_267 ?_
  refine x_eqi (nIp_2 _) ?_
  refine y_sld dL_law_268 (show _ < X.1 by omega) hX ?_
  refine x_aload_ns dL_law_269 rfl ?_
  refine x_iload dL_law_270 rfl ?_
  refine x_iconst (v := 3) dL_law_272 (by decide) ?_
  refine x_iadd dL_law_273 ?_
  refine x_eqi (nIp_3 _) ?_
  refine y_sld dL_law_274 (show _ < X.1 by omega) hX ?_
  refine x_cVv (as := [_, _, _]) dL_law_275 fX10_member rfl lk_RL_93 rfl (hp_get (κ := 10) (by decide)) rfl rfl (Nat.le_of_ble_eq_true rfl) (hM) (show k + 1 ≤ MC by omega) (show n + 6 ≤ MS by omega) ?_
  refine x_aload_n dL_law_278 rfl ?_
  refine x_cV (as := []) dL_law_279 fX10_thrown rfl lk_RL_86 rfl (hp_get (κ := 10) (by decide)) rfl rfl (Nat.le_of_ble_eq_true rfl) (j_thrown) (show k + 1 ≤ MC by omega) (show n + 6 ≤ MS by omega) ?_
  refine x_iload dL_law_282 rfl ?_
  refine x_icmp_eq (tgt := 289) dL_law_284 (by decide) (fun hc284 => ?_) (fun hc284 => by first | exact absurd he hc284 | exact absurd hc284 he)
  refine x_goto (tgt := 1194) dL_law_289 (by decide) ?_
  exact hE
set_option maxRecDepth 100000 in
set_option maxHeartbeats 400000 in
theorem w_leave {RR : St → Prop} {X : XS} {i k n MC MS : Nat} {S : St} {x5 x6 : Option Value} (hi : i + 5 < X.1) (hX : X.1 ≤ 384) (hk : k + 1 ≤ MC) (hn : n + 6 ≤ MS) (hS : StZ RR X S mL_leave mX10_leave [.int (X.2 (i + 1)), .int (X.2 (i + 2))]) (hK : Kt RR X i k n MC MS) : ∃ S', Ex X mL_law false 13 292 (LVw i x5 x6) [] (hp S) k n (.inl (some (.int 1)), hp S', MC, MS) := by
  obtain ⟨kk, v, S1, S2, hL, hM, he, hv, hR⟩ := hS
  obtain ⟨S', hE⟩ := hK S2 (some (.int kk)) (some (.int (bI v))) (k + 1) (n + 6) (by omega) (by omega) hR
  refine ⟨S', ?_⟩
  refine x_aload_n dL_law_292 rfl ?_
  refine x_aload_ns dL_law_293 rfl ?_
  refine x_iload dL_law_294 rfl ?_
  refine x_iconst (v := 1) dL_law_296 (by decide) ?_
  refine x_iadd dL_law_297 ?_
  refine x_eqi (nIp_1 _) ?_
  refine y_sld dL_law_298 (show _ < X.1 by omega) hX ?_
  refine x_aload_ns dL_law_299 rfl ?_
  refine x_iload dL_law_300 rfl ?_
  refine x_iconst (v := 2) dL_law_302 (by decide) ?_
  refine x_iadd dL_law_303 ?_
  refine x_eqi (nIp_2 _) ?_
  refine y_sld dL_law_304 (show _ < X.1 by omega) hX ?_
  refine x_aload_n dL_law_305 rfl ?_
  refine x_cSH (as := [_, _, _, _]) dL_law_306 fL_leave (by decide) lk_RL_94 rfl (Nat.le_of_ble_eq_true rfl) (hL) hk hn ?_
  refine x_istore (lv' := [_, _, _, _, _, _, _]) dL_law_309 (by decide) rfl ?_
  refine x_aload_n dL_law_311 rfl ?_
  refine x_aload_ns dL_law_312 rfl ?_
  refine x_iload dL_law_313 rfl ?_
  refine x_iconst (v := 1) dL_law_315 (by decide) ?_
  refine x_iadd dL_law_316 ?_
  refine x_eqi (nIp_1 _) ?_
  refine y_sld dL_law_317 (show _ < X.1 by omega) hX ?_
  refine x_aload_ns dL_law_318 rfl ?_
  refine x_iload dL_law_319 rfl ?_
  refine x_iconst (v := 2) dL_law_321 (by decide) ?_
  refine x_iadd dL_law_322 ?_
  refine x_eqi (nIp_2 _) ?_
  refine y_sld dL_law_323 (show _ < X.1 by omega) hX ?_
  refine x_cV (as := [_, _]) dL_law_324 fX10_leave rfl lk_RL_97 rfl (hp_get (κ := 10) (by decide)) rfl rfl (Nat.le_of_ble_eq_true rfl) (hM) (show k + 1 ≤ MC by omega) (show n + 6 ≤ MS by omega) ?_
  refine x_istore (lv' := [_, _, _, _, _, _, _]) dL_law_327 (by decide) rfl ?_
  refine x_aload_n dL_law_329 rfl ?_
  refine x_cV (as := []) dL_law_330 fX10_thrown rfl lk_RL_86 rfl (hp_get (κ := 10) (by decide)) rfl rfl (Nat.le_of_ble_eq_true rfl) (j_thrown) (show k + 1 ≤ MC by omega) (show n + 6 ≤ MS by omega) ?_
  refine x_iload dL_law_333 rfl ?_
  refine x_icmp_eq (tgt := 340) dL_law_335 (by decide) (fun hc335 => ?_) (fun hc335 => by first | exact absurd he hc335 | exact absurd hc335 he)
  refine x_iload dL_law_340 rfl ?_
  refine x_if_ne (tgt := 364) dL_law_342 (by decide) (fun hc342 => ?_) (fun hc342 => ?_)
  · refine x_goto (tgt := 1194) dL_law_364 (by decide) ?_
    exact hE
  · refine x_aload_n dL_law_345 rfl ?_
    refine x_iconst (v := 0) dL_law_346 (by decide) ?_
    refine x_laldO dL_law_347 ?_
    refine x_iload dL_law_348 rfl ?_
    refine x_if_eqB (tgt := 357) dL_law_350 (by decide) (fun hc350 => ?_) (fun hc350 => ?_)
    · refine x_lconst (v := 0) dL_law_357 (by decide) ?_
      refine x_lcmp dL_law_358 ?_
      refine x_if_eq (tgt := 364) dL_law_359 (by decide) (fun hc359 => ?_) (fun hc359 => by first | exact absurd (lgc0.mpr (by rw [hv hc342, hc350]; rfl)) hc359 | exact absurd hc359 (lgc0.mpr (by rw [hv hc342, hc350]; rfl)))
      refine x_goto (tgt := 1194) dL_law_364 (by decide) ?_
      exact hE
    · refine x_lconst (v := 1) dL_law_353 (by decide) ?_
      refine x_goto (tgt := 358) dL_law_354 (by decide) ?_
      refine x_lcmp dL_law_358 ?_
      refine x_if_eq (tgt := 364) dL_law_359 (by decide) (fun hc359 => ?_) (fun hc359 => by first | exact absurd (lgc0.mpr (by rw [hv hc342, hc350]; rfl)) hc359 | exact absurd hc359 (lgc0.mpr (by rw [hv hc342, hc350]; rfl)))
      refine x_goto (tgt := 1194) dL_law_364 (by decide) ?_
      exact hE
set_option maxRecDepth 100000 in
set_option maxHeartbeats 400000 in
theorem w_press {RR : St → Prop} {X : XS} {i k n MC MS : Nat} {S : St} {x5 x6 : Option Value} (hi : i + 5 < X.1) (hX : X.1 ≤ 384) (hk : k + 1 ≤ MC) (hn : n + 6 ≤ MS) (hS : StB RR X S mL_press mX10_press [.int (X.2 (i + 1)), .int (X.2 (i + 2)), .int (bI (decide (¬ X.2 (i + 3) = 0)))]) (hK : Kt RR X i k n MC MS) : ∃ S', Ex X mL_law false 13 367 (LVw i x5 x6) [] (hp S) k n (.inl (some (.int 1)), hp S', MC, MS) := by
  obtain ⟨kk, v, S1, S2, hL, hM, he, hv, hR⟩ := hS
  obtain ⟨S', hE⟩ := hK S2 (some (.int kk)) (some (.int v)) (k + 1) (n + 6) (by omega) (by omega) hR
  refine ⟨S', ?_⟩
  refine x_aload_n dL_law_367 rfl ?_
  refine x_aload_ns dL_law_368 rfl ?_
  refine x_iload dL_law_369 rfl ?_
  refine x_iconst (v := 1) dL_law_371 (by decide) ?_
  refine x_iadd dL_law_372 ?_
  refine x_eqi (nIp_1 _) ?_
  refine y_sld dL_law_373 (show _ < X.1 by omega) hX ?_
  refine x_aload_ns dL_law_374 rfl ?_
  refine x_iload dL_law_375 rfl ?_
  refine x_iconst (v := 2) dL_law_377 (by decide) ?_
  refine x_iadd dL_law_378 ?_
  refine x_eqi (nIp_2 _) ?_
  refine y_sld dL_law_379 (show _ < X.1 by omega) hX ?_
  refine x_aload_ns dL_law_380 rfl ?_
  refine x_iload dL_law_381 rfl ?_
  refine x_iconst (v := 3) dL_law_383 (by decide) ?_
  refine x_iadd dL_law_384 ?_
  refine x_eqi (nIp_3 _) ?_
  refine y_sld dL_law_385 (show _ < X.1 by omega) hX ?_
  refine x_if_eq (tgt := 393) dL_law_386 (by decide) (fun hc386 => ?_) (fun hc386 => ?_)
  · refine x_iconst (v := 0) dL_law_393 (by decide) ?_
    refine x_eqi (y := bI (decide (¬ X.2 (i + 3) = 0))) (by simp [bI, hc386]) ?_
    refine x_aload_n dL_law_394 rfl ?_
    refine x_cSH (as := [_, _, _, _, _]) dL_law_395 fL_press (by decide) lk_RL_98 rfl (Nat.le_of_ble_eq_true rfl) (hL) hk hn ?_
    refine x_istore (lv' := [_, _, _, _, _, _, _]) dL_law_398 (by decide) rfl ?_
    refine x_aload_n dL_law_400 rfl ?_
    refine x_aload_ns dL_law_401 rfl ?_
    refine x_iload dL_law_402 rfl ?_
    refine x_iconst (v := 1) dL_law_404 (by decide) ?_
    refine x_iadd dL_law_405 ?_
    refine x_eqi (nIp_1 _) ?_
    refine y_sld dL_law_406 (show _ < X.1 by omega) hX ?_
    refine x_aload_ns dL_law_407 rfl ?_
    refine x_iload dL_law_408 rfl ?_
    refine x_iconst (v := 2) dL_law_410 (by decide) ?_
    refine x_iadd dL_law_411 ?_
    refine x_eqi (nIp_2 _) ?_
    refine y_sld dL_law_412 (show _ < X.1 by omega) hX ?_
    refine x_aload_ns dL_law_413 rfl ?_
    refine x_iload dL_law_414 rfl ?_
    refine x_iconst (v := 3) dL_law_416 (by decide) ?_
    refine x_iadd dL_law_417 ?_
    refine x_eqi (nIp_3 _) ?_
    refine y_sld dL_law_418 (show _ < X.1 by omega) hX ?_
    refine x_if_eq (tgt := 426) dL_law_419 (by decide) (fun hc419 => ?_) (fun hc419 => ?_)
    · refine x_iconst (v := 0) dL_law_426 (by decide) ?_
      refine x_eqi (y := bI (decide (¬ X.2 (i + 3) = 0))) (by simp [bI, hc419]) ?_
      refine x_cV (as := [_, _, _]) dL_law_427 fX10_press rfl lk_RL_101 rfl (hp_get (κ := 10) (by decide)) rfl rfl (Nat.le_of_ble_eq_true rfl) (hM) (show k + 1 ≤ MC by omega) (show n + 6 ≤ MS by omega) ?_
      refine x_istore (lv' := [_, _, _, _, _, _, _]) dL_law_430 (by decide) rfl ?_
      refine x_aload_n dL_law_432 rfl ?_
      refine x_cV (as := []) dL_law_433 fX10_thrown rfl lk_RL_86 rfl (hp_get (κ := 10) (by decide)) rfl rfl (Nat.le_of_ble_eq_true rfl) (j_thrown) (show k + 1 ≤ MC by omega) (show n + 6 ≤ MS by omega) ?_
      refine x_iload dL_law_436 rfl ?_
      refine x_icmp_eq (tgt := 443) dL_law_438 (by decide) (fun hc438 => ?_) (fun hc438 => by first | exact absurd he hc438 | exact absurd hc438 he)
      refine x_iload dL_law_443 rfl ?_
      refine x_if_ne (tgt := 460) dL_law_445 (by decide) (fun hc445 => ?_) (fun hc445 => ?_)
      · refine x_goto (tgt := 1194) dL_law_460 (by decide) ?_
        exact hE
      · refine x_aload_n dL_law_448 rfl ?_
        refine x_iconst (v := 0) dL_law_449 (by decide) ?_
        refine x_laldO dL_law_450 ?_
        refine x_iload dL_law_451 rfl ?_
        refine x_i2l dL_law_453 ?_
        refine x_lcmp dL_law_454 ?_
        refine x_if_eq (tgt := 460) dL_law_455 (by decide) (fun hc455 => ?_) (fun hc455 => by first | exact absurd (lgc0.mpr (hv hc445)) hc455 | exact absurd hc455 (lgc0.mpr (hv hc445)))
        refine x_goto (tgt := 1194) dL_law_460 (by decide) ?_
        exact hE
    · refine x_iconst (v := 1) dL_law_422 (by decide) ?_
      refine x_goto (tgt := 427) dL_law_423 (by decide) ?_
      refine x_eqi (y := bI (decide (¬ X.2 (i + 3) = 0))) (by simp [bI, hc419]) ?_
      refine x_cV (as := [_, _, _]) dL_law_427 fX10_press rfl lk_RL_101 rfl (hp_get (κ := 10) (by decide)) rfl rfl (Nat.le_of_ble_eq_true rfl) (hM) (show k + 1 ≤ MC by omega) (show n + 6 ≤ MS by omega) ?_
      refine x_istore (lv' := [_, _, _, _, _, _, _]) dL_law_430 (by decide) rfl ?_
      refine x_aload_n dL_law_432 rfl ?_
      refine x_cV (as := []) dL_law_433 fX10_thrown rfl lk_RL_86 rfl (hp_get (κ := 10) (by decide)) rfl rfl (Nat.le_of_ble_eq_true rfl) (j_thrown) (show k + 1 ≤ MC by omega) (show n + 6 ≤ MS by omega) ?_
      refine x_iload dL_law_436 rfl ?_
      refine x_icmp_eq (tgt := 443) dL_law_438 (by decide) (fun hc438 => ?_) (fun hc438 => by first | exact absurd he hc438 | exact absurd hc438 he)
      refine x_iload dL_law_443 rfl ?_
      refine x_if_ne (tgt := 460) dL_law_445 (by decide) (fun hc445 => ?_) (fun hc445 => ?_)
      · refine x_goto (tgt := 1194) dL_law_460 (by decide) ?_
        exact hE
      · refine x_aload_n dL_law_448 rfl ?_
        refine x_iconst (v := 0) dL_law_449 (by decide) ?_
        refine x_laldO dL_law_450 ?_
        refine x_iload dL_law_451 rfl ?_
        refine x_i2l dL_law_453 ?_
        refine x_lcmp dL_law_454 ?_
        refine x_if_eq (tgt := 460) dL_law_455 (by decide) (fun hc455 => ?_) (fun hc455 => by first | exact absurd (lgc0.mpr (hv hc445)) hc455 | exact absurd hc455 (lgc0.mpr (hv hc445)))
        refine x_goto (tgt := 1194) dL_law_460 (by decide) ?_
        exact hE
  · refine x_iconst (v := 1) dL_law_389 (by decide) ?_
    refine x_goto (tgt := 394) dL_law_390 (by decide) ?_
    refine x_eqi (y := bI (decide (¬ X.2 (i + 3) = 0))) (by simp [bI, hc386]) ?_
    refine x_aload_n dL_law_394 rfl ?_
    refine x_cSH (as := [_, _, _, _, _]) dL_law_395 fL_press (by decide) lk_RL_98 rfl (Nat.le_of_ble_eq_true rfl) (hL) hk hn ?_
    refine x_istore (lv' := [_, _, _, _, _, _, _]) dL_law_398 (by decide) rfl ?_
    refine x_aload_n dL_law_400 rfl ?_
    refine x_aload_ns dL_law_401 rfl ?_
    refine x_iload dL_law_402 rfl ?_
    refine x_iconst (v := 1) dL_law_404 (by decide) ?_
    refine x_iadd dL_law_405 ?_
    refine x_eqi (nIp_1 _) ?_
    refine y_sld dL_law_406 (show _ < X.1 by omega) hX ?_
    refine x_aload_ns dL_law_407 rfl ?_
    refine x_iload dL_law_408 rfl ?_
    refine x_iconst (v := 2) dL_law_410 (by decide) ?_
    refine x_iadd dL_law_411 ?_
    refine x_eqi (nIp_2 _) ?_
    refine y_sld dL_law_412 (show _ < X.1 by omega) hX ?_
    refine x_aload_ns dL_law_413 rfl ?_
    refine x_iload dL_law_414 rfl ?_
    refine x_iconst (v := 3) dL_law_416 (by decide) ?_
    refine x_iadd dL_law_417 ?_
    refine x_eqi (nIp_3 _) ?_
    refine y_sld dL_law_418 (show _ < X.1 by omega) hX ?_
    refine x_if_eq (tgt := 426) dL_law_419 (by decide) (fun hc419 => ?_) (fun hc419 => ?_)
    · refine x_iconst (v := 0) dL_law_426 (by decide) ?_
      refine x_eqi (y := bI (decide (¬ X.2 (i + 3) = 0))) (by simp [bI, hc419]) ?_
      refine x_cV (as := [_, _, _]) dL_law_427 fX10_press rfl lk_RL_101 rfl (hp_get (κ := 10) (by decide)) rfl rfl (Nat.le_of_ble_eq_true rfl) (hM) (show k + 1 ≤ MC by omega) (show n + 6 ≤ MS by omega) ?_
      refine x_istore (lv' := [_, _, _, _, _, _, _]) dL_law_430 (by decide) rfl ?_
      refine x_aload_n dL_law_432 rfl ?_
      refine x_cV (as := []) dL_law_433 fX10_thrown rfl lk_RL_86 rfl (hp_get (κ := 10) (by decide)) rfl rfl (Nat.le_of_ble_eq_true rfl) (j_thrown) (show k + 1 ≤ MC by omega) (show n + 6 ≤ MS by omega) ?_
      refine x_iload dL_law_436 rfl ?_
      refine x_icmp_eq (tgt := 443) dL_law_438 (by decide) (fun hc438 => ?_) (fun hc438 => by first | exact absurd he hc438 | exact absurd hc438 he)
      refine x_iload dL_law_443 rfl ?_
      refine x_if_ne (tgt := 460) dL_law_445 (by decide) (fun hc445 => ?_) (fun hc445 => ?_)
      · refine x_goto (tgt := 1194) dL_law_460 (by decide) ?_
        exact hE
      · refine x_aload_n dL_law_448 rfl ?_
        refine x_iconst (v := 0) dL_law_449 (by decide) ?_
        refine x_laldO dL_law_450 ?_
        refine x_iload dL_law_451 rfl ?_
        refine x_i2l dL_law_453 ?_
        refine x_lcmp dL_law_454 ?_
        refine x_if_eq (tgt := 460) dL_law_455 (by decide) (fun hc455 => ?_) (fun hc455 => by first | exact absurd (lgc0.mpr (hv hc445)) hc455 | exact absurd hc455 (lgc0.mpr (hv hc445)))
        refine x_goto (tgt := 1194) dL_law_460 (by decide) ?_
        exact hE
    · refine x_iconst (v := 1) dL_law_422 (by decide) ?_
      refine x_goto (tgt := 427) dL_law_423 (by decide) ?_
      refine x_eqi (y := bI (decide (¬ X.2 (i + 3) = 0))) (by simp [bI, hc419]) ?_
      refine x_cV (as := [_, _, _]) dL_law_427 fX10_press rfl lk_RL_101 rfl (hp_get (κ := 10) (by decide)) rfl rfl (Nat.le_of_ble_eq_true rfl) (hM) (show k + 1 ≤ MC by omega) (show n + 6 ≤ MS by omega) ?_
      refine x_istore (lv' := [_, _, _, _, _, _, _]) dL_law_430 (by decide) rfl ?_
      refine x_aload_n dL_law_432 rfl ?_
      refine x_cV (as := []) dL_law_433 fX10_thrown rfl lk_RL_86 rfl (hp_get (κ := 10) (by decide)) rfl rfl (Nat.le_of_ble_eq_true rfl) (j_thrown) (show k + 1 ≤ MC by omega) (show n + 6 ≤ MS by omega) ?_
      refine x_iload dL_law_436 rfl ?_
      refine x_icmp_eq (tgt := 443) dL_law_438 (by decide) (fun hc438 => ?_) (fun hc438 => by first | exact absurd he hc438 | exact absurd hc438 he)
      refine x_iload dL_law_443 rfl ?_
      refine x_if_ne (tgt := 460) dL_law_445 (by decide) (fun hc445 => ?_) (fun hc445 => ?_)
      · refine x_goto (tgt := 1194) dL_law_460 (by decide) ?_
        exact hE
      · refine x_aload_n dL_law_448 rfl ?_
        refine x_iconst (v := 0) dL_law_449 (by decide) ?_
        refine x_laldO dL_law_450 ?_
        refine x_iload dL_law_451 rfl ?_
        refine x_i2l dL_law_453 ?_
        refine x_lcmp dL_law_454 ?_
        refine x_if_eq (tgt := 460) dL_law_455 (by decide) (fun hc455 => ?_) (fun hc455 => by first | exact absurd (lgc0.mpr (hv hc445)) hc455 | exact absurd hc455 (lgc0.mpr (hv hc445)))
        refine x_goto (tgt := 1194) dL_law_460 (by decide) ?_
        exact hE
set_option maxRecDepth 100000 in
set_option maxHeartbeats 400000 in
theorem w_again {RR : St → Prop} {X : XS} {i k n MC MS : Nat} {S : St} {x5 x6 : Option Value} (hi : i + 5 < X.1) (hX : X.1 ≤ 384) (hk : k + 1 ≤ MC) (hn : n + 6 ≤ MS) (hS : StA RR X S mL_again mX10_again [.int (X.2 (i + 1)), .int (X.2 (i + 2))]) (hK : Kt RR X i k n MC MS) : ∃ S', Ex X mL_law false 13 463 (LVw i x5 x6) [] (hp S) k n (.inl (some (.int 1)), hp S', MC, MS) := by
  obtain ⟨kk, S1, S2, hL, hM, he, hR⟩ := hS
  obtain ⟨S', hE⟩ := hK S2 (some (.int kk)) x6 (k + 1) (n + 6) (by omega) (by omega) hR
  refine ⟨S', ?_⟩
  refine x_aload_n dL_law_463 rfl ?_
  refine x_aload_ns dL_law_464 rfl ?_
  refine x_iload dL_law_465 rfl ?_
  refine x_iconst (v := 1) dL_law_467 (by decide) ?_
  refine x_iadd dL_law_468 ?_
  refine x_eqi (nIp_1 _) ?_
  refine y_sld dL_law_469 (show _ < X.1 by omega) hX ?_
  refine x_aload_ns dL_law_470 rfl ?_
  refine x_iload dL_law_471 rfl ?_
  refine x_iconst (v := 2) dL_law_473 (by decide) ?_
  refine x_iadd dL_law_474 ?_
  refine x_eqi (nIp_2 _) ?_
  refine y_sld dL_law_475 (show _ < X.1 by omega) hX ?_
  refine x_cSH (as := [_, _, _]) dL_law_476 fL_again (by decide) lk_RL_102 rfl (Nat.le_of_ble_eq_true rfl) (hL) hk hn ?_
  refine x_istore (lv' := [_, _, _, _, _, _, _]) dL_law_479 (by decide) rfl ?_
  refine x_aload_n dL_law_481 rfl ?_
  refine x_aload_ns dL_law_482 rfl ?_
  refine x_iload dL_law_483 rfl ?_
  refine x_iconst (v := 1) dL_law_485 (by decide) ?_
  refine x_iadd dL_law_486 ?_
  refine x_eqi (nIp_1 _) ?_
  refine y_sld dL_law_487 (show _ < X.1 by omega) hX ?_
  refine x_aload_ns dL_law_488 rfl ?_
  refine x_iload dL_law_489 rfl ?_
  refine x_iconst (v := 2) dL_law_491 (by decide) ?_
  refine x_iadd dL_law_492 ?_
  refine x_eqi (nIp_2 _) ?_
  refine y_sld dL_law_493 (show _ < X.1 by omega) hX ?_
  refine x_cVv (as := [_, _]) dL_law_494 fX10_again rfl lk_RL_105 rfl (hp_get (κ := 10) (by decide)) rfl rfl (Nat.le_of_ble_eq_true rfl) (hM) (show k + 1 ≤ MC by omega) (show n + 6 ≤ MS by omega) ?_
  refine x_aload_n dL_law_497 rfl ?_
  refine x_cV (as := []) dL_law_498 fX10_thrown rfl lk_RL_86 rfl (hp_get (κ := 10) (by decide)) rfl rfl (Nat.le_of_ble_eq_true rfl) (j_thrown) (show k + 1 ≤ MC by omega) (show n + 6 ≤ MS by omega) ?_
  refine x_iload dL_law_501 rfl ?_
  refine x_icmp_eq (tgt := 508) dL_law_503 (by decide) (fun hc503 => ?_) (fun hc503 => by first | exact absurd he hc503 | exact absurd hc503 he)
  refine x_goto (tgt := 1194) dL_law_508 (by decide) ?_
  exact hE
set_option maxRecDepth 100000 in
set_option maxHeartbeats 400000 in
theorem w_release {RR : St → Prop} {X : XS} {i k n MC MS : Nat} {S : St} {x5 x6 : Option Value} (hi : i + 5 < X.1) (hX : X.1 ≤ 384) (hk : k + 1 ≤ MC) (hn : n + 6 ≤ MS) (hS : StA RR X S mL_release mX10_release [.int (X.2 (i + 1)), .int (X.2 (i + 2))]) (hK : Kt RR X i k n MC MS) : ∃ S', Ex X mL_law false 13 511 (LVw i x5 x6) [] (hp S) k n (.inl (some (.int 1)), hp S', MC, MS) := by
  obtain ⟨kk, S1, S2, hL, hM, he, hR⟩ := hS
  obtain ⟨S', hE⟩ := hK S2 (some (.int kk)) x6 (k + 1) (n + 6) (by omega) (by omega) hR
  refine ⟨S', ?_⟩
  refine x_aload_n dL_law_511 rfl ?_
  refine x_aload_ns dL_law_512 rfl ?_
  refine x_iload dL_law_513 rfl ?_
  refine x_iconst (v := 1) dL_law_515 (by decide) ?_
  refine x_iadd dL_law_516 ?_
  refine x_eqi (nIp_1 _) ?_
  refine y_sld dL_law_517 (show _ < X.1 by omega) hX ?_
  refine x_aload_ns dL_law_518 rfl ?_
  refine x_iload dL_law_519 rfl ?_
  refine x_iconst (v := 2) dL_law_521 (by decide) ?_
  refine x_iadd dL_law_522 ?_
  refine x_eqi (nIp_2 _) ?_
  refine y_sld dL_law_523 (show _ < X.1 by omega) hX ?_
  refine x_cSH (as := [_, _, _]) dL_law_524 fL_release (by decide) lk_RL_106 rfl (Nat.le_of_ble_eq_true rfl) (hL) hk hn ?_
  refine x_istore (lv' := [_, _, _, _, _, _, _]) dL_law_527 (by decide) rfl ?_
  refine x_aload_n dL_law_529 rfl ?_
  refine x_aload_ns dL_law_530 rfl ?_
  refine x_iload dL_law_531 rfl ?_
  refine x_iconst (v := 1) dL_law_533 (by decide) ?_
  refine x_iadd dL_law_534 ?_
  refine x_eqi (nIp_1 _) ?_
  refine y_sld dL_law_535 (show _ < X.1 by omega) hX ?_
  refine x_aload_ns dL_law_536 rfl ?_
  refine x_iload dL_law_537 rfl ?_
  refine x_iconst (v := 2) dL_law_539 (by decide) ?_
  refine x_iadd dL_law_540 ?_
  refine x_eqi (nIp_2 _) ?_
  refine y_sld dL_law_541 (show _ < X.1 by omega) hX ?_
  refine x_cVv (as := [_, _]) dL_law_542 fX10_release rfl lk_RL_108 rfl (hp_get (κ := 10) (by decide)) rfl rfl (Nat.le_of_ble_eq_true rfl) (hM) (show k + 1 ≤ MC by omega) (show n + 6 ≤ MS by omega) ?_
  refine x_aload_n dL_law_545 rfl ?_
  refine x_cV (as := []) dL_law_546 fX10_thrown rfl lk_RL_86 rfl (hp_get (κ := 10) (by decide)) rfl rfl (Nat.le_of_ble_eq_true rfl) (j_thrown) (show k + 1 ≤ MC by omega) (show n + 6 ≤ MS by omega) ?_
  refine x_iload dL_law_549 rfl ?_
  refine x_icmp_eq (tgt := 556) dL_law_551 (by decide) (fun hc551 => ?_) (fun hc551 => by first | exact absurd he hc551 | exact absurd hc551 he)
  refine x_goto (tgt := 1194) dL_law_556 (by decide) ?_
  exact hE
set_option maxRecDepth 100000 in
set_option maxHeartbeats 400000 in
theorem w_unit {RR : St → Prop} {X : XS} {i k n MC MS : Nat} {S : St} {x5 x6 : Option Value} (hi : i + 5 < X.1) (hX : X.1 ≤ 384) (hk : k + 1 ≤ MC) (hn : n + 6 ≤ MS) (hS : StB RR X S mL_unit mX10_unit [.int (X.2 (i + 1)), .int (X.2 (i + 2)), .int (X.2 (i + 3))]) (hK : Kt RR X i k n MC MS) : ∃ S', Ex X mL_law false 13 559 (LVw i x5 x6) [] (hp S) k n (.inl (some (.int 1)), hp S', MC, MS) := by
  obtain ⟨kk, v, S1, S2, hL, hM, he, hv, hR⟩ := hS
  obtain ⟨S', hE⟩ := hK S2 (some (.int kk)) (some (.int v)) (k + 1) (n + 6) (by omega) (by omega) hR
  refine ⟨S', ?_⟩
  refine x_aload_n dL_law_559 rfl ?_
  refine x_aload_ns dL_law_560 rfl ?_
  refine x_iload dL_law_561 rfl ?_
  refine x_iconst (v := 1) dL_law_563 (by decide) ?_
  refine x_iadd dL_law_564 ?_
  refine x_eqi (nIp_1 _) ?_
  refine y_sld dL_law_565 (show _ < X.1 by omega) hX ?_
  refine x_aload_ns dL_law_566 rfl ?_
  refine x_iload dL_law_567 rfl ?_
  refine x_iconst (v := 2) dL_law_569 (by decide) ?_
  refine x_iadd dL_law_570 ?_
  refine x_eqi (nIp_2 _) ?_
  refine y_sld dL_law_571 (show _ < X.1 by omega) hX ?_
  refine x_aload_ns dL_law_572 rfl ?_
  refine x_iload dL_law_573 rfl ?_
  refine x_iconst (v := 3) dL_law_575 (by decide) ?_
  refine x_iadd dL_law_576 ?_
  refine x_eqi (nIp_3 _) ?_
  refine y_sld dL_law_577 (show _ < X.1 by omega) hX ?_
  refine x_aload_n dL_law_578 rfl ?_
  refine x_cSH (as := [_, _, _, _, _]) dL_law_579 fL_unit (by decide) lk_RL_109 rfl (Nat.le_of_ble_eq_true rfl) (hL) hk hn ?_
  refine x_istore (lv' := [_, _, _, _, _, _, _]) dL_law_582 (by decide) rfl ?_
  refine x_aload_n dL_law_584 rfl ?_
  refine x_aload_ns dL_law_585 rfl ?_
  refine x_iload dL_law_586 rfl ?_
  refine x_iconst (v := 1) dL_law_588 (by decide) ?_
  refine x_iadd dL_law_589 ?_
  refine x_eqi (nIp_1 _) ?_
  refine y_sld dL_law_590 (show _ < X.1 by omega) hX ?_
  refine x_aload_ns dL_law_591 rfl ?_
  refine x_iload dL_law_592 rfl ?_
  refine x_iconst (v := 2) dL_law_594 (by decide) ?_
  refine x_iadd dL_law_595 ?_
  refine x_eqi (nIp_2 _) ?_
  refine y_sld dL_law_596 (show _ < X.1 by omega) hX ?_
  refine x_aload_ns dL_law_597 rfl ?_
  refine x_iload dL_law_598 rfl ?_
  refine x_iconst (v := 3) dL_law_600 (by decide) ?_
  refine x_iadd dL_law_601 ?_
  refine x_eqi (nIp_3 _) ?_
  refine y_sld dL_law_602 (show _ < X.1 by omega) hX ?_
  refine x_cV (as := [_, _, _]) dL_law_603 fX10_unit rfl lk_RL_112 rfl (hp_get (κ := 10) (by decide)) rfl rfl (Nat.le_of_ble_eq_true rfl) (hM) (show k + 1 ≤ MC by omega) (show n + 6 ≤ MS by omega) ?_
  refine x_istore (lv' := [_, _, _, _, _, _, _]) dL_law_606 (by decide) rfl ?_
  refine x_aload_n dL_law_608 rfl ?_
  refine x_cV (as := []) dL_law_609 fX10_thrown rfl lk_RL_86 rfl (hp_get (κ := 10) (by decide)) rfl rfl (Nat.le_of_ble_eq_true rfl) (j_thrown) (show k + 1 ≤ MC by omega) (show n + 6 ≤ MS by omega) ?_
  refine x_iload dL_law_612 rfl ?_
  refine x_icmp_eq (tgt := 619) dL_law_614 (by decide) (fun hc614 => ?_) (fun hc614 => by first | exact absurd he hc614 | exact absurd hc614 he)
  refine x_iload dL_law_619 rfl ?_
  refine x_if_ne (tgt := 636) dL_law_621 (by decide) (fun hc621 => ?_) (fun hc621 => ?_)
  · refine x_goto (tgt := 1194) dL_law_636 (by decide) ?_
    exact hE
  · refine x_aload_n dL_law_624 rfl ?_
    refine x_iconst (v := 0) dL_law_625 (by decide) ?_
    refine x_laldO dL_law_626 ?_
    refine x_iload dL_law_627 rfl ?_
    refine x_i2l dL_law_629 ?_
    refine x_lcmp dL_law_630 ?_
    refine x_if_eq (tgt := 636) dL_law_631 (by decide) (fun hc631 => ?_) (fun hc631 => by first | exact absurd (lgc0.mpr (hv hc621)) hc631 | exact absurd hc631 (lgc0.mpr (hv hc621)))
    refine x_goto (tgt := 1194) dL_law_636 (by decide) ?_
    exact hE
set_option maxRecDepth 100000 in
set_option maxHeartbeats 400000 in
theorem w_messages {RR : St → Prop} {X : XS} {i k n MC MS : Nat} {S : St} {x5 x6 : Option Value} (hk : k + 1 ≤ MC) (hn : n + 6 ≤ MS) (hS : StC RR X S mX9_messages mX10_messages) (hK : Kt RR X i k n MC MS) : ∃ S', Ex X mL_law false 13 639 (LVw i x5 x6) [] (hp S) k n (.inl (some (.int 1)), hp S', MC, MS) := by
  obtain ⟨v, S1, S2, hL, hM, hR⟩ := hS
  obtain ⟨S', hE⟩ := hK S2 x5 x6 k n (by omega) (by omega) hR
  refine ⟨S', ?_⟩
  refine x_aload_n dL_law_639 rfl ?_
  refine x_cV (as := []) dL_law_640 fX9_messages rfl lk_RL_113 rfl (hp_get (κ := 9) (by decide)) rfl rfl (Nat.le_of_ble_eq_true rfl) (hL) (show k ≤ MC by omega) (show n ≤ MS by omega) ?_
  refine x_aload_n dL_law_643 rfl ?_
  refine x_cV (as := []) dL_law_644 fX10_messages rfl lk_RL_116 rfl (hp_get (κ := 10) (by decide)) rfl rfl (Nat.le_of_ble_eq_true rfl) (hM) (show k ≤ MC by omega) (show n ≤ MS by omega) ?_
  refine x_icmp_eq (tgt := 1194) dL_law_647 (by decide) (fun hc647 => ?_) (fun hc647 => by first | exact absurd rfl hc647 | exact absurd hc647 rfl)
  exact hE
set_option maxRecDepth 100000 in
set_option maxHeartbeats 400000 in
theorem w_message {RR : St → Prop} {X : XS} {i k n MC MS : Nat} {S : St} {x5 x6 : Option Value} (hi : i + 5 < X.1) (hX : X.1 ≤ 384) (hk : k + 1 ≤ MC) (hn : n + 6 ≤ MS) (hS : StB RR X S mL_message mX10_message [.int (X.2 (i + 1)), .int (X.2 (i + 2))]) (hK : Kt RR X i k n MC MS) : ∃ S', Ex X mL_law false 13 652 (LVw i x5 x6) [] (hp S) k n (.inl (some (.int 1)), hp S', MC, MS) := by
  obtain ⟨kk, v, S1, S2, hL, hM, he, hv, hR⟩ := hS
  obtain ⟨S', hE⟩ := hK S2 (some (.int kk)) (some (.int v)) (k + 1) (n + 6) (by omega) (by omega) hR
  refine ⟨S', ?_⟩
  refine x_aload_n dL_law_652 rfl ?_
  refine x_aload_ns dL_law_653 rfl ?_
  refine x_iload dL_law_654 rfl ?_
  refine x_iconst (v := 1) dL_law_656 (by decide) ?_
  refine x_iadd dL_law_657 ?_
  refine x_eqi (nIp_1 _) ?_
  refine y_sld dL_law_658 (show _ < X.1 by omega) hX ?_
  refine x_aload_ns dL_law_659 rfl ?_
  refine x_iload dL_law_660 rfl ?_
  refine x_iconst (v := 2) dL_law_662 (by decide) ?_
  refine x_iadd dL_law_663 ?_
  refine x_eqi (nIp_2 _) ?_
  refine y_sld dL_law_664 (show _ < X.1 by omega) hX ?_
  refine x_aload_n dL_law_665 rfl ?_
  refine x_cSH (as := [_, _, _, _]) dL_law_666 fL_message (by decide) lk_RL_117 rfl (Nat.le_of_ble_eq_true rfl) (hL) hk hn ?_
  refine x_istore (lv' := [_, _, _, _, _, _, _]) dL_law_669 (by decide) rfl ?_
  refine x_aload_n dL_law_671 rfl ?_
  refine x_aload_ns dL_law_672 rfl ?_
  refine x_iload dL_law_673 rfl ?_
  refine x_iconst (v := 1) dL_law_675 (by decide) ?_
  refine x_iadd dL_law_676 ?_
  refine x_eqi (nIp_1 _) ?_
  refine y_sld dL_law_677 (show _ < X.1 by omega) hX ?_
  refine x_aload_ns dL_law_678 rfl ?_
  refine x_iload dL_law_679 rfl ?_
  refine x_iconst (v := 2) dL_law_681 (by decide) ?_
  refine x_iadd dL_law_682 ?_
  refine x_eqi (nIp_2 _) ?_
  refine y_sld dL_law_683 (show _ < X.1 by omega) hX ?_
  refine x_cV (as := [_, _]) dL_law_684 fX10_message rfl lk_RL_119 rfl (hp_get (κ := 10) (by decide)) rfl rfl (Nat.le_of_ble_eq_true rfl) (hM) (show k + 1 ≤ MC by omega) (show n + 6 ≤ MS by omega) ?_
  refine x_istore (lv' := [_, _, _, _, _, _, _]) dL_law_687 (by decide) rfl ?_
  refine x_aload_n dL_law_689 rfl ?_
  refine x_cV (as := []) dL_law_690 fX10_thrown rfl lk_RL_86 rfl (hp_get (κ := 10) (by decide)) rfl rfl (Nat.le_of_ble_eq_true rfl) (j_thrown) (show k + 1 ≤ MC by omega) (show n + 6 ≤ MS by omega) ?_
  refine x_iload dL_law_693 rfl ?_
  refine x_icmp_eq (tgt := 700) dL_law_695 (by decide) (fun hc695 => ?_) (fun hc695 => by first | exact absurd he hc695 | exact absurd hc695 he)
  refine x_iload dL_law_700 rfl ?_
  refine x_if_ne (tgt := 717) dL_law_702 (by decide) (fun hc702 => ?_) (fun hc702 => ?_)
  · refine x_goto (tgt := 1194) dL_law_717 (by decide) ?_
    exact hE
  · refine x_aload_n dL_law_705 rfl ?_
    refine x_iconst (v := 0) dL_law_706 (by decide) ?_
    refine x_laldO dL_law_707 ?_
    refine x_iload dL_law_708 rfl ?_
    refine x_i2l dL_law_710 ?_
    refine x_lcmp dL_law_711 ?_
    refine x_if_eq (tgt := 717) dL_law_712 (by decide) (fun hc712 => ?_) (fun hc712 => by first | exact absurd (lgc0.mpr (hv hc702)) hc712 | exact absurd hc712 (lgc0.mpr (hv hc702)))
    refine x_goto (tgt := 1194) dL_law_717 (by decide) ?_
    exact hE
set_option maxRecDepth 100000 in
set_option maxHeartbeats 400000 in
theorem w_carry {RR : St → Prop} {X : XS} {i k n MC MS : Nat} {S : St} {x5 x6 : Option Value} (hi : i + 5 < X.1) (hX : X.1 ≤ 384) (hk : k + 1 ≤ MC) (hn : n + 6 ≤ MS) (hS : StA RR X S mL_carry mX10_carry [.int (X.2 (i + 1))]) (hK : Kt RR X i k n MC MS) : ∃ S', Ex X mL_law false 13 720 (LVw i x5 x6) [] (hp S) k n (.inl (some (.int 1)), hp S', MC, MS) := by
  obtain ⟨kk, S1, S2, hL, hM, he, hR⟩ := hS
  obtain ⟨S', hE⟩ := hK S2 (some (.int kk)) x6 (k + 1) (n + 6) (by omega) (by omega) hR
  refine ⟨S', ?_⟩
  refine x_aload_n dL_law_720 rfl ?_
  refine x_aload_ns dL_law_721 rfl ?_
  refine x_iload dL_law_722 rfl ?_
  refine x_iconst (v := 1) dL_law_724 (by decide) ?_
  refine x_iadd dL_law_725 ?_
  refine x_eqi (nIp_1 _) ?_
  refine y_sld dL_law_726 (show _ < X.1 by omega) hX ?_
  refine x_cSH (as := [_, _]) dL_law_727 fL_carry (by decide) lk_RL_120 rfl (Nat.le_of_ble_eq_true rfl) (hL) hk hn ?_
  refine x_istore (lv' := [_, _, _, _, _, _, _]) dL_law_730 (by decide) rfl ?_
  refine x_aload_n dL_law_732 rfl ?_
  refine x_aload_ns dL_law_733 rfl ?_
  refine x_iload dL_law_734 rfl ?_
  refine x_iconst (v := 1) dL_law_736 (by decide) ?_
  refine x_iadd dL_law_737 ?_
  refine x_eqi (nIp_1 _) ?_
  refine y_sld dL_law_738 (show _ < X.1 by omega) hX ?_
  refine x_cVv (as := [_]) dL_law_739 fX10_carry rfl lk_RL_123 rfl (hp_get (κ := 10) (by decide)) rfl rfl (Nat.le_of_ble_eq_true rfl) (hM) (show k + 1 ≤ MC by omega) (show n + 6 ≤ MS by omega) ?_
  refine x_aload_n dL_law_742 rfl ?_
  refine x_cV (as := []) dL_law_743 fX10_thrown rfl lk_RL_86 rfl (hp_get (κ := 10) (by decide)) rfl rfl (Nat.le_of_ble_eq_true rfl) (j_thrown) (show k + 1 ≤ MC by omega) (show n + 6 ≤ MS by omega) ?_
  refine x_iload dL_law_746 rfl ?_
  refine x_icmp_eq (tgt := 753) dL_law_748 (by decide) (fun hc748 => ?_) (fun hc748 => by first | exact absurd he hc748 | exact absurd hc748 he)
  refine x_goto (tgt := 1194) dL_law_753 (by decide) ?_
  exact hE
set_option maxRecDepth 100000 in
set_option maxHeartbeats 400000 in
theorem w_twice {RR : St → Prop} {X : XS} {i k n MC MS : Nat} {S : St} {x5 x6 : Option Value} (hi : i + 5 < X.1) (hX : X.1 ≤ 384) (hk : k + 1 ≤ MC) (hn : n + 6 ≤ MS) (hS : StA RR X S mL_twice mX10_twice [.int (X.2 (i + 1))]) (hK : Kt RR X i k n MC MS) : ∃ S', Ex X mL_law false 13 756 (LVw i x5 x6) [] (hp S) k n (.inl (some (.int 1)), hp S', MC, MS) := by
  obtain ⟨kk, S1, S2, hL, hM, he, hR⟩ := hS
  obtain ⟨S', hE⟩ := hK S2 (some (.int kk)) x6 (k + 1) (n + 6) (by omega) (by omega) hR
  refine ⟨S', ?_⟩
  refine x_aload_n dL_law_756 rfl ?_
  refine x_aload_ns dL_law_757 rfl ?_
  refine x_iload dL_law_758 rfl ?_
  refine x_iconst (v := 1) dL_law_760 (by decide) ?_
  refine x_iadd dL_law_761 ?_
  refine x_eqi (nIp_1 _) ?_
  refine y_sld dL_law_762 (show _ < X.1 by omega) hX ?_
  refine x_cSH (as := [_, _]) dL_law_763 fL_twice (by decide) lk_RL_124 rfl (Nat.le_of_ble_eq_true rfl) (hL) hk hn ?_
  refine x_istore (lv' := [_, _, _, _, _, _, _]) dL_law_766 (by decide) rfl ?_
  refine x_aload_n dL_law_768 rfl ?_
  refine x_aload_ns dL_law_769 rfl ?_
  refine x_iload dL_law_770 rfl ?_
  refine x_iconst (v := 1) dL_law_772 (by decide) ?_
  refine x_iadd dL_law_773 ?_
  refine x_eqi (nIp_1 _) ?_
  refine y_sld dL_law_774 (show _ < X.1 by omega) hX ?_
  refine x_cVv (as := [_]) dL_law_775 fX10_twice rfl lk_RL_126 rfl (hp_get (κ := 10) (by decide)) rfl rfl (Nat.le_of_ble_eq_true rfl) (hM) (show k + 1 ≤ MC by omega) (show n + 6 ≤ MS by omega) ?_
  refine x_aload_n dL_law_778 rfl ?_
  refine x_cV (as := []) dL_law_779 fX10_thrown rfl lk_RL_86 rfl (hp_get (κ := 10) (by decide)) rfl rfl (Nat.le_of_ble_eq_true rfl) (j_thrown) (show k + 1 ≤ MC by omega) (show n + 6 ≤ MS by omega) ?_
  refine x_iload dL_law_782 rfl ?_
  refine x_icmp_eq (tgt := 789) dL_law_784 (by decide) (fun hc784 => ?_) (fun hc784 => by first | exact absurd he hc784 | exact absurd hc784 he)
  refine x_goto (tgt := 1194) dL_law_789 (by decide) ?_
  exact hE
set_option maxRecDepth 100000 in
set_option maxHeartbeats 400000 in
theorem w_drop {RR : St → Prop} {X : XS} {i k n MC MS : Nat} {S : St} {x5 x6 : Option Value} (hi : i + 5 < X.1) (hX : X.1 ≤ 384) (hk : k + 1 ≤ MC) (hn : n + 6 ≤ MS) (hS : StA RR X S mL_drop mX10_drop [.int (X.2 (i + 1))]) (hK : Kt RR X i k n MC MS) : ∃ S', Ex X mL_law false 13 792 (LVw i x5 x6) [] (hp S) k n (.inl (some (.int 1)), hp S', MC, MS) := by
  obtain ⟨kk, S1, S2, hL, hM, he, hR⟩ := hS
  obtain ⟨S', hE⟩ := hK S2 (some (.int kk)) x6 (k + 1) (n + 6) (by omega) (by omega) hR
  refine ⟨S', ?_⟩
  refine x_aload_n dL_law_792 rfl ?_
  refine x_aload_ns dL_law_793 rfl ?_
  refine x_iload dL_law_794 rfl ?_
  refine x_iconst (v := 1) dL_law_796 (by decide) ?_
  refine x_iadd dL_law_797 ?_
  refine x_eqi (nIp_1 _) ?_
  refine y_sld dL_law_798 (show _ < X.1 by omega) hX ?_
  refine x_cSH (as := [_, _]) dL_law_799 fL_drop (by decide) lk_RL_127 rfl (Nat.le_of_ble_eq_true rfl) (hL) hk hn ?_
  refine x_istore (lv' := [_, _, _, _, _, _, _]) dL_law_802 (by decide) rfl ?_
  refine x_aload_n dL_law_804 rfl ?_
  refine x_aload_ns dL_law_805 rfl ?_
  refine x_iload dL_law_806 rfl ?_
  refine x_iconst (v := 1) dL_law_808 (by decide) ?_
  refine x_iadd dL_law_809 ?_
  refine x_eqi (nIp_1 _) ?_
  refine y_sld dL_law_810 (show _ < X.1 by omega) hX ?_
  refine x_cVv (as := [_]) dL_law_811 fX10_drop rfl lk_RL_129 rfl (hp_get (κ := 10) (by decide)) rfl rfl (Nat.le_of_ble_eq_true rfl) (hM) (show k + 1 ≤ MC by omega) (show n + 6 ≤ MS by omega) ?_
  refine x_aload_n dL_law_814 rfl ?_
  refine x_cV (as := []) dL_law_815 fX10_thrown rfl lk_RL_86 rfl (hp_get (κ := 10) (by decide)) rfl rfl (Nat.le_of_ble_eq_true rfl) (j_thrown) (show k + 1 ≤ MC by omega) (show n + 6 ≤ MS by omega) ?_
  refine x_iload dL_law_818 rfl ?_
  refine x_icmp_eq (tgt := 825) dL_law_820 (by decide) (fun hc820 => ?_) (fun hc820 => by first | exact absurd he hc820 | exact absurd hc820 he)
  refine x_goto (tgt := 1194) dL_law_825 (by decide) ?_
  exact hE
set_option maxRecDepth 100000 in
set_option maxHeartbeats 400000 in
theorem w_run {RR : St → Prop} {X : XS} {i k n MC MS : Nat} {S : St} {x5 x6 : Option Value} (hi : i + 5 < X.1) (hX : X.1 ≤ 384) (hk : k + 1 ≤ MC) (hn : n + 6 ≤ MS) (hS : StB RR X S mL_run mX10_run [.int (X.2 (i + 1))]) (hK : Kt RR X i k n MC MS) : ∃ S', Ex X mL_law false 13 828 (LVw i x5 x6) [] (hp S) k n (.inl (some (.int 1)), hp S', MC, MS) := by
  obtain ⟨kk, v, S1, S2, hL, hM, he, hv, hR⟩ := hS
  obtain ⟨S', hE⟩ := hK S2 (some (.int kk)) (some (.int v)) (k + 1) (n + 6) (by omega) (by omega) hR
  refine ⟨S', ?_⟩
  refine x_aload_n dL_law_828 rfl ?_
  refine x_aload_ns dL_law_829 rfl ?_
  refine x_iload dL_law_830 rfl ?_
  refine x_iconst (v := 1) dL_law_832 (by decide) ?_
  refine x_iadd dL_law_833 ?_
  refine x_eqi (nIp_1 _) ?_
  refine y_sld dL_law_834 (show _ < X.1 by omega) hX ?_
  refine x_aload_n dL_law_835 rfl ?_
  refine x_cSH (as := [_, _, _]) dL_law_836 fL_run (by decide) lk_RL_130 rfl (Nat.le_of_ble_eq_true rfl) (hL) hk hn ?_
  refine x_istore (lv' := [_, _, _, _, _, _, _]) dL_law_839 (by decide) rfl ?_
  refine x_aload_n dL_law_841 rfl ?_
  refine x_aload_ns dL_law_842 rfl ?_
  refine x_iload dL_law_843 rfl ?_
  refine x_iconst (v := 1) dL_law_845 (by decide) ?_
  refine x_iadd dL_law_846 ?_
  refine x_eqi (nIp_1 _) ?_
  refine y_sld dL_law_847 (show _ < X.1 by omega) hX ?_
  refine x_cV (as := [_]) dL_law_848 fX10_run rfl lk_RL_133 rfl (hp_get (κ := 10) (by decide)) rfl rfl (Nat.le_of_ble_eq_true rfl) (hM) (show k + 1 ≤ MC by omega) (show n + 6 ≤ MS by omega) ?_
  refine x_istore (lv' := [_, _, _, _, _, _, _]) dL_law_851 (by decide) rfl ?_
  refine x_aload_n dL_law_853 rfl ?_
  refine x_cV (as := []) dL_law_854 fX10_thrown rfl lk_RL_86 rfl (hp_get (κ := 10) (by decide)) rfl rfl (Nat.le_of_ble_eq_true rfl) (j_thrown) (show k + 1 ≤ MC by omega) (show n + 6 ≤ MS by omega) ?_
  refine x_iload dL_law_857 rfl ?_
  refine x_icmp_eq (tgt := 864) dL_law_859 (by decide) (fun hc859 => ?_) (fun hc859 => by first | exact absurd he hc859 | exact absurd hc859 he)
  refine x_iload dL_law_864 rfl ?_
  refine x_if_ne (tgt := 881) dL_law_866 (by decide) (fun hc866 => ?_) (fun hc866 => ?_)
  · refine x_goto (tgt := 1194) dL_law_881 (by decide) ?_
    exact hE
  · refine x_aload_n dL_law_869 rfl ?_
    refine x_iconst (v := 0) dL_law_870 (by decide) ?_
    refine x_laldO dL_law_871 ?_
    refine x_iload dL_law_872 rfl ?_
    refine x_i2l dL_law_874 ?_
    refine x_lcmp dL_law_875 ?_
    refine x_if_eq (tgt := 881) dL_law_876 (by decide) (fun hc876 => ?_) (fun hc876 => by first | exact absurd (lgc0.mpr (hv hc866)) hc876 | exact absurd hc876 (lgc0.mpr (hv hc866)))
    refine x_goto (tgt := 1194) dL_law_881 (by decide) ?_
    exact hE
set_option maxRecDepth 100000 in
set_option maxHeartbeats 400000 in
theorem w_tick {RR : St → Prop} {X : XS} {i k n MC MS : Nat} {S : St} {x5 x6 : Option Value} (hk : k + 1 ≤ MC) (hn : n + 6 ≤ MS) (hS : StC RR X S mX9_tick mX10_tick) (hK : Kt RR X i k n MC MS) : ∃ S', Ex X mL_law false 13 884 (LVw i x5 x6) [] (hp S) k n (.inl (some (.int 1)), hp S', MC, MS) := by
  obtain ⟨v, S1, S2, hL, hM, hR⟩ := hS
  obtain ⟨S', hE⟩ := hK S2 x5 x6 k n (by omega) (by omega) hR
  refine ⟨S', ?_⟩
  refine x_aload_n dL_law_884 rfl ?_
  refine x_cV (as := []) dL_law_885 fX9_tick rfl lk_RL_134 rfl (hp_get (κ := 9) (by decide)) rfl rfl (Nat.le_of_ble_eq_true rfl) (hL) (show k ≤ MC by omega) (show n ≤ MS by omega) ?_
  refine x_aload_n dL_law_888 rfl ?_
  refine x_cV (as := []) dL_law_889 fX10_tick rfl lk_RL_137 rfl (hp_get (κ := 10) (by decide)) rfl rfl (Nat.le_of_ble_eq_true rfl) (hM) (show k ≤ MC by omega) (show n ≤ MS by omega) ?_
  refine x_icmp_eq (tgt := 1194) dL_law_892 (by decide) (fun hc892 => ?_) (fun hc892 => by first | exact absurd rfl hc892 | exact absurd hc892 rfl)
  exact hE
set_option maxRecDepth 100000 in
set_option maxHeartbeats 400000 in
theorem w_server {RR : St → Prop} {X : XS} {i k n MC MS : Nat} {S : St} {x5 x6 : Option Value} (hi : i + 5 < X.1) (hX : X.1 ≤ 384) (hk : k + 1 ≤ MC) (hn : n + 6 ≤ MS) (hS : StB RR X S mL_server mX10_server [.int (X.2 (i + 1)), .int (X.2 (i + 2))]) (hK : Kt RR X i k n MC MS) : ∃ S', Ex X mL_law false 13 897 (LVw i x5 x6) [] (hp S) k n (.inl (some (.int 1)), hp S', MC, MS) := by
  obtain ⟨kk, v, S1, S2, hL, hM, he, hv, hR⟩ := hS
  obtain ⟨S', hE⟩ := hK S2 (some (.int kk)) (some (.int v)) (k + 1) (n + 6) (by omega) (by omega) hR
  refine ⟨S', ?_⟩
  refine x_aload_n dL_law_897 rfl ?_
  refine x_aload_ns dL_law_898 rfl ?_
  refine x_iload dL_law_899 rfl ?_
  refine x_iconst (v := 1) dL_law_901 (by decide) ?_
  refine x_iadd dL_law_902 ?_
  refine x_eqi (nIp_1 _) ?_
  refine y_sld dL_law_903 (show _ < X.1 by omega) hX ?_
  refine x_aload_ns dL_law_904 rfl ?_
  refine x_iload dL_law_905 rfl ?_
  refine x_iconst (v := 2) dL_law_907 (by decide) ?_
  refine x_iadd dL_law_908 ?_
  refine x_eqi (nIp_2 _) ?_
  refine y_sld dL_law_909 (show _ < X.1 by omega) hX ?_
  refine x_aload_n dL_law_910 rfl ?_
  refine x_cSH (as := [_, _, _, _]) dL_law_911 fL_server (by decide) lk_RL_138 rfl (Nat.le_of_ble_eq_true rfl) (hL) hk hn ?_
  refine x_istore (lv' := [_, _, _, _, _, _, _]) dL_law_914 (by decide) rfl ?_
  refine x_aload_n dL_law_916 rfl ?_
  refine x_aload_ns dL_law_917 rfl ?_
  refine x_iload dL_law_918 rfl ?_
  refine x_iconst (v := 1) dL_law_920 (by decide) ?_
  refine x_iadd dL_law_921 ?_
  refine x_eqi (nIp_1 _) ?_
  refine y_sld dL_law_922 (show _ < X.1 by omega) hX ?_
  refine x_aload_ns dL_law_923 rfl ?_
  refine x_iload dL_law_924 rfl ?_
  refine x_iconst (v := 2) dL_law_926 (by decide) ?_
  refine x_iadd dL_law_927 ?_
  refine x_eqi (nIp_2 _) ?_
  refine y_sld dL_law_928 (show _ < X.1 by omega) hX ?_
  refine x_cV (as := [_, _]) dL_law_929 fX10_server rfl lk_RL_140 rfl (hp_get (κ := 10) (by decide)) rfl rfl (Nat.le_of_ble_eq_true rfl) (hM) (show k + 1 ≤ MC by omega) (show n + 6 ≤ MS by omega) ?_
  refine x_istore (lv' := [_, _, _, _, _, _, _]) dL_law_932 (by decide) rfl ?_
  refine x_aload_n dL_law_934 rfl ?_
  refine x_cV (as := []) dL_law_935 fX10_thrown rfl lk_RL_86 rfl (hp_get (κ := 10) (by decide)) rfl rfl (Nat.le_of_ble_eq_true rfl) (j_thrown) (show k + 1 ≤ MC by omega) (show n + 6 ≤ MS by omega) ?_
  refine x_iload dL_law_938 rfl ?_
  refine x_icmp_eq (tgt := 945) dL_law_940 (by decide) (fun hc940 => ?_) (fun hc940 => by first | exact absurd he hc940 | exact absurd hc940 he)
  refine x_iload dL_law_945 rfl ?_
  refine x_if_ne (tgt := 962) dL_law_947 (by decide) (fun hc947 => ?_) (fun hc947 => ?_)
  · refine x_goto (tgt := 1194) dL_law_962 (by decide) ?_
    exact hE
  · refine x_aload_n dL_law_950 rfl ?_
    refine x_iconst (v := 0) dL_law_951 (by decide) ?_
    refine x_laldO dL_law_952 ?_
    refine x_iload dL_law_953 rfl ?_
    refine x_i2l dL_law_955 ?_
    refine x_lcmp dL_law_956 ?_
    refine x_if_eq (tgt := 962) dL_law_957 (by decide) (fun hc957 => ?_) (fun hc957 => by first | exact absurd (lgc0.mpr (hv hc947)) hc957 | exact absurd hc957 (lgc0.mpr (hv hc947)))
    refine x_goto (tgt := 1194) dL_law_962 (by decide) ?_
    exact hE
set_option maxRecDepth 100000 in
set_option maxHeartbeats 400000 in
theorem w_waiting {RR : St → Prop} {X : XS} {i k n MC MS : Nat} {S : St} {x5 x6 : Option Value} (hi : i + 5 < X.1) (hX : X.1 ≤ 384) (hk : k + 1 ≤ MC) (hn : n + 6 ≤ MS) (hS : StB RR X S mL_waiting mX10_waiting [.int (X.2 (i + 1)), .int (X.2 (i + 2))]) (hK : Kt RR X i k n MC MS) : ∃ S', Ex X mL_law false 13 965 (LVw i x5 x6) [] (hp S) k n (.inl (some (.int 1)), hp S', MC, MS) := by
  obtain ⟨kk, v, S1, S2, hL, hM, he, hv, hR⟩ := hS
  obtain ⟨S', hE⟩ := hK S2 (some (.int kk)) (some (.int v)) (k + 1) (n + 6) (by omega) (by omega) hR
  refine ⟨S', ?_⟩
  refine x_aload_n dL_law_965 rfl ?_
  refine x_aload_ns dL_law_966 rfl ?_
  refine x_iload dL_law_967 rfl ?_
  refine x_iconst (v := 1) dL_law_969 (by decide) ?_
  refine x_iadd dL_law_970 ?_
  refine x_eqi (nIp_1 _) ?_
  refine y_sld dL_law_971 (show _ < X.1 by omega) hX ?_
  refine x_aload_ns dL_law_972 rfl ?_
  refine x_iload dL_law_973 rfl ?_
  refine x_iconst (v := 2) dL_law_975 (by decide) ?_
  refine x_iadd dL_law_976 ?_
  refine x_eqi (nIp_2 _) ?_
  refine y_sld dL_law_977 (show _ < X.1 by omega) hX ?_
  refine x_aload_n dL_law_978 rfl ?_
  refine x_cSH (as := [_, _, _, _]) dL_law_979 fL_waiting (by decide) lk_RL_141 rfl (Nat.le_of_ble_eq_true rfl) (hL) hk hn ?_
  refine x_istore (lv' := [_, _, _, _, _, _, _]) dL_law_982 (by decide) rfl ?_
  refine x_aload_n dL_law_984 rfl ?_
  refine x_aload_ns dL_law_985 rfl ?_
  refine x_iload dL_law_986 rfl ?_
  refine x_iconst (v := 1) dL_law_988 (by decide) ?_
  refine x_iadd dL_law_989 ?_
  refine x_eqi (nIp_1 _) ?_
  refine y_sld dL_law_990 (show _ < X.1 by omega) hX ?_
  refine x_aload_ns dL_law_991 rfl ?_
  refine x_iload dL_law_992 rfl ?_
  refine x_iconst (v := 2) dL_law_994 (by decide) ?_
  refine x_iadd dL_law_995 ?_
  refine x_eqi (nIp_2 _) ?_
  refine y_sld dL_law_996 (show _ < X.1 by omega) hX ?_
  refine x_cV (as := [_, _]) dL_law_997 fX10_waiting rfl lk_RL_143 rfl (hp_get (κ := 10) (by decide)) rfl rfl (Nat.le_of_ble_eq_true rfl) (hM) (show k + 1 ≤ MC by omega) (show n + 6 ≤ MS by omega) ?_
  refine x_istore (lv' := [_, _, _, _, _, _, _]) dL_law_1000 (by decide) rfl ?_
  refine x_aload_n dL_law_1002 rfl ?_
  refine x_cV (as := []) dL_law_1003 fX10_thrown rfl lk_RL_86 rfl (hp_get (κ := 10) (by decide)) rfl rfl (Nat.le_of_ble_eq_true rfl) (j_thrown) (show k + 1 ≤ MC by omega) (show n + 6 ≤ MS by omega) ?_
  refine x_iload dL_law_1006 rfl ?_
  refine x_icmp_eq (tgt := 1013) dL_law_1008 (by decide) (fun hc1008 => ?_) (fun hc1008 => by first | exact absurd he hc1008 | exact absurd hc1008 he)
  refine x_iload dL_law_1013 rfl ?_
  refine x_if_ne (tgt := 1030) dL_law_1015 (by decide) (fun hc1015 => ?_) (fun hc1015 => ?_)
  · refine x_goto (tgt := 1194) dL_law_1030 (by decide) ?_
    exact hE
  · refine x_aload_n dL_law_1018 rfl ?_
    refine x_iconst (v := 0) dL_law_1019 (by decide) ?_
    refine x_laldO dL_law_1020 ?_
    refine x_iload dL_law_1021 rfl ?_
    refine x_i2l dL_law_1023 ?_
    refine x_lcmp dL_law_1024 ?_
    refine x_if_eq (tgt := 1030) dL_law_1025 (by decide) (fun hc1025 => ?_) (fun hc1025 => by first | exact absurd (lgc0.mpr (hv hc1015)) hc1025 | exact absurd hc1025 (lgc0.mpr (hv hc1015)))
    refine x_goto (tgt := 1194) dL_law_1030 (by decide) ?_
    exact hE
set_option maxRecDepth 100000 in
set_option maxHeartbeats 400000 in
theorem w_relay {RR : St → Prop} {X : XS} {i k n MC MS : Nat} {S : St} {x5 x6 : Option Value} (hi : i + 5 < X.1) (hX : X.1 ≤ 384) (hk : k + 1 ≤ MC) (hn : n + 6 ≤ MS) (hS : StB RR X S mL_relay mX10_relay [.int (X.2 (i + 1)), .int (X.2 (i + 2))]) (hK : Kt RR X i k n MC MS) : ∃ S', Ex X mL_law false 13 1033 (LVw i x5 x6) [] (hp S) k n (.inl (some (.int 1)), hp S', MC, MS) := by
  obtain ⟨kk, v, S1, S2, hL, hM, he, hv, hR⟩ := hS
  obtain ⟨S', hE⟩ := hK S2 (some (.int kk)) (some (.int v)) (k + 1) (n + 6) (by omega) (by omega) hR
  refine ⟨S', ?_⟩
  refine x_aload_n dL_law_1033 rfl ?_
  refine x_aload_ns dL_law_1034 rfl ?_
  refine x_iload dL_law_1035 rfl ?_
  refine x_iconst (v := 1) dL_law_1037 (by decide) ?_
  refine x_iadd dL_law_1038 ?_
  refine x_eqi (nIp_1 _) ?_
  refine y_sld dL_law_1039 (show _ < X.1 by omega) hX ?_
  refine x_aload_ns dL_law_1040 rfl ?_
  refine x_iload dL_law_1041 rfl ?_
  refine x_iconst (v := 2) dL_law_1043 (by decide) ?_
  refine x_iadd dL_law_1044 ?_
  refine x_eqi (nIp_2 _) ?_
  refine y_sld dL_law_1045 (show _ < X.1 by omega) hX ?_
  refine x_aload_n dL_law_1046 rfl ?_
  refine x_cSH (as := [_, _, _, _]) dL_law_1047 fL_relay (by decide) lk_RL_144 rfl (Nat.le_of_ble_eq_true rfl) (hL) hk hn ?_
  refine x_istore (lv' := [_, _, _, _, _, _, _]) dL_law_1050 (by decide) rfl ?_
  refine x_aload_n dL_law_1052 rfl ?_
  refine x_aload_ns dL_law_1053 rfl ?_
  refine x_iload dL_law_1054 rfl ?_
  refine x_iconst (v := 1) dL_law_1056 (by decide) ?_
  refine x_iadd dL_law_1057 ?_
  refine x_eqi (nIp_1 _) ?_
  refine y_sld dL_law_1058 (show _ < X.1 by omega) hX ?_
  refine x_aload_ns dL_law_1059 rfl ?_
  refine x_iload dL_law_1060 rfl ?_
  refine x_iconst (v := 2) dL_law_1062 (by decide) ?_
  refine x_iadd dL_law_1063 ?_
  refine x_eqi (nIp_2 _) ?_
  refine y_sld dL_law_1064 (show _ < X.1 by omega) hX ?_
  refine x_cV (as := [_, _]) dL_law_1065 fX10_relay rfl lk_RL_146 rfl (hp_get (κ := 10) (by decide)) rfl rfl (Nat.le_of_ble_eq_true rfl) (hM) (show k + 1 ≤ MC by omega) (show n + 6 ≤ MS by omega) ?_
  refine x_istore (lv' := [_, _, _, _, _, _, _]) dL_law_1068 (by decide) rfl ?_
  refine x_aload_n dL_law_1070 rfl ?_
  refine x_cV (as := []) dL_law_1071 fX10_thrown rfl lk_RL_86 rfl (hp_get (κ := 10) (by decide)) rfl rfl (Nat.le_of_ble_eq_true rfl) (j_thrown) (show k + 1 ≤ MC by omega) (show n + 6 ≤ MS by omega) ?_
  refine x_iload dL_law_1074 rfl ?_
  refine x_icmp_eq (tgt := 1081) dL_law_1076 (by decide) (fun hc1076 => ?_) (fun hc1076 => by first | exact absurd he hc1076 | exact absurd hc1076 he)
  refine x_iload dL_law_1081 rfl ?_
  refine x_if_ne (tgt := 1098) dL_law_1083 (by decide) (fun hc1083 => ?_) (fun hc1083 => ?_)
  · refine x_goto (tgt := 1194) dL_law_1098 (by decide) ?_
    exact hE
  · refine x_aload_n dL_law_1086 rfl ?_
    refine x_iconst (v := 0) dL_law_1087 (by decide) ?_
    refine x_laldO dL_law_1088 ?_
    refine x_iload dL_law_1089 rfl ?_
    refine x_i2l dL_law_1091 ?_
    refine x_lcmp dL_law_1092 ?_
    refine x_if_eq (tgt := 1098) dL_law_1093 (by decide) (fun hc1093 => ?_) (fun hc1093 => by first | exact absurd (lgc0.mpr (hv hc1083)) hc1093 | exact absurd hc1093 (lgc0.mpr (hv hc1083)))
    refine x_goto (tgt := 1194) dL_law_1098 (by decide) ?_
    exact hE
set_option maxRecDepth 100000 in
set_option maxHeartbeats 400000 in
theorem w_about {RR : St → Prop} {X : XS} {i k n MC MS : Nat} {S : St} {x5 x6 : Option Value} (hi : i + 5 < X.1) (hX : X.1 ≤ 384) (hk : k + 1 ≤ MC) (hn : n + 6 ≤ MS) (hS : StB RR X S mL_about mX10_about [.int (X.2 (i + 1)), .int (X.2 (i + 2)), .int (X.2 (i + 3))]) (hK : Kt RR X i k n MC MS) : ∃ S', Ex X mL_law false 13 1101 (LVw i x5 x6) [] (hp S) k n (.inl (some (.int 1)), hp S', MC, MS) := by
  obtain ⟨kk, v, S1, S2, hL, hM, he, hv, hR⟩ := hS
  obtain ⟨S', hE⟩ := hK S2 (some (.int kk)) (some (.int v)) (k + 1) (n + 6) (by omega) (by omega) hR
  refine ⟨S', ?_⟩
  refine x_aload_n dL_law_1101 rfl ?_
  refine x_aload_ns dL_law_1102 rfl ?_
  refine x_iload dL_law_1103 rfl ?_
  refine x_iconst (v := 1) dL_law_1105 (by decide) ?_
  refine x_iadd dL_law_1106 ?_
  refine x_eqi (nIp_1 _) ?_
  refine y_sld dL_law_1107 (show _ < X.1 by omega) hX ?_
  refine x_aload_ns dL_law_1108 rfl ?_
  refine x_iload dL_law_1109 rfl ?_
  refine x_iconst (v := 2) dL_law_1111 (by decide) ?_
  refine x_iadd dL_law_1112 ?_
  refine x_eqi (nIp_2 _) ?_
  refine y_sld dL_law_1113 (show _ < X.1 by omega) hX ?_
  refine x_aload_ns dL_law_1114 rfl ?_
  refine x_iload dL_law_1115 rfl ?_
  refine x_iconst (v := 3) dL_law_1117 (by decide) ?_
  refine x_iadd dL_law_1118 ?_
  refine x_eqi (nIp_3 _) ?_
  refine y_sld dL_law_1119 (show _ < X.1 by omega) hX ?_
  refine x_aload_n dL_law_1120 rfl ?_
  refine x_cSH (as := [_, _, _, _, _]) dL_law_1121 fL_about (by decide) lk_RL_147 rfl (Nat.le_of_ble_eq_true rfl) (hL) hk hn ?_
  refine x_istore (lv' := [_, _, _, _, _, _, _]) dL_law_1124 (by decide) rfl ?_
  refine x_aload_n dL_law_1126 rfl ?_
  refine x_aload_ns dL_law_1127 rfl ?_
  refine x_iload dL_law_1128 rfl ?_
  refine x_iconst (v := 1) dL_law_1130 (by decide) ?_
  refine x_iadd dL_law_1131 ?_
  refine x_eqi (nIp_1 _) ?_
  refine y_sld dL_law_1132 (show _ < X.1 by omega) hX ?_
  refine x_aload_ns dL_law_1133 rfl ?_
  refine x_iload dL_law_1134 rfl ?_
  refine x_iconst (v := 2) dL_law_1136 (by decide) ?_
  refine x_iadd dL_law_1137 ?_
  refine x_eqi (nIp_2 _) ?_
  refine y_sld dL_law_1138 (show _ < X.1 by omega) hX ?_
  refine x_aload_ns dL_law_1139 rfl ?_
  refine x_iload dL_law_1140 rfl ?_
  refine x_iconst (v := 3) dL_law_1142 (by decide) ?_
  refine x_iadd dL_law_1143 ?_
  refine x_eqi (nIp_3 _) ?_
  refine y_sld dL_law_1144 (show _ < X.1 by omega) hX ?_
  refine x_cV (as := [_, _, _]) dL_law_1145 fX10_about rfl lk_RL_149 rfl (hp_get (κ := 10) (by decide)) rfl rfl (Nat.le_of_ble_eq_true rfl) (hM) (show k + 1 ≤ MC by omega) (show n + 6 ≤ MS by omega) ?_
  refine x_istore (lv' := [_, _, _, _, _, _, _]) dL_law_1148 (by decide) rfl ?_
  refine x_aload_n dL_law_1150 rfl ?_
  refine x_cV (as := []) dL_law_1151 fX10_thrown rfl lk_RL_86 rfl (hp_get (κ := 10) (by decide)) rfl rfl (Nat.le_of_ble_eq_true rfl) (j_thrown) (show k + 1 ≤ MC by omega) (show n + 6 ≤ MS by omega) ?_
  refine x_iload dL_law_1154 rfl ?_
  refine x_icmp_eq (tgt := 1161) dL_law_1156 (by decide) (fun hc1156 => ?_) (fun hc1156 => by first | exact absurd he hc1156 | exact absurd hc1156 he)
  refine x_iload dL_law_1161 rfl ?_
  refine x_if_ne (tgt := 1178) dL_law_1163 (by decide) (fun hc1163 => ?_) (fun hc1163 => ?_)
  · refine x_goto (tgt := 1194) dL_law_1178 (by decide) ?_
    exact hE
  · refine x_aload_n dL_law_1166 rfl ?_
    refine x_iconst (v := 0) dL_law_1167 (by decide) ?_
    refine x_laldO dL_law_1168 ?_
    refine x_iload dL_law_1169 rfl ?_
    refine x_i2l dL_law_1171 ?_
    refine x_lcmp dL_law_1172 ?_
    refine x_if_eq (tgt := 1178) dL_law_1173 (by decide) (fun hc1173 => ?_) (fun hc1173 => by first | exact absurd (lgc0.mpr (hv hc1163)) hc1173 | exact absurd hc1173 (lgc0.mpr (hv hc1163)))
    refine x_goto (tgt := 1194) dL_law_1178 (by decide) ?_
    exact hE
set_option maxRecDepth 100000 in
set_option maxHeartbeats 400000 in
theorem w_lost {RR : St → Prop} {X : XS} {i k n MC MS : Nat} {S : St} {x5 x6 : Option Value} (hk : k + 1 ≤ MC) (hn : n + 6 ≤ MS) (hS : StC RR X S mX9_lost mX10_lost) (hK : Kt RR X i k n MC MS) : ∃ S', Ex X mL_law false 13 1181 (LVw i x5 x6) [] (hp S) k n (.inl (some (.int 1)), hp S', MC, MS) := by
  obtain ⟨v, S1, S2, hL, hM, hR⟩ := hS
  obtain ⟨S', hE⟩ := hK S2 x5 x6 k n (by omega) (by omega) hR
  refine ⟨S', ?_⟩
  refine x_aload_n dL_law_1181 rfl ?_
  refine x_cV (as := []) dL_law_1182 fX9_lost rfl lk_RL_150 rfl (hp_get (κ := 9) (by decide)) rfl rfl (Nat.le_of_ble_eq_true rfl) (hL) (show k ≤ MC by omega) (show n ≤ MS by omega) ?_
  refine x_aload_n dL_law_1185 rfl ?_
  refine x_cV (as := []) dL_law_1186 fX10_lost rfl lk_RL_153 rfl (hp_get (κ := 10) (by decide)) rfl rfl (Nat.le_of_ble_eq_true rfl) (hM) (show k ≤ MC by omega) (show n ≤ MS by omega) ?_
  refine x_icmp_eq (tgt := 1194) dL_law_1189 (by decide) (fun hc1189 => ?_) (fun hc1189 => by first | exact absurd rfl hc1189 | exact absurd hc1189 rfl)
  exact hE
