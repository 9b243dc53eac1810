/-! a message is taken out -/
theorem out_get {S : St} {k a b c : Nat} (h11 : a ≠ 11) (h6 : ¬ (a = 6 ∧ b = 0 ∧ c = 2)) : (nt_out S k).1 a b c = S.1 a b c := by
  unfold nt_out
  simp only
  rw [sc_get, if_neg h6, sc_get, if_neg (by omega), sa_get, if_neg (by omega)]
theorem out_2 {S : St} {k : Nat} : (nt_out S k).2 = S.2 := rfl
theorem out_c {S : St} {k : Nat} : (nt_out S k).1 6 0 2 = S.1 6 0 2 - 1 := by
  unfold nt_out
  simp only
  rw [sc_get, if_pos ⟨rfl, rfl, rfl⟩, sc_get, if_neg (by omega), sa_get, if_neg (by omega)]
theorem out_o {S : St} {k j : Nat} (hk : k ≤ 60) : (nt_out S k).1 11 0 j = if j = 60 then nI (nt_at S k) else if k ≤ j ∧ j < 60 then S.1 11 0 (j + 1) else S.1 11 0 j := by
  unfold nt_out
  simp only
  rw [sc_get, if_neg (by omega), sc_get]
  by_cases h : j = 60
  · rw [if_pos ⟨rfl, rfl, h⟩, if_pos h]
  · rw [if_neg (by omega), if_neg h, sa_get, if_pos ⟨rfl, rfl⟩]
    by_cases h2 : k ≤ j ∧ j < 60
    · rw [if_pos h2, pk_cpy_in h2.1 (by omega), show k + 1 + (j - k) = j + 1 by omega]
    · rw [if_neg h2, pk_cpy_out (by omega)]
theorem RNet.outk {S T : St} {k : Nat} (h : RNet S T) (hk : nI k < S.1 6 0 2) (hk6 : k < 60) : RNet (nt_out S k) (ml_out T k) := by
  obtain ⟨c, p, hc, h1, h2, h3, h4, h5, h6, h7⟩ := h
  rw [h1, nI_ltI (by omega) (by omega)] at hk
  have ea : nt_at S k = p k := by unfold nt_at; rw [(h4 k (by omega)).2, nI_clamp (by have := (h4 k (by omega)).1; omega)]
  obtain ⟨hm, em⟩ := MO.mk' h2 hc
  refine ⟨c - 1, fun j => if j = 60 then p k else if k ≤ j ∧ j < 60 then p (j + 1) else p j, by omega, ?_, ?_, ?_, fun j hj => ?_, fun i j hi hj => ?_, fun j hj q hq => ?_, fun j hj => ?_⟩
  · rw [out_c, h1]; exact pk_sub (b := 1) (by omega)
  · rw [ml_out_3 hm (by rw [em]; exact hk), em]
  · rw [out_get (by decide) (by omega), ml_out_get (by decide) (by decide)]; exact h3
  · rw [out_o (by omega), ea]
    simp only
    by_cases z : j = 60
    · rw [if_pos z, if_pos z]; exact ⟨(h4 k (by omega)).1, rfl⟩
    · rw [if_neg z, if_neg z]
      split
      · exact h4 (j + 1) (by omega)
      · exact h4 j hj
  · simp only
    have key : ∀ x y, x < 61 → y < 61 → p x = p y → x = y := h5
    by_cases zi : i = 60
    · by_cases zj : j = 60
      · intro _; omega
      · rw [if_pos zi, if_neg zj]
        split
        · intro e; have := key _ _ (by omega) (by omega) e; omega
        · intro e; have := key _ _ (by omega) (by omega) e; omega
    · rw [if_neg zi]
      by_cases zj : j = 60
      · rw [if_pos zj]
        split
        · intro e; have := key _ _ (by omega) (by omega) e; omega
        · intro e; have := key _ _ (by omega) (by omega) e; omega
      · rw [if_neg zj]
        split
        · split
          · intro e; have := key _ _ (by omega) (by omega) e; omega
          · intro e; have := key _ _ (by omega) (by omega) e; omega
        · split
          · intro e; have := key _ _ (by omega) (by omega) e; omega
          · intro e; have := key _ _ (by omega) (by omega) e; omega
  · simp only
    rw [out_get (by decide) (by omega), ml_out_4, em, if_neg (show ¬ j = 60 by omega)]
    by_cases z : k ≤ j
    · rw [if_pos ⟨z, by omega⟩, if_pos (by omega), show 6 * j + q + 6 = 6 * (j + 1) + q by omega]
      exact h6 (j + 1) (by omega) q hq
    · rw [if_neg (fun y => z y.1), if_neg (by omega)]
      exact h6 j (by omega) q hq
  · rw [ml_out_4, ml_out_4, ml_out_4, ml_out_4, em]
    by_cases z : k ≤ j
    · rw [if_pos (by omega), if_pos (by omega), if_pos (by omega), if_pos (by omega)]
      have := h7 (j + 1) (by omega)
      rw [show 6 * j + 6 = 6 * (j + 1) by omega, show 6 * j + 1 + 6 = 6 * (j + 1) + 1 by omega, show 6 * j + 2 + 6 = 6 * (j + 1) + 2 by omega, show 6 * j + 4 + 6 = 6 * (j + 1) + 4 by omega]
      exact this
    · rw [if_neg (by omega), if_neg (by omega), if_neg (by omega), if_neg (by omega)]
      exact h7 j (by omega)
theorem RNet.atk {S T : St} {k : Nat} (h : RNet S T) (hk : nI k < S.1 6 0 2) (hk6 : k < 60) : nt_at S k < 61 ∧ (∀ j, j < 6 → S.1 5 (nt_at S k) j = T.2.2.1 4 (6 * k + j)) ∧ VM (T.2.2.1 4 (6 * k)) (T.2.2.1 4 (6 * k + 1)) (T.2.2.1 4 (6 * k + 2)) (T.2.2.1 4 (6 * k + 4)) ∧ k < mC T := by
  obtain ⟨c, p, hc, h1, h2, h3, h4, h5, h6, h7⟩ := h
  rw [h1, nI_ltI (by omega) (by omega)] at hk
  have ea : nt_at S k = p k := by unfold nt_at; rw [(h4 k (by omega)).2, nI_clamp (by have := (h4 k (by omega)).1; omega)]
  rw [ea, (MO.mk' h2 hc).2]
  exact ⟨(h4 k (by omega)).1, h6 k hk, h7 k hk, hk⟩
theorem Rel.out {H TM L k : Nat} {S T : St} (h : Rel H TM L S T) (hk : nI k < S.1 6 0 2) (hk6 : k < 60) (hH : H < 2 ^ 30) : Rel H TM L (nt_out S k) (ml_out T k) := by
  obtain ⟨⟨tm, t1, t2, t3⟩, ⟨d1, d2⟩, n, em, bm, li, gt, fl⟩ := h
  have s0 : ∀ x y z, x ≠ 11 → x ≠ 6 → (nt_out S k).1 x y z = S.1 x y z := fun x y z a b => out_get a (by omega)
  have m0 : ∀ f i, f ≠ 3 → f ≠ 4 → (ml_out T k).2.2.1 f i = T.2.2.1 f i := fun f i a b => ml_out_get a b
  have eh : hdN (ml_out T k) = hdN T := hdN_eq (m0 _ _ (by omega) (by omega))
  refine ⟨⟨tm, t1, by rw [s0 _ _ _ (by omega) (by omega)]; exact t2, by rw [m0 _ _ (by omega) (by omega)]; exact t3⟩, ⟨by rw [m0 _ _ (by omega) (by omega), eh]; exact d1, by rw [eh]; exact d2⟩, n.outk hk hk6, em.eq (fun i k => s0 _ _ _ (by omega) (by omega)) (fun f i a b => m0 _ _ (by omega) (by omega)), bm.eq (fun i => ⟨m0 _ _ (by omega) (by omega), m0 _ _ (by omega) (by omega)⟩), fun i hi => ?_, fun y hy => ?_, fun y hy => ?_⟩
  · exact (li i hi).eq (fun x k z => s0 _ _ _ (by omega) (by omega)) (fun f a b => m0 _ _ (by omega) (by omega)) (fun f b a c => m0 _ _ (by omega) (by omega))
  · exact (gt y hy).eq (fun k => s0 _ _ _ (by omega) (by omega)) (by rw [out_2]) (fun f a b => m0 _ _ (by omega) (by omega)) (fun n hn => m0 _ _ (by omega) (by omega))
  · exact (fl y hy).eq (fun x w z k => s0 _ _ _ (by omega) (by omega)) (fun f i k => m0 _ _ (by omega) (by omega)) (by omega) (by omega)
/-! a message comes -/
theorem Rel.msg {H TM L p kd g m b : Nat} {S T : St} {a x c : Int32} (h : Rel H TM L S T) (hT : TM < 2 ^ 20) (hL : L < 2 ^ 20) (hH : H + 1 < 2 ^ 30) (k1 : 1 ≤ kd) (k2 : kd ≤ 11) (hg : g < 3) (hm : m < 6) (e0 : S.1 5 p 0 = nI kd) (e3 : S.1 5 p 3 = a) (e4 : S.1 5 p 4 = x) (e5 : S.1 5 p 5 = c) (h9 : kd = 9 ∨ kd = 11 → b < 64 ∧ x = nI b) (h10 : kd = 10 → x = -1 ∨ ∃ q, q < 6 ∧ x = nI q) :
    Rel (H + 1) TM L (tk_dl S p kd g m) (ml_msg T kd g m b a x c) := by
  have up : ∀ {S' T' : St}, Rel H TM L S' T' → Rel (H + 1) TM L S' T' := fun q => q.mono (by omega) (Nat.le_refl _) (Nat.le_refl _)
  have ti := h.time
  have t0 := h.time0 hT
  obtain ⟨-, hd, n, em, bm, li, gt, fl⟩ := id h
  rcases (show kd = 1 ∨ kd = 2 ∨ kd = 10 ∨ kd = 11 ∨ (3 ≤ kd ∧ kd ≤ 9) by omega) with rfl | rfl | rfl | rfl | ⟨k3, k9⟩
  · rw [tk_dl_1, ml_msg_1, e3, e4]
    obtain ⟨a1, a2, a3⟩ := (fl g hg).req (m := m) (a := a) (e := decide (x = 1)) (t := S.1 9 0 4) n em.th (em _ 1 (by omega) (by omega)) hg hm ti t0 hd.1 (by omega)
    exact h.floor (.req hm) (.req hm) a1 a2 (hd_next hd hH a3) hH
  · rw [tk_dl_2, ml_msg_2, e3]
    obtain ⟨a1, a2, a3⟩ := (fl g hg).rel (m := m) (a := a) (t := S.1 9 0 4) n em.th hg hm ti
    exact up (h.floor (.rel hm) (.rel hm) a1 a2 (hd_same hd a3) (by omega))
  · rw [tk_dl_10, ml_msg_10, e3, e4]
    exact up (h.gate (h10 rfl) (by omega))
  · obtain ⟨hb, ex⟩ := h9 (Or.inr rfl)
    rw [tk_dl_11, ml_msg_11, e3, e4, e5, ex]
    exact up (h.unit hg hm hb ti t0 (by omega))
  · have e1 : tk_dl S p kd g m = me_hear S (6 * g + m) p (S.1 9 0 4) := by
      unfold tk_dl
      rw [if_neg (by omega), if_neg (by omega), if_neg (by omega), if_neg (by omega)]
    have e2 : ml_msg T kd g m b a x c = ml_hear T (6 * g + m) kd b a x c := by
      unfold ml_msg
      rw [if_neg (by omega), if_neg (by omega), if_neg (by omega), if_neg (by omega)]
    rw [e1, e2]
    exact up (h.hear (by omega) hL (by omega) k3 k9 e0 e3 e4 e5 (fun z => h9 (Or.inl z)) ti)
theorem Rel.mi {H TM L g : Nat} {S T : St} (h : Rel H TM L S T) (hg : g < 3) : MI T g := by
  obtain ⟨-, -, n, -, -, -, -, fl⟩ := h
  have f := (fl g hg).1
  refine ⟨n.mo, ?_, ?_⟩
  · have : S.1 8 (2 * g) 0 = T.2.2.1 26 g := f.2.2.2.1 0 (by omega)
    rw [← this]; exact f.1.2.2.1
  · rcases f.ho with ⟨-, z⟩ | ⟨q, hq, -, z, -⟩
    · exact Or.inl z
    · exact Or.inr ⟨q, hq, z⟩
theorem Rel.fli {H TM L g : Nat} {S T : St} (h : Rel H TM L S T) (hg : g < 3) : FlI S g := by
  obtain ⟨-, -, n, -, -, -, -, fl⟩ := h
  exact (fl g hg).1.1
theorem Rel.nok {H TM L : Nat} {S T : St} (h : Rel H TM L S T) : NetOK S := by
  obtain ⟨-, -, n, -⟩ := h
  exact n.ok
/-- what message k says on both sides -/
theorem Rel.say {H TM L k : Nat} {S T : St} (h : Rel H TM L S T) (hk : nI k < S.1 6 0 2) (hk6 : k < 60) : ComOK T k ∧ nt_at S k < 61 ∧ (RK T k = 10 → T.2.2.1 4 (6 * k + 4) = -1 ∨ ∃ q, q < 6 ∧ T.2.2.1 4 (6 * k + 4) = nI q) ∧ ∀ j, j < 6 → S.1 5 (nt_at S k) j = T.2.2.1 4 (6 * k + j) := by
  obtain ⟨-, -, n, -⟩ := id h
  obtain ⟨a1, a2, ⟨kn, gn, mn, v1, v2, v3, v4, v5, v6, v7, v8, v9⟩, a4⟩ := n.atk hk hk6
  have r1 : RK T k = kn := by unfold RK; rw [v5, nI_clamp (by omega)]
  have r2 : RG T k = gn := by unfold RG; rw [v6, nI_clamp (by omega)]
  have r3 : RM T k = mn := by unfold RM; rw [v7, nI_clamp (by omega)]
  refine ⟨⟨a4, by omega, by omega, by omega, by omega, by rw [r1]; exact v5, by rw [r2]; exact v6, by rw [r3]; exact v7, fun q => ?_, by rw [r2]; exact h.mi v3⟩, a1, by rw [r1]; exact v9, a2⟩
  rw [r1] at q
  obtain ⟨bn, hb, eb⟩ := v8 q
  have r4 : RB T k = bn := by unfold RB; rw [eb, nI_clamp (by omega)]
  rw [r4]; exact ⟨hb, eb⟩
theorem Rel.del {H TM L k : Nat} {S T S' T' : St} (h : Rel H TM L S T) (h' : Rel H TM L S' T') (hT : TM < 2 ^ 20) (hL : L < 2 ^ 20) (hH : H + 1 < 2 ^ 30) (hk : nI k < S.1 6 0 2) (hk6 : k < 60) (e5 : ∀ j, S'.1 5 (nt_at S k) j = S.1 5 (nt_at S k) j) :
    DlOK S' (nt_at S k) ∧ Rel (H + 1) TM L (tk_del S' (nt_at S k)) (ml_msg T' (RK T k) (RG T k) (RM T k) (RB T k) (T.2.2.1 4 (6 * k + 3)) (T.2.2.1 4 (6 * k + 4)) (T.2.2.1 4 (6 * k + 5))) := by
  obtain ⟨⟨c1, c2, c3, c4, c5, c6, c7, c8, c9, c10⟩, a1, a2, a3⟩ := h.say hk hk6
  have s0 : S'.1 5 (nt_at S k) 0 = nI (RK T k) := by rw [e5, a3 0 (by omega)]; exact c6
  have s1 : S'.1 5 (nt_at S k) 1 = nI (RG T k) := by rw [e5, a3 1 (by omega)]; exact c7
  have s2 : S'.1 5 (nt_at S k) 2 = nI (RM T k) := by rw [e5, a3 2 (by omega)]; exact c8
  have r1 : MK S' (nt_at S k) = RK T k := by unfold MK; rw [s0, nI_clamp (by omega)]
  have r2 : MG S' (nt_at S k) = RG T k := by unfold MG; rw [s1, nI_clamp (by omega)]
  have r3 : MM S' (nt_at S k) = RM T k := by unfold MM; rw [s2, nI_clamp (by omega)]
  refine ⟨⟨a1, h'.nok, by omega, by omega, by omega, by omega, by rw [r1]; exact s0, by rw [r2]; exact s1, by rw [r3]; exact s2, by rw [r2]; exact h'.fli c4⟩, ?_⟩
  unfold tk_del
  rw [r1, r2, r3]
  exact h'.msg hT hL hH c2 c3 c4 c5 s0 (by rw [e5, a3 3 (by omega)]) (by rw [e5, a3 4 (by omega)]) (by rw [e5, a3 5 (by omega)]) c9 a2
theorem Rel.carry {H TM L k : Nat} {S T : St} (h : Rel H TM L S T) (hT : TM < 2 ^ 20) (hL : L < 2 ^ 20) (hH : H + 1 < 2 ^ 30) (hk : nI k < S.1 6 0 2) (hk6 : k < 60) : DlOK (nt_out S k) (nt_at S k) ∧ Rel (H + 1) TM L (tk_del (nt_out S k) (nt_at S k)) (ml_com T k true) := by
  have := h.del (h.out hk hk6 (by omega)) hT hL hH hk hk6 (fun j => out_get (by decide) (by omega))
  unfold ml_com
  rw [if_pos rfl]
  exact this
theorem Rel.twice {H TM L k : Nat} {S T : St} (h : Rel H TM L S T) (hT : TM < 2 ^ 20) (hL : L < 2 ^ 20) (hH : H + 1 < 2 ^ 30) (hk : nI k < S.1 6 0 2) (hk6 : k < 60) : DlOK S (nt_at S k) ∧ Rel (H + 1) TM L (tk_del S (nt_at S k)) (ml_com T k false) := by
  have := h.del h hT hL hH hk hk6 (fun j => rfl)
  unfold ml_com
  rw [if_neg (by decide)]
  exact this
/-! what a step leaves to the other side -/
def KeM (T T' : St) : Prop := T'.1 = T.1 ∧ T'.2.1 = T.2.1 ∧ T'.2.2.2 = T.2.2.2 ∧ T'.2.2.1 0 0 = T.2.2.1 0 0
theorem KeM.rf {T : St} : KeM T T := ⟨rfl, rfl, rfl, rfl⟩
theorem KeM.tr {T U V : St} (h : KeM T U) (k : KeM U V) : KeM T V := ⟨k.1.trans h.1, k.2.1.trans h.2.1, k.2.2.1.trans h.2.2.1, k.2.2.2.trans h.2.2.2⟩
theorem KeM.set {T : St} {f i : Nat} {v : Int32} (h : f ≠ 0) : KeM T (sm T f i v) := ⟨rfl, rfl, rfl, by rw [sm_get, if_neg (by omega)]⟩
theorem KeM.lc {g : Nat} {T U : St} (h : LcM g T U) : KeM T U := ⟨h.1, h.2.1, h.2.2.1, h.2.2.2 0 0 (by decide) (by decide) (by decide) (by decide) (by omega) (by omega)⟩
theorem KeM.mj {i : Nat} {T U : St} (h : MiJ i T U) : KeM T U := ⟨h.1, h.2.1, h.2.2.1, h.2.2.2 0 0 (by omega) (by omega)⟩
theorem KeM.send {T : St} {kd g m a b e : Int32} : KeM T (ml_send T kd g m a b e) := KeM.lc (g := 0) LcM.send
theorem KeM.gate {g : Nat} {T : St} {a b : Int32} : KeM T (ml_gate T g a b) := by
  unfold ml_gate
  split
  · exact .rf
  · split
    · exact .rf
    · simp only
      refine KeM.tr (KeM.tr ?_ (.set (by decide))) (.set (by decide))
      split
      · exact .rf
      · have := mcg_1 (S := T) (g := g) 64
        exact ⟨this.1, this.2.1, this.2.2, by rw [mcg_get, if_neg (by omega)]⟩
theorem KeM.unit {g m b : Nat} {T : St} {a c : Int32} : KeM T (ml_unit T g m b a c) := by
  unfold ml_unit
  split
  · have h1 : KeM T (ml_u0 T g b a) := by
      unfold ml_u0
      exact ((KeM.set (by decide)).tr (.set (by decide))).tr (.set (by decide))
    refine h1.tr ?_
    have := mu_1 (S := ml_u0 T g b a) (g := g) (m := nI m) (a := a) (b := nI b) (c := c) 6
    exact ⟨this.1, this.2.1, this.2.2, mu_get (by decide) (by decide) (by decide) 6⟩
  · exact .set (by decide)
theorem KeM.hear {i kd b : Nat} {T : St} {a x c : Int32} (hb : kd = 9 ∨ ¬ (3 ≤ kd ∧ kd ≤ 8) → b < 64) : KeM T (ml_hear T i kd b a x c) := by
  unfold ml_hear
  split
  · exact .rf
  · unfold ml_hr
    split
    · split
      · exact ((KeM.set (by decide)).tr (.set (by decide))).tr (.set (by decide))
      · exact .rf
    · split
      · split
        · exact (KeM.set (by decide)).tr (.set (by decide))
        · exact .rf
      · split
        · split
          · exact .set (by decide)
          · exact .rf
        · split
          · split
            · exact .set (by decide)
            · exact .rf
          · split
            · split
              · exact .set (by decide)
              · exact .rf
            · split
              · split
                · exact .rf
                · exact (KeM.set (by decide)).tr (.set (by decide))
              · exact .mj (MiJ.li (hb (by omega)))
theorem KeM.com {k : Nat} {T : St} {q : Bool} (h : ComOK T k) : KeM T (ml_com T k q) := by
  obtain ⟨c1, c2, c3, c4, c5, c6, c7, c8, c9, c10⟩ := h
  have h1 : KeM T (if q = true then ml_out T k else T) := by
    split
    · have := ml_out_1 (S := T) (k := k)
      exact ⟨this.1, this.2.1, this.2.2, ml_out_get (by decide) (by decide)⟩
    · exact .rf
  unfold ml_com
  refine h1.tr ?_
  generalize (if q = true then ml_out T k else T) = U
  unfold ml_msg
  split
  · exact .lc (.req c5)
  · split
    · exact .lc (.rel c5)
    · split
      · exact .gate
      · split
        · exact .unit
        · exact .hear (fun z => (c9 (by omega)).1)
def KeC (S S' : St) : Prop := S'.2.2 = S.2.2
theorem KeC.del {S : St} {p : Nat} (h : DlOK S p) : KeC S (tk_del S p) := by
  have hm : MM S p < 6 := h.2.2.2.2.2.1
  unfold tk_del tk_dl KeC
  split
  · rw [(Loc.req hm).1]
  · split
    · rw [(Loc.rel hm).1]
    · split
      · unfold gt_hear
        split
        · split
          · split <;> rfl
          · rfl
        · rfl
      · split
        · unfold gt_unit
          split
          · rw [pass_2]; unfold gt_pass; simp only; rw [ot_2]; rfl
          · rfl
        · rw [LiL.mhear.1]
