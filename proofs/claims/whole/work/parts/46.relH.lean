/-! members -/
def EM (S T : St) : Prop := ∀ i k, i < 18 → k < 10 → S.1 4 i k = T.2.2.1 (5 + k) i
def BM (T : St) : Prop := ∀ i, i < 18 → (∃ s, s ≤ 4 ∧ T.2.2.1 7 i = nI s) ∧ ∃ s, s ≤ 64 ∧ T.2.2.1 12 i = nI s
theorem EM.set {S T : St} (h : EM S T) {i k f : Nat} {v : Int32} (hf : f = 5 + k) : EM (sc S 4 i k v) (sm T f i v) := by
  intro j q hj hq
  rw [sc_get, sm_get]
  by_cases z : j = i ∧ q = k
  · rw [if_pos ⟨rfl, z⟩, if_pos (by omega)]
  · rw [if_neg (by omega), if_neg (by omega)]; exact h j q hj hq
theorem EM.eq {S T S' T' : St} (h : EM S T) (hS : ∀ i k, S'.1 4 i k = S.1 4 i k) (hT : ∀ f i, 5 ≤ f → f ≤ 14 → T'.2.2.1 f i = T.2.2.1 f i) : EM S' T' := fun i k hi hk => by
  rw [hS, hT _ _ (by omega) (by omega)]; exact h i k hi hk
theorem BM.eq {T T' : St} (h : BM T) (hT : ∀ i, T'.2.2.1 7 i = T.2.2.1 7 i ∧ T'.2.2.1 12 i = T.2.2.1 12 i) : BM T' := fun i hi => by
  rw [(hT i).1, (hT i).2]; exact h i hi
theorem bm_sm {T : St} (h : BM T) {f i : Nat} {v : Int32} (h7 : f ≠ 7) (h12 : f ≠ 12) : BM (sm T f i v) := h.eq (fun j => ⟨by rw [sm_get, if_neg (by omega)], by rw [sm_get, if_neg (by omega)]⟩)
theorem bm_s7 {T : St} (h : BM T) {i s : Nat} (hs : s ≤ 4) : BM (sm T 7 i (nI s)) := fun j hj => by
  rw [sm_get, sm_get, if_neg (show ¬ (12 = 7 ∧ j = i) by omega)]
  refine ⟨?_, (h j hj).2⟩
  split
  · exact ⟨s, hs, rfl⟩
  · exact (h j hj).1
theorem bm_s12 {T : St} (h : BM T) {i s : Nat} (hs : s ≤ 64) : BM (sm T 12 i (nI s)) := fun j hj => by
  rw [sm_get, sm_get, if_neg (show ¬ (7 = 12 ∧ j = i) by omega)]
  refine ⟨(h j hj).1, ?_⟩
  split
  · exact ⟨s, hs, rfl⟩
  · exact (h j hj).2
theorem EM.th {S T : St} (h : EM S T) : RTh S T := fun i hi => h i 0 hi (by omega)
/-! listeners -/
def RLi (TM : Nat) (S T : St) (i : Nat) : Prop := (∀ k, k < 9 → S.1 3 i k = T.2.2.1 (15 + k) i) ∧ b1 (T.2.2.1 16 i) ∧ T.2.2.1 17 i = nI (mN T i) ∧ mN T i ≤ 64 + TM ∧ (T.2.2.1 16 i ≠ 0 → (∀ b, mN T i ≤ b → b < mN T i + 16 → (b < 64 → (bq (S.1 3 i 9) (b % 16) = true ↔ T.2.2.1 24 (64 * i + b) ≠ 0) ∧ (T.2.2.1 24 (64 * i + b) ≠ 0 → S.1 12 i (b % 16) = T.2.2.1 25 (64 * i + b))) ∧ (64 ≤ b → bq (S.1 3 i 9) (b % 16) = false)) ∧ ∀ b, mN T i + 16 ≤ b → b < 64 → T.2.2.1 24 (64 * i + b) = 0)
theorem mN_eq {T T' : St} {i : Nat} (h : T'.2.2.1 17 i = T.2.2.1 17 i) : mN T' i = mN T i := by unfold mN; rw [h]
theorem RLi.eq {TM i : Nat} {S T S' T' : St} (h : RLi TM S T i) (hS : ∀ a k, a = 3 ∨ a = 12 → S'.1 a i k = S.1 a i k) (hT : ∀ f, 15 ≤ f → f ≤ 23 → T'.2.2.1 f i = T.2.2.1 f i) (hT2 : ∀ f b, f = 24 ∨ f = 25 → b < 64 → T'.2.2.1 f (64 * i + b) = T.2.2.1 f (64 * i + b)) : RLi TM S' T' i := by
  obtain ⟨h1, h2, h3, h4, h5⟩ := h
  have en : mN T' i = mN T i := mN_eq (hT 17 (by decide) (by decide))
  refine ⟨fun k hk => by rw [hS 3 k (by omega), hT _ (by omega) (by omega)]; exact h1 k hk, by rw [hT 16 (by decide) (by decide)]; exact h2, by rw [hT 17 (by decide) (by decide), en]; exact h3, by rw [en]; exact h4, ?_⟩
  rw [hT 16 (by decide) (by decide), en]
  intro q
  obtain ⟨a1, a2⟩ := h5 q
  refine ⟨fun b c1 c2 => ⟨fun c3 => ?_, fun c3 => ?_⟩, fun b c1 c2 => ?_⟩
  · rw [hS 3 9 (by omega), hS 12 _ (by omega), hT2 24 b (by omega) c3, hT2 25 b (by omega) c3]; exact (a1 b c1 c2).1 c3
  · rw [hS 3 9 (by omega)]; exact (a1 b c1 c2).2 c3
  · rw [hT2 24 b (by omega) c2]; exact a2 b c1 c2
theorem RLi.late {TM i : Nat} {S T : St} (h : RLi TM S T i) : RLi TM (li_late S i) (sm T 22 i (T.2.2.1 22 i + 1)) i := by
  obtain ⟨h1, h2, h3, h4, h5⟩ := h
  have en : mN (sm T 22 i (T.2.2.1 22 i + 1)) i = mN T i := mN_eq (by rw [sm_get, if_neg (by omega)])
  have t0 : ∀ f j, f ≠ 22 → (sm T 22 i (T.2.2.1 22 i + 1)).2.2.1 f j = T.2.2.1 f j := fun f j q => by rw [sm_get, if_neg (by omega)]
  have e0 : ∀ a k, ¬ (a = 3 ∧ k = 7) → (li_late S i).1 a i k = S.1 a i k := fun a k q => by unfold li_late; rw [sc_get, if_neg (by omega)]
  refine ⟨fun k hk => ?_, by rw [t0 _ _ (by decide)]; exact h2, by rw [t0 _ _ (by decide), en]; exact h3, by rw [en]; exact h4, ?_⟩
  · by_cases z : k = 7
    · subst z
      have := h1 7 (by omega)
      unfold li_late
      rw [sc_get, if_pos ⟨rfl, rfl, rfl⟩, sm_get, if_pos ⟨rfl, rfl⟩, this]
    · rw [e0 _ _ (by omega), t0 _ _ (by omega)]; exact h1 k hk
  · rw [t0 _ _ (by decide), en]
    intro q
    obtain ⟨a1, a2⟩ := h5 q
    refine ⟨fun b c1 c2 => ⟨fun c3 => ?_, fun c3 => ?_⟩, fun b c1 c2 => ?_⟩
    · rw [e0 _ _ (by omega), e0 _ _ (by omega), t0 _ _ (by decide), t0 _ _ (by decide)]; exact (a1 b c1 c2).1 c3
    · rw [e0 _ _ (by omega)]; exact (a1 b c1 c2).2 c3
    · rw [t0 _ _ (by decide)]; exact a2 b c1 c2
theorem wi_win {b n : Nat} (hb : b < 2 ^ 30) (hn : n < 2 ^ 30) : wi (nI b - nI n) 0 15 = true ↔ n ≤ b ∧ b < n + 16 := by
  unfold wi
  rw [decide_eq_true_eq, Int32.lt_iff_toInt_lt, Int32.le_iff_toInt_le, pk_sub_toInt hb hn, show (0 : Int32).toInt = 0 from rfl, show (15 : Int32).toInt = 15 from rfl]
  omega
theorem RLi.hear2 {TM i b : Nat} {S T : St} {a c : Int32} (h : RLi TM S T i) (hTM : TM < 2 ^ 20) (hg : T.2.2.1 16 i ≠ 0) (ha : a = T.2.2.1 15 i) (hb : b < 64) : RLi TM (li_hear2 S i (nI b) c) (ml_li2 T i b a c) i := by
  obtain ⟨h1, h2, h3, h4, h5⟩ := id h
  obtain ⟨a1, a2⟩ := h5 hg
  have k2 : S.1 3 i 2 = nI (mN T i) := (h1 2 (by omega)).trans h3
  have l1 : nI b < S.1 3 i 2 ↔ b < mN T i := by rw [k2, nI_ltI (by omega) (by omega)]
  have l2 : S.1 3 i 2 + 16 ≤ nI b ↔ mN T i + 16 ≤ b := by rw [k2, show (16 : Int32) = nI 16 from rfl, nI_add, nI_leI (by omega) (by omega)]
  have l3 : li_kept S i (nI b) = bq (S.1 3 i 9) (b % 16) := kept_bq (by omega)
  have lg : ml_lg T i b a = true ↔ (mN T i ≤ b ∧ b < mN T i + 16) ∧ T.2.2.1 24 (64 * i + b) = 0 := by
    unfold ml_lg
    rw [decide_eq_true_eq, h3, wi_win (by omega) (by omega)]
    exact ⟨fun z => z.2.2, fun z => ⟨ha, hg, z⟩⟩
  unfold li_hear2 ml_li2
  by_cases w1 : b < mN T i
  · rw [if_pos (l1.mpr w1), if_neg (fun z => by have := (lg.mp z).1.1; omega)]; exact h.late
  · rw [if_neg (fun z => w1 (l1.mp z))]
    by_cases w2 : mN T i + 16 ≤ b
    · rw [if_pos (l2.mpr w2), if_neg (fun z => by have := (lg.mp z).1.2; omega)]; exact h.late
    · rw [if_neg (fun z => w2 (l2.mp z)), l3]
      have hk := ((a1 b (by omega) (by omega)).1 hb).1
      by_cases w3 : T.2.2.1 24 (64 * i + b) = 0
      · rw [if_neg (fun z => (hk.mp z) w3), if_pos (lg.mpr ⟨⟨by omega, by omega⟩, w3⟩)]
        have es : sl16 (nI b) = b % 16 := sl16_nI (by omega)
        have eb : bt16 (nI b) = (1 : Int32) <<< (nI (b % 16) &&& 31) := by unfold bt16; rw [es]
        rw [es, eb]
        generalize hS' : sc (sc S 3 i 9 (S.1 3 i 9 ||| ((1 : Int32) <<< (nI (b % 16) &&& 31)))) 12 i (b % 16) c = S'
        generalize hT' : sm (sm T 24 (64 * i + b) 1) 25 (64 * i + b) c = T'
        have e3 : ∀ k, k ≠ 9 → S'.1 3 i k = S.1 3 i k := fun k q => by rw [← hS', sc_get, if_neg (by omega), sc_get, if_neg (by omega)]
        have e9 : S'.1 3 i 9 = S.1 3 i 9 ||| ((1 : Int32) <<< (nI (b % 16) &&& 31)) := by rw [← hS', sc_get, if_neg (by omega), sc_get, if_pos ⟨rfl, rfl, rfl⟩]
        have e12 : ∀ k, S'.1 12 i k = if k = b % 16 then c else S.1 12 i k := fun k => by
          rw [← hS', sc_get]
          by_cases z : k = b % 16
          · rw [if_pos ⟨rfl, rfl, z⟩, if_pos z]
          · rw [if_neg (by omega), if_neg z, sc_get, if_neg (by omega)]
        have t0 : ∀ f j, f ≠ 24 → f ≠ 25 → T'.2.2.1 f j = T.2.2.1 f j := fun f j q1 q2 => by rw [← hT', sm_get, if_neg (by omega), sm_get, if_neg (by omega)]
        have t24 : ∀ j, T'.2.2.1 24 j = if j = 64 * i + b then 1 else T.2.2.1 24 j := fun j => by
          rw [← hT', sm_get, if_neg (by omega), sm_get]
          by_cases z : j = 64 * i + b
          · rw [if_pos ⟨rfl, z⟩, if_pos z]
          · rw [if_neg (by omega), if_neg z]
        have t25 : ∀ j, T'.2.2.1 25 j = if j = 64 * i + b then c else T.2.2.1 25 j := fun j => by
          rw [← hT', sm_get]
          by_cases z : j = 64 * i + b
          · rw [if_pos ⟨rfl, z⟩, if_pos z]
          · rw [if_neg (by omega), if_neg z, sm_get, if_neg (by omega)]
        have en : mN T' i = mN T i := mN_eq (t0 _ _ (by decide) (by decide))
        refine ⟨fun k hk => by rw [e3 k (by omega), t0 _ _ (by omega) (by omega)]; exact h1 k hk, by rw [t0 _ _ (by decide) (by decide)]; exact h2, by rw [t0 _ _ (by decide) (by decide), en]; exact h3, by rw [en]; exact h4, fun _ => ?_⟩
        rw [en, e9]
        refine ⟨fun b' c1 c2 => ?_, fun b' c1 c2 => ?_⟩
        · rw [rb_or (by omega), e12, t24, t25]
          by_cases z : b' = b
          · subst z
            refine ⟨fun c3 => ⟨?_, ?_⟩, fun c3 => by omega⟩
            · rw [if_pos rfl]; simp [n10]
            · intro _; rw [if_pos rfl, if_pos rfl]
          · have zm : ¬ b % 16 = b' % 16 := by omega
            rw [decide_eq_false zm, Bool.or_false, if_neg (show ¬ 64 * i + b' = 64 * i + b by omega), if_neg (show ¬ b' % 16 = b % 16 by omega), if_neg (show ¬ 64 * i + b' = 64 * i + b by omega)]
            exact a1 b' c1 c2
        · rw [t24, if_neg (by omega)]; exact a2 b' c1 c2
      · rw [if_pos (hk.mpr w3), if_neg (fun z => w3 (lg.mp z).2)]; exact h.late
theorem RLi.begin {TM i b : Nat} {S T : St} {a t : Int32} (h : RLi TM S T i) (ht : t = T.2.2.1 1 0) (hb : b < 64) : RLi TM (li_begin S i a (nI b) t) (mcl (ml_bg0 T i a (nI b)) i 64) i := by
  obtain ⟨h1, h2, h3, h4, h5⟩ := h
  have t0 : ∀ f, f ≠ 24 → (mcl (ml_bg0 T i a (nI b)) i 64).2.2.1 f i = (ml_bg0 T i a (nI b)).2.2.1 f i := fun f q => by rw [mcl_get, if_neg (by omega)]
  have t24 : ∀ b', b' < 64 → (mcl (ml_bg0 T i a (nI b)) i 64).2.2.1 24 (64 * i + b') = 0 := fun b' q => by rw [mcl_get, if_pos (by omega)]
  have k17 : (mcl (ml_bg0 T i a (nI b)) i 64).2.2.1 17 i = nI b := by rw [t0 _ (by decide)]; unfold ml_bg0; simp [sm_get]
  have k16 : (mcl (ml_bg0 T i a (nI b)) i 64).2.2.1 16 i = 1 := by rw [t0 _ (by decide)]; unfold ml_bg0; simp [sm_get]
  have en : mN (mcl (ml_bg0 T i a (nI b)) i 64) i = b := by unfold mN; rw [k17, nI_clamp (by omega)]
  have e9 : (li_begin S i a (nI b) t).1 3 i 9 = 0 := by unfold li_begin; simp [sc_get]
  refine ⟨fun k hk => ?_, by rw [k16]; exact Or.inr rfl, by rw [k17, en], by rw [en]; omega, fun _ => ?_⟩
  · rw [t0 _ (by omega)]
    have e5 := h1 5 (by omega)
    have e6 := h1 6 (by omega)
    have e7 := h1 7 (by omega)
    have e8 := h1 8 (by omega)
    unfold li_begin ml_bg0
    rcases (show k = 0 ∨ k = 1 ∨ k = 2 ∨ k = 3 ∨ k = 4 ∨ k = 5 ∨ k = 6 ∨ k = 7 ∨ k = 8 by omega) with rfl | rfl | rfl | rfl | rfl | rfl | rfl | rfl | rfl <;> simp [sc_get, sm_get] <;> first | exact ht | exact e5 | exact e6 | exact e7 | exact e8
  · rw [en, e9]
    refine ⟨fun b' c1 c2 => ⟨fun c3 => ?_, fun _ => rb_z _⟩, fun b' c1 c2 => t24 b' c2⟩
    rw [t24 b' c3, rb_z]
    exact ⟨⟨fun z => (by cases z), fun z => absurd rfl z⟩, fun z => absurd rfl z⟩
theorem RLi.hear {TM i b : Nat} {S T : St} {a c t : Int32} (h : RLi TM S T i) (hTM : TM < 2 ^ 20) (ht : t = T.2.2.1 1 0) (hb : b < 64) : RLi TM (li_hear S i a (nI b) c t) (ml_li T i b a c) i := by
  have k0 : S.1 3 i 0 = T.2.2.1 15 i := h.1 0 (by omega)
  have k1 : S.1 3 i 1 = T.2.2.1 16 i := h.1 1 (by omega)
  unfold li_hear ml_li
  rw [k0, k1]
  by_cases q1 : a ≤ T.2.2.1 15 i
  · simp only [if_pos q1]
    have late : ¬ (a = T.2.2.1 15 i ∧ ¬ T.2.2.1 16 i = 0) → RLi TM (li_late S i) (ml_li2 T i b a c) i := fun z => by
      unfold ml_li2
      rw [if_neg]
      · exact h.late
      · intro y
        unfold ml_lg at y
        rw [decide_eq_true_eq] at y
        exact z ⟨y.1, y.2.1⟩
    by_cases q2 : a < T.2.2.1 15 i
    · rw [if_pos q2]
      exact late (fun z => by rw [z.1, Int32.lt_iff_toInt_lt] at q2; omega)
    · rw [if_neg q2]
      have ea : a = T.2.2.1 15 i := i32_le_antisymm q1 (i32_nlt.mp q2)
      by_cases q3 : T.2.2.1 16 i = 0
      · rw [if_pos ⟨ea, q3⟩]; exact late (fun z => z.2 q3)
      · rw [if_neg (fun z => q3 z.2)]; exact h.hear2 hTM q3 ea hb
  · have n1 : ¬ a < T.2.2.1 15 i := fun z => q1 (by rw [Int32.lt_iff_toInt_lt] at z; rw [Int32.le_iff_toInt_le]; omega)
    have n2 : ¬ (a = T.2.2.1 15 i ∧ T.2.2.1 16 i = 0) := fun z => q1 (by rw [z.1]; exact Int32.le_refl _)
    rw [if_neg n1, if_neg n2, if_neg q1, if_neg q1]
    refine (h.begin ht hb).hear2 hTM ?_ ?_ hb
    · rw [mcl_get, if_neg (by omega)]; unfold ml_bg0; simp [sm_get]
    · rw [mcl_get, if_neg (by omega)]; unfold ml_bg0; simp [sm_get]
theorem RLi.play {TM i : Nat} {S T : St} {t : Int32} (h : RLi TM S T i) (hTM : TM < 2 ^ 20) (ht : t = T.2.2.1 1 0) (hth : ¬ T.2.2.1 5 i = 0) : RLi (TM + 1) (li_play S i t) (ml_play T i) i := by
  obtain ⟨h1, h2, h3, h4, h5⟩ := id h
  have up : RLi (TM + 1) S T i := ⟨h1, h2, h3, by omega, h5⟩
  have k1 : S.1 3 i 1 = T.2.2.1 16 i := h1 1 (by omega)
  have k2 : S.1 3 i 2 = T.2.2.1 17 i := h1 2 (by omega)
  have k3 : S.1 3 i 3 = T.2.2.1 18 i := h1 3 (by omega)
  have k4 : S.1 3 i 4 = T.2.2.1 19 i := h1 4 (by omega)
  have k5 : S.1 3 i 5 = T.2.2.1 20 i := h1 5 (by omega)
  have k6 : S.1 3 i 6 = T.2.2.1 21 i := h1 6 (by omega)
  have k8 : S.1 3 i 8 = T.2.2.1 23 i := h1 8 (by omega)
  have k0 : S.1 3 i 0 = T.2.2.1 15 i := h1 0 (by omega)
  have k7 : S.1 3 i 7 = T.2.2.1 22 i := h1 7 (by omega)
  unfold li_play ml_play
  rw [if_neg hth, k1, k3, ← ht]
  by_cases q1 : T.2.2.1 16 i = 0
  · rw [if_pos q1, if_pos q1]; exact up
  rw [if_neg q1, if_neg q1]
  by_cases q2 : 2 ≤ t - T.2.2.1 18 i
  · rw [if_pos q2, if_pos q2]
    obtain ⟨a1, a2⟩ := h5 q1
    have g1 : T.2.2.1 16 i = 1 := by
      rcases h2 with z | z
      · exact absurd z q1
      · exact z
    have hw := a1 (mN T i) (Nat.le_refl _) (by omega)
    have ek : li_kept S i (S.1 3 i 2) = mp_is T i := by
      rw [k2, h3, kept_bq (by omega)]
      unfold mp_is
      by_cases z : mN T i < 64
      · have z1 : ¬ (64 : Int32) ≤ T.2.2.1 17 i := by rw [h3]; exact nI_ge (b := 64) z (by decide)
        have hz := (hw.1 z).1
        cases hb : bq (S.1 3 i 9) (mN T i % 16)
        · symm
          refine decide_eq_false (fun y => ?_)
          rw [hz.mpr y.2] at hb
          cases hb
        · symm
          exact decide_eq_true ⟨z1, hz.mp hb⟩
      · have z1 : (64 : Int32) ≤ T.2.2.1 17 i := by rw [h3]; exact nI_le (a := 64) (by omega) (by omega)
        rw [hw.2 (by omega), decide_eq_false (fun y => y.1 z1)]
    have es : sl16 (S.1 3 i 2) = mN T i % 16 := by rw [k2, h3, sl16_nI (by omega)]
    have ebt : bt16 (S.1 3 i 2) = (1 : Int32) <<< (nI (mN T i % 16) &&& 31) := by unfold bt16; rw [es]
    rw [ek]
    by_cases hp : mp_is T i = true
    · have hk := hp
      unfold mp_is at hk
      rw [decide_eq_true_eq] at hk
      have n64 : mN T i < 64 := by
        rcases Nat.lt_or_ge (mN T i) 64 with z | z
        · exact z
        · exact absurd (by rw [h3]; exact nI_le (a := 64) z (by omega)) hk.1
      have ev := (hw.1 n64).2 hk.2
      simp only [if_pos hp]
      have eT : ml_p1 T i = sm (sm (sm T 23 i (T.2.2.1 23 i * 31 + T.2.2.1 25 (64 * i + mN T i))) 20 i (T.2.2.1 20 i + 1)) 19 i 0 := by
        unfold ml_p1
        rw [if_pos hp]
        simp only
        rw [sm_get, if_neg (by omega)]
      rw [eT]
      generalize hT' : ml_p2 (sm (sm (sm T 23 i (T.2.2.1 23 i * 31 + T.2.2.1 25 (64 * i + mN T i))) 20 i (T.2.2.1 20 i + 1)) 19 i 0) i = T'
      generalize hS' : sc (li_unit S i) 3 i 2 ((li_unit S i).1 3 i 2 + 1) = S'
      have t0 : ∀ f j, f ≠ 16 → f ≠ 17 → f ≠ 19 → f ≠ 20 → f ≠ 23 → T'.2.2.1 f j = T.2.2.1 f j := fun f j c1 c2 c3 c4 c5 => by
        rw [← hT']; unfold ml_p2; simp only
        rw [sm_get, if_neg (by omega), sm_get, if_neg (by omega), sm_get, if_neg (by omega), sm_get, if_neg (by omega), sm_get, if_neg (by omega)]
      have t17 : T'.2.2.1 17 i = nI (mN T i + 1) := by
        rw [← hT']; unfold ml_p2; simp [sm_get]
        rw [h3, nI_1]
      have t16 : T'.2.2.1 16 i = 1 := by rw [← hT']; unfold ml_p2; simp [sm_get]; decide
      have t19 : T'.2.2.1 19 i = 0 := by rw [← hT']; unfold ml_p2; simp [sm_get]
      have t20 : T'.2.2.1 20 i = T.2.2.1 20 i + 1 := by rw [← hT']; unfold ml_p2; simp [sm_get]
      have t23 : T'.2.2.1 23 i = T.2.2.1 23 i * 31 + T.2.2.1 25 (64 * i + mN T i) := by rw [← hT']; unfold ml_p2; simp [sm_get]
      have s0 : ∀ k, k ≠ 2 → k ≠ 4 → k ≠ 5 → k ≠ 8 → k ≠ 9 → S'.1 3 i k = S.1 3 i k := fun k c1 c2 c3 c4 c5 => by
        rw [← hS']; unfold li_unit li_add; simp only
        rw [sc_get, if_neg (by omega), sc_get, if_neg (by omega), sc_get, if_neg (by omega), sc_get, if_neg (by omega), sc_get, if_neg (by omega)]
      have s12 : ∀ k, S'.1 12 i k = S.1 12 i k := fun k => by
        rw [← hS']; unfold li_unit li_add; simp only
        rw [sc_get, if_neg (by omega), sc_get, if_neg (by omega), sc_get, if_neg (by omega), sc_get, if_neg (by omega), sc_get, if_neg (by omega)]
      have s2 : S'.1 3 i 2 = S.1 3 i 2 + 1 := by rw [← hS']; unfold li_unit li_add; simp [sc_get]
      have s4 : S'.1 3 i 4 = 0 := by rw [← hS']; unfold li_unit li_add; simp [sc_get]
      have s5 : S'.1 3 i 5 = S.1 3 i 5 + 1 := by rw [← hS']; unfold li_unit li_add; simp [sc_get]
      have s8 : S'.1 3 i 8 = S.1 3 i 8 * 31 + S.1 12 i (sl16 (S.1 3 i 2)) := by rw [← hS']; unfold li_unit li_add; simp [sc_get]
      have s9 : S'.1 3 i 9 = S.1 3 i 9 &&& (bt16 (S.1 3 i 2) ^^^ (-1)) := by rw [← hS']; unfold li_unit li_add; simp [sc_get]
      have en : mN T' i = mN T i + 1 := by unfold mN; rw [t17, nI_clamp (by omega)]; rfl
      refine ⟨fun k hk2 => ?_, by rw [t16]; exact Or.inr rfl, by rw [t17, en], by rw [en]; omega, fun _ => ?_⟩
      · rcases (show k = 0 ∨ k = 1 ∨ k = 2 ∨ k = 3 ∨ k = 4 ∨ k = 5 ∨ k = 6 ∨ k = 7 ∨ k = 8 by omega) with rfl | rfl | rfl | rfl | rfl | rfl | rfl | rfl | rfl
        · rw [s0 _ (by decide) (by decide) (by decide) (by decide) (by decide), t0 _ _ (by decide) (by decide) (by decide) (by decide) (by decide)]; exact k0
        · rw [s0 _ (by decide) (by decide) (by decide) (by decide) (by decide), k1, g1]; exact t16.symm
        · rw [s2, k2, h3, nI_1]; exact t17.symm
        · rw [s0 _ (by decide) (by decide) (by decide) (by decide) (by decide), t0 _ _ (by decide) (by decide) (by decide) (by decide) (by decide)]; exact k3
        · rw [s4]; exact t19.symm
        · rw [s5, k5]; exact t20.symm
        · rw [s0 _ (by decide) (by decide) (by decide) (by decide) (by decide), t0 _ _ (by decide) (by decide) (by decide) (by decide) (by decide)]; exact k6
        · rw [s0 _ (by decide) (by decide) (by decide) (by decide) (by decide), t0 _ _ (by decide) (by decide) (by decide) (by decide) (by decide)]; exact k7
        · rw [s8, k8, es, ev]; exact t23.symm
      · rw [en, s9, ebt]
        refine ⟨fun b c1 c2 => ?_, fun b c1 c2 => ?_⟩
        · rw [rb_clr (by omega) (by omega), s12, t0 24 _ (by decide) (by decide) (by decide) (by decide) (by decide), t0 25 _ (by decide) (by decide) (by decide) (by decide) (by decide)]
          by_cases z : b = mN T i + 16
          · have zm : mN T i % 16 = b % 16 := by omega
            rw [decide_eq_true zm]
            refine ⟨fun c3 => ?_, fun c3 => by simp⟩
            rw [a2 b (by omega) c3]
            exact ⟨by simp, fun y => absurd rfl y⟩
          · have zm : ¬ mN T i % 16 = b % 16 := by omega
            rw [decide_eq_false zm]
            simp only [Bool.not_false, Bool.and_true]
            exact a1 b (by omega) (by omega)
        · rw [t0 24 _ (by decide) (by decide) (by decide) (by decide) (by decide)]; exact a2 b (by omega) c2
    · simp only [if_neg hp]
      have hkf : bq (S.1 3 i 9) (mN T i % 16) = false := by
        have : li_kept S i (S.1 3 i 2) = bq (S.1 3 i 9) (mN T i % 16) := by rw [k2, h3, kept_bq (by omega)]
        rw [← this, ek]
        cases e : mp_is T i
        · rfl
        · exact absurd e hp
      have eT : ml_p1 T i = sm (sm (sm T 23 i (T.2.2.1 23 i * 31 + (-1))) 21 i (T.2.2.1 21 i + 1)) 19 i (T.2.2.1 19 i + 1) := by
        unfold ml_p1
        rw [if_neg hp]
        simp only
        rw [sm_get, if_neg (by omega), sm_get, if_neg (by omega), sm_get, if_neg (by omega)]
      rw [eT]
      generalize hT' : ml_p2 (sm (sm (sm T 23 i (T.2.2.1 23 i * 31 + (-1))) 21 i (T.2.2.1 21 i + 1)) 19 i (T.2.2.1 19 i + 1)) i = T'
      have eG : li_gap S i = if S.1 3 i 4 + 1 < 4 then sc (sc (sc S 3 i 6 (S.1 3 i 6 + 1)) 3 i 4 (S.1 3 i 4 + 1)) 3 i 8 (S.1 3 i 8 * 31 + (-1)) else sc (sc (sc (sc S 3 i 6 (S.1 3 i 6 + 1)) 3 i 4 (S.1 3 i 4 + 1)) 3 i 8 (S.1 3 i 8 * 31 + (-1))) 3 i 1 0 := by
        unfold li_gap li_add
        simp [sc_get]
      generalize hS' : sc (li_gap S i) 3 i 2 ((li_gap S i).1 3 i 2 + 1) = S'
      have t0 : ∀ f j, f ≠ 16 → f ≠ 17 → f ≠ 19 → f ≠ 21 → f ≠ 23 → T'.2.2.1 f j = T.2.2.1 f j := fun f j c1 c2 c3 c4 c5 => by
        rw [← hT']; unfold ml_p2; simp only
        rw [sm_get, if_neg (by omega), sm_get, if_neg (by omega), sm_get, if_neg (by omega), sm_get, if_neg (by omega), sm_get, if_neg (by omega)]
      have t17 : T'.2.2.1 17 i = nI (mN T i + 1) := by
        rw [← hT']; unfold ml_p2; simp [sm_get]
        rw [h3, nI_1]
      have t16 : T'.2.2.1 16 i = bI (decide (¬ 4 ≤ T.2.2.1 19 i + 1)) := by rw [← hT']; unfold ml_p2; simp [sm_get]
      have t19 : T'.2.2.1 19 i = T.2.2.1 19 i + 1 := by rw [← hT']; unfold ml_p2; simp [sm_get]
      have t21 : T'.2.2.1 21 i = T.2.2.1 21 i + 1 := by rw [← hT']; unfold ml_p2; simp [sm_get]
      have t23 : T'.2.2.1 23 i = T.2.2.1 23 i * 31 + (-1) := by rw [← hT']; unfold ml_p2; simp [sm_get]
      have s0 : ∀ a k, a ≠ 3 ∨ (k ≠ 1 ∧ k ≠ 2 ∧ k ≠ 4 ∧ k ≠ 6 ∧ k ≠ 8) → S'.1 a i k = S.1 a i k := fun a k c1 => by
        rw [← hS', sc_get, if_neg (by omega), eG]
        split
        · rw [sc_get, if_neg (by omega), sc_get, if_neg (by omega), sc_get, if_neg (by omega)]
        · rw [sc_get, if_neg (by omega), sc_get, if_neg (by omega), sc_get, if_neg (by omega), sc_get, if_neg (by omega)]
      have s1 : S'.1 3 i 1 = if S.1 3 i 4 + 1 < 4 then S.1 3 i 1 else 0 := by
        rw [← hS', sc_get, if_neg (by omega), eG]
        split <;> simp [sc_get]
      have s2 : S'.1 3 i 2 = S.1 3 i 2 + 1 := by
        rw [← hS', sc_get, if_pos ⟨rfl, rfl, rfl⟩, eG]
        split <;> simp [sc_get]
      have s4 : S'.1 3 i 4 = S.1 3 i 4 + 1 := by
        rw [← hS', sc_get, if_neg (by omega), eG]
        split <;> simp [sc_get]
      have s6 : S'.1 3 i 6 = S.1 3 i 6 + 1 := by
        rw [← hS', sc_get, if_neg (by omega), eG]
        split <;> simp [sc_get]
      have s8 : S'.1 3 i 8 = S.1 3 i 8 * 31 + (-1) := by
        rw [← hS', sc_get, if_neg (by omega), eG]
        split <;> simp [sc_get]
      have en : mN T' i = mN T i + 1 := by unfold mN; rw [t17, nI_clamp (by omega)]; rfl
      have e16 : (if S.1 3 i 4 + 1 < 4 then S.1 3 i 1 else 0) = bI (decide (¬ 4 ≤ T.2.2.1 19 i + 1)) := by
        rw [k4, k1, g1]
        by_cases z : T.2.2.1 19 i + 1 < 4
        · have zz : ¬ 4 ≤ T.2.2.1 19 i + 1 := fun y => by
            rw [Int32.lt_iff_toInt_lt] at z
            rw [Int32.le_iff_toInt_le] at y
            omega
          rw [if_pos z, decide_eq_true zz]; rfl
        · rw [if_neg z, decide_eq_false (fun y => y (i32_nlt.mp z))]; rfl
      refine ⟨fun k hk2 => ?_, ?_, by rw [t17, en], by rw [en]; omega, fun _ => ?_⟩
      · rcases (show k = 0 ∨ k = 1 ∨ k = 2 ∨ k = 3 ∨ k = 4 ∨ k = 5 ∨ k = 6 ∨ k = 7 ∨ k = 8 by omega) with rfl | rfl | rfl | rfl | rfl | rfl | rfl | rfl | rfl
        · rw [s0 _ _ (by omega), t0 _ _ (by decide) (by decide) (by decide) (by decide) (by decide)]; exact k0
        · rw [s1, e16]; exact t16.symm
        · rw [s2, k2, h3, nI_1]; exact t17.symm
        · rw [s0 _ _ (by omega), t0 _ _ (by decide) (by decide) (by decide) (by decide) (by decide)]; exact k3
        · rw [s4, k4]; exact t19.symm
        · rw [s0 _ _ (by omega), t0 _ _ (by decide) (by decide) (by decide) (by decide) (by decide)]; exact k5
        · rw [s6, k6]; exact t21.symm
        · rw [s0 _ _ (by omega), t0 _ _ (by decide) (by decide) (by decide) (by decide) (by decide)]; exact k7
        · rw [s8, k8]; exact t23.symm
      · rw [t16]
        cases decide (¬ 4 ≤ T.2.2.1 19 i + 1)
        · exact Or.inl rfl
        · exact Or.inr rfl
      · rw [en, s0 _ _ (by omega)]
        refine ⟨fun b c1 c2 => ?_, fun b c1 c2 => ?_⟩
        · rw [s0 12 _ (by omega), t0 24 _ (by decide) (by decide) (by decide) (by decide) (by decide), t0 25 _ (by decide) (by decide) (by decide) (by decide) (by decide)]
          by_cases z : b = mN T i + 16
          · have zm : b % 16 = mN T i % 16 := by omega
            rw [zm, hkf]
            refine ⟨fun c3 => ?_, fun c3 => rfl⟩
            rw [a2 b (by omega) c3]
            exact ⟨⟨fun y => (by cases y), fun y => absurd rfl y⟩, fun y => absurd rfl y⟩
          · exact a1 b (by omega) (by omega)
        · rw [t0 24 _ (by decide) (by decide) (by decide) (by decide) (by decide)]; exact a2 b (by omega) c2
  · rw [if_neg q2, if_neg q2]; exact up
