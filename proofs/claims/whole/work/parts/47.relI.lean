/-! gates -/
def RGt (S T : St) (g : Nat) : Prop := (∀ k, k < 4 → S.1 2 g (2 + k) = T.2.2.1 (45 + k) g) ∧ ∀ n, n < 64 → (bL (S.2.1 g) n = true ↔ T.2.2.1 49 (64 * g + n) ≠ 0)
theorem RGt.eq {g : Nat} {S T S' T' : St} (h : RGt S T g) (h1 : ∀ k, S'.1 2 g k = S.1 2 g k) (h2 : S'.2.1 g = S.2.1 g) (h3 : ∀ f, 45 ≤ f → f ≤ 48 → T'.2.2.1 f g = T.2.2.1 f g) (h4 : ∀ n, n < 64 → T'.2.2.1 49 (64 * g + n) = T.2.2.1 49 (64 * g + n)) : RGt S' T' g :=
  ⟨fun k hk => by rw [h1, h3 _ (by omega) (by omega)]; exact h.1 k hk, fun n hn => by rw [h2, h4 n hn]; exact h.2 n hn⟩
theorem RGt.gate {g : Nat} {S T : St} {a b : Int32} (h : RGt S T g) (hb : b = -1 ∨ ∃ q, q < 6 ∧ b = nI q) : RGt (gt_hear S g a b) (ml_gate T g a b) g := by
  obtain ⟨h1, h2⟩ := id h
  have k2 : S.1 2 g 2 = T.2.2.1 45 g := h1 0 (by omega)
  have k3 : S.1 2 g 3 = T.2.2.1 46 g := h1 1 (by omega)
  have k4 : S.1 2 g 4 = T.2.2.1 47 g := h1 2 (by omega)
  have k5 : S.1 2 g 5 = T.2.2.1 48 g := h1 3 (by omega)
  unfold gt_hear ml_gate
  rw [k2]
  by_cases q1 : a ≤ T.2.2.1 45 g
  · simp only [if_pos q1]
    by_cases q2 : a = T.2.2.1 45 g
    · have n1 : ¬ a < T.2.2.1 45 g := fun z => by rw [q2, Int32.lt_iff_toInt_lt] at z; omega
      rw [if_pos q2, if_neg n1]
      rcases hb with z | ⟨q, hq, z⟩
      · rw [if_pos z, if_neg (fun y => y.2 (by rw [z]; exact m1_lt)), z]
        refine ⟨fun k hk => ?_, fun n hn => ?_⟩
        · rcases (show k = 0 ∨ k = 1 ∨ k = 2 ∨ k = 3 by omega) with rfl | rfl | rfl | rfl <;> simp [sc_get, sm_get]
          · rw [k2]; exact q2.symm
          · exact k4
          · exact k5
        · rw [sc_2, sm_get, if_neg (by omega), sm_get, if_neg (by omega)]; exact h2 n hn
      · rw [if_neg (fun y => nI_m1 hq (z.symm.trans y)), if_pos ⟨q2, by rw [z]; exact nI_pos (by omega)⟩]; exact h
    · have n1 : a < T.2.2.1 45 g := by
        rcases Classical.em (a < T.2.2.1 45 g) with z | z
        · exact z
        · exact absurd (i32_le_antisymm q1 (i32_nlt.mp z)) q2
      rw [if_neg q2, if_pos n1]; exact h
  · have n1 : ¬ a < T.2.2.1 45 g := fun z => q1 (by rw [Int32.lt_iff_toInt_lt] at z; rw [Int32.le_iff_toInt_le]; omega)
    have n2 : ¬ (a = T.2.2.1 45 g ∧ ¬ b < 0) := fun z => q1 (by rw [z.1]; exact Int32.le_refl _)
    simp only [if_neg q1, if_neg n1, if_neg n2]
    refine ⟨fun k hk => ?_, fun n hn => ?_⟩
    · rcases (show k = 0 ∨ k = 1 ∨ k = 2 ∨ k = 3 by omega) with rfl | rfl | rfl | rfl
      · simp [sl_1, sc_get, sm_get]
      · simp [sl_1, sc_get, sm_get]
      · rw [sl_1, sc_get, if_neg (by omega), sc_get, if_neg (by omega), sm_get, if_neg (by omega), sm_get, if_neg (by omega), mcg_get, if_neg (by omega)]; exact k4
      · rw [sl_1, sc_get, if_neg (by omega), sc_get, if_neg (by omega), sm_get, if_neg (by omega), sm_get, if_neg (by omega), mcg_get, if_neg (by omega)]; exact k5
    · rw [sl_get, if_pos rfl, rb_zL, sm_get, if_neg (by omega), sm_get, if_neg (by omega), mcg_get, if_pos (by omega)]
      exact ⟨fun z => (by cases z), fun z => absurd rfl z⟩
theorem RGt.lets {g m b : Nat} {S T : St} {a : Int32} (h : RGt S T g) (hm : m < 6) (hb : b < 64) : gt_lets S g (nI m) a (nI b) = ml_ug T g m b a := by
  obtain ⟨h1, h2⟩ := id h
  have k2 : S.1 2 g 2 = T.2.2.1 45 g := h1 0 (by omega)
  have k3 : S.1 2 g 3 = T.2.2.1 46 g := h1 1 (by omega)
  have e : S.2.1 g &&& ((1 : Int64) <<< ((nI b).toInt64 &&& 63)) = 0 ↔ T.2.2.1 49 (64 * g + b) = 0 := by
    rw [rb_0L hb]
    have := h2 b hb
    cases hx : bL (S.2.1 g) b
    · rw [hx] at this
      refine ⟨fun _ => ?_, fun _ => rfl⟩
      rcases Classical.em (T.2.2.1 49 (64 * g + b) = 0) with z | z
      · exact z
      · exact absurd (this.mpr z) (by decide)
    · exact ⟨fun z => (by cases z), fun z => absurd z (this.mp hx)⟩
  unfold gt_lets ml_ug
  rw [k2, k3]
  refine decide_eq_decide.mpr ?_
  rw [e]
  have nb : ¬ (64 : Int32) ≤ nI b := nI_ge (b := 64) hb (by decide)
  constructor
  · rintro ⟨-, a2, a3, -, a5⟩; exact ⟨a2.symm, a3, a5⟩
  · rintro ⟨a2, a3, a5⟩; exact ⟨by rw [a2]; exact nI_m1 hm, a2.symm, a3, nb, a5⟩
/-! all of it -/
def Rel (H TM L : Nat) (S T : St) : Prop := (∃ tm, tm ≤ TM ∧ S.1 9 0 4 = nI tm ∧ T.2.2.1 1 0 = nI tm) ∧ (T.2.2.1 39 0 = nI (hdN T) ∧ hdN T ≤ H) ∧ RNet S T ∧ EM S T ∧ BM T ∧ (∀ i, i < 18 → RLi L S T i) ∧ (∀ g, g < 3 → RGt S T g) ∧ ∀ g, g < 3 → RFl S T g
theorem Rel.eT {H TM L : Nat} {S T T' : St} (h : Rel H TM L S T) (e : T'.2.2.1 = T.2.2.1) : Rel H TM L S T' := by
  obtain ⟨a, b, c, d⟩ := T
  obtain ⟨a', b', c', d'⟩ := T'
  have e' : c' = c := e
  subst e'
  exact h
theorem Rel.eS {H TM L : Nat} {S T S' : St} (h : Rel H TM L S T) (e : S'.1 = S.1) (e2 : S'.2.1 = S.2.1) : Rel H TM L S' T := by
  obtain ⟨a, b, c, d⟩ := S
  obtain ⟨a', b', c', d'⟩ := S'
  have e' : a' = a := e
  have e2' : b' = b := e2
  subst e'
  subst e2'
  exact h
theorem Rel.mono {H TM L H' TM' L' : Nat} {S T : St} (h : Rel H TM L S T) (h1 : H ≤ H') (h2 : TM ≤ TM') (h3 : L ≤ L') : Rel H' TM' L' S T := by
  obtain ⟨⟨tm, t1, t2, t3⟩, ⟨d1, d2⟩, n, em, bm, li, gt, fl⟩ := h
  refine ⟨⟨tm, by omega, t2, t3⟩, ⟨d1, by omega⟩, n, em, bm, fun i hi => ?_, gt, fl⟩
  obtain ⟨a1, a2, a3, a4, a5⟩ := li i hi
  exact ⟨a1, a2, a3, by omega, a5⟩
theorem Rel.time {H TM L : Nat} {S T : St} (h : Rel H TM L S T) : S.1 9 0 4 = T.2.2.1 1 0 := by
  obtain ⟨⟨tm, t1, t2, t3⟩, -⟩ := h
  rw [t2, t3]
theorem Rel.time0 {H TM L : Nat} {S T : St} (h : Rel H TM L S T) (hT : TM < 2 ^ 20) : 0 ≤ T.2.2.1 1 0 := by
  obtain ⟨⟨tm, t1, t2, t3⟩, -⟩ := h
  rw [t3]
  exact nI_pos' (by omega)
theorem RFl.eq {g : Nat} {S T S' T' : St} (h : RFl S T g) (hS : ∀ a b c, (a = 1 ∧ b = g) ∨ (a = 13 ∧ b = g) ∨ (a = 8 ∧ (b = 2 * g ∨ b = 2 * g + 1)) ∨ (a = 0 ∧ b / 6 = g) → S'.1 a b c = S.1 a b c) (hT : ∀ f i, (26 ≤ f ∧ f ≤ 38 ∧ i = g) ∨ (40 ≤ f ∧ f ≤ 44 ∧ i / 6 = g) → T'.2.2.1 f i = T.2.2.1 f i) (hH : hdN T ≤ hdN T') (hH2 : hdN T' < 2 ^ 30) : RFl S' T' g :=
  ⟨h.1.eq hS hT hH hH2, by
    unfold wN
    rw [hS 1 g 7 (by omega), hS 1 g 5 (by omega)]
    exact h.2⟩
theorem Rel.floor {H H' TM L g : Nat} {S T S' T' : St} (h : Rel H TM L S T) (hL : Loc g S S') (hM : LcM g T T') (h1 : RFl S' T' g) (h2 : RNet S' T') (h3 : T'.2.2.1 39 0 = nI (hdN T') ∧ hdN T ≤ hdN T' ∧ hdN T' ≤ H') (hH : H' < 2 ^ 30) : Rel H' TM L S' T' := by
  obtain ⟨⟨tm, t1, t2, t3⟩, ⟨d1, d2⟩, n, em, bm, li, gt, fl⟩ := h
  have l0 : ∀ a b c, a = 2 ∨ a = 3 ∨ a = 4 ∨ a = 9 ∨ a = 12 → S'.1 a b c = S.1 a b c := fun a b c q => hL.2 a b c (by omega) (by omega) (by omega) (by omega) (by omega) (by omega)
  have m0 : ∀ f i, f ≠ 2 → f ≠ 3 → f ≠ 4 → f ≠ 39 → ¬ (30 ≤ f ∧ f ≤ 38) → ¬ (40 ≤ f ∧ f ≤ 44) → T'.2.2.1 f i = T.2.2.1 f i := fun f i a b c d e q => hM.2.2.2 f i a b c d (by omega) (by omega)
  refine ⟨⟨tm, t1, by rw [l0 _ _ _ (by omega)]; exact t2, by rw [m0 _ _ (by omega) (by omega) (by omega) (by omega) (by omega) (by omega)]; exact t3⟩, ⟨h3.1, h3.2.2⟩, h2, em.eq (fun i k => l0 _ _ _ (by omega)) (fun f i a b => m0 _ _ (by omega) (by omega) (by omega) (by omega) (by omega) (by omega)), bm.eq (fun i => ⟨m0 _ _ (by omega) (by omega) (by omega) (by omega) (by omega) (by omega), m0 _ _ (by omega) (by omega) (by omega) (by omega) (by omega) (by omega)⟩), fun i hi => ?_, fun q hq => ?_, fun q hq => ?_⟩
  · exact (li i hi).eq (fun a k z => l0 _ _ _ (by omega)) (fun f a b => m0 _ _ (by omega) (by omega) (by omega) (by omega) (by omega) (by omega)) (fun f b a c => m0 _ _ (by omega) (by omega) (by omega) (by omega) (by omega) (by omega))
  · exact (gt q hq).eq (fun k => l0 _ _ _ (by omega)) (by rw [hL.1]) (fun f a b => m0 _ _ (by omega) (by omega) (by omega) (by omega) (by omega) (by omega)) (fun n hn => m0 _ _ (by omega) (by omega) (by omega) (by omega) (by omega) (by omega))
  · by_cases z : q = g
    · rw [z]; exact h1
    · exact (fl q hq).eq (fun a b c y => hL.2 a b c (by omega) (by omega) (by omega) (by omega) (by omega) (by omega)) (fun f i y => hM.2.2.2 f i (by omega) (by omega) (by omega) (by omega) (by omega) (by omega)) h3.2.1 (by omega)
theorem hd_same {H : Nat} {T T' : St} (h : T.2.2.1 39 0 = nI (hdN T) ∧ hdN T ≤ H) (e : T'.2.2.1 39 0 = T.2.2.1 39 0) : T'.2.2.1 39 0 = nI (hdN T') ∧ hdN T ≤ hdN T' ∧ hdN T' ≤ H := by
  rw [hdN_eq e, e]
  exact ⟨h.1, Nat.le_refl _, h.2⟩
theorem hd_next {H : Nat} {T T' : St} (h : T.2.2.1 39 0 = nI (hdN T) ∧ hdN T ≤ H) (hH : H + 1 < 2 ^ 30) (e : T'.2.2.1 39 0 = T.2.2.1 39 0 ∨ T'.2.2.1 39 0 = nI (hdN T + 1)) : T'.2.2.1 39 0 = nI (hdN T') ∧ hdN T ≤ hdN T' ∧ hdN T' ≤ H + 1 := by
  rcases e with e | e
  · obtain ⟨a, b, c⟩ := hd_same h e
    exact ⟨a, b, by omega⟩
  · have : hdN T' = hdN T + 1 := by
      have h2 := h.2
      unfold hdN at h2 e ⊢
      rw [e, nI_clamp (by omega)]
    rw [this, e]
    exact ⟨rfl, by omega, by omega⟩
theorem LcM.req {g m : Nat} {T : St} {a : Int32} {e : Bool} (hm : m < 6) : LcM g T (ml_req T g m a e) := by
  have hd : (6 * g + m) / 6 = g := by omega
  have hr : ∀ U : St, LcM g U (ml_rv U g (6 * g + m)) := fun U => by
    unfold ml_rv
    split
    · exact .rf
    · split
      · exact .rf
      · split
        · exact .rf
        · exact (LcM.sg (by decide) (by decide)).tr .send
  have hq : ∀ U : St, LcM g U (ml_rq2 U g m a) := fun U => by
    unfold ml_rq2
    split
    · split
      · exact (LcM.si (by decide) (by decide) hd).tr .send
      · refine LcM.tr ?_ (hr _)
        unfold ml_q4 ml_wt
        exact (LcM.sh.tr (LcM.si (by decide) (by decide) hd)).tr .send
    · exact .give
  unfold ml_req
  split
  · exact .rf
  · split
    · split
      · split
        · exact .send
        · split
          · split
            · exact .rf
            · exact .send
          · exact .send
      · exact (LcM.new hm).tr (hq _)
    · exact .rf
theorem LcM.rel {g m : Nat} {T : St} {a : Int32} (hm : m < 6) : LcM g T (ml_rel T g m a) := by
  have hd : (6 * g + m) / 6 = g := by omega
  unfold ml_rel
  split
  · exact ((LcM.si (by decide) (by decide) hd).tr (LcM.si (by decide) (by decide) hd)).tr (.clear hm)
  · exact .rf
theorem LcM.st {g : Nat} {T : St} : LcM g T (ml_st T g) := by
  have h1 : LcM g T (ml_stE T g) := by
    unfold ml_stE
    split
    · exact LcM.send.tr .free
    · exact .rf
  unfold ml_st
  split
  · refine h1.tr ?_
    unfold ml_stT
    split
    · split
      · exact .rf
      · exact .mt
    · exact .rf
  · exact .rf
/-! one listener -/
def LiJ (i : Nat) (S S' : St) : Prop := S'.2 = S.2 ∧ ∀ a b c, ¬ ((a = 3 ∨ a = 12) ∧ b = i) → S'.1 a b c = S.1 a b c
theorem LiJ.rf {i : Nat} {S : St} : LiJ i S S := ⟨rfl, fun _ _ _ _ => rfl⟩
theorem LiJ.tr {i : Nat} {S S1 S2 : St} (h : LiJ i S S1) (h2 : LiJ i S1 S2) : LiJ i S S2 := ⟨h2.1.trans h.1, fun a b c q => (h2.2 a b c q).trans (h.2 a b c q)⟩
theorem LiJ.set {i κ k : Nat} {S : St} {v : Int32} (h : κ = 3 ∨ κ = 12) : LiJ i S (sc S κ i k v) := ⟨rfl, fun a b c q => by rw [sc_get, if_neg (by omega)]⟩
theorem LiJ.hear {S : St} {i : Nat} {a b v t : Int32} : LiJ i S (li_hear S i a b v t) := by
  have hb : LiJ i S (li_begin S i a b t) := by
    unfold li_begin
    exact (((((LiJ.set (by omega)).tr (.set (by omega))).tr (.set (by omega))).tr (.set (by omega))).tr (.set (by omega))).tr (.set (by omega))
  have h2 : ∀ S0 : St, LiJ i S0 (li_hear2 S0 i b v) := fun S0 => by
    unfold li_hear2 li_late
    repeat' split
    all_goals first | exact .set (by omega) | exact (LiJ.set (by omega)).tr (.set (by omega))
  unfold li_hear li_late
  repeat' split
  all_goals first | exact .set (by omega) | exact h2 S | exact hb.tr (h2 _)
theorem LiJ.play {S : St} {i : Nat} {t : Int32} : LiJ i S (li_play S i t) := by
  have hu : LiJ i S (li_unit S i) := (((LiJ.set (by omega)).tr (.set (by omega))).tr (.set (by omega))).tr (.set (by omega))
  have hg : LiJ i S (li_gap S i) := by
    have h3 : LiJ i S (li_add (sc (sc S 3 i 6 (S.1 3 i 6 + 1)) 3 i 4 ((sc S 3 i 6 (S.1 3 i 6 + 1)).1 3 i 4 + 1)) i (-1)) := ((LiJ.set (by omega)).tr (.set (by omega))).tr (.set (by omega))
    show LiJ i S (if _ then _ else _)
    split
    · exact h3
    · exact h3.tr (.set (by omega))
  unfold li_play
  split
  · exact .rf
  · split
    · by_cases hk : li_kept S i (S.1 3 i 2) = true
      · simp only [hk, if_true]; exact hu.tr (.set (by omega))
      · simp only [hk]; exact hg.tr (.set (by omega))
    · exact .rf
def MiJ (i : Nat) (T T' : St) : Prop := T'.1 = T.1 ∧ T'.2.1 = T.2.1 ∧ T'.2.2.2 = T.2.2.2 ∧ ∀ f j, ¬ (15 ≤ f ∧ f ≤ 23 ∧ j = i) → ¬ ((f = 24 ∨ f = 25) ∧ j / 64 = i) → T'.2.2.1 f j = T.2.2.1 f j
theorem MiJ.rf {i : Nat} {T : St} : MiJ i T T := ⟨rfl, rfl, rfl, fun _ _ _ _ => rfl⟩
theorem MiJ.tr {i : Nat} {S T U : St} (h : MiJ i S T) (k : MiJ i T U) : MiJ i S U := ⟨k.1.trans h.1, k.2.1.trans h.2.1, k.2.2.1.trans h.2.2.1, fun f j a b => (k.2.2.2 f j a b).trans (h.2.2.2 f j a b)⟩
theorem MiJ.s1 {i f : Nat} {T : St} {v : Int32} (h : 15 ≤ f) (h2 : f ≤ 23) : MiJ i T (sm T f i v) := ⟨rfl, rfl, rfl, fun a b q _ => by rw [sm_get, if_neg (by omega)]⟩
theorem MiJ.s2 {i f b : Nat} {T : St} {v : Int32} (h : f = 24 ∨ f = 25) (hb : b < 64) : MiJ i T (sm T f (64 * i + b) v) := ⟨rfl, rfl, rfl, fun a c _ q => by rw [sm_get, if_neg (by omega)]⟩
theorem MiJ.li {i b : Nat} {T : St} {a c : Int32} (hb : b < 64) : MiJ i T (ml_li T i b a c) := by
  have h2 : ∀ U : St, MiJ i U (ml_li2 U i b a c) := fun U => by
    unfold ml_li2
    split
    · exact (MiJ.s2 (by omega) hb).tr (MiJ.s2 (by omega) hb)
    · exact .s1 (by decide) (by decide)
  have h0 : MiJ i T (ml_bg0 T i a (nI b)) := by
    unfold ml_bg0
    exact ((((MiJ.s1 (by decide) (by decide)).tr (.s1 (by decide) (by decide))).tr (.s1 (by decide) (by decide))).tr (.s1 (by decide) (by decide))).tr (.s1 (by decide) (by decide))
  have h1 : ∀ U : St, MiJ i U (mcl U i 64) := fun U => by
    have := mcl_1 (S := U) (g := i) 64
    refine ⟨this.1, this.2.1, this.2.2, fun f j q1 q2 => ?_⟩
    rw [mcl_get, if_neg (by omega)]
  unfold ml_li
  split
  · exact h2 _
  · exact (h0.tr (h1 _)).tr (h2 _)
theorem MiJ.play {i : Nat} {T : St} : MiJ i T (ml_play T i) := by
  have h1 : MiJ i T (ml_p1 T i) := by
    unfold ml_p1
    split
    · exact ((MiJ.s1 (by decide) (by decide)).tr (.s1 (by decide) (by decide))).tr (.s1 (by decide) (by decide))
    · exact ((MiJ.s1 (by decide) (by decide)).tr (.s1 (by decide) (by decide))).tr (.s1 (by decide) (by decide))
  unfold ml_play
  split
  · exact .rf
  · split
    · exact .rf
    · split
      · refine h1.tr ?_
        unfold ml_p2
        exact (MiJ.s1 (by decide) (by decide)).tr (.s1 (by decide) (by decide))
      · exact .rf
theorem Rel.lis {H TM L L' i : Nat} {S T S' T' : St} (h : Rel H TM L S T) (hL : LiJ i S S') (hM : MiJ i T T') (h1 : RLi L' S' T' i) (hLL : L ≤ L') (hH : H < 2 ^ 30) : Rel H TM L' S' T' := by
  obtain ⟨⟨tm, t1, t2, t3⟩, ⟨d1, d2⟩, n, em, bm, li, gt, fl⟩ := h
  have l0 : ∀ a b c, a ≠ 3 → a ≠ 12 → S'.1 a b c = S.1 a b c := fun a b c q q2 => hL.2 a b c (by omega)
  have m0 : ∀ f j, ¬ (15 ≤ f ∧ f ≤ 25) → T'.2.2.1 f j = T.2.2.1 f j := fun f j q => hM.2.2.2 f j (by omega) (by omega)
  have eh : hdN T' = hdN T := hdN_eq (m0 _ _ (by omega))
  refine ⟨⟨tm, t1, by rw [l0 _ _ _ (by omega) (by omega)]; exact t2, by rw [m0 _ _ (by omega)]; exact t3⟩, ⟨by rw [m0 _ _ (by omega), eh]; exact d1, by rw [eh]; exact d2⟩, n.eq (fun a b c q => l0 _ _ _ (by omega) (by omega)) (fun f j q => m0 _ _ (by omega)), em.eq (fun i k => l0 _ _ _ (by omega) (by omega)) (fun f i a b => m0 _ _ (by omega)), bm.eq (fun i => ⟨m0 _ _ (by omega), m0 _ _ (by omega)⟩), fun q hq => ?_, fun q hq => ?_, fun q hq => ?_⟩
  · by_cases z : q = i
    · rw [z]; exact h1
    · obtain ⟨a1, a2, a3, a4, a5⟩ := li q hq
      have : RLi L' S T q := ⟨a1, a2, a3, by omega, a5⟩
      exact this.eq (fun a k y => hL.2 a q k (by omega)) (fun f a b => hM.2.2.2 f q (by omega) (by omega)) (fun f b a c => hM.2.2.2 f _ (by omega) (by omega))
  · exact (gt q hq).eq (fun k => l0 _ _ _ (by omega) (by omega)) (by rw [hL.1]) (fun f a b => m0 _ _ (by omega)) (fun n hn => m0 _ _ (by omega))
  · exact (fl q hq).eq (fun a b c y => l0 _ _ _ (by omega) (by omega)) (fun f i y => m0 _ _ (by omega)) (by omega) (by omega)
