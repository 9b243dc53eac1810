/-! bits of a mask -/
theorem rb_sh : ∀ l, l < 32 → ((1 : Int32) <<< (nI l &&& 31)).toBitVec = BitVec.twoPow 32 l := by decide +kernel
theorem rb_tp : ∀ l, l < 32 → BitVec.twoPow 32 l ≠ 0#32 := by decide +kernel
theorem rb_m1 : ∀ i, i < 32 → (-1 : Int32).toBitVec.getLsbD i = true := by decide +kernel
def bq (k : Int32) (l : Nat) : Bool := k.toBitVec.getLsbD l
theorem rb_0 {k : Int32} {l : Nat} (hl : l < 32) : k &&& ((1 : Int32) <<< (nI l &&& 31)) = 0 ↔ bq k l = false := by
  unfold bq
  rw [← Int32.toBitVec_inj, Int32.toBitVec_and, rb_sh l hl, BitVec.and_twoPow]
  show (if k.toBitVec.getLsbD l = true then BitVec.twoPow 32 l else 0#32) = 0#32 ↔ _
  cases hb : k.toBitVec.getLsbD l
  · exact ⟨fun _ => rfl, fun _ => by simp⟩
  · exact ⟨fun z => absurd ((if_pos rfl).symm.trans z) (rb_tp l hl), fun z => absurd z (by decide)⟩
theorem rb_or {k : Int32} {l j : Nat} (hl : l < 32) : bq (k ||| ((1 : Int32) <<< (nI l &&& 31))) j = (bq k j || decide (l = j)) := by
  unfold bq
  rw [Int32.toBitVec_or, BitVec.getLsbD_or, rb_sh l hl, BitVec.getLsbD_twoPow]
  simp [hl]
theorem rb_clr {k : Int32} {l j : Nat} (hl : l < 32) (hj : j < 32) : bq (k &&& (((1 : Int32) <<< (nI l &&& 31)) ^^^ (-1))) j = (bq k j && !decide (l = j)) := by
  unfold bq
  rw [Int32.toBitVec_and, BitVec.getLsbD_and, Int32.toBitVec_xor, BitVec.getLsbD_xor, rb_sh l hl, BitVec.getLsbD_twoPow, rb_m1 j hj]
  simp [hl]
theorem rb_z (j : Nat) : bq 0 j = false := BitVec.getLsbD_zero
theorem rb_shL : ∀ l, l < 64 → ((1 : Int64) <<< ((nI l).toInt64 &&& 63)).toBitVec = BitVec.twoPow 64 l := by decide +kernel
theorem rb_tpL : ∀ l, l < 64 → BitVec.twoPow 64 l ≠ 0#64 := by decide +kernel
def bL (k : Int64) (l : Nat) : Bool := k.toBitVec.getLsbD l
theorem rb_0L {k : Int64} {l : Nat} (hl : l < 64) : k &&& ((1 : Int64) <<< ((nI l).toInt64 &&& 63)) = 0 ↔ bL k l = false := by
  unfold bL
  rw [← Int64.toBitVec_inj, Int64.toBitVec_and, rb_shL l hl, BitVec.and_twoPow]
  show (if k.toBitVec.getLsbD l = true then BitVec.twoPow 64 l else 0#64) = 0#64 ↔ _
  cases hb : k.toBitVec.getLsbD l
  · exact ⟨fun _ => rfl, fun _ => by simp⟩
  · exact ⟨fun z => absurd ((if_pos rfl).symm.trans z) (rb_tpL l hl), fun z => absurd z (by decide)⟩
theorem rb_orL {k : Int64} {l j : Nat} (hl : l < 64) : bL (k ||| ((1 : Int64) <<< ((nI l).toInt64 &&& 63))) j = (bL k j || decide (l = j)) := by
  unfold bL
  rw [Int64.toBitVec_or, BitVec.getLsbD_or, rb_shL l hl, BitVec.getLsbD_twoPow]
  simp [hl]
theorem rb_zL (j : Nat) : bL 0 j = false := BitVec.getLsbD_zero
theorem sl16_nI {b : Nat} (h : b < 2 ^ 32) : sl16 (nI b) = b % 16 := by unfold sl16; rw [pk_tn h]
theorem kept_bq {S : St} {i b : Nat} (h : b < 2 ^ 32) : li_kept S i (nI b) = bq (S.1 3 i 9) (b % 16) := by
  have hl : b % 16 < 32 := by omega
  unfold li_kept bt16
  rw [sl16_nI h]
  cases hb : bq (S.1 3 i 9) (b % 16)
  · exact decide_eq_false (fun z => z ((rb_0 hl).mpr hb))
  · exact decide_eq_true (fun z => by rw [(rb_0 hl).mp z] at hb; cases hb)
/-! counting -/
theorem cn_ext {p q : Nat → Bool} : ∀ n, (∀ o, o < n → p o = q o) → cntB p n = cntB q n
  | 0, _ => rfl
  | n + 1, h => by
    rw [cntB_s, cntB_s, h n (by omega), cn_ext n (fun o ho => h o (by omega))]
theorem cn_add {p q : Nat → Bool} {x : Nat} (hp : p x = false) (hq : q x = true) (ho : ∀ o, o ≠ x → q o = p o) : ∀ n, x < n → cntB q n = cntB p n + 1
  | 0, h => by omega
  | n + 1, h => by
    rw [cntB_s, cntB_s]
    by_cases hx : x = n
    · subst hx
      rw [hp, hq, if_pos rfl, if_neg (by decide), cn_ext x (fun o h2 => ho o (by omega))]
    · rw [ho n (by omega), cn_add hp hq ho n (by omega)]
      split <;> rfl
theorem cn_none {p : Nat → Bool} : ∀ n, (∀ o, o < n → p o = false) → cntB p n = 0
  | 0, _ => rfl
  | n + 1, h => by
    rw [cntB_s, h n (by omega), if_neg (by decide)]
    exact cn_none n (fun o ho => h o (by omega))
theorem cn_row {r : Nat → Nat} {n : Nat} : ∀ (k : Nat) (p : Nat → Bool), (∀ i j, i < j → j < k → r i ≠ r j) → (∀ i, i < k → r i < n) → (∀ o, p o = true ↔ ∃ j, j < k ∧ r j = o) → cntB p n = k
  | 0, p, _, _, hp => cn_none n (fun o _ => by
      cases e : p o
      · rfl
      · obtain ⟨j, hj, -⟩ := (hp o).mp e
        omega)
  | k + 1, p, hi, hr, hp => by
    have h1 : cntB (fun o => p o && !decide (o = r k)) n = k := cn_row k _ (fun i j a b => hi i j a (by omega)) (fun i a => hr i (by omega)) (fun o => by
      constructor
      · intro e
        simp only [Bool.and_eq_true, Bool.not_eq_true', decide_eq_false_iff_not] at e
        obtain ⟨j, hj, rfl⟩ := (hp o).mp e.1
        exact ⟨j, by
          rcases Nat.lt_or_ge j k with q | q
          · exact q
          · exact absurd (by rw [show j = k by omega]) e.2, rfl⟩
      · rintro ⟨j, hj, rfl⟩
        simp only [Bool.and_eq_true, Bool.not_eq_true', decide_eq_false_iff_not]
        exact ⟨(hp _).mpr ⟨j, by omega, rfl⟩, hi j k hj (by omega)⟩)
    have h2 := cn_add (p := fun o => p o && !decide (o = r k)) (q := p) (x := r k) (by simp) ((hp _).mpr ⟨k, by omega, rfl⟩) (fun o ho => by simp [ho]) n (hr k (by omega))
    omega
/-! the order of wishes -/
theorem i32_r (x : Int32) : -2147483648 ≤ x.toInt ∧ x.toInt < 2147483648 := ⟨Int32.le_toInt x, Int32.toInt_lt x⟩
def b1 (x : Int32) : Prop := x = 0 ∨ x = 1
def ky (T : St) (i : Nat) : Int := (if T.2.2.1 42 i = 0 then 0 else 1099511627776) + (T.2.2.1 43 i).toInt
def kc (S : St) (i : Nat) : Int := (if S.1 0 i 2 = 0 then 0 else 1099511627776) + (S.1 0 i 3).toInt
theorem n10 : ¬ (1 : Int32) = 0 := by decide
theorem n01 : ¬ (0 : Int32) = 1 := by decide
theorem ab_pure {x y u v : Int32} (hx : b1 x) (hy : b1 y) {r : Int32} (hr : r = if x = y then (if u ≤ v then (if v ≤ u then 0 else -1) else 1) else (if x = 0 then -1 else 1)) {kx kq : Int} (ex : kx = (if x = 0 then 0 else 1099511627776) + u.toInt) (eq : kq = (if y = 0 then 0 else 1099511627776) + v.toInt) : (r = 1 ∧ kq < kx) ∨ (r = 0 ∧ kq = kx) ∨ (r = -1 ∧ kx < kq) := by
  have ri := i32_r u
  have rj := i32_r v
  by_cases h1 : u ≤ v <;> by_cases h2 : v ≤ u <;> (simp only [h1, h2, if_true, if_false] at hr) <;> rw [Int32.le_iff_toInt_le] at h1 h2 <;> rcases hx with rfl | rfl <;> rcases hy with rfl | rfl <;> simp only [n10, n01, if_true, if_false] at hr ex eq <;>
    first
    | exact Or.inl ⟨hr, by omega⟩
    | exact Or.inr (Or.inl ⟨hr, by omega⟩)
    | exact Or.inr (Or.inr ⟨hr, by omega⟩)
theorem ab_cmp {T : St} {i j : Nat} (hi : b1 (T.2.2.1 42 i)) (hj : b1 (T.2.2.1 42 j)) : (ml_ab T i j = 1 ∧ ky T j < ky T i) ∨ (ml_ab T i j = 0 ∧ ky T j = ky T i) ∨ (ml_ab T i j = -1 ∧ ky T i < ky T j) := ab_pure hi hj rfl rfl rfl
theorem ca_pure {x y u v : Int32} (hx : b1 x) (hy : b1 y) {r : Bool} (hr : r = if x = y then decide (¬ u ≤ v) else decide (x = 1)) {kx kq : Int} (ex : kx = (if x = 0 then 0 else 1099511627776) + u.toInt) (eq : kq = (if y = 0 then 0 else 1099511627776) + v.toInt) : r = true ↔ kq < kx := by
  have ri := i32_r u
  have rj := i32_r v
  rw [hr]
  rcases hx with rfl | rfl <;> rcases hy with rfl | rfl <;> simp only [n10, n01, if_true, if_false] at ex eq ⊢ <;> rw [decide_eq_true_eq] <;> first | (rw [Int32.le_iff_toInt_le]; omega) | exact ⟨fun _ => by omega, fun _ => trivial⟩ | exact ⟨fun z => absurd z id, fun z => by omega⟩ | exact ⟨fun z => absurd z (by decide), fun z => by omega⟩
theorem ca_cmp {S : St} {i j : Nat} (hi : b1 (S.1 0 i 2)) (hj : b1 (S.1 0 j 2)) : cl_above S i j = true ↔ kc S j < kc S i := ca_pure hi hj rfl rfl rfl
def wtN (T : St) (i : Nat) : Nat := (T.2.2.1 44 i).toNatClampNeg
def hdN (T : St) : Nat := (T.2.2.1 39 0).toNatClampNeg
theorem bf_iff {T : St} {o i : Nat} (ho : o < 18) (hi : i < 18) (wo : T.2.2.1 44 o = nI (wtN T o)) (wi : T.2.2.1 44 i = nI (wtN T i)) (ao : wtN T o < 2 ^ 31) (ai : wtN T i < 2 ^ 31) (eo : b1 (T.2.2.1 42 o)) (ei : b1 (T.2.2.1 42 i)) :
    ml_bf T o i = true ↔ o ≠ i ∧ 0 < wtN T o ∧ (ky T i < ky T o ∨ (ky T o = ky T i ∧ wtN T o < wtN T i)) := by
  unfold ml_bf
  rw [decide_eq_true_eq, nI_eq (by omega) (by omega), wo, wi, show (0 : Int32) = nI 0 from rfl, nI_leI ao (by decide), nI_leI ai ao]
  have e1 : ¬ (1 : Int32) ≤ nI 0 := by decide
  have e2 : ¬ (1 : Int32) = nI 0 := by decide
  have e3 : (nI 0 : Int32) ≤ nI 0 := by decide
  have e4 : (-1 : Int32) ≤ nI 0 := by decide
  have e5 : ¬ (-1 : Int32) = nI 0 := by decide
  rcases ab_cmp eo ei with ⟨e, h⟩ | ⟨e, h⟩ | ⟨e, h⟩ <;> rw [e]
  · simp only [e1, e2, not_false_eq_true, true_or, and_true]; omega
  · simp only [show (0 : Int32) = nI 0 from rfl, e3, not_true_eq_false, false_or, true_and]; omega
  · constructor
    · rintro ⟨-, -, z | z⟩
      · exact absurd e4 z
      · exact absurd z.1 e5
    · rintro ⟨-, -, z⟩
      omega
/-! a row by its order -/
def RWp (w : Nat) (r : Nat → Nat) (wt : Nat → Nat) (kf : Nat → Int) : Prop :=
  (∀ k, k < w → r k < 6 ∧ 0 < wt (r k)) ∧ (∀ m, m < 6 → 0 < wt m → ∃ k, k < w ∧ r k = m) ∧ ∀ j k, j < k → k < w → kf (r k) < kf (r j) ∨ (kf (r j) = kf (r k) ∧ wt (r j) < wt (r k))
theorem RWp.ne {w : Nat} {r wt : Nat → Nat} {kf : Nat → Int} (h : RWp w r wt kf) {j k : Nat} (hj : j < w) (hk : k < w) (e : r j = r k) : j = k := by
  rcases Nat.lt_trichotomy j k with q | q | q
  · have := h.2.2 j k q hk
    rw [e] at this
    omega
  · exact q
  · have := h.2.2 k j q hj
    rw [e] at this
    omega
theorem RWp.ext {w w' : Nat} {r r' wt wt' : Nat → Nat} {kf kf' : Nat → Int} (h : RWp w r wt kf) (hw : w' = w) (hr : ∀ k, k < w → r' k = r k) (ht : ∀ m, m < 6 → wt' m = wt m) (hk : ∀ m, m < 6 → 0 < wt m → kf' m = kf m) : RWp w' r' wt' kf' := by
  subst hw
  obtain ⟨h1, h2, h3⟩ := h
  refine ⟨fun k a => ?_, fun m a b => ?_, fun j k a b => ?_⟩
  · rw [hr k a, ht _ (h1 k a).1]; exact h1 k a
  · rw [ht m a] at b
    obtain ⟨k, hk1, hk2⟩ := h2 m a b
    exact ⟨k, hk1, by rw [hr k hk1]; exact hk2⟩
  · have hj : j < w' := by omega
    rw [hr j hj, hr k b, hk _ (h1 j hj).1 (h1 j hj).2, hk _ (h1 k b).1 (h1 k b).2, ht _ (h1 j hj).1, ht _ (h1 k b).1]
    exact h3 j k a b
theorem RWp.del {w : Nat} {r wt : Nat → Nat} {kf : Nat → Int} (h : RWp w r wt kf) {a : Nat} (ha : a < w) : RWp (w - 1) (fun k => if a ≤ k ∧ k < w - 1 then r (k + 1) else r k) (fun m => if m = r a then 0 else wt m) kf := by
  obtain ⟨h1, h2, h3⟩ := id h
  have e : ∀ k, k < w - 1 → ∃ k', k' < w ∧ k' ≠ a ∧ (if a ≤ k ∧ k < w - 1 then r (k + 1) else r k) = r k' ∧ k' = if a ≤ k then k + 1 else k := by
    intro k hk
    by_cases q : a ≤ k
    · exact ⟨k + 1, by omega, by omega, by rw [if_pos ⟨q, hk⟩], by rw [if_pos q]⟩
    · exact ⟨k, by omega, by omega, by rw [if_neg (by omega)], by rw [if_neg q]⟩
  refine ⟨fun k hk => ?_, fun m hm hw => ?_, fun j k hj hk => ?_⟩
  · obtain ⟨k', e1, e2, e3, -⟩ := e k hk
    simp only [e3]
    refine ⟨(h1 k' e1).1, ?_⟩
    rw [if_neg (fun z => e2 (h.ne e1 ha z))]
    exact (h1 k' e1).2
  · by_cases q : m = r a
    · simp only [if_pos q] at hw; omega
    · simp only [if_neg q] at hw
      obtain ⟨k, hk, rfl⟩ := h2 m hm hw
      have hka : k ≠ a := fun z => q (by rw [z])
      rcases Nat.lt_or_ge k a with z | z
      · exact ⟨k, by omega, by simp only [if_neg (show ¬ (a ≤ k ∧ k < w - 1) by omega)]⟩
      · refine ⟨k - 1, by omega, ?_⟩
        simp only [if_pos (show a ≤ k - 1 ∧ k - 1 < w - 1 by omega)]
        rw [show k - 1 + 1 = k by omega]
  · obtain ⟨j', a1, a2, a3, a4⟩ := e j (by omega)
    obtain ⟨k', b1, b2, b3, b4⟩ := e k hk
    simp only [a3, b3]
    rw [if_neg (fun z => a2 (h.ne a1 ha z)), if_neg (fun z => b2 (h.ne b1 ha z))]
    refine h3 j' k' ?_ b1
    rw [a4, b4]
    split <;> split <;> omega
theorem RWp.ins {w : Nat} {r wt : Nat → Nat} {kf : Nat → Int} (h : RWp w r wt kf) {a m s : Nat} (ha : a ≤ w) (hm : m < 6) (h0 : wt m = 0) (hs : ∀ o, o < 6 → wt o < s) (hs0 : 0 < s) (hlo : ∀ j, j < a → kf m ≤ kf (r j)) (hhi : ∀ j, a ≤ j → j < w → kf (r j) < kf m) :
    RWp (w + 1) (fun k => if k = a then m else if a < k ∧ k ≤ w then r (k - 1) else r k) (fun o => if o = m then s else wt o) kf := by
  obtain ⟨h1, h2, h3⟩ := id h
  have hne : ∀ k, k < w → r k ≠ m := fun k hk z => by
    have := (h1 k hk).2
    rw [z] at this
    omega
  have e : ∀ k, k < w + 1 → k ≠ a → ∃ k', k' < w ∧ (if k = a then m else if a < k ∧ k ≤ w then r (k - 1) else r k) = r k' ∧ k' = if a < k then k - 1 else k := by
    intro k hk hka
    by_cases q : a < k
    · exact ⟨k - 1, by omega, by rw [if_neg hka, if_pos ⟨q, by omega⟩], by rw [if_pos q]⟩
    · exact ⟨k, by omega, by rw [if_neg hka, if_neg (by omega)], by rw [if_neg q]⟩
  refine ⟨fun k hk => ?_, fun o ho hw => ?_, fun j k hj hk => ?_⟩
  · by_cases q : k = a
    · simp only [if_pos q]; exact ⟨hm, by rw [if_true]; exact hs0⟩
    · obtain ⟨k', e1, e2, -⟩ := e k hk q
      simp only [e2]
      rw [if_neg (hne k' e1)]
      exact h1 k' e1
  · by_cases q : o = m
    · exact ⟨a, by omega, by simp only [if_pos]; exact q.symm⟩
    · simp only [if_neg q] at hw
      obtain ⟨k, hk, rfl⟩ := h2 o ho hw
      rcases Nat.lt_or_ge k a with z | z
      · exact ⟨k, by omega, by simp only [if_neg (show ¬ k = a by omega), if_neg (show ¬ (a < k ∧ k ≤ w) by omega)]⟩
      · refine ⟨k + 1, by omega, ?_⟩
        simp only [if_neg (show ¬ k + 1 = a by omega), if_pos (show a < k + 1 ∧ k + 1 ≤ w by omega)]
        rw [show k + 1 - 1 = k by omega]
  · by_cases qj : j = a
    · obtain ⟨k', e1, e2, e3⟩ := e k hk (by omega)
      simp only [if_pos qj, e2]
      rw [if_pos (by omega)] at e3
      exact Or.inl (hhi k' (by omega) e1)
    · obtain ⟨j', a1, a2, a3⟩ := e j (by omega) qj
      by_cases qk : k = a
      · simp only [if_pos qk, a2]
        rw [if_neg (by omega)] at a3
        have z := hlo j' (by omega)
        rw [if_neg (hne j' a1), if_true]
        have z2 := hs (r j') (h1 j' a1).1
        omega
      · obtain ⟨k', b1, b2, b3⟩ := e k hk qk
        simp only [a2, b2]
        rw [if_neg (hne j' a1), if_neg (hne k' b1)]
        refine h3 j' k' ?_ b1
        rw [a3, b3]
        split <;> split <;> omega
