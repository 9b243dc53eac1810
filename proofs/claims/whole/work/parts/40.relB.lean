/-! the model's counts of who waits -/
def RWt (S T : St) (g : Nat) : Prop := (∀ m, m < 6 → T.2.2.1 44 (6 * g + m) = nI (wtN T (6 * g + m)) ∧ wtN T (6 * g + m) ≤ hdN T) ∧ (∀ m, m < 6 → b1 (T.2.2.1 42 (6 * g + m))) ∧ hdN T < 2 ^ 30 ∧ RWp (wN S g) (rN S g) (fun m => wtN T (6 * g + m)) (fun m => ky T (6 * g + m))
theorem RWt.bf {S T : St} {g o m : Nat} (hg : g < 3) (h : RWt S T g) (ho : o < 6) (hm : m < 6) : ml_bf T (6 * g + o) (6 * g + m) = true ↔ o ≠ m ∧ 0 < wtN T (6 * g + o) ∧ (ky T (6 * g + m) < ky T (6 * g + o) ∨ (ky T (6 * g + o) = ky T (6 * g + m) ∧ wtN T (6 * g + o) < wtN T (6 * g + m))) := by
  obtain ⟨h1, h2, h3, h4⟩ := h
  have ao := (h1 o ho).2
  have am := (h1 m hm).2
  rw [bf_iff (by omega) (by omega) (h1 o ho).1 (h1 m hm).1 (by omega) (by omega) (h2 o ho) (h2 m hm)]
  constructor
  · rintro ⟨a, b⟩; exact ⟨by omega, b⟩
  · rintro ⟨a, b⟩; exact ⟨by omega, b⟩
theorem RWt.pl {S T : St} {g k : Nat} (hg : g < 3) (h : RWt S T g) (hk : k < wN S g) : ml_pl T g (6 * g + rN S g k) = k := by
  obtain ⟨h1, h2, h3⟩ := id h.2.2.2
  unfold ml_pl
  rw [cn_ext (q := fun o => decide (o < 6) && ml_bf T (6 * g + o) (6 * g + rN S g k)) 6 (fun o ho => by simp [ho])]
  refine cn_row (r := rN S g) k _ (fun i j a b e => ?_) (fun i a => (h1 i (by omega)).1) (fun o => ?_)
  · have := h.2.2.2.ne (show i < wN S g by omega) (show j < wN S g by omega) e
    omega
  · rw [Bool.and_eq_true, decide_eq_true_eq]
    constructor
    · rintro ⟨ho, hb⟩
      obtain ⟨a1, a2, a3⟩ := (h.bf hg ho (h1 k hk).1).mp hb
      obtain ⟨j, hj, rfl⟩ := h2 o ho a2
      refine ⟨j, ?_, rfl⟩
      rcases Nat.lt_trichotomy j k with q | q | q
      · exact q
      · exact absurd (by rw [q]) a1
      · have := h3 k j q hj
        simp only at this
        omega
    · rintro ⟨j, hj, rfl⟩
      have hj2 : j < wN S g := by omega
      refine ⟨(h1 j hj2).1, (h.bf hg (h1 j hj2).1 (h1 k hk).1).mpr ⟨fun z => ?_, (h1 j hj2).2, h3 j k hj hk⟩⟩
      have := h.2.2.2.ne hj2 hk z
      omega
theorem RWt.w0 {S T : St} {g m : Nat} (h : RWt S T g) (hm : m < 6) : T.2.2.1 44 (6 * g + m) ≤ 0 ↔ wtN T (6 * g + m) = 0 := by
  have h1 := h.1 m hm
  have h3 := h.2.2.1
  rw [h1.1, show (0 : Int32) = nI 0 from rfl, nI_leI (by omega) (by decide)]
  omega
theorem RWt.wc {S T : St} {g : Nat} (h : RWt S T g) : ml_wc T g = wN S g := by
  obtain ⟨h1, h2, h3⟩ := id h.2.2.2
  unfold ml_wc
  rw [cn_ext (q := fun o => decide (o < 6) && ml_w T (6 * g + o)) 6 (fun o ho => by simp [ho])]
  refine cn_row (r := rN S g) _ _ (fun i j a b e => ?_) (fun i a => (h1 i a).1) (fun o => ?_)
  · have := h.2.2.2.ne (show i < wN S g by omega) b e
    omega
  · rw [Bool.and_eq_true, decide_eq_true_eq]
    constructor
    · rintro ⟨ho, hb⟩
      unfold ml_w at hb
      rw [decide_eq_true_eq, h.w0 ho] at hb
      exact h2 o ho (by simp only; omega)
    · rintro ⟨j, hj, rfl⟩
      refine ⟨(h1 j hj).1, ?_⟩
      unfold ml_w
      rw [decide_eq_true_eq, h.w0 (h1 j hj).1]
      have := (h1 j hj).2
      simp only at this
      omega
theorem wa_hit {T : St} {g q : Nat} {p : Int32} (h1 : ¬ T.2.2.1 44 (6 * g + q) ≤ 0) (h2 : nI (ml_pl T g (6 * g + q)) = p) : ∀ n, q < n → (∀ j, j < n → ¬ T.2.2.1 44 (6 * g + j) ≤ 0 → nI (ml_pl T g (6 * g + j)) = p → j = q) → ml_wa T g p n = nI q
  | 0, h, _ => by omega
  | n + 1, h, hu => by
    rw [ml_wa_s]
    by_cases hn : n = q
    · subst hn
      rw [if_neg h1, if_pos h2]
    · have ih := wa_hit h1 h2 n (by omega) (fun j a => hu j (by omega))
      split
      · exact ih
      · split
        · rename_i a b
          exact absurd (hu n (by omega) a b) hn
        · exact ih
theorem wa_no {T : St} {g : Nat} {p : Int32} : ∀ n, (∀ j, j < n → T.2.2.1 44 (6 * g + j) ≤ 0) → ml_wa T g p n = -1
  | 0, _ => rfl
  | n + 1, h => by
    rw [ml_wa_s, if_pos (h n (by omega))]
    exact wa_no n (fun j a => h j (by omega))
theorem RWt.wa {S T : St} {g k : Nat} (hg : g < 3) (h : RWt S T g) (hk : k < wN S g) (hk2 : k < 2 ^ 31) : ml_wa T g (nI k) 6 = nI (rN S g k) := by
  obtain ⟨h1, h2, h3⟩ := id h.2.2.2
  have r6 := (h1 k hk).1
  have rp := (h1 k hk).2
  simp only at rp
  refine wa_hit ?_ (by rw [h.pl hg hk]) 6 r6 (fun j hj a b => ?_)
  · rw [h.w0 r6]; omega
  · rw [h.w0 hj] at a
    obtain ⟨i, hi, rfl⟩ := h2 j hj (by simp only; omega)
    have hw6 : wN S g ≤ 6 := by rw [← h.wc]; exact cntB_le _ 6
    rw [h.pl hg hi, nI_eq (by omega) hk2] at b
    rw [b]
theorem RWt.wa0 {S T : St} {g : Nat} (h : RWt S T g) (hw : wN S g = 0) {p : Int32} : ml_wa T g p 6 = -1 := by
  refine wa_no 6 (fun j hj => ?_)
  rw [h.w0 hj]
  rcases Nat.eq_zero_or_pos (wtN T (6 * g + j)) with q | q
  · exact q
  · obtain ⟨k, hk, -⟩ := h.2.2.2.2.1 j hj q
    omega
/-! the messages -/
def VM (kd g m b : Int32) : Prop := ∃ kn gn mn : Nat, 1 ≤ kn ∧ kn ≤ 11 ∧ gn < 3 ∧ mn < 6 ∧ kd = nI kn ∧ g = nI gn ∧ m = nI mn ∧ ((kn = 9 ∨ kn = 11) → ∃ bn, bn < 64 ∧ b = nI bn) ∧ (kn = 10 → b = -1 ∨ ∃ q, q < 6 ∧ b = nI q)
def RNet (S T : St) : Prop := ∃ (c : Nat) (p : Nat → Nat), c ≤ 60 ∧ S.1 6 0 2 = nI c ∧ T.2.2.1 3 0 = nI c ∧ S.1 6 0 3 = T.2.2.1 2 0 ∧ (∀ k, k < 61 → p k < 61 ∧ S.1 11 0 k = nI (p k)) ∧ (∀ j k, j < 61 → k < 61 → p j = p k → j = k) ∧ (∀ k, k < c → ∀ j, j < 6 → S.1 5 (p k) j = T.2.2.1 4 (6 * k + j)) ∧ ∀ k, k < c → VM (T.2.2.1 4 (6 * k)) (T.2.2.1 4 (6 * k + 1)) (T.2.2.1 4 (6 * k + 2)) (T.2.2.1 4 (6 * k + 4))
theorem RNet.ok {S T : St} (h : RNet S T) : NetOK S := by
  obtain ⟨c, p, hc, h1, h2, h3, h4, -⟩ := h
  exact ⟨c, p, hc, h1, h4⟩
theorem RNet.mo {S T : St} (h : RNet S T) : MO T := by
  obtain ⟨c, p, hc, h1, h2, -⟩ := h
  exact (MO.mk' h2 hc).1
theorem RNet.eq {S T S' T' : St} (h : RNet S T) (hS : ∀ a b c, a = 5 ∨ a = 6 ∨ a = 11 → S'.1 a b c = S.1 a b c) (hT : ∀ f i, f = 2 ∨ f = 3 ∨ f = 4 → T'.2.2.1 f i = T.2.2.1 f i) : RNet S' T' := by
  obtain ⟨c, p, hc, h1, h2, h3, h4, h5, h6, h7⟩ := h
  refine ⟨c, p, hc, by rw [hS _ _ _ (by omega)]; exact h1, by rw [hT _ _ (by omega)]; exact h2, by rw [hS _ _ _ (by omega), hT _ _ (by omega)]; exact h3, fun k hk => by rw [hS _ _ _ (by omega)]; exact h4 k hk, h5, fun k hk j hj => by rw [hS _ _ _ (by omega), hT _ _ (by omega)]; exact h6 k hk j hj, fun k hk => ?_⟩
  rw [hT _ _ (by omega), hT _ _ (by omega), hT _ _ (by omega), hT _ _ (by omega)]
  exact h7 k hk
theorem RNet.sc {S T : St} {κ i k : Nat} {v : Int32} (h : RNet S T) (h5 : κ ≠ 5) (h6 : κ ≠ 6) (h11 : κ ≠ 11) : RNet (sc S κ i k v) T := h.eq (fun a b c q => by rw [sc_get, if_neg (by omega)]) (fun _ _ _ => rfl)
theorem RNet.sl {S T : St} {g : Nat} {v : Int64} (h : RNet S T) : RNet (sl S g v) T := h
theorem RNet.sm {S T : St} {f i : Nat} {v : Int32} (h : RNet S T) (h2 : f ≠ 2) (h3 : f ≠ 3) (h4 : f ≠ 4) : RNet S (sm T f i v) := h.eq (fun _ _ _ _ => rfl) (fun a b q => by rw [sm_get, if_neg (by omega)])
theorem RNet.send {S T : St} {kd g m a b e : Int32} (h : RNet S T) (hv : VM kd g m b) : RNet (nt_send S kd g m a b e) (ml_send T kd g m a b e) := by
  obtain ⟨c, p, hc, h1, h2, h3, h4, h5, h6, h7⟩ := h
  by_cases hlt : c < 60
  · have e60 : ¬ T.2.2.1 3 0 = 60 := by
      rw [h2, show (60 : Int32) = nI 60 from rfl, nI_eq (by omega) (by omega)]; omega
    have em : mC T = c := by unfold mC; rw [h2, nI_clamp (by omega)]
    rw [nt_send_lt h1 hlt (h4 c (by omega)).2 (h4 c (by omega)).1]
    unfold ml_send
    rw [if_neg e60, em]
    have g4 : ∀ i, (ml_put T c kd g m a b e).2.2.1 4 i = if i = 6 * c + 5 then e else if i = 6 * c + 4 then b else if i = 6 * c + 3 then a else if i = 6 * c + 2 then m else if i = 6 * c + 1 then g else if i = 6 * c then kd else T.2.2.1 4 i := by
      intro i
      unfold ml_put
      simp [sm_get]
    have g5 : ∀ q j, (nt_put S (p c) kd g m a b e).1 5 q j = if q = p c ∧ j = 5 then e else if q = p c ∧ j = 4 then b else if q = p c ∧ j = 3 then a else if q = p c ∧ j = 2 then m else if q = p c ∧ j = 1 then g else if q = p c ∧ j = 0 then kd else S.1 5 q j := by
      intro q j
      unfold nt_put
      simp [sc_get]
    refine ⟨c + 1, p, by omega, ?_, ?_, ?_, fun k hk => ?_, h5, fun k hk j hj => ?_, fun k hk => ?_⟩
    · unfold nt_put
      simp [sc_get]
      rw [h1, nI_1]
    · unfold ml_put
      simp [sm_get]
      rw [h2, nI_1]
    · unfold nt_put ml_put
      simp [sc_get, sm_get]
      exact h3
    · unfold nt_put
      simp [sc_get]
      exact h4 k hk
    · rw [g4, g5]
      by_cases hkc : k = c
      · subst hkc
        rcases (show j = 0 ∨ j = 1 ∨ j = 2 ∨ j = 3 ∨ j = 4 ∨ j = 5 by omega) with rfl | rfl | rfl | rfl | rfl | rfl <;> simp
      · have hne : p k ≠ p c := fun z => hkc (h5 k c (by omega) (by omega) z)
        rw [if_neg (by omega), if_neg (by omega), if_neg (by omega), if_neg (by omega), if_neg (by omega), if_neg (by omega), if_neg (by omega), if_neg (by omega), if_neg (by omega), if_neg (by omega), if_neg (by omega), if_neg (by omega)]
        exact h6 k (by omega) j hj
    · rw [g4, g4, g4, g4]
      by_cases hkc : k = c
      · subst hkc
        simp
        exact hv
      · have := h7 k (by omega)
        repeat rw [if_neg (by omega)]
        exact this
  · have e60 : T.2.2.1 3 0 = 60 := by
      rw [h2, show c = 60 by omega]; rfl
    rw [nt_send_ge h1 (by omega) hc]
    unfold ml_send
    rw [if_pos e60]
    refine ⟨c, p, hc, ?_, ?_, ?_, fun k hk => ?_, h5, fun k hk j hj => ?_, fun k hk => ?_⟩
    · simp [sc_get]; exact h1
    · simp [sm_get]; exact h2
    · simp [sc_get, sm_get]; exact h3
    · simp [sc_get]; exact h4 k hk
    · simp [sc_get, sm_get]; exact h6 k hk j hj
    · simp [sm_get]; exact h7 k hk
theorem vm_k {k g m : Nat} {b : Int32} (h1 : 1 ≤ k) (h2 : k ≤ 8) (hg : g < 3) (hm : m < 6) : VM (nI k) (nI g) (nI m) b := ⟨k, g, m, h1, by omega, hg, hm, rfl, rfl, rfl, fun q => by omega, fun q => by omega⟩
theorem vm_p {k g m b : Nat} (h1 : k = 9 ∨ k = 11) (hg : g < 3) (hm : m < 6) (hb : b < 64) : VM (nI k) (nI g) (nI m) (nI b) := ⟨k, g, m, by omega, by omega, hg, hm, rfl, rfl, rfl, fun _ => ⟨b, hb, rfl⟩, fun q => by omega⟩
theorem vm_g {g m : Nat} (hg : g < 3) (hm : m < 6) : VM 10 (nI g) (nI m) (nI m) := ⟨10, g, m, by omega, by omega, hg, hm, rfl, rfl, rfl, fun q => by omega, fun _ => Or.inr ⟨m, hm, rfl⟩⟩
theorem vm_g0 {g : Nat} (hg : g < 3) : VM 10 (nI g) 0 (-1) := ⟨10, g, 0, by omega, by omega, hg, by omega, rfl, rfl, rfl, fun q => by omega, fun _ => Or.inl rfl⟩
def RTh (S T : St) : Prop := ∀ i, i < 18 → S.1 4 i 0 = T.2.2.1 5 i
theorem RTh.eq {S T S' T' : St} (h : RTh S T) (hS : ∀ i, S'.1 4 i 0 = S.1 4 i 0) (hT : ∀ i, T'.2.2.1 5 i = T.2.2.1 5 i) : RTh S' T' := fun i hi => by rw [hS, hT]; exact h i hi
theorem mu_get {S : St} {g : Nat} {m a b c : Int32} {f i : Nat} (h2 : f ≠ 2) (h3 : f ≠ 3) (h4 : f ≠ 4) : ∀ n, (mu S g m a b c n).2.2.1 f i = S.2.2.1 f i
  | 0 => rfl
  | n + 1 => by
    rw [mu_s]
    unfold mu1
    split
    · exact mu_get h2 h3 h4 n
    · split
      · exact mu_get h2 h3 h4 n
      · rw [ml_send_get h2 h3 h4]; exact mu_get h2 h3 h4 n
theorem RNet.talk {S T : St} {g : Nat} (h : RNet S T) (ht : RTh S T) (hg : g < 3) {mem x : Int32} (hmem : mem = T.2.2.1 35 g) (hx : x = T.2.2.1 34 g) : ∀ n, n ≤ 6 → RNet (ot S g 8 mem x mem 0 n) (mt T g n)
  | 0, _ => h
  | n + 1, hn => by
    have ih := RNet.talk h ht hg hmem hx n (by omega)
    rw [mt_s]
    show RNet (ot1 _ _ _ _ _ _ _ _) _
    unfold ot1 mt1
    rw [ot_get (by decide) (by decide), mt_get (by decide) (by decide) (by decide), mt_get (by decide) (by decide) (by decide), mt_get (by decide) (by decide) (by decide), ht _ (by omega), ← hmem, ← hx]
    by_cases h1 : nI n = mem <;> by_cases h2 : T.2.2.1 5 (6 * g + n) = 0
    · simp only [if_pos h1, if_pos h2]; exact ih
    · simp only [if_pos h1, if_neg h2]; exact ih
    · simp only [if_neg h1, if_pos h2]; exact ih
    · simp only [if_neg h1, if_neg h2]; exact ih.send (vm_k (k := 8) (by omega) (by omega) hg (by omega))
theorem RNet.pass {S T : St} {g m b : Nat} (h : RNet S T) (ht : RTh S T) (hg : g < 3) (hb : b < 64) {a c : Int32} : ∀ n, n ≤ 6 → RNet (ot S g 9 (nI m) a (nI b) c n) (mu T g (nI m) a (nI b) c n)
  | 0, _ => h
  | n + 1, hn => by
    have ih := RNet.pass (m := m) h ht hg hb (a := a) (c := c) n (by omega)
    rw [mu_s]
    show RNet (ot1 _ _ _ _ _ _ _ _) _
    unfold ot1 mu1
    rw [ot_get (by decide) (by decide), mu_get (by decide) (by decide) (by decide), ht _ (by omega)]
    by_cases h1 : nI n = nI m <;> by_cases h2 : T.2.2.1 5 (6 * g + n) = 0
    · simp only [if_pos h1, if_pos h2]; exact ih
    · simp only [if_pos h1, if_neg h2]; exact ih
    · simp only [if_neg h1, if_pos h2]; exact ih
    · simp only [if_neg h1, if_neg h2]; exact ih.send (vm_p (k := 9) (by omega) hg (by omega) hb)
