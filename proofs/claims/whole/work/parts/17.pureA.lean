/-! what the class's pieces keep -/
theorem nt_send_get {S : St} {kd g m x y z : Int32} {a b c : Nat} (h5 : a ≠ 5) (h6 : a ≠ 6) : (nt_send S kd g m x y z).1 a b c = S.1 a b c := by
  unfold nt_send
  split
  · unfold nt_put
    simp [sc_get, h5, h6]
  · simp [sc_get, h6]
theorem nt_send_2 {S : St} {kd g m x y z : Int32} : (nt_send S kd g m x y z).2 = S.2 := by
  unfold nt_send
  split
  · rfl
  · rfl
theorem ot_get {S : St} {g : Nat} {kd mem x y z : Int32} {a b c : Nat} (h5 : a ≠ 5) (h6 : a ≠ 6) : ∀ n, (ot S g kd mem x y z n).1 a b c = S.1 a b c
  | 0 => rfl
  | n + 1 => by
    show (ot1 _ _ _ _ _ _ _ _).1 a b c = _
    unfold ot1
    split
    · exact ot_get h5 h6 n
    · split
      · exact ot_get h5 h6 n
      · rw [nt_send_get h5 h6]; exact ot_get h5 h6 n
theorem ot_2 {S : St} {g : Nat} {kd mem x y z : Int32} : ∀ n, (ot S g kd mem x y z n).2 = S.2
  | 0 => rfl
  | n + 1 => by
    show (ot1 _ _ _ _ _ _ _ _).2 = _
    unfold ot1
    split
    · exact ot_2 n
    · split
      · exact ot_2 n
      · rw [nt_send_2]; exact ot_2 n
theorem gof_row {S : St} {g p b k : Nat} : ∀ n, (gof S g p n).1 13 b k = if b = g ∧ p ≤ k ∧ k < p + n then S.1 13 g (k + 1) else S.1 13 b k
  | 0 => by rw [if_neg (by omega)]; rfl
  | n + 1 => by
    show (sc _ _ _ _ _).1 13 b k = _
    rw [sc_get]
    by_cases hk : b = g ∧ k = p + n
    · obtain ⟨rfl, rfl⟩ := hk
      rw [if_pos ⟨rfl, rfl, rfl⟩, gof_row n, if_neg (by omega), if_pos (by omega)]
    · rw [if_neg (by omega), gof_row n]
      by_cases h2 : b = g ∧ p ≤ k ∧ k < p + n
      · rw [if_pos h2, if_pos (by omega)]
      · rw [if_neg h2, if_neg (by omega)]
theorem gof_2 {S : St} {g p : Nat} : ∀ n, (gof S g p n).2 = S.2
  | 0 => rfl
  | n + 1 => gof_2 n
theorem shf_row {S : St} {g w b k : Nat} : ∀ n, n ≤ w → (shf S g w n).1 13 b k = if b = g ∧ w - n < k ∧ k ≤ w then S.1 13 g (k - 1) else S.1 13 b k
  | 0, _ => by rw [if_neg (by omega)]; rfl
  | n + 1, hn => by
    show (sc _ _ _ _ _).1 13 b k = _
    rw [sc_get]
    by_cases hk : b = g ∧ k = w - n
    · obtain ⟨rfl, rfl⟩ := hk
      rw [if_pos ⟨rfl, rfl, rfl⟩, shf_row n (by omega), if_neg (by omega), if_pos (by omega)]
    · rw [if_neg (by omega), shf_row n (by omega)]
      by_cases h2 : b = g ∧ w - n < k ∧ k ≤ w
      · rw [if_pos h2, if_pos (by omega)]
      · rw [if_neg h2, if_neg (by omega)]
theorem shf_2 {S : St} {g w : Nat} : ∀ n, (shf S g w n).2 = S.2
  | 0 => rfl
  | n + 1 => shf_2 n
theorem gof_net {S : St} {g p : Nat} (h : NetOK S) : ∀ n, NetOK (gof S g p n)
  | 0 => h
  | n + 1 => (gof_net h n).sc (by decide) (by decide)
theorem fl_go_net {S : St} {g p : Nat} (h : NetOK S) : NetOK (fl_go S g p) := by
  unfold fl_go
  split
  · exact h
  · exact gof_net (h.sc (by decide) (by decide)) _
theorem fl_go_get {S : St} {g p a b c : Nat} (h13 : a ≠ 13) (h1 : ¬ (a = 1 ∧ b = g ∧ c = 5)) : (fl_go S g p).1 a b c = S.1 a b c := by
  unfold fl_go
  split
  · rfl
  · rw [gof_get h13, sc_get, if_neg h1]
theorem fl_go_2 {S : St} {g p : Nat} : (fl_go S g p).2 = S.2 := by
  unfold fl_go
  split
  · rfl
  · rw [gof_2]; rfl
theorem fl_go_row {S : St} {g p b k : Nat} : (fl_go S g p).1 13 b k = if b = g ∧ p ≤ k ∧ k < wN S g - 1 then S.1 13 g (k + 1) else S.1 13 b k := by
  unfold fl_go
  split
  · rw [if_neg (by omega)]
  · rw [gof_row]
    by_cases h : b = g ∧ p ≤ k ∧ k < wN S g - 1
    · rw [if_pos (by omega), if_pos h, sc_get, if_neg (by omega)]
    · rw [if_neg (by omega), if_neg h, sc_get, if_neg (by omega)]
/-- a group's floor -/
def FlI (S : St) (g : Nat) : Prop := FlW S g ∧ ClB S g ∧ (S.1 8 (2 * g) 0 = 0 ∨ S.1 8 (2 * g) 0 = 1) ∧ (S.1 1 g 7 = -1 ∨ ∃ q, q < 6 ∧ S.1 1 g 7 = nI q)
theorem FlW.eq {S S' : St} {g : Nat} (h : FlW S g) (h1 : S'.1 1 g 5 = S.1 1 g 5) (h2 : ∀ k, S'.1 13 g k = S.1 13 g k) : FlW S' g := by
  have e1 : wN S' g = wN S g := by unfold wN; rw [h1]
  have e2 : ∀ k, rN S' g k = rN S g k := fun k => by unfold rN; rw [h2]
  refine ⟨by rw [h1, e1]; exact h.1, by rw [e1]; exact h.2.1, fun k hk => ?_⟩
  rw [e1] at hk
  rw [e2, h2]
  exact h.2.2 k hk
theorem FlI.eq {S S' : St} {g : Nat} (h : FlI S g) (h1 : S'.1 1 g 5 = S.1 1 g 5) (h2 : ∀ k, S'.1 13 g k = S.1 13 g k) (h3 : ∀ m, m < 6 → S'.1 0 (6 * g + m) 2 = S.1 0 (6 * g + m) 2) (h4 : S'.1 8 (2 * g) 0 = S.1 8 (2 * g) 0) (h5 : S'.1 1 g 7 = S.1 1 g 7) : FlI S' g :=
  ⟨h.1.eq h1 h2, fun m hm => by rw [h3 m hm]; exact h.2.1 m hm, by rw [h4]; exact h.2.2.1, by rw [h5]; exact h.2.2.2⟩
theorem FlI.send {S : St} {g : Nat} {kd x0 m x y z : Int32} (h : FlI S g) : FlI (nt_send S kd x0 m x y z) g :=
  h.eq (nt_send_get (by decide) (by decide)) (fun _ => nt_send_get (by decide) (by decide)) (fun _ _ => nt_send_get (by decide) (by decide)) (nt_send_get (by decide) (by decide)) (nt_send_get (by decide) (by decide))
theorem FlI.ot {S : St} {g g0 : Nat} {kd mem x y z : Int32} (h : FlI S g) (n : Nat) : FlI (ot S g0 kd mem x y z n) g :=
  h.eq (ot_get (by decide) (by decide) n) (fun _ => ot_get (by decide) (by decide) n) (fun _ _ => ot_get (by decide) (by decide) n) (ot_get (by decide) (by decide) n) (ot_get (by decide) (by decide) n)
theorem wN_go {S : St} {g p : Nat} (h : FlW S g) : wN (fl_go S g p) g = if wN S g ≤ p then wN S g else wN S g - 1 := by
  have hw := h.2.1
  by_cases hp : wN S g ≤ p
  · rw [if_pos hp]; unfold fl_go; rw [if_pos hp]
  · rw [if_neg hp]
    show (((fl_go S g p).1 1 g 5).toNatClampNeg) = _
    unfold fl_go
    rw [if_neg hp, gof_get (by decide), sc_get, if_pos ⟨rfl, rfl, rfl⟩, h.1, show nI (wN S g) - 1 = nI (wN S g - 1) from pk_sub (b := 1) (by omega), nI_clamp (by omega)]
theorem rN_go {S : St} {g p k : Nat} : rN (fl_go S g p) g k = if p ≤ k ∧ k < wN S g - 1 then rN S g (k + 1) else rN S g k := by
  unfold rN
  rw [fl_go_row]
  by_cases h : p ≤ k ∧ k < wN S g - 1
  · rw [if_pos ⟨rfl, h⟩, if_pos h]
  · rw [if_neg (by omega), if_neg h]
theorem FlW.go {S : St} {g p : Nat} (h : FlW S g) : FlW (fl_go S g p) g := by
  have hw := h.2.1
  have ew := wN_go (p := p) h
  by_cases hp : wN S g ≤ p
  · have e : fl_go S g p = S := by unfold fl_go; rw [if_pos hp]
    rw [e]; exact h
  · rw [if_neg hp] at ew
    refine ⟨?_, by omega, fun k hk => ?_⟩
    · rw [ew]
      unfold fl_go
      rw [if_neg hp, gof_get (by decide), sc_get, if_pos ⟨rfl, rfl, rfl⟩, h.1]
      exact pk_sub (b := 1) (by omega)
    · rw [ew] at hk
      rw [rN_go, fl_go_row]
      by_cases h2 : p ≤ k ∧ k < wN S g - 1
      · rw [if_pos h2, if_pos ⟨rfl, h2⟩]; exact h.2.2 (k + 1) (by omega)
      · rw [if_neg h2, if_neg (by omega)]; exact h.2.2 k (by omega)
theorem FlI.go {S : St} {g p : Nat} (h : FlI S g) : FlI (fl_go S g p) g :=
  ⟨h.1.go, fun m hm => by rw [fl_go_get (by decide) (by omega)]; exact h.2.1 m hm, by rw [fl_go_get (by decide) (by omega)]; exact h.2.2.1, by rw [fl_go_get (by decide) (by omega)]; exact h.2.2.2⟩
theorem gr0_get {S : St} {g m a b c : Nat} {t : Int32} (h : ¬ (a = 1 ∧ b = g ∧ (c = 6 ∨ c = 7 ∨ c = 8))) (h8 : ¬ (a = 8 ∧ b = 2 * g + 1)) : (fl_gr0 S g m t).1 a b c = S.1 a b c := by
  unfold fl_gr0 ru_set
  simp only [sc_get]
  repeat rw [if_neg (by omega)]
theorem FlI.grant {S : St} {g m : Nat} {t : Int32} (h : FlI S g) (hm : m < 6) : FlI (fl_grant S g m t) g := by
  have h0 : FlI (fl_gr0 S g m t) g := by
    refine ⟨h.1.eq (gr0_get (by omega) (by omega)) (fun k => gr0_get (by omega) (by omega)), fun q hq => ?_, ?_, Or.inr ⟨m, hm, ?_⟩⟩
    · rw [gr0_get (by omega) (by omega)]; exact h.2.1 q hq
    · rw [gr0_get (by omega) (by omega)]; exact h.2.2.1
    · unfold fl_gr0 ru_set
      simp [sc_get]
  exact (h0.send.send).ot 6
theorem grant_net {S : St} {g m : Nat} {t : Int32} (h : NetOK S) : NetOK (fl_grant S g m t) := ot_ok (nt_send_ok (nt_send_ok (gr0_net h))) 6
def fl_free0 (S : St) (g : Nat) : St := sc (sc (sc (sc S 1 g 7 (-1)) 1 g 8 (-1)) 1 g 9 (-1)) 1 g 10 (-1)
def fl_free (S : St) (g : Nat) (t : Int32) : St := if (fl_free0 S g).1 1 g 5 ≤ 0 then nt_send (fl_free0 S g) 10 (nI g) 0 ((fl_free0 S g).1 1 g 6) (-1) 0 else fl_grant (fl_go (fl_free0 S g) g 0) g (rN (fl_free0 S g) g 0) t
def fl_back (S : St) (g m : Nat) (t : Int32) : St := if nI m = S.1 1 g 7 then fl_free S g t else fl_go S g (fl_place S g (nI m))
theorem free0_get {S : St} {g a b c : Nat} (h : ¬ (a = 1 ∧ b = g ∧ 7 ≤ c)) : (fl_free0 S g).1 a b c = S.1 a b c := by
  unfold fl_free0
  simp only [sc_get]
  repeat rw [if_neg (by omega)]
theorem FlI.free0 {S : St} {g : Nat} (h : FlI S g) : FlI (fl_free0 S g) g :=
  ⟨h.1.eq (free0_get (by omega)) (fun k => free0_get (by omega)), fun q hq => by rw [free0_get (by omega)]; exact h.2.1 q hq, by rw [free0_get (by omega)]; exact h.2.2.1, Or.inl (by unfold fl_free0; simp [sc_get])⟩
theorem free0_net {S : St} {g : Nat} (h : NetOK S) : NetOK (fl_free0 S g) := (((h.sc (by decide) (by decide)).sc (by decide) (by decide)).sc (by decide) (by decide)).sc (by decide) (by decide)
theorem free_w {S : St} {g : Nat} (h : FlW S g) (hw : ¬ S.1 1 g 5 ≤ 0) : 0 < wN S g := by
  rcases Nat.eq_zero_or_pos (wN S g) with e | e
  · exact absurd (by rw [h.1, e]; decide) hw
  · exact e
theorem FlI.free {S : St} {g : Nat} {t : Int32} (h : FlI S g) : FlI (fl_free S g t) g := by
  unfold fl_free
  split
  · exact h.free0.send
  · rename_i hw
    exact (h.free0.go).grant (h.free0.1.2.2 0 (free_w h.free0.1 hw)).1
theorem free_net {S : St} {g : Nat} {t : Int32} (h : NetOK S) : NetOK (fl_free S g t) := by
  unfold fl_free
  split
  · exact nt_send_ok (free0_net h)
  · exact grant_net (fl_go_net (free0_net h))
theorem FlI.back {S : St} {g m : Nat} {t : Int32} (h : FlI S g) : FlI (fl_back S g m t) g := by
  unfold fl_back
  split
  · exact h.free
  · exact h.go
theorem back_net {S : St} {g m : Nat} {t : Int32} (h : NetOK S) : NetOK (fl_back S g m t) := by
  unfold fl_back
  split
  · exact free_net h
  · exact fl_go_net h
theorem renew_get {S : St} {i a b c : Nat} {x p : Int32} {e : Bool} (h : ¬ (a = 0 ∧ b = i)) : (cl_renew S i x e p).1 a b c = S.1 a b c := by
  unfold cl_renew
  simp only [sc_get]
  repeat rw [if_neg (by omega)]
theorem FlI.renew {S : St} {g m : Nat} {x p : Int32} {e : Bool} (h : FlI S g) : FlI (cl_renew S (6 * g + m) x e p) g := by
  refine ⟨h.1.eq (renew_get (by omega)) (fun k => renew_get (by omega)), fun q hq => ?_, by rw [renew_get (by omega)]; exact h.2.2.1, by rw [renew_get (by omega)]; exact h.2.2.2⟩
  by_cases hqm : q = m
  · subst hqm
    have : (cl_renew S (6 * g + q) x e p).1 0 (6 * g + q) 2 = bI e := by unfold cl_renew; simp [sc_get]
    rw [this]
    cases e
    · exact Or.inl rfl
    · exact Or.inr rfl
  · rw [renew_get (by omega)]; exact h.2.1 q hq
theorem renew_net {S : St} {i : Nat} {x p : Int32} {e : Bool} (h : NetOK S) : NetOK (cl_renew S i x e p) := (((h.sc (by decide) (by decide)).sc (by decide) (by decide)).sc (by decide) (by decide)).sc (by decide) (by decide)
theorem ins_get {S : St} {g m a b c : Nat} (h13 : a ≠ 13) (h1 : ¬ (a = 1 ∧ b = g ∧ c = 5)) : (fl_ins S g m).1 a b c = S.1 a b c := by
  show (sc (sc (shf S g (wN S g) _) 13 g _ _) 1 g 5 _).1 a b c = _
  rw [sc_get, if_neg h1, sc_get, if_neg (by omega), shf_get h13]
theorem ins_2 {S : St} {g m : Nat} : (fl_ins S g m).2 = S.2 := by
  show (shf S g (wN S g) _).2 = _
  exact shf_2 _
theorem ins_w {S : St} {g m : Nat} : (fl_ins S g m).1 1 g 5 = S.1 1 g 5 + 1 := by
  show (sc (sc (shf S g (wN S g) _) 13 g _ _) 1 g 5 _).1 1 g 5 = _
  rw [sc_get, if_pos ⟨rfl, rfl, rfl⟩, sc_get, if_neg (by omega), shf_get (by decide)]
theorem at_le {S : St} {g m : Nat} : fl_at S g m ≤ wN S g := by have := enf_le S g m (wN S g) 0; unfold fl_at; omega
theorem ins_row {S : St} {g m b k : Nat} : (fl_ins S g m).1 13 b k = if b = g ∧ k = fl_at S g m then nI m else if b = g ∧ fl_at S g m < k ∧ k ≤ wN S g then S.1 13 g (k - 1) else S.1 13 b k := by
  have ha := at_le (S := S) (g := g) (m := m)
  show (sc (sc (shf S g (wN S g) (wN S g - fl_at S g m)) 13 g (fl_at S g m) (nI m)) 1 g 5 _).1 13 b k = _
  rw [sc_get, if_neg (by omega), sc_get]
  by_cases h1 : b = g ∧ k = fl_at S g m
  · rw [if_pos ⟨rfl, h1⟩, if_pos h1]
  · rw [if_neg (by omega), if_neg h1, shf_row _ (by omega), show wN S g - (wN S g - fl_at S g m) = fl_at S g m by omega]
theorem wN_ins {S : St} {g m : Nat} (h : FlW S g) : wN (fl_ins S g m) g = wN S g + 1 := by
  have hw := h.2.1
  unfold wN
  rw [ins_w, h.1, nI_1, nI_clamp (by omega), nI_clamp (by omega)]
theorem rN_ins {S : St} {g m k : Nat} (hm : m < 6) : rN (fl_ins S g m) g k = if k = fl_at S g m then m else if fl_at S g m < k ∧ k ≤ wN S g then rN S g (k - 1) else rN S g k := by
  unfold rN
  rw [ins_row]
  by_cases h1 : k = fl_at S g m
  · rw [if_pos ⟨rfl, h1⟩, if_pos h1, nI_clamp (by omega)]
  · rw [if_neg (by omega), if_neg h1]
    by_cases h2 : fl_at S g m < k ∧ k ≤ wN S g
    · rw [if_pos ⟨rfl, h2⟩, if_pos h2]
    · rw [if_neg (by omega), if_neg h2]
theorem FlI.ins {S : St} {g m : Nat} (h : FlI S g) (hm : m < 6) (hw3 : wN S g ≤ 3) : FlI (fl_ins S g m) g := by
  have ha := at_le (S := S) (g := g) (m := m)
  refine ⟨⟨?_, by rw [wN_ins h.1]; omega, fun k hk => ?_⟩, fun q hq => by rw [ins_get (by decide) (by omega)]; exact h.2.1 q hq, by rw [ins_get (by decide) (by omega)]; exact h.2.2.1, by rw [ins_get (by decide) (by omega)]; exact h.2.2.2⟩
  · rw [ins_w, wN_ins h.1, h.1.1, nI_1]
  · rw [wN_ins h.1] at hk
    rw [rN_ins hm, ins_row]
    by_cases h1 : k = fl_at S g m
    · rw [if_pos h1, if_pos ⟨rfl, h1⟩]; exact ⟨hm, rfl⟩
    · rw [if_neg h1]
      by_cases h2 : fl_at S g m < k ∧ k ≤ wN S g
      · rw [if_pos h2, if_neg (fun z => h1 z.2), if_pos ⟨rfl, h2⟩]; exact h.1.2.2 (k - 1) (by omega)
      · rw [if_neg h2, if_neg (fun z => h1 z.2), if_neg (fun z => h2 z.2)]; exact h.1.2.2 k (by omega)
theorem ins_net {S : St} {g m : Nat} (h : NetOK S) : NetOK (fl_ins S g m) := ((shf_net h _).sc (by decide) (by decide)).sc (by decide) (by decide)
