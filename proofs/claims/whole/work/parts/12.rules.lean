/-! rules in the form that a program lays: calls behind the making (nothing is made, or one exception), ends, booleans -/
def bI (p : Bool) : Int32 := if p then 1 else 0
theorem bI_nf (p : Bool) : narrow .boolean (.int (bI p)) = .int (bI p) ∧ fits .boolean (.int (bI p)) = true := by cases p <;> exact ⟨by decide, by decide⟩
theorem bI_nar (p : Bool) : vp_nar .boolean (bI p) = bI p := by cases p <;> decide
theorem bI_0 {p : Bool} : bI p = 0 ↔ p = false := by cases p <;> decide
theorem bI_1 {p : Bool} : bI p = 1 ↔ p = true := by cases p <;> decide
section XQ
variable {X : XS} {M N : Mt} {al : Bool} {d pc k n : Nat} {lv : List (Option Value)} {st as : List Value} {h h1 : MH} {r : Rs} {E : String}
theorem x_rI {v : Int32} {ty : FieldType} (hd : decode (Mc M) pc = .ok (.ireturn, 1)) (hr : Mr M = some ty) (hn : narrow ty (.int v) = .int v) (e1 : r.1 = .inl (some (.int v))) (e2 : r.2.1 = h) (h1 : k ≤ r.2.2.1) (h2 : n ≤ r.2.2.2) : Ex X M al d pc lv [.int v] h k n r := by
  obtain ⟨o, hh, mc, ms⟩ := r
  cases e1; cases e2
  exact x_zret hd hr hn h1 h2
theorem x_rV (hd : decode (Mc M) pc = .ok (.return_, 1)) (hr : Mr M = none) (e1 : r.1 = .inl none) (e2 : r.2.1 = h) (h1 : k ≤ r.2.2.1) (h2 : n ≤ r.2.2.2) : Ex X M al d pc lv [] h k n r := by
  obtain ⟨o, hh, mc, ms⟩ := r
  cases e1; cases e2
  exact x_vret hd hr h1 h2
theorem x_rA {a : Nat} {C0 : String} (hd : decode (Mc M) pc = .ok (.areturn, 1)) (hr : Mr M = some (.object C0)) (e1 : r.1 = .inl (some (.ref a))) (e2 : r.2.1 = h) (h1 : k ≤ r.2.2.1) (h2 : n ≤ r.2.2.2) : Ex X M al d pc lv [.ref a] h k n r := by
  obtain ⟨o, hh, mc, ms⟩ := r
  cases e1; cases e2
  exact x_aret hd hr h1 h2
theorem x_rT {ik ic : Nat} (hth : TH M.1.cls ik ic E) (hm : Mh M = []) (d0 : decode (Mc M) pc = .ok (.new ik, 3)) (d3 : decode (Mc M) (pc + 3) = .ok (.dup, 1)) (d4 : decode (Mc M) (pc + 4) = .ok (.invokespecial ic, 3)) (d7 : decode (Mc M) (pc + 7) = .ok (.athrow, 1))
    (hdp : 6 ≤ d) (hrs : (st.map fun v => v.category).sum ≤ 100) (e1 : r.1 = .inr E) (e2 : r.2.1 = h) (h1 : k + 1 ≤ r.2.2.1) (h2 : n + 6 ≤ r.2.2.2) : Ex X M al d pc lv st h k n r := by
  obtain ⟨o, hh, mc, ms⟩ := r
  cases e1; cases e2
  exact x_throw hth hm d0 d3 d4 d7 hdp hrs h1 h2
theorem x_cV {v : Value} {np idx a ci : Nat} {fs : List Value} {q : vw_C} (hd : decode (Mc M) pc = .ok (.invokevirtual idx, 3)) (hN : MF N np) (hm : Mh N = []) (hlk : LKV M.1.cls idx N) (hnp : as.length = np) (hc : h[a]? = some (.inr (ci, fs))) (hq : vwCl[ci]? = some q) (hqn : q.1 = N.1.cls) (hrs : (st.map fun v => v.category).sum ≤ 8)
    (hC : Call X N false d (.ref a :: as) h (.inl (some v), h1, 0, 0)) (hk : k ≤ r.2.2.1) (hn : n ≤ r.2.2.2) (kk : Ex X M false (d + 1) (pc + 3) lv (v :: st) h1 k n r) : Ex X M false (d + 1) pc lv (as.reverse ++ .ref a :: st) h k n r :=
  x_invV hd hN hm hlk hnp hc hq hqn hrs hC rfl (fun z => by cases z) hk hn kk
theorem x_cVv {np idx a ci : Nat} {fs : List Value} {q : vw_C} (hd : decode (Mc M) pc = .ok (.invokevirtual idx, 3)) (hN : MF N np) (hm : Mh N = []) (hlk : LKV M.1.cls idx N) (hnp : as.length = np) (hc : h[a]? = some (.inr (ci, fs))) (hq : vwCl[ci]? = some q) (hqn : q.1 = N.1.cls) (hrs : (st.map fun v => v.category).sum ≤ 8)
    (hC : Call X N false d (.ref a :: as) h (.inl none, h1, 0, 0)) (hk : k ≤ r.2.2.1) (hn : n ≤ r.2.2.2) (kk : Ex X M false (d + 1) (pc + 3) lv st h1 k n r) : Ex X M false (d + 1) pc lv (as.reverse ++ .ref a :: st) h k n r :=
  x_invV hd hN hm hlk hnp hc hq hqn hrs hC rfl (fun z => by cases z) hk hn kk
theorem x_cVT {np idx a ci : Nat} {fs : List Value} {q : vw_C} (hd : decode (Mc M) pc = .ok (.invokevirtual idx, 3)) (hN : MF N np) (hm : Mh N = []) (hmM : Mh M = []) (hlk : LKV M.1.cls idx N) (hnp : as.length = np) (hc : h[a]? = some (.inr (ci, fs))) (hq : vwCl[ci]? = some q) (hqn : q.1 = N.1.cls) (hrs : (st.map fun v => v.category).sum ≤ 8)
    (hC : Call X N false d (.ref a :: as) h (.inr E, h1, 1, 6)) (e1 : r.1 = .inr E) (e2 : r.2.1 = h1) (hk : k + 1 ≤ r.2.2.1) (hn : n + 6 ≤ r.2.2.2) : Ex X M false (d + 1) pc lv (as.reverse ++ .ref a :: st) h k n r := by
  obtain ⟨o, hh, mc, ms⟩ := r
  cases e1; cases e2
  exact x_invVT hd hN hm hmM hlk hnp hc hq hqn hrs hC rfl hk hn
theorem x_cS {v : Value} {np idx : Nat} (hd : decode (Mc M) pc = .ok (.invokestatic idx, 3)) (hN : MF N np) (hm : Mh N = []) (hlk : LKS M.1.cls idx N) (hnp : as.length = np) (hrs : (st.map fun v => v.category).sum ≤ 8)
    (hC : Call X N false d as h (.inl (some v), h1, 0, 0)) (hk : k ≤ r.2.2.1) (hn : n ≤ r.2.2.2) (kk : Ex X M false (d + 1) (pc + 3) lv (v :: st) h1 k n r) : Ex X M false (d + 1) pc lv (as.reverse ++ st) h k n r :=
  x_invS hd hN hm hlk hnp hrs hC rfl (fun z => by cases z) hk hn kk
theorem x_cSv {np idx : Nat} (hd : decode (Mc M) pc = .ok (.invokestatic idx, 3)) (hN : MF N np) (hm : Mh N = []) (hlk : LKS M.1.cls idx N) (hnp : as.length = np) (hrs : (st.map fun v => v.category).sum ≤ 8)
    (hC : Call X N false d as h (.inl none, h1, 0, 0)) (hk : k ≤ r.2.2.1) (hn : n ≤ r.2.2.2) (kk : Ex X M false (d + 1) (pc + 3) lv st h1 k n r) : Ex X M false (d + 1) pc lv (as.reverse ++ st) h k n r :=
  x_invS hd hN hm hlk hnp hrs hC rfl (fun z => by cases z) hk hn kk
theorem x_cST {np idx : Nat} (hd : decode (Mc M) pc = .ok (.invokestatic idx, 3)) (hN : MF N np) (hm : Mh N = []) (hmM : Mh M = []) (hlk : LKS M.1.cls idx N) (hnp : as.length = np) (hrs : (st.map fun v => v.category).sum ≤ 8)
    (hC : Call X N false d as h (.inr E, h1, 1, 6)) (e1 : r.1 = .inr E) (e2 : r.2.1 = h1) (hk : k + 1 ≤ r.2.2.1) (hn : n + 6 ≤ r.2.2.2) : Ex X M false (d + 1) pc lv (as.reverse ++ st) h k n r := by
  obtain ⟨o, hh, mc, ms⟩ := r
  cases e1; cases e2
  exact x_invST hd hN hm hmM hlk hnp hrs hC rfl hk hn
theorem x_if_eqB {p : Bool} {off : Int} {tgt : Nat} (hd : decode (Mc M) pc = .ok (.ifCond .eq off, 3)) (ht : (pc : Int) + off = (tgt : Int)) (kt : p = false → Ex X M al d tgt lv st h k n r) (kf : p = true → Ex X M al d (pc + 3) lv st h k n r) : Ex X M al d pc lv (.int (bI p) :: st) h k n r :=
  x_if_eq hd ht (fun q => kt (bI_0.mp q)) (fun q => kf (by cases p; exact absurd rfl q; rfl))
theorem x_if_neB {p : Bool} {off : Int} {tgt : Nat} (hd : decode (Mc M) pc = .ok (.ifCond .ne off, 3)) (ht : (pc : Int) + off = (tgt : Int)) (kt : p = true → Ex X M al d tgt lv st h k n r) (kf : p = false → Ex X M al d (pc + 3) lv st h k n r) : Ex X M al d pc lv (.int (bI p) :: st) h k n r :=
  x_if_ne hd ht (fun q => kt (by cases p; exact absurd rfl q; rfl)) (fun q => kf (bI_0.mp q))
end XQ
theorem ix6 (g m : Nat) : (6 : Int32) * nI g + nI m = nI (6 * g + m) := by
  rw [show (6 : Int32) = nI 6 from rfl, pk_mul, nI_add]
theorem ix64 (a j : Nat) : (64 : Int32) * nI a + nI j = nI (64 * a + j) := by
  rw [show (64 : Int32) = nI 64 from rfl, pk_mul, nI_add]
