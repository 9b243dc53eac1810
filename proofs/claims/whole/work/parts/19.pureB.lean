/-- what a group's floor may change: its own cells, the net's -/
def Loc (g : Nat) (S S' : St) : Prop := S'.2 = S.2 ∧ ∀ a b c, a ≠ 5 → a ≠ 6 → ¬ (a = 1 ∧ b = g) → ¬ (a = 13 ∧ b = g) → ¬ (a = 8 ∧ b = 2 * g + 1) → ¬ (a = 0 ∧ b / 6 = g) → S'.1 a b c = S.1 a b c
theorem Loc.rf {g : Nat} {S : St} : Loc g S S := ⟨rfl, fun _ _ _ _ _ _ _ _ _ => rfl⟩
theorem Loc.tr {g : Nat} {S S1 S2 : St} (h : Loc g S S1) (h2 : Loc g S1 S2) : Loc g S S2 := ⟨h2.1.trans h.1, fun a b c h5 h6 ha hb hc hd => (h2.2 a b c h5 h6 ha hb hc hd).trans (h.2 a b c h5 h6 ha hb hc hd)⟩
theorem Loc.send {g : Nat} {S : St} {kd x0 m x y z : Int32} : Loc g S (nt_send S kd x0 m x y z) := ⟨nt_send_2, fun _ _ _ h5 h6 _ _ _ _ => nt_send_get h5 h6⟩
theorem Loc.ot {g g0 n : Nat} {S : St} {kd x0 x y z : Int32} : Loc g S (ot S g0 kd x0 x y z n) := ⟨ot_2 n, fun _ _ _ h5 h6 _ _ _ _ => ot_get h5 h6 n⟩
theorem Loc.sc1 {g k : Nat} {S : St} {v : Int32} : Loc g S (sc S 1 g k v) := ⟨rfl, fun a b c _ _ h1 _ _ _ => by rw [sc_get, if_neg (by omega)]⟩
theorem Loc.sc0 {g i k : Nat} {S : St} {v : Int32} (h : i / 6 = g) : Loc g S (sc S 0 i k v) := ⟨rfl, fun a b c _ _ _ _ _ h0 => by rw [sc_get, if_neg (by intro q; exact h0 ⟨q.1, by rw [q.2.1]; exact h⟩)]⟩
theorem Loc.go {g p : Nat} {S : St} : Loc g S (fl_go S g p) := ⟨fl_go_2, fun a b c _ _ h1 h13 _ _ => by
  by_cases ha : a = 13
  · subst ha; rw [fl_go_row, if_neg (by omega)]
  · exact fl_go_get ha (by omega)⟩
theorem Loc.grant {g m : Nat} {S : St} {t : Int32} : Loc g S (fl_grant S g m t) := by
  have h0 : Loc g S (fl_gr0 S g m t) := ⟨rfl, fun a b c _ _ h1 _ h8 _ => gr0_get (by omega) (by omega)⟩
  exact ((h0.tr .send).tr .send).tr .ot
theorem Loc.free0 {g : Nat} {S : St} : Loc g S (fl_free0 S g) := ((Loc.sc1.tr .sc1).tr .sc1).tr .sc1
theorem Loc.free {g : Nat} {S : St} {t : Int32} : Loc g S (fl_free S g t) := by
  unfold fl_free
  split
  · exact Loc.free0.tr .send
  · exact (Loc.free0.tr .go).tr .grant
theorem Loc.back {g m : Nat} {S : St} {t : Int32} : Loc g S (fl_back S g m t) := by
  unfold fl_back
  split
  · exact .free
  · exact .go
theorem Loc.renew {g i : Nat} {S : St} {x p : Int32} {e : Bool} (h : i / 6 = g) : Loc g S (cl_renew S i x e p) := (((Loc.sc0 h).tr (.sc0 h)).tr (.sc0 h)).tr (.sc0 h)
theorem Loc.ins {g m : Nat} {S : St} : Loc g S (fl_ins S g m) := ⟨ins_2, fun a b c _ _ h1 h13 _ _ => by
  by_cases ha : a = 13
  · subst ha; rw [ins_row, if_neg (by omega), if_neg (by omega)]
  · exact ins_get ha (by omega)⟩
theorem Loc.enq {g m : Nat} {S : St} : Loc g S (fl_enq S g m) := Loc.ins.tr .send
theorem Loc.rev {g i : Nat} {S : St} {t : Int32} : Loc g S (fl_rev S g i t) := by
  unfold fl_rev
  repeat' split
  all_goals first | exact .rf | exact Loc.sc1.tr .send
theorem Loc.again {g m : Nat} {S : St} : Loc g S (fl_again S g m) := by
  unfold fl_again
  repeat' split
  all_goals first | exact .rf | exact .send
theorem Loc.req {g m : Nat} {S : St} {a t : Int32} {e : Bool} (hm : m < 6) : Loc g S (fl_req S g m a e t) := by
  have hd : (6 * g + m) / 6 = g := by omega
  have hn : Loc g S (fl_new S g m a e t) := Loc.back.tr (.renew hd)
  unfold fl_req
  split
  · exact .rf
  · split
    · split
      · exact .again
      · split
        · exact hn.tr .grant
        · split
          · exact (hn.tr .enq).tr .rev
          · exact (hn.tr (.sc0 hd)).tr .send
    · exact .rf
theorem Loc.rel {g m : Nat} {S : St} {a t : Int32} (hm : m < 6) : Loc g S (fl_rel S g m a t) := by
  have hd : (6 * g + m) / 6 = g := by omega
  unfold fl_rel
  split
  · split
    · exact .back
    · exact Loc.back.tr (.renew hd)
  · exact .rf
theorem Loc.pass {g : Nat} {S : St} {a t : Int32} : Loc g S (fl_pass S g a t) := by
  unfold fl_pass
  repeat' split
  all_goals first | exact .rf | exact .sc1
theorem Loc.time {g : Nat} {S : St} {t : Int32} : Loc g S (fl_time S g t) := by
  have h1 : Loc g S (fl_end S g t) := by
    unfold fl_end
    split
    · exact .rf
    · split
      · exact Loc.send.tr .back
      · exact .rf
  refine h1.tr ?_
  unfold fl_time fl_talk
  split
  · exact .rf
  · split
    · exact .ot
    · exact .rf
theorem FlI.loc {g g' : Nat} {S S' : St} (h : FlI S g') (hg : g' ≠ g) (hl : Loc g S S') : FlI S' g' :=
  h.eq (hl.2 1 g' 5 (by decide) (by decide) (by omega) (by omega) (by omega) (by omega)) (fun k => hl.2 13 g' k (by decide) (by decide) (by omega) (by omega) (by omega) (by omega)) (fun m hm => hl.2 0 (6 * g' + m) 2 (by decide) (by decide) (by omega) (by omega) (by omega) (by omega))
    (hl.2 8 (2 * g') 0 (by decide) (by decide) (by omega) (by omega) (by omega) (by omega)) (hl.2 1 g' 7 (by decide) (by decide) (by omega) (by omega) (by omega) (by omega))
theorem FlI.rev {S : St} {g i : Nat} {t : Int32} (h : FlI S g) : FlI (fl_rev S g i t) g := by
  have h2 : FlI (sc S 1 g 9 t) g := h.eq (by rw [sc_get, if_neg (by omega)]) (fun k => by rw [sc_get, if_neg (by omega)]) (fun m hm => by rw [sc_get, if_neg (by omega)]) (by rw [sc_get, if_neg (by omega)]) (by rw [sc_get, if_neg (by omega)])
  unfold fl_rev
  repeat' split
  all_goals first | exact h | exact h2.send
theorem FlI.again {S : St} {g m : Nat} (h : FlI S g) : FlI (fl_again S g m) g := by
  unfold fl_again
  repeat' split
  all_goals first | exact h | exact h.send
theorem FlI.sc01 {S : St} {g i : Nat} {v : Int32} (h : FlI S g) : FlI (sc S 0 i 1 v) g :=
  h.eq (by rw [sc_get, if_neg (by omega)]) (fun k => by rw [sc_get, if_neg (by omega)]) (fun m hm => by rw [sc_get, if_neg (by omega)]) (by rw [sc_get, if_neg (by omega)]) (by rw [sc_get, if_neg (by omega)])
theorem FlI.req {S : St} {g m : Nat} {a t : Int32} {e : Bool} (h : FlI S g) (hm : m < 6) : FlI (fl_req S g m a e t) g := by
  have hn : FlI (fl_new S g m a e t) g := new_I h
  unfold fl_req
  split
  · exact h
  · split
    · split
      · exact h.again
      · split
        · exact hn.grant hm
        · split
          · rename_i hw
            exact (hn.ins hm (w_lt4 hn.1 hw)).send.rev
          · exact hn.sc01.send
    · exact h
theorem FlI.rel {S : St} {g m : Nat} {a t : Int32} (h : FlI S g) : FlI (fl_rel S g m a t) g := by
  unfold fl_rel
  split
  · split
    · exact h.back
    · exact h.back.renew
  · exact h
theorem FlI.pass {S : St} {g : Nat} {a t : Int32} (h : FlI S g) : FlI (fl_pass S g a t) g := by
  have h2 : FlI (sc S 1 g 10 t) g := h.eq (by rw [sc_get, if_neg (by omega)]) (fun k => by rw [sc_get, if_neg (by omega)]) (fun m hm => by rw [sc_get, if_neg (by omega)]) (by rw [sc_get, if_neg (by omega)]) (by rw [sc_get, if_neg (by omega)])
  unfold fl_pass
  repeat' split
  all_goals first | exact h | exact h2
theorem FlI.time {S : St} {g : Nat} {t : Int32} (h : FlI S g) : FlI (fl_time S g t) g := by
  have h1 := end_I (t := t) h
  unfold fl_time fl_talk
  split
  · exact h1
  · split
    · exact h1.ot 6
    · exact h1
theorem rev_net {S : St} {g i : Nat} {t : Int32} (h : NetOK S) : NetOK (fl_rev S g i t) := by
  unfold fl_rev
  repeat' split
  all_goals first | exact h | exact nt_send_ok (h.sc (by decide) (by decide))
theorem again_net {S : St} {g m : Nat} (h : NetOK S) : NetOK (fl_again S g m) := by
  unfold fl_again
  repeat' split
  all_goals first | exact h | exact nt_send_ok h
theorem req_net {S : St} {g m : Nat} {a t : Int32} {e : Bool} (h : NetOK S) : NetOK (fl_req S g m a e t) := by
  have hn : NetOK (fl_new S g m a e t) := new_net h
  unfold fl_req
  split
  · exact h
  · split
    · split
      · exact again_net h
      · split
        · exact grant_net hn
        · split
          · exact rev_net (nt_send_ok (ins_net hn))
          · exact nt_send_ok (hn.sc (by decide) (by decide))
    · exact h
theorem rel_net {S : St} {g m : Nat} {a t : Int32} (h : NetOK S) : NetOK (fl_rel S g m a t) := by
  unfold fl_rel
  split
  · split
    · exact back_net h
    · exact renew_net (back_net h)
  · exact h
theorem pass_net {S : St} {g : Nat} {a t : Int32} (h : NetOK S) : NetOK (fl_pass S g a t) := by
  unfold fl_pass
  repeat' split
  all_goals first | exact h | exact h.sc (by decide) (by decide)
theorem time_net {S : St} {g : Nat} {t : Int32} (h : NetOK S) : NetOK (fl_time S g t) := by
  have h1 := end_net (g := g) (t := t) h
  unfold fl_time fl_talk
  split
  · exact h1
  · split
    · exact ot_ok h1 6
    · exact h1
/-! listeners and members touch kinds 3, 4, 12 alone -/
def LiL (S S' : St) : Prop := S'.2 = S.2 ∧ ∀ a b c, a ≠ 3 → a ≠ 4 → a ≠ 12 → S'.1 a b c = S.1 a b c
theorem LiL.rf {S : St} : LiL S S := ⟨rfl, fun _ _ _ _ _ _ => rfl⟩
theorem LiL.tr {S S1 S2 : St} (h : LiL S S1) (h2 : LiL S1 S2) : LiL S S2 := ⟨h2.1.trans h.1, fun a b c h3 h4 h5 => (h2.2 a b c h3 h4 h5).trans (h.2 a b c h3 h4 h5)⟩
theorem LiL.set {S : St} {κ i k : Nat} {v : Int32} (h : κ = 3 ∨ κ = 4 ∨ κ = 12) : LiL S (sc S κ i k v) := ⟨rfl, fun a b c _ _ _ => by rw [sc_get, if_neg (by omega)]⟩
theorem LiL.net {S S' : St} (h : LiL S S') (hn : NetOK S) : NetOK S' := by
  obtain ⟨c, p, hc, hcn, hpo⟩ := hn
  exact ⟨c, p, hc, by rw [h.2 6 0 2 (by decide) (by decide) (by decide)]; exact hcn, fun k hk => ⟨(hpo k hk).1, by rw [h.2 11 0 k (by decide) (by decide) (by decide)]; exact (hpo k hk).2⟩⟩
theorem LiL.I {S S' : St} {g : Nat} (h : LiL S S') (hI : FlI S g) : FlI S' g :=
  hI.eq (h.2 _ _ _ (by decide) (by decide) (by decide)) (fun _ => h.2 _ _ _ (by decide) (by decide) (by decide)) (fun _ _ => h.2 _ _ _ (by decide) (by decide) (by decide)) (h.2 _ _ _ (by decide) (by decide) (by decide)) (h.2 _ _ _ (by decide) (by decide) (by decide))
theorem LiL.hear {S : St} {i : Nat} {a b v t : Int32} : LiL S (li_hear S i a b v t) := by
  have hb : LiL S (li_begin S i a b t) := by
    unfold li_begin
    exact (((((LiL.set (by omega)).tr (.set (by omega))).tr (.set (by omega))).tr (.set (by omega))).tr (.set (by omega))).tr (.set (by omega))
  have h2 : ∀ S0 : St, LiL S0 (li_hear2 S0 i b v) := fun S0 => by
    unfold li_hear2 li_late
    repeat' split
    all_goals first | exact .set (by omega) | exact (LiL.set (by omega)).tr (.set (by omega))
  unfold li_hear li_late
  repeat' split
  all_goals first | exact .set (by omega) | exact h2 S | exact hb.tr (h2 _)
theorem LiL.play {S : St} {i : Nat} {t : Int32} : LiL S (li_play S i t) := by
  have hu : LiL S (li_unit S i) := (((LiL.set (by omega)).tr (.set (by omega))).tr (.set (by omega))).tr (.set (by omega))
  have hg : LiL S (li_gap S i) := by
    have h3 : LiL S (li_add (sc (sc S 3 i 6 (S.1 3 i 6 + 1)) 3 i 4 ((sc S 3 i 6 (S.1 3 i 6 + 1)).1 3 i 4 + 1)) i (-1)) := ((LiL.set (by omega)).tr (.set (by omega))).tr (.set (by omega))
    show LiL S (if _ then _ else _)
    split
    · exact h3
    · exact h3.tr (.set (by omega))
  unfold li_play
  split
  · exact .rf
  · split
    · by_cases hk : li_kept S i (S.1 3 i 2) = true
      · simp only [hk, if_true]; exact hu.tr (.set (by omega))
      · simp only [hk]; exact hg.tr (.set (by omega))
    · exact .rf
theorem LiL.pp {S : St} {g : Nat} {t : Int32} : ∀ n, LiL S (pp S g t n)
  | 0 => .rf
  | n + 1 => by
    show LiL S (pp1 _ _ _ _)
    unfold pp1
    split
    · exact LiL.pp n
    · exact (LiL.pp n).tr .play
theorem LiL.away {S : St} {i : Nat} : LiL S (me_away S i) := ((LiL.set (by omega)).tr (.set (by omega))).tr (.set (by omega))
theorem LiL.mhear {S : St} {i p : Nat} {t : Int32} : LiL S (me_hear S i p t) := by
  unfold me_hear me_ans me_talk
  repeat' split
  all_goals first | exact .rf | exact .hear | exact .set (by omega) | exact (LiL.set (by omega)).tr (.set (by omega)) | exact ((LiL.set (by omega)).tr (.set (by omega))).tr (.set (by omega))
