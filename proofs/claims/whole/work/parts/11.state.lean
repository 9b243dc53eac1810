/-! the state: class (kind, which, field), gates' bits, model (field, place), the law's out -/
abbrev St : Type := (Nat → Nat → Nat → Int32) × (Nat → Int64) × (Nat → Nat → Int32) × Int64
def sc (S : St) (κ i k : Nat) (v : Int32) : St := (fun a b c => if a = κ ∧ b = i ∧ c = k then v else S.1 a b c, S.2)
def sl (S : St) (g : Nat) (v : Int64) : St := (S.1, fun a => if a = g then v else S.2.1 a, S.2.2)
def sm (S : St) (f i : Nat) (v : Int32) : St := (S.1, S.2.1, fun a b => if a = f ∧ b = i then v else S.2.2.1 a b, S.2.2.2)
def so (S : St) (v : Int64) : St := (S.1, S.2.1, S.2.2.1, v)
def TAGS : List (Nat × Nat) := [(9, 0), (6, 0), (20, 0), (11, 0), (5, 0), (5, 1), (5, 2), (5, 3), (5, 4), (5, 5), (5, 6), (5, 7), (5, 8), (5, 9), (5, 10), (5, 11), (5, 12), (5, 13), (5, 14), (5, 15), (5, 16), (5, 17), (5, 18), (5, 19), (5, 20), (5, 21), (5, 22), (5, 23), (5, 24), (5, 25), (5, 26), (5, 27), (5, 28), (5, 29), (5, 30), (5, 31), (5, 32), (5, 33), (5, 34), (5, 35), (5, 36), (5, 37), (5, 38), (5, 39), (5, 40), (5, 41), (5, 42), (5, 43), (5, 44), (5, 45), (5, 46), (5, 47), (5, 48), (5, 49), (5, 50), (5, 51), (5, 52), (5, 53), (5, 54), (5, 55), (5, 56), (5, 57), (5, 58), (5, 59), (5, 60), (21, 0), (22, 0), (23, 0), (7, 0), (24, 0), (4, 0), (3, 0), (12, 0), (4, 1), (3, 1), (12, 1), (4, 2), (3, 2), (12, 2), (4, 3), (3, 3), (12, 3), (4, 4), (3, 4), (12, 4), (4, 5), (3, 5), (12, 5), (1, 0), (8, 0), (8, 1), (13, 0), (25, 0), (0, 0), (0, 1), (0, 2), (0, 3), (0, 4), (0, 5), (2, 0), (7, 1), (24, 1), (4, 6), (3, 6), (12, 6), (4, 7), (3, 7), (12, 7), (4, 8), (3, 8), (12, 8), (4, 9), (3, 9), (12, 9), (4, 10), (3, 10), (12, 10), (4, 11), (3, 11), (12, 11), (1, 1), (8, 2), (8, 3), (13, 1), (25, 1), (0, 6), (0, 7), (0, 8), (0, 9), (0, 10), (0, 11), (2, 1), (7, 2), (24, 2), (4, 12), (3, 12), (12, 12), (4, 13), (3, 13), (12, 13), (4, 14), (3, 14), (12, 14), (4, 15), (3, 15), (12, 15), (4, 16), (3, 16), (12, 16), (4, 17), (3, 17), (12, 17), (1, 2), (8, 4), (8, 5), (13, 2), (25, 2), (0, 12), (0, 13), (0, 14), (0, 15), (0, 16), (0, 17), (2, 2), (10, 0), (34, 0), (35, 0), (36, 0), (37, 0), (38, 0), (39, 0), (40, 0), (41, 0), (42, 0), (43, 0), (44, 0), (45, 0), (46, 0), (47, 0), (48, 0), (49, 0), (50, 0), (51, 0), (52, 0), (53, 0), (54, 0), (55, 0), (56, 0), (57, 0), (58, 0), (59, 0), (60, 0), (61, 0), (62, 0), (63, 0), (64, 0), (65, 0), (66, 0), (67, 0), (68, 0), (70, 0), (71, 0), (72, 0), (73, 0), (74, 0), (75, 0), (76, 0), (77, 0), (78, 0), (79, 0), (26, 0)]
def tg (a : Nat) : Nat × Nat := TAGS.getD a (99, 0)
def cnt (κ : Nat) : Nat := match κ with
  | 0 => 18
  | 1 => 3
  | 2 => 3
  | 3 => 18
  | 4 => 18
  | 5 => 61
  | 6 => 1
  | 7 => 3
  | 8 => 6
  | 9 => 1
  | 10 => 1
  | 11 => 1
  | 12 => 18
  | 13 => 3
  | 20 => 1
  | 21 => 1
  | 22 => 1
  | 23 => 1
  | 24 => 3
  | 25 => 3
  | 26 => 1
  | 34 => 1
  | 35 => 1
  | 36 => 1
  | 37 => 1
  | 38 => 1
  | 39 => 1
  | 40 => 1
  | 41 => 1
  | 42 => 1
  | 43 => 1
  | 44 => 1
  | 45 => 1
  | 46 => 1
  | 47 => 1
  | 48 => 1
  | 49 => 1
  | 50 => 1
  | 51 => 1
  | 52 => 1
  | 53 => 1
  | 54 => 1
  | 55 => 1
  | 56 => 1
  | 57 => 1
  | 58 => 1
  | 59 => 1
  | 60 => 1
  | 61 => 1
  | 62 => 1
  | 63 => 1
  | 64 => 1
  | 65 => 1
  | 66 => 1
  | 67 => 1
  | 68 => 1
  | 70 => 1
  | 71 => 1
  | 72 => 1
  | 73 => 1
  | 74 => 1
  | 75 => 1
  | 76 => 1
  | 77 => 1
  | 78 => 1
  | 79 => 1
  | _ => 0
def ad (κ i : Nat) : Nat := match κ with
  | 0 => 93 + 32 * (i / 6) + (i % 6)
  | 1 => 88 + 32 * i
  | 2 => 99 + 32 * i
  | 3 => 71 + 32 * (i / 6) + 3 * (i % 6)
  | 4 => 70 + 32 * (i / 6) + 3 * (i % 6)
  | 5 => 4 + i
  | 6 => 1
  | 7 => 68 + 32 * i
  | 8 => 89 + 32 * (i / 2) + i % 2
  | 9 => 0
  | 10 => 164
  | 11 => 3
  | 12 => 72 + 32 * (i / 6) + 3 * (i % 6)
  | 13 => 91 + 32 * i
  | 20 => 2
  | 21 => 65
  | 22 => 66
  | 23 => 67
  | 24 => 69 + 32 * i
  | 25 => 92 + 32 * i
  | 26 => 210
  | 34 => 165
  | 35 => 166
  | 36 => 167
  | 37 => 168
  | 38 => 169
  | 39 => 170
  | 40 => 171
  | 41 => 172
  | 42 => 173
  | 43 => 174
  | 44 => 175
  | 45 => 176
  | 46 => 177
  | 47 => 178
  | 48 => 179
  | 49 => 180
  | 50 => 181
  | 51 => 182
  | 52 => 183
  | 53 => 184
  | 54 => 185
  | 55 => 186
  | 56 => 187
  | 57 => 188
  | 58 => 189
  | 59 => 190
  | 60 => 191
  | 61 => 192
  | 62 => 193
  | 63 => 194
  | 64 => 195
  | 65 => 196
  | 66 => 197
  | 67 => 198
  | 68 => 199
  | 70 => 200
  | 71 => 201
  | 72 => 202
  | 73 => 203
  | 74 => 204
  | 75 => 205
  | 76 => 206
  | 77 => 207
  | 78 => 208
  | 79 => 209
  | _ => 0
def bld (S : St) (κ i : Nat) : ME := match κ with
  | 0 => .inr (0, [.int (S.1 0 i 0), .int (S.1 0 i 1), .int (S.1 0 i 2), .int (S.1 0 i 3)])
  | 1 => .inr (1, [.ref (ad 7 i), .ref (ad 8 (2 * i)), .ref (ad 8 (2 * i + 1)), .ref (ad 25 i), .ref (ad 13 i), .int (S.1 1 i 5), .int (S.1 1 i 6), .int (S.1 1 i 7), .int (S.1 1 i 8), .int (S.1 1 i 9), .int (S.1 1 i 10)])
  | 2 => .inr (2, [.ref (ad 7 i), .ref (ad 1 i), .int (S.1 2 i 2), .int (S.1 2 i 3), .int (S.1 2 i 4), .int (S.1 2 i 5), .long (S.2.1 i)])
  | 3 => .inr (3, [.int (S.1 3 i 0), .int (S.1 3 i 1), .int (S.1 3 i 2), .int (S.1 3 i 3), .int (S.1 3 i 4), .int (S.1 3 i 5), .int (S.1 3 i 6), .int (S.1 3 i 7), .int (S.1 3 i 8), .int (S.1 3 i 9), .ref (ad 12 i)])
  | 4 => .inr (4, [.int (S.1 4 i 0), .int (S.1 4 i 1), .int (S.1 4 i 2), .int (S.1 4 i 3), .int (S.1 4 i 4), .int (S.1 4 i 5), .int (S.1 4 i 6), .int (S.1 4 i 7), .int (S.1 4 i 8), .int (S.1 4 i 9), .ref (ad 3 i)])
  | 5 => .inr (5, [.int (S.1 5 i 0), .int (S.1 5 i 1), .int (S.1 5 i 2), .int (S.1 5 i 3), .int (S.1 5 i 4), .int (S.1 5 i 5)])
  | 6 => .inr (6, [.ref (ad 20 0), .ref (ad 11 0), .int (S.1 6 i 2), .int (S.1 6 i 3)])
  | 7 => .inr (7, [.ref (ad 6 0), .int (nI i), .ref (ad 24 i)])
  | 8 => .inr (8, [.int (S.1 8 i 0), .int (S.1 8 i 1), .int (S.1 8 i 2), .int (S.1 8 i 3)])
  | 9 => .inr (9, [.ref (ad 6 0), .ref (ad 21 0), .ref (ad 22 0), .ref (ad 23 0), .int (S.1 9 i 4)])
  | 10 => .inr (10, [.int (S.2.2.1 0 i), .int (S.2.2.1 1 i), .int (S.2.2.1 2 i), .int (S.2.2.1 3 i), .ref (ad 34 0), .ref (ad 35 0), .ref (ad 36 0), .ref (ad 37 0), .ref (ad 38 0), .ref (ad 39 0), .ref (ad 40 0), .ref (ad 41 0), .ref (ad 42 0), .ref (ad 43 0), .ref (ad 44 0), .ref (ad 45 0), .ref (ad 46 0), .ref (ad 47 0), .ref (ad 48 0), .ref (ad 49 0), .ref (ad 50 0), .ref (ad 51 0), .ref (ad 52 0), .ref (ad 53 0), .ref (ad 54 0), .ref (ad 55 0), .ref (ad 56 0), .ref (ad 57 0), .ref (ad 58 0), .ref (ad 59 0), .ref (ad 60 0), .ref (ad 61 0), .ref (ad 62 0), .ref (ad 63 0), .ref (ad 64 0), .ref (ad 65 0), .ref (ad 66 0), .ref (ad 67 0), .ref (ad 68 0), .int (S.2.2.1 39 i), .ref (ad 70 0), .ref (ad 71 0), .ref (ad 72 0), .ref (ad 73 0), .ref (ad 74 0), .ref (ad 75 0), .ref (ad 76 0), .ref (ad 77 0), .ref (ad 78 0), .ref (ad 79 0)])
  | 11 => .inl (0, 61, .inl (S.1 11 i))
  | 12 => .inl (0, 16, .inl (S.1 12 i))
  | 13 => .inl (0, 4, .inl (S.1 13 i))
  | 20 => .inl (3, 61, .inr (.inr (.inr (.inr (fun j => if j < 61 then some (ad 5 j) else none)))))
  | 21 => .inl (4, 3, .inr (.inr (.inr (.inr (fun j => if j < 3 then some (ad 7 j) else none)))))
  | 22 => .inl (5, 3, .inr (.inr (.inr (.inr (fun j => if j < 3 then some (ad 1 j) else none)))))
  | 23 => .inl (6, 3, .inr (.inr (.inr (.inr (fun j => if j < 3 then some (ad 2 j) else none)))))
  | 24 => .inl (7, 6, .inr (.inr (.inr (.inr (fun j => if j < 6 then some (ad 4 (6 * i + j)) else none)))))
  | 25 => .inl (8, 6, .inr (.inr (.inr (.inr (fun j => if j < 6 then some (ad 0 (6 * i + j)) else none)))))
  | 26 => .inl (2, 1, .inr (.inl (fun j => if j = 0 then S.2.2.2 else 0)))
  | 34 => .inl (0, 366, .inl (S.2.2.1 4))
  | 35 => .inl (1, 18, .inl (S.2.2.1 5))
  | 36 => .inl (0, 18, .inl (S.2.2.1 6))
  | 37 => .inl (0, 18, .inl (S.2.2.1 7))
  | 38 => .inl (0, 18, .inl (S.2.2.1 8))
  | 39 => .inl (1, 18, .inl (S.2.2.1 9))
  | 40 => .inl (0, 18, .inl (S.2.2.1 10))
  | 41 => .inl (0, 18, .inl (S.2.2.1 11))
  | 42 => .inl (0, 18, .inl (S.2.2.1 12))
  | 43 => .inl (0, 18, .inl (S.2.2.1 13))
  | 44 => .inl (0, 18, .inl (S.2.2.1 14))
  | 45 => .inl (0, 18, .inl (S.2.2.1 15))
  | 46 => .inl (1, 18, .inl (S.2.2.1 16))
  | 47 => .inl (0, 18, .inl (S.2.2.1 17))
  | 48 => .inl (0, 18, .inl (S.2.2.1 18))
  | 49 => .inl (0, 18, .inl (S.2.2.1 19))
  | 50 => .inl (0, 18, .inl (S.2.2.1 20))
  | 51 => .inl (0, 18, .inl (S.2.2.1 21))
  | 52 => .inl (0, 18, .inl (S.2.2.1 22))
  | 53 => .inl (0, 18, .inl (S.2.2.1 23))
  | 54 => .inl (1, 1152, .inl (S.2.2.1 24))
  | 55 => .inl (0, 1152, .inl (S.2.2.1 25))
  | 56 => .inl (1, 3, .inl (S.2.2.1 26))
  | 57 => .inl (0, 3, .inl (S.2.2.1 27))
  | 58 => .inl (0, 3, .inl (S.2.2.1 28))
  | 59 => .inl (0, 3, .inl (S.2.2.1 29))
  | 60 => .inl (1, 3, .inl (S.2.2.1 30))
  | 61 => .inl (0, 3, .inl (S.2.2.1 31))
  | 62 => .inl (0, 3, .inl (S.2.2.1 32))
  | 63 => .inl (0, 3, .inl (S.2.2.1 33))
  | 64 => .inl (0, 3, .inl (S.2.2.1 34))
  | 65 => .inl (0, 3, .inl (S.2.2.1 35))
  | 66 => .inl (0, 3, .inl (S.2.2.1 36))
  | 67 => .inl (0, 3, .inl (S.2.2.1 37))
  | 68 => .inl (0, 3, .inl (S.2.2.1 38))
  | 70 => .inl (0, 18, .inl (S.2.2.1 40))
  | 71 => .inl (1, 18, .inl (S.2.2.1 41))
  | 72 => .inl (1, 18, .inl (S.2.2.1 42))
  | 73 => .inl (0, 18, .inl (S.2.2.1 43))
  | 74 => .inl (0, 18, .inl (S.2.2.1 44))
  | 75 => .inl (0, 3, .inl (S.2.2.1 45))
  | 76 => .inl (0, 3, .inl (S.2.2.1 46))
  | 77 => .inl (0, 3, .inl (S.2.2.1 47))
  | 78 => .inl (0, 3, .inl (S.2.2.1 48))
  | 79 => .inl (1, 192, .inl (S.2.2.1 49))
  | _ => .inr (0, [])
def hp (S : St) : MH := (List.range 211).map (fun a => bld S (tg a).1 (tg a).2)
theorem ad_lt80 : ∀ κ, κ < 80 → ∀ i, i < cnt κ → ad κ i < 211 ∧ tg (ad κ i) = (κ, i) := by decide +kernel
theorem tg_ad : ∀ a, a < 211 → ad (tg a).1 (tg a).2 = a := by decide +kernel
theorem tg_in : ∀ a, a < 211 → (tg a).2 < cnt (tg a).1 := by decide +kernel
theorem cnt_lt {κ i : Nat} (h : i < cnt κ) : κ < 80 := by
  rcases Nat.lt_or_ge κ 80 with q | q
  · exact q
  · exfalso
    obtain ⟨j, rfl⟩ : ∃ j, κ = 80 + j := ⟨κ - 80, by omega⟩
    have e : cnt (80 + j) = 0 := by
      unfold cnt
      split <;> first | omega | rfl
    omega
theorem ad_ok {κ i : Nat} (h : i < cnt κ) : ad κ i < 211 ∧ tg (ad κ i) = (κ, i) := ad_lt80 κ (cnt_lt h) i h
theorem hp_get {S : St} {κ i : Nat} (h : i < cnt κ) : (hp S)[ad κ i]? = some (bld S κ i) := by
  obtain ⟨h1, h2⟩ := ad_ok h
  simp only [hp, List.getElem?_map, List.getElem?_range h1, Option.map_some, h2]
theorem hp_set {S S' : St} {κ i : Nat} (h : i < cnt κ) (hS : ∀ κ' i', ¬ (κ' = κ ∧ i' = i) → i' < cnt κ' → bld S' κ' i' = bld S κ' i') : (hp S).set (ad κ i) (bld S' κ i) = hp S' := by
  obtain ⟨h1, h2⟩ := ad_ok h
  apply List.ext_getElem?
  intro a
  rw [List.getElem?_set]
  by_cases ha : ad κ i = a
  · subst ha
    rw [if_pos rfl, hp_get h]
    simp [hp, h1]
  · rw [if_neg ha]
    by_cases hl : a < 211
    · simp only [hp, List.getElem?_map, List.getElem?_range hl, Option.map_some]
      rw [hS _ _ _ (tg_in a hl)]
      rintro ⟨e1, e2⟩
      apply ha
      rw [← e1, ← e2]
      exact tg_ad a hl
    · simp [hp, hl]
theorem hp_len (S : St) : (hp S).length = 211 := by simp [hp]
theorem bld_sc {S : St} {κ i k : Nat} {v : Int32} : ∀ κ' i', ¬ (κ' = κ ∧ i' = i) → bld (sc S κ i k v) κ' i' = bld S κ' i' := by
  intro κ' i' h
  have e : ∀ j, (sc S κ i k v).1 κ' i' j = S.1 κ' i' j := fun j => if_neg (fun q => h ⟨q.1, q.2.1⟩)
  have e2 : (sc S κ i k v).1 κ' i' = S.1 κ' i' := funext e
  unfold bld
  split <;> first | rfl | (simp only [e]; done) | (rw [e2]; done) | (simp only [e]; rfl) | (rw [e2]; rfl)
theorem bld_sl {S : St} {g : Nat} {v : Int64} : ∀ κ' i', ¬ (κ' = 2 ∧ i' = g) → bld (sl S g v) κ' i' = bld S κ' i' := by
  intro κ' i' h
  unfold bld
  split <;> first | rfl | (rw [show (sl S g v).2.1 i' = S.2.1 i' from if_neg (fun q => h ⟨rfl, q⟩)]; rfl)
theorem bld_so {S : St} {v : Int64} : ∀ κ' i', ¬ (κ' = 26 ∧ i' = 0) → i' < cnt κ' → bld (so S v) κ' i' = bld S κ' i' := by
  intro κ' i' h hi
  unfold bld
  split <;> first | rfl | (exfalso; apply h; refine ⟨rfl, ?_⟩; have : cnt 26 = 1 := rfl; omega)
theorem hp_sc {S : St} {κ i k : Nat} {v : Int32} (h : i < cnt κ) : (hp S).set (ad κ i) (bld (sc S κ i k v) κ i) = hp (sc S κ i k v) := hp_set h (fun κ' i' q _ => bld_sc κ' i' q)
theorem hp_sl {S : St} {g : Nat} {v : Int64} (h : g < 3) : (hp S).set (ad 2 g) (bld (sl S g v) 2 g) = hp (sl S g v) := hp_set h (fun κ' i' q _ => bld_sl κ' i' q)
theorem hp_so {S : St} {v : Int64} : (hp S).set (ad 26 0) (bld (so S v) 26 0) = hp (so S v) := hp_set (by decide) bld_so
/-- a model's field f lies in the cell of kind κ -/
def mk (f : Nat) : Nat := if f < 4 ∨ f = 39 then 10 else 30 + f
theorem bld_sm {S : St} {f j : Nat} {v : Int32} (hf : f < 50) (hj : f < 4 ∨ f = 39 → j = 0) : ∀ κ' i', ¬ (κ' = mk f ∧ i' = 0) → i' < cnt κ' → bld (sm S f j v) κ' i' = bld S κ' i' := by
  intro κ' i' h hi
  have ea : ∀ f', ¬ f' = f → (sm S f j v).2.2.1 f' = S.2.2.1 f' := fun f' q => funext fun c => if_neg (fun z => q z.1)
  unfold bld
  split
  all_goals first
    | rfl
    | (rw [ea]
       intro e
       exact h ⟨by rw [← e]; rfl, Nat.lt_one_iff.mp hi⟩)
    | (have hm : ¬ (f < 4 ∨ f = 39) := fun q => h ⟨by unfold mk; rw [if_pos q], Nat.lt_one_iff.mp hi⟩
       rw [ea 0 (by omega), ea 1 (by omega), ea 2 (by omega), ea 3 (by omega), ea 39 (by omega)])
theorem hp_sm {S : St} {f j : Nat} {v : Int32} (hf : f < 50) (h : 0 < cnt (mk f)) (hj : f < 4 ∨ f = 39 → j = 0) : (hp S).set (ad (mk f) 0) (bld (sm S f j v) (mk f) 0) = hp (sm S f j v) := hp_set h (bld_sm hf hj)
theorem upd_sc {S : St} {κ i k : Nat} {v : Int32} : (sc S κ i k v).1 κ i = upd (S.1 κ i) k v := by
  funext j
  by_cases hj : j = k <;> simp [sc, upd, hj]
theorem upd_sm {S : St} {f k : Nat} {v : Int32} : (sm S f k v).2.2.1 f = upd (S.2.2.1 f) k v := by
  funext j
  by_cases hj : j = k <;> simp [sm, upd, hj]
/-! rules over the state -/
section XS0
variable {X : XS} {M : Mt} {al : Bool} {d pc k n : Nat} {lv lv' : List (Option Value)} {st : List Value} {S : St} {r : Rs}
/-- field kf of kind κ is a number of the class's state -/
def PB (κ kf : Nat) : Prop := ∀ (S : St) (i : Nat) (x : Int32), ∃ fs, bld S κ i = .inr (κ, fs) ∧ kf < fs.length ∧ bld (sc S κ i kf x) κ i = .inr (κ, fs.set kf (.int x))
theorem x_putC {κ i kf idx : Nat} {x : Int32} {ty : FieldType} (hd : decode (Mc M) pc = .ok (.putfield idx, 3)) (hf : FP M.1.cls idx κ kf false ty) (hi : i < cnt κ) (hb : PB κ kf) (hv : narrow ty (.int x) = .int x ∧ fits ty (.int x) = true)
    (kk : Ex X M al d (pc + 3) lv st (hp (sc S κ i kf x)) k n r) : Ex X M al d pc lv (.int x :: .ref (ad κ i) :: st) (hp S) k n r := by
  obtain ⟨fs, e1, e2, e3⟩ := hb S i x
  refine x_put hd hf (by rw [hp_get hi, e1]) e2 (fun _ _ => hv) ?_
  rw [← e3, hp_sc hi]
  exact kk
/-- field f of the model is a number -/
def PM (f : Nat) : Prop := f < 50 ∧ mk f = 10 ∧ ∀ (S : St) (x : Int32), ∃ fs, bld S 10 0 = .inr (10, fs) ∧ f < fs.length ∧ bld (sm S f 0 x) 10 0 = .inr (10, fs.set f (.int x))
theorem x_putM {f idx : Nat} {x : Int32} (hd : decode (Mc M) pc = .ok (.putfield idx, 3)) (hf : FP M.1.cls idx 10 f false .int) (hb : PM f)
    (kk : Ex X M al d (pc + 3) lv st (hp (sm S f 0 x)) k n r) : Ex X M al d pc lv (.int x :: .ref (ad 10 0) :: st) (hp S) k n r := by
  obtain ⟨h50, hm, hb⟩ := hb
  obtain ⟨fs, e1, e2, e3⟩ := hb S x
  refine x_put hd hf (by rw [hp_get (by decide), e1]) e2 (fun _ _ => ⟨rfl, rfl⟩) ?_
  have e4 := hp_sm (S := S) (j := 0) (v := x) h50 (by rw [hm]; decide) (fun _ => rfl)
  rw [hm] at e4
  rw [← e3, e4]
  exact kk
theorem x_putL {g idx : Nat} {x : Int64} (hd : decode (Mc M) pc = .ok (.putfield idx, 3)) (hf : FP M.1.cls idx 2 6 false .long) (hg : g < 3)
    (kk : Ex X M al d (pc + 3) lv st (hp (sl S g x)) k n r) : Ex X M al d pc lv (.long x :: .ref (ad 2 g) :: st) (hp S) k n r := by
  refine x_put hd hf (hp_get (κ := 2) hg) (by simp) (fun _ _ => ⟨rfl, rfl⟩) ?_
  have e3 : bld (sl S g x) 2 g = .inr (2, [.ref (ad 7 g), .ref (ad 1 g), .int (S.1 2 g 2), .int (S.1 2 g 3), .int (S.1 2 g 4), .int (S.1 2 g 5), .long x]) := by simp [bld, sl]
  have e4 := hp_sl (S := S) (v := x) hg
  rw [e3] at e4
  rw [← e4] at kk
  exact kk
/-- rows of the class: kind κ has N places of type 0 -/
def AC (κ N : Nat) : Prop := ∀ (S : St) (i : Nat), bld S κ i = .inl (0, N, .inl (S.1 κ i))
theorem x_ialdC {κ i N : Nat} {j : Nat} (hd : decode (Mc M) pc = .ok (.iaload, 1)) (ha : AC κ N) (hi : i < cnt κ) (hj : j < N) (hN : N < 2 ^ 31) (kk : Ex X M al d (pc + 1) lv (.int (S.1 κ i j) :: st) (hp S) k n r) : Ex X M al d pc lv (.int (nI j) :: .ref (ad κ i) :: st) (hp S) k n r := by
  refine x_iald hd (by rw [hp_get hi, ha]) (vp_in_nI hj hN) ?_
  rw [nI_clamp (by omega)]
  exact kk
theorem x_iastC {κ i N : Nat} {j : Nat} {x : Int32} (hd : decode (Mc M) pc = .ok (.iastore, 1)) (ha : AC κ N) (hi : i < cnt κ) (hj : j < N) (hN : N < 2 ^ 31) (kk : Ex X M al d (pc + 1) lv st (hp (sc S κ i j x)) k n r) : Ex X M al d pc lv (.int x :: .int (nI j) :: .ref (ad κ i) :: st) (hp S) k n r := by
  refine x_iast hd (by rw [hp_get hi, ha]) (vp_in_nI hj hN) ?_
  rw [nI_clamp (by omega), ← upd_sc, ← ha (sc S κ i j x) i, hp_sc hi]
  exact kk
/-- rows of the model: field f has N places of type t -/
def AM (f t N : Nat) : Prop := f < 50 ∧ mk f = 30 + f ∧ ¬ (f < 4 ∨ f = 39) ∧ 0 < cnt (30 + f) ∧ ∀ (S : St), bld S (30 + f) 0 = .inl (t, N, .inl (S.2.2.1 f))
theorem x_ialdM {f N j : Nat} (hd : decode (Mc M) pc = .ok (.iaload, 1)) (ha : AM f 0 N) (hj : j < N) (hN : N < 2 ^ 31) (kk : Ex X M al d (pc + 1) lv (.int (S.2.2.1 f j) :: st) (hp S) k n r) : Ex X M al d pc lv (.int (nI j) :: .ref (ad (30 + f) 0) :: st) (hp S) k n r := by
  refine x_iald hd (by rw [hp_get ha.2.2.2.1, ha.2.2.2.2]) (vp_in_nI hj hN) ?_
  rw [nI_clamp (by omega)]
  exact kk
theorem x_zaldM {f N j : Nat} (hd : decode (Mc M) pc = .ok (.baload, 1)) (ha : AM f 1 N) (hj : j < N) (hN : N < 2 ^ 31) (kk : Ex X M al d (pc + 1) lv (.int (S.2.2.1 f j) :: st) (hp S) k n r) : Ex X M al d pc lv (.int (nI j) :: .ref (ad (30 + f) 0) :: st) (hp S) k n r := by
  refine x_zald hd (by rw [hp_get ha.2.2.2.1, ha.2.2.2.2]) (vp_in_nI hj hN) ?_
  rw [nI_clamp (by omega)]
  exact kk
theorem AM.set {f t N j : Nat} {x : Int32} (ha : AM f t N) : (hp S).set (ad (30 + f) 0) (.inl (t, N, .inl (upd (S.2.2.1 f) j x))) = hp (sm S f j x) := by
  obtain ⟨h1, h2, h3, h4, h5⟩ := ha
  have e4 := hp_sm (S := S) (j := j) (v := x) h1 (by rw [h2]; exact h4) (fun q => absurd q h3)
  rw [h2] at e4
  rw [← upd_sm, ← h5 (sm S f j x), e4]
theorem x_iastM {f N j : Nat} {x : Int32} (hd : decode (Mc M) pc = .ok (.iastore, 1)) (ha : AM f 0 N) (hj : j < N) (hN : N < 2 ^ 31) (kk : Ex X M al d (pc + 1) lv st (hp (sm S f j x)) k n r) : Ex X M al d pc lv (.int x :: .int (nI j) :: .ref (ad (30 + f) 0) :: st) (hp S) k n r := by
  refine x_iast hd (by rw [hp_get ha.2.2.2.1, ha.2.2.2.2]) (vp_in_nI hj hN) ?_
  rw [nI_clamp (by omega), ha.set]
  exact kk
theorem x_zastM {f N j : Nat} {x : Int32} (hd : decode (Mc M) pc = .ok (.bastore, 1)) (ha : AM f 1 N) (hj : j < N) (hN : N < 2 ^ 31) (hx : vp_nar .boolean x = x) (kk : Ex X M al d (pc + 1) lv st (hp (sm S f j x)) k n r) : Ex X M al d pc lv (.int x :: .int (nI j) :: .ref (ad (30 + f) 0) :: st) (hp S) k n r := by
  refine x_zast hd (by rw [hp_get ha.2.2.2.1, ha.2.2.2.2]) (vp_in_nI hj hN) hx ?_
  rw [nI_clamp (by omega), ha.set]
  exact kk
theorem x_lastO {x : Int64} (hd : decode (Mc M) pc = .ok (.lastore, 1)) (kk : Ex X M al d (pc + 1) lv st (hp (so S x)) k n r) : Ex X M al d pc lv (.long x :: .int 0 :: .ref (ad 26 0) :: st) (hp S) k n r := by
  refine x_last hd (hp_get (κ := 26) (by decide)) (vp_in_nI (n := 0) (by decide) (by decide)) ?_
  have e1 : vp_updL (fun j => if j = 0 then S.2.2.2 else 0) (Int32.toNatClampNeg 0) x = fun j => if j = 0 then (so S x).2.2.2 else 0 := by
    funext j
    by_cases hj : j = 0 <;> simp [vp_updL, so, hj]
  rw [e1]
  have e2 := hp_so (S := S) (v := x)
  rw [← e2] at kk
  exact kk
theorem x_laldO (hd : decode (Mc M) pc = .ok (.laload, 1)) (kk : Ex X M al d (pc + 1) lv (.long S.2.2.2 :: st) (hp S) k n r) : Ex X M al d pc lv (.int 0 :: .ref (ad 26 0) :: st) (hp S) k n r := by
  refine x_lald hd (hp_get (κ := 26) (by decide)) (vp_in_nI (n := 0) (by decide) (by decide)) ?_
  exact kk
theorem x_eqi {x y : Int32} {h : MH} (e : x = y) (kk : Ex X M al d pc lv (.int y :: st) h k n r) : Ex X M al d pc lv (.int x :: st) h k n r := by
  rw [e]; exact kk
theorem x_eqi2 {x y : Int32} {v : Value} {h : MH} (e : x = y) (kk : Ex X M al d pc lv (v :: .int y :: st) h k n r) : Ex X M al d pc lv (v :: .int x :: st) h k n r := by
  rw [e]; exact kk
theorem x_slots {i j : Nat} (hd : decode (Mc M) pc = .ok (.aaload, 1)) (hi : i < cnt 20) (hj : j < 61) (kk : Ex X M al d (pc + 1) lv (.ref (ad 5 j) :: st) (hp S) k n r) : Ex X M al d pc lv (.int (nI j) :: .ref (ad 20 i) :: st) (hp S) k n r :=
  x_aald hd (fun _ => rfl) (hp_get (κ := 20) hi) (vp_in_nI hj (by decide)) (by rw [nI_clamp (by omega)]; exact if_pos hj) kk
theorem x_parties {i j : Nat} (hd : decode (Mc M) pc = .ok (.aaload, 1)) (hi : i < cnt 21) (hj : j < 3) (kk : Ex X M al d (pc + 1) lv (.ref (ad 7 j) :: st) (hp S) k n r) : Ex X M al d pc lv (.int (nI j) :: .ref (ad 21 i) :: st) (hp S) k n r :=
  x_aald hd (fun _ => rfl) (hp_get (κ := 21) hi) (vp_in_nI hj (by decide)) (by rw [nI_clamp (by omega)]; exact if_pos hj) kk
theorem x_floors {i j : Nat} (hd : decode (Mc M) pc = .ok (.aaload, 1)) (hi : i < cnt 22) (hj : j < 3) (kk : Ex X M al d (pc + 1) lv (.ref (ad 1 j) :: st) (hp S) k n r) : Ex X M al d pc lv (.int (nI j) :: .ref (ad 22 i) :: st) (hp S) k n r :=
  x_aald hd (fun _ => rfl) (hp_get (κ := 22) hi) (vp_in_nI hj (by decide)) (by rw [nI_clamp (by omega)]; exact if_pos hj) kk
theorem x_gates {i j : Nat} (hd : decode (Mc M) pc = .ok (.aaload, 1)) (hi : i < cnt 23) (hj : j < 3) (kk : Ex X M al d (pc + 1) lv (.ref (ad 2 j) :: st) (hp S) k n r) : Ex X M al d pc lv (.int (nI j) :: .ref (ad 23 i) :: st) (hp S) k n r :=
  x_aald hd (fun _ => rfl) (hp_get (κ := 23) hi) (vp_in_nI hj (by decide)) (by rw [nI_clamp (by omega)]; exact if_pos hj) kk
theorem x_members {i j : Nat} (hd : decode (Mc M) pc = .ok (.aaload, 1)) (hi : i < cnt 24) (hj : j < 6) (kk : Ex X M al d (pc + 1) lv (.ref (ad 4 (6 * i + j)) :: st) (hp S) k n r) : Ex X M al d pc lv (.int (nI j) :: .ref (ad 24 i) :: st) (hp S) k n r :=
  x_aald hd (fun _ => rfl) (hp_get (κ := 24) hi) (vp_in_nI hj (by decide)) (by rw [nI_clamp (by omega)]; exact if_pos hj) kk
theorem x_claims {i j : Nat} (hd : decode (Mc M) pc = .ok (.aaload, 1)) (hi : i < cnt 25) (hj : j < 6) (kk : Ex X M al d (pc + 1) lv (.ref (ad 0 (6 * i + j)) :: st) (hp S) k n r) : Ex X M al d pc lv (.int (nI j) :: .ref (ad 25 i) :: st) (hp S) k n r :=
  x_aald hd (fun _ => rfl) (hp_get (κ := 25) hi) (vp_in_nI hj (by decide)) (by rw [nI_clamp (by omega)]; exact if_pos hj) kk
end XS0
theorem ac_11 : AC 11 61 := fun _ _ => rfl
theorem ac_12 : AC 12 16 := fun _ _ => rfl
theorem ac_13 : AC 13 4 := fun _ _ => rfl
theorem am_4 : AM 4 0 366 := ⟨by decide, by decide, by decide, by decide, fun _ => rfl⟩
theorem am_5 : AM 5 1 18 := ⟨by decide, by decide, by decide, by decide, fun _ => rfl⟩
theorem am_6 : AM 6 0 18 := ⟨by decide, by decide, by decide, by decide, fun _ => rfl⟩
theorem am_7 : AM 7 0 18 := ⟨by decide, by decide, by decide, by decide, fun _ => rfl⟩
theorem am_8 : AM 8 0 18 := ⟨by decide, by decide, by decide, by decide, fun _ => rfl⟩
theorem am_9 : AM 9 1 18 := ⟨by decide, by decide, by decide, by decide, fun _ => rfl⟩
theorem am_10 : AM 10 0 18 := ⟨by decide, by decide, by decide, by decide, fun _ => rfl⟩
theorem am_11 : AM 11 0 18 := ⟨by decide, by decide, by decide, by decide, fun _ => rfl⟩
theorem am_12 : AM 12 0 18 := ⟨by decide, by decide, by decide, by decide, fun _ => rfl⟩
theorem am_13 : AM 13 0 18 := ⟨by decide, by decide, by decide, by decide, fun _ => rfl⟩
theorem am_14 : AM 14 0 18 := ⟨by decide, by decide, by decide, by decide, fun _ => rfl⟩
theorem am_15 : AM 15 0 18 := ⟨by decide, by decide, by decide, by decide, fun _ => rfl⟩
theorem am_16 : AM 16 1 18 := ⟨by decide, by decide, by decide, by decide, fun _ => rfl⟩
theorem am_17 : AM 17 0 18 := ⟨by decide, by decide, by decide, by decide, fun _ => rfl⟩
theorem am_18 : AM 18 0 18 := ⟨by decide, by decide, by decide, by decide, fun _ => rfl⟩
theorem am_19 : AM 19 0 18 := ⟨by decide, by decide, by decide, by decide, fun _ => rfl⟩
theorem am_20 : AM 20 0 18 := ⟨by decide, by decide, by decide, by decide, fun _ => rfl⟩
theorem am_21 : AM 21 0 18 := ⟨by decide, by decide, by decide, by decide, fun _ => rfl⟩
theorem am_22 : AM 22 0 18 := ⟨by decide, by decide, by decide, by decide, fun _ => rfl⟩
theorem am_23 : AM 23 0 18 := ⟨by decide, by decide, by decide, by decide, fun _ => rfl⟩
theorem am_24 : AM 24 1 1152 := ⟨by decide, by decide, by decide, by decide, fun _ => rfl⟩
theorem am_25 : AM 25 0 1152 := ⟨by decide, by decide, by decide, by decide, fun _ => rfl⟩
theorem am_26 : AM 26 1 3 := ⟨by decide, by decide, by decide, by decide, fun _ => rfl⟩
theorem am_27 : AM 27 0 3 := ⟨by decide, by decide, by decide, by decide, fun _ => rfl⟩
theorem am_28 : AM 28 0 3 := ⟨by decide, by decide, by decide, by decide, fun _ => rfl⟩
theorem am_29 : AM 29 0 3 := ⟨by decide, by decide, by decide, by decide, fun _ => rfl⟩
theorem am_30 : AM 30 1 3 := ⟨by decide, by decide, by decide, by decide, fun _ => rfl⟩
theorem am_31 : AM 31 0 3 := ⟨by decide, by decide, by decide, by decide, fun _ => rfl⟩
theorem am_32 : AM 32 0 3 := ⟨by decide, by decide, by decide, by decide, fun _ => rfl⟩
theorem am_33 : AM 33 0 3 := ⟨by decide, by decide, by decide, by decide, fun _ => rfl⟩
theorem am_34 : AM 34 0 3 := ⟨by decide, by decide, by decide, by decide, fun _ => rfl⟩
theorem am_35 : AM 35 0 3 := ⟨by decide, by decide, by decide, by decide, fun _ => rfl⟩
theorem am_36 : AM 36 0 3 := ⟨by decide, by decide, by decide, by decide, fun _ => rfl⟩
theorem am_37 : AM 37 0 3 := ⟨by decide, by decide, by decide, by decide, fun _ => rfl⟩
theorem am_38 : AM 38 0 3 := ⟨by decide, by decide, by decide, by decide, fun _ => rfl⟩
theorem am_40 : AM 40 0 18 := ⟨by decide, by decide, by decide, by decide, fun _ => rfl⟩
theorem am_41 : AM 41 1 18 := ⟨by decide, by decide, by decide, by decide, fun _ => rfl⟩
theorem am_42 : AM 42 1 18 := ⟨by decide, by decide, by decide, by decide, fun _ => rfl⟩
theorem am_43 : AM 43 0 18 := ⟨by decide, by decide, by decide, by decide, fun _ => rfl⟩
theorem am_44 : AM 44 0 18 := ⟨by decide, by decide, by decide, by decide, fun _ => rfl⟩
theorem am_45 : AM 45 0 3 := ⟨by decide, by decide, by decide, by decide, fun _ => rfl⟩
theorem am_46 : AM 46 0 3 := ⟨by decide, by decide, by decide, by decide, fun _ => rfl⟩
theorem am_47 : AM 47 0 3 := ⟨by decide, by decide, by decide, by decide, fun _ => rfl⟩
theorem am_48 : AM 48 0 3 := ⟨by decide, by decide, by decide, by decide, fun _ => rfl⟩
theorem am_49 : AM 49 1 192 := ⟨by decide, by decide, by decide, by decide, fun _ => rfl⟩
theorem pm_0 : PM 0 := ⟨by decide, by decide, fun S x => ⟨_, rfl, by simp, by simp [bld, sm]⟩⟩
theorem pm_1 : PM 1 := ⟨by decide, by decide, fun S x => ⟨_, rfl, by simp, by simp [bld, sm]⟩⟩
theorem pm_2 : PM 2 := ⟨by decide, by decide, fun S x => ⟨_, rfl, by simp, by simp [bld, sm]⟩⟩
theorem pm_3 : PM 3 := ⟨by decide, by decide, fun S x => ⟨_, rfl, by simp, by simp [bld, sm]⟩⟩
theorem pm_39 : PM 39 := ⟨by decide, by decide, fun S x => ⟨_, rfl, by simp, by simp [bld, sm]⟩⟩
theorem pb_0_0 : PB 0 0 := fun S i x => ⟨_, rfl, by simp, by simp [bld, sc]⟩
theorem pb_0_1 : PB 0 1 := fun S i x => ⟨_, rfl, by simp, by simp [bld, sc]⟩
theorem pb_0_2 : PB 0 2 := fun S i x => ⟨_, rfl, by simp, by simp [bld, sc]⟩
theorem pb_0_3 : PB 0 3 := fun S i x => ⟨_, rfl, by simp, by simp [bld, sc]⟩
theorem pb_1_5 : PB 1 5 := fun S i x => ⟨_, rfl, by simp, by simp [bld, sc]⟩
theorem pb_1_6 : PB 1 6 := fun S i x => ⟨_, rfl, by simp, by simp [bld, sc]⟩
theorem pb_1_7 : PB 1 7 := fun S i x => ⟨_, rfl, by simp, by simp [bld, sc]⟩
theorem pb_1_8 : PB 1 8 := fun S i x => ⟨_, rfl, by simp, by simp [bld, sc]⟩
theorem pb_1_9 : PB 1 9 := fun S i x => ⟨_, rfl, by simp, by simp [bld, sc]⟩
theorem pb_1_10 : PB 1 10 := fun S i x => ⟨_, rfl, by simp, by simp [bld, sc]⟩
theorem pb_2_2 : PB 2 2 := fun S i x => ⟨_, rfl, by simp, by simp [bld, sc]⟩
theorem pb_2_3 : PB 2 3 := fun S i x => ⟨_, rfl, by simp, by simp [bld, sc]⟩
theorem pb_2_4 : PB 2 4 := fun S i x => ⟨_, rfl, by simp, by simp [bld, sc]⟩
theorem pb_2_5 : PB 2 5 := fun S i x => ⟨_, rfl, by simp, by simp [bld, sc]⟩
theorem pb_3_0 : PB 3 0 := fun S i x => ⟨_, rfl, by simp, by simp [bld, sc]⟩
theorem pb_3_1 : PB 3 1 := fun S i x => ⟨_, rfl, by simp, by simp [bld, sc]⟩
theorem pb_3_2 : PB 3 2 := fun S i x => ⟨_, rfl, by simp, by simp [bld, sc]⟩
theorem pb_3_3 : PB 3 3 := fun S i x => ⟨_, rfl, by simp, by simp [bld, sc]⟩
theorem pb_3_4 : PB 3 4 := fun S i x => ⟨_, rfl, by simp, by simp [bld, sc]⟩
theorem pb_3_5 : PB 3 5 := fun S i x => ⟨_, rfl, by simp, by simp [bld, sc]⟩
theorem pb_3_6 : PB 3 6 := fun S i x => ⟨_, rfl, by simp, by simp [bld, sc]⟩
theorem pb_3_7 : PB 3 7 := fun S i x => ⟨_, rfl, by simp, by simp [bld, sc]⟩
theorem pb_3_8 : PB 3 8 := fun S i x => ⟨_, rfl, by simp, by simp [bld, sc]⟩
theorem pb_3_9 : PB 3 9 := fun S i x => ⟨_, rfl, by simp, by simp [bld, sc]⟩
theorem pb_4_0 : PB 4 0 := fun S i x => ⟨_, rfl, by simp, by simp [bld, sc]⟩
theorem pb_4_1 : PB 4 1 := fun S i x => ⟨_, rfl, by simp, by simp [bld, sc]⟩
theorem pb_4_2 : PB 4 2 := fun S i x => ⟨_, rfl, by simp, by simp [bld, sc]⟩
theorem pb_4_3 : PB 4 3 := fun S i x => ⟨_, rfl, by simp, by simp [bld, sc]⟩
theorem pb_4_4 : PB 4 4 := fun S i x => ⟨_, rfl, by simp, by simp [bld, sc]⟩
theorem pb_4_5 : PB 4 5 := fun S i x => ⟨_, rfl, by simp, by simp [bld, sc]⟩
theorem pb_4_6 : PB 4 6 := fun S i x => ⟨_, rfl, by simp, by simp [bld, sc]⟩
theorem pb_4_7 : PB 4 7 := fun S i x => ⟨_, rfl, by simp, by simp [bld, sc]⟩
theorem pb_4_8 : PB 4 8 := fun S i x => ⟨_, rfl, by simp, by simp [bld, sc]⟩
theorem pb_4_9 : PB 4 9 := fun S i x => ⟨_, rfl, by simp, by simp [bld, sc]⟩
theorem pb_5_0 : PB 5 0 := fun S i x => ⟨_, rfl, by simp, by simp [bld, sc]⟩
theorem pb_5_1 : PB 5 1 := fun S i x => ⟨_, rfl, by simp, by simp [bld, sc]⟩
theorem pb_5_2 : PB 5 2 := fun S i x => ⟨_, rfl, by simp, by simp [bld, sc]⟩
theorem pb_5_3 : PB 5 3 := fun S i x => ⟨_, rfl, by simp, by simp [bld, sc]⟩
theorem pb_5_4 : PB 5 4 := fun S i x => ⟨_, rfl, by simp, by simp [bld, sc]⟩
theorem pb_5_5 : PB 5 5 := fun S i x => ⟨_, rfl, by simp, by simp [bld, sc]⟩
theorem pb_6_2 : PB 6 2 := fun S i x => ⟨_, rfl, by simp, by simp [bld, sc]⟩
theorem pb_6_3 : PB 6 3 := fun S i x => ⟨_, rfl, by simp, by simp [bld, sc]⟩
theorem pb_8_0 : PB 8 0 := fun S i x => ⟨_, rfl, by simp, by simp [bld, sc]⟩
theorem pb_8_1 : PB 8 1 := fun S i x => ⟨_, rfl, by simp, by simp [bld, sc]⟩
theorem pb_8_2 : PB 8 2 := fun S i x => ⟨_, rfl, by simp, by simp [bld, sc]⟩
theorem pb_8_3 : PB 8 3 := fun S i x => ⟨_, rfl, by simp, by simp [bld, sc]⟩
theorem pb_9_4 : PB 9 4 := fun S i x => ⟨_, rfl, by simp, by simp [bld, sc]⟩
