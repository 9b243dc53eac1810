/-! the start -/
def s0C : Nat → Nat → Nat → Int32
  | 1 => fun _ k => if 7 ≤ k ∧ k ≤ 10 then -1 else 0
  | 2 => fun _ k => if k = 3 then -1 else 0
  | 4 => fun _ k => if k = 9 then -1 else 0
  | 8 => fun _ k => if k = 1 then 50 else if k = 2 then 20 else if k = 3 then 5 else 0
  | 11 => fun _ j => if j < 61 then nI j else 0
  | _ => fun _ _ => 0
def s0M : Nat → Nat → Int32
  | 14 => (upd (upd (upd (upd (upd (upd (upd (upd (upd (upd (upd (upd (upd (upd (upd (upd (upd (upd (fun _ => 0) 0 (-1)) 1 (-1)) 2 (-1)) 3 (-1)) 4 (-1)) 5 (-1)) 6 (-1)) 7 (-1)) 8 (-1)) 9 (-1)) 10 (-1)) 11 (-1)) 12 (-1)) 13 (-1)) 14 (-1)) 15 (-1)) 16 (-1)) 17 (-1))
  | 27 => (upd (upd (upd (fun _ => 0) 0 50) 1 50) 2 50)
  | 28 => (upd (upd (upd (fun _ => 0) 0 20) 1 20) 2 20)
  | 29 => (upd (upd (upd (fun _ => 0) 0 5) 1 5) 2 5)
  | 35 => (upd (upd (upd (fun _ => 0) 0 (-1)) 1 (-1)) 2 (-1))
  | 46 => (upd (upd (upd (fun _ => 0) 0 (-1)) 1 (-1)) 2 (-1))
  | _ => fun _ => 0
def S0 : St := (s0C, fun _ => 0, s0M, 0)
theorem lcons {α : Type} {a b : α} {l m : List α} (h : a = b) (k : l = m) : a :: l = b :: m := by rw [h, k]
def rg211 : List Nat := [0, 1, 2, 3, 4, 5, 6, 7, 8, 9, 10, 11, 12, 13, 14, 15, 16, 17, 18, 19, 20, 21, 22, 23, 24, 25, 26, 27, 28, 29, 30, 31, 32, 33, 34, 35, 36, 37, 38, 39, 40, 41, 42, 43, 44, 45, 46, 47, 48, 49, 50, 51, 52, 53, 54, 55, 56, 57, 58, 59, 60, 61, 62, 63, 64, 65, 66, 67, 68, 69, 70, 71, 72, 73, 74, 75, 76, 77, 78, 79, 80, 81, 82, 83, 84, 85, 86, 87, 88, 89, 90, 91, 92, 93, 94, 95, 96, 97, 98, 99, 100, 101, 102, 103, 104, 105, 106, 107, 108, 109, 110, 111, 112, 113, 114, 115, 116, 117, 118, 119, 120, 121, 122, 123, 124, 125, 126, 127, 128, 129, 130, 131, 132, 133, 134, 135, 136, 137, 138, 139, 140, 141, 142, 143, 144, 145, 146, 147, 148, 149, 150, 151, 152, 153, 154, 155, 156, 157, 158, 159, 160, 161, 162, 163, 164, 165, 166, 167, 168, 169, 170, 171, 172, 173, 174, 175, 176, 177, 178, 179, 180, 181, 182, 183, 184, 185, 186, 187, 188, 189, 190, 191, 192, 193, 194, 195, 196, 197, 198, 199, 200, 201, 202, 203, 204, 205, 206, 207, 208, 209, 210]
theorem rg_eq : List.range 211 = rg211 := by decide +kernel
theorem up3 {A : Nat → Nat} {x0 x1 x2 : Nat} (h0 : A 0 = x0) (h1 : A 1 = x1) (h2 : A 2 = x2) : (fun j => if j < 3 then some (A j) else none) = va_up (va_up (va_up (fun _ => none) 0 (some x0)) 1 (some x1)) 2 (some x2) := by
  funext j
  unfold va_up
  by_cases q0 : j = 0
  · subst q0; simp [h0]
  by_cases q1 : j = 1
  · subst q1; simp [h1]
  by_cases q2 : j = 2
  · subst q2; simp [h2]
  simp [q0, q1, q2, show ¬ j < 3 by omega]
theorem up6 {A : Nat → Nat} {x0 x1 x2 x3 x4 x5 : Nat} (h0 : A 0 = x0) (h1 : A 1 = x1) (h2 : A 2 = x2) (h3 : A 3 = x3) (h4 : A 4 = x4) (h5 : A 5 = x5) : (fun j => if j < 6 then some (A j) else none) = va_up (va_up (va_up (va_up (va_up (va_up (fun _ => none) 0 (some x0)) 1 (some x1)) 2 (some x2)) 3 (some x3)) 4 (some x4)) 5 (some x5) := by
  funext j
  unfold va_up
  by_cases q0 : j = 0
  · subst q0; simp [h0]
  by_cases q1 : j = 1
  · subst q1; simp [h1]
  by_cases q2 : j = 2
  · subst q2; simp [h2]
  by_cases q3 : j = 3
  · subst q3; simp [h3]
  by_cases q4 : j = 4
  · subst q4; simp [h4]
  by_cases q5 : j = 5
  · subst q5; simp [h5]
  simp [q0, q1, q2, q3, q4, q5, show ¬ j < 6 by omega]
theorem qcell {t N : Nat} {f g : Nat → Option Nat} (h : f = g) : (Sum.inl (t, N, .inr (.inr (.inr (.inr f)))) : ME) = .inl (t, N, .inr (.inr (.inr (.inr g)))) := by rw [h]
set_option maxRecDepth 100000 in
set_option maxHeartbeats 400000 in
theorem hp0 : hp S0 = tkC 0 ++ (mdC 164 ++ [.inl (2, 1, .inr (.inl (fun j => if j = 0 then 0 else 0)))]) := by
  unfold hp tkC
  rw [rg_eq]
  unfold rg211
  refine lcons rfl ?_
  refine lcons rfl ?_
  refine lcons rfl ?_
  refine lcons rfl ?_
  refine lcons rfl ?_
  refine lcons rfl ?_
  refine lcons rfl ?_
  refine lcons rfl ?_
  refine lcons rfl ?_
  refine lcons rfl ?_
  refine lcons rfl ?_
  refine lcons rfl ?_
  refine lcons rfl ?_
  refine lcons rfl ?_
  refine lcons rfl ?_
  refine lcons rfl ?_
  refine lcons rfl ?_
  refine lcons rfl ?_
  refine lcons rfl ?_
  refine lcons rfl ?_
  refine lcons rfl ?_
  refine lcons rfl ?_
  refine lcons rfl ?_
  refine lcons rfl ?_
  refine lcons rfl ?_
  refine lcons rfl ?_
  refine lcons rfl ?_
  refine lcons rfl ?_
  refine lcons rfl ?_
  refine lcons rfl ?_
  refine lcons rfl ?_
  refine lcons rfl ?_
  refine lcons rfl ?_
  refine lcons rfl ?_
  refine lcons rfl ?_
  refine lcons rfl ?_
  refine lcons rfl ?_
  refine lcons rfl ?_
  refine lcons rfl ?_
  refine lcons rfl ?_
  refine lcons rfl ?_
  refine lcons rfl ?_
  refine lcons rfl ?_
  refine lcons rfl ?_
  refine lcons rfl ?_
  refine lcons rfl ?_
  refine lcons rfl ?_
  refine lcons rfl ?_
  refine lcons rfl ?_
  refine lcons rfl ?_
  refine lcons rfl ?_
  refine lcons rfl ?_
  refine lcons rfl ?_
  refine lcons rfl ?_
  refine lcons rfl ?_
  refine lcons rfl ?_
  refine lcons rfl ?_
  refine lcons rfl ?_
  refine lcons rfl ?_
  refine lcons rfl ?_
  refine lcons rfl ?_
  refine lcons rfl ?_
  refine lcons rfl ?_
  refine lcons rfl ?_
  refine lcons rfl ?_
  refine lcons (qcell (up3 rfl rfl rfl)) ?_
  refine lcons (qcell (up3 rfl rfl rfl)) ?_
  refine lcons (qcell (up3 rfl rfl rfl)) ?_
  refine lcons rfl ?_
  refine lcons (qcell (up6 rfl rfl rfl rfl rfl rfl)) ?_
  refine lcons rfl ?_
  refine lcons rfl ?_
  refine lcons rfl ?_
  refine lcons rfl ?_
  refine lcons rfl ?_
  refine lcons rfl ?_
  refine lcons rfl ?_
  refine lcons rfl ?_
  refine lcons rfl ?_
  refine lcons rfl ?_
  refine lcons rfl ?_
  refine lcons rfl ?_
  refine lcons rfl ?_
  refine lcons rfl ?_
  refine lcons rfl ?_
  refine lcons rfl ?_
  refine lcons rfl ?_
  refine lcons rfl ?_
  refine lcons rfl ?_
  refine lcons rfl ?_
  refine lcons rfl ?_
  refine lcons rfl ?_
  refine lcons (qcell (up6 rfl rfl rfl rfl rfl rfl)) ?_
  refine lcons rfl ?_
  refine lcons rfl ?_
  refine lcons rfl ?_
  refine lcons rfl ?_
  refine lcons rfl ?_
  refine lcons rfl ?_
  refine lcons rfl ?_
  refine lcons rfl ?_
  refine lcons (qcell (up6 rfl rfl rfl rfl rfl rfl)) ?_
  refine lcons rfl ?_
  refine lcons rfl ?_
  refine lcons rfl ?_
  refine lcons rfl ?_
  refine lcons rfl ?_
  refine lcons rfl ?_
  refine lcons rfl ?_
  refine lcons rfl ?_
  refine lcons rfl ?_
  refine lcons rfl ?_
  refine lcons rfl ?_
  refine lcons rfl ?_
  refine lcons rfl ?_
  refine lcons rfl ?_
  refine lcons rfl ?_
  refine lcons rfl ?_
  refine lcons rfl ?_
  refine lcons rfl ?_
  refine lcons rfl ?_
  refine lcons rfl ?_
  refine lcons rfl ?_
  refine lcons rfl ?_
  refine lcons (qcell (up6 rfl rfl rfl rfl rfl rfl)) ?_
  refine lcons rfl ?_
  refine lcons rfl ?_
  refine lcons rfl ?_
  refine lcons rfl ?_
  refine lcons rfl ?_
  refine lcons rfl ?_
  refine lcons rfl ?_
  refine lcons rfl ?_
  refine lcons (qcell (up6 rfl rfl rfl rfl rfl rfl)) ?_
  refine lcons rfl ?_
  refine lcons rfl ?_
  refine lcons rfl ?_
  refine lcons rfl ?_
  refine lcons rfl ?_
  refine lcons rfl ?_
  refine lcons rfl ?_
  refine lcons rfl ?_
  refine lcons rfl ?_
  refine lcons rfl ?_
  refine lcons rfl ?_
  refine lcons rfl ?_
  refine lcons rfl ?_
  refine lcons rfl ?_
  refine lcons rfl ?_
  refine lcons rfl ?_
  refine lcons rfl ?_
  refine lcons rfl ?_
  refine lcons rfl ?_
  refine lcons rfl ?_
  refine lcons rfl ?_
  refine lcons rfl ?_
  refine lcons (qcell (up6 rfl rfl rfl rfl rfl rfl)) ?_
  refine lcons rfl ?_
  refine lcons rfl ?_
  refine lcons rfl ?_
  refine lcons rfl ?_
  refine lcons rfl ?_
  refine lcons rfl ?_
  refine lcons rfl ?_
  refine lcons rfl ?_
  refine lcons rfl ?_
  refine lcons rfl ?_
  refine lcons rfl ?_
  refine lcons rfl ?_
  refine lcons rfl ?_
  refine lcons rfl ?_
  refine lcons rfl ?_
  refine lcons rfl ?_
  refine lcons rfl ?_
  refine lcons rfl ?_
  refine lcons rfl ?_
  refine lcons rfl ?_
  refine lcons rfl ?_
  refine lcons rfl ?_
  refine lcons rfl ?_
  refine lcons rfl ?_
  refine lcons rfl ?_
  refine lcons rfl ?_
  refine lcons rfl ?_
  refine lcons rfl ?_
  refine lcons rfl ?_
  refine lcons rfl ?_
  refine lcons rfl ?_
  refine lcons rfl ?_
  refine lcons rfl ?_
  refine lcons rfl ?_
  refine lcons rfl ?_
  refine lcons rfl ?_
  refine lcons rfl ?_
  refine lcons rfl ?_
  refine lcons rfl ?_
  refine lcons rfl ?_
  refine lcons rfl ?_
  refine lcons rfl ?_
  refine lcons rfl ?_
  refine lcons rfl ?_
  refine lcons rfl ?_
  refine lcons rfl ?_
  refine lcons rfl ?_
  refine lcons rfl ?_
  refine lcons rfl ?_
  refine lcons rfl ?_
  refine lcons rfl ?_
  refine lcons rfl ?_
  refine lcons rfl ?_
  refine lcons rfl ?_
  rfl
