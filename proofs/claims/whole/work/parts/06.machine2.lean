section XR
variable {X : XS} {M : Mt} {al : Bool} {d pc k n : Nat} {lv lv' : List (Option Value)} {st : List Value} {h : MH} {r : Rs}
theorem x_iconst {z : Int} {v : Int32} (hd : decode (Mc M) pc = .ok (.iconst z, 1)) (hv : Int32.ofInt z = v) (kk : Ex X M al d (pc + 1) lv (.int v :: st) h k n r) : Ex X M al d pc lv (st) h k n r := by
  intro l D cy base b p e R s m args below meth c H locs ls C hl hH hS hA
  exact lv_iconst C.1 C.2.1 hd hv (kk l D cy base b p e R s m args below meth c H locs ls C hl hH hS hA)
theorem x_bipush {z : Int} {v : Int32} (hd : decode (Mc M) pc = .ok (.bipush z, 2)) (hv : (Int8.ofInt z).toInt32 = v) (kk : Ex X M al d (pc + 2) lv (.int v :: st) h k n r) : Ex X M al d pc lv (st) h k n r := by
  intro l D cy base b p e R s m args below meth c H locs ls C hl hH hS hA
  exact lv_bipush C.1 C.2.1 hd hv (kk l D cy base b p e R s m args below meth c H locs ls C hl hH hS hA)
theorem x_sipush {z : Int} {v : Int32} (hd : decode (Mc M) pc = .ok (.sipush z, 3)) (hv : (Int16.ofInt z).toInt32 = v) (kk : Ex X M al d (pc + 3) lv (.int v :: st) h k n r) : Ex X M al d pc lv (st) h k n r := by
  intro l D cy base b p e R s m args below meth c H locs ls C hl hH hS hA
  exact lv_sipush C.1 C.2.1 hd hv (kk l D cy base b p e R s m args below meth c H locs ls C hl hH hS hA)
theorem x_lconst {z : Fin 2} {v : Int64} (hd : decode (Mc M) pc = .ok (.lconst z, 1)) (hv : Int64.ofNat (z : Nat) = v) (kk : Ex X M al d (pc + 1) lv (.long v :: st) h k n r) : Ex X M al d pc lv (st) h k n r := by
  intro l D cy base b p e R s m args below meth c H locs ls C hl hH hS hA
  exact lv_lconst C.1 C.2.1 hd hv (kk l D cy base b p e R s m args below meth c H locs ls C hl hH hS hA)
theorem x_iadd {x y : Int32} (hd : decode (Mc M) pc = .ok (.iadd, 1))  (kk : Ex X M al d (pc + 1) lv (.int (x + y) :: st) h k n r) : Ex X M al d pc lv (.int y :: .int x :: st) h k n r := by
  intro l D cy base b p e R s m args below meth c H locs ls C hl hH hS hA
  exact lv_iadd C.1 C.2.1 hd  (kk l D cy base b p e R s m args below meth c H locs ls C hl hH hS hA)
theorem x_isub {x y : Int32} (hd : decode (Mc M) pc = .ok (.isub, 1))  (kk : Ex X M al d (pc + 1) lv (.int (x - y) :: st) h k n r) : Ex X M al d pc lv (.int y :: .int x :: st) h k n r := by
  intro l D cy base b p e R s m args below meth c H locs ls C hl hH hS hA
  exact lv_isub C.1 C.2.1 hd  (kk l D cy base b p e R s m args below meth c H locs ls C hl hH hS hA)
theorem x_imul {x y : Int32} (hd : decode (Mc M) pc = .ok (.imul, 1))  (kk : Ex X M al d (pc + 1) lv (.int (x * y) :: st) h k n r) : Ex X M al d pc lv (.int y :: .int x :: st) h k n r := by
  intro l D cy base b p e R s m args below meth c H locs ls C hl hH hS hA
  exact lv_imul C.1 C.2.1 hd  (kk l D cy base b p e R s m args below meth c H locs ls C hl hH hS hA)
theorem x_iand {x y : Int32} (hd : decode (Mc M) pc = .ok (.iand, 1))  (kk : Ex X M al d (pc + 1) lv (.int (x &&& y) :: st) h k n r) : Ex X M al d pc lv (.int y :: .int x :: st) h k n r := by
  intro l D cy base b p e R s m args below meth c H locs ls C hl hH hS hA
  exact lv_iand C.1 C.2.1 hd  (kk l D cy base b p e R s m args below meth c H locs ls C hl hH hS hA)
theorem x_ior {x y : Int32} (hd : decode (Mc M) pc = .ok (.ior, 1))  (kk : Ex X M al d (pc + 1) lv (.int (x ||| y) :: st) h k n r) : Ex X M al d pc lv (.int y :: .int x :: st) h k n r := by
  intro l D cy base b p e R s m args below meth c H locs ls C hl hH hS hA
  exact lv_ior C.1 C.2.1 hd  (kk l D cy base b p e R s m args below meth c H locs ls C hl hH hS hA)
theorem x_ixor {x y : Int32} (hd : decode (Mc M) pc = .ok (.ixor, 1))  (kk : Ex X M al d (pc + 1) lv (.int (x ^^^ y) :: st) h k n r) : Ex X M al d pc lv (.int y :: .int x :: st) h k n r := by
  intro l D cy base b p e R s m args below meth c H locs ls C hl hH hS hA
  exact lv_ixor C.1 C.2.1 hd  (kk l D cy base b p e R s m args below meth c H locs ls C hl hH hS hA)
theorem x_ishl {x y : Int32} (hd : decode (Mc M) pc = .ok (.ishl, 1))  (kk : Ex X M al d (pc + 1) lv (.int (x <<< (y &&& 31)) :: st) h k n r) : Ex X M al d pc lv (.int y :: .int x :: st) h k n r := by
  intro l D cy base b p e R s m args below meth c H locs ls C hl hH hS hA
  exact lv_ishl C.1 C.2.1 hd  (kk l D cy base b p e R s m args below meth c H locs ls C hl hH hS hA)
theorem x_idiv {x y : Int32} (hd : decode (Mc M) pc = .ok (.idiv, 1)) (hne : ¬ y = 0) (kk : Ex X M al d (pc + 1) lv (.int (x / y) :: st) h k n r) : Ex X M al d pc lv (.int y :: .int x :: st) h k n r := by
  intro l D cy base b p e R s m args below meth c H locs ls C hl hH hS hA
  exact lv_idiv C.1 C.2.1 hd hne (kk l D cy base b p e R s m args below meth c H locs ls C hl hH hS hA)
theorem x_irem {x y : Int32} (hd : decode (Mc M) pc = .ok (.irem, 1)) (hne : ¬ y = 0) (kk : Ex X M al d (pc + 1) lv (.int (x - x / y * y) :: st) h k n r) : Ex X M al d pc lv (.int y :: .int x :: st) h k n r := by
  intro l D cy base b p e R s m args below meth c H locs ls C hl hH hS hA
  exact lv_irem C.1 C.2.1 hd hne (kk l D cy base b p e R s m args below meth c H locs ls C hl hH hS hA)
theorem x_land {x y : Int64} (hd : decode (Mc M) pc = .ok (.land, 1))  (kk : Ex X M al d (pc + 1) lv (.long (x &&& y) :: st) h k n r) : Ex X M al d pc lv (.long y :: .long x :: st) h k n r := by
  intro l D cy base b p e R s m args below meth c H locs ls C hl hH hS hA
  exact lv_land C.1 C.2.1 hd  (kk l D cy base b p e R s m args below meth c H locs ls C hl hH hS hA)
theorem x_lor {x y : Int64} (hd : decode (Mc M) pc = .ok (.lor, 1))  (kk : Ex X M al d (pc + 1) lv (.long (x ||| y) :: st) h k n r) : Ex X M al d pc lv (.long y :: .long x :: st) h k n r := by
  intro l D cy base b p e R s m args below meth c H locs ls C hl hH hS hA
  exact lv_lor C.1 C.2.1 hd  (kk l D cy base b p e R s m args below meth c H locs ls C hl hH hS hA)
theorem x_lshl {x : Int64} {y : Int32} (hd : decode (Mc M) pc = .ok (.lshl, 1))  (kk : Ex X M al d (pc + 1) lv (.long (x <<< (y.toInt64 &&& 63)) :: st) h k n r) : Ex X M al d pc lv (.int y :: .long x :: st) h k n r := by
  intro l D cy base b p e R s m args below meth c H locs ls C hl hH hS hA
  exact lv_lshl C.1 C.2.1 hd rfl (kk l D cy base b p e R s m args below meth c H locs ls C hl hH hS hA)
theorem x_i2l {x : Int32} (hd : decode (Mc M) pc = .ok (.i2l, 1))  (kk : Ex X M al d (pc + 1) lv (.long x.toInt64 :: st) h k n r) : Ex X M al d pc lv (.int x :: st) h k n r := by
  intro l D cy base b p e R s m args below meth c H locs ls C hl hH hS hA
  exact lv_i2l C.1 C.2.1 hd rfl (kk l D cy base b p e R s m args below meth c H locs ls C hl hH hS hA)
theorem x_lcmp {x y : Int64} (hd : decode (Mc M) pc = .ok (.lcmp, 1))  (kk : Ex X M al d (pc + 1) lv (.int (lg_cmp x y) :: st) h k n r) : Ex X M al d pc lv (.long y :: .long x :: st) h k n r := by
  intro l D cy base b p e R s m args below meth c H locs ls C hl hH hS hA
  exact W.lcmp C.1 C.2.1 hd  (kk l D cy base b p e R s m args below meth c H locs ls C hl hH hS hA)
theorem x_dup {v : Value} (hd : decode (Mc M) pc = .ok (.dup, 1)) (hc : v.category = 1) (kk : Ex X M al d (pc + 1) lv (v :: v :: st) h k n r) : Ex X M al d pc lv (v :: st) h k n r := by
  intro l D cy base b p e R s m args below meth c H locs ls C hl hH hS hA
  exact lv_dup C.1 C.2.1 hd ((mv_cat base b v).trans hc) (kk l D cy base b p e R s m args below meth c H locs ls C hl hH hS hA)
theorem x_pop {v : Value} (hd : decode (Mc M) pc = .ok (.pop, 1)) (hc : v.category = 1) (kk : Ex X M al d (pc + 1) lv (st) h k n r) : Ex X M al d pc lv (v :: st) h k n r := by
  intro l D cy base b p e R s m args below meth c H locs ls C hl hH hS hA
  exact lv_pop C.1 C.2.1 hd ((mv_cat base b v).trans hc) (kk l D cy base b p e R s m args below meth c H locs ls C hl hH hS hA)
theorem x_dup2 {v w : Value} (hd : decode (Mc M) pc = .ok (.dup2, 1)) (hc : v.category = 1) (hc2 : w.category = 1) (kk : Ex X M al d (pc + 1) lv (v :: w :: v :: w :: st) h k n r) : Ex X M al d pc lv (v :: w :: st) h k n r := by
  intro l D cy base b p e R s m args below meth c H locs ls C hl hH hS hA
  exact lv_dup2_11 C.1 C.2.1 hd ((mv_cat base b v).trans hc) ((mv_cat base b w).trans hc2) (kk l D cy base b p e R s m args below meth c H locs ls C hl hH hS hA)
theorem x_iload_n {x : Int32} {q : Fin 4} (hd : decode (Mc M) pc = .ok (.iload_n q, 1)) (hv : lv[(q : Nat)]? = some (some (.int x))) (kk : Ex X M al d (pc + 1) lv (.int x :: st) h k n r) : Ex X M al d pc lv st h k n r := by
  intro l D cy base b p e R s m args below meth c H locs ls C hl hH hS hA
  exact lv_iload_n C.1 C.2.1 hd rfl (hl.2.2 _ _ hv).2 (kk l D cy base b p e R s m args below meth c H locs ls C hl hH hS hA)
theorem x_iload {x : Int32} {q : Nat} (hd : decode (Mc M) pc = .ok (.iload q, 2)) (hv : lv[q]? = some (some (.int x))) (kk : Ex X M al d (pc + 2) lv (.int x :: st) h k n r) : Ex X M al d pc lv st h k n r := by
  intro l D cy base b p e R s m args below meth c H locs ls C hl hH hS hA
  exact lv_iload C.1 C.2.1 hd (hl.2.2 _ _ hv).2 (kk l D cy base b p e R s m args below meth c H locs ls C hl hH hS hA)
theorem x_aload_n {x : Nat} {q : Fin 4} (hd : decode (Mc M) pc = .ok (.aload_n q, 1)) (hv : lv[(q : Nat)]? = some (some (.ref x))) (kk : Ex X M al d (pc + 1) lv (.ref x :: st) h k n r) : Ex X M al d pc lv st h k n r := by
  intro l D cy base b p e R s m args below meth c H locs ls C hl hH hS hA
  exact lv_aload_n C.1 C.2.1 hd rfl (hl.2.2 _ _ hv).2 (kk l D cy base b p e R s m args below meth c H locs ls C hl hH hS hA)
theorem x_aload {x : Nat} {q : Nat} (hd : decode (Mc M) pc = .ok (.aload q, 2)) (hv : lv[q]? = some (some (.ref x))) (kk : Ex X M al d (pc + 2) lv (.ref x :: st) h k n r) : Ex X M al d pc lv st h k n r := by
  intro l D cy base b p e R s m args below meth c H locs ls C hl hH hS hA
  exact lv_aload C.1 C.2.1 hd (hl.2.2 _ _ hv).2 (kk l D cy base b p e R s m args below meth c H locs ls C hl hH hS hA)
theorem x_aload_ns {x : UInt32} {q : Fin 4} (hd : decode (Mc M) pc = .ok (.aload_n q, 1)) (hv : lv[(q : Nat)]? = some (some (.float x))) (kk : Ex X M al d (pc + 1) lv (.float x :: st) h k n r) : Ex X M al d pc lv st h k n r := by
  intro l D cy base b p e R s m args below meth c H locs ls C hl hH hS hA
  exact lv_aload_n C.1 C.2.1 hd rfl (hl.2.2 _ _ hv).2 (kk l D cy base b p e R s m args below meth c H locs ls C hl hH hS hA)
theorem x_istore_n {x : Int32} {q : Fin 4} (hd : decode (Mc M) pc = .ok (.istore_n q, 1)) (hn : (q : Nat) < Mn M) (hlv : lv.set (q : Nat) (some (.int x)) = lv') (kk : Ex X M al d (pc + 1) lv' st h k n r) : Ex X M al d pc lv (.int x :: st) h k n r := by
  intro l D cy base b p e R s m args below meth c H locs ls C hl hH hS hA
  exact lv_istore_n C.1 C.2.1 hd rfl hl.has hn rfl (fun ls2 h2 => kk l D cy base b p e R s m args below meth c H locs ls2 C (hlv ▸ hl.put rfl h2) hH hS hA)
theorem x_istore {x : Int32} {q : Nat} (hd : decode (Mc M) pc = .ok (.istore q, 2)) (hn : q < Mn M) (hlv : lv.set q (some (.int x)) = lv') (kk : Ex X M al d (pc + 2) lv' st h k n r) : Ex X M al d pc lv (.int x :: st) h k n r := by
  intro l D cy base b p e R s m args below meth c H locs ls C hl hH hS hA
  exact lv_istore C.1 C.2.1 hd hl.has hn rfl (fun ls2 h2 => kk l D cy base b p e R s m args below meth c H locs ls2 C (hlv ▸ hl.put rfl h2) hH hS hA)
theorem x_astore_n {x : Nat} {q : Fin 4} (hd : decode (Mc M) pc = .ok (.astore_n q, 1)) (hn : (q : Nat) < Mn M) (hlv : lv.set (q : Nat) (some (.ref x)) = lv') (kk : Ex X M al d (pc + 1) lv' st h k n r) : Ex X M al d pc lv (.ref x :: st) h k n r := by
  intro l D cy base b p e R s m args below meth c H locs ls C hl hH hS hA
  exact lv_astore_n C.1 C.2.1 hd rfl hl.has hn rfl (fun ls2 h2 => kk l D cy base b p e R s m args below meth c H locs ls2 C (hlv ▸ hl.put rfl h2) hH hS hA)
theorem x_astore {x : Nat} {q : Nat} (hd : decode (Mc M) pc = .ok (.astore q, 2)) (hn : q < Mn M) (hlv : lv.set q (some (.ref x)) = lv') (kk : Ex X M al d (pc + 2) lv' st h k n r) : Ex X M al d pc lv (.ref x :: st) h k n r := by
  intro l D cy base b p e R s m args below meth c H locs ls C hl hH hS hA
  exact lv_astore C.1 C.2.1 hd hl.has hn rfl (fun ls2 h2 => kk l D cy base b p e R s m args below meth c H locs ls2 C (hlv ▸ hl.put rfl h2) hH hS hA)
theorem x_astore_nx {x : Nat} {q : Fin 4} (hd : decode (Mc M) pc = .ok (.astore_n q, 1)) (hn : (q : Nat) < Mn M) (hlv : lv.set (q : Nat) (some (.retAddr x)) = lv') (kk : Ex X M al d (pc + 1) lv' st h k n r) : Ex X M al d pc lv (.retAddr x :: st) h k n r := by
  intro l D cy base b p e R s m args below meth c H locs ls C hl hH hS hA
  exact lv_astore_n C.1 C.2.1 hd rfl hl.has hn rfl (fun ls2 h2 => kk l D cy base b p e R s m args below meth c H locs ls2 C (hlv ▸ hl.put rfl h2) hH hS hA)
theorem x_astorex {x : Nat} {q : Nat} (hd : decode (Mc M) pc = .ok (.astore q, 2)) (hn : q < Mn M) (hlv : lv.set q (some (.retAddr x)) = lv') (kk : Ex X M al d (pc + 2) lv' st h k n r) : Ex X M al d pc lv (.retAddr x :: st) h k n r := by
  intro l D cy base b p e R s m args below meth c H locs ls C hl hH hS hA
  exact lv_astore C.1 C.2.1 hd hl.has hn rfl (fun ls2 h2 => kk l D cy base b p e R s m args below meth c H locs ls2 C (hlv ▸ hl.put rfl h2) hH hS hA)
theorem x_iinc {x v : Int32} {q : Nat} {z : Int} (hd : decode (Mc M) pc = .ok (.iinc q z, 3)) (hv : lv[q]? = some (some (.int x))) (hx : x + Int32.ofInt z = v) (hn : q < Mn M) (hlv : lv.set q (some (.int v)) = lv') (kk : Ex X M al d (pc + 3) lv' st h k n r) : Ex X M al d pc lv st h k n r := by
  intro l D cy base b p e R s m args below meth c H locs ls C hl hH hS hA
  obtain ⟨j, hj⟩ := List.getElem?_of_mem (lvl_mem (base := base) (b := b) hv)
  exact lv_iinc C.1 C.2.1 hd hl.has hj hx hn rfl (fun ls2 h2 => kk l D cy base b p e R s m args below meth c H locs ls2 C (hlv ▸ hl.put rfl h2) hH hS hA)
theorem x_goto {off : Int} {tgt : Nat} (hd : decode (Mc M) pc = .ok (.goto off, 3)) (ht : (pc : Int) + off = (tgt : Int)) (kk : Ex X M al d tgt lv st h k n r) : Ex X M al d pc lv st h k n r := by
  intro l D cy base b p e R s m args below meth c H locs ls C hl hH hS hA
  exact lv_goto C.1 C.2.1 hd ht (kk l D cy base b p e R s m args below meth c H locs ls C hl hH hS hA)
theorem x_if_eq {x : Int32} {off : Int} {tgt : Nat} (hd : decode (Mc M) pc = .ok (.ifCond .eq off, 3)) (ht : (pc : Int) + off = (tgt : Int)) (kt : x = 0 → Ex X M al d tgt lv st h k n r) (kf : ¬ x = 0 → Ex X M al d (pc + 3) lv st h k n r) : Ex X M al d pc lv (.int x :: st) h k n r := by
  intro l D cy base b p e R s m args below meth c H locs ls C hl hH hS hA
  exact lv_if_eq C.1 C.2.1 hd ht (fun hc => kt hc l D cy base b p e R s m args below meth c H locs ls C hl hH hS hA) (fun hc => kf hc l D cy base b p e R s m args below meth c H locs ls C hl hH hS hA)
theorem x_if_ne {x : Int32} {off : Int} {tgt : Nat} (hd : decode (Mc M) pc = .ok (.ifCond .ne off, 3)) (ht : (pc : Int) + off = (tgt : Int)) (kt : ¬ x = 0 → Ex X M al d tgt lv st h k n r) (kf : x = 0 → Ex X M al d (pc + 3) lv st h k n r) : Ex X M al d pc lv (.int x :: st) h k n r := by
  intro l D cy base b p e R s m args below meth c H locs ls C hl hH hS hA
  exact lv_if_ne C.1 C.2.1 hd ht (fun hc => kt hc l D cy base b p e R s m args below meth c H locs ls C hl hH hS hA) (fun hc => kf hc l D cy base b p e R s m args below meth c H locs ls C hl hH hS hA)
theorem x_if_lt {x : Int32} {off : Int} {tgt : Nat} (hd : decode (Mc M) pc = .ok (.ifCond .lt off, 3)) (ht : (pc : Int) + off = (tgt : Int)) (kt : x < 0 → Ex X M al d tgt lv st h k n r) (kf : ¬ x < 0 → Ex X M al d (pc + 3) lv st h k n r) : Ex X M al d pc lv (.int x :: st) h k n r := by
  intro l D cy base b p e R s m args below meth c H locs ls C hl hH hS hA
  exact lv_if_lt C.1 C.2.1 hd ht (fun hc => kt hc l D cy base b p e R s m args below meth c H locs ls C hl hH hS hA) (fun hc => kf hc l D cy base b p e R s m args below meth c H locs ls C hl hH hS hA)
theorem x_if_ge {x : Int32} {off : Int} {tgt : Nat} (hd : decode (Mc M) pc = .ok (.ifCond .ge off, 3)) (ht : (pc : Int) + off = (tgt : Int)) (kt : 0 ≤ x → Ex X M al d tgt lv st h k n r) (kf : ¬ 0 ≤ x → Ex X M al d (pc + 3) lv st h k n r) : Ex X M al d pc lv (.int x :: st) h k n r := by
  intro l D cy base b p e R s m args below meth c H locs ls C hl hH hS hA
  exact lv_if_ge C.1 C.2.1 hd ht (fun hc => kt hc l D cy base b p e R s m args below meth c H locs ls C hl hH hS hA) (fun hc => kf hc l D cy base b p e R s m args below meth c H locs ls C hl hH hS hA)
theorem x_if_gt {x : Int32} {off : Int} {tgt : Nat} (hd : decode (Mc M) pc = .ok (.ifCond .gt off, 3)) (ht : (pc : Int) + off = (tgt : Int)) (kt : 0 < x → Ex X M al d tgt lv st h k n r) (kf : ¬ 0 < x → Ex X M al d (pc + 3) lv st h k n r) : Ex X M al d pc lv (.int x :: st) h k n r := by
  intro l D cy base b p e R s m args below meth c H locs ls C hl hH hS hA
  exact lv_if_gt C.1 C.2.1 hd ht (fun hc => kt hc l D cy base b p e R s m args below meth c H locs ls C hl hH hS hA) (fun hc => kf hc l D cy base b p e R s m args below meth c H locs ls C hl hH hS hA)
theorem x_if_le {x : Int32} {off : Int} {tgt : Nat} (hd : decode (Mc M) pc = .ok (.ifCond .le off, 3)) (ht : (pc : Int) + off = (tgt : Int)) (kt : x ≤ 0 → Ex X M al d tgt lv st h k n r) (kf : ¬ x ≤ 0 → Ex X M al d (pc + 3) lv st h k n r) : Ex X M al d pc lv (.int x :: st) h k n r := by
  intro l D cy base b p e R s m args below meth c H locs ls C hl hH hS hA
  exact lv_if_le C.1 C.2.1 hd ht (fun hc => kt hc l D cy base b p e R s m args below meth c H locs ls C hl hH hS hA) (fun hc => kf hc l D cy base b p e R s m args below meth c H locs ls C hl hH hS hA)
theorem x_icmp_eq {x y : Int32} {off : Int} {tgt : Nat} (hd : decode (Mc M) pc = .ok (.if_icmp .eq off, 3)) (ht : (pc : Int) + off = (tgt : Int)) (kt : x = y → Ex X M al d tgt lv st h k n r) (kf : ¬ x = y → Ex X M al d (pc + 3) lv st h k n r) : Ex X M al d pc lv (.int y :: .int x :: st) h k n r := by
  intro l D cy base b p e R s m args below meth c H locs ls C hl hH hS hA
  exact lv_icmp_eq C.1 C.2.1 hd ht (fun hc => kt hc l D cy base b p e R s m args below meth c H locs ls C hl hH hS hA) (fun hc => kf hc l D cy base b p e R s m args below meth c H locs ls C hl hH hS hA)
theorem x_icmp_ne {x y : Int32} {off : Int} {tgt : Nat} (hd : decode (Mc M) pc = .ok (.if_icmp .ne off, 3)) (ht : (pc : Int) + off = (tgt : Int)) (kt : ¬ x = y → Ex X M al d tgt lv st h k n r) (kf : x = y → Ex X M al d (pc + 3) lv st h k n r) : Ex X M al d pc lv (.int y :: .int x :: st) h k n r := by
  intro l D cy base b p e R s m args below meth c H locs ls C hl hH hS hA
  exact lv_icmp_ne C.1 C.2.1 hd ht (fun hc => kt hc l D cy base b p e R s m args below meth c H locs ls C hl hH hS hA) (fun hc => kf hc l D cy base b p e R s m args below meth c H locs ls C hl hH hS hA)
theorem x_icmp_lt {x y : Int32} {off : Int} {tgt : Nat} (hd : decode (Mc M) pc = .ok (.if_icmp .lt off, 3)) (ht : (pc : Int) + off = (tgt : Int)) (kt : x < y → Ex X M al d tgt lv st h k n r) (kf : ¬ x < y → Ex X M al d (pc + 3) lv st h k n r) : Ex X M al d pc lv (.int y :: .int x :: st) h k n r := by
  intro l D cy base b p e R s m args below meth c H locs ls C hl hH hS hA
  exact lv_icmp_lt C.1 C.2.1 hd ht (fun hc => kt hc l D cy base b p e R s m args below meth c H locs ls C hl hH hS hA) (fun hc => kf hc l D cy base b p e R s m args below meth c H locs ls C hl hH hS hA)
theorem x_icmp_ge {x y : Int32} {off : Int} {tgt : Nat} (hd : decode (Mc M) pc = .ok (.if_icmp .ge off, 3)) (ht : (pc : Int) + off = (tgt : Int)) (kt : y ≤ x → Ex X M al d tgt lv st h k n r) (kf : ¬ y ≤ x → Ex X M al d (pc + 3) lv st h k n r) : Ex X M al d pc lv (.int y :: .int x :: st) h k n r := by
  intro l D cy base b p e R s m args below meth c H locs ls C hl hH hS hA
  exact lv_icmp_ge C.1 C.2.1 hd ht (fun hc => kt hc l D cy base b p e R s m args below meth c H locs ls C hl hH hS hA) (fun hc => kf hc l D cy base b p e R s m args below meth c H locs ls C hl hH hS hA)
theorem x_icmp_gt {x y : Int32} {off : Int} {tgt : Nat} (hd : decode (Mc M) pc = .ok (.if_icmp .gt off, 3)) (ht : (pc : Int) + off = (tgt : Int)) (kt : y < x → Ex X M al d tgt lv st h k n r) (kf : ¬ y < x → Ex X M al d (pc + 3) lv st h k n r) : Ex X M al d pc lv (.int y :: .int x :: st) h k n r := by
  intro l D cy base b p e R s m args below meth c H locs ls C hl hH hS hA
  exact lv_icmp_gt C.1 C.2.1 hd ht (fun hc => kt hc l D cy base b p e R s m args below meth c H locs ls C hl hH hS hA) (fun hc => kf hc l D cy base b p e R s m args below meth c H locs ls C hl hH hS hA)
theorem x_icmp_le {x y : Int32} {off : Int} {tgt : Nat} (hd : decode (Mc M) pc = .ok (.if_icmp .le off, 3)) (ht : (pc : Int) + off = (tgt : Int)) (kt : x ≤ y → Ex X M al d tgt lv st h k n r) (kf : ¬ x ≤ y → Ex X M al d (pc + 3) lv st h k n r) : Ex X M al d pc lv (.int y :: .int x :: st) h k n r := by
  intro l D cy base b p e R s m args below meth c H locs ls C hl hH hS hA
  exact lv_icmp_le C.1 C.2.1 hd ht (fun hc => kt hc l D cy base b p e R s m args below meth c H locs ls C hl hH hS hA) (fun hc => kf hc l D cy base b p e R s m args below meth c H locs ls C hl hH hS hA)
theorem x_lookup {dflt off : Int} {ps : Array (Int × Int)} {len tgt : Nat} {x : Int32} (hd : decode (Mc M) pc = .ok (.lookupswitch dflt ps, len)) (hp : (ps.toList.zip (ps.toList.drop 1)).all (fun (a, next) => a.1 < next.1) = true) (ho : Op.lookupswitch.offset ps.toList dflt x.toInt = off) (ht : (pc : Int) + off = (tgt : Int)) (kk : Ex X M al d tgt lv st h k n r) : Ex X M al d pc lv (.int x :: st) h k n r := by
  intro l D cy base b p e R s m args below meth c H locs ls C hl hH hS hA
  exact lv_lookup C.1 C.2.1 hd hp ho ht (kk l D cy base b p e R s m args below meth c H locs ls C hl hH hS hA)
theorem x_tableIn {dflt lo hi off : Int} {offs : Array Int} {len tgt : Nat} {x : Int32} (hd : decode (Mc M) pc = .ok (.tableswitch dflt lo hi offs, len)) (h1 : ¬ x.toInt < lo) (h2 : ¬ hi < x.toInt) (ho : offs[(x.toInt - lo).toNat]? = some off) (ht : (pc : Int) + off = (tgt : Int)) (kk : Ex X M al d tgt lv st h k n r) : Ex X M al d pc lv (.int x :: st) h k n r := by
  intro l D cy base b p e R s m args below meth c H locs ls C hl hH hS hA
  exact lv_tableIn C.1 C.2.1 hd h1 h2 ho ht (kk l D cy base b p e R s m args below meth c H locs ls C hl hH hS hA)
theorem x_tableOut {dflt lo hi : Int} {offs : Array Int} {len tgt : Nat} {x : Int32} (hd : decode (Mc M) pc = .ok (.tableswitch dflt lo hi offs, len)) (h1 : x.toInt < lo ∨ hi < x.toInt) (ht : (pc : Int) + dflt = (tgt : Int)) (kk : Ex X M al d tgt lv st h k n r) : Ex X M al d pc lv (.int x :: st) h k n r := by
  intro l D cy base b p e R s m args below meth c H locs ls C hl hH hS hA
  exact lv_tableOut C.1 C.2.1 hd h1 ht (kk l D cy base b p e R s m args below meth c H locs ls C hl hH hS hA)
end XR
