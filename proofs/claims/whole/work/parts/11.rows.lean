/-! ===== rows: an instruction each, over memories ===== -/
section HSR
variable {X : hs_T} {wd nL hh pc : Nat} {own : String} {cc : ByteArray} {S : hs_M} {lv : List (Nat × Value)} {st : List Value}
theorem hs_iconst (C : hs_C X wd own cc nL hh) {n : Int} {v : Int32} (hd : decode cc pc = .ok (.iconst n, 1)) (hv : Int32.ofInt n = v) (k : hs_Z X nL S lv (.int v :: st) (pc + 1)) : hs_Z X nL S lv st pc :=
  fun H locs ls hP hS hl => lv_iconst C.1 C.2.1 hd hv (k H locs ls hP hS hl)
theorem hs_bipush (C : hs_C X wd own cc nL hh) {n : Int} {v : Int32} (hd : decode cc pc = .ok (.bipush n, 2)) (hv : (Int8.ofInt n).toInt32 = v) (k : hs_Z X nL S lv (.int v :: st) (pc + 2)) : hs_Z X nL S lv st pc :=
  fun H locs ls hP hS hl => lv_bipush C.1 C.2.1 hd hv (k H locs ls hP hS hl)
theorem hs_sipush (C : hs_C X wd own cc nL hh) {n : Int} {v : Int32} (hd : decode cc pc = .ok (.sipush n, 3)) (hv : (Int16.ofInt n).toInt32 = v) (k : hs_Z X nL S lv (.int v :: st) (pc + 3)) : hs_Z X nL S lv st pc :=
  fun H locs ls hP hS hl => lv_sipush C.1 C.2.1 hd hv (k H locs ls hP hS hl)
theorem hs_ldc (C : hs_C X wd own cc nL hh) {idx : Nat} {v : Int32} (w : Jvm.Cond.constant own idx v ∈ hs_tb) (hd : decode cc pc = .ok (.ldc idx, 2)) (k : hs_Z X nL S lv (.int v :: st) (pc + 2)) : hs_Z X nL S lv st pc :=
  fun H locs ls hP hS hl => lv_ldc C.1 C.2.1 C.2.2.2.1 (C.2.2.2.2.1 _ w) hd (k H locs ls hP hS hl)
theorem hs_iload_n (C : hs_C X wd own cc nL hh) {j : Fin 4} {i : Nat} {x : Int32} (hd : decode cc pc = .ok (.iload_n j, 1)) (p : Nat) (hi : (j : Nat) = i) (hp : lv[p]? = some (i, .int x)) (k : hs_Z X nL S lv (.int x :: st) (pc + 1)) : hs_Z X nL S lv st pc :=
  fun H locs ls hP hS hl => lv_iload_n C.1 C.2.1 hd hi (lv_at hl p hp) (k H locs ls hP hS hl)
theorem hs_iload (C : hs_C X wd own cc nL hh) {i : Nat} {x : Int32} (hd : decode cc pc = .ok (.iload i, 2)) (p : Nat) (hp : lv[p]? = some (i, .int x)) (k : hs_Z X nL S lv (.int x :: st) (pc + 2)) : hs_Z X nL S lv st pc :=
  fun H locs ls hP hS hl => lv_iload C.1 C.2.1 hd (lv_at hl p hp) (k H locs ls hP hS hl)
theorem hs_aload_n (C : hs_C X wd own cc nL hh) {j : Fin 4} {i x : Nat} (hd : decode cc pc = .ok (.aload_n j, 1)) (p : Nat) (hi : (j : Nat) = i) (hp : lv[p]? = some (i, .ref x)) (k : hs_Z X nL S lv (.ref x :: st) (pc + 1)) : hs_Z X nL S lv st pc :=
  fun H locs ls hP hS hl => lv_aload_n C.1 C.2.1 hd hi (lv_at hl p hp) (k H locs ls hP hS hl)
theorem hs_aload (C : hs_C X wd own cc nL hh) {i x : Nat} (hd : decode cc pc = .ok (.aload i, 2)) (p : Nat) (hp : lv[p]? = some (i, .ref x)) (k : hs_Z X nL S lv (.ref x :: st) (pc + 2)) : hs_Z X nL S lv st pc :=
  fun H locs ls hP hS hl => lv_aload C.1 C.2.1 hd (lv_at hl p hp) (k H locs ls hP hS hl)
theorem hs_istore_n (C : hs_C X wd own cc nL hh) {j : Fin 4} {i : Nat} {x : Int32} {lv' : List (Nat × Value)} (hd : decode cc pc = .ok (.istore_n j, 1)) (hi : (j : Nat) = i) (hn : i < nL) (hl' : (i, Value.int x) :: lv.filter (fun q => !(q.1 == i) && !(q.1 + 1 == i && q.2.category == 2)) = lv') (k : hs_Z X nL S lv' st (pc + 1)) : hs_Z X nL S lv (.int x :: st) pc :=
  fun H locs ls hP hS hl => lv_istore_n C.1 C.2.1 hd hi hl hn hl' (fun ls' h' => k H locs ls' hP hS h')
theorem hs_istore (C : hs_C X wd own cc nL hh) {i : Nat} {x : Int32} {lv' : List (Nat × Value)} (hd : decode cc pc = .ok (.istore i, 2)) (hn : i < nL) (hl' : (i, Value.int x) :: lv.filter (fun q => !(q.1 == i) && !(q.1 + 1 == i && q.2.category == 2)) = lv') (k : hs_Z X nL S lv' st (pc + 2)) : hs_Z X nL S lv (.int x :: st) pc :=
  fun H locs ls hP hS hl => lv_istore C.1 C.2.1 hd hl hn hl' (fun ls' h' => k H locs ls' hP hS h')
theorem hs_astore_n (C : hs_C X wd own cc nL hh) {j : Fin 4} {i x : Nat} {lv' : List (Nat × Value)} (hd : decode cc pc = .ok (.astore_n j, 1)) (hi : (j : Nat) = i) (hn : i < nL) (hl' : (i, Value.ref x) :: lv.filter (fun q => !(q.1 == i) && !(q.1 + 1 == i && q.2.category == 2)) = lv') (k : hs_Z X nL S lv' st (pc + 1)) : hs_Z X nL S lv (.ref x :: st) pc :=
  fun H locs ls hP hS hl => lv_astore_n C.1 C.2.1 hd hi hl hn hl' (fun ls' h' => k H locs ls' hP hS h')
theorem hs_astore (C : hs_C X wd own cc nL hh) {i x : Nat} {lv' : List (Nat × Value)} (hd : decode cc pc = .ok (.astore i, 2)) (hn : i < nL) (hl' : (i, Value.ref x) :: lv.filter (fun q => !(q.1 == i) && !(q.1 + 1 == i && q.2.category == 2)) = lv') (k : hs_Z X nL S lv' st (pc + 2)) : hs_Z X nL S lv (.ref x :: st) pc :=
  fun H locs ls hP hS hl => lv_astore C.1 C.2.1 hd hl hn hl' (fun ls' h' => k H locs ls' hP hS h')
theorem hs_iinc (C : hs_C X wd own cc nL hh) {i : Nat} {n : Int} {x v : Int32} {lv' : List (Nat × Value)} (hd : decode cc pc = .ok (.iinc i n, 3)) (p : Nat) (hp : lv[p]? = some (i, .int x)) (hv : x + Int32.ofInt n = v) (hn : i < nL) (hl' : (i, Value.int v) :: lv.filter (fun q => !(q.1 == i) && !(q.1 + 1 == i && q.2.category == 2)) = lv') (k : hs_Z X nL S lv' st (pc + 3)) : hs_Z X nL S lv st pc :=
  fun H locs ls hP hS hl => lv_iinc C.1 C.2.1 hd hl hp hv hn hl' (fun ls' h' => k H locs ls' hP hS h')
theorem hs_iinc' (c : Int32) (C : hs_C X wd own cc nL hh) {i : Nat} {n : Int} {x : Int32} (hd : decode cc pc = .ok (.iinc i n, 3)) (p : Nat) (hp : lv[p]? = some (i, .int x)) (hv : Int32.ofInt n = c) (hn : i < nL) {ρ : Type} {G : Int32 → Option ρ} {res : ρ} (h : hs_l (x + c) G = some res) (k : ∀ y : Int32, G y = some res → hs_Z X nL S ((i, Value.int y) :: lv.filter (fun q => !(q.1 == i) && !(q.1 + 1 == i && q.2.category == 2))) st (pc + 3)) : hs_Z X nL S lv st pc :=
  fun H locs ls hP hS hl => lv_iinc C.1 C.2.1 hd hl hp (show x + Int32.ofInt n = x + c by rw [hv]) hn rfl (fun ls' h' => k (x + c) h H locs ls' hP hS h')
theorem hs_sub {lv' : List (Nat × Value)} (ks : List Nat) (hk : lv_pick lv ks = lv') (k : hs_Z X nL S lv' st pc) : hs_Z X nL S lv st pc :=
  fun H locs ls hP hS hl => k H locs ls hP hS (lv_sub hl ks hk)
theorem hs_iadd (C : hs_C X wd own cc nL hh) {x y : Int32} (hd : decode cc pc = .ok (.iadd, 1)) (k : hs_Z X nL S lv (.int (x + y) :: st) (pc + 1)) : hs_Z X nL S lv (.int y :: .int x :: st) pc :=
  fun H locs ls hP hS hl => lv_iadd C.1 C.2.1 hd (k H locs ls hP hS hl)
theorem hs_isub (C : hs_C X wd own cc nL hh) {x y : Int32} (hd : decode cc pc = .ok (.isub, 1)) (k : hs_Z X nL S lv (.int (x - y) :: st) (pc + 1)) : hs_Z X nL S lv (.int y :: .int x :: st) pc :=
  fun H locs ls hP hS hl => lv_isub C.1 C.2.1 hd (k H locs ls hP hS hl)
theorem hs_imul (C : hs_C X wd own cc nL hh) {x y : Int32} (hd : decode cc pc = .ok (.imul, 1)) (k : hs_Z X nL S lv (.int (x * y) :: st) (pc + 1)) : hs_Z X nL S lv (.int y :: .int x :: st) pc :=
  fun H locs ls hP hS hl => lv_imul C.1 C.2.1 hd (k H locs ls hP hS hl)
theorem hs_idiv (C : hs_C X wd own cc nL hh) {x y : Int32} (hd : decode cc pc = .ok (.idiv, 1)) (hy : ¬ y = 0) (k : hs_Z X nL S lv (.int (x / y) :: st) (pc + 1)) : hs_Z X nL S lv (.int y :: .int x :: st) pc :=
  fun H locs ls hP hS hl => lv_idiv C.1 C.2.1 hd hy (k H locs ls hP hS hl)
theorem hs_irem (C : hs_C X wd own cc nL hh) {x y : Int32} (hd : decode cc pc = .ok (.irem, 1)) (hy : ¬ y = 0) (k : hs_Z X nL S lv (.int (hs_rem x y) :: st) (pc + 1)) : hs_Z X nL S lv (.int y :: .int x :: st) pc :=
  fun H locs ls hP hS hl => lv_irem C.1 C.2.1 hd hy (k H locs ls hP hS hl)
theorem hs_iand (C : hs_C X wd own cc nL hh) {x y : Int32} (hd : decode cc pc = .ok (.iand, 1)) (k : hs_Z X nL S lv (.int (x &&& y) :: st) (pc + 1)) : hs_Z X nL S lv (.int y :: .int x :: st) pc :=
  fun H locs ls hP hS hl => lv_iand C.1 C.2.1 hd (k H locs ls hP hS hl)
theorem hs_ior (C : hs_C X wd own cc nL hh) {x y : Int32} (hd : decode cc pc = .ok (.ior, 1)) (k : hs_Z X nL S lv (.int (x ||| y) :: st) (pc + 1)) : hs_Z X nL S lv (.int y :: .int x :: st) pc :=
  fun H locs ls hP hS hl => lv_ior C.1 C.2.1 hd (k H locs ls hP hS hl)
theorem hs_ixor (C : hs_C X wd own cc nL hh) {x y : Int32} (hd : decode cc pc = .ok (.ixor, 1)) (k : hs_Z X nL S lv (.int (x ^^^ y) :: st) (pc + 1)) : hs_Z X nL S lv (.int y :: .int x :: st) pc :=
  fun H locs ls hP hS hl => lv_ixor C.1 C.2.1 hd (k H locs ls hP hS hl)
theorem hs_ishl (C : hs_C X wd own cc nL hh) {x y : Int32} (hd : decode cc pc = .ok (.ishl, 1)) (k : hs_Z X nL S lv (.int (x <<< (y &&& 31)) :: st) (pc + 1)) : hs_Z X nL S lv (.int y :: .int x :: st) pc :=
  fun H locs ls hP hS hl => lv_ishl C.1 C.2.1 hd (k H locs ls hP hS hl)
theorem hs_ishr (C : hs_C X wd own cc nL hh) {x y : Int32} (hd : decode cc pc = .ok (.ishr, 1)) (k : hs_Z X nL S lv (.int (x >>> (y &&& 31)) :: st) (pc + 1)) : hs_Z X nL S lv (.int y :: .int x :: st) pc :=
  fun H locs ls hP hS hl => lv_ishr C.1 C.2.1 hd (k H locs ls hP hS hl)
theorem hs_iushr (C : hs_C X wd own cc nL hh) {x y : Int32} (hd : decode cc pc = .ok (.iushr, 1)) (k : hs_Z X nL S lv (.int (hs_ushr x y) :: st) (pc + 1)) : hs_Z X nL S lv (.int y :: .int x :: st) pc :=
  fun H locs ls hP hS hl => lv_iushr C.1 C.2.1 hd rfl (k H locs ls hP hS hl)
theorem hs_dup (C : hs_C X wd own cc nL hh) {v : Value} (hd : decode cc pc = .ok (.dup, 1)) (hv : v.category = 1) (k : hs_Z X nL S lv (v :: v :: st) (pc + 1)) : hs_Z X nL S lv (v :: st) pc :=
  fun H locs ls hP hS hl => lv_dup C.1 C.2.1 hd hv (k H locs ls hP hS hl)
theorem hs_dup2 (C : hs_C X wd own cc nL hh) {v w : Value} (hd : decode cc pc = .ok (.dup2, 1)) (hv : v.category = 1) (hw : w.category = 1) (k : hs_Z X nL S lv (v :: w :: v :: w :: st) (pc + 1)) : hs_Z X nL S lv (v :: w :: st) pc :=
  fun H locs ls hP hS hl => lv_dup2_11 C.1 C.2.1 hd hv hw (k H locs ls hP hS hl)
theorem hs_pop (C : hs_C X wd own cc nL hh) {v : Value} (hd : decode cc pc = .ok (.pop, 1)) (hv : v.category = 1) (k : hs_Z X nL S lv st (pc + 1)) : hs_Z X nL S lv (v :: st) pc :=
  fun H locs ls hP hS hl => lv_pop C.1 C.2.1 hd hv (k H locs ls hP hS hl)
theorem hs_goto (C : hs_C X wd own cc nL hh) {off : Int} {tgt : Nat} (hd : decode cc pc = .ok (.goto off, 3)) (ht : (pc : Int) + off = (tgt : Int)) (k : hs_Z X nL S lv st tgt) : hs_Z X nL S lv st pc :=
  fun H locs ls hP hS hl => lv_goto C.1 C.2.1 hd ht (k H locs ls hP hS hl)
theorem hs_top {ρ : Type} {v : Int32} {G : Int32 → Option ρ} {res : ρ} (h : hs_l v G = some res) (k : ∀ y : Int32, G y = some res → hs_Z X nL S lv (.int y :: st) pc) : hs_Z X nL S lv (.int v :: st) pc := k v h
theorem hs_topr {ρ : Type} {v : Nat} {G : Nat → Option ρ} {res : ρ} (h : hs_l v G = some res) (k : ∀ y : Nat, G y = some res → hs_Z X nL S lv (.ref (hs_q X y) :: st) pc) : hs_Z X nL S lv (.ref (hs_q X v) :: st) pc := k v h
/-! branches -/
section HSB
variable {ρ : Type} {A B : Option ρ} {res : ρ} {off : Int} {tgt : Nat} {x y : Int32}
theorem hs_if_eq (C : hs_C X wd own cc nL hh) (hd : decode cc pc = .ok (.ifCond .eq off, 3)) (ht : (pc : Int) + off = (tgt : Int)) (h : (if x = 0 then A else B) = some res) (kt : A = some res → hs_Z X nL S lv st tgt) (kf : B = some res → hs_Z X nL S lv st (pc + 3)) : hs_Z X nL S lv (.int x :: st) pc :=
  fun H locs ls hP hS hl => lv_if_eq C.1 C.2.1 hd ht (fun c => kt (by rw [if_pos c] at h; exact h) H locs ls hP hS hl) (fun c => kf (by rw [if_neg c] at h; exact h) H locs ls hP hS hl)
theorem hs_if_ne (C : hs_C X wd own cc nL hh) (hd : decode cc pc = .ok (.ifCond .ne off, 3)) (ht : (pc : Int) + off = (tgt : Int)) (h : (if x = 0 then B else A) = some res) (kt : A = some res → hs_Z X nL S lv st tgt) (kf : B = some res → hs_Z X nL S lv st (pc + 3)) : hs_Z X nL S lv (.int x :: st) pc :=
  fun H locs ls hP hS hl => lv_if_ne C.1 C.2.1 hd ht (fun c => kt (by rw [if_neg c] at h; exact h) H locs ls hP hS hl) (fun c => kf (by rw [if_pos c] at h; exact h) H locs ls hP hS hl)
theorem hs_if_lt (C : hs_C X wd own cc nL hh) (hd : decode cc pc = .ok (.ifCond .lt off, 3)) (ht : (pc : Int) + off = (tgt : Int)) (h : (if x < 0 then A else B) = some res) (kt : A = some res → hs_Z X nL S lv st tgt) (kf : B = some res → hs_Z X nL S lv st (pc + 3)) : hs_Z X nL S lv (.int x :: st) pc :=
  fun H locs ls hP hS hl => lv_if_lt C.1 C.2.1 hd ht (fun c => kt (by rw [if_pos c] at h; exact h) H locs ls hP hS hl) (fun c => kf (by rw [if_neg c] at h; exact h) H locs ls hP hS hl)
theorem hs_if_le (C : hs_C X wd own cc nL hh) (hd : decode cc pc = .ok (.ifCond .le off, 3)) (ht : (pc : Int) + off = (tgt : Int)) (h : (if x ≤ 0 then A else B) = some res) (kt : A = some res → hs_Z X nL S lv st tgt) (kf : B = some res → hs_Z X nL S lv st (pc + 3)) : hs_Z X nL S lv (.int x :: st) pc :=
  fun H locs ls hP hS hl => lv_if_le C.1 C.2.1 hd ht (fun c => kt (by rw [if_pos c] at h; exact h) H locs ls hP hS hl) (fun c => kf (by rw [if_neg c] at h; exact h) H locs ls hP hS hl)
theorem hs_if_ge (C : hs_C X wd own cc nL hh) (hd : decode cc pc = .ok (.ifCond .ge off, 3)) (ht : (pc : Int) + off = (tgt : Int)) (h : (if 0 ≤ x then A else B) = some res) (kt : A = some res → hs_Z X nL S lv st tgt) (kf : B = some res → hs_Z X nL S lv st (pc + 3)) : hs_Z X nL S lv (.int x :: st) pc :=
  fun H locs ls hP hS hl => lv_if_ge C.1 C.2.1 hd ht (fun c => kt (by rw [if_pos c] at h; exact h) H locs ls hP hS hl) (fun c => kf (by rw [if_neg c] at h; exact h) H locs ls hP hS hl)
theorem hs_if_gt (C : hs_C X wd own cc nL hh) (hd : decode cc pc = .ok (.ifCond .gt off, 3)) (ht : (pc : Int) + off = (tgt : Int)) (h : (if 0 < x then A else B) = some res) (kt : A = some res → hs_Z X nL S lv st tgt) (kf : B = some res → hs_Z X nL S lv st (pc + 3)) : hs_Z X nL S lv (.int x :: st) pc :=
  fun H locs ls hP hS hl => lv_if_gt C.1 C.2.1 hd ht (fun c => kt (by rw [if_pos c] at h; exact h) H locs ls hP hS hl) (fun c => kf (by rw [if_neg c] at h; exact h) H locs ls hP hS hl)
theorem hs_icmp_eq (C : hs_C X wd own cc nL hh) (hd : decode cc pc = .ok (.if_icmp .eq off, 3)) (ht : (pc : Int) + off = (tgt : Int)) (h : (if x = y then A else B) = some res) (kt : A = some res → hs_Z X nL S lv st tgt) (kf : B = some res → hs_Z X nL S lv st (pc + 3)) : hs_Z X nL S lv (.int y :: .int x :: st) pc :=
  fun H locs ls hP hS hl => lv_icmp_eq C.1 C.2.1 hd ht (fun c => kt (by rw [if_pos c] at h; exact h) H locs ls hP hS hl) (fun c => kf (by rw [if_neg c] at h; exact h) H locs ls hP hS hl)
theorem hs_icmp_ne (C : hs_C X wd own cc nL hh) (hd : decode cc pc = .ok (.if_icmp .ne off, 3)) (ht : (pc : Int) + off = (tgt : Int)) (h : (if x = y then B else A) = some res) (kt : A = some res → hs_Z X nL S lv st tgt) (kf : B = some res → hs_Z X nL S lv st (pc + 3)) : hs_Z X nL S lv (.int y :: .int x :: st) pc :=
  fun H locs ls hP hS hl => lv_icmp_ne C.1 C.2.1 hd ht (fun c => kt (by rw [if_neg c] at h; exact h) H locs ls hP hS hl) (fun c => kf (by rw [if_pos c] at h; exact h) H locs ls hP hS hl)
theorem hs_icmp_lt (C : hs_C X wd own cc nL hh) (hd : decode cc pc = .ok (.if_icmp .lt off, 3)) (ht : (pc : Int) + off = (tgt : Int)) (h : (if x < y then A else B) = some res) (kt : A = some res → hs_Z X nL S lv st tgt) (kf : B = some res → hs_Z X nL S lv st (pc + 3)) : hs_Z X nL S lv (.int y :: .int x :: st) pc :=
  fun H locs ls hP hS hl => lv_icmp_lt C.1 C.2.1 hd ht (fun c => kt (by rw [if_pos c] at h; exact h) H locs ls hP hS hl) (fun c => kf (by rw [if_neg c] at h; exact h) H locs ls hP hS hl)
theorem hs_icmp_le (C : hs_C X wd own cc nL hh) (hd : decode cc pc = .ok (.if_icmp .le off, 3)) (ht : (pc : Int) + off = (tgt : Int)) (h : (if x ≤ y then A else B) = some res) (kt : A = some res → hs_Z X nL S lv st tgt) (kf : B = some res → hs_Z X nL S lv st (pc + 3)) : hs_Z X nL S lv (.int y :: .int x :: st) pc :=
  fun H locs ls hP hS hl => lv_icmp_le C.1 C.2.1 hd ht (fun c => kt (by rw [if_pos c] at h; exact h) H locs ls hP hS hl) (fun c => kf (by rw [if_neg c] at h; exact h) H locs ls hP hS hl)
theorem hs_icmp_ge (C : hs_C X wd own cc nL hh) (hd : decode cc pc = .ok (.if_icmp .ge off, 3)) (ht : (pc : Int) + off = (tgt : Int)) (h : (if y ≤ x then A else B) = some res) (kt : A = some res → hs_Z X nL S lv st tgt) (kf : B = some res → hs_Z X nL S lv st (pc + 3)) : hs_Z X nL S lv (.int y :: .int x :: st) pc :=
  fun H locs ls hP hS hl => lv_icmp_ge C.1 C.2.1 hd ht (fun c => kt (by rw [if_pos c] at h; exact h) H locs ls hP hS hl) (fun c => kf (by rw [if_neg c] at h; exact h) H locs ls hP hS hl)
theorem hs_icmp_gt (C : hs_C X wd own cc nL hh) (hd : decode cc pc = .ok (.if_icmp .gt off, 3)) (ht : (pc : Int) + off = (tgt : Int)) (h : (if y < x then A else B) = some res) (kt : A = some res → hs_Z X nL S lv st tgt) (kf : B = some res → hs_Z X nL S lv st (pc + 3)) : hs_Z X nL S lv (.int y :: .int x :: st) pc :=
  fun H locs ls hP hS hl => lv_icmp_gt C.1 C.2.1 hd ht (fun c => kt (by rw [if_pos c] at h; exact h) H locs ls hP hS hl) (fun c => kf (by rw [if_neg c] at h; exact h) H locs ls hP hS hl)
end HSB
theorem hs_lookup (C : hs_C X wd own cc nL hh) {dflt : Int} {ps : Array (Int × Int)} {len : Nat} {x : Int32} {off : Int} {tgt : Nat} (hd : decode cc pc = .ok (.lookupswitch dflt ps, len)) (hp : (ps.toList.zip (ps.toList.drop 1)).all (fun (a, next) => a.1 < next.1) = true) (ho : Op.lookupswitch.offset ps.toList dflt x.toInt = off) (ht : (pc : Int) + off = (tgt : Int)) (k : hs_Z X nL S lv st tgt) : hs_Z X nL S lv (.int x :: st) pc :=
  fun H locs ls hP hS hl => lv_lookup C.1 C.2.1 hd hp ho ht (k H locs ls hP hS hl)
theorem hs_tableIn (C : hs_C X wd own cc nL hh) {dflt lo hi : Int} {offs : Array Int} {len : Nat} {x : Int32} {off : Int} {tgt : Nat} (hd : decode cc pc = .ok (.tableswitch dflt lo hi offs, len)) (h1 : ¬ x.toInt < lo) (h2 : ¬ hi < x.toInt) (ho : offs[(x.toInt - lo).toNat]? = some off) (ht : (pc : Int) + off = (tgt : Int)) (k : hs_Z X nL S lv st tgt) : hs_Z X nL S lv (.int x :: st) pc :=
  fun H locs ls hP hS hl => lv_tableIn C.1 C.2.1 hd h1 h2 ho ht (k H locs ls hP hS hl)
theorem hs_tableOut (C : hs_C X wd own cc nL hh) {dflt lo hi : Int} {offs : Array Int} {len : Nat} {x : Int32} {tgt : Nat} (hd : decode cc pc = .ok (.tableswitch dflt lo hi offs, len)) (h1 : x.toInt < lo ∨ hi < x.toInt) (ht : (pc : Int) + dflt = (tgt : Int)) (k : hs_Z X nL S lv st tgt) : hs_Z X nL S lv (.int x :: st) pc :=
  fun H locs ls hP hS hl => lv_tableOut C.1 C.2.1 hd h1 ht (k H locs ls hP hS hl)
/-! fields -/
section HSF
variable {kd i k idx N : Nat} {Cn : String} {T : u_T}
theorem hs_get (C : hs_C X wd own cc nL hh) (hc : vwCl[kd + 2]? = some (Cn, T, N)) (hin : ∀ w ∈ u_ws Cn T N, w ∈ hs_tb) (hN : N = hs_nf kd) (h8 : kd < 8) (hw : hs_wk kd = wd) (hkN : k < N) (w : Jvm.Cond.fieldLink own idx (T k).1 (T k).2.1 (T k).2.2.1 ∈ hs_tb) {v : Value} (hk : hs_K i = kd) (hv : hs_v (hs_q X) S kd i k = v) (hd : decode cc pc = .ok (.getfield idx, 3)) (kk : hs_Z X nL S lv (v :: st) (pc + 3)) : hs_Z X nL S lv (.ref (hs_q X i) :: st) pc := by
  intro H locs ls hP hS hl
  obtain ⟨c1, c2, c3, c4, c5, c6, c7, c8, c9, c10⟩ := C
  subst c7
  have hiw := hs_inw (by rw [hk]; exact hw) c8
  have he := hs_at (q := hs_q X) (cy := hs_cy X) (S := S) hiw
  rw [hs_e_o hk h8] at he
  exact va_get (D := hs_D X) (v := v) c1 c2 c5 hin c4 c9 hP _ he hc k hkN (c5 _ w) (fun _ h9 => h9) (by rw [hs_fs (hN ▸ hkN), hv]) hd (kk H locs ls hP hS hl)
theorem hs_put (C : hs_C X wd own cc nL hh) (ty0 : Nat → FieldType) (hty : ∀ k, k < N → parseFieldDescriptor (T k).2.2.1 = some (ty0 k)) (hnm : ∀ a, a < N → ∀ b, b < N → a ≠ b → (T a).2.1 ≠ (T b).2.1) (hc : vwCl[kd + 2]? = some (Cn, T, N)) (hin : ∀ w ∈ u_ws Cn T N, w ∈ hs_tb) (hN : N = hs_nf kd) (h8 : kd < 8) (hw : hs_wk kd = wd) (hkN : k < N) (hfin : (T k).2.2.2 = false) (w : Jvm.Cond.fieldLink own idx (T k).1 (T k).2.1 (T k).2.2.1 ∈ hs_tb) {v : Value} {x : Int32} (hk : hs_K i = kd) (hn : narrow (ty0 k) v = v) (hfit : fits (ty0 k) v = true) (hv : hs_v (hs_q X) (hs_U S i k x) kd i k = v) {ρ : Type} {G : hs_M → Option ρ} {res : ρ} (h : hs_l (hs_U S i k x) G = some res) (hd : decode cc pc = .ok (.putfield idx, 3)) (kk : ∀ S1 : hs_M, G S1 = some res → hs_Z X nL S1 lv st (pc + 3)) : hs_Z X nL S lv (v :: .ref (hs_q X i) :: st) pc := by
  intro H locs ls hP hS hl
  obtain ⟨c1, c2, c3, c4, c5, c6, c7, c8, c9, c10, c11, c12, c13⟩ := C
  subst c7
  have hiw := hs_inw (by rw [hk]; exact hw) c8
  have he := hs_at (q := hs_q X) (cy := hs_cy X) (S := S) hiw
  rw [hs_e_o hk h8] at he
  refine va_put (D := hs_D X) (v := v) (ty := ty0 k) c1 c2 c5 hin ty0 hty hnm c4 c9 hP (c10 S) hS _ he hc k hkN (c5 _ w) (fun _ h9 => h9) hfin (hty k hkN) hn hfit (by rw [hs_fsl, ← hN]; exact hkN) hd (fun H1 locs1 hP1 _ hS1 => ?_)
  rw [hs_fset (hN ▸ hkN) hv, hs_setw (S' := hs_U S i k x) hiw (fun j hj => hs_U_ne S k x hj) (hs_e_o hk h8)] at hP1
  exact kk (hs_U S i k x) h H1 locs1 ls hP1 hS1 hl
end HSF
/-! arrays -/
section HSA
variable {kd i : Nat} {x y : Int32} {ρ : Type} {res : ρ}
theorem hs_ald (C : hs_C X wd own cc nL hh) (hkd : kd = 8 ∨ kd = 14) (hw : hs_wk kd = wd) (hk : hs_K i = kd) {G : Option ρ} (h : hs_ix x (hs_N i) G = some res) (hd : decode cc pc = .ok (.iaload, 1)) (kk : G = some res → hs_Z X nL S lv (.int (S i x.toNatClampNeg) :: st) (pc + 1)) : hs_Z X nL S lv (.int x :: .ref (hs_q X i) :: st) pc := by
  intro H locs ls hP hS hl
  obtain ⟨c1, c2, c3, c4, c5, c6, c7, c8, c9, c10⟩ := C
  subst c7
  obtain ⟨hx, h⟩ := hs_ix_s h
  have hiw := hs_inw (by rw [hk]; exact hw) c8
  have he := hs_at (q := hs_q X) (cy := hs_cy X) (S := S) hiw
  rcases hkd with rfl | rfl
  · rw [hs_e_a hk (by decide)] at he
    exact va_iald (f := S i) c1 c2 c9 hP _ 0 he rfl hx hd (kk h H locs ls hP hS hl)
  · rw [hs_e_a hk (by decide)] at he
    exact va_iald (f := S i) c1 c2 c9 hP _ 5 he rfl hx hd (kk h H locs ls hP hS hl)
theorem hs_ast (C : hs_C X wd own cc nL hh) (hkd : kd = 8 ∨ kd = 14) (hw : hs_wk kd = wd) (hk : hs_K i = kd) {G : hs_M → Option ρ} (h : hs_ix x (hs_N i) (hs_l (hs_U S i x.toNatClampNeg y) G) = some res) (hd : decode cc pc = .ok (.iastore, 1)) (kk : ∀ S1 : hs_M, G S1 = some res → hs_Z X nL S1 lv st (pc + 1)) : hs_Z X nL S lv (.int y :: .int x :: .ref (hs_q X i) :: st) pc := by
  intro H locs ls hP hS hl
  obtain ⟨c1, c2, c3, c4, c5, c6, c7, c8, c9, c10, c11, c12, c13⟩ := C
  subst c7
  obtain ⟨hx, h⟩ := hs_ix_s h
  have hiw := hs_inw (by rw [hk]; exact hw) c8
  have he := hs_at (q := hs_q X) (cy := hs_cy X) (S := S) hiw
  have he' : hs_e (hs_q X) (hs_cy X) (hs_U S i x.toNatClampNeg y) i = .inl (hs_cy X kd, hs_N i, .inl (upd (S i) x.toNatClampNeg y)) := by
    rw [hs_e_a hk (by omega)]
    rcases hkd with rfl | rfl <;> simp [hs_ar, hs_U_row]
  rcases hkd with rfl | rfl
  · rw [hs_e_a hk (by decide)] at he
    refine va_iast (f := S i) c1 c2 c9 hP (c10 S) hS _ 0 he rfl hx hd (fun H1 locs1 hP1 _ hS1 => ?_)
    rw [hs_setw (S' := hs_U S i x.toNatClampNeg y) hiw (fun j hj => hs_U_ne S _ y hj) he'] at hP1
    exact kk _ h H1 locs1 ls hP1 hS1 hl
  · rw [hs_e_a hk (by decide)] at he
    refine va_iast (f := S i) c1 c2 c9 hP (c10 S) hS _ 5 he rfl hx hd (fun H1 locs1 hP1 _ hS1 => ?_)
    rw [hs_setw (S' := hs_U S i x.toNatClampNeg y) hiw (fun j hj => hs_U_ne S _ y hj) he'] at hP1
    exact kk _ h H1 locs1 ls hP1 hS1 hl
theorem hs_zld (C : hs_C X wd own cc nL hh) (hw : wd = 1) (hk : hs_K i = 15) {G : Option ρ} (h : hs_ix x (hs_N i) G = some res) (hd : decode cc pc = .ok (.baload, 1)) (kk : G = some res → hs_Z X nL S lv (.int (S i x.toNatClampNeg) :: st) (pc + 1)) : hs_Z X nL S lv (.int x :: .ref (hs_q X i) :: st) pc := by
  intro H locs ls hP hS hl
  obtain ⟨c1, c2, c3, c4, c5, c6, c7, c8, c9, c10⟩ := C
  subst c7
  obtain ⟨hx, h⟩ := hs_ix_s h
  have hiw := hs_inw (by rw [hk]; exact hw.symm) c8
  have he := hs_at (q := hs_q X) (cy := hs_cy X) (S := S) hiw
  rw [hs_e_a hk (by decide)] at he
  exact va_zald (f := S i) c1 c2 c9 hP _ 6 he rfl hx hd (kk h H locs ls hP hS hl)
theorem hs_zst (C : hs_C X wd own cc nL hh) (hw : wd = 1) (hk : hs_K i = 15) {G : hs_M → Option ρ} (h : hs_ix x (hs_N i) (hs_bg y (hs_l (hs_U S i x.toNatClampNeg y) G)) = some res) (hd : decode cc pc = .ok (.bastore, 1)) (kk : ∀ S1 : hs_M, G S1 = some res → hs_Z X nL S1 lv st (pc + 1)) : hs_Z X nL S lv (.int y :: .int x :: .ref (hs_q X i) :: st) pc := by
  intro H locs ls hP hS hl
  obtain ⟨c1, c2, c3, c4, c5, c6, c7, c8, c9, c10, c11, c12, c13⟩ := C
  subst c7
  obtain ⟨hx, h⟩ := hs_ix_s h
  obtain ⟨hy, h⟩ := hs_bg_s h
  have hn : vp_nar .boolean y = y := by rcases hy with rfl | rfl <;> rfl
  have hiw := hs_inw (by rw [hk]; exact hw.symm) c8
  have he := hs_at (q := hs_q X) (cy := hs_cy X) (S := S) hiw
  have he' : hs_e (hs_q X) (hs_cy X) (hs_U S i x.toNatClampNeg y) i = .inl (hs_cy X 15, hs_N i, .inl (upd (S i) x.toNatClampNeg y)) := by
    rw [hs_e_a hk (by decide)]
    simp [hs_ar, hs_U_row]
  rw [hs_e_a hk (by decide)] at he
  refine va_zast (f := S i) c1 c2 c9 hP (c10 S) hS _ 6 he rfl hx hd (fun H1 locs1 hP1 _ hS1 => ?_)
  rw [hn, hs_setw (S' := hs_U S i x.toNatClampNeg y) hiw (fun j hj => hs_U_ne S _ y hj) he'] at hP1
  exact kk _ h H1 locs1 ls hP1 hS1 hl
theorem hs_rld (C : hs_C X wd own cc nL hh) (hw : wd = 0) {tgt t0 : Nat} {Cn : String} {f : Nat → Option Nat} (ht : (hs_tys (hs_cy X))[t0]? = some (hs_cy X kd, .object Cn)) (hk : hs_K i = kd) (hw0 : hs_wk kd = 0) (h8 : ¬ kd < 8) (hf : hs_ar (hs_q X) S kd i = .inr (.inr (.inr (.inr f)))) (hft : f x.toNatClampNeg = some (hs_q X tgt)) {G : Option ρ} (h : hs_ix x (hs_N i) G = some res) (hd : decode cc pc = .ok (.aaload, 1)) (kk : G = some res → hs_Z X nL S lv (.ref (hs_q X tgt) :: st) (pc + 1)) : hs_Z X nL S lv (.int x :: .ref (hs_q X i) :: st) pc := by
  intro H locs ls hP hS hl
  obtain ⟨c1, c2, c3, c4, c5, c6, c7, c8, c9, c10⟩ := C
  subst c7
  obtain ⟨hx, h⟩ := hs_ix_s h
  have hiw := hs_inw (by rw [hk, hw0]; exact hw.symm) c8
  have he := hs_at (q := hs_q X) (cy := hs_cy X) (S := S) hiw
  rw [hs_e_a hk h8, hf] at he
  refine va_aldq (f := f) c1 c2 c9 hP _ t0 he ht hx hd ?_
  rw [hft]
  exact kk h H locs ls hP hS hl
/-- a packet's cell into the line's rows -/
theorem hs_rst (C : hs_C X wd own cc nL hh) (hw : wd = 0) {j : Nat} (hk : hs_K i = 10) (hj : hs_K j = 3) {G : hs_M → Option ρ} (h : hs_ix x (hs_N i) (hs_l (hs_U S i x.toNatClampNeg (nI j)) G) = some res) (hd : decode cc pc = .ok (.aastore, 1)) (kk : ∀ S1 : hs_M, G S1 = some res → hs_Z X nL S1 lv st (pc + 1)) : hs_Z X nL S lv (.ref (hs_q X j) :: .int x :: .ref (hs_q X i) :: st) pc := by
  intro H locs ls hP hS hl
  obtain ⟨c1, c2, c3, c4, c5, c6, c7, c8, c9, c10, c11, c12, c13⟩ := C
  subst c7
  obtain ⟨hx, h⟩ := hs_ix_s h
  have hiw := hs_inw (by rw [hk]; exact hw.symm) c8
  have hjw := hs_inw (by rw [hj]; exact hw.symm) c8
  have hj48 : j < 48 := hs_inw0 j (by rw [hj]; rfl)
  have he := hs_at (q := hs_q X) (cy := hs_cy X) (S := S) hiw
  have hv := hs_at (q := hs_q X) (cy := hs_cy X) (S := S) hjw
  have he' : hs_e (hs_q X) (hs_cy X) (hs_U S i x.toNatClampNeg (nI j)) i = .inl (hs_cy X 10, hs_N i, .inr (.inr (.inr (.inr (va_up (fun j => some (hs_q X (S i j).toNatClampNeg)) x.toNatClampNeg (some (hs_q X j))))))) := by
    rw [hs_e_a hk (by decide)]
    simp only [hs_ar, if_pos]
    congr 7
    funext b
    by_cases hb : b = x.toNatClampNeg
    · subst hb
      simp [hs_U, va_up, nI_clamp (show j < 2 ^ 31 by omega)]
    · simp [hs_U, va_up, hb]
  rw [hs_e_a hk (by decide)] at he
  rw [hs_e_o hj (by decide)] at hv
  refine va_astq (f := fun j => some (hs_q X (S i j).toNatClampNeg)) (r := (RX3, TX3, 5)) c1 c2 c9 hP (c10 S) hS _ 1 _ 5 he rfl hv rfl hx hd (fun H1 locs1 hP1 _ hS1 => ?_)
  rw [hs_setw (S' := hs_U S i x.toNatClampNeg (nI j)) hiw (fun j hj => hs_U_ne S _ _ hj) he'] at hP1
  exact kk _ h H1 locs1 ls hP1 hS1 hl
end HSA
/-! statics -/
theorem hs_gets (C : hs_C X wd own cc nL hh) {j idx : Nat} (hj : j < 5) {nm : String} (hnm : hs_sf j = nm) (w : (own, idx, nm) ∈ hs_nl) (hd : decode cc pc = .ok (.getstatic idx, 3)) (kk : hs_Z X nL S lv (.ref (hs_tbl X j) :: st) (pc + 3)) : hs_Z X nL S lv st pc := by
  intro H locs ls hP hS hl
  obtain ⟨c1, c2, c3, c4, c5, c6, c7, c8, c9, c10, c11, c12, c13⟩ := C
  subst hnm
  exact va_getsN c1 c2 (c12 j hj).1 hS c4 (va_Nw.use rfl (c13 _ w)) (fun _ h9 => h9) hd (kk H locs ls hP hS hl)
theorem hs_sld (C : hs_C X wd own cc nL hh) {j : Nat} {x : Int32} (hj : j < 5) {ρ : Type} {res : ρ} {G : Option ρ} (h : hs_ix x (hs_sn j) G = some res) (hd : decode cc pc = .ok (.iaload, 1)) (kk : G = some res → hs_Z X nL S lv (.int (hs_sv j x.toNatClampNeg) :: st) (pc + 1)) : hs_Z X nL S lv (.int x :: .ref (hs_tbl X j) :: st) pc := by
  intro H locs ls hP hS hl
  obtain ⟨c1, c2, c3, c4, c5, c6, c7, c8, c9, c10, c11, c12, c13⟩ := C
  obtain ⟨hx, h⟩ := hs_ix_s h
  exact va_ti c1 c2 (c12 j hj).2 hS hx rfl hd (kk h H locs ls hP hS hl)
end HSR
