/-! ===== methods that return or throw, over memories ===== -/
def hs_en (e : Nat) : String := if e = 1 then "java/lang/IndexOutOfBoundsException" else if e = 2 then "java/lang/IllegalArgumentException" else if e = 3 then "java/lang/IllegalStateException" else "java/lang/ArithmeticException"
def hs_dn : List String := ["java/lang/RuntimeException", "java/lang/Exception", "java/lang/Throwable"]
def hs_xn : List String := ["java/lang/IndexOutOfBoundsException", "java/lang/IllegalArgumentException", "java/lang/IllegalStateException", "java/lang/ArithmeticException"]
def hs_nc : List (String × String) := [("java/lang/IllegalArgumentException", "java/lang/IndexOutOfBoundsException"), ("java/lang/IllegalStateException", "java/lang/IndexOutOfBoundsException"), ("java/lang/ArithmeticException", "java/lang/IndexOutOfBoundsException"), ("java/lang/IllegalStateException", "java/lang/IllegalArgumentException"), ("java/lang/ArithmeticException", "java/lang/IllegalArgumentException"), ("java/lang/ArithmeticException", "java/lang/IllegalStateException")]
abbrev hs_nms : List String := ["java/lang/RuntimeException", "java/lang/Exception"]
def hs_bw : List Cond := hs_dn.map (fun x => Cond.declares ⟨x, "<init>", "()V"⟩) ++ hs_xn.map (fun x => Cond.castable x x)
/-- what a throw and a handler need beyond the good words -/
def hs_Sx (A : Nat → Prop) (U : State) (H : Heap) : Prop := vx_Zq Bundle.tN "UNASSIGNED_STACK" Bundle.steD A U H ∧ vx_Zq Bundle.tN "SUPPRESSED_SENTINEL" Bundle.listD A U H ∧ (∀ x ∈ hs_dn, va_Nw (.declares ⟨x, "<init>", "()V"⟩) U) ∧ (∀ x ∈ hs_xn, va_Nw (.castable x x) U) ∧ ∀ x ∈ hs_nc, va_Nc x.1 x.2 U
theorem hs_Sx_go {A B : Nat → Prop} {u U : State} {H H1 : Heap} (h : hs_Sx A u H) (hW : u.WarmedH U.vm) (hAB : ∀ a, B a → A a) (hq : ∀ a : Nat, a < H.size → ¬ A a → H1[a]? = H[a]?) : hs_Sx B U H1 :=
  ⟨(vx_Zq.moved hW.alike (h.1.kept hq)).narrow hAB, (vx_Zq.moved hW.alike (h.2.1.kept hq)).narrow hAB, fun x hx => va_Nw.warmD hW (h.2.2.1 x hx), fun x hx => va_Nw.warmC hW (h.2.2.2.1 x hx), fun x hx => va_Nc.moved hW.alike (h.2.2.2.2 x hx)⟩
theorem hs_Sx_bw {A : Nat → Prop} {U : State} {H : Heap} {args : Array Value} (h : hs_Sx A U H) : ∀ w ∈ hs_bw, w.before args U = true := by
  intro w hw
  rcases List.mem_append.mp hw with hw | hw
  · obtain ⟨x, hx, rfl⟩ := List.mem_map.mp hw
    exact va_Nw.use rfl (h.2.2.1 x hx)
  · obtain ⟨x, hx, rfl⟩ := List.mem_map.mp hw
    exact va_Nw.use rfl (h.2.2.2.1 x hx)
def hs_rmx (h : Nat) : Room := { frames := h + 6, cells := 1, slots := 6, locals := 64 * h + 128 }
def hs_PreX (D : va_G) (cy : Nat → ClassId) (q tb : Nat → Nat) (S : hs_M) (sz : Nat) : State → Prop := fun U => hs_Pre D cy q tb 0 S sz U ∧ hs_Sx (va_A (hs_ws q cy 0 S) sz) U U.heap
def hs_ovx (ret : Option FieldType) (x : Int32) : Option Value := if ret = none then none else some (.int x)
def hs_Qx (D : va_G) (cy : Nat → ClassId) (q : Nat → Nat) (A : Nat → Prop) (ret : Option FieldType) (res : (Nat × Int32) × hs_M) : Array Value → State → Outcome → State → Prop := fun a st oc t => res.1.1 = 0 ∧ hs_Qc D cy q 0 A (hs_ovx ret res.1.2) res.2 a st oc t
def hs_Xx (D : va_G) (cy : Nat → ClassId) (q : Nat → Nat) (A : Nat → Prop) (res : (Nat × Int32) × hs_M) : String → State → State → Prop := fun E st t => res.1.1 ≠ 0 ∧ E = hs_en res.1.1 ∧ va_P D vwCl (hs_ws q cy 0 res.2) t.heap ∧ va_F A st t
/-- a method's contract where it may throw: the outcome's number is 0 where it returns, else the exception's -/
def hs_metx (y : MethodName) (b : ByteArray) (n : Nat) (ret : Option FieldType) (h : Nat) (args : (Nat → Nat) → List Value) (S : hs_M) (res : (Nat × Int32) × hs_M) : Prop :=
  ∀ (l : Launch) (D : va_G) (cy : Nat → ClassId) (q tb : Nat → Nat) (sz : Nat), l.stackTraces = false → vx_Met l y (hs_w y b n ret) (hs_rmx h) (va_Pc (args q) (hs_PreX D cy q tb S sz)) (hs_Qx D cy q (va_A (hs_ws q cy 0 S) sz) ret res) (hs_Xx D cy q (va_A (hs_ws q cy 0 S) sz) res) 1 6 (va_A (hs_ws q cy 0 S) sz)
def hs_tl : List (Nat × Nat × Nat) := [(1, 51, 53), (2, 57, 59), (3, 141, 143), (4, 148, 150)]
def hs_FT (X : hs_T) (cc : ByteArray) (nL : Nat) (res : (Nat × Int32) × hs_M) : Prop := ∀ (e ik ic : Nat), (e, ik, ic) ∈ hs_tl → res.1.1 = e → ∀ (H : Heap) (locs : List Loc) (ls : Array Slot) (pc : Nat), va_P (hs_D X) vwCl (hs_ws (hs_q X) (hs_cy X) (hs_wd X) res.2) H → va_S (hs_A X) (hs_s X).heap H locs → ls.size = nL → decode cc pc = .ok (.new ik, 3) → decode cc (pc + 3) = .ok (.dup, 1) → decode cc (pc + 4) = .ok (.invokespecial ic, 3) → decode cc (pc + 7) = .ok (.athrow, 1) → hs_W X H locs (F0 (hs_m X) pc ls [])
def hs_FXI (X : hs_T) (cc : ByteArray) (nL : Nat) (res : (Nat × Int32) × hs_M) : Prop := (res.1.1 = 0 → hs_FI X cc (res.1.2, res.2)) ∧ hs_FT X cc nL res
def hs_FXV (X : hs_T) (cc : ByteArray) (nL : Nat) (res : (Nat × Int32) × hs_M) : Prop := (res.1.1 = 0 → hs_FV X cc res.2) ∧ hs_FT X cc nL res
section HSX
variable {X : hs_T} {wd nL hh pc : Nat} {own : String} {cc : ByteArray} {S : hs_M} {lv : List (Nat × Value)}
theorem hs_xreti (C : hs_C X wd own cc nL hh) {res : (Nat × Int32) × hs_M} (hf : res.1.1 = 0 → hs_FI X cc (res.1.2, res.2)) {x : Int32} (h : some (((0 : Nat), x), S) = some res) (hd : decode cc pc = .ok (.ireturn, 1)) : hs_Z X nL S lv [.int x] pc := by
  cases h
  exact fun H locs ls hP hS _ => hf rfl H locs ls pc hP hS hd
theorem hs_xretv (C : hs_C X wd own cc nL hh) {res : (Nat × Int32) × hs_M} (hf : res.1.1 = 0 → hs_FV X cc res.2) {x : Int32} (h : some (((0 : Nat), x), S) = some res) (hd : decode cc pc = .ok (.return_, 1)) : hs_Z X nL S lv [] pc := by
  cases h
  exact fun H locs ls hP hS _ => hf rfl H locs ls pc hP hS hd
theorem hs_thr {e ik ic : Nat} (hm : (e, ik, ic) ∈ hs_tl) (C : hs_C X wd own cc nL hh) {res : (Nat × Int32) × hs_M} (hf : hs_FT X cc nL res) {x : Int32} (h : some ((e, x), S) = some res) (d0 : decode cc pc = .ok (.new ik, 3)) (d3 : decode cc (pc + 3) = .ok (.dup, 1)) (d4 : decode cc (pc + 4) = .ok (.invokespecial ic, 3)) (d7 : decode cc (pc + 7) = .ok (.athrow, 1)) : hs_Z X nL S lv [] pc := by
  cases h
  exact fun H locs ls hP hS hl => hf e ik ic hm rfl H locs ls pc hP hS hl.1 d0 d3 d4 d7
/-- 'throw new E()' in a method of the class -/
theorem hs_thr0 {ret : Option FieldType} (C : hs_C X 0 RX6 cc nL hh) {cls : String} {ik ic e : Nat} (hfit : Bundle.fit cls = true) (wk : Cond.classLink RX6 ik cls ∈ hs_tb) (wi : Cond.initialized cls ∈ hs_tb) (w1 : ∀ w ∈ (vx_at0 RX6 ic cls hs_nms).filter goodWord, w ∈ hs_tb) (w2 : ∀ w ∈ (vx_at0 RX6 ic cls hs_nms).filter (fun w => !goodWord w), w ∈ hs_bw) (w3 : ∀ w ∈ Cond.classLink RX6 ik cls :: Cond.initialized cls :: vx_at0 RX6 ic cls hs_nms, vx_ot w = true) (hen : hs_en e = cls) (he0 : e ≠ 0)
    (h0c : hs_nc1 X = 0 ∧ hs_nc2 X = 0) (hst : X.1.2.1.stackTraces = false) (hR : X.1.2.2.2.1 = hs_rmx hh) {res : (Nat × Int32) × hs_M} (hQ : hs_Q X = vx_MQ X.2.1.2.1 (hs_Qx (hs_D X) (hs_cy X) (hs_q X) (hs_A X) ret res) (hs_Xx (hs_D X) (hs_cy X) (hs_q X) (hs_A X) res) (hs_a X) (hs_s X) 1 6 (hs_A X)) (hlocks : X.2.1.2.2.1.locks = false) (htab : ∀ x ∈ X.2.1.2.2.2.exceptionTable.toList, False) (hSx : hs_Sx (hs_A X) (hs_s X) (hs_s X).heap) (hres : res.1.1 = e)
    {H : Heap} {locs : List Loc} {ls : Array Slot} (hP : va_P (hs_D X) vwCl (hs_ws (hs_q X) (hs_cy X) (hs_wd X) res.2) H) (hS : va_S (hs_A X) (hs_s X).heap H locs) (hsz : ls.size = nL) (d0 : decode cc pc = .ok (.new ik, 3)) (d3 : decode cc (pc + 3) = .ok (.dup, 1)) (d4 : decode cc (pc + 4) = .ok (.invokespecial ic, 3)) (d7 : decode cc (pc + 7) = .ok (.athrow, 1)) : hs_W X H locs (F0 (hs_m X) pc ls []) := by
  obtain ⟨c1, c2, c3, c4, c5, c6, c7, c8, c9, c10, c11, c12, c13⟩ := C
  show W _ _ _ _ _ _ _ _ _ _ _ _ _ _ (hs_Q X) _
  rw [hQ]
  refine vx_throw0 (cls := cls) (names := hs_nms) c1 c2 hst c4 hfit (by decide +kernel) (c5 _ wk) (c5 _ wi) (vx_hat (fun w hw => c5 w (w1 w hw)) w2 (hs_Sx_bw hSx)) w3 hSx.1 hSx.2.1 hS (by rw [hsz, c3]) d0 d3 d4 d7 (fun x hx => (htab x hx).elim) (by rw [hR]; show 5 < hh + 6; omega) (by rw [hR]; show 0 + 81 ≤ 64 * hh + 128; omega) (by rw [hR, h0c.1]; exact Nat.le_refl _) (by rw [hR, h0c.2]; exact Nat.le_refl _) hlocks (fun t ht hz hk => ⟨by rw [hres]; exact he0, by rw [hres, hen], ?_, ?_⟩) hS.2.2 (by rw [h0c.1]; exact Nat.le_refl _) (by rw [h0c.2]; exact Nat.le_refl _)
  · rw [← c7]
    exact hP.kept (fun k x hx => hk x.1 (hP k x hx).lt)
  · exact ⟨Nat.le_trans hS.1 hz, fun a h1 h2 => by rw [hk a (Nat.lt_of_lt_of_le h1 hS.1)]; exact hS.2.1 a h1 h2⟩
theorem hs_mkX0 {y : MethodName} {b : ByteArray} {n : Nat} {ret : Option FieldType} {hh : Nat} {args : (Nat → Nat) → List Value} {S : hs_M} {res : (Nat × Int32) × hs_M} (hy : plainName y.cls = true) (hlen : ∀ q, (lg_sl (args q)).length ≤ n)
    (body : ∀ X : hs_T, hs_C X 0 y.cls b n hh → (hs_nc1 X = 0 ∧ hs_nc2 X = 0) → X.1.2.1.stackTraces = false → X.1.2.2.2.1 = hs_rmx hh → hs_Q X = vx_MQ X.2.1.2.1 (hs_Qx (hs_D X) (hs_cy X) (hs_q X) (hs_A X) ret res) (hs_Xx (hs_D X) (hs_cy X) (hs_q X) (hs_A X) res) (hs_a X) (hs_s X) 1 6 (hs_A X) → X.2.1.2.2.1.sig.returnType = ret → X.2.1.2.2.1.locks = false → (∀ x ∈ X.2.1.2.2.2.exceptionTable.toList, False) → hs_Sx (hs_A X) (hs_s X) (hs_s X).heap → hs_Z X n S (lv_args 0 (args (hs_q X))) [] 0) : hs_metx y b n ret hh args S res := by
  intro l D cy q tb sz hst
  refine vx_ofW (cc := b) (maxL := n) (ret := ret) hy rfl ?_
  intro p e s m args' below meth c s₁ B hml htab hv
  obtain ⟨rfl, ⟨hsz, hP, hK, hD0, hSt, hNw⟩, hSx⟩ := hv
  subst hsz
  have hts := atoms_spec (ws := hs_w y b n ret) B.pre
  have hD := hD0.self (sz := s.heap.size)
  have Z := body ((p, l, e, (headSpec (hs_w y b n ret) (hs_rmx hh)).room, s, m), ((args q).toArray, below, meth, c), (D, cy, q, tb), (0, va_A (hs_ws q cy 0 S) s.heap.size, vx_MQ below (hs_Qx D cy q (va_A (hs_ws q cy 0 S) s.heap.size) ret res) (hs_Xx D cy q (va_A (hs_ws q cy 0 S) s.heap.size) res) (args q).toArray s 1 6 (va_A (hs_ws q cy 0 S) s.heap.size), 0, 0))
    ⟨B.exec, B.bytes, hml, findClass_of_methodNamed B.named, fun w h => hts w (List.mem_cons_of_mem _ h), ⟨by show hh ≤ hh + 6; omega, by show 64 * hh ≤ 64 * hh + 128; omega, Nat.zero_le _, Nat.zero_le _⟩, rfl, by decide, hK, fun S2 => hs_Dmv hD, fun a h => Or.inr h, hSt, hNw⟩ ⟨rfl, rfl⟩ hst rfl rfl B.returns B.notSynchronized htab hSx
  rw [lg_entry_eq]
  exact Z s.heap [] _ hP va_S.rf (lv_entry (args q) (hlen q))
end HSX
theorem hs_xw1 : (∀ w ∈ (vx_at0 RX6 53 (hs_en 1) hs_nms).filter goodWord, w ∈ lw_tbl) ∧ (∀ w ∈ (vx_at0 RX6 59 (hs_en 2) hs_nms).filter goodWord, w ∈ lw_tbl) ∧ (∀ w ∈ (vx_at0 RX6 143 (hs_en 3) hs_nms).filter goodWord, w ∈ lw_tbl) ∧ (∀ w ∈ (vx_at0 RX6 150 (hs_en 4) hs_nms).filter goodWord, w ∈ lw_tbl) := ⟨by decide +kernel, by decide +kernel, by decide +kernel, by decide +kernel⟩
theorem hs_xw2 : (∀ w ∈ (vx_at0 RX6 53 (hs_en 1) hs_nms).filter (fun w => !goodWord w), w ∈ hs_bw) ∧ (∀ w ∈ (vx_at0 RX6 59 (hs_en 2) hs_nms).filter (fun w => !goodWord w), w ∈ hs_bw) ∧ (∀ w ∈ (vx_at0 RX6 143 (hs_en 3) hs_nms).filter (fun w => !goodWord w), w ∈ hs_bw) ∧ (∀ w ∈ (vx_at0 RX6 150 (hs_en 4) hs_nms).filter (fun w => !goodWord w), w ∈ hs_bw) := ⟨by decide +kernel, by decide +kernel, by decide +kernel, by decide +kernel⟩
theorem hs_xw3 : (∀ w ∈ Cond.classLink RX6 51 (hs_en 1) :: Cond.initialized (hs_en 1) :: vx_at0 RX6 53 (hs_en 1) hs_nms, vx_ot w = true) ∧ (∀ w ∈ Cond.classLink RX6 57 (hs_en 2) :: Cond.initialized (hs_en 2) :: vx_at0 RX6 59 (hs_en 2) hs_nms, vx_ot w = true) ∧ (∀ w ∈ Cond.classLink RX6 141 (hs_en 3) :: Cond.initialized (hs_en 3) :: vx_at0 RX6 143 (hs_en 3) hs_nms, vx_ot w = true) ∧ (∀ w ∈ Cond.classLink RX6 148 (hs_en 4) :: Cond.initialized (hs_en 4) :: vx_at0 RX6 150 (hs_en 4) hs_nms, vx_ot w = true) := ⟨by decide +kernel, by decide +kernel, by decide +kernel, by decide +kernel⟩
theorem hs_xw4 : ∀ e ik ic : Nat, (e, ik, ic) ∈ hs_tl → Cond.classLink RX6 ik (hs_en e) ∈ hs_tb ∧ Cond.initialized (hs_en e) ∈ hs_tb ∧ Bundle.fit (hs_en e) = true ∧ e ≠ 0 ∧ (∀ w ∈ (vx_at0 RX6 ic (hs_en e) hs_nms).filter goodWord, w ∈ hs_tb) ∧ (∀ w ∈ (vx_at0 RX6 ic (hs_en e) hs_nms).filter (fun w => !goodWord w), w ∈ hs_bw) ∧ (∀ w ∈ Cond.classLink RX6 ik (hs_en e) :: Cond.initialized (hs_en e) :: vx_at0 RX6 ic (hs_en e) hs_nms, vx_ot w = true) := by
  have k1 : Cond.classLink RX6 51 (hs_en 1) ∈ lw_tbl ∧ Cond.classLink RX6 57 (hs_en 2) ∈ lw_tbl ∧ Cond.classLink RX6 141 (hs_en 3) ∈ lw_tbl ∧ Cond.classLink RX6 148 (hs_en 4) ∈ lw_tbl := ⟨by decide +kernel, by decide +kernel, by decide +kernel, by decide +kernel⟩
  have k2 : Cond.initialized (hs_en 1) ∈ lw_tbl ∧ Cond.initialized (hs_en 2) ∈ lw_tbl ∧ Cond.initialized (hs_en 3) ∈ lw_tbl ∧ Cond.initialized (hs_en 4) ∈ lw_tbl := ⟨by decide +kernel, by decide +kernel, by decide +kernel, by decide +kernel⟩
  have g : ∀ {w : Cond}, w ∈ lw_tbl → goodWord w = true → w ∈ hs_tb := fun h h2 => List.mem_filter.mpr ⟨h, h2⟩
  have g2 : ∀ {L : List Cond}, (∀ w ∈ L.filter goodWord, w ∈ lw_tbl) → ∀ w ∈ L.filter goodWord, w ∈ hs_tb := fun h w hw => g (h w hw) (List.mem_filter.mp hw).2
  intro e ik ic h
  simp only [hs_tl, List.mem_cons, Prod.mk.injEq, List.not_mem_nil, or_false] at h
  rcases h with ⟨rfl, rfl, rfl⟩ | ⟨rfl, rfl, rfl⟩ | ⟨rfl, rfl, rfl⟩ | ⟨rfl, rfl, rfl⟩
  · exact ⟨g k1.1 rfl, g k2.1 rfl, by decide +kernel, by decide, g2 hs_xw1.1, hs_xw2.1, hs_xw3.1⟩
  · exact ⟨g k1.2.1 rfl, g k2.2.1 rfl, by decide +kernel, by decide, g2 hs_xw1.2.1, hs_xw2.2.1, hs_xw3.2.1⟩
  · exact ⟨g k1.2.2.1 rfl, g k2.2.2.1 rfl, by decide +kernel, by decide, g2 hs_xw1.2.2.1, hs_xw2.2.2.1, hs_xw3.2.2.1⟩
  · exact ⟨g k1.2.2.2 rfl, g k2.2.2.2 rfl, by decide +kernel, by decide, g2 hs_xw1.2.2.2, hs_xw2.2.2.2, hs_xw3.2.2.2⟩
section HSY
variable {n hh : Nat} {y : MethodName} {b : ByteArray} {args : (Nat → Nat) → List Value} {S : hs_M} {res : (Nat × Int32) × hs_M}
theorem hs_mkXI (hy : plainName y.cls = true) (hy6 : y.cls = RX6) (hlen : ∀ q, (lg_sl (args q)).length ≤ n) (body : ∀ X : hs_T, hs_C X 0 y.cls b n hh → hs_FXI X b n res → hs_Z X n S (lv_args 0 (args (hs_q X))) [] 0) : hs_metx y b n (some .int) hh args S res := by
  refine hs_mkX0 hy hlen fun X C h0c hst hR hQ hr hlocks htab hSx => body X C ⟨fun h0 H locs ls pc hP hS hd => ?_, fun e ik ic hm he H locs ls pc hP hS hsz d0 d3 d4 d7 => ?_⟩
  · have hwdX := C.2.2.2.2.2.2.1
    show W _ _ _ _ _ _ _ _ _ _ _ _ _ _ (hs_Q X) _
    rw [hQ]
    exact vx_ret (W.widen (k := 1) (n := 6) (by rw [h0c.1]; omega) (by rw [h0c.2]; omega) (W.iret C.1 C.2.1 hr (fun t ht _ => ⟨h0, rfl, by rw [ht, ← hwdX]; exact hP, hS.F ht⟩) hS.2.2 hd))
  · obtain ⟨k1, k2, k3, k4, k5, k6, k7⟩ := hs_xw4 e ik ic hm
    exact hs_thr0 (hy6 ▸ C) k3 k1 k2 k5 k6 k7 rfl k4 h0c hst hR hQ hlocks htab hSx he hP hS hsz d0 d3 d4 d7
theorem hs_mkXV (hy : plainName y.cls = true) (hy6 : y.cls = RX6) (hlen : ∀ q, (lg_sl (args q)).length ≤ n) (body : ∀ X : hs_T, hs_C X 0 y.cls b n hh → hs_FXV X b n res → hs_Z X n S (lv_args 0 (args (hs_q X))) [] 0) : hs_metx y b n none hh args S res := by
  refine hs_mkX0 hy hlen fun X C h0c hst hR hQ hr hlocks htab hSx => body X C ⟨fun h0 H locs ls pc hP hS hd => ?_, fun e ik ic hm he H locs ls pc hP hS hsz d0 d3 d4 d7 => ?_⟩
  · have hwdX := C.2.2.2.2.2.2.1
    show W _ _ _ _ _ _ _ _ _ _ _ _ _ _ (hs_Q X) _
    rw [hQ]
    exact vx_ret (W.widen (k := 1) (n := 6) (by rw [h0c.1]; omega) (by rw [h0c.2]; omega) (W.vret C.1 C.2.1 hr (fun t ht _ => ⟨h0, rfl, by rw [ht, ← hwdX]; exact hP, hS.F ht⟩) hS.2.2 hd))
  · obtain ⟨k1, k2, k3, k4, k5, k6, k7⟩ := hs_xw4 e ik ic hm
    exact hs_thr0 (hy6 ▸ C) k3 k1 k2 k5 k6 k7 rfl k4 h0c hst hR hQ hlocks htab hSx he hP hS hsz d0 d3 d4 d7
end HSY
