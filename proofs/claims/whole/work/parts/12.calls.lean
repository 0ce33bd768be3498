/-! ===== contracts over memories, and calls ===== -/
def hs_w (y : MethodName) (b : ByteArray) (n : Nat) (ret : Option FieldType) : List Cond := .code y b n ret :: hs_tb
def hs_Pre (D : va_G) (cy : Nat → ClassId) (q tb : Nat → Nat) (wd : Nat) (S : hs_M) (sz : Nat) : State → Prop := fun U => U.heap.size = sz ∧ va_P D vwCl (hs_ws q cy wd S) U.heap ∧ va_K D vwCl (hs_tys cy) U ∧ va_D (fun _ => True) (hs_ws q cy wd S) ∧ hs_St tb (va_A (hs_ws q cy wd S) sz) U U.heap ∧ hs_Nw U
def hs_Qc (D : va_G) (cy : Nat → ClassId) (q : Nat → Nat) (wd : Nat) (A : Nat → Prop) (ov : Option Value) (S : hs_M) : Array Value → State → Outcome → State → Prop := fun _ st oc t => oc = .returned ov ∧ va_P D vwCl (hs_ws q cy wd S) t.heap ∧ va_F A st t
/-- a method's contract: from every state that holds the memory S it returns ov and the state holds S' -/
def hs_met (wd : Nat) (y : MethodName) (b : ByteArray) (n : Nat) (ret : Option FieldType) (h : Nat) (args : (Nat → Nat) → List Value) (S : hs_M) (ov : (Nat → Nat) → Option Value) (S' : hs_M) : Prop :=
  ∀ (l : Launch) (D : va_G) (cy : Nat → ClassId) (q tb : Nat → Nat) (sz : Nat), Met l y (hs_w y b n ret) (hs_rm h) (va_Pc (args q) (hs_Pre D cy q tb wd S sz)) (hs_Qc D cy q wd (va_A (hs_ws q cy wd S) sz) (ov q) S') 0 0 (va_A (hs_ws q cy wd S) sz)
theorem hs_mk0 {wd : Nat} {y : MethodName} {b : ByteArray} {n : Nat} {ret : Option FieldType} {hh : Nat} {args : (Nat → Nat) → List Value} {S : hs_M} {ov : (Nat → Nat) → Option Value} {S' : hs_M} (hy : plainName y.cls = true) (hwd : wd ≤ 1) (hlen : ∀ q, (lg_sl (args q)).length ≤ n)
    (body : ∀ X : hs_T, hs_C X wd y.cls b n hh → hs_Q X = MQ X.2.1.2.1 (hs_Qc (hs_D X) (hs_cy X) (hs_q X) wd (hs_A X) (ov (hs_q X)) S') (hs_a X) (hs_s X) (hs_nc1 X) (hs_nc2 X) (hs_A X) → X.2.1.2.2.1.sig.returnType = ret → X.2.1.2.2.1.locks = false → hs_Z X n S (lv_args 0 (args (hs_q X))) [] 0) : hs_met wd y b n ret hh args S ov S' := by
  intro l D cy q tb sz
  refine Met.ofW (cc := b) (maxL := n) (ret := ret) hy rfl ?_
  intro p e s m args' below meth c s₁ B hml hv
  obtain ⟨rfl, hsz, hP, hK, hD0, hSt, hNw⟩ := hv
  subst hsz
  have hts := atoms_spec (ws := hs_w y b n ret) B.pre
  have hD := hD0.self (sz := s.heap.size)
  have Z := body ((p, l, e, (headSpec (hs_w y b n ret) (hs_rm hh)).room, s, m), ((args q).toArray, below, meth, c), (D, cy, q, tb), (wd, va_A (hs_ws q cy wd S) s.heap.size, MQ below (hs_Qc D cy q wd (va_A (hs_ws q cy wd S) s.heap.size) (ov q) S') (args q).toArray s 0 0 (va_A (hs_ws q cy wd S) s.heap.size), 0, 0))
    ⟨B.exec, B.bytes, hml, findClass_of_methodNamed B.named, fun w h => hts w (List.mem_cons_of_mem _ h), ⟨Nat.le_refl _, Nat.le_refl _, Nat.zero_le _, Nat.zero_le _⟩, rfl, hwd, hK, fun S2 => hs_Dmv hD, fun a h => Or.inr h, hSt, hNw⟩ rfl B.returns B.notSynchronized
  rw [lg_entry_eq]
  exact Z s.heap [] _ hP va_S.rf (lv_entry (args q) (hlen q))
/-! ends -/
def hs_FI (X : hs_T) (cc : ByteArray) (res : Int32 × hs_M) : Prop := ∀ (H : Heap) (locs : List Loc) (ls : Array Slot) (pc : Nat), va_P (hs_D X) vwCl (hs_ws (hs_q X) (hs_cy X) (hs_wd X) res.2) H → va_S (hs_A X) (hs_s X).heap H locs → decode cc pc = .ok (.ireturn, 1) → hs_W X H locs (F0 (hs_m X) pc ls [.int res.1])
def hs_FB (X : hs_T) (cc : ByteArray) (res : Int32 × hs_M) : Prop := (res.1 = 0 ∨ res.1 = 1) → hs_FI X cc res
def hs_FV (X : hs_T) (cc : ByteArray) (res : hs_M) : Prop := ∀ (H : Heap) (locs : List Loc) (ls : Array Slot) (pc : Nat), va_P (hs_D X) vwCl (hs_ws (hs_q X) (hs_cy X) (hs_wd X) res) H → va_S (hs_A X) (hs_s X).heap H locs → decode cc pc = .ok (.return_, 1) → hs_W X H locs (F0 (hs_m X) pc ls [])
def hs_FR (X : hs_T) (cc : ByteArray) (res : Nat × hs_M) : Prop := ∀ (H : Heap) (locs : List Loc) (ls : Array Slot) (pc : Nat), va_P (hs_D X) vwCl (hs_ws (hs_q X) (hs_cy X) (hs_wd X) res.2) H → va_S (hs_A X) (hs_s X).heap H locs → decode cc pc = .ok (.areturn, 1) → hs_W X H locs (F0 (hs_m X) pc ls [.ref (hs_q X res.1)])
section HSE
variable {X : hs_T} {wd nL hh pc : Nat} {own : String} {cc : ByteArray} {S : hs_M} {lv : List (Nat × Value)}
theorem hs_ireti (C : hs_C X wd own cc nL hh) {res : Int32 × hs_M} (hf : hs_FI X cc res) {x : Int32} (h : some (x, S) = some res) (hd : decode cc pc = .ok (.ireturn, 1)) : hs_Z X nL S lv [.int x] pc := by
  cases h
  exact fun H locs ls hP hS _ => hf H locs ls pc hP hS hd
theorem hs_iretb (C : hs_C X wd own cc nL hh) {res : Int32 × hs_M} (hf : hs_FB X cc res) {x : Int32} (h : hs_bg x (some (x, S)) = some res) (hd : decode cc pc = .ok (.ireturn, 1)) : hs_Z X nL S lv [.int x] pc := by
  obtain ⟨hx, h⟩ := hs_bg_s h
  cases h
  exact fun H locs ls hP hS _ => hf hx H locs ls pc hP hS hd
theorem hs_vret (C : hs_C X wd own cc nL hh) {res : hs_M} (hf : hs_FV X cc res) (h : some S = some res) (hd : decode cc pc = .ok (.return_, 1)) : hs_Z X nL S lv [] pc := by
  cases h
  exact fun H locs ls hP hS _ => hf H locs ls pc hP hS hd
theorem hs_aret (C : hs_C X wd own cc nL hh) {res : Nat × hs_M} (hf : hs_FR X cc res) {i : Nat} (h : some (i, S) = some res) (hd : decode cc pc = .ok (.areturn, 1)) : hs_Z X nL S lv [.ref (hs_q X i)] pc := by
  cases h
  exact fun H locs ls hP hS _ => hf H locs ls pc hP hS hd
end HSE
section HSM
variable {wd n hh : Nat} {y : MethodName} {b : ByteArray} {args : (Nat → Nat) → List Value} {S : hs_M}
theorem hs_mkI {res : Int32 × hs_M} (hy : plainName y.cls = true) (hwd : wd ≤ 1) (hlen : ∀ q, (lg_sl (args q)).length ≤ n) (body : ∀ X : hs_T, hs_C X wd y.cls b n hh → hs_FI X b res → hs_Z X n S (lv_args 0 (args (hs_q X))) [] 0) : hs_met wd y b n (some .int) hh args S (fun _ => some (.int res.1)) res.2 := by
  refine hs_mk0 hy hwd hlen fun X C hQ hr hlocks => body X C fun H locs ls pc hP hS hd => ?_
  have hwdX := C.2.2.2.2.2.2.1
  show W _ _ _ _ _ _ _ _ _ _ _ _ _ _ (hs_Q X) _
  rw [hQ]
  exact W.iret C.1 C.2.1 hr (fun t ht _ => ⟨rfl, by rw [ht, ← hwdX]; exact hP, hS.F ht⟩) hS.2.2 hd
theorem hs_mkB {res : Int32 × hs_M} (hy : plainName y.cls = true) (hwd : wd ≤ 1) (hlen : ∀ q, (lg_sl (args q)).length ≤ n) (body : ∀ X : hs_T, hs_C X wd y.cls b n hh → hs_FB X b res → hs_Z X n S (lv_args 0 (args (hs_q X))) [] 0) : hs_met wd y b n (some .boolean) hh args S (fun _ => some (.int res.1)) res.2 := by
  refine hs_mk0 hy hwd hlen fun X C hQ hr hlocks => body X C fun hx H locs ls pc hP hS hd => ?_
  have hwdX := C.2.2.2.2.2.2.1
  have hn : narrow .boolean (.int res.1) = .int res.1 := by rcases hx with e | e <;> rw [e] <;> rfl
  show W _ _ _ _ _ _ _ _ _ _ _ _ _ _ (hs_Q X) _
  rw [hQ]
  exact W.zret C.1 C.2.1 hr hn (fun t ht _ => ⟨rfl, by rw [ht, ← hwdX]; exact hP, hS.F ht⟩) hS.2.2 hd
theorem hs_mkV {res : hs_M} (hy : plainName y.cls = true) (hwd : wd ≤ 1) (hlen : ∀ q, (lg_sl (args q)).length ≤ n) (body : ∀ X : hs_T, hs_C X wd y.cls b n hh → hs_FV X b res → hs_Z X n S (lv_args 0 (args (hs_q X))) [] 0) : hs_met wd y b n none hh args S (fun _ => none) res := by
  refine hs_mk0 hy hwd hlen fun X C hQ hr hlocks => body X C fun H locs ls pc hP hS hd => ?_
  have hwdX := C.2.2.2.2.2.2.1
  show W _ _ _ _ _ _ _ _ _ _ _ _ _ _ (hs_Q X) _
  rw [hQ]
  exact W.vret C.1 C.2.1 hr (fun t ht _ => ⟨rfl, by rw [ht, ← hwdX]; exact hP, hS.F ht⟩) hS.2.2 hd
theorem hs_mkR {res : Nat × hs_M} {cn : String} (hy : plainName y.cls = true) (hwd : wd ≤ 1) (hlen : ∀ q, (lg_sl (args q)).length ≤ n) (body : ∀ X : hs_T, hs_C X wd y.cls b n hh → hs_FR X b res → hs_Z X n S (lv_args 0 (args (hs_q X))) [] 0) : hs_met wd y b n (some (.object cn)) hh args S (fun q => some (.ref (q res.1))) res.2 := by
  refine hs_mk0 hy hwd hlen fun X C hQ hr hlocks => body X C fun H locs ls pc hP hS hd => ?_
  have hwdX := C.2.2.2.2.2.2.1
  show W _ _ _ _ _ _ _ _ _ _ _ _ _ _ (hs_Q X) _
  rw [hQ]
  exact W.aret C.1 C.2.1 hr (Or.inl ⟨cn, rfl⟩) (Or.inr ⟨_, rfl⟩) (fun t ht _ => ⟨rfl, by rw [ht, ← hwdX]; exact hP, hS.F ht⟩) hS.2.2 hd
end HSM
section HSL
variable {X : hs_T} {wd nL hh pc : Nat} {own : String} {cc : ByteArray} {S : hs_M} {lv : List (Nat × Value)} {st : List Value}
theorem hs_Ain (C : hs_C X wd own cc nL hh) {H : Heap} {locs : List Loc} (hS : va_S (hs_A X) (hs_s X).heap H locs) (S : hs_M) : ∀ a, va_A (hs_ws (hs_q X) (hs_cy X) wd S) H.size a → hs_A X a := by
  intro a h
  rcases h with ⟨k, e, h⟩ | h
  · exact (C.2.2.2.2.2.2.2.2.2.1 S).2 k _ h
  · exact C.2.2.2.2.2.2.2.2.2.2.1 a (Nat.le_trans hS.1 h)
theorem hs_back (C : hs_C X wd own cc nL hh) {S' : hs_M} {ov : Option Value} {a : Array Value} {st0 : List Value} {H : Heap} {locs : List Loc} {ls : Array Slot}
    (hrun : va_Run X.1.1 X.1.2.1 X.1.2.2.1 X.1.2.2.2.1 (hs_s X) (hs_m X) (hs_a X) X.2.1.2.1 X.2.1.2.2.1 X.2.1.2.2.2 H locs (hs_nc1 X) (hs_nc2 X) 0 0 (F0 (hs_m X) pc ls st0) st ((hs_Qc (hs_D X) (hs_cy X) (hs_q X) wd (va_A (hs_ws (hs_q X) (hs_cy X) wd S) H.size) ov S') a) (va_A (hs_ws (hs_q X) (hs_cy X) wd S) H.size))
    (hS : va_S (hs_A X) (hs_s X).heap H locs) (hl : lv_has ls nL lv) (kk : hs_Z X nL S' lv (ov.toList ++ st) (pc + 3)) : hs_W X H locs (F0 (hs_m X) pc ls st0) := by
  intro T hT X0
  obtain ⟨v, st₀, t, T', L, h0, X', hL, e1, e2, ⟨hv, hp, hz, hk⟩, st⟩ := hrun T hT X0
  cases hv
  rw [h0] at hz hk
  have hA := hs_Ain C hS S
  have hwdX := C.2.2.2.2.2.2.1
  obtain ⟨t2, a1, b1⟩ := kk T'.heap (locs ++ L) ls (by rw [e1, hwdX]; exact hp)
    ⟨Nat.le_trans hS.1 (by rw [e1]; exact hz), fun q h1 h2 => by rw [e1, hk q (Nat.lt_of_lt_of_le h1 hS.1) (fun z => h2 (hA q z))]; exact hS.2.1 q h1 h2, fun q hq => by
      rcases List.mem_append.mp hq with h | h
      · exact hS.2.2 q h
      · exact hA _ (hL q h)⟩ hl T' rfl X'
  exact ⟨t2, st t2 a1, b1⟩
theorem hs_preO (C : hs_C X wd own cc nL hh) {H : Heap} {locs : List Loc} (hP : va_P (hs_D X) vwCl (hs_ws (hs_q X) (hs_cy X) (hs_wd X) S) H) (hS : va_S (hs_A X) (hs_s X).heap H locs) {U : State} (hU : U.heap = H) (hW : (hs_s X).WarmedH U.vm) : hs_Pre (hs_D X) (hs_cy X) (hs_q X) (hs_tbl X) wd S H.size U := by
  have hA := hs_Ain C hS S
  obtain ⟨c1, c2, c3, c4, c5, c6, c7, c8, c9, c10, c11, c12, c13⟩ := C
  subst c7
  exact ⟨by rw [hU], by rw [hU]; exact hP, va_K.moved hW.alike c9, (c10 S).weaken (fun _ _ _ _ => trivial), by rw [hU]; exact hs_St_go c12 hW.alike hA (fun a h1 h2 => hS.2.1 a h1 h2), hs_Nw_go hW c13⟩
theorem hs_blind {D : va_G} {cy : Nat → ClassId} {q tb : Nat → Nat} {wd sz : Nat} {S : hs_M} {av : List Value} : FrameBlind (va_Pc av (hs_Pre D cy q tb wd S sz)) := by
  intro a U g mk h
  obtain ⟨h0, h1, h2, h3, h4, h5, h6⟩ := h
  exact ⟨h0, h1, h2, va_K.moved (u := U) (U := U.calling g mk a) (Vm.Alike.refl U.vm) h3, h4, hs_St_go h5 (U := U.calling g mk a) (Vm.Alike.refl U.vm) (fun _ h => h) (fun _ _ _ => rfl), fun x hx => va_Nw.same rfl (rfl : U.vm = (U.calling g mk a).vm) (h6 x hx)⟩
theorem hs_callB (C : hs_C X wd own cc nL hh) {y : MethodName} {b : ByteArray} {n : Nat} {ret : Option FieldType} {h idx k : Nat} (w1 : Jvm.Cond.methodLink own idx y ∈ hs_tb) (w4 : Jvm.Cond.initialized y.cls ∈ hs_tb) (w5 : Jvm.Cond.code y b n ret ∈ hs_tb) (hdd : (parseMethodDescriptor y.desc).map (fun d => d.parameters.length) = some k) (hmh : y.cls ≠ "java/lang/invoke/MethodHandle" ∧ y.cls ≠ "java/lang/invoke/VarHandle") (hh1 : h < hh) (hn : n ≤ 45) : CallB X.1.2.2.2.1 (hs_s X) (hs_a X) own idx y b n ret (hs_w y b n ret) (hs_rm h) 0 0 k := by
  obtain ⟨c1, c2, c3, c4, c5, c6, c7⟩ := C
  have hG : GoodIn hs_tb (hs_w y b n ret) := by
    intro w hw
    have hm : w ∈ hs_tb := by
      rcases List.mem_cons.mp hw with rfl | hw
      · exact w5
      · exact hw
    exact ⟨hm, good_of_word (List.mem_filter.mp hm).2⟩
  refine callB_of k c5 hG rfl rfl rfl (c5 _ w4) (c5 _ w1) ⟨hmh.1, hmh.2, hdd⟩ ?_
  obtain ⟨c61, c62, -⟩ := c6
  show h + 1 ≤ _ ∧ 8 + (n + 11) + 64 * h ≤ _
  omega
theorem hs_callV (C : hs_C X wd own cc nL hh) {y : MethodName} {b : ByteArray} {n : Nat} {ret : Option FieldType} {h idx kd i N : Nat} {T : u_T} {args : (Nat → Nat) → List Value} {ov : (Nat → Nat) → Option Value} {As st0 : List Value} {S' : hs_M}
    (w1 : Jvm.Cond.methodLink own idx y ∈ hs_tb) (w2 : Jvm.Cond.instanceMethod y ∈ hs_tb) (w3 : Jvm.Cond.selects y.cls y y ∈ hs_tb) (w4 : Jvm.Cond.initialized y.cls ∈ hs_tb) (w5 : Jvm.Cond.code y b n ret ∈ hs_tb) (hmh : y.cls ≠ "java/lang/invoke/MethodHandle" ∧ y.cls ≠ "java/lang/invoke/VarHandle") (hn : n ≤ 45) (hc : vwCl[kd + 2]? = some (y.cls, T, N)) (h8 : kd < 8) (hw : hs_wk kd = wd)
    (hM : hs_met wd y b n ret h args S ov S') (ha : args (hs_q X) = .ref (hs_q X i) :: As) (hst : st0 = As.reverse ++ .ref (hs_q X i) :: st) {na : Nat} (hdd : (parseMethodDescriptor y.desc).map (fun d => d.parameters.length) = some na) (hna : As.length = na) (hk : hs_K i = kd) (hh1 : h < hh) (hrest : (st.map fun v => v.category).sum ≤ 8) (hd : decode cc pc = .ok (.invokevirtual idx, 3)) (kk : hs_Z X nL S' lv ((ov (hs_q X)).toList ++ st) (pc + 3)) : hs_Z X nL S lv st0 pc := by
  intro H locs ls hP hS hl
  have hB := hs_callB C w1 w4 w5 hdd hmh hh1 hn
  have hpre := fun (U : State) (hU : U.heap = H) (hW : (hs_s X).WarmedH U.vm) => hs_preO C hP hS hU hW
  have CC := C
  obtain ⟨c1, c2, c3, c4, c5, c6, c7, c8, c9, c10, c11, c12, c13⟩ := C
  have hiw := hs_inw (by rw [hk]; exact hw) c8
  have he := hs_at (q := hs_q X) (cy := hs_cy X) (S := S) hiw
  rw [hs_e_o hk h8, ← c7] at he
  have hrec := va_recv (ci := kd + 2) c9 hP hc he
  refine hs_back CC (a := (Value.ref (hs_q X i) :: As).toArray) (va_runV (As := As) (rest := st) ⟨c1, c2, c3, c4, c5⟩ (hM X.1.2.1 (hs_D X) (hs_cy X) (hs_q X) (hs_tbl X) H.size) ⟨hB, c5 _ w2, c5 _ w3⟩ ⟨hs_blind, hrec, fun U hU hW => ⟨by rw [ha], hpre U hU hW⟩⟩ rfl hna hl.1 hst (lv_room hrest) hd ⟨c6.2.2.1, c6.2.2.2⟩) hS hl kk
theorem hs_callS (C : hs_C X wd own cc nL hh) {y : MethodName} {b : ByteArray} {n : Nat} {ret : Option FieldType} {h idx : Nat} {args : (Nat → Nat) → List Value} {ov : (Nat → Nat) → Option Value} {As st0 : List Value} {S' : hs_M}
    (w1 : Jvm.Cond.methodLink own idx y ∈ hs_tb) (w2 : Jvm.Cond.static y ∈ hs_tb) (w4 : Jvm.Cond.initialized y.cls ∈ hs_tb) (w5 : Jvm.Cond.code y b n ret ∈ hs_tb) (hmh : y.cls ≠ "java/lang/invoke/MethodHandle" ∧ y.cls ≠ "java/lang/invoke/VarHandle") (hn : n ≤ 45)
    (hM : hs_met wd y b n ret h args S ov S') (ha : args (hs_q X) = As) (hst : st0 = As.reverse ++ st) {na : Nat} (hdd : (parseMethodDescriptor y.desc).map (fun d => d.parameters.length) = some na) (hna : As.length = na) (hh1 : h < hh) (hrest : (st.map fun v => v.category).sum ≤ 8) (hd : decode cc pc = .ok (.invokestatic idx, 3)) (kk : hs_Z X nL S' lv ((ov (hs_q X)).toList ++ st) (pc + 3)) : hs_Z X nL S lv st0 pc := by
  intro H locs ls hP hS hl
  have hB := hs_callB C w1 w4 w5 hdd hmh hh1 hn
  have hpre := fun (U : State) (hU : U.heap = H) (hW : (hs_s X).WarmedH U.vm) => hs_preO C hP hS hU hW
  have CC := C
  obtain ⟨c1, c2, c3, c4, c5, c6, c7, c8, c9, c10, c11, c12, c13⟩ := C
  refine hs_back CC (a := As.toArray) (va_runS (As := As) (rest := st) ⟨c1, c2, c3, c4, c5⟩ (hM X.1.2.1 (hs_D X) (hs_cy X) (hs_q X) (hs_tbl X) H.size) ⟨hB, c5 _ w2⟩ ⟨hs_blind, fun U hU hW => ⟨by rw [ha], hpre U hU hW⟩⟩ rfl hna hl.1 hst (lv_room hrest) hd ⟨c6.2.2.1, c6.2.2.2⟩) hS hl kk
theorem hs_cmin (C : hs_C X wd own cc nL hh) {idx : Nat} {x y : Int32} (w1 : Jvm.Cond.methodLink own idx Lib.Math.min.name ∈ hs_tb) (w2 : Jvm.Cond.static Lib.Math.min.name ∈ hs_tb) (w3 : Jvm.Cond.initialized "java/lang/Math" ∈ hs_tb) (w4 : Jvm.Cond.code Lib.Math.min.name Lib.Math.min.code 2 (some .int) ∈ hs_tb) (hh1 : 0 < hh) (hrest : (st.map fun v => v.category).sum ≤ 8) (hd : decode cc pc = .ok (.invokestatic idx, 3)) (kk : hs_Z X nL S lv (.int (hs_min x y) :: st) (pc + 3)) : hs_Z X nL S lv (.int y :: .int x :: st) pc := by
  intro H locs ls hP hS hl
  obtain ⟨c1, c2, c3, c4, c5, ⟨c61, c62, c63, c64⟩, c7⟩ := C
  refine va_mmin c1 c2 (by rw [c3]; exact hl.1.symm) c4 (c5 _ w1) (c5 _ w2) (c5 _ w3) (c5 _ w4) (by omega) (by omega) c63 c64 hd (kk H locs ls hP hS hl)
theorem hs_cmax (C : hs_C X wd own cc nL hh) {idx : Nat} {x y : Int32} (w1 : Jvm.Cond.methodLink own idx Lib.Math.max.name ∈ hs_tb) (w2 : Jvm.Cond.static Lib.Math.max.name ∈ hs_tb) (w3 : Jvm.Cond.initialized "java/lang/Math" ∈ hs_tb) (w4 : Jvm.Cond.code Lib.Math.max.name Lib.Math.max.code 2 (some .int) ∈ hs_tb) (hh1 : 0 < hh) (hrest : (st.map fun v => v.category).sum ≤ 8) (hd : decode cc pc = .ok (.invokestatic idx, 3)) (kk : hs_Z X nL S lv (.int (hs_max x y) :: st) (pc + 3)) : hs_Z X nL S lv (.int y :: .int x :: st) pc := by
  intro H locs ls hP hS hl
  obtain ⟨c1, c2, c3, c4, c5, ⟨c61, c62, c63, c64⟩, c7⟩ := C
  refine va_mmax c1 c2 (by rw [c3]; exact hl.1.symm) c4 (c5 _ w1) (c5 _ w2) (c5 _ w3) (c5 _ w4) (by omega) (by omega) c63 c64 hd (kk H locs ls hP hS hl)
end HSL
/-! denotations of calls; kinds of cells that lie at a fixed distance -/
def hs_b2 {α ρ : Type} (o : Option (α × hs_M)) (G : α → hs_M → Option ρ) : Option ρ := o.bind (fun r => G r.1 r.2)
def hs_b1 {ρ : Type} (o : Option hs_M) (G : hs_M → Option ρ) : Option ρ := o.bind G
theorem hs_b2_s {α ρ : Type} {o : Option (α × hs_M)} {G : α → hs_M → Option ρ} {res : ρ} (h : hs_b2 o G = some res) : ∃ (x : α) (S1 : hs_M), o = some (x, S1) ∧ G x S1 = some res := by
  obtain ⟨⟨x, S1⟩, h1, h2⟩ := hs_bd_s h
  exact ⟨x, S1, h1, h2⟩
theorem hs_b1_s {ρ : Type} {o : Option hs_M} {G : hs_M → Option ρ} {res : ρ} (h : hs_b1 o G = some res) : ∃ S1 : hs_M, o = some S1 ∧ G S1 = some res := hs_bd_s h
def hs_fuel : Nat := 40
theorem hs_vU0 {q : Nat → Nat} {S : hs_M} {kd i k : Nat} {x : Int32} (hr : hs_rk kd k = 0) : hs_v q (hs_U S i k x) kd i k = .int x := by simp [hs_v, hr, hs_U]
theorem hs_vU1 {q : Nat → Nat} {S : hs_M} {kd i k j : Nat} (hr : hs_rk kd k = 1) (hj : j < 2 ^ 31) : hs_v q (hs_U S i k (nI j)) kd i k = .ref (q j) := by simp [hs_v, hr, hs_U, nI_clamp hj]
theorem hs_k30 {i : Nat} (h : hs_K i = 3) : hs_K (i + 9) = 8 := hs_Kdec (fun i k => k = 3 → hs_K (i + 9) = 8) (by decide +kernel) (fun i h => absurd h (by decide)) i h
theorem hs_k40 {i : Nat} (h : hs_K i = 4) : hs_K (i + 4) = 0 := hs_Kdec (fun i k => k = 4 → hs_K (i + 4) = 0) (by decide +kernel) (fun i h => absurd h (by decide)) i h
theorem hs_k50 {i : Nat} (h : hs_K i = 5) : hs_K (i + 4) = 0 := hs_Kdec (fun i k => k = 5 → hs_K (i + 4) = 0) (by decide +kernel) (fun i h => absurd h (by decide)) i h
theorem hs_k56 {i : Nat} (h : hs_K i = 5) : hs_K (i + 8) = 8 := hs_Kdec (fun i k => k = 5 → hs_K (i + 8) = 8) (by decide +kernel) (fun i h => absurd h (by decide)) i h
theorem hs_kh {i : Nat} (h : hs_K i = 1) : i < 2 ^ 31 := hs_Kdec (fun i k => k = 1 → i < 2 ^ 31) (by decide +kernel) (fun i h => absurd h (by decide)) i h
theorem hs_k12 {x : Int32} (h : vp_in x (hs_N 24)) : hs_K (25 + x.toNatClampNeg) = 5 := by
  have h4 : x.toNatClampNeg < 4 := Nat.not_le.mp fun q => h (Or.inr q)
  generalize x.toNatClampNeg = n at h4
  exact (show ∀ n, n < 4 → hs_K (25 + n) = 5 by decide +kernel) n h4
theorem hs_k11 {x : Int32} (h : vp_in x (hs_N 37)) : hs_K (38 + x.toNatClampNeg) = 4 := by
  have h4 : x.toNatClampNeg < 4 := Nat.not_le.mp fun q => h (Or.inr q)
  generalize x.toNatClampNeg = n at h4
  exact (show ∀ n, n < 4 → hs_K (38 + n) = 4 by decide +kernel) n h4
