/-! ===== the law's own small methods: a call that may throw, and its handlers ===== -/
def hs_up (X : hs_T) : hs_T := (X.1, X.2.1, X.2.2.1, (X.2.2.2.1, X.2.2.2.2.1, X.2.2.2.2.2.1, hs_nc1 X + 1, hs_nc2 X + 6))
theorem hs_Cup {X : hs_T} {wd nL hh : Nat} {own : String} {cc : ByteArray} (C : hs_C X wd own cc nL hh) (h1 : hs_nc1 X + 1 ≤ X.1.2.2.2.1.cells) (h2 : hs_nc2 X + 6 ≤ X.1.2.2.2.1.slots) : hs_C (hs_up X) wd own cc nL hh := by
  obtain ⟨c1, c2, c3, c4, c5, ⟨c61, c62, c63, c64⟩, c7⟩ := C
  exact ⟨c1, c2, c3, c4, c5, ⟨c61, c62, h1, h2⟩, c7⟩
def hs_ZX (X : hs_T) (nL : Nat) (S : hs_M) (E : String) (lv : List (Nat × Value)) (st : List Value) (pc : Nat) : Prop := ∀ (H : Heap) (locs : List Loc) (ls : Array Slot) (q : Addr) (ce : Cell), va_P (hs_D X) vwCl (hs_ws (hs_q X) (hs_cy X) (hs_wd X) S) H → va_S (hs_A X) (hs_s X).heap H locs → lv_has ls nL lv → H[q]? = some ce → ce.vm = .none → (hs_s X).vm.findClass E = some ce.cls →
  vx_W X.1.1 X.1.2.1 X.1.2.2.1 X.1.2.2.2.1 (hs_s X) (hs_m X) (hs_a X) X.2.1.2.1 X.2.1.2.2.1 X.2.1.2.2.2 H locs (hs_nc1 X) (hs_nc2 X) (hs_Q X) (F0 (hs_m X) pc ls st) q
def hs_rmw (h : Nat) : Room := { frames := h + 7, cells := 1, slots := 6, locals := 64 * h + 256 }
/-- a wrapper's contract: it returns; one cell of six slots may have been made -/
def hs_metw (y : MethodName) (b : ByteArray) (n : Nat) (hdl : List (Nat × Nat × Nat × Nat)) (h : Nat) (args : (Nat → Nat) → List Value) (S : hs_M) (r : Int32) (S' : hs_M) : Prop :=
  ∀ (l : Launch) (D : va_G) (cy : Nat → ClassId) (q tb : Nat → Nat) (sz : Nat), l.stackTraces = false → Met l y (Cond.codeWith y b n (some .int) hdl :: hs_tb) (hs_rmw h) (va_Pc (args q) (hs_PreX D cy q tb S sz)) (hs_Qc D cy q 0 (va_A (hs_ws q cy 0 S) sz) (some (.int r)) S') 1 6 (va_A (hs_ws q cy 0 S) sz)
theorem hs_mkW {y : MethodName} {b : ByteArray} {n : Nat} {hdl : List (Nat × Nat × Nat × Nat)} {hh : Nat} {args : (Nat → Nat) → List Value} {S : hs_M} {res : Int32 × hs_M} (hy : plainName y.cls = true) (hlen : ∀ q, (lg_sl (args q)).length ≤ n)
    (body : ∀ X : hs_T, hs_C X 0 y.cls b n (hh + 1) → (hs_nc1 X = 0 ∧ hs_nc2 X = 0) → X.1.2.1.stackTraces = false → X.1.2.2.2.1 = hs_rmw hh → X.2.1.2.2.2.exceptionTable.toList = tableOf hdl → hs_Sx (hs_A X) (hs_s X) (hs_s X).heap → hs_FI (hs_up X) b res → hs_Z X n S (lv_args 0 (args (hs_q X))) [] 0) : hs_metw y b n hdl hh args S res.1 res.2 := by
  intro l D cy q tb sz hst
  refine MetFree.of_bodyS (code := b) (maxLocals := n) (ret := some .int) hy ?_ ?_
  · intro args s m h hn
    obtain ⟨m9, meth, c, hn9, h1, h2, h3, h4, -, h5, h6, -⟩ := Cond.codeWith_spec (atoms_spec (ws := Cond.codeWith y b n (some .int) hdl :: hs_tb) h _ List.mem_cons_self)
    cases hn.symm.trans hn9
    exact ⟨meth, c, h1, h2, h3, h4, h5, h6⟩
  · intro p e s m args' below meth c s₁ B hml hv _
    have hh0 : s₁.heap = s.heap := by rw [B.state]; rfl
    obtain ⟨rfl, ⟨hsz, hP, hK, hD0, hSt, hNw⟩, hSx⟩ := hv
    subst hsz
    have hts := atoms_spec (ws := Cond.codeWith y b n (some .int) hdl :: hs_tb) B.pre
    have htab := vx_table (x := y) B (hts _ List.mem_cons_self)
    have hD := hD0.self (sz := s.heap.size)
    have hr := B.returns
    have hlk := B.notSynchronized
    have hx := B.exec
    have hbb := B.bytes
    have Z := body ((p, l, e, hs_rmw hh, s, m), ((args q).toArray, below, meth, c), (D, cy, q, tb), (0, va_A (hs_ws q cy 0 S) s.heap.size, MQ below (hs_Qc D cy q 0 (va_A (hs_ws q cy 0 S) s.heap.size) (some (.int res.1)) res.2) (args q).toArray s 1 6 (va_A (hs_ws q cy 0 S) s.heap.size), 0, 0))
      ⟨B.exec, B.bytes, hml, findClass_of_methodNamed B.named, fun w h => hts w (List.mem_cons_of_mem _ h), ⟨by show hh + 1 ≤ hh + 7; omega, by show 64 * (hh + 1) ≤ 64 * hh + 256; omega, Nat.zero_le _, Nat.zero_le _⟩, rfl, by decide, hK, fun S2 => hs_Dmv hD, fun a h => Or.inr h, hSt, hNw⟩ ⟨rfl, rfl⟩ hst rfl htab hSx
      (fun H locs ls pc hP hS hd => W.iret hx hbb hr (fun t ht _ => ⟨rfl, by rw [ht]; exact hP, hS.F ht⟩) hS.2.2 hd)
    have K := Z s.heap [] _ hP va_S.rf (lv_entry (args q) (hlen q))
    obtain ⟨t, a1, o, b1, b2, b3⟩ := K s₁ hh0 (Stand.of_body B)
    rw [lg_entry_eq]
    exact ⟨t, o, a1, b1, b2, b3.1, b3.2⟩
section HSH
variable {X : hs_T} {wd nL hh pc : Nat} {own : String} {cc : ByteArray} {S : hs_M} {lv : List (Nat × Value)} {st : List Value}
/-- what is thrown here is caught here -/
theorem hs_hand (C : hs_C X wd own cc nL hh) {hdl pre suf : List (Nat × Nat × Nat × Nat)} {a b hp ct : Nat} {E : String} (htab : X.2.1.2.2.2.exceptionTable.toList = tableOf hdl) (hsplit : hdl = pre ++ (a, b, hp, ct) :: suf) (hpass : ∀ z ∈ pre, z.2.2.2 ≠ 0 ∧ ∃ nm : String, Cond.classLink own z.2.2.2 nm ∈ hs_tb ∧ (E, nm) ∈ hs_nc) (hcov : covers ⟨a, b, hp, ct⟩ pc = true) (h0 : ct ≠ 0) (wl : Cond.classLink own ct E ∈ hs_tb) (hE : E ∈ hs_xn) (hSx : hs_Sx (hs_A X) (hs_s X) (hs_s X).heap) (kk : ∀ q : Nat, hs_Z X nL S lv [.ref q] hp) : hs_ZX X nL S E lv st pc := by
  intro H locs ls q ce hP hS hl hcell hv hcl
  obtain ⟨c1, c2, c3, c4, c5, c6⟩ := C
  refine vx_catch (name := E) c4 (tableOf pre) ⟨a, b, hp, ct⟩ (tableOf suf) (by rw [htab, hsplit]; simp [tableOf]) (fun z hz => ?_) hcov h0 (c5 _ wl) (va_Nw.use rfl (hSx.2.2.2.1 E hE)) hcell hv hcl (kk q H locs ls hP hS hl)
  obtain ⟨y, hy, rfl⟩ := List.mem_map.mp hz
  obtain ⟨h1, nm, h2, h3⟩ := hpass y hy
  exact Or.inr ⟨h1, nm, c5 _ h2, hSx.2.2.2.2 _ h3⟩
theorem hs_blindX {D : va_G} {cy : Nat → ClassId} {q tb : Nat → Nat} {sz : Nat} {S : hs_M} {av : List Value} : FrameBlind (va_Pc av (hs_PreX D cy q tb S sz)) := by
  intro a U g mk h
  obtain ⟨h0, h1, h2⟩ := h
  exact ⟨h0, (hs_blind a U g mk ⟨h0, h1⟩).2, hs_Sx_go (U := U.calling g mk a) h2 (State.WarmedH.refl U) (fun _ h => h) (fun _ _ _ => rfl)⟩
theorem hs_callVX (C : hs_C X 0 own cc nL hh) {y : MethodName} {b : ByteArray} {n : Nat} {ret : Option FieldType} {h idx kd i N : Nat} {T : u_T} {args : (Nat → Nat) → List Value} {As st0 : List Value} {res : (Nat × Int32) × hs_M}
    (w1 : Jvm.Cond.methodLink own idx y ∈ hs_tb) (w2 : Jvm.Cond.instanceMethod y ∈ hs_tb) (w3 : Jvm.Cond.selects y.cls y y ∈ hs_tb) (w4 : Jvm.Cond.initialized y.cls ∈ hs_tb) (w5 : Jvm.Cond.code y b n ret ∈ hs_tb) (hmh : y.cls ≠ "java/lang/invoke/MethodHandle" ∧ y.cls ≠ "java/lang/invoke/VarHandle") (hn : n ≤ 45) (hc : vwCl[kd + 2]? = some (y.cls, T, N)) (h8 : kd < 8) (hw : hs_wk kd = 0)
    (hM : hs_metx y b n ret h args S res) (hst : X.1.2.1.stackTraces = false) (hSx : hs_Sx (hs_A X) (hs_s X) (hs_s X).heap) (hR : X.1.2.2.2.1 = hs_rmw h) (h0c : hs_nc1 X = 0 ∧ hs_nc2 X = 0) (ha : args (hs_q X) = .ref (hs_q X i) :: As) (hst0 : st0 = As.reverse ++ .ref (hs_q X i) :: st) {na : Nat} (hdd : (parseMethodDescriptor y.desc).map (fun d => d.parameters.length) = some na) (hna : As.length = na) (hk : hs_K i = kd) (hrest : (st.map fun v => v.category).sum ≤ 8) (hd : decode cc pc = .ok (.invokevirtual idx, 3))
    (kk : hs_C (hs_up X) 0 own cc nL hh → res.1.1 = 0 → hs_Z (hs_up X) nL res.2 lv ((hs_ovx ret res.1.2).toList ++ st) (pc + 3)) (kx : hs_C (hs_up X) 0 own cc nL hh → res.1.1 ≠ 0 → hs_ZX (hs_up X) nL res.2 (hs_en res.1.1) lv st pc) : hs_Z X nL S lv st0 pc := by
  intro H locs ls hP hS hl
  have Cu : hs_C (hs_up X) 0 own cc nL hh := hs_Cup C (by rw [hR, h0c.1]; exact Nat.le_refl _) (by rw [hR, h0c.2]; exact Nat.le_refl _)
  have hA := hs_Ain C hS S
  have hpre := fun (U : State) (hU : U.heap = H) (hW : (hs_s X).WarmedH U.vm) => hs_preO C hP hS hU hW
  have hpx := fun (U : State) (hU : U.heap = H) (hW : (hs_s X).WarmedH U.vm) => (hs_Sx_go hSx hW hA (H1 := U.heap) (fun a h1 h2 => by rw [hU]; exact hS.2.1 a h1 h2) : hs_Sx (va_A (hs_ws (hs_q X) (hs_cy X) 0 S) H.size) U U.heap)
  obtain ⟨c1, c2, c3, c4, c5, c6, c7, c8, c9, c10, c11, c12⟩ := C
  have hG : GoodIn hs_tb (hs_w y b n ret) := by
    intro w hw
    have hm : w ∈ hs_tb := by
      rcases List.mem_cons.mp hw with rfl | hw
      · exact w5
      · exact hw
    exact ⟨hm, good_of_word (List.mem_filter.mp hm).2⟩
  have hB : CallB X.1.2.2.2.1 (hs_s X) (hs_a X) own idx y b n ret (hs_w y b n ret) (hs_rmx h) 1 6 na := by
    refine callB_of na c5 hG rfl rfl rfl (c5 _ w4) (c5 _ w1) ⟨hmh.1, hmh.2, hdd⟩ ?_
    rw [hR]
    show h + 6 + 1 ≤ h + 7 ∧ 8 + (n + 11) + (64 * h + 128) ≤ 64 * h + 256
    omega
  have hiw := hs_inw (by rw [hk]; exact hw) (Nat.zero_le 1)
  have he := hs_at (q := hs_q X) (cy := hs_cy X) (S := S) hiw
  rw [hs_e_o hk h8, ← c7] at he
  have hrec := va_recv (ci := kd + 2) c9 hP hc he
  have hrun := vx_runV (As := As) (rest := st) (g := F0 (hs_m X) pc ls st0) (p := X.1.1) (e := X.1.2.2.1) (below := X.2.1.2.1) (meth := X.2.1.2.2.1) (locs := locs) (cells := hs_nc1 X) (slots := hs_nc2 X) ⟨c1, c2, c3, c4, c5⟩ (hM X.1.2.1 (hs_D X) (hs_cy X) (hs_q X) (hs_tbl X) H.size hst) ⟨hB, c5 _ w2, c5 _ w3⟩ ⟨hs_blindX, hrec, fun U hU hW => ⟨by rw [ha], hpre U hU hW, hpx U hU hW⟩⟩ rfl hna hl.1 hst0 (lv_room hrest) hd ⟨by rw [hR, h0c.1]; exact Nat.le_refl _, by rw [hR, h0c.2]; exact Nat.le_refl _⟩
  have hkeep : ∀ (t : State) (T' : State) (L : List Loc), T'.heap = t.heap → H.size ≤ t.heap.size → (∀ q, q < H.size → ¬ va_A (hs_ws (hs_q X) (hs_cy X) 0 S) H.size q → t.heap[q]? = H[q]?) → (∀ q ∈ L, va_A (hs_ws (hs_q X) (hs_cy X) 0 S) H.size q.base) → va_S (hs_A X) (hs_s X).heap T'.heap (locs ++ L) := by
    intro t T' L e1 hz hk2 hL
    refine ⟨Nat.le_trans hS.1 (by rw [e1]; exact hz), fun q h1 h2 => ?_, fun q hq => ?_⟩
    · rw [e1, hk2 q (Nat.lt_of_lt_of_le h1 hS.1) (fun z => h2 (hA q z))]
      exact hS.2.1 q h1 h2
    · rcases List.mem_append.mp hq with h | h
      · exact hS.2.2 q h
      · exact hA _ (hL q h)
  intro T hT X0
  rcases hrun T hT X0 with ⟨v, st₀, t, T', L, h0, X', hL, e1, e2, ⟨hr0, hv, hp, hz, hk2⟩, stp⟩ | ⟨q, st₀, t, T', L, E, ce, h0, X', hL, e1, e2, ⟨hr0, rfl, hp, hz, hk2⟩, hce, hcv, hcl, stp⟩
  · cases hv
    rw [h0] at hz hk2
    obtain ⟨t2, a1, b1⟩ := kk Cu hr0 T'.heap (locs ++ L) ls (by rw [e1]; show va_P _ _ (hs_ws _ _ (hs_wd X) _) _; rw [c7]; exact hp) (hkeep t T' L e1 hz hk2 hL) hl T' rfl X'
    exact ⟨t2, stp t2 a1, b1⟩
  · rw [h0] at hz hk2
    obtain ⟨t2, a1, b1⟩ := kx Cu hr0 T'.heap (locs ++ L) ls q ce (by rw [e1]; show va_P _ _ (hs_ws _ _ (hs_wd X) _) _; rw [c7]; exact hp) (hkeep t T' L e1 hz hk2 hL) hl (by rw [e1]; exact hce) hcv hcl T' rfl X'
    exact ⟨t2, stp.trans a1, b1⟩
/-- the answer into the law's own long -/
theorem hs_out (C : hs_C X 0 own cc nL hh) {x : Int32} (d1 : decode cc pc = .ok (.i2l, 1)) (d2 : decode cc (pc + 1) = .ok (.lastore, 1)) (kk : hs_Z X nL (hs_U S 47 0 x) lv st (pc + 2)) : hs_Z X nL S lv (.int x :: .int 0 :: .ref (hs_q X 47) :: st) pc := by
  intro H locs ls hP hS hl
  obtain ⟨c1, c2, c3, c4, c5, c6, c7, c8, c9, c10, c11, c12, c13⟩ := C
  have hiw : hs_bs 0 ≤ 47 ∧ 47 < hs_bs 0 + hs_nn 0 := by decide
  have he := hs_at (q := hs_q X) (cy := hs_cy X) (S := S) hiw
  have he' : hs_e (hs_q X) (hs_cy X) (hs_U S 47 0 x) 47 = .inl (hs_cy X 13, 1, .inr (.inl (vp_updL (fun j => (S 47 j).toInt64) (0 : Int32).toNatClampNeg x.toInt64))) := by
    rw [hs_e_a (kd := 13) (by decide +kernel) (by decide)]
    have ha : hs_ar (hs_q X) (hs_U S 47 0 x) 13 47 = .inr (.inl (fun j => (hs_U S 47 0 x 47 j).toInt64)) := rfl
    have e1 : (fun j => (hs_U S 47 0 x 47 j).toInt64) = vp_updL (fun j => (S 47 j).toInt64) (0 : Int32).toNatClampNeg x.toInt64 := by
      have e0 : (0 : Int32).toNatClampNeg = 0 := by decide
      rw [e0]
      funext j
      by_cases hj : j = 0
      · subst hj
        simp [hs_U, vp_updL]
      · simp [hs_U, vp_updL, hj]
    rw [ha, e1]
    rfl
  rw [hs_e_a (kd := 13) (by decide +kernel) (by decide)] at he
  have hP0 : va_P (hs_D X) vwCl (hs_ws (hs_q X) (hs_cy X) 0 S) H := by rw [← c7]; exact hP
  refine lv_i2l c1 c2 d1 rfl ?_
  refine va_last (f := fun j => (S 47 j).toInt64) c1 c2 c9 hP0 (c10 S) hS _ 4 he rfl (n := 1) (show ¬ ((0 : Int32) < 0 ∨ 1 ≤ (0 : Int32).toNatClampNeg) by decide) d2 (fun H1 locs1 hP1 _ hS1 => ?_)
  rw [hs_setw (S' := hs_U S 47 0 x) hiw (fun j hj => hs_U_ne S _ _ hj) he'] at hP1
  exact kk H1 locs1 ls (by rw [c7]; exact hP1) hS1 hl
end HSH
