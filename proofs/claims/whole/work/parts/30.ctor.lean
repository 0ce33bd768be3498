/-! ===== constructors: worlds as lists, in any order ===== -/
def hs_PD (D : va_G) (A : Nat → Prop) (ws : va_W) (H : Heap) : Prop := va_P D vwCl ws H ∧ va_D A ws
theorem hs_P_mem {D : va_G} {ws : va_W} {H : Heap} : va_P D vwCl ws H ↔ ∀ x ∈ ws, va_at D vwCl x H := by
  constructor
  · intro h x hx
    obtain ⟨k, hk⟩ := List.getElem?_of_mem hx
    exact h k x hk
  · intro h k x hk
    exact h x (List.mem_of_getElem? hk)
theorem hs_D_mem {A : Nat → Prop} {ws : va_W} : va_D A ws ↔ (ws.map Prod.fst).Nodup ∧ ∀ x ∈ ws, A x.1 := by
  constructor
  · intro h
    refine ⟨?_, fun x hx => ?_⟩
    · show List.Pairwise _ _
      rw [List.pairwise_iff_getElem]
      intro i j hi hj hij he
      rw [List.length_map] at hi hj
      simp only [List.getElem_map] at he
      have := h.1 i j ws[i] ws[j] (List.getElem?_eq_getElem hi) (List.getElem?_eq_getElem hj) he
      omega
    · obtain ⟨k, hk⟩ := List.getElem?_of_mem hx
      exact h.2 k x hk
  · intro h
    refine ⟨fun i j p q hi hj hpq => ?_, fun k q hk => h.2 q (List.mem_of_getElem? hk)⟩
    have hn := List.pairwise_iff_getElem.mp (show List.Pairwise _ _ from h.1)
    obtain ⟨li, ei⟩ := List.getElem?_eq_some_iff.mp hi
    obtain ⟨lj, ej⟩ := List.getElem?_eq_some_iff.mp hj
    rcases Nat.lt_trichotomy i j with c | c | c
    · have z := hn i j (by rw [List.length_map]; exact li) (by rw [List.length_map]; exact lj) c
      simp only [List.getElem_map, ei, ej] at z
      exact absurd hpq z
    · exact c
    · have z := hn j i (by rw [List.length_map]; exact lj) (by rw [List.length_map]; exact li) c
      simp only [List.getElem_map, ei, ej] at z
      exact absurd hpq.symm z
theorem hs_PD.perm {D : va_G} {A : Nat → Prop} {w1 w2 : va_W} {H : Heap} (h : hs_PD D A w1 H) (hp : w1.Perm w2) : hs_PD D A w2 H := by
  refine ⟨hs_P_mem.mpr fun x hx => hs_P_mem.mp h.1 x (hp.mem_iff.mpr hx), hs_D_mem.mpr ⟨?_, fun x hx => (hs_D_mem.mp h.2).2 x (hp.mem_iff.mpr hx)⟩⟩
  exact (hp.map Prod.fst).nodup_iff.mp (hs_D_mem.mp h.2).1
theorem hs_PD.rot {D : va_G} {A : Nat → Prop} {w : va_W} {x : Nat × va_E} {H : Heap} (h : hs_PD D A (w ++ [x]) H) : hs_PD D A (x :: w) H := h.perm (List.perm_append_comm)
/-- behind a call that was given the first cells: what came back, beside the rest -/
theorem hs_PD.join {D : va_G} {A : Nat → Prop} {w0 w1 r : va_W} {H H1 : Heap} (h : hs_PD D A (w0 ++ r) H) (hk : ∀ q : Nat, q < H.size → ¬ va_A w0 H.size q → H1[q]? = H[q]?) (hF : ∀ q, va_A w0 H.size q → A q) (h1 : hs_PD D (va_A w0 H.size) w1 H1) : hs_PD D A (w1 ++ r) H1 := by
  have hm := hs_D_mem.mp h.2
  rw [List.map_append] at hm
  have hnd := List.nodup_append.mp hm.1
  have apart : ∀ x ∈ r, x.1 < H.size ∧ ¬ va_A w0 H.size x.1 := by
    intro x hx
    have hlt := (hs_P_mem.mp h.1 x (List.mem_append_right _ hx)).lt
    refine ⟨hlt, fun hA => ?_⟩
    rcases hA with ⟨k, e, hk2⟩ | hA
    · exact hnd.2.2 _ (List.mem_map.mpr ⟨_, List.mem_of_getElem? hk2, rfl⟩) _ (List.mem_map.mpr ⟨x, hx, rfl⟩) rfl
    · omega
  have hm1 := hs_D_mem.mp h1.2
  refine ⟨hs_P_mem.mpr fun x hx => ?_, hs_D_mem.mpr ⟨?_, fun x hx => ?_⟩⟩
  · rcases List.mem_append.mp hx with hx | hx
    · exact hs_P_mem.mp h1.1 x hx
    · exact (hs_P_mem.mp h.1 x (List.mem_append_right _ hx)).kept (hk x.1 (apart x hx).1 (apart x hx).2)
  · rw [List.map_append]
    refine List.nodup_append.mpr ⟨hm1.1, hnd.2.1, fun a ha b hb hab => ?_⟩
    obtain ⟨x, hx, rfl⟩ := List.mem_map.mp ha
    obtain ⟨y, hy, rfl⟩ := List.mem_map.mp hb
    exact (apart y hy).2 (hab ▸ hm1.2 x hx)
  · rcases List.mem_append.mp hx with hx | hx
    · exact hF _ (hm1.2 x hx)
    · exact hm.2 x (List.mem_append_right _ hx)
/-! what new cells hold -/
abbrev hs_eC : va_E := .inr (2, [.int 0, .int 0, .int 0, .int 0, .int 0])
abbrev hs_eH : va_E := .inr (3, [.int 0, .int 0, .int 0, .int 0, .int 0, .int 0])
abbrev hs_eL (r : Value) : va_E := .inr (4, [r, .int 0])
abbrev hs_eP (b : Value) : va_E := .inr (5, [b, .int 0, .int 0, .int 0, .int 0])
abbrev hs_eR (c : Value) : va_E := .inr (6, [c, .int 0, .int 0, .int 0, .int 0])
abbrev hs_eS (c n : Value) : va_E := .inr (7, [c, .int 0, .int 0, .int 0, .int 0, .int 0, n, .int 0])
abbrev hs_eHS (a b c d e f g : Value) : va_E := .inr (8, [a, b, c, d, e, f, g])
abbrev hs_eI (cA : ClassId) (n : Nat) : va_E := .inl (cA, n, .inl (fun _ => 0))
abbrev hs_eQ (cA : ClassId) (n : Nat) (f : Nat → Option Nat) : va_E := .inl (cA, n, .inr (.inr (.inr (.inr f))))
def hs_ml : List (String × Nat × String) := [(RX6, 9, RX1), (RX2, 17, RX3), (RX6, 45, RX5), (RX5, 11, RX0), (RX6, 46, RX4), (RX4, 11, RX0)]
/-- what is known of classes where constructors run -/
def hs_Kc (D : va_G) (cy : Nat → ClassId) (U : State) : Prop := va_K D vwCl (hs_tys cy) U ∧ va_AO RX3 U ∧ va_AO RX4 U ∧ va_AO RX5 U ∧ ∀ x ∈ hs_ml, va_Nw (.methodLinkNest x.1 x.2.1 ⟨x.2.2, "<init>", "()V"⟩ "HeaderSqueeze") U
theorem hs_Kc_go {D : va_G} {cy : Nat → ClassId} {s U : State} (hW : s.WarmedH U.vm) (h : hs_Kc D cy s) : hs_Kc D cy U := ⟨va_K.moved hW.alike h.1, va_AO.moved hW.alike h.2.1, va_AO.moved hW.alike h.2.2.1, va_AO.moved hW.alike h.2.2.2.1, fun x hx => va_Nw.warmM hW (h.2.2.2.2 x hx)⟩
def hs_rmc (h mc ms : Nat) : Room := { frames := h, cells := mc, slots := ms, locals := 64 * h }
/-- a constructor's contract: it was given the cells w0, it comes back with cells that post describes -/
def hs_ctor (y : MethodName) (b : ByteArray) (n h mc ms : Nat) (w0 : (Nat → ClassId) → Nat → va_W) (post : (Nat → ClassId) → Nat → va_W → Prop) : Prop :=
  ∀ (l : Launch) (D : va_G) (cy : Nat → ClassId) (h0 sz : Nat), Met l y (hs_w y b n none) (hs_rmc h mc ms) (va_Pc [.ref h0] (fun U => U.heap.size = sz ∧ hs_PD D (fun _ => True) (w0 cy h0) U.heap ∧ hs_Kc D cy U)) (fun _ st oc t => oc = .returned none ∧ (∃ w1, post cy h0 w1 ∧ hs_PD D (va_A (w0 cy h0) sz) w1 t.heap) ∧ va_F (va_A (w0 cy h0) sz) st t) mc ms (va_A (w0 cy h0) sz)
section HCT
variable {p : Program} {l : Launch} {e : Env} {R : Room} {s : State} {m : MethodId} {args : Array Value} {below : List Frame} {meth : Method} {c : Code} {H : Heap} {locs : List Loc} {cells slots : Nat} {Q : State → Prop}
variable {D : va_G} {cy : Nat → ClassId} {A : Nat → Prop} {cc : ByteArray} {nL pc : Nat} {own : String} {ls : Array Slot} {st : List Value} {ws : va_W}
/-- the facts of a walk over lists -/
def hs_B (p : Program) (s : State) (m : MethodId) (args : Array Value) (c : Code) (own : String) (cc : ByteArray) (nL : Nat) (D : va_G) (cy : Nat → ClassId) (A : Nat → Prop) : Prop :=
  p.tables.exec = Jvm.exec ∧ c.code = cc ∧ c.maxLocals = nL ∧ s.vm.findClass own = some m.cls ∧ (∀ w ∈ hs_tb, w.before args s = true) ∧ hs_Kc D cy s ∧ ∀ a : Nat, s.heap.size ≤ a → A a
theorem hs_nonew (C : hs_B p s m args c own cc nL D cy A) {Cn : String} {T : u_T} {N ci idx : Nat} {fs : List Value} (hc : vwCl[ci]? = some (Cn, T, N)) (hin : ∀ w ∈ u_ws Cn T N, w ∈ hs_tb) (ty : Nat → FieldType) (hty : ∀ k, k < N → parseFieldDescriptor (T k).2.2.1 = some (ty k)) (hfs : ∀ j, j < N → defaultValue (ty j) = vp_V fs j) (w1 : Cond.classLink own idx Cn ∈ hs_tb) (w2 : Cond.instantiable Cn N ∈ hs_tb) (w3 : Cond.initialized Cn ∈ hs_tb) (hPD : hs_PD D A ws H) (hS : va_S A s.heap H locs) (hcells : cells + 1 ≤ R.cells) (hslots : slots + N ≤ R.slots) (hd : decode cc pc = .ok (.new idx, 3))
    (kk : ∀ (q : Nat) (H1 : Heap), hs_PD D A ((q, .inr (ci, fs)) :: ws) H1 → va_S A s.heap H1 locs → W p l e R s m args below meth c H1 locs (cells + 1) (slots + N) Q (F0 m (pc + 3) ls (.ref q :: st))) : W p l e R s m args below meth c H locs cells slots Q (F0 m pc ls st) := by
  obtain ⟨c1, c2, c3, c4, c5, c6, c7⟩ := C
  exact va_new c1 c2 c5 hin ty hty c4 (c5 _ w1) (c5 _ w2) (c5 _ w3) c6.1 hPD.1 hPD.2 hS c7 hc hfs hcells hslots hd (fun q H1 hP hD hS1 => kk q H1 (hs_PD.rot ⟨hP, hD⟩) hS1)
/-- new, dup, invokespecial: the call of the constructor of the object that was made last -/
theorem hs_init (C : hs_B p s m args c own cc nL D cy A) {y : MethodName} {b : ByteArray} {n h mc ms idx q : Nat} {w0 : (Nat → ClassId) → Nat → va_W} {post : (Nat → ClassId) → Nat → va_W → Prop} {r : va_W} (hM : hs_ctor y b n h mc ms w0 post) (w2 : Cond.instanceMethod y ∈ hs_tb) (w4 : Cond.initialized y.cls ∈ hs_tb) (w5 : Cond.code y b n none ∈ hs_tb) (hy1 : y.name = "<init>") (hmh : y.cls ≠ "java/lang/invoke/MethodHandle" ∧ y.cls ≠ "java/lang/invoke/VarHandle") (hdd : (parseMethodDescriptor y.desc).map (fun d => d.parameters.length) = some 0) (hn : n ≤ 45)
    (hlink : Cond.methodLink own idx y ∈ hs_tb ∨ ((own, idx, y.cls) ∈ hs_ml ∧ y = ⟨y.cls, "<init>", "()V"⟩)) (hR : h + 1 ≤ R.frames ∧ 64 * (h + 1) ≤ R.locals) (hPD : hs_PD D A (w0 cy q ++ r) H) (hS : va_S A s.heap H locs) (hsz : ls.size = nL) (hrest : (st.map fun v => v.category).sum ≤ 8) (hf : cells + mc ≤ R.cells ∧ slots + ms ≤ R.slots) (hd : decode cc pc = .ok (.invokespecial idx, 3))
    (kk : ∀ (w1 : va_W) (H1 : Heap) (locs1 : List Loc), post cy q w1 → hs_PD D A (w1 ++ r) H1 → va_S A s.heap H1 locs1 → W p l e R s m args below meth c H1 locs1 (cells + mc) (slots + ms) Q (F0 m (pc + 3) ls st)) : W p l e R s m args below meth c H locs cells slots Q (F0 m pc ls (.ref q :: st)) := by
  obtain ⟨c1, c2, c3, c4, c5, c6, c7⟩ := C
  have hG : GoodIn hs_tb (hs_w y b n none) := by
    intro w hw
    have hm : w ∈ hs_tb := by
      rcases List.mem_cons.mp hw with rfl | hw
      · exact w5
      · exact hw
    exact ⟨hm, good_of_word (List.mem_filter.mp hm).2⟩
  have hF : ∀ a, va_A (w0 cy q) H.size a → A a := by
    intro a ha
    rcases ha with ⟨k, x, hk⟩ | ha
    · exact (hs_D_mem.mp hPD.2).2 _ (List.mem_append_left _ (List.mem_of_getElem? hk))
    · exact c7 a (Nat.le_trans hS.1 ha)
  have hpre : PreS s H (va_Pc [.ref q] (fun U => U.heap.size = H.size ∧ hs_PD D (fun _ => True) (w0 cy q) U.heap ∧ hs_Kc D cy U)) (.ref q :: []) := by
    refine ⟨fun a U g mk hh => ?_, fun U hU hW => ⟨rfl, by rw [hU], by
      rw [hU]
      exact ⟨hs_P_mem.mpr fun x hx => hs_P_mem.mp hPD.1 x (List.mem_append_left _ hx), hs_D_mem.mpr ⟨(List.nodup_append.mp (by have := (hs_D_mem.mp hPD.2).1; rw [List.map_append] at this; exact this)).1, fun _ _ => trivial⟩⟩, hs_Kc_go hW c6⟩⟩
    obtain ⟨h1, h2, h3, h4⟩ := hh
    exact ⟨h1, h2, h3, hs_Kc_go (U := U.calling g mk a) (State.WarmedH.refl U) h4⟩
  have hrun : va_Run p l e R s m args below meth c H locs cells slots mc ms (F0 m pc ls (.ref q :: st)) st (fun st₀ oc t => oc = .returned none ∧ (∃ w1, post cy q w1 ∧ hs_PD D (va_A (w0 cy q) H.size) w1 t.heap) ∧ va_F (va_A (w0 cy q) H.size) st₀ t) (va_A (w0 cy q) H.size) := by
    rcases hlink with w1 | ⟨w1, hy⟩
    · have hB : CallB R s args own idx y b n none (hs_w y b n none) (hs_rmc h mc ms) mc ms 0 := callB_of 0 c5 hG rfl rfl rfl (c5 _ w4) (c5 _ w1) ⟨hmh.1, hmh.2, hdd⟩ (by show h + 1 ≤ _ ∧ 8 + (n + 11) + 64 * h ≤ _; omega)
      exact va_runI (As := []) (rest := st) ⟨c1, c2, c3, c4, c5⟩ (hM l D cy q H.size) ⟨hB, hy1, c5 _ w2⟩ hpre rfl rfl hsz rfl (lv_room hrest) hd hf
    · have hB := va_cnB (R := R) (s := s) (args := args) (own := own) (host := "HeaderSqueeze") (index := idx) (y := y) (bytes := b) (maxL := n) (mc := mc) (ms := ms) (ret := none) (rm := hs_rmc h mc ms) 0 c5 hG rfl rfl rfl (by rw [hy]; exact c6.2.2.2.2 _ w1) (c5 _ w4) ⟨hmh.1, hmh.2, hdd⟩ (by show h + 1 ≤ _ ∧ 8 + (n + 11) + 64 * h ≤ _; omega)
      exact va_runIN (As := []) (rest := st) ⟨c1, c2, c3, c4, c5⟩ (hM l D cy q H.size) ⟨hB, hy1, c5 _ w2⟩ hpre rfl rfl hsz rfl (lv_room hrest) hd hf
  intro T hT X0
  obtain ⟨v, st₀, t, T', L, h0, X', hL, e1, e2, ⟨hv, ⟨w1, hp1, hp2⟩, hz, hk⟩, stp⟩ := hrun T hT X0
  cases hv
  rw [h0] at hz hk
  obtain ⟨t2, a1, b1⟩ := kk w1 T'.heap (locs ++ L) hp1 (by rw [e1]; exact hPD.join hk hF hp2)
    ⟨Nat.le_trans hS.1 (by rw [e1]; exact hz), fun a h1 h2 => by rw [e1, hk a (Nat.lt_of_lt_of_le h1 hS.1) (fun z => h2 (hF a z))]; exact hS.2.1 a h1 h2, fun a ha => by
      rcases List.mem_append.mp ha with h | h
      · exact hS.2.2 a h
      · exact hF _ (hL a h)⟩ T' rfl X'
  exact ⟨t2, stp t2 a1, b1⟩
theorem hs_mkC {y : MethodName} {b : ByteArray} {n h mc ms : Nat} {w0 : (Nat → ClassId) → Nat → va_W} {post : (Nat → ClassId) → Nat → va_W → Prop} (hy : plainName y.cls = true) (hn : 1 ≤ n)
    (body : ∀ (p : Program) (l : Launch) (e : Env) (s : State) (m : MethodId) (args : Array Value) (below : List Frame) (meth : Method) (c : Code) (D : va_G) (cy : Nat → ClassId) (A : Nat → Prop) (h0 : Nat) (Q : State → Prop) (ls : Array Slot), hs_B p s m args c y.cls b n D cy A → meth.name = y.name →
      (∀ (w1 : va_W) (H : Heap) (locs : List Loc) (ls : Array Slot) (pc : Nat), post cy h0 w1 → hs_PD D A w1 H → va_S A s.heap H locs → decode b pc = .ok (.return_, 1) → W p l e (hs_rmc h mc ms) s m args below meth c H locs mc ms Q (F0 m pc ls [])) →
      hs_PD D A (w0 cy h0) s.heap → lv_has ls n [(0, .ref h0)] → W p l e (hs_rmc h mc ms) s m args below meth c s.heap [] 0 0 Q (F0 m 0 ls [])) : hs_ctor y b n h mc ms w0 post := by
  intro l D cy h0 sz
  refine Met.ofW (cc := b) (maxL := n) (ret := none) hy rfl ?_
  intro p e s m args' below meth c s₁ B hml hv
  obtain ⟨rfl, hsz, hPD, hKc⟩ := hv
  subst hsz
  have hts := atoms_spec (ws := hs_w y b n none) B.pre
  have hlk := B.notSynchronized
  rw [lg_entry_eq]
  refine body p l e s m _ below meth c D cy (va_A (w0 cy h0) s.heap.size) h0 _ _ ⟨B.exec, B.bytes, hml, findClass_of_methodNamed B.named, fun w h => hts w (List.mem_cons_of_mem _ h), hKc, fun a h => Or.inr h⟩ (name_of_methodNamed B.named B.method).1 (fun w1 H locs ls pc hp hPD1 hS hd => ?_) ⟨hPD.1, hPD.2.self⟩ (lv_entry [.ref h0] (by exact hn))
  exact W.vret B.exec B.bytes B.returns (fun t ht _ => ⟨rfl, ⟨w1, hp, by rw [ht]; exact hPD1⟩, hS.F ht⟩) hS.2.2 hd
/-- Object's own constructor -/
theorem hs_objI (C : hs_B p s m args c own cc nL D cy A) {idx x : Nat} (w1 : Cond.methodLink own idx objectInit ∈ hs_tb) (w2 : Cond.instanceMethod objectInit ∈ hs_tb) (w3 : Cond.code objectInit ⟨#[0xb1]⟩ 1 none ∈ hs_tb) (hsz : ls.size = nL) (hR : 1 ≤ R.frames ∧ 64 ≤ R.locals) (hd : decode cc pc = .ok (.invokespecial idx, 3)) (kk : W p l e R s m args below meth c H locs cells slots Q (F0 m (pc + 3) ls [])) : W p l e R s m args below meth c H locs cells slots Q (F0 m pc ls [.ref x]) := by
  obtain ⟨c1, c2, c3, c4, c5, c6, c7⟩ := C
  exact W.objInit c1 c2 c4 (c5 _ w1) (c5 _ w2) (c5 _ w3) rfl (by rw [c3]; exact hsz) rfl hd hR.1 (by show 2 * 0 + 0 + 12 ≤ _; omega) kk
/-- a row of numbers -/
theorem hs_newI (C : hs_B p s m args c own cc nL D cy A) {atype : ArrayType} {ty : FieldType} {t0 : Nat} {cA : ClassId} (hty : newarray.typeOf atype = ty) (hcy : (hs_tys cy)[t0]? = some (cA, ty)) (w : Cond.arrayClass ty ∈ hs_tb) {n : Int32} {N : Nat} {a0 : vp_A} (ha : ∀ cA : ClassId, vp_cell cA a0 = arrV cA N (fun _ => defaultValue ty)) (hRA : ∀ (U : State) (cB : ClassId), va_RA U cB ty → U.vm.findClass ("[" ++ ty.toString) = some cB) (hn : ¬ n < 0) (hN : n.toNatClampNeg = N) (hbytes : N * componentBytes ty ≤ 536870912) (hPD : hs_PD D A ws H) (hS : va_S A s.heap H locs) (hcells : cells + 1 ≤ R.cells) (hslots : slots + N ≤ R.slots) (hd : decode cc pc = .ok (.newarray atype, 2))
    (kk : ∀ (q : Nat) (H1 : Heap), hs_PD D A ((q, .inl (cA, a0)) :: ws) H1 → va_S A s.heap H1 locs → W p l e R s m args below meth c H1 locs (cells + 1) (slots + N) Q (F0 m (pc + 2) ls (.ref q :: st))) : W p l e R s m args below meth c H locs cells slots Q (F0 m pc ls (.int n :: st)) := by
  obtain ⟨c1, c2, c3, c4, c5, c6, c7⟩ := C
  refine va_newa c1 c2 (by rw [hty]; exact c5 _ w) hty c6.1 hPD.1 hPD.2 hS c7 ha hn hN hbytes hcells hslots hd (fun q cB H1 hK hP hD hS1 => ?_)
  have e1 := hRA s cB (hK.2 (hs_tys cy).length (cB, ty) (by simp)).2
  have e2 := hRA s cA (c6.1.2 t0 (cA, ty) hcy).2
  have e3 : cB = cA := Option.some.inj (e1.symm.trans e2)
  subst e3
  exact kk q H1 (hs_PD.rot ⟨hP, hD⟩) hS1
/-- a row of pointers -/
theorem hs_newQ (C : hs_B p s m args c own cc nL D cy A) {Cn : String} {t0 idx : Nat} {cA : ClassId} (hcy : (hs_tys cy)[t0]? = some (cA, .object Cn)) (hAO : va_AO Cn s) (w : Cond.classLink own idx Cn ∈ hs_tb) {n : Int32} {N : Nat} (hn : ¬ n < 0) (hN : n.toNatClampNeg = N) (hbytes : N * 4 ≤ 536870912) (hPD : hs_PD D A ws H) (hS : va_S A s.heap H locs) (hcells : cells + 1 ≤ R.cells) (hslots : slots + N ≤ R.slots) (hd : decode cc pc = .ok (.anewarray idx, 3))
    (kk : ∀ (q : Nat) (H1 : Heap), hs_PD D A ((q, hs_eQ cA N (fun _ => none)) :: ws) H1 → va_S A s.heap H1 locs → W p l e R s m args below meth c H1 locs (cells + 1) (slots + N) Q (F0 m (pc + 3) ls (.ref q :: st))) : W p l e R s m args below meth c H locs cells slots Q (F0 m pc ls (.int n :: st)) := by
  obtain ⟨c1, c2, c3, c4, c5, c6, c7⟩ := C
  refine va_newq c1 c2 c4 (c5 _ w) hAO c6.1 hPD.1 hPD.2 hS c7 hn hN hbytes hcells hslots hd (fun q cB H1 hK hP hD hS1 => ?_)
  obtain ⟨_, _, -, -, -, e1⟩ := (hK.2 (hs_tys cy).length (cB, .object Cn) (by simp)).2
  obtain ⟨_, _, -, -, -, e2⟩ := (c6.1.2 t0 (cA, .object Cn) hcy).2
  have e3 : cB = cA := Option.some.inj (e1.symm.trans e2)
  subst e3
  exact kk q H1 (hs_PD.rot ⟨hP, hD⟩) hS1
/-- a final field in the constructor; the object stands at place q0 -/
theorem hs_putF (C : hs_B p s m args c own cc nL D cy A) (hini : meth.name = "<init>") {Cn : String} {T : u_T} {N ci idx k q0 a : Nat} {fs : List Value} {v : Value} (hc : vwCl[ci]? = some (Cn, T, N)) (hin : ∀ w ∈ u_ws Cn T N, w ∈ hs_tb) (ty0 : Nat → FieldType) (hty : ∀ k, k < N → parseFieldDescriptor (T k).2.2.1 = some (ty0 k)) (hnm : ∀ a, a < N → ∀ b, b < N → a ≠ b → (T a).2.1 ≠ (T b).2.1) (hk : k < N) (hl : fs.length = N) (hdecl : (T k).1 = own) (hn : narrow (ty0 k) v = v) (hfit : fits (ty0 k) v = true) (w : Cond.fieldLink own idx (T k).1 (T k).2.1 (T k).2.2.1 ∈ hs_tb) (hPD : hs_PD D A ws H) (hS : va_S A s.heap H locs) (he : ws[q0]? = some (a, .inr (ci, fs))) (hd : decode cc pc = .ok (.putfield idx, 3))
    (kk : ∀ (H1 : Heap) (locs1 : List Loc), hs_PD D A (ws.set q0 (a, .inr (ci, fs.set k v))) H1 → va_S A s.heap H1 locs1 → W p l e R s m args below meth c H1 locs1 cells slots Q (F0 m (pc + 3) ls st)) : W p l e R s m args below meth c H locs cells slots Q (F0 m pc ls (v :: .ref a :: st)) := by
  obtain ⟨c1, c2, c3, c4, c5, c6, c7⟩ := C
  by_cases hf : (T k).2.2.2 = true
  · exact va_putF c1 c2 c5 hin ty0 hty hnm c4 c6.1 hPD.1 hPD.2 hS q0 he hc k hk (c5 _ w) (fun _ h => h) hf hini hdecl (hty k hk) hn hfit (by rw [hl]; exact hk) hd (fun H1 locs1 hP hD hS1 => kk H1 locs1 ⟨hP, hD⟩ hS1)
  · exact va_put c1 c2 c5 hin ty0 hty hnm c4 c6.1 hPD.1 hPD.2 hS q0 he hc k hk (c5 _ w) (fun _ h => h) (by simpa using hf) (hty k hk) hn hfit (by rw [hl]; exact hk) hd (fun H1 locs1 hP hD hS1 => kk H1 locs1 ⟨hP, hD⟩ hS1)
theorem hs_getF (C : hs_B p s m args c own cc nL D cy A) {Cn : String} {T : u_T} {N ci idx k q0 a : Nat} {fs : List Value} {v : Value} (hc : vwCl[ci]? = some (Cn, T, N)) (hin : ∀ w ∈ u_ws Cn T N, w ∈ hs_tb) (hk : k < N) (w : Cond.fieldLink own idx (T k).1 (T k).2.1 (T k).2.2.1 ∈ hs_tb) (hPD : hs_PD D A ws H) (he : ws[q0]? = some (a, .inr (ci, fs))) (hv : fs[k]? = some v) (hd : decode cc pc = .ok (.getfield idx, 3)) (kk : W p l e R s m args below meth c H locs cells slots Q (F0 m (pc + 3) ls (v :: st))) : W p l e R s m args below meth c H locs cells slots Q (F0 m pc ls (.ref a :: st)) := by
  obtain ⟨c1, c2, c3, c4, c5, c6, c7⟩ := C
  exact va_get c1 c2 c5 hin c4 c6.1 hPD.1 q0 he hc k hk (c5 _ w) (fun _ h => h) hv hd kk
theorem hs_astq (C : hs_B p s m args c own cc nL D cy A) {t0 q0 qk ci a v n : Nat} {cA : ClassId} {r : vw_C} {vs : List Value} {f : Nat → Option Nat} {i : Int32} {j : Nat} (hcy : (hs_tys cy)[t0]? = some (cA, .object r.1)) (hc : vwCl[ci]? = some r) (hj : i.toNatClampNeg = j) (hin : vp_in i n) (hPD : hs_PD D A ws H) (hS : va_S A s.heap H locs) (ha : ws[q0]? = some (a, hs_eQ cA n f)) (hv : ws[qk]? = some (v, .inr (ci, vs))) (hd : decode cc pc = .ok (.aastore, 1))
    (kk : ∀ (H1 : Heap) (locs1 : List Loc), hs_PD D A (ws.set q0 (a, hs_eQ cA n (va_up f j (some v)))) H1 → va_S A s.heap H1 locs1 → W p l e R s m args below meth c H1 locs1 cells slots Q (F0 m (pc + 1) ls st)) : W p l e R s m args below meth c H locs cells slots Q (F0 m pc ls (.ref v :: .int i :: .ref a :: st)) := by
  obtain ⟨c1, c2, c3, c4, c5, c6, c7⟩ := C
  subst hj
  exact va_astq c1 c2 c6.1 hPD.1 hPD.2 hS q0 t0 qk ci ha hcy hv hc hin hd (fun H1 locs1 hP hD hS1 => kk H1 locs1 ⟨hP, hD⟩ hS1)
end HCT
