/-! ===== the law's walk: both worlds side by side ===== -/
abbrev hs_Y : Type := (Program × Launch × Env × State × MethodId × List Frame × Method × Code) × (va_G × (Nat → ClassId) × (Nat → Nat) × (Nat → Nat)) × (Nat × Nat × (Nat → Int32))
abbrev hy_l (Y : hs_Y) : Launch := Y.1.2.1
abbrev hy_s (Y : hs_Y) : State := Y.1.2.2.2.1
abbrev hy_m (Y : hs_Y) : MethodId := Y.1.2.2.2.2.1
abbrev hy_D (Y : hs_Y) : va_G := Y.2.1.1
abbrev hy_cy (Y : hs_Y) : Nat → ClassId := Y.2.1.2.1
abbrev hy_q (Y : hs_Y) : Nat → Nat := Y.2.1.2.2.1
abbrev hy_tb (Y : hs_Y) : Nat → Nat := Y.2.1.2.2.2
abbrev hy_b (Y : hs_Y) : Nat := Y.2.2.1
abbrev hy_L (Y : hs_Y) : Nat := Y.2.2.2.1
abbrev hy_xs (Y : hs_Y) : Nat → Int32 := Y.2.2.2.2
abbrev hy_A (Y : hs_Y) : Nat → Prop := fun a => (hy_s Y).heap.size ≤ a
abbrev hy_W (Y : hs_Y) (H : Heap) (locs : List Loc) (cells slots : Nat) (g : JFrame) : Prop := W Y.1.1 Y.1.2.1 Y.1.2.2.1 room_1 (hy_s Y) (hy_m Y) #[Value.ref (hy_b Y)] Y.1.2.2.2.2.2.1 Y.1.2.2.2.2.2.2.1 Y.1.2.2.2.2.2.2.2 H locs cells slots (lw_Z Y.1.2.2.2.2.2.1 #[Value.ref (hy_b Y)] (hy_s Y)) g
def hs_ZL (Y : hs_Y) (Sc Sm : hs_M) (lv : List (Nat × Value)) (st : List Value) (pc cells slots : Nat) : Prop := ∀ (H : Heap) (locs : List Loc) (ls : Array Slot), hs_PD (hy_D Y) (hy_A Y) (hs_ws (hy_q Y) (hy_cy Y) 0 Sc ++ hs_ws (hy_q Y) (hy_cy Y) 1 Sm) H → va_S (hy_A Y) (hy_s Y).heap H locs → lv_has ls 7 lv → hy_W Y H locs cells slots (F0 (hy_m Y) pc ls st)
def hs_CL (Y : hs_Y) : Prop := Y.1.1.tables.exec = Jvm.exec ∧ Y.1.2.2.2.2.2.2.2.code = code ∧ Y.1.2.2.2.2.2.2.2.maxLocals = 7 ∧ (hy_s Y).vm.findClass RL = some (hy_m Y).cls ∧ (∀ w ∈ hs_tb, w.before #[Value.ref (hy_b Y)] (hy_s Y) = true) ∧ va_K (hy_D Y) vwCl (hs_tys (hy_cy Y)) (hy_s Y) ∧ hs_St (hy_tb Y) (hy_A Y) (hy_s Y) (hy_s Y).heap ∧ hs_Nw (hy_s Y) ∧ hs_Sx (hy_A Y) (hy_s Y) (hy_s Y).heap ∧ (hy_l Y).stackTraces = false ∧ va_X (hy_b Y) (hy_L Y) (hy_xs Y) (hy_s Y) (hy_s Y).heap ∧ hy_b Y < (hy_s Y).heap.size ∧ hy_L Y ≤ 320 ∧ Y.1.2.2.2.2.2.2.1.sig.returnType = ret ∧ Y.1.2.2.2.2.2.2.1.locks = false
section HLR
variable {Y : hs_Y} {Sc Sm : hs_M} {lv : List (Nat × Value)} {st : List Value} {pc cells slots : Nat}
theorem hl_iconst (C : hs_CL Y) {n : Int} {v : Int32} (hd : decode code pc = .ok (.iconst n, 1)) (hv : Int32.ofInt n = v) (k : hs_ZL Y Sc Sm lv (.int v :: st) (pc + 1) cells slots) : hs_ZL Y Sc Sm lv st pc cells slots :=
  fun H locs ls hP hS hl => lv_iconst C.1 C.2.1 hd hv (k H locs ls hP hS hl)
theorem hl_bipush (C : hs_CL Y) {n : Int} {v : Int32} (hd : decode code pc = .ok (.bipush n, 2)) (hv : (Int8.ofInt n).toInt32 = v) (k : hs_ZL Y Sc Sm lv (.int v :: st) (pc + 2) cells slots) : hs_ZL Y Sc Sm lv st pc cells slots :=
  fun H locs ls hP hS hl => lv_bipush C.1 C.2.1 hd hv (k H locs ls hP hS hl)
theorem hl_iload (C : hs_CL Y) {i : Nat} {x : Int32} (hd : decode code pc = .ok (.iload i, 2)) (p : Nat) (hp : lv[p]? = some (i, .int x)) (k : hs_ZL Y Sc Sm lv (.int x :: st) (pc + 2) cells slots) : hs_ZL Y Sc Sm lv st pc cells slots :=
  fun H locs ls hP hS hl => lv_iload C.1 C.2.1 hd (lv_at hl p hp) (k H locs ls hP hS hl)
theorem hl_aload_n (C : hs_CL Y) {j : Fin 4} {i x : Nat} (hd : decode code pc = .ok (.aload_n j, 1)) (p : Nat) (hi : (j : Nat) = i) (hp : lv[p]? = some (i, .ref x)) (k : hs_ZL Y Sc Sm lv (.ref x :: st) (pc + 1) cells slots) : hs_ZL Y Sc Sm lv st pc cells slots :=
  fun H locs ls hP hS hl => lv_aload_n C.1 C.2.1 hd hi (lv_at hl p hp) (k H locs ls hP hS hl)
theorem hl_istore (C : hs_CL Y) {i : Nat} {x : Int32} {lv' : List (Nat × Value)} (hd : decode code pc = .ok (.istore i, 2)) (hn : i < 7) (hl' : (i, Value.int x) :: lv.filter (fun q => !(q.1 == i) && !(q.1 + 1 == i && q.2.category == 2)) = lv') (k : hs_ZL Y Sc Sm lv' st (pc + 2) cells slots) : hs_ZL Y Sc Sm lv (.int x :: st) pc cells slots :=
  fun H locs ls hP hS hl => lv_istore C.1 C.2.1 hd hl hn hl' (fun ls' h' => k H locs ls' hP hS h')
theorem hl_iinc (C : hs_CL Y) {i : Nat} {n : Int} {x v : Int32} {lv' : List (Nat × Value)} (hd : decode code pc = .ok (.iinc i n, 3)) (p : Nat) (hp : lv[p]? = some (i, .int x)) (hv : x + Int32.ofInt n = v) (hn : i < 7) (hl' : (i, Value.int v) :: lv.filter (fun q => !(q.1 == i) && !(q.1 + 1 == i && q.2.category == 2)) = lv') (k : hs_ZL Y Sc Sm lv' st (pc + 3) cells slots) : hs_ZL Y Sc Sm lv st pc cells slots :=
  fun H locs ls hP hS hl => lv_iinc C.1 C.2.1 hd hl hp hv hn hl' (fun ls' h' => k H locs ls' hP hS h')
theorem hl_sub {lv' : List (Nat × Value)} (ks : List Nat) (hk : lv_pick lv ks = lv') (k : hs_ZL Y Sc Sm lv' st pc cells slots) : hs_ZL Y Sc Sm lv st pc cells slots :=
  fun H locs ls hP hS hl => k H locs ls hP hS (lv_sub hl ks hk)
theorem hl_iand (C : hs_CL Y) {x y : Int32} (hd : decode code pc = .ok (.iand, 1)) (k : hs_ZL Y Sc Sm lv (.int (x &&& y) :: st) (pc + 1) cells slots) : hs_ZL Y Sc Sm lv (.int y :: .int x :: st) pc cells slots :=
  fun H locs ls hP hS hl => lv_iand C.1 C.2.1 hd (k H locs ls hP hS hl)
theorem hl_goto (C : hs_CL Y) {off : Int} {tgt : Nat} (hd : decode code pc = .ok (.goto off, 3)) (ht : (pc : Int) + off = (tgt : Int)) (k : hs_ZL Y Sc Sm lv st tgt cells slots) : hs_ZL Y Sc Sm lv st pc cells slots :=
  fun H locs ls hP hS hl => lv_goto C.1 C.2.1 hd ht (k H locs ls hP hS hl)
theorem hl_eqT (C : hs_CL Y) {x y : Int32} {off : Int} {tgt : Nat} (hc : x = y) (hd : decode code pc = .ok (.if_icmp .eq off, 3)) (ht : (pc : Int) + off = (tgt : Int)) (k : hs_ZL Y Sc Sm lv st tgt cells slots) : hs_ZL Y Sc Sm lv (.int y :: .int x :: st) pc cells slots :=
  fun H locs ls hP hS hl => lv_icmp_eq C.1 C.2.1 hd ht (fun _ => k H locs ls hP hS hl) (fun c => absurd hc c)
theorem hl_ifne (C : hs_CL Y) {x : Int32} {off : Int} {tgt : Nat} (hd : decode code pc = .ok (.ifCond .ne off, 3)) (ht : (pc : Int) + off = (tgt : Int)) (kt : ¬ x = 0 → hs_ZL Y Sc Sm lv st tgt cells slots) (kf : x = 0 → hs_ZL Y Sc Sm lv st (pc + 3) cells slots) : hs_ZL Y Sc Sm lv (.int x :: st) pc cells slots :=
  fun H locs ls hP hS hl => lv_if_ne C.1 C.2.1 hd ht (fun c => kt c H locs ls hP hS hl) (fun c => kf c H locs ls hP hS hl)
theorem hl_ifeq (C : hs_CL Y) {x : Int32} {off : Int} {tgt : Nat} (hd : decode code pc = .ok (.ifCond .eq off, 3)) (ht : (pc : Int) + off = (tgt : Int)) (kt : x = 0 → hs_ZL Y Sc Sm lv st tgt cells slots) (kf : ¬ x = 0 → hs_ZL Y Sc Sm lv st (pc + 3) cells slots) : hs_ZL Y Sc Sm lv (.int x :: st) pc cells slots :=
  fun H locs ls hP hS hl => lv_if_eq C.1 C.2.1 hd ht (fun c => kt c H locs ls hP hS hl) (fun c => kf c H locs ls hP hS hl)
theorem hl_tableIn (C : hs_CL Y) {dflt lo hi : Int} {offs : Array Int} {len : Nat} {x : Int32} {off : Int} {tgt : Nat} (hd : decode code pc = .ok (.tableswitch dflt lo hi offs, len)) (h1 : ¬ x.toInt < lo) (h2 : ¬ hi < x.toInt) (ho : offs[(x.toInt - lo).toNat]? = some off) (ht : (pc : Int) + off = (tgt : Int)) (k : hs_ZL Y Sc Sm lv st tgt cells slots) : hs_ZL Y Sc Sm lv (.int x :: st) pc cells slots :=
  fun H locs ls hP hS hl => lv_tableIn C.1 C.2.1 hd h1 h2 ho ht (k H locs ls hP hS hl)
theorem hl_tableOut (C : hs_CL Y) {dflt lo hi : Int} {offs : Array Int} {len : Nat} {x : Int32} {tgt : Nat} (hd : decode code pc = .ok (.tableswitch dflt lo hi offs, len)) (h1 : x.toInt < lo ∨ hi < x.toInt) (ht : (pc : Int) + dflt = (tgt : Int)) (k : hs_ZL Y Sc Sm lv st tgt cells slots) : hs_ZL Y Sc Sm lv (.int x :: st) pc cells slots :=
  fun H locs ls hP hS hl => lv_tableOut C.1 C.2.1 hd h1 ht (k H locs ls hP hS hl)
/-- the script's cell j -/
theorem hl_sld (C : hs_CL Y) {j : Nat} (hj : j < hy_L Y) (hd : decode code pc = .ok (.iaload, 1)) (k : hs_ZL Y Sc Sm lv (.int (hy_xs Y j) :: st) (pc + 1) cells slots) : hs_ZL Y Sc Sm lv (.int (nI j) :: .ref (hy_b Y) :: st) pc cells slots := by
  intro H locs ls hP hS hl
  obtain ⟨c1, c2, c3, c4, c5, c6, c7, c8, c9, c10, c11, c12, c13, c14⟩ := C
  have hc : (nI j).toNatClampNeg = j := nI_clamp (by omega)
  refine va_sld c1 c2 c11 c12 (Nat.not_le.mpr c12) hS (vp_in_nI hj (by omega)) hd ?_
  rw [hc]
  exact k H locs ls hP hS hl
/-- the script's cell t + dd: aload_0, iload 4, iconst, iadd, iaload -/
theorem hl_rd (C : hs_CL Y) {t dd p0 p4 : Nat} {n : Int} (hn : Int32.ofInt n = nI dd) (h0 : lv[p0]? = some (0, .ref (hy_b Y))) (h4 : lv[p4]? = some (4, .int (nI t))) (hj : t + dd < hy_L Y) (d0 : decode code pc = .ok (.aload_n 0, 1)) (d1 : decode code (pc + 1) = .ok (.iload 4, 2)) (d2 : decode code (pc + 3) = .ok (.iconst n, 1)) (d3 : decode code (pc + 4) = .ok (.iadd, 1)) (d4 : decode code (pc + 5) = .ok (.iaload, 1)) (k : hs_ZL Y Sc Sm lv (.int (hy_xs Y (t + dd)) :: st) (pc + 6) cells slots) : hs_ZL Y Sc Sm lv st pc cells slots := by
  refine hl_aload_n C d0 p0 rfl h0 ?_
  refine hl_iload C d1 p4 h4 ?_
  refine hl_iconst C d2 hn ?_
  intro H locs ls hP hS hl
  refine lv_iadd C.1 C.2.1 d3 ?_
  rw [nI_add]
  exact hl_sld C hj d4 k H locs ls hP hS hl
theorem hl_up (k n : Nat) (h1 : cells ≤ k) (h2 : slots ≤ n) (kk : hs_ZL Y Sc Sm lv st pc k n) : hs_ZL Y Sc Sm lv st pc cells slots :=
  fun H locs ls hP hS hl => W.widen h1 h2 (kk H locs ls hP hS hl)
theorem hl_mem {H : Heap} (hPD : hs_PD (hy_D Y) (hy_A Y) (hs_ws (hy_q Y) (hy_cy Y) 0 Sc ++ hs_ws (hy_q Y) (hy_cy Y) 1 Sm) H) : (va_P (hy_D Y) vwCl (hs_ws (hy_q Y) (hy_cy Y) 0 Sc) H ∧ va_D (fun _ => True) (hs_ws (hy_q Y) (hy_cy Y) 0 Sc)) ∧ (va_P (hy_D Y) vwCl (hs_ws (hy_q Y) (hy_cy Y) 1 Sm) H ∧ va_D (fun _ => True) (hs_ws (hy_q Y) (hy_cy Y) 1 Sm)) := by
  have hm := (hs_D_mem.mp hPD.2).1
  rw [List.map_append] at hm
  have hnd := List.nodup_append.mp hm
  exact ⟨⟨hs_P_mem.mpr fun x hx => hs_P_mem.mp hPD.1 x (List.mem_append_left _ hx), hs_D_mem.mpr ⟨hnd.1, fun _ _ => trivial⟩⟩, ⟨hs_P_mem.mpr fun x hx => hs_P_mem.mp hPD.1 x (List.mem_append_right _ hx), hs_D_mem.mpr ⟨hnd.2.1, fun _ _ => trivial⟩⟩⟩
theorem hl_GI {w0 : Cond} (w5 : w0 ∈ hs_tb) : GoodIn hs_tb (w0 :: hs_tb) := by
  intro w hw
  have hm : w ∈ hs_tb := by
    rcases List.mem_cons.mp hw with rfl | hw
    · exact w5
    · exact hw
  exact ⟨hm, good_of_word (List.mem_filter.mp hm).2⟩
theorem hl_F {w0 r : va_W} {H : Heap} {locs : List Loc} {ws : va_W} (hp : (w0 ++ r).Perm ws) (hPD : hs_PD (hy_D Y) (hy_A Y) ws H) (hS : va_S (hy_A Y) (hy_s Y).heap H locs) : ∀ a, va_A w0 H.size a → hy_A Y a := by
  intro a ha
  rcases ha with ⟨k, x, hk⟩ | ha
  · exact (hs_D_mem.mp hPD.2).2 _ (hp.mem_iff.mp (List.mem_append_left _ (List.mem_of_getElem? hk)))
  · exact Nat.le_trans hS.1 ha
/-- behind a call: one world has changed -/
theorem hl_back {w0 r w1 : va_W} {Sc' Sm' : hs_M} {H : Heap} {locs : List Loc} {ls : Array Slot} {mc ms : Nat} {ov : Option Value} {st0 : List Value} (hp : (w0 ++ r).Perm (hs_ws (hy_q Y) (hy_cy Y) 0 Sc ++ hs_ws (hy_q Y) (hy_cy Y) 1 Sm)) (hp1 : (w1 ++ r).Perm (hs_ws (hy_q Y) (hy_cy Y) 0 Sc' ++ hs_ws (hy_q Y) (hy_cy Y) 1 Sm')) (hD1 : va_D (va_A w0 H.size) w1)
    (hPD : hs_PD (hy_D Y) (hy_A Y) (hs_ws (hy_q Y) (hy_cy Y) 0 Sc ++ hs_ws (hy_q Y) (hy_cy Y) 1 Sm) H) (hS : va_S (hy_A Y) (hy_s Y).heap H locs) (hl : lv_has ls 7 lv)
    (hrun : va_Run Y.1.1 Y.1.2.1 Y.1.2.2.1 room_1 (hy_s Y) (hy_m Y) #[Value.ref (hy_b Y)] Y.1.2.2.2.2.2.1 Y.1.2.2.2.2.2.2.1 Y.1.2.2.2.2.2.2.2 H locs cells slots mc ms (F0 (hy_m Y) pc ls st0) st (fun st₀ oc t => oc = .returned ov ∧ va_P (hy_D Y) vwCl w1 t.heap ∧ va_F (va_A w0 H.size) st₀ t) (va_A w0 H.size))
    (kk : hs_ZL Y Sc' Sm' lv (ov.toList ++ st) (pc + 3) (cells + mc) (slots + ms)) : hy_W Y H locs cells slots (F0 (hy_m Y) pc ls st0) := by
  have hF := hl_F hp hPD hS
  intro T hT X0
  obtain ⟨v, st₀, t, T', L, h0, X', hL, e1, e2, ⟨hv, hq, hz, hk⟩, stp⟩ := hrun T hT X0
  cases hv
  rw [h0] at hz hk
  have hPD1 := ((hPD.perm hp.symm).join hk hF ⟨hq, hD1⟩).perm hp1
  obtain ⟨t2, a1, b1⟩ := kk T'.heap (locs ++ L) ls (by rw [e1]; exact hPD1)
    ⟨Nat.le_trans hS.1 (by rw [e1]; exact hz), fun a h1 h2 => by rw [e1, hk a (Nat.lt_of_lt_of_le h1 hS.1) (fun z => h2 (hF a z))]; exact hS.2.1 a h1 h2, fun a ha => by
      rcases List.mem_append.mp ha with h | h
      · exact hS.2.2 a h
      · exact hF _ (hL a h)⟩ hl T' rfl X'
  exact ⟨t2, stp t2 a1, b1⟩
theorem hl_pre (C : hs_CL Y) {wd : Nat} {S : hs_M} {H : Heap} {locs : List Loc} (hP : va_P (hy_D Y) vwCl (hs_ws (hy_q Y) (hy_cy Y) wd S) H) (hD : va_D (fun _ => True) (hs_ws (hy_q Y) (hy_cy Y) wd S)) (hS : va_S (hy_A Y) (hy_s Y).heap H locs) (hA : ∀ a, va_A (hs_ws (hy_q Y) (hy_cy Y) wd S) H.size a → hy_A Y a) {U : State} (hU : U.heap = H) (hW : (hy_s Y).WarmedH U.vm) : hs_Pre (hy_D Y) (hy_cy Y) (hy_q Y) (hy_tb Y) wd S H.size U ∧ hs_Sx (va_A (hs_ws (hy_q Y) (hy_cy Y) wd S) H.size) U U.heap := by
  obtain ⟨c1, c2, c3, c4, c5, c6, c7, c8, c9, c10⟩ := C
  exact ⟨⟨by rw [hU], by rw [hU]; exact hP, va_K.moved hW.alike c6, hD, by rw [hU]; exact hs_St_go c7 hW.alike hA (fun a h1 h2 => hS.2.1 a h1 h2), hs_Nw_go hW c8⟩, by rw [hU]; exact hs_Sx_go c9 hW hA (fun a h1 h2 => hS.2.1 a h1 h2)⟩
theorem hl_callW (C : hs_CL Y) {y : MethodName} {b : ByteArray} {n h idx na : Nat} {hdl : List (Nat × Nat × Nat × Nat)} {args : (Nat → Nat) → List Value} {r : Int32} {Sc' : hs_M} {As st0 : List Value} (w1 : Cond.methodLink RL idx y ∈ hs_tb) (w2 : Cond.static y ∈ hs_tb) (w4 : Cond.initialized y.cls ∈ hs_tb) (w5 : Cond.codeWith y b n (some .int) hdl ∈ hs_tb) (hmh : y.cls ≠ "java/lang/invoke/MethodHandle" ∧ y.cls ≠ "java/lang/invoke/VarHandle") (hdd : (parseMethodDescriptor y.desc).map (fun d => d.parameters.length) = some na) (hn : n ≤ 45) (hh : h ≤ 8)
    (hM : hs_metw y b n hdl h args Sc r Sc') (ha : args (hy_q Y) = As) (hst0 : st0 = As.reverse ++ st) (hna : As.length = na) (hrest : (st.map fun v => v.category).sum ≤ 8) (hd : decode code pc = .ok (.invokestatic idx, 3)) (hcap : cells + 1 ≤ 600384 ∧ slots + 6 ≤ 7289322) (kk : hs_ZL Y Sc' Sm lv (.int r :: st) (pc + 3) (cells + 1) (slots + 6)) : hs_ZL Y Sc Sm lv st0 pc cells slots := by
  intro H locs ls hPD hS hl
  have CC := C
  obtain ⟨⟨hP0, hD0⟩, -⟩ := hl_mem hPD
  have hF := hl_F (List.Perm.refl _) hPD hS
  obtain ⟨c1, c2, c3, c4, c5, c6, c7, c8, c9, c10, c11⟩ := C
  have hG := hl_GI w5
  have cw : vx_CSW room_1 (hy_s Y) #[Value.ref (hy_b Y)] RL idx y b n (some .int) hdl (Cond.codeWith y b n (some .int) hdl :: hs_tb) (hs_rmw h) 1 6 na := by
    refine ⟨⟨rfl, rfl, ?_, ?_, pay_in c5 hG, List.mem_cons_self⟩, c5 _ w5, c5 _ w4, hmh, fun sig hs => ?_, c5 _ w1, c5 _ w2⟩
    · show h + 7 + 1 ≤ 18
      omega
    · show 8 + (n + 11) + (64 * h + 256) ≤ 10768
      omega
    · rw [hs] at hdd
      exact (Option.some.inj hdd).symm
  have hrun := vx_runSW (As := As) (rest := st) (g := F0 (hy_m Y) pc ls st0) (p := Y.1.1) (l := Y.1.2.1) (e := Y.1.2.2.1) (R := room_1) (below := Y.1.2.2.2.2.2.1) (meth := Y.1.2.2.2.2.2.2.1) (H := H) (locs := locs) (cells := cells) (slots := slots) ⟨c1, c2, c3, c4, c5⟩ (hM (hy_l Y) (hy_D Y) (hy_cy Y) (hy_q Y) (hy_tb Y) H.size c10) cw ⟨hs_blindX, fun U hU hW => ⟨by rw [ha], hl_pre CC hP0 hD0 hS hF hU hW⟩⟩ rfl hna hl.1 hst0 (lv_room hrest) hd ⟨hcap.1, hcap.2⟩
  exact hl_back (List.Perm.refl _) (List.Perm.refl _) (hs_Dmv hD0.self) hPD hS hl hrun kk
theorem hl_callO (C : hs_CL Y) {wd : Nat} (hwd : wd ≤ 1) {y : MethodName} {b : ByteArray} {n h idx na kd i N : Nat} {T : u_T} {ret : Option FieldType} {args : (Nat → Nat) → List Value} {ov : (Nat → Nat) → Option Value} {S S' Sc' Sm' : hs_M} {r : va_W} {As st0 : List Value} (w1 : Cond.methodLink RL idx y ∈ hs_tb) (w2 : Cond.instanceMethod y ∈ hs_tb) (w3 : Cond.selects y.cls y y ∈ hs_tb) (w4 : Cond.initialized y.cls ∈ hs_tb) (w5 : Cond.code y b n ret ∈ hs_tb) (hmh : y.cls ≠ "java/lang/invoke/MethodHandle" ∧ y.cls ≠ "java/lang/invoke/VarHandle") (hdd : (parseMethodDescriptor y.desc).map (fun d => d.parameters.length) = some na) (hn : n ≤ 45) (hh : h ≤ 8) (hc : vwCl[kd + 2]? = some (y.cls, T, N)) (h8 : kd < 8) (hw : hs_wk kd = wd) (hk : hs_K i = kd)
    (hM : hs_met wd y b n ret h args S ov S') (hp : (hs_ws (hy_q Y) (hy_cy Y) wd S ++ r).Perm (hs_ws (hy_q Y) (hy_cy Y) 0 Sc ++ hs_ws (hy_q Y) (hy_cy Y) 1 Sm)) (hp1 : (hs_ws (hy_q Y) (hy_cy Y) wd S' ++ r).Perm (hs_ws (hy_q Y) (hy_cy Y) 0 Sc' ++ hs_ws (hy_q Y) (hy_cy Y) 1 Sm'))
    (ha : args (hy_q Y) = .ref (hy_q Y i) :: As) (hst0 : st0 = As.reverse ++ .ref (hy_q Y i) :: st) (hna : As.length = na) (hrest : (st.map fun v => v.category).sum ≤ 8) (hd : decode code pc = .ok (.invokevirtual idx, 3)) (hcap : cells ≤ 600384 ∧ slots ≤ 7289322) (kk : hs_ZL Y Sc' Sm' lv ((ov (hy_q Y)).toList ++ st) (pc + 3) cells slots) : hs_ZL Y Sc Sm lv st0 pc cells slots := by
  intro H locs ls hPD hS hl
  have CC := C
  have hPD0 := hPD.perm hp.symm
  have hP0 : va_P (hy_D Y) vwCl (hs_ws (hy_q Y) (hy_cy Y) wd S) H := hs_P_mem.mpr fun x hx => hs_P_mem.mp hPD0.1 x (List.mem_append_left _ hx)
  have hD0 : va_D (fun _ => True) (hs_ws (hy_q Y) (hy_cy Y) wd S) := by
    have hm := (hs_D_mem.mp hPD0.2).1
    rw [List.map_append] at hm
    exact hs_D_mem.mpr ⟨(List.nodup_append.mp hm).1, fun _ _ => trivial⟩
  have hF := hl_F hp hPD hS
  obtain ⟨c1, c2, c3, c4, c5, c6, c7, c8, c9, c10, c11⟩ := C
  have hG := hl_GI w5
  have hB : CallB room_1 (hy_s Y) #[Value.ref (hy_b Y)] RL idx y b n ret (hs_w y b n ret) (hs_rm h) 0 0 na := callB_of na c5 hG rfl rfl rfl (c5 _ w4) (c5 _ w1) ⟨hmh.1, hmh.2, hdd⟩ (by show h + 1 ≤ 18 ∧ 8 + (n + 11) + 64 * h ≤ 10768; omega)
  have hiw := hs_inw (by rw [hk]; exact hw) hwd
  have he := hs_at (q := hy_q Y) (cy := hy_cy Y) (S := S) hiw
  rw [hs_e_o hk h8] at he
  have hrec := va_recv (ci := kd + 2) c6 hP0 hc he
  have hrun := va_runV (As := As) (rest := st) (g := F0 (hy_m Y) pc ls st0) (p := Y.1.1) (l := Y.1.2.1) (e := Y.1.2.2.1) (R := room_1) (below := Y.1.2.2.2.2.2.1) (meth := Y.1.2.2.2.2.2.2.1) (H := H) (locs := locs) (cells := cells) (slots := slots) ⟨c1, c2, c3, c4, c5⟩ (hM (hy_l Y) (hy_D Y) (hy_cy Y) (hy_q Y) (hy_tb Y) H.size) ⟨hB, c5 _ w2, c5 _ w3⟩ ⟨hs_blind, hrec, fun U hU hW => ⟨by rw [ha], (hl_pre CC hP0 hD0 hS hF hU hW).1⟩⟩ rfl hna hl.1 hst0 (lv_room hrest) hd ⟨hcap.1, hcap.2⟩
  exact hl_back hp hp1 (hs_Dmv hD0.self) hPD hS hl hrun kk
/-- the law compares the long with an int that is the same number -/
theorem hl_cmp (C : hs_CL Y) {v : Int32} {p3 p6 tgt : Nat} {off : Int} (hv : Sc 47 0 = v) (h3 : lv[p3]? = some (3, .ref (hy_q Y 47))) (h6 : lv[p6]? = some (6, .int v)) (d0 : decode code pc = .ok (.aload_n 3, 1)) (d1 : decode code (pc + 1) = .ok (.iconst 0, 1)) (d2 : decode code (pc + 2) = .ok (.laload, 1)) (d3 : decode code (pc + 3) = .ok (.iload 6, 2)) (d4 : decode code (pc + 5) = .ok (.i2l, 1)) (d5 : decode code (pc + 6) = .ok (.lcmp, 1)) (d6 : decode code (pc + 7) = .ok (.ifCond .eq off, 3)) (ht : ((pc + 7 : Nat) : Int) + off = (tgt : Int)) (kk : hs_ZL Y Sc Sm lv st tgt cells slots) : hs_ZL Y Sc Sm lv st pc cells slots := by
  refine hl_aload_n C d0 p3 rfl h3 ?_
  refine hl_iconst (v := 0) C d1 (by decide) ?_
  intro H locs ls hPD hS hl
  obtain ⟨c1, c2, c3, c4, c5, c6, c7⟩ := C
  obtain ⟨⟨hP0, hD0⟩, -⟩ := hl_mem hPD
  have hiw : hs_bs 0 ≤ 47 ∧ 47 < hs_bs 0 + hs_nn 0 := by decide
  have he := hs_at (q := hy_q Y) (cy := hy_cy Y) (S := Sc) hiw
  rw [hs_e_a (kd := 13) (by decide +kernel) (by decide)] at he
  refine va_lald (f := fun j => (Sc 47 j).toInt64) c1 c2 c6 hP0 _ 4 he rfl (n := 1) (show ¬ ((0 : Int32) < 0 ∨ 1 ≤ (0 : Int32).toNatClampNeg) by decide) d2 ?_
  refine lv_iload c1 c2 d3 (lv_at hl p6 h6) ?_
  refine lv_i2l c1 c2 d4 rfl ?_
  refine W.lcmp c1 c2 d5 ?_
  have e0 : (0 : Int32).toNatClampNeg = 0 := by decide
  have e1 : lg_cmp (Sc 47 (0 : Int32).toNatClampNeg).toInt64 v.toInt64 = 0 := by
    rw [e0, hv]
    unfold lg_cmp
    rw [if_neg (show ¬ v.toInt64 > v.toInt64 from Int64.lt_irrefl), if_pos rfl]
  rw [e1]
  exact lv_if_eq c1 c2 d6 ht (fun _ => kk H locs ls hPD hS hl) (fun c => absurd rfl c)
end HLR
