/-! ===== memories: what stands in place k of cell i; a pointer is the number of a cell ===== -/
abbrev hs_M : Type := Nat → Nat → Int32
def hs_U (S : hs_M) (i k : Nat) (x : Int32) : hs_M := fun a b => if a = i ∧ b = k then x else S a b
theorem hs_U_row (S : hs_M) (i k : Nat) (x : Int32) : hs_U S i k x i = upd (S i) k x := by
  funext b
  simp [hs_U, upd]
theorem hs_U_ne (S : hs_M) {i a : Nat} (k : Nat) (x : Int32) (h : a ≠ i) : hs_U S i k x a = S a := by
  funext b
  simp [hs_U, h]
/-- the kind of a cell: 0 .. 7 an object of a class, 8 .. 15 an array -/
def hs_K (i : Nat) : Nat := if i = 0 then 6 else if i < 4 then 1 else if i = 4 then 2 else if i = 5 then 10 else if i < 15 then 3 else if i < 24 then 8 else if i = 24 then 12 else if i < 29 then 5 else if i < 33 then 0 else if i < 37 then 8 else if i = 37 then 11 else if i < 42 then 4 else if i < 46 then 0 else if i = 46 then 8 else if i = 47 then 13 else if i < 100 then 99 else if i = 100 then 7 else if i = 102 then 15 else if i < 128 then 14 else 99
/-- how long an array is -/
def hs_N (i : Nat) : Nat := if i = 5 then 9 else if i < 24 then 17 else if i < 46 then 4 else if i = 46 then 11 else if i = 47 then 1 else if i = 112 then 16 else if i = 113 then 8 else if i = 114 then 160 else if i = 124 then 11 else if i = 125 then 11 else if i = 126 then 13 else if i = 127 then 20 else 4
/-- how many fields an object has -/
def hs_nf (kd : Nat) : Nat := if kd = 0 then 5 else if kd = 1 then 6 else if kd = 2 then 2 else if kd = 3 then 5 else if kd = 4 then 5 else if kd = 5 then 8 else if kd = 6 then 7 else 33
/-- a field's sort: 0 a number, 1 a pointer that the memory holds, o + 2 the cell o further on -/
def hs_rk (kd k : Nat) : Nat :=
  if kd = 2 then (if k = 0 then 3 else 0) else if kd = 3 then (if k = 0 then 11 else 0) else if kd = 4 then (if k = 0 then 6 else 0) else if kd = 5 then (if k = 0 then 6 else if k = 6 then 10 else 0)
  else if kd = 6 then (if k = 0 then 3 else if k = 1 then 6 else if k = 2 then 26 else if k = 3 then 39 else if k = 4 then 48 else 1)
  else if kd = 7 then (if k < 4 then 0 else if k < 16 then k - 1 else if k = 16 then 0 else if k < 31 then k - 2 else if k = 31 then 0 else k - 3) else 0
def hs_v (q : Nat → Nat) (S : hs_M) (kd i k : Nat) : Value := if hs_rk kd k = 0 then .int (S i k) else if hs_rk kd k = 1 then .ref (q (S i k).toNatClampNeg) else .ref (q (i + (hs_rk kd k - 2)))
def hs_ar (q : Nat → Nat) (S : hs_M) (kd i : Nat) : (Nat → Int32) ⊕ (Nat → Int64) ⊕ (Nat → UInt32) ⊕ (Nat → UInt64) ⊕ (Nat → Option Nat) :=
  if kd = 10 then .inr (.inr (.inr (.inr (fun j => some (q (S i j).toNatClampNeg))))) else if kd = 11 then .inr (.inr (.inr (.inr (fun j => some (q (38 + j)))))) else if kd = 12 then .inr (.inr (.inr (.inr (fun j => some (q (25 + j)))))) else if kd = 13 then .inr (.inl (fun j => (S i j).toInt64)) else .inl (S i)
def hs_e (q : Nat → Nat) (cy : Nat → ClassId) (S : hs_M) (i : Nat) : va_E :=
  if hs_K i < 8 then .inr (hs_K i + 2, (List.range (hs_nf (hs_K i))).map (hs_v q S (hs_K i) i)) else .inl (cy (hs_K i), hs_N i, hs_ar q S (hs_K i) i)
/-- the world of a kind: 0 the class's, 1 the reference's -/
def hs_wk (kd : Nat) : Nat := if kd = 7 then 1 else if kd = 14 then 1 else if kd = 15 then 1 else if kd = 99 then 2 else 0
def hs_bs (wd : Nat) : Nat := if wd = 0 then 0 else 100
def hs_nn (wd : Nat) : Nat := if wd = 0 then 48 else 28
def hs_ws (q : Nat → Nat) (cy : Nat → ClassId) (wd : Nat) (S : hs_M) : va_W := (List.range (hs_nn wd)).map (fun p => (q (hs_bs wd + p), hs_e q cy S (hs_bs wd + p)))
def hs_tys (cy : Nat → ClassId) : List (ClassId × FieldType) := [(cy 8, .int), (cy 10, .object RX3), (cy 11, .object RX4), (cy 12, .object RX5), (cy 13, .long), (cy 14, .int), (cy 15, .boolean)]
theorem hs_Kdec (P : Nat → Nat → Prop) (h : ∀ i, i < 128 → P i (hs_K i)) (h2 : ∀ i, P i 99) (i : Nat) : P i (hs_K i) := by
  by_cases hi : i < 128
  · exact h i hi
  · have e : hs_K i = 99 := by
      unfold hs_K
      repeat (first | rw [if_neg (show ¬ _ by omega)] | rfl)
    rw [e]
    exact h2 i
theorem hs_inw0 : ∀ i : Nat, hs_wk (hs_K i) = 0 → i < 48 := hs_Kdec (fun i k => hs_wk k = 0 → i < 48) (by decide +kernel) (fun i h => absurd h (by decide))
theorem hs_inw1 : ∀ i : Nat, hs_wk (hs_K i) = 1 → 100 ≤ i ∧ i < 128 := hs_Kdec (fun i k => hs_wk k = 1 → 100 ≤ i ∧ i < 128) (by decide +kernel) (fun i h => absurd h (by decide))
theorem hs_inw {i wd : Nat} (hw : hs_wk (hs_K i) = wd) (h1 : wd ≤ 1) : hs_bs wd ≤ i ∧ i < hs_bs wd + hs_nn wd := by
  rcases (show wd = 0 ∨ wd = 1 by omega) with rfl | rfl
  · have := hs_inw0 i hw
    simp [hs_bs, hs_nn]
    exact this
  · have := hs_inw1 i hw
    simp [hs_bs, hs_nn]
    exact this
theorem hs_at {q : Nat → Nat} {cy : Nat → ClassId} {S : hs_M} {wd i : Nat} (h : hs_bs wd ≤ i ∧ i < hs_bs wd + hs_nn wd) : (hs_ws q cy wd S)[i - hs_bs wd]? = some (q i, hs_e q cy S i) := by
  have e : hs_bs wd + (i - hs_bs wd) = i := by omega
  unfold hs_ws
  rw [List.getElem?_map, List.getElem?_range (by omega)]
  simp only [Option.map_some]
  rw [e]
theorem hs_atL {q : Nat → Nat} {cy : Nat → ClassId} {S : hs_M} {wd p : Nat} {x : Nat × va_E} (h : (hs_ws q cy wd S)[p]? = some x) : p < hs_nn wd ∧ x = (q (hs_bs wd + p), hs_e q cy S (hs_bs wd + p)) := by
  unfold hs_ws at h
  rw [List.getElem?_map] at h
  by_cases hp : p < hs_nn wd
  · rw [List.getElem?_range hp] at h
    exact ⟨hp, (Option.some.inj h).symm⟩
  · rw [List.getElem?_eq_none (by rw [List.length_range]; omega)] at h
    cases h
theorem hs_v_c {q : Nat → Nat} {S S' : hs_M} {i : Nat} (h : S' i = S i) (kd : Nat) : hs_v q S' kd i = hs_v q S kd i := by
  funext k
  simp only [hs_v, h]
theorem hs_e_c {q : Nat → Nat} {cy : Nat → ClassId} {S S' : hs_M} {i : Nat} (h : S' i = S i) : hs_e q cy S' i = hs_e q cy S i := by
  simp only [hs_e, hs_v_c h, hs_ar, h]
theorem hs_setw {q : Nat → Nat} {cy : Nat → ClassId} {S S' : hs_M} {wd i : Nat} (h : hs_bs wd ≤ i ∧ i < hs_bs wd + hs_nn wd) (ho : ∀ j, j ≠ i → S' j = S j) {e : va_E} (he : hs_e q cy S' i = e) : (hs_ws q cy wd S).set (i - hs_bs wd) (q i, e) = hs_ws q cy wd S' := by
  apply List.ext_getElem?
  intro n
  by_cases hn : n = i - hs_bs wd
  · subst hn
    have hl := (List.getElem?_eq_some_iff.mp (hs_at (q := q) (cy := cy) (S := S) h)).1
    rw [List.getElem?_set_self hl, hs_at h, he]
  · rw [List.getElem?_set_ne (Ne.symm hn)]
    unfold hs_ws
    rw [List.getElem?_map, List.getElem?_map]
    by_cases hp : n < hs_nn wd
    · rw [List.getElem?_range hp]
      simp only [Option.map_some]
      rw [hs_e_c (ho (hs_bs wd + n) (by omega))]
    · rw [List.getElem?_eq_none (by rw [List.length_range]; omega)]
      rfl
theorem hs_Dmv {q : Nat → Nat} {cy : Nat → ClassId} {S S' : hs_M} {wd : Nat} {A : Nat → Prop} (h : va_D A (hs_ws q cy wd S)) : va_D A (hs_ws q cy wd S') := by
  have key : ∀ (k : Nat) (x : Nat × va_E), (hs_ws q cy wd S')[k]? = some x → (hs_ws q cy wd S)[k]? = some (x.1, hs_e q cy S (hs_bs wd + k)) := by
    intro k x hk
    obtain ⟨h1, rfl⟩ := hs_atL hk
    have h2 := hs_at (q := q) (cy := cy) (S := S) (wd := wd) (i := hs_bs wd + k) (by omega)
    rw [show hs_bs wd + k - hs_bs wd = k by omega] at h2
    exact h2
  exact ⟨fun i j x y hi hj hxy => h.1 i j _ _ (key i x hi) (key j y hj) hxy, fun k x hk => h.2 k (x.1, hs_e q cy S (hs_bs wd + k)) (key k x hk)⟩
theorem hs_Amv {q : Nat → Nat} {cy : Nat → ClassId} {S S' : hs_M} {wd sz a : Nat} (h : va_A (hs_ws q cy wd S) sz a) : va_A (hs_ws q cy wd S') sz a := by
  rcases h with ⟨k, e, h⟩ | h
  · obtain ⟨h1, h3⟩ := hs_atL h
    have h2 := hs_at (q := q) (cy := cy) (S := S') (wd := wd) (i := hs_bs wd + k) (by omega)
    rw [show hs_bs wd + k - hs_bs wd = k by omega] at h2
    refine Or.inl ⟨k, hs_e q cy S' (hs_bs wd + k), ?_⟩
    rw [h2, (Prod.mk.inj h3).1]
  · exact Or.inr h
theorem hs_e_o {q : Nat → Nat} {cy : Nat → ClassId} {S : hs_M} {i kd : Nat} (hk : hs_K i = kd) (h8 : kd < 8) : hs_e q cy S i = .inr (kd + 2, (List.range (hs_nf kd)).map (hs_v q S kd i)) := by
  subst hk
  unfold hs_e
  rw [if_pos h8]
theorem hs_e_a {q : Nat → Nat} {cy : Nat → ClassId} {S : hs_M} {i kd : Nat} (hk : hs_K i = kd) (h8 : ¬ kd < 8) : hs_e q cy S i = .inl (cy kd, hs_N i, hs_ar q S kd i) := by
  subst hk
  unfold hs_e
  rw [if_neg h8]
theorem hs_fs {q : Nat → Nat} {S : hs_M} {kd i k : Nat} (hk : k < hs_nf kd) : ((List.range (hs_nf kd)).map (hs_v q S kd i))[k]? = some (hs_v q S kd i k) := by
  rw [List.getElem?_map, List.getElem?_range hk]
  rfl
theorem hs_fsl {q : Nat → Nat} {S : hs_M} {kd i : Nat} : ((List.range (hs_nf kd)).map (hs_v q S kd i)).length = hs_nf kd := by simp
theorem hs_fset {q : Nat → Nat} {S : hs_M} {kd i k : Nat} {x : Int32} {v : Value} (hk : k < hs_nf kd) (hv : hs_v q (hs_U S i k x) kd i k = v) : ((List.range (hs_nf kd)).map (hs_v q S kd i)).set k v = (List.range (hs_nf kd)).map (hs_v q (hs_U S i k x) kd i) := by
  apply List.ext_getElem?
  intro n
  by_cases hn : n = k
  · subst hn
    rw [List.getElem?_set_self (by rw [hs_fsl]; exact hk), hs_fs hk, hv]
  · rw [List.getElem?_set_ne (Ne.symm hn)]
    by_cases hp : n < hs_nf kd
    · rw [hs_fs hp, hs_fs hp]
      have e : hs_U S i k x i n = S i n := by simp [hs_U, hn]
      simp only [hs_v, e]
    · rw [List.getElem?_eq_none (by rw [hs_fsl]; omega), List.getElem?_eq_none (by rw [hs_fsl]; omega)]
/-! statics: rows that nobody writes -/
def hs_sf (j : Nat) : String := if j = 0 then "PACKET_BYTES" else if j = 1 then "SUM_AT_FIRST" else if j = 2 then "SUM_CHANGE" else if j = 3 then "LOW_BITS" else "STEPS_BACK"
def hs_sl (j : Nat) : List Int32 := if j = 0 then [1, 2, 3, 11, 16] else if j = 1 then [7, 127, 255, 255, 255] else if j = 2 then [6, 121, 224, 224, 224] else if j = 3 then [15, 63, 1023] else [1, 3, 31]
def hs_sn (j : Nat) : Nat := if j < 3 then 5 else 3
def hs_sv (j k : Nat) : Int32 := (hs_sl j).getD k 0
def hs_St (tb : Nat → Nat) (A : Nat → Prop) (U : State) (H : Heap) : Prop := ∀ j, j < 5 → va_Z "HeaderSqueeze" (hs_sf j) "[I" (.ref (tb j)) A U H ∧ va_T .int (tb j) (hs_sn j) (fun k => .int (hs_sv j k)) A U H
theorem hs_St_go {tb : Nat → Nat} {A B : Nat → Prop} {u U : State} {H H1 : Heap} (h : hs_St tb A u H) (hvm : u.vm.Alike U.vm) (hAB : ∀ a, B a → A a) (hq : ∀ a : Nat, a < H.size → ¬ A a → H1[a]? = H[a]?) : hs_St tb B U H1 := fun j hj =>
  ⟨(va_Z.moved hvm ((h j hj).1.kept hq)).narrow hAB, (va_T.moved hvm ((h j hj).2.kept hq)).narrow hAB⟩
/-- the statics as a nest mate reads them -/
def hs_nl : List (String × Nat × String) := [(RX5, 82, "STEPS_BACK"), (RX5, 86, "LOW_BITS"), (RX1, 35, "SUM_AT_FIRST"), (RX1, 39, "SUM_CHANGE"), (RX3, 25, "LOW_BITS"), (RX3, 76, "PACKET_BYTES"), (RX4, 98, "STEPS_BACK"), (RX4, 90, "LOW_BITS"), (RX3, 86, "SUM_AT_FIRST")]
def hs_Nw (U : State) : Prop := ∀ x ∈ hs_nl, va_Nw (.fieldLinkNest x.1 x.2.1 "HeaderSqueeze" x.2.2 "[I" "HeaderSqueeze") U
theorem hs_Nw_go {s U : State} (hW : s.WarmedH U.vm) (h : hs_Nw s) : hs_Nw U := fun x hx => va_Nw.warmF hW (h x hx)
/-! ===== the guards of a denotation ===== -/
def hs_l {α β : Type} (v : α) (f : α → β) : β := f v
def hs_ix {ρ : Type} (x : Int32) (n : Nat) (G : Option ρ) : Option ρ := if x < 0 ∨ n ≤ x.toNatClampNeg then none else G
def hs_kg {ρ : Type} (i kd : Nat) (G : Option ρ) : Option ρ := if hs_K i = kd then G else none
def hs_bg {ρ : Type} (x : Int32) (G : Option ρ) : Option ρ := if x = 0 ∨ x = 1 then G else none
def hs_ushr (x y : Int32) : Int32 := (x.toUInt32 >>> (y.toUInt32 &&& Int32.toUInt32 31)).toInt32
def hs_rem (x y : Int32) : Int32 := x - x / y * y
def hs_min (x y : Int32) : Int32 := if y < x then y else x
def hs_max (x y : Int32) : Int32 := if x < y then y else x
theorem hs_ix_s {ρ : Type} {x : Int32} {n : Nat} {G : Option ρ} {res : ρ} (h : hs_ix x n G = some res) : vp_in x n ∧ G = some res := by
  unfold hs_ix at h
  by_cases hc : x < 0 ∨ n ≤ x.toNatClampNeg
  · rw [if_pos hc] at h
    cases h
  · rw [if_neg hc] at h
    exact ⟨hc, h⟩
theorem hs_kg_s {ρ : Type} {i kd : Nat} {G : Option ρ} {res : ρ} (h : hs_kg i kd G = some res) : hs_K i = kd ∧ G = some res := by
  unfold hs_kg at h
  by_cases hc : hs_K i = kd
  · rw [if_pos hc] at h
    exact ⟨hc, h⟩
  · rw [if_neg hc] at h
    cases h
theorem hs_bg_s {ρ : Type} {x : Int32} {G : Option ρ} {res : ρ} (h : hs_bg x G = some res) : (x = 0 ∨ x = 1) ∧ G = some res := by
  unfold hs_bg at h
  by_cases hc : x = 0 ∨ x = 1
  · rw [if_pos hc] at h
    exact ⟨hc, h⟩
  · rw [if_neg hc] at h
    cases h
theorem hs_if_s {ρ : Type} {c : Prop} [Decidable c] {A B : Option ρ} {res : ρ} (h : (if c then A else B) = some res) : (c ∧ A = some res) ∨ (¬ c ∧ B = some res) := by
  by_cases hc : c
  · rw [if_pos hc] at h
    exact Or.inl ⟨hc, h⟩
  · rw [if_neg hc] at h
    exact Or.inr ⟨hc, h⟩
theorem hs_bd_s {α ρ : Type} {o : Option α} {G : α → Option ρ} {res : ρ} (h : o.bind G = some res) : ∃ a, o = some a ∧ G a = some res := by
  cases o with
  | none => cases h
  | some a => exact ⟨a, rfl, h⟩
/-! ===== a walk's standing ===== -/
abbrev hs_T : Type := (Program × Launch × Env × Room × State × MethodId) × (Array Value × List Frame × Method × Code) × (va_G × (Nat → ClassId) × (Nat → Nat) × (Nat → Nat)) × (Nat × (Nat → Prop) × (State → Prop) × Nat × Nat)
abbrev hs_s (X : hs_T) : State := X.1.2.2.2.2.1
abbrev hs_m (X : hs_T) : MethodId := X.1.2.2.2.2.2
abbrev hs_a (X : hs_T) : Array Value := X.2.1.1
abbrev hs_q (X : hs_T) : Nat → Nat := X.2.2.1.2.2.1
abbrev hs_cy (X : hs_T) : Nat → ClassId := X.2.2.1.2.1
abbrev hs_D (X : hs_T) : va_G := X.2.2.1.1
abbrev hs_tbl (X : hs_T) : Nat → Nat := X.2.2.1.2.2.2
abbrev hs_wd (X : hs_T) : Nat := X.2.2.2.1
abbrev hs_A (X : hs_T) : Nat → Prop := X.2.2.2.2.1
abbrev hs_Q (X : hs_T) : State → Prop := X.2.2.2.2.2.1
abbrev hs_nc1 (X : hs_T) : Nat := X.2.2.2.2.2.2.1
abbrev hs_nc2 (X : hs_T) : Nat := X.2.2.2.2.2.2.2
abbrev hs_W (X : hs_T) (H : Heap) (locs : List Loc) (g : JFrame) : Prop := W X.1.1 X.1.2.1 X.1.2.2.1 X.1.2.2.2.1 (hs_s X) (hs_m X) (hs_a X) X.2.1.2.1 X.2.1.2.2.1 X.2.1.2.2.2 H locs (hs_nc1 X) (hs_nc2 X) (hs_Q X) g
def hs_Z (X : hs_T) (nL : Nat) (S : hs_M) (lv : List (Nat × Value)) (st : List Value) (pc : Nat) : Prop := ∀ (H : Heap) (locs : List Loc) (ls : Array Slot), va_P (hs_D X) vwCl (hs_ws (hs_q X) (hs_cy X) (hs_wd X) S) H → va_S (hs_A X) (hs_s X).heap H locs → lv_has ls nL lv → hs_W X H locs (F0 (hs_m X) pc ls st)
def hs_rm (h : Nat) : Room := { frames := h, cells := 0, slots := 0, locals := 64 * h }
def hs_tb : List Cond := lw_tbl.filter goodWord
theorem hs_w1 {k : Nat} {w : Cond} (h : tables_1[k]? = some w) (g : goodWord w = true) : w ∈ hs_tb := List.mem_filter.mpr ⟨List.mem_append_right _ (List.mem_of_getElem? h), g⟩
theorem hs_w2 {k : Nat} {w : Cond} (h : (k2_sels lw_privs)[k]? = some w) (g : goodWord w = true) : w ∈ hs_tb := List.mem_filter.mpr ⟨List.mem_append_left _ (List.mem_of_getElem? h), g⟩
theorem hs_w3 {ws : List Cond} (h : ∀ w ∈ ws, w ∈ lw_tbl) (g : ws.all goodWord = true) : ∀ w ∈ ws, w ∈ hs_tb := fun w hw => List.mem_filter.mpr ⟨h w hw, List.all_eq_true.mp g w hw⟩
def hs_C (X : hs_T) (wd : Nat) (own : String) (cc : ByteArray) (nL hh : Nat) : Prop :=
  X.1.1.tables.exec = Jvm.exec ∧ X.2.1.2.2.2.code = cc ∧ X.2.1.2.2.2.maxLocals = nL ∧ (hs_s X).vm.findClass own = some (hs_m X).cls ∧ (∀ w ∈ hs_tb, w.before (hs_a X) (hs_s X) = true) ∧ (hh ≤ X.1.2.2.2.1.frames ∧ 64 * hh ≤ X.1.2.2.2.1.locals ∧ hs_nc1 X ≤ X.1.2.2.2.1.cells ∧ hs_nc2 X ≤ X.1.2.2.2.1.slots) ∧ hs_wd X = wd ∧ wd ≤ 1 ∧ va_K (hs_D X) vwCl (hs_tys (hs_cy X)) (hs_s X) ∧ (∀ S : hs_M, va_D (hs_A X) (hs_ws (hs_q X) (hs_cy X) wd S)) ∧ (∀ a : Nat, (hs_s X).heap.size ≤ a → hs_A X a) ∧ hs_St (hs_tbl X) (hs_A X) (hs_s X) (hs_s X).heap ∧ hs_Nw (hs_s X)
