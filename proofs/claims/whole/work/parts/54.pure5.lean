/-! ===== what is written is bytes ===== -/
theorem hp_part_in {h : Nat → Int32} (r0 : hp_in (h 0) 65536) (r3 : hp_in (h 3) 65536) (r5 : hp_in (h 5) 65536) {i : Nat} (hi : i < 11) (h2 : i ≠ 2) : hp_in (hp_part h i) 256 := by
  have u8 : ∀ x : Int32, hp_in x 65536 → hp_in (hs_ushr x 8) 256 := by
    rintro x ⟨j, hj, rfl⟩
    exact ⟨j / 2 ^ 8, by omega, pk_ushrN (by omega) 8 8 (by decide)⟩
  have a8 : ∀ x : Int32, hp_in (x &&& 255) 256 := fun x => pk_andE x 8 rfl
  rcases (show i = 0 ∨ i = 1 ∨ i = 3 ∨ i = 4 ∨ i = 5 ∨ i = 6 ∨ i = 7 ∨ i = 8 ∨ i = 9 ∨ i = 10 by omega) with rfl | rfl | rfl | rfl | rfl | rfl | rfl | rfl | rfl | rfl
  · exact u8 _ r0
  · exact a8 _
  · exact u8 _ r3
  · exact a8 _
  · have ht := (hp_tiP (h 4)).1
    show hp_in (hs_ushr (h 4) 24) 256
    rw [ht]
    exact a8 _
  · exact a8 _
  · exact a8 _
  · exact a8 _
  · exact u8 _ r5
  · exact a8 _
theorem hp_mb_in (m : Int32) : hp_in (hp_mb m) 129 := by
  unfold hp_mb
  by_cases c : m = 0
  · rw [if_pos c]; exact ⟨0, by decide, rfl⟩
  · rw [if_neg c]; exact ⟨128, by decide, rfl⟩
theorem hp_add_in {x y : Int32} {n m k : Nat} (hx : hp_in x n) (hy : hp_in y m) (h : n + m ≤ k + 1) : hp_in (x + y) k := by
  obtain ⟨a, ha, rfl⟩ := hx
  obtain ⟨b, hb, rfl⟩ := hy
  exact ⟨a + b, by omega, nI_add a b⟩
theorem hp_bts_len {f k : Nat} (hk : k ≤ 4) (h : Nat → Int32) (st : Int32) : 1 ≤ (hp_bts f k h st).length ∧ (hp_bts f k h st).length ≤ 17 := by
  have hpre : (hp_pre f).length ≤ 1 := by
    unfold hp_pre
    by_cases c : f = 0
    · rw [if_pos c]; simp
    · rw [if_neg c]; simp
  have hbd : 1 ≤ (hp_bd k h st (hp_su h st k) (hp_lo k (h 3))).length ∧ (hp_bd k h st (hp_su h st k) (hp_lo k (h 3))).length ≤ 16 := by
    rcases (show k = 0 ∨ k = 1 ∨ k = 2 ∨ k = 3 ∨ k = 4 by omega) with rfl | rfl | rfl | rfl | rfl <;> exact ⟨by simp [hp_bd, hp_mv], by simp [hp_bd, hp_mv]⟩
  unfold hp_bts
  rw [List.length_append]
  omega
theorem hp_bts_in {f k : Nat} (hf : f < 4) (hk : k ≤ 4) {h : Nat → Int32} {st : Int32} (r0 : hp_in (h 0) 65536) (r1 : hp_in (h 1) 128) (r3 : hp_in (h 3) 65536) (r5 : hp_in (h 5) 65536) (rst : hp_in st 65536) : ∀ x ∈ hp_bts f k h st, hp_in x 256 := by
  have hsu := hp_su_in h st k
  have hm := hp_mb_in (h 2)
  have hM : hp_kM k ≤ 256 := by
    unfold hp_kM
    by_cases c : k = 0
    · rw [if_pos c]; decide
    · rw [if_neg c]
      by_cases c2 : k = 1
      · rw [if_pos c2]; decide
      · rw [if_neg c2]; decide
  have hmv : ∀ x ∈ hp_mv h (hp_su h st k), hp_in x 256 := by
    intro x hx
    simp only [hp_mv, List.mem_cons, List.not_mem_nil, or_false] at hx
    rcases hx with rfl | rfl | rfl | rfl | rfl | rfl | rfl | rfl | rfl | rfl
    · exact hp_in_mono hm (by decide)
    · exact hp_part_in r0 r3 r5 (by decide) (by decide)
    · exact hp_part_in r0 r3 r5 (by decide) (by decide)
    · exact hp_part_in r0 r3 r5 (by decide) (by decide)
    · exact hp_part_in r0 r3 r5 (by decide) (by decide)
    · exact hp_part_in r0 r3 r5 (by decide) (by decide)
    · exact hp_part_in r0 r3 r5 (by decide) (by decide)
    · exact hp_part_in r0 r3 r5 (by decide) (by decide)
    · exact hp_part_in r0 r3 r5 (by decide) (by decide)
    · exact hp_in_mono hsu hM
  intro x hx
  unfold hp_bts at hx
  rcases List.mem_append.mp hx with hx | hx
  · unfold hp_pre at hx
    by_cases c : f = 0
    · rw [if_pos c] at hx
      cases hx
    · rw [if_neg c] at hx
      rw [List.mem_singleton.mp hx]
      exact ⟨224 + f, by omega, nI_add 224 f⟩
  · rcases (show k = 0 ∨ k = 1 ∨ k = 2 ∨ k = 3 ∨ k = 4 by omega) with rfl | rfl | rfl | rfl | rfl
    · have hx : x ∈ [(h 3 &&& 15) * 8 + hp_su h st 0] := hx
      rw [List.mem_singleton.mp hx]
      obtain ⟨a, ha, ea⟩ := pk_andE (h 3) (m := 15) 4 rfl
      obtain ⟨b, hb, eb⟩ := hsu
      have hb : b < 8 := hb
      rw [ea, eb]
      refine ⟨a * 8 + b, by omega, ?_⟩
      rw [← nI_add, ← pk_mul]
      rfl
    · have hx : x ∈ [128 + (h 3 &&& 63), hp_mb (h 2) + hp_su h st 1] := hx
      simp only [List.mem_cons, List.not_mem_nil, or_false] at hx
      rcases hx with rfl | rfl
      · exact hp_add_in (n := 129) (m := 64) ⟨128, by decide, rfl⟩ (pk_andE (h 3) (m := 63) 6 rfl) (by decide)
      · exact hp_add_in (m := 128) hm hsu (by decide)
    · have hx : x ∈ [192 + hs_ushr (h 3 &&& 1023) 5, (h 3 &&& 1023 &&& 31) * 8 + (if h 2 = 0 then 0 else 4), hp_su h st 2] := hx
      simp only [List.mem_cons, List.not_mem_nil, or_false] at hx
      obtain ⟨a, ha, ea⟩ := pk_andE (h 3) (m := 1023) 10 rfl
      rcases hx with rfl | rfl | rfl
      · rw [ea]
        refine hp_add_in (n := 193) (m := 64) ⟨192, by decide, rfl⟩ ⟨a / 2 ^ 5, by omega, pk_ushrN (by omega) 5 5 (by decide)⟩ (by decide)
      · obtain ⟨b, hb, eb⟩ := pk_andE (h 3 &&& 1023) (m := 31) 5 rfl
        rw [eb]
        refine hp_add_in (n := 249) (m := 5) ⟨b * 8, by omega, pk_mul b 8⟩ ?_ (by decide)
        by_cases c : h 2 = 0
        · rw [if_pos c]; exact ⟨0, by decide, rfl⟩
        · rw [if_neg c]; exact ⟨4, by decide, rfl⟩
      · exact hsu
    · rcases List.mem_cons.mp (show x ∈ 248 :: hp_mv h (hp_su h st 3) from hx) with rfl | hx
      · exact ⟨248, by decide, rfl⟩
      · exact hmv x hx
    · rcases List.mem_append.mp (show x ∈ [253, hs_ushr (h 0) 8, h 0 &&& 255, h 1, hs_ushr st 8, st &&& 255] ++ hp_mv h (hp_su h st 4) from hx) with hx | hx
      · simp only [List.mem_cons, List.not_mem_nil, or_false] at hx
        obtain ⟨a, ha, ea⟩ := r0
        obtain ⟨b, hb, eb⟩ := rst
        rcases hx with rfl | rfl | rfl | rfl | rfl | rfl
        · exact ⟨253, by decide, rfl⟩
        · rw [ea]; exact ⟨a / 2 ^ 8, by omega, pk_ushrN (by omega) 8 8 (by decide)⟩
        · exact pk_andE _ 8 rfl
        · exact hp_in_mono r1 (by decide)
        · rw [eb]; exact ⟨b / 2 ^ 8, by omega, pk_ushrN (by omega) 8 8 (by decide)⟩
        · exact pk_andE _ 8 rfl
      · exact hmv x hx
/-! ===== the relation: flows ===== -/
/-- the numbers that a sender keeps -/
def hp_RN (n f : Nat) (Sc Sm : hs_M) : Prop := ∃ c, c ≤ n ∧ Sc (25 + f) 7 = nI c ∧ Sm 111 f = nI (min c 4) ∧ ∀ j, j < min c 4 → Sm 112 (4 * f + j) = Sc (33 + f) ((c - min c 4 + j) % 4)
def hp_RX (f : Nat) (Sc Sm : hs_M) : Prop := Sc (29 + f) 0 = Sm 103 f ∧ Sc (29 + f) 1 = Sm 104 f ∧ Sc (29 + f) 2 = Sm 105 f ∧ Sc (29 + f) 3 = Sm 106 f ∧ Sc (29 + f) 4 = Sm 107 f
def hp_RS (n f : Nat) (Sc Sm : hs_M) : Prop := (Sc (25 + f) 1 = Sm 101 f ∧ hp_in (Sm 101 f) 65536) ∧ (Sc (25 + f) 2 = Sm 108 f ∧ hp_in (Sm 108 f) 3) ∧ Sc (25 + f) 3 = Sm 109 f ∧ Sc (25 + f) 4 = Sm 110 f ∧ (Sc (25 + f) 5 = Sm 102 f ∧ (Sm 102 f = 0 ∨ Sm 102 f = 1)) ∧ hp_RX f Sc Sm ∧ hp_RN n f Sc Sm
def hp_RR (f : Nat) (Sc Sm : hs_M) : Prop := (Sc (38 + f) 1 = Sm 115 f ∧ hp_in (Sm 115 f) 3) ∧ Sc (38 + f) 2 = Sm 121 f ∧ Sc (38 + f) 3 = Sm 122 f ∧ Sc (38 + f) 4 = Sm 123 f ∧ (Sc (42 + f) 0 = Sm 116 f ∧ hp_in (Sm 116 f) 65536) ∧ Sc (42 + f) 1 = Sm 117 f ∧ Sc (42 + f) 2 = Sm 118 f ∧ Sc (42 + f) 3 = Sm 119 f ∧ Sc (42 + f) 4 = Sm 120 f
theorem hp_RS_fr {n f : Nat} {Sc Sm Sc' Sm' : hs_M} (h : hp_RS n f Sc Sm) (e1 : Sc' (25 + f) = Sc (25 + f)) (e2 : Sc' (29 + f) = Sc (29 + f)) (e3 : Sc' (33 + f) = Sc (33 + f)) (e4 : ∀ i, 101 ≤ i → i ≤ 111 → Sm' i f = Sm i f) (e5 : ∀ j, j < 4 → Sm' 112 (4 * f + j) = Sm 112 (4 * f + j)) : hp_RS n f Sc' Sm' := by
  obtain ⟨⟨a1, a2⟩, ⟨b1, b2⟩, c, d, ⟨g1, g2⟩, ⟨x0, x1, x2, x3, x4⟩, ⟨k, k1, k2, k3, k4⟩⟩ := h
  unfold hp_RS hp_RX hp_RN
  rw [e1, e2, e3, e4 101 (by decide) (by decide), e4 102 (by decide) (by decide), e4 103 (by decide) (by decide), e4 104 (by decide) (by decide), e4 105 (by decide) (by decide), e4 106 (by decide) (by decide), e4 107 (by decide) (by decide), e4 108 (by decide) (by decide), e4 109 (by decide) (by decide), e4 110 (by decide) (by decide), e4 111 (by decide) (by decide)]
  exact ⟨⟨a1, a2⟩, ⟨b1, b2⟩, c, d, ⟨g1, g2⟩, ⟨x0, x1, x2, x3, x4⟩, ⟨k, k1, k2, k3, fun j hj => by rw [e5 j (by omega)]; exact k4 j hj⟩⟩
theorem hp_RS_up {n f : Nat} {Sc Sm : hs_M} (h : hp_RS n f Sc Sm) : hp_RS (n + 1) f Sc Sm := by
  obtain ⟨a, b, c, d, g, x, ⟨k, k1, k2, k3, k4⟩⟩ := h
  exact ⟨a, b, c, d, g, x, ⟨k, by omega, k2, k3, k4⟩⟩
theorem hp_RR_fr {f : Nat} {Sc Sm Sc' Sm' : hs_M} (h : hp_RR f Sc Sm) (e1 : Sc' (38 + f) = Sc (38 + f)) (e2 : Sc' (42 + f) = Sc (42 + f)) (e4 : ∀ i, 115 ≤ i → i ≤ 123 → Sm' i f = Sm i f) : hp_RR f Sc' Sm' := by
  unfold hp_RR
  rw [e1, e2, e4 115 (by decide) (by decide), e4 116 (by decide) (by decide), e4 117 (by decide) (by decide), e4 118 (by decide) (by decide), e4 119 (by decide) (by decide), e4 120 (by decide) (by decide), e4 121 (by decide) (by decide), e4 122 (by decide) (by decide), e4 123 (by decide) (by decide)]
  exact h
