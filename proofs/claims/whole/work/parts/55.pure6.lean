/-! ===== which kind a sender takes ===== -/
theorem hp_isOf (p q : Nat) (S : hs_M) : f_X0_isOf p q S = some (if S p 0 = S q 0 ∧ S p 1 = S q 1 then 1 else 0, S) := by
  unfold f_X0_isOf f_X0_isOf_0 f_X0_isOf_26 f_X0_isOf_27
  rw [hp_bg0, hp_bg1]
  by_cases c : S p 0 = S q 0
  · rw [if_pos c]
    by_cases d : S p 1 = S q 1
    · rw [if_pos d, if_pos ⟨c, d⟩]
    · rw [if_neg d, if_neg (fun w => d w.2)]
  · rw [if_neg c, if_neg (fun w => c w.1)]
theorem hp_along (p q : Nat) (S : hs_M) : f_X0_goesAlong p q S = some (if (S p 0 = S q 0 ∧ S p 1 = S q 1) ∧ S p 3 = S q 4 - S q 3 * S p 2 ∧ S p 4 = (S q 5 - S q 3) &&& 65535 then 1 else 0, S) := by
  unfold f_X0_goesAlong f_X0_goesAlong_0 f_X0_goesAlong_38 f_X0_goesAlong_39 f_X0_phaseOf f_X0_phaseOf_0 f_X0_offsetOf f_X0_offsetOf_0
  simp only [hp_isOf, hp_b2, hp_bg0, hp_bg1]
  by_cases c : S p 0 = S q 0 ∧ S p 1 = S q 1
  · rw [if_pos c, if_neg (by decide)]
    by_cases d : S p 3 = S q 4 - S q 3 * S p 2
    · rw [if_pos d]
      by_cases e : S p 4 = (S q 5 - S q 3) &&& 65535
      · rw [if_pos e, if_pos ⟨c, d, e⟩]
      · rw [if_neg e, if_neg (fun w => e w.2.2)]
    · rw [if_neg d, if_neg (fun w => d w.2.1)]
  · rw [if_neg c, if_pos rfl, if_neg (fun w => c w.1)]
/-- how far ahead, told apart from a number that was sent -/
def hp_bk (kd : Nat) : Int32 := if kd = 0 then 1 else if kd = 1 then 3 else 31
def hp_lb (kd : Nat) : Int32 := if kd = 0 then 15 else if kd = 1 then 63 else 1023
abbrev hp_ok (kd : Nat) (num x : Int32) : Prop := ((num - x + hp_bk kd) &&& 65535) ≤ hp_lb kd
theorem hp_cEn (p : Nat) (hN : hs_N (p + 8) = 4) {kd : Nat} (hkd : kd < 3) (num : Int32) (S : hs_M) {m : Nat} (hm : m ≤ 4) : ∀ (r n i : Nat), r + i = m → (∃ b : Int32, f_X5_isEnough_12 (n + r + 1) p (nI kd) num (nI m) (nI i) S = some (b, S) ∧ (b = 0 ∨ b = 1) ∧ (b = 1 ↔ ∀ j, i ≤ j → j < m → hp_ok kd num (S (p + 8) j)))
  | 0, n, i, h => by
    have hi : i = m := by omega
    subst hi
    refine ⟨1, ?_, Or.inr rfl, fun _ j h1 h2 => by omega, fun _ => rfl⟩
    show fb_X5_isEnough_12 _ _ _ _ _ _ _ = _
    unfold fb_X5_isEnough_12
    rw [if_pos (nI_le (Nat.le_refl i) (by omega)), hp_bg1]
  | r + 1, n, i, h => by
    have e0 : f_X5_isEnough_12 (n + (r + 1) + 1) p (nI kd) num (nI m) (nI i) S = if hp_ok kd num (S (p + 8) i) then f_X5_isEnough_12 (n + (r + 1)) p (nI kd) num (nI m) (nI (i + 1)) S else some (0, S) := by
      show fb_X5_isEnough_12 _ _ _ _ _ _ _ = _
      unfold fb_X5_isEnough_12
      have s4 : ∀ kd, kd < 3 → hs_sv 4 kd = hp_bk kd ∧ hs_sv 3 kd = hp_lb kd := by decide +kernel
      rw [if_neg (nI_ge (by omega) (by omega)), hN, hp_ix (show i < 4 by omega), hp_ix (show kd < hs_sn 4 from hkd), hp_l, hp_ix (show kd < hs_sn 3 from hkd), hp_l, nI_clamp (by omega), nI_clamp (by omega), hp_bg0, (s4 kd hkd).1, (s4 kd hkd).2, nI_1]
    rw [e0]
    by_cases c : hp_ok kd num (S (p + 8) i)
    · rw [if_pos c]
      obtain ⟨b, b1, b2, b3⟩ := hp_cEn p hN hkd num S hm r n (i + 1) (by omega)
      refine ⟨b, b1, b2, b3.trans ⟨fun w j h1 h2 => ?_, fun w j h1 h2 => w j (by omega) h2⟩⟩
      by_cases hj : j = i
      · subst hj; exact c
      · exact w j (by omega) h2
    · rw [if_neg c]
      exact ⟨0, rfl, Or.inl rfl, fun w => absurd w (by decide), fun w => absurd (w i (Nat.le_refl i) (by omega)) c⟩
theorem hp_bkE {kd : Nat} (hkd : kd < 3) (S : hs_M) : f_X7_backOf (nI kd) S = some (hp_bk kd, S) ∧ ∃ bt : Int32, f_X7_bitsOf (nI kd) S = some (bt, S) ∧ (1 : Int32) <<< (bt &&& 31) = hp_lb kd + 1 := by
  rcases (show kd = 0 ∨ kd = 1 ∨ kd = 2 by omega) with rfl | rfl | rfl
  · exact ⟨rfl, 4, rfl, by decide⟩
  · exact ⟨rfl, 6, rfl, by decide⟩
  · exact ⟨rfl, 10, rfl, by decide⟩
theorem hp_okN {kd : Nat} (hkd : kd < 3) (num x : Int32) : (hp_lb kd + 1 ≤ (num - x + hp_bk kd) &&& 65535) ↔ ¬ hp_ok kd num x := by
  unfold hp_ok
  obtain ⟨a, ha, ea⟩ := pk_andE (num - x + hp_bk kd) (m := 65535) 16 rfl
  rw [ea]
  rcases (show kd = 0 ∨ kd = 1 ∨ kd = 2 by omega) with rfl | rfl | rfl
  · show nI 16 ≤ nI a ↔ ¬ nI a ≤ nI 15
    rw [nI_leI (by omega) (by omega), nI_leI (by omega) (by omega)]
    omega
  · show nI 64 ≤ nI a ↔ ¬ nI a ≤ nI 63
    rw [nI_leI (by omega) (by omega), nI_leI (by omega) (by omega)]
    omega
  · show nI 1024 ≤ nI a ↔ ¬ nI a ≤ nI 1023
    rw [nI_leI (by omega) (by omega), nI_leI (by omega) (by omega)]
    omega
theorem hp_mEn {f : Nat} (hf : f < 4) {kd : Nat} (hkd : kd < 3) (num : Int32) (S : hs_M) {m : Nat} (hm : m ≤ 4) (hk : S 111 f = nI m) : ∀ (r n i : Nat) (a : Int32), r + i = m → (a = 0 ∨ a = 1) → (∃ b : Int32, f_X7_enough_6 (n + r + 1) (nI f) (nI kd) num a (nI i) S = some (b, S) ∧ (b = 0 ∨ b = 1) ∧ (b = 1 ↔ a = 1 ∧ ∀ j, i ≤ j → j < m → hp_ok kd num (S 112 (4 * f + j))))
  | 0, n, i, a, h, ha => by
    have hi : i = m := by omega
    subst hi
    refine ⟨a, ?_, ha, fun w => ⟨w, fun j h1 h2 => by omega⟩, fun w => w.1⟩
    show fb_X7_enough_6 _ _ _ _ _ _ _ = _
    unfold fb_X7_enough_6
    rw [hp_ix (show f < hs_N 111 from hf), nI_clamp (by omega), hk, if_pos (nI_le (Nat.le_refl i) (by omega)), hp_bg ha]
  | r + 1, n, i, a, h, ha => by
    obtain ⟨k1, bt, k2, k3⟩ := hp_bkE hkd S
    have e0 : f_X7_enough_6 (n + (r + 1) + 1) (nI f) (nI kd) num a (nI i) S = if a = 0 then f_X7_enough_6 (n + (r + 1)) (nI f) (nI kd) num 0 (nI (i + 1)) S else if hp_ok kd num (S 112 (4 * f + i)) then f_X7_enough_6 (n + (r + 1)) (nI f) (nI kd) num 1 (nI (i + 1)) S else f_X7_enough_6 (n + (r + 1)) (nI f) (nI kd) num 0 (nI (i + 1)) S := by
      show fb_X7_enough_6 _ _ _ _ _ _ _ = _
      unfold fb_X7_enough_6 f_X7_enough_62 f_X7_enough_63
      have e4 : (4 : Int32) * nI f + nI i = nI (4 * f + i) := by rw [show (4 : Int32) = nI 4 from rfl, pk_mul, nI_add]
      rw [hp_ix (show f < hs_N 111 from hf), nI_clamp (by omega), hk, if_neg (nI_ge (by omega) (by omega)), hp_l, e4, hp_ix (show 4 * f + i < hs_N 112 by show 4 * f + i < 16; omega), nI_clamp (by omega), k1, hp_b2, hp_l, k2, hp_b2, k3, nI_1]
      simp only [hp_l]
      by_cases c : a = 0
      · rw [if_pos c, if_pos c]
      · rw [if_neg c, if_neg c]
        by_cases d : hp_ok kd num (S 112 (4 * f + i))
        · rw [if_neg (fun w => (hp_okN hkd num _).mp w d), if_pos d]
        · rw [if_pos ((hp_okN hkd num _).mpr d), if_neg d]
    rw [e0]
    have next := fun (x : Int32) (hx : x = 0 ∨ x = 1) => hp_mEn hf hkd num S hm hk r n (i + 1) x (by omega) hx
    by_cases c : a = 0
    · rw [if_pos c]
      obtain ⟨b, b1, b2, b3⟩ := next 0 (Or.inl rfl)
      refine ⟨b, b1, b2, b3.trans ⟨fun w => absurd w.1 (by decide), fun w => absurd (c.symm.trans w.1) (by decide)⟩⟩
    · rw [if_neg c]
      have a1 : a = 1 := ha.resolve_left c
      by_cases d : hp_ok kd num (S 112 (4 * f + i))
      · rw [if_pos d]
        obtain ⟨b, b1, b2, b3⟩ := next 1 (Or.inr rfl)
        refine ⟨b, b1, b2, b3.trans ⟨fun w => ⟨a1, fun j h1 h2 => ?_⟩, fun w => ⟨rfl, fun j h1 h2 => w.2 j (by omega) h2⟩⟩⟩
        by_cases hj : j = i
        · subst hj; exact d
        · exact w.2 j (by omega) h2
      · rw [if_neg d]
        obtain ⟨b, b1, b2, b3⟩ := next 0 (Or.inl rfl)
        refine ⟨b, b1, b2, b3.trans ⟨fun w => absurd w.1 (by decide), fun w => absurd (w.2 i (Nat.le_refl i) (by omega)) d⟩⟩
/-- both ask alike -/
theorem hp_enough {n f : Nat} (hf : f < 4) (hn : n ≤ 1000) {Sc Sm : hs_M} (h : hp_RN n f Sc Sm) {kd : Nat} (hkd : kd < 3) (num : Int32) : ∃ b : Int32, (b = 0 ∨ b = 1) ∧ f_X5_isEnough (25 + f) (nI kd) num Sc = some (b, Sc) ∧ f_X7_enough (nI f) (nI kd) num Sm = some (b, Sm) := by
  obtain ⟨c, h1, h2, h3, h4⟩ := h
  have hN : hs_N (25 + f + 8) = 4 := by
    have key : ∀ f, f < 4 → hs_N (25 + f + 8) = 4 := by decide +kernel
    exact key f hf
  have hm4 : min c 4 ≤ 4 := Nat.min_le_right c 4
  obtain ⟨b, b1, b2, b3⟩ := hp_cEn (25 + f) hN hkd num Sc hm4 (min c 4) (39 - min c 4) 0 rfl
  obtain ⟨d, d1, d2, d3⟩ := hp_mEn hf hkd num Sm hm4 h3 (min c 4) (39 - min c 4) 0 1 rfl (Or.inr rfl)
  rw [show 39 - min c 4 + min c 4 + 1 = 40 by omega] at b1 d1
  have hmin : hs_min (nI c) 4 = nI (min c 4) := by
    unfold hs_min
    by_cases hc : 4 < c
    · rw [if_pos (show (4 : Int32) < nI c from nI_lt (a := 4) hc (by omega)), show min c 4 = 4 by omega]
      rfl
    · rw [if_neg (show ¬ (4 : Int32) < nI c from nI_nlt (b := c) (a := 4) (by omega) (by decide)), show min c 4 = c by omega]
  have hiff : b = 1 ↔ d = 1 := by
    rw [b3, d3]
    constructor
    · intro w
      refine ⟨rfl, fun j _ hj => ?_⟩
      rw [h4 j hj, show 33 + f = 25 + f + 8 by omega]
      refine w _ (Nat.zero_le _) ?_
      by_cases hc : 4 ≤ c
      · rw [show min c 4 = 4 by omega]; exact Nat.mod_lt _ (by decide)
      · rw [show min c 4 = c by omega] at hj ⊢
        rw [show c - c + j = j by omega, Nat.mod_eq_of_lt (by omega)]
        exact hj
    · rintro ⟨_, w⟩ i _ hi
      rw [show 25 + f + 8 = 33 + f by omega]
      by_cases hc : 4 ≤ c
      · have hm : min c 4 = 4 := by omega
        have q := w ((i + 4 - c % 4) % 4) (Nat.zero_le _) (by omega)
        rw [h4 _ (by omega), hm, show (c - 4 + (i + 4 - c % 4) % 4) % 4 = i by omega] at q
        exact q
      · have q := w i (Nat.zero_le _) hi
        rw [h4 i hi, show (c - min c 4 + i) % 4 = i by omega] at q
        exact q
  have hbd : b = d := by
    rcases b2 with rfl | rfl <;> rcases d2 with rfl | rfl
    · rfl
    · exact absurd (hiff.mpr rfl) (by decide)
    · exact absurd (hiff.mp rfl) (by decide)
    · rfl
  subst hbd
  refine ⟨b, b2, ?_, d1⟩
  unfold f_X5_isEnough f_X5_isEnough_0
  rw [hp_l, h2, hmin]
  exact b1
