/-! SPECS ZH: howMany, the call -/
def hmT (s x : Nat) : Int32 := if s < 1 then -4 else if (x + s - 1) / s ≤ 9 then E ((x + s - 1) / s) else -4
theorem ceil_le {s x n : Nat} (hs : 0 < s) : ((x + s - 1) / s ≤ n) = (x ≤ n * s) := by
  rw [eq_iff_iff]
  have h := Nat.div_lt_iff_lt_mul (x := x + s - 1) (y := n + 1) hs
  rw [Nat.succ_mul] at h
  omega
theorem f206_lp {d r b x : Nat} {A : AT} {μ0 : SMem} (hm : MA μ0) (hw : WF A) (hM : MQr (gi μ0 70) A (inA A)) (h73 : ∀ j, j < 87 → gi μ0 73 j = gi μ0 70 j) (hr : r < rcA A) (hb : b < bcA A) (hx : x < 41) (hx1 : 1 ≤ x) : ∀ m n (μ : SMem), n + m = 10 → 0 < n → SB (fun c => c = 70 ∨ c = 82) μ0 μ → (∀ j, j < 87 → gi μ 70 j = gi μ0 70 j) → (∀ n', n' < n → ¬ x ≤ n' * lsc (kdA A r) (fgA A r) (pgA A b) (ndA A b) (2 ^ pgA A b - 1) x) → ∃ μ', rn (d + 6) 206 19 [some (Sum.inr (Sum.inl (69))), some (Sum.inl (E r)), some (Sum.inl (E b)), some (Sum.inl (E x)), some (Sum.inl (-4)), some (Sum.inl (E n))] [] μ = some (Sum.inl (some (Sum.inl (hmT (lsc (kdA A r) (fgA A r) (pgA A b) (ndA A b) (2 ^ pgA A b - 1) x) x))), μ') ∧ SB (fun c => c = 70 ∨ c = 82) μ0 μ' ∧ (∀ j, j < 87 → gi μ' 70 j = gi μ0 70 j) := by
  have n4 : ((0 : Int32) ≤ -4) = False := eq_false (by decide)
  intro m
  induction m with
  | zero =>
    intro n μ hn h0 hs hj hno
    have : n = 10 := by omega
    subst this
    refine ⟨μ, ?_, hs, hj⟩
    have e : hmT (lsc (kdA A r) (fgA A r) (pgA A b) (ndA A b) (2 ^ pgA A b - 1) x) x = -4 := by
      unfold hmT
      split
      · rfl
      · have := hno 9 (by omega)
        rw [← ceil_le (by omega)] at this
        rw [if_neg this]
    rw [e, st206_19]
    simp only [st206_20, st206_21, st206_22, st206_23, st206_24, st206_25, st206_26, st206_27, st206_28, st206_29, st206_30, st206_31, st206_32, st206_33, st206_34, st206_35, st206_36, st206_37, st206_38, st206_39, st206_40, show (10 : Int32) ≤ E 10 from by decide, if_true]
  | succ m ih =>
    intro n μ hn h0 hs hj hno
    have hm1 := hm.sb hs
    have cx : ¬ (10 : Int32) ≤ E n := by rw [show (10 : Int32) = E 10 from rfl, E_le (by decide) (by omega)]; omega
    have hq : MQr (gi μ 70) A (inA A) := by
      obtain ⟨q1, q2, q3, q4⟩ := hM
      have r6 := hw.2.1
      have w1 := hw.1
      refine ⟨by rw [hj 0 (by omega)]; exact q1, by rw [hj 1 (by omega)]; exact q2, fun b' hb' => ?_, fun r' hr' => by rw [hj _ (by omega), hj _ (by omega)]; exact q4 r' hr'⟩
      obtain ⟨x1, x2, x3, x4⟩ := q3 b' hb'
      exact ⟨by rw [hj _ (by omega)]; exact x1, by rw [hj _ (by omega)]; exact x2, x3, fun p hp => by rw [hj _ (by omega)]; exact x4 p hp⟩
    obtain ⟨μ1, a1, a2⟩ := f205 (d := d) hm1 hw hq hr hb (show n < 10 by omega) h0 hx
    have hm2 := hm1.sb a2
    obtain ⟨μ2, b1, b2, b3⟩ := f184 (d := d + 4) hm2
    have hj2 : ∀ j, j < 87 → gi μ2 70 j = gi μ0 70 j := fun j hj9 => by rw [b3 j hj9, a2.2.2.2.2.2.2 73 (by omega), hs.2.2.2.2.2.2 73 (by omega), h73 j hj9]
    have hs2 : SB (fun c => c = 70 ∨ c = 82) μ0 μ2 := hs.tr (a2.tr (b2.wk (fun c e => Or.inl e)))
    have p1 : E n + 1 = E (n + 1) := E_add n 1
    by_cases c : x ≤ n * lsc (kdA A r) (fgA A r) (pgA A b) (ndA A b) (2 ^ pgA A b - 1) x
    · refine ⟨μ2, ?_, hs2, hj2⟩
      have e : hmT (lsc (kdA A r) (fgA A r) (pgA A b) (ndA A b) (2 ^ pgA A b - 1) x) x = E n := by
        have s0 : ¬ lsc (kdA A r) (fgA A r) (pgA A b) (ndA A b) (2 ^ pgA A b - 1) x < 1 := by
          intro h
          have : lsc (kdA A r) (fgA A r) (pgA A b) (ndA A b) (2 ^ pgA A b - 1) x = 0 := by omega
          rw [this, Nat.mul_zero] at c
          omega
        unfold hmT
        rw [if_neg s0]
        have h1 := hno (n - 1) (by omega)
        rw [← ceil_le (by omega)] at h1 c
        have : (x + lsc (kdA A r) (fgA A r) (pgA A b) (ndA A b) (2 ^ pgA A b - 1) x - 1) / lsc (kdA A r) (fgA A r) (pgA A b) (ndA A b) (2 ^ pgA A b - 1) x = n := by omega
        rw [this, if_pos (by omega)]
      rw [e, st206_19]
      simp only [c, if_true] at a1
      simp only [st206_20, st206_21, st206_22, st206_23, st206_24, st206_25, st206_26, st206_27, st206_28, st206_29, st206_30, st206_31, st206_32, st206_33, st206_34, st206_35, st206_36, st206_37, st206_38, st206_39, st206_40, cx, n4, hm1.1, a1, hm2.1, b1, p1, aft_some, Option.toList_some, Option.toList_none, List.cons_append, List.nil_append, br0, br1, br2, br3, zr01, zr02, n10, n01, ne_eq, not_true_eq_false, not_false_eq_true, if_true, if_false, true_and, and_true, and_self]
      rw [st206_19]
      by_cases c2 : (10 : Int32) ≤ E (n + 1)
      · simp only [st206_20, st206_21, st206_22, st206_23, st206_24, st206_25, st206_26, st206_27, st206_28, st206_29, st206_30, st206_31, st206_32, st206_33, st206_34, st206_35, st206_36, st206_37, st206_38, st206_39, st206_40, c2, aft_some, Option.toList_some, Option.toList_none, List.cons_append, List.nil_append, br0, br1, br2, br3, zr01, zr02, n10, n01, ne_eq, not_true_eq_false, not_false_eq_true, if_true, if_false, true_and, and_true, and_self]
      · simp only [st206_20, st206_21, st206_22, st206_23, st206_24, st206_25, st206_26, st206_27, st206_28, st206_29, st206_30, st206_31, st206_32, st206_33, st206_34, st206_35, st206_36, st206_37, st206_38, st206_39, st206_40, c2, E_ge0 (show n < 1000 by omega), aft_some, Option.toList_some, Option.toList_none, List.cons_append, List.nil_append, br0, br1, br2, br3, zr01, zr02, n10, n01, ne_eq, not_true_eq_false, not_false_eq_true, if_true, if_false, true_and, and_true, and_self]
    · obtain ⟨μ', y1, y2, y3⟩ := ih (n + 1) μ2 (by omega) (by omega) hs2 hj2 (fun n' hn' => by
        by_cases e : n' = n
        · rw [e]; exact c
        · exact hno n' (by omega))
      refine ⟨μ', ?_, y2, y3⟩
      rw [st206_19]
      simp only [c, if_false] at a1
      simp only [st206_20, st206_21, st206_22, st206_23, st206_24, st206_25, st206_26, st206_27, st206_28, st206_29, st206_30, st206_31, st206_32, st206_33, st206_34, st206_35, st206_36, st206_37, st206_38, st206_39, st206_40, cx, n4, hm1.1, a1, hm2.1, b1, p1, aft_some, Option.toList_some, Option.toList_none, List.cons_append, List.nil_append, br0, br1, br2, br3, zr01, zr02, n10, n01, ne_eq, not_true_eq_false, not_false_eq_true, if_true, if_false, true_and, and_true, and_self]
      exact y1
theorem Both.r82 {A : AT} {μ μ' : SMem} (h : Both μ A) (hs : SB (fun c => c = 70 ∨ c = 73 ∨ c = 82) μ μ') (e : ∀ j, j < 87 → gi μ' 70 j = gi μ 70 j) : Both μ' A := by
  have h0 := h
  obtain ⟨hm, hc, hw, ht, hr⟩ := h
  exact ⟨hm.sb hs, hc.sb hs, hw, ht.sb hs (fun c e => ⟨by omega, scr_tag h0 (by unfold Scr; omega)⟩), hr.ext hw e⟩
theorem in1_40 {x : Int32} (c : 1 ≤ x ∧ x ≤ 40) : ∃ N, N < 41 ∧ 1 ≤ N ∧ x = E N := by
  have a1 := Int32.le_iff_toInt_le.mp c.1
  have a2 := Int32.le_iff_toInt_le.mp c.2
  have e1 : (1 : Int32).toInt = 1 := rfl
  have e2 : (40 : Int32).toInt = 40 := rfl
  have e0 : (0 : Int32).toInt = 0 := rfl
  obtain ⟨N, h1, h2⟩ := E_of (x := x) (n := 41) (Int32.le_iff_toInt_le.mpr (by omega)) (Int32.lt_iff_toInt_lt.mpr (by have e0 : (E 41).toInt = 41 := rfl; omega)) (by decide)
  refine ⟨N, h1, ?_, h2⟩
  rw [h2, E_toInt (by omega)] at a1
  omega
theorem g99 {d : Nat} {x y z : Int32} {A Ai : AT} {im : Nat} {Hs : Nat → HT} {μ : SMem} (h : INVw μ A Ai im Hs) : ∃ v μ2, cl (d + 12) 99 [Sum.inr (Sum.inl (2)), Sum.inl (x), Sum.inl (y), Sum.inl (z)] μ = some (Sum.inl (some (Sum.inl (v))), μ) ∧ cl (d + 12) 206 [Sum.inr (Sum.inl (69)), Sum.inl (x), Sum.inl (y), Sum.inl (z)] μ = some (Sum.inl (some (Sum.inl (v))), μ2) ∧ INVw μ2 A Ai im Hs ∧ sz μ2 = sz μ ∧ sl μ2 = sl μ := by
  have hB := h.1
  obtain ⟨hm, hc, hw, ht, hr⟩ := hB
  have hq := hr.mq hw
  by_cases c1 : 0 ≤ x ∧ x < E (rcA A)
  · obtain ⟨r, hr1, rfl⟩ := E_of c1.1 c1.2 (by have := hw.2.1; omega)
    obtain ⟨r0, hrd⟩ := ht.2.2.2.2.2 r hr1
    have r9 : r < 1000 := by have := hw.2.1; omega
    by_cases c2 : 0 ≤ y ∧ y < E (bcA A)
    · obtain ⟨b, hb, rfl⟩ := E_of c2.1 c2.2 (by have := hw.1; omega)
      have b9 : b < 4 := by have := hw.1; omega
      have e0 : (3 + 3 + 3 * b = 0) = False := eq_false (by omega)
      have hbk := ht.bk b9
      obtain ⟨u1, u2, u3, u4⟩ := ht.2.2.2.2.1 b b9
      obtain ⟨a1, a2, a3, a4, _⟩ := hw.2.2.1 b hb
      by_cases c3 : 1 ≤ z ∧ z ≤ 40
      · obtain ⟨N, hN, hN1, rfl⟩ := in1_40 c3
        have c31 : ¬ E N < 1 := Int32.not_lt.mpr c3.1
        have hW := p2_lt9 _ a2
        have h126 := fun d => f126 (d := d) (N := N) (by omega) hW a2 a1 a4 hrd hbk
        obtain ⟨μa, b1, b2, b3⟩ := f183 (d := d + 10) hm
        have hqa : MQr (gi μa 70) A (inA A) := by rw [b2.2.2.2.2.2.2 70 (by omega)]; exact hq
        have hma := hm.sb b2
        have h73 : ∀ j, j < 87 → gi μa 73 j = gi μa 70 j := fun j hj => by rw [b3 j hj, b2.2.2.2.2.2.2 70 (by omega)]
        obtain ⟨μb, l1, l2, l3⟩ := f206_lp (d := d + 6) hma hw hqa h73 hr1 hb hN hN1 9 1 μa (by omega) (by omega) SB.rf (fun j _ => rfl) (fun n' hn' => by
          have : n' = 0 := by omega
          rw [this, Nat.zero_mul]
          omega)
        have hsl := lsc_le (k := kdA A r) (f := fgA A r) (pg := pgA A b) (nd := ndA A b) N (2 ^ pgA A b - 1)
        have hs : SB (fun c => c = 70 ∨ c = 73 ∨ c = 82) μ μb := (b2.wk (fun c e => by omega)).tr (l2.wk (fun c e => by omega))
        have hBb := h.1.r82 hs (fun j hj => by rw [l3 j hj, b2.2.2.2.2.2.2 70 (by omega)])
        refine ⟨hmT (lsc (kdA A r) (fgA A r) (pgA A b) (ndA A b) (2 ^ pgA A b - 1) N) N, μb, ?_, ?_, h.up (hs.wk (fun c e => by unfold Scr; omega)) (fun c h => h) (by rw [hs.2.2.2.2.2.2 69 (by omega)]) hBb, hs.2.2.2.2.1, hs.2.2.2.2.2.1⟩
        · show rn (d + 12) 99 0 [some (Sum.inr (Sum.inl (2))), some (Sum.inl (E r)), some (Sum.inl (E b)), some (Sum.inl (E N)), none, none, none, none] [] μ = _
          generalize lsc (kdA A r) (fgA A r) (pgA A b) (ndA A b) (2 ^ pgA A b - 1) N = s at *
          by_cases s0 : s < 1
          · have s1 : ¬ 1 ≤ s := by omega
            simp only [st99_0, st99_1, st99_2, st99_3, st99_4, st99_5, st99_6, st99_7, st99_8, st99_9, st99_10, st99_11, st99_12, st99_13, st99_14, st99_15, st99_16, st99_17, st99_18, st99_19, st99_20, st99_21, st99_22, st99_23, st99_24, st99_25, st99_26, st99_27, st99_28, st99_29, st99_30, st99_31, st99_32, st99_33, st99_34, st99_35, st99_36, st99_37, st99_38, st99_39, st99_40, st99_41, st99_42, st99_43, st99_44, st99_45, st99_46, st99_47, st99_48, hc.1, hc.2.1, ht.1.1, f67 hw ht, f68 hw ht, c1, c2, c3, c31, E_n r9, E_n (show b < 1000 by omega), r0, e0, hbk.1.1, f9 a2 hbk.1.1 u1, h126, E_1le (show s < 1000 by omega), s1, hmT, s0, aft_some, Option.toList_some, Option.toList_none, List.cons_append, List.nil_append, br0, br1, br2, br3, zr01, zr02, n10, n01, ne_eq, not_true_eq_false, not_false_eq_true, if_true, if_false, true_and, and_true, and_self]
          · have s1 : 1 ≤ s := by omega
            have q1 : E N + E s = E (N + s) := E_add N s
            have q2 : E (N + s) - 1 = E (N + s - 1) := E_sub (b := 1) (by omega)
            have q3 : E (N + s - 1) / E s = E ((N + s - 1) / s) := E_div (by omega) (by omega)
            have q5 : (N + s - 1) / s ≤ N + s - 1 := Nat.div_le_self _ _
            have q4 : (E ((N + s - 1) / s) ≤ 9) = ((N + s - 1) / s ≤ 9) := by rw [show (9 : Int32) = E 9 from rfl]; exact E_leE (by omega) (by decide)
            have s2 : ¬ s = 0 := by omega
            by_cases s9 : (N + s - 1) / s ≤ 9
            · simp only [st99_0, st99_1, st99_2, st99_3, st99_4, st99_5, st99_6, st99_7, st99_8, st99_9, st99_10, st99_11, st99_12, st99_13, st99_14, st99_15, st99_16, st99_17, st99_18, st99_19, st99_20, st99_21, st99_22, st99_23, st99_24, st99_25, st99_26, st99_27, st99_28, st99_29, st99_30, st99_31, st99_32, st99_33, st99_34, st99_35, st99_36, st99_37, st99_38, st99_39, st99_40, st99_41, st99_42, st99_43, st99_44, st99_45, st99_46, st99_47, st99_48, hc.1, hc.2.1, ht.1.1, f67 hw ht, f68 hw ht, c1, c2, c3, c31, E_n r9, E_n (show b < 1000 by omega), r0, e0, hbk.1.1, f9 a2 hbk.1.1 u1, h126, E_1le (show s < 1000 by omega), s1, hmT, s0, q1, q2, q3, q4, s9, E_z (show s < 1000 by omega), s2, aft_some, Option.toList_some, Option.toList_none, List.cons_append, List.nil_append, br0, br1, br2, br3, zr01, zr02, n10, n01, ne_eq, not_true_eq_false, not_false_eq_true, if_true, if_false, true_and, and_true, and_self]
            · simp only [st99_0, st99_1, st99_2, st99_3, st99_4, st99_5, st99_6, st99_7, st99_8, st99_9, st99_10, st99_11, st99_12, st99_13, st99_14, st99_15, st99_16, st99_17, st99_18, st99_19, st99_20, st99_21, st99_22, st99_23, st99_24, st99_25, st99_26, st99_27, st99_28, st99_29, st99_30, st99_31, st99_32, st99_33, st99_34, st99_35, st99_36, st99_37, st99_38, st99_39, st99_40, st99_41, st99_42, st99_43, st99_44, st99_45, st99_46, st99_47, st99_48, hc.1, hc.2.1, ht.1.1, f67 hw ht, f68 hw ht, c1, c2, c3, c31, E_n r9, E_n (show b < 1000 by omega), r0, e0, hbk.1.1, f9 a2 hbk.1.1 u1, h126, E_1le (show s < 1000 by omega), s1, hmT, s0, q1, q2, q3, q4, s9, E_z (show s < 1000 by omega), s2, aft_some, Option.toList_some, Option.toList_none, List.cons_append, List.nil_append, br0, br1, br2, br3, zr01, zr02, n10, n01, ne_eq, not_true_eq_false, not_false_eq_true, if_true, if_false, true_and, and_true, and_self]
        · show rn (d + 12) 206 0 [some (Sum.inr (Sum.inl (69))), some (Sum.inl (E r)), some (Sum.inl (E b)), some (Sum.inl (E N)), none, none] [] μ = _
          simp only [st206_0, st206_1, st206_2, st206_3, st206_4, st206_5, st206_6, st206_7, st206_8, st206_9, st206_10, st206_11, st206_12, st206_13, st206_14, st206_15, st206_16, st206_17, st206_18, hm.1, f176 hm hw hq, c1, c2, f139, l_le1, l_le40, c3, b1, aft_some, Option.toList_some, Option.toList_none, List.cons_append, List.nil_append, br0, br1, br2, br3, zr01, zr02, n10, n01, ne_eq, not_true_eq_false, not_false_eq_true, if_true, if_false, true_and, and_true, and_self]
          exact l1
      · refine ⟨-1, μ, ?_, ?_, h, rfl, rfl⟩
        · show rn (d + 12) 99 0 [some (Sum.inr (Sum.inl (2))), some (Sum.inl (E r)), some (Sum.inl (E b)), some (Sum.inl (z)), none, none, none, none] [] μ = _
          by_cases z1 : z < 1
          · simp only [st99_0, st99_1, st99_2, st99_3, st99_4, st99_5, st99_6, st99_7, st99_8, st99_9, st99_10, st99_11, st99_12, st99_13, st99_14, st99_15, st99_16, st99_17, st99_18, st99_19, st99_20, st99_21, st99_22, st99_23, st99_24, st99_25, st99_26, st99_27, st99_28, st99_29, st99_30, st99_31, st99_32, st99_33, st99_34, st99_35, st99_36, st99_37, st99_38, st99_39, st99_40, st99_41, st99_42, st99_43, st99_44, st99_45, st99_46, st99_47, st99_48, hc.1, hc.2.1, ht.1.1, f67 hw ht, f68 hw ht, c1, c2, E_n r9, E_n (show b < 1000 by omega), r0, e0, z1, aft_some, Option.toList_some, Option.toList_none, List.cons_append, List.nil_append, br0, br1, br2, br3, zr01, zr02, n10, n01, ne_eq, not_true_eq_false, not_false_eq_true, if_true, if_false, true_and, and_true, and_self]
          · have z2 : ¬ z ≤ 40 := fun e => c3 ⟨Int32.not_lt.mp z1, e⟩
            simp only [st99_0, st99_1, st99_2, st99_3, st99_4, st99_5, st99_6, st99_7, st99_8, st99_9, st99_10, st99_11, st99_12, st99_13, st99_14, st99_15, st99_16, st99_17, st99_18, st99_19, st99_20, st99_21, st99_22, st99_23, st99_24, st99_25, st99_26, st99_27, st99_28, st99_29, st99_30, st99_31, st99_32, st99_33, st99_34, st99_35, st99_36, st99_37, st99_38, st99_39, st99_40, st99_41, st99_42, st99_43, st99_44, st99_45, st99_46, st99_47, st99_48, hc.1, hc.2.1, ht.1.1, f67 hw ht, f68 hw ht, c1, c2, E_n r9, E_n (show b < 1000 by omega), r0, e0, z1, z2, aft_some, Option.toList_some, Option.toList_none, List.cons_append, List.nil_append, br0, br1, br2, br3, zr01, zr02, n10, n01, ne_eq, not_true_eq_false, not_false_eq_true, if_true, if_false, true_and, and_true, and_self]
        · show rn (d + 12) 206 0 [some (Sum.inr (Sum.inl (69))), some (Sum.inl (E r)), some (Sum.inl (E b)), some (Sum.inl (z)), none, none] [] μ = _
          simp only [st206_0, st206_1, st206_2, st206_3, st206_4, st206_5, st206_6, st206_7, st206_8, st206_9, st206_10, st206_11, st206_12, st206_13, st206_14, st206_15, st206_16, st206_17, st206_18, hm.1, f176 hm hw hq, c1, c2, f139, l_le1, l_le40, c3, aft_some, Option.toList_some, Option.toList_none, List.cons_append, List.nil_append, br0, br1, br2, br3, zr01, zr02, n10, n01, ne_eq, not_true_eq_false, not_false_eq_true, if_true, if_false, true_and, and_true, and_self]
    · refine ⟨-1, μ, ?_, ?_, h, rfl, rfl⟩
      · show rn (d + 12) 99 0 [some (Sum.inr (Sum.inl (2))), some (Sum.inl (E r)), some (Sum.inl (y)), some (Sum.inl (z)), none, none, none, none] [] μ = _
        simp only [st99_0, st99_1, st99_2, st99_3, st99_4, st99_5, st99_6, st99_7, st99_8, st99_9, st99_10, st99_11, st99_12, st99_13, st99_14, st99_15, st99_16, st99_17, st99_18, st99_19, st99_20, st99_21, st99_22, st99_23, st99_24, st99_25, st99_26, st99_27, st99_28, st99_29, st99_30, st99_31, st99_32, st99_33, st99_34, st99_35, st99_36, st99_37, st99_38, st99_39, st99_40, st99_41, st99_42, st99_43, st99_44, st99_45, st99_46, st99_47, st99_48, hc.1, hc.2.1, ht.1.1, f67 hw ht, f68 hw ht, c1, c2, E_n r9, r0, aft_some, Option.toList_some, Option.toList_none, List.cons_append, List.nil_append, br0, br1, br2, br3, zr01, zr02, n10, n01, ne_eq, not_true_eq_false, not_false_eq_true, if_true, if_false, true_and, and_true, and_self]
      · show rn (d + 12) 206 0 [some (Sum.inr (Sum.inl (69))), some (Sum.inl (E r)), some (Sum.inl (y)), some (Sum.inl (z)), none, none] [] μ = _
        simp only [st206_0, st206_1, st206_2, st206_3, st206_4, st206_5, st206_6, st206_7, st206_8, st206_9, st206_10, st206_11, st206_12, st206_13, st206_14, st206_15, st206_16, st206_17, st206_18, hm.1, f176 hm hw hq, c1, c2, and_false, aft_some, Option.toList_some, Option.toList_none, List.cons_append, List.nil_append, br0, br1, br2, br3, zr01, zr02, n10, n01, ne_eq, not_true_eq_false, not_false_eq_true, if_true, if_false, true_and, and_true, and_self]
  · refine ⟨-1, μ, ?_, ?_, h, rfl, rfl⟩
    · show rn (d + 12) 99 0 [some (Sum.inr (Sum.inl (2))), some (Sum.inl (x)), some (Sum.inl (y)), some (Sum.inl (z)), none, none, none, none] [] μ = _
      by_cases c2 : 0 ≤ y ∧ y < E (bcA A)
      · have b0 : (3 + 3 + 3 * y.toNatClampNeg = 0) = False := eq_false (by omega)
        simp only [st99_0, st99_1, st99_2, st99_3, st99_4, st99_5, st99_6, st99_7, st99_8, st99_9, st99_10, st99_11, st99_12, st99_13, st99_14, st99_15, st99_16, st99_17, st99_18, st99_19, st99_20, st99_21, st99_22, st99_23, st99_24, st99_25, st99_26, st99_27, st99_28, st99_29, st99_30, st99_31, st99_32, st99_33, st99_34, st99_35, st99_36, st99_37, st99_38, st99_39, st99_40, st99_41, st99_42, st99_43, st99_44, st99_45, st99_46, st99_47, st99_48, hc.1, hc.2.1, ht.1.1, f67 hw ht, f68 hw ht, c1, c2, b0, aft_some, Option.toList_some, Option.toList_none, List.cons_append, List.nil_append, br0, br1, br2, br3, zr01, zr02, n10, n01, ne_eq, not_true_eq_false, not_false_eq_true, if_true, if_false, true_and, and_true, and_self]
      · simp only [st99_0, st99_1, st99_2, st99_3, st99_4, st99_5, st99_6, st99_7, st99_8, st99_9, st99_10, st99_11, st99_12, st99_13, st99_14, st99_15, st99_16, st99_17, st99_18, st99_19, st99_20, st99_21, st99_22, st99_23, st99_24, st99_25, st99_26, st99_27, st99_28, st99_29, st99_30, st99_31, st99_32, st99_33, st99_34, st99_35, st99_36, st99_37, st99_38, st99_39, st99_40, st99_41, st99_42, st99_43, st99_44, st99_45, st99_46, st99_47, st99_48, hc.1, hc.2.1, ht.1.1, f67 hw ht, f68 hw ht, c1, c2, aft_some, Option.toList_some, Option.toList_none, List.cons_append, List.nil_append, br0, br1, br2, br3, zr01, zr02, n10, n01, ne_eq, not_true_eq_false, not_false_eq_true, if_true, if_false, true_and, and_true, and_self]
    · show rn (d + 12) 206 0 [some (Sum.inr (Sum.inl (69))), some (Sum.inl (x)), some (Sum.inl (y)), some (Sum.inl (z)), none, none] [] μ = _
      simp only [st206_0, st206_1, st206_2, st206_3, st206_4, st206_5, st206_6, st206_7, st206_8, st206_9, st206_10, st206_11, st206_12, st206_13, st206_14, st206_15, st206_16, st206_17, st206_18, hm.1, f176 hm hw hq, c1, false_and, aft_some, Option.toList_some, Option.toList_none, List.cons_append, List.nil_append, br0, br1, br2, br3, zr01, zr02, n10, n01, ne_eq, not_true_eq_false, not_false_eq_true, if_true, if_false, true_and, and_true, and_self]
