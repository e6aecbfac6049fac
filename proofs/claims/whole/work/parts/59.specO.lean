/-! SPECS O: kinds, fees; reader, fee -/
theorem fkn {d n k f : Nat} {μ : SMem} (h : RdA μ n k f) : cl d (dvy_5 (tg μ n)) [Sum.inr (Sum.inl (n))] μ = some (Sum.inl (some (Sum.inl (E k))), μ) := by
  have hk : k = 0 ∨ k = 1 ∨ k = 2 ∨ k = 3 ∨ k = 4 ∨ k = 5 ∨ k = 6 ∨ k = 7 := by have := h.2.2.1; omega
  rcases hk with rfl | rfl | rfl | rfl | rfl | rfl | rfl | rfl <;> rw [h.1]
  · show rn d 45 0 [some (Sum.inr (Sum.inl (n)))] [] μ = _
    simp only [st45_0, st45_1]
    rfl
  · show rn d 30 0 [some (Sum.inr (Sum.inl (n)))] [] μ = _
    simp only [st30_0, st30_1]
    rfl
  · show rn d 24 0 [some (Sum.inr (Sum.inl (n)))] [] μ = _
    simp only [st24_0, st24_1]
    rfl
  · show rn d 39 0 [some (Sum.inr (Sum.inl (n)))] [] μ = _
    simp only [st39_0, st39_1]
    rfl
  · show rn d 19 0 [some (Sum.inr (Sum.inl (n)))] [] μ = _
    simp only [st19_0, st19_1]
    rfl
  · show rn d 1 0 [some (Sum.inr (Sum.inl (n)))] [] μ = _
    simp only [st1_0, st1_1]
    rfl
  · show rn d 60 0 [some (Sum.inr (Sum.inl (n)))] [] μ = _
    simp only [st60_0, st60_1]
    rfl
  · show rn d 34 0 [some (Sum.inr (Sum.inl (n)))] [] μ = _
    simp only [st34_0, st34_1]
    rfl
def feeK (k f : Nat) : Int32 := match k with
  | 1 => 3 + E f
  | 2 => 2
  | 3 => 6 + 2 * E f
  | 4 => 3 * (E f + 1)
  | 5 => 8
  | 6 => 3 - E f
  | 7 => 6
  | _ => 3
theorem f50 {d n : Nat} {μ : SMem} : cl d 50 [Sum.inr (Sum.inl (n))] μ = some (Sum.inl (some (Sum.inl (3))), μ) := by
  show rn d 50 0 [some (Sum.inr (Sum.inl (n)))] [] μ = _
  simp only [st50_0, st50_1]
theorem f32 {d n : Nat} {μ : SMem} (h : isRd (tg μ n) = true) : cl (d + 1) 32 [Sum.inr (Sum.inl (n))] μ = some (Sum.inl (some (Sum.inl (3 + gi μ n 0))), μ) := by
  show rn (d + 1) 32 0 [some (Sum.inr (Sum.inl (n)))] [] μ = _
  simp only [st32_0, st32_1, st32_2, st32_3, st32_4, st32_5, h, f50, aft_some, Option.toList_some, Option.toList_none, List.cons_append, List.nil_append, br0, br1, br2, br3, zr01, zr02, n10, n01, ne_eq, not_true_eq_false, not_false_eq_true, if_true, if_false, true_and, and_true, and_self]
theorem f28 {d n : Nat} {μ : SMem} (h : isRd (tg μ n) = true) : cl (d + 1) 28 [Sum.inr (Sum.inl (n))] μ = some (Sum.inl (some (Sum.inl (2))), μ) := by
  show rn (d + 1) 28 0 [some (Sum.inr (Sum.inl (n)))] [] μ = _
  simp only [st28_0, st28_1, st28_2, st28_3, st28_4, h, f50, aft_some, Option.toList_some, Option.toList_none, List.cons_append, List.nil_append, br0, br1, br2, br3, zr01, zr02, n10, n01, ne_eq, not_true_eq_false, not_false_eq_true, if_true, if_false, true_and, and_true, and_self]
  rfl
theorem f63 {d n : Nat} {μ : SMem} (h : isRd (tg μ n) = true) : cl (d + 1) 63 [Sum.inr (Sum.inl (n))] μ = some (Sum.inl (some (Sum.inl (3 - gi μ n 0))), μ) := by
  show rn (d + 1) 63 0 [some (Sum.inr (Sum.inl (n)))] [] μ = _
  simp only [st63_0, st63_1, st63_2, st63_3, st63_4, st63_5, h, f50, aft_some, Option.toList_some, Option.toList_none, List.cons_append, List.nil_append, br0, br1, br2, br3, zr01, zr02, n10, n01, ne_eq, not_true_eq_false, not_false_eq_true, if_true, if_false, true_and, and_true, and_self]
theorem f22 {d n : Nat} {μ : SMem} (h : isRd (tg μ n) = true) : cl (d + 1) 22 [Sum.inr (Sum.inl (n))] μ = some (Sum.inl (some (Sum.inl (3 * (gi μ n 0 + 1)))), μ) := by
  show rn (d + 1) 22 0 [some (Sum.inr (Sum.inl (n)))] [] μ = _
  simp only [st22_0, st22_1, st22_2, st22_3, st22_4, st22_5, st22_6, st22_7, h, f50, aft_some, Option.toList_some, Option.toList_none, List.cons_append, List.nil_append, br0, br1, br2, br3, zr01, zr02, n10, n01, ne_eq, not_true_eq_false, not_false_eq_true, if_true, if_false, true_and, and_true, and_self]
theorem f3 {d n : Nat} {μ : SMem} (h : isRd (tg μ n) = true) : cl (d + 2) 3 [Sum.inr (Sum.inl (n))] μ = some (Sum.inl (some (Sum.inl (8))), μ) := by
  show rn (d + 2) 3 0 [some (Sum.inr (Sum.inl (n)))] [] μ = _
  simp only [st3_0, st3_1, st3_2, st3_3, st3_4, h, f28, aft_some, Option.toList_some, Option.toList_none, List.cons_append, List.nil_append, br0, br1, br2, br3, zr01, zr02, n10, n01, ne_eq, not_true_eq_false, not_false_eq_true, if_true, if_false, true_and, and_true, and_self]
  rfl
theorem f36 {d n : Nat} {μ : SMem} (h : isRd (tg μ n) = true) : cl (d + 2) 36 [Sum.inr (Sum.inl (n))] μ = some (Sum.inl (some (Sum.inl (6))), μ) := by
  show rn (d + 2) 36 0 [some (Sum.inr (Sum.inl (n)))] [] μ = _
  simp only [st36_0, st36_1, st36_2, st36_3, st36_4, h, f28, aft_some, Option.toList_some, Option.toList_none, List.cons_append, List.nil_append, br0, br1, br2, br3, zr01, zr02, n10, n01, ne_eq, not_true_eq_false, not_false_eq_true, if_true, if_false, true_and, and_true, and_self]
  rfl
theorem f42 {d n : Nat} {μ : SMem} (h : isRd (tg μ n) = true) : cl (d + 2) 42 [Sum.inr (Sum.inl (n))] μ = some (Sum.inl (some (Sum.inl (2 * (3 + gi μ n 0)))), μ) := by
  show rn (d + 2) 42 0 [some (Sum.inr (Sum.inl (n)))] [] μ = _
  simp only [st42_0, st42_1, st42_2, st42_3, st42_4, h, f32, aft_some, Option.toList_some, Option.toList_none, List.cons_append, List.nil_append, br0, br1, br2, br3, zr01, zr02, n10, n01, ne_eq, not_true_eq_false, not_false_eq_true, if_true, if_false, true_and, and_true, and_self]
theorem fee3 : ∀ f, f < 10 → (2 : Int32) * (3 + E f) = 6 + 2 * E f := by decide
theorem ffee {d n k f : Nat} {μ : SMem} (h : RdA μ n k f) : cl (d + 2) (dvy_6 (tg μ n)) [Sum.inr (Sum.inl (n))] μ = some (Sum.inl (some (Sum.inl (feeK k f))), μ) := by
  have hrd := h.rd
  have hk : k = 0 ∨ k = 1 ∨ k = 2 ∨ k = 3 ∨ k = 4 ∨ k = 5 ∨ k = 6 ∨ k = 7 := by have := h.2.2.1; omega
  have hf := h.2.2.2
  have hg := h.2.1
  rcases hk with rfl | rfl | rfl | rfl | rfl | rfl | rfl | rfl <;> rw [h.1]
  · exact f50
  · refine (f32 (d := d + 1) hrd).trans ?_
    rw [hg]; rfl
  · exact f28 (d := d + 1) hrd
  · refine (f42 hrd).trans ?_
    rw [hg, fee3 f hf]; rfl
  · refine (f22 (d := d + 1) hrd).trans ?_
    rw [hg]; rfl
  · exact f3 hrd
  · refine (f63 (d := d + 1) hrd).trans ?_
    rw [hg]; rfl
  · exact f36 hrd
theorem f214 {d k f : Nat} (hk : k < 8) {μ : SMem} : cl d 214 [Sum.inl (E k), Sum.inl (E f)] μ = some (Sum.inl (some (Sum.inl (feeK k f))), μ) := by
  show rn d 214 0 [some (Sum.inl (E k)), some (Sum.inl (E f))] [] μ = _
  simp only [st214_0, st214_1, st214_2, st214_3, st214_4, st214_5, st214_6, st214_7, st214_8, st214_9, st214_10, st214_11, st214_12, st214_13, st214_14, st214_15, st214_16, st214_17, st214_18, st214_19, st214_20, st214_21, st214_22, st214_23, st214_24, st214_25, st214_26, st214_27, st214_28, st214_29, Ek1 k hk, Ek2 k hk, Ek3 k hk, Ek4 k hk, Ek5 k hk, Ek6 k hk, Ek7 k hk]
  have hk9 : k = 0 ∨ k = 1 ∨ k = 2 ∨ k = 3 ∨ k = 4 ∨ k = 5 ∨ k = 6 ∨ k = 7 := by omega
  rcases hk9 with rfl | rfl | rfl | rfl | rfl | rfl | rfl | rfl <;> simp [feeK]
theorem g81 {d : Nat} {x y : Int32} {A : AT} {μ : SMem} (h : Both μ A) : ∃ v, cl (d + 12) 81 [Sum.inr (Sum.inl (2)), Sum.inl (x), Sum.inl (y)] μ = some (Sum.inl (some (Sum.inl (v))), μ) ∧ cl (d + 12) 174 [Sum.inr (Sum.inl (69)), Sum.inl (x), Sum.inl (y)] μ = some (Sum.inl (some (Sum.inl (v))), μ) := by
  obtain ⟨hm, hc, hw, ht, hr⟩ := h
  have w2 := hw.2.1
  by_cases c : 0 ≤ x ∧ x < E (rcA A)
  · obtain ⟨r, hr1, rfl⟩ := E_of c.1 c.2 (by omega)
    obtain ⟨r0, hrd⟩ := ht.2.2.2.2.2 r hr1
    have r6 : r < 6 := by omega
    have hrd1 := hrd.rd
    obtain ⟨v1, v2⟩ := hr.2.2.2.2 r hr1
    by_cases y0 : y = 0
    · subst y0
      refine ⟨E (kdA A r), ?_, ?_⟩
      · show rn (d + 12) 81 0 [some (Sum.inr (Sum.inl (2))), some (Sum.inl (E r)), some (Sum.inl (0)), none] [] μ = _
        simp only [st81_0, st81_1, st81_2, st81_3, st81_4, st81_5, st81_6, st81_7, st81_8, st81_9, st81_10, st81_11, st81_12_t0, st81_12_t2, st81_12_t3, st81_12_t4, st81_12_t5, st81_12_t6, st81_12_t7, st81_12_t9, st81_13, st81_14, st81_15, st81_16, st81_17, st81_18, st81_19, st81_20, st81_21, st81_22, st81_23, st81_12v, hc.1, hc.2.1, ht.1.1, f68 hw ht, c, E_n (show r < 1000 by omega), r0, st81_12v hrd1, fkn hrd, aft_some, Option.toList_some, Option.toList_none, List.cons_append, List.nil_append, br0, br1, br2, br3, zr01, zr02, n10, n01, ne_eq, not_true_eq_false, not_false_eq_true, if_true, if_false, true_and, and_true, and_self]
      · show rn (d + 12) 174 0 [some (Sum.inr (Sum.inl (69))), some (Sum.inl (E r)), some (Sum.inl (0))] [] μ = _
        simp only [st174_0, st174_1, st174_2, st174_3, st174_4, st174_5, st174_6, st174_7, st174_8, st174_9, st174_10, st174_11, st174_12, st174_13, st174_14, st174_15, st174_16, st174_17, st174_18, st174_19, st174_20, st174_21, st174_22, st174_23, st174_24, st174_25, st174_26, st174_27, st174_28, hm.1, f142 hm hw hr.2.1, c, f150 r6 hm, v1, f139, l_ge0, isin2, z00, z02, aft_some, Option.toList_some, Option.toList_none, List.cons_append, List.nil_append, br0, br1, br2, br3, zr01, zr02, n10, n01, ne_eq, not_true_eq_false, not_false_eq_true, if_true, if_false, true_and, and_true, and_self]
    · by_cases y1 : y = 1
      · subst y1
        refine ⟨E (fgA A r), ?_, ?_⟩
        · show rn (d + 12) 81 0 [some (Sum.inr (Sum.inl (2))), some (Sum.inl (E r)), some (Sum.inl (1)), none] [] μ = _
          simp only [st81_0, st81_1, st81_2, st81_3, st81_4, st81_5, st81_6, st81_7, st81_8, st81_9, st81_10, st81_11, st81_12_t0, st81_12_t2, st81_12_t3, st81_12_t4, st81_12_t5, st81_12_t6, st81_12_t7, st81_12_t9, st81_13, st81_14, st81_15, st81_16, st81_17, st81_18, st81_19, st81_20, st81_21, st81_22, st81_23, st81_12v, hc.1, hc.2.1, ht.1.1, f68 hw ht, c, E_n (show r < 1000 by omega), r0, hrd1, hrd.2.1, aft_some, Option.toList_some, Option.toList_none, List.cons_append, List.nil_append, br0, br1, br2, br3, zr01, zr02, n10, n01, ne_eq, not_true_eq_false, not_false_eq_true, if_true, if_false, true_and, and_true, and_self]
        · show rn (d + 12) 174 0 [some (Sum.inr (Sum.inl (69))), some (Sum.inl (E r)), some (Sum.inl (1))] [] μ = _
          simp only [st174_0, st174_1, st174_2, st174_3, st174_4, st174_5, st174_6, st174_7, st174_8, st174_9, st174_10, st174_11, st174_12, st174_13, st174_14, st174_15, st174_16, st174_17, st174_18, st174_19, st174_20, st174_21, st174_22, st174_23, st174_24, st174_25, st174_26, st174_27, st174_28, hm.1, f142 hm hw hr.2.1, c, f151 r6 hm, v2, f139, l_ge0, isin2, z01, show ((1 : Int32) ≤ 2) = True from eq_true (by decide), aft_some, Option.toList_some, Option.toList_none, List.cons_append, List.nil_append, br0, br1, br2, br3, zr01, zr02, n10, n01, ne_eq, not_true_eq_false, not_false_eq_true, if_true, if_false, true_and, and_true, and_self]
      · by_cases y2 : y = 2
        · subst y2
          refine ⟨E (smF (hdF A (E r)) 4), ?_, ?_⟩
          · show rn (d + 12) 81 0 [some (Sum.inr (Sum.inl (2))), some (Sum.inl (E r)), some (Sum.inl (2)), none] [] μ = _
            simp only [st81_0, st81_1, st81_2, st81_3, st81_4, st81_5, st81_6, st81_7, st81_8, st81_9, st81_10, st81_11, st81_12_t0, st81_12_t2, st81_12_t3, st81_12_t4, st81_12_t5, st81_12_t6, st81_12_t7, st81_12_t9, st81_13, st81_14, st81_15, st81_16, st81_17, st81_18, st81_19, st81_20, st81_21, st81_22, st81_23, st81_12v, hc.1, hc.2.1, ht.1.1, f68 hw ht, c, E_n (show r < 1000 by omega), r0, f74 hw ht c.1, en21', en20', aft_some, Option.toList_some, Option.toList_none, List.cons_append, List.nil_append, br0, br1, br2, br3, zr01, zr02, n10, n01, ne_eq, not_true_eq_false, not_false_eq_true, if_true, if_false, true_and, and_true, and_self]
          · show rn (d + 12) 174 0 [some (Sum.inr (Sum.inl (69))), some (Sum.inl (E r)), some (Sum.inl (2))] [] μ = _
            simp only [st174_0, st174_1, st174_2, st174_3, st174_4, st174_5, st174_6, st174_7, st174_8, st174_9, st174_10, st174_11, st174_12, st174_13, st174_14, st174_15, st174_16, st174_17, st174_18, st174_19, st174_20, st174_21, st174_22, st174_23, st174_24, st174_25, st174_26, st174_27, st174_28, hm.1, f142 hm hw hr.2.1, c, f173 hm hw hr r6, f139, l_ge0, isin2, z02, en21', en20', show ((2 : Int32) ≤ 2) = True from eq_true (by decide), aft_some, Option.toList_some, Option.toList_none, List.cons_append, List.nil_append, br0, br1, br2, br3, zr01, zr02, n10, n01, ne_eq, not_true_eq_false, not_false_eq_true, if_true, if_false, true_and, and_true, and_self]
        · have yn : ¬ (0 ≤ y ∧ y ≤ 2) := fun e => by rcases in012.mp e with e | e | e <;> contradiction
          refine ⟨-1, ?_, ?_⟩
          · show rn (d + 12) 81 0 [some (Sum.inr (Sum.inl (2))), some (Sum.inl (E r)), some (Sum.inl (y)), none] [] μ = _
            simp only [st81_0, st81_1, st81_2, st81_3, st81_4, st81_5, st81_6, st81_7, st81_8, st81_9, st81_10, st81_11, st81_12_t0, st81_12_t2, st81_12_t3, st81_12_t4, st81_12_t5, st81_12_t6, st81_12_t7, st81_12_t9, st81_13, st81_14, st81_15, st81_16, st81_17, st81_18, st81_19, st81_20, st81_21, st81_22, st81_23, st81_12v, hc.1, hc.2.1, ht.1.1, f68 hw ht, c, E_n (show r < 1000 by omega), r0, y0, y1, y2, aft_some, Option.toList_some, Option.toList_none, List.cons_append, List.nil_append, br0, br1, br2, br3, zr01, zr02, n10, n01, ne_eq, not_true_eq_false, not_false_eq_true, if_true, if_false, true_and, and_true, and_self]
          · show rn (d + 12) 174 0 [some (Sum.inr (Sum.inl (69))), some (Sum.inl (E r)), some (Sum.inl (y))] [] μ = _
            simp only [st174_0, st174_1, st174_2, st174_3, st174_4, st174_5, st174_6, st174_7, st174_8, st174_9, st174_10, st174_11, st174_12, st174_13, st174_14, st174_15, st174_16, st174_17, st174_18, st174_19, st174_20, st174_21, st174_22, st174_23, st174_24, st174_25, st174_26, st174_27, st174_28, hm.1, f142 hm hw hr.2.1, c, f139, l_ge0, isin2, yn, aft_some, Option.toList_some, Option.toList_none, List.cons_append, List.nil_append, br0, br1, br2, br3, zr01, zr02, n10, n01, ne_eq, not_true_eq_false, not_false_eq_true, if_true, if_false, true_and, and_true, and_self]
  · refine ⟨-1, ?_, ?_⟩
    · show rn (d + 12) 81 0 [some (Sum.inr (Sum.inl (2))), some (Sum.inl (x)), some (Sum.inl (y)), none] [] μ = _
      simp only [st81_0, st81_1, st81_2, st81_3, st81_4, st81_5, st81_6, st81_7, st81_8, st81_9, st81_10, st81_11, st81_12_t0, st81_12_t2, st81_12_t3, st81_12_t4, st81_12_t5, st81_12_t6, st81_12_t7, st81_12_t9, st81_13, st81_14, st81_15, st81_16, st81_17, st81_18, st81_19, st81_20, st81_21, st81_22, st81_23, st81_12v, hc.1, hc.2.1, ht.1.1, f68 hw ht, c, aft_some, Option.toList_some, Option.toList_none, List.cons_append, List.nil_append, br0, br1, br2, br3, zr01, zr02, n10, n01, ne_eq, not_true_eq_false, not_false_eq_true, if_true, if_false, true_and, and_true, and_self]
    · show rn (d + 12) 174 0 [some (Sum.inr (Sum.inl (69))), some (Sum.inl (x)), some (Sum.inl (y))] [] μ = _
      simp only [st174_0, st174_1, st174_2, st174_3, st174_4, st174_5, st174_6, st174_7, st174_8, st174_9, st174_10, st174_11, st174_12, st174_13, st174_14, st174_15, st174_16, st174_17, st174_18, st174_19, st174_20, st174_21, st174_22, st174_23, st174_24, st174_25, st174_26, st174_27, st174_28, hm.1, f142 hm hw hr.2.1, c, aft_some, Option.toList_some, Option.toList_none, List.cons_append, List.nil_append, br0, br1, br2, br3, zr01, zr02, n10, n01, ne_eq, not_true_eq_false, not_false_eq_true, if_true, if_false, true_and, and_true, and_self]
theorem rfK_0 {H : HT} (h : rfK H = 0) : hkt H = 1 := by
  unfold rfK at h
  by_cases c : hkt H = 0
  · rw [if_pos c] at h; exact absurd h (by decide)
  · rw [if_neg c] at h
    by_cases c2 : hkt H = 1
    · exact c2
    · rw [if_neg c2] at h; exact absurd h (by decide)
/-- fee -/
theorem g111 {d : Nat} {x : Int32} {A Ai : AT} {im : Nat} {Hs : Nat → HT} {μ : SMem} (h : INVw μ A Ai im Hs) : ∃ v, cl (d + 12) 111 [Sum.inr (Sum.inl (2)), Sum.inl (x)] μ = some (Sum.inl (some (Sum.inl (v))), μ) ∧ cl (d + 12) 222 [Sum.inr (Sum.inl (69)), Sum.inl (x)] μ = some (Sum.inl (some (Sum.inl (v))), μ) := by
  obtain ⟨⟨hm, hc, hw, ht, hr⟩, _, _, hS, _⟩ := h
  have hm0 := hm
  obtain ⟨m1, m2, m3, m4, m5, m6, m7, m8, m9, m10, m11, m12, m13, m14, ⟨t0, t1, t2, t3, t4, t5, t6, t7, t8, t9, t10, t11, t12⟩, l0, l1, l2, l3, l4, l5, l6, l7, l8, l9, l10, l11, l12⟩ := hm
  have t8' := t8
  by_cases c : 0 ≤ x ∧ x < 8
  · obtain ⟨e, he, rfl⟩ := E_of (n := 8) c.1 c.2 (by decide)
    obtain ⟨hH, hC, hM⟩ := hS e he
    have t8 := (hc.2.2.2.2.2.2.2.2.2.2.2 e he).2.1
    have e0 : (53 + 2 * e = 0) = False := eq_false (by omega)
    by_cases k : rfK (Hs e) = 0
    · have k1 := rfK_0 k
      obtain ⟨x1, x2, x3⟩ := hC.2.2.1 k1
      obtain ⟨z1, z2⟩ := hM.2.2.1 k1
      refine ⟨feeK (hkd (Hs e)) (hfg (Hs e)), ?_, ?_⟩
      · show rn (d + 12) 111 0 [some (Sum.inr (Sum.inl (2))), some (Sum.inl (E e)), none, none] [] μ = _
        simp only [st111_0, st111_1, st111_2, st111_3, st111_4, st111_5, st111_6, st111_7, st111_8, st111_9, st111_10, st111_11, st111_12, st111_13, st111_14, st111_15, st111_16, st111_17, st111_18_t0, st111_18_t2, st111_18_t3, st111_18_t4, st111_18_t5, st111_18_t6, st111_18_t7, st111_18_t9, st111_19, st111_18v, hc.1, f113 hc, c, E_n (show e < 1000 by omega), f116 he hc hH hC, k, e0, t8, x2, st111_18v x3.rd, ffee x3, aft_some, Option.toList_some, Option.toList_none, List.cons_append, List.nil_append, br0, br1, br2, br3, zr01, zr02, n10, n01, ne_eq, not_true_eq_false, not_false_eq_true, if_true, if_false, true_and, and_true, and_self]
      · show rn (d + 12) 222 0 [some (Sum.inr (Sum.inl (69))), some (Sum.inl (E e)), none] [] μ = _
        simp only [st222_0, st222_1, st222_2, st222_3, st222_4, st222_5, st222_6, st222_7, st222_8, st222_9, st222_10, st222_11, st222_12, st222_13, st222_14, st222_15, st222_16, st222_17, m1, f220 he hm0 hH hM, k, m10, m11, t8', t9, l8, l9, E_ge0 (show e < 1000 by omega), E_n (show e < 1000 by omega), he, z1, z2, f214 (hH.2.2.2 k1).1, aft_some, Option.toList_some, Option.toList_none, List.cons_append, List.nil_append, br0, br1, br2, br3, zr01, zr02, n10, n01, ne_eq, not_true_eq_false, not_false_eq_true, if_true, if_false, true_and, and_true, and_self]
    · refine ⟨rfK (Hs e), ?_, ?_⟩
      · show rn (d + 12) 111 0 [some (Sum.inr (Sum.inl (2))), some (Sum.inl (E e)), none, none] [] μ = _
        simp only [st111_0, st111_1, st111_2, st111_3, st111_4, st111_5, st111_6, st111_7, st111_8, st111_9, st111_10, st111_11, st111_12, st111_13, st111_14, st111_15, st111_16, st111_17, st111_18_t0, st111_18_t2, st111_18_t3, st111_18_t4, st111_18_t5, st111_18_t6, st111_18_t7, st111_18_t9, st111_19, st111_18v, hc.1, f113 hc, c, E_n (show e < 1000 by omega), f116 he hc hH hC, k, e0, t8, aft_some, Option.toList_some, Option.toList_none, List.cons_append, List.nil_append, br0, br1, br2, br3, zr01, zr02, n10, n01, ne_eq, not_true_eq_false, not_false_eq_true, if_true, if_false, true_and, and_true, and_self]
        split <;> rfl
      · show rn (d + 12) 222 0 [some (Sum.inr (Sum.inl (69))), some (Sum.inl (E e)), none] [] μ = _
        simp only [st222_0, st222_1, st222_2, st222_3, st222_4, st222_5, st222_6, st222_7, st222_8, st222_9, st222_10, st222_11, st222_12, st222_13, st222_14, st222_15, st222_16, st222_17, m1, f220 he hm0 hH hM, k, aft_some, Option.toList_some, Option.toList_none, List.cons_append, List.nil_append, br0, br1, br2, br3, zr01, zr02, n10, n01, ne_eq, not_true_eq_false, not_false_eq_true, if_true, if_false, true_and, and_true, and_self]
  · refine ⟨-1, ?_, ?_⟩
    · show rn (d + 12) 111 0 [some (Sum.inr (Sum.inl (2))), some (Sum.inl (x)), none, none] [] μ = _
      simp only [st111_0, st111_1, st111_2, st111_3, st111_4, st111_5, st111_6, st111_7, st111_8, st111_9, st111_10, st111_11, st111_12, st111_13, st111_14, st111_15, st111_16, st111_17, st111_18_t0, st111_18_t2, st111_18_t3, st111_18_t4, st111_18_t5, st111_18_t6, st111_18_t7, st111_18_t9, st111_19, st111_18v, hc.1, f113 hc, c, f116n, aft_some, Option.toList_some, Option.toList_none, List.cons_append, List.nil_append, br0, br1, br2, br3, zr01, zr02, n10, n01, ne_eq, not_true_eq_false, not_false_eq_true, if_true, if_false, true_and, and_true, and_self]
    · show rn (d + 12) 222 0 [some (Sum.inr (Sum.inl (69))), some (Sum.inl (x)), none] [] μ = _
      simp only [st222_0, st222_1, st222_2, st222_3, st222_4, st222_5, st222_6, st222_7, st222_8, st222_9, st222_10, st222_11, st222_12, st222_13, st222_14, st222_15, st222_16, st222_17, m1, f220n hm0 c, aft_some, Option.toList_some, Option.toList_none, List.cons_append, List.nil_append, br0, br1, br2, br3, zr01, zr02, n10, n01, ne_eq, not_true_eq_false, not_false_eq_true, if_true, if_false, true_and, and_true, and_self, show ((-1 : Int32) = 0) = False from eq_false (by decide)]
