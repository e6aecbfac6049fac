/-! SPECS ZF: gaps, the call -/
theorem g96 {d : Nat} {x y z : Int32} {A Ai : AT} {im : Nat} {Hs : Nat → HT} {μ : SMem} (h : INVw μ A Ai im Hs) : ∃ v μ2, cl (d + 12) 96 [Sum.inr (Sum.inl (2)), Sum.inl (x), Sum.inl (y), Sum.inl (z)] μ = some (Sum.inl (some (Sum.inl (v))), μ) ∧ cl (d + 12) 202 [Sum.inr (Sum.inl (69)), Sum.inl (x), Sum.inl (y), Sum.inl (z)] μ = some (Sum.inl (some (Sum.inl (v))), μ2) ∧ INVw μ2 A Ai im Hs ∧ sz μ2 = sz μ ∧ sl μ2 = sl μ := by
  have hB := h.1
  obtain ⟨hm, hc, hw, ht, hr⟩ := hB
  have hq := hr.mq hw
  have n1 : ((-1 : Int32) = 0) = False := eq_false (by decide)
  by_cases cy : 0 ≤ y ∧ y < 8
  · obtain ⟨e, he, rfl⟩ := E_of (n := 8) cy.1 cy.2 (by decide)
    obtain ⟨hH, hC, hM⟩ := h.2.2.2.1 e he
    have e0 : (53 + 2 * e = 0) = False := eq_false (by omega)
    by_cases cx : 0 ≤ x ∧ x < E (bcA A)
    · obtain ⟨b, hb, rfl⟩ := E_of cx.1 cx.2 (by have := hw.1; omega)
      have b4 : b < 4 := by have := hw.1; omega
      have b0 : (3 + 3 + 3 * b = 0) = False := eq_false (by omega)
      by_cases cz : 0 ≤ z ∧ z ≤ 1
      · have cz0 : ¬ z < 0 := Int32.not_lt.mpr cz.1
        by_cases k : rfRs A (Hs e) = 0
        · obtain ⟨hk, h6, hok'⟩ := rfRs_0 k
          have hok := ok_rs hw hok'
          have hbk := ht.bk b4
          obtain ⟨u1, u2, u3, u4⟩ := ht.2.2.2.2.1 b b4
          obtain ⟨v1, v2, v3, v4, v5, v6⟩ := hw.2.2.1 b hb
          have hW := p2_lt9 _ v2
          obtain ⟨u11, a1⟩ := f96_lp (d := d + 7) (x1 := E b) (x2 := E e) (x3 := z) (x6 := 0) he hc hH hC hw ht hk h6 hb hok (hsz (Hs e)) 0 none (by omega)
          obtain ⟨μa, b1, b2, b3⟩ := f183 (d := d + 10) hm
          have hma := hm.sb b2
          have hqa : MQr (gi μa 70) A (inA A) := by rw [b2.2.2.2.2.2.2 70 (by omega)]; exact hq
          have h73 : ∀ j, j < 87 → gi μa 73 j = gi μa 70 j := fun j hj => by rw [b3 j hj, b2.2.2.2.2.2.2 70 (by omega)]
          obtain ⟨μb, u9, u10, c1, c2, c3⟩ := f202_lp (d := d + 7) (x3 := z) (x4 := 0) he hma hw hH (hM.sb b2 (fun c e => by omega)) hk h6 hb hok hqa h73 (hsz (Hs e)) 0 μa none none (by omega) SB.rf (fun j _ => rfl)
          have hs : SB (fun c => c = 70 ∨ c = 73) μ μb := (b2.wk (fun c e => Or.inr e)).tr (c2.wk (fun c e => Or.inl e))
          have hBb := h.1.r70 hs (fun j hj => by rw [c3 j hj, b2.2.2.2.2.2.2 70 (by omega)])
          refine ⟨if z = 0 then E (gpF A b (hel (Hs e)) (hsz (Hs e))).2 else (gpF A b (hel (Hs e)) (hsz (Hs e))).1, μb, ?_, ?_, h.up (hs.wk (fun c e => by unfold Scr; omega)) (fun c h => h) (by rw [hs.2.2.2.2.2.2 69 (by omega)]) hBb, hs.2.2.2.2.1, hs.2.2.2.2.2.1⟩
          · show rn (d + 12) 96 0 [some (Sum.inr (Sum.inl (2))), some (Sum.inl (E b)), some (Sum.inl (E e)), some (Sum.inl (z)), none, none, none, none, none, none, none, none] [] μ = _
            simp only [st96_0, st96_1, st96_2, st96_3, st96_4, st96_5, st96_6, st96_7, st96_8, st96_9, st96_10, st96_11, st96_12, st96_13, st96_14, st96_15, st96_16, st96_17, st96_18, st96_19, st96_20, st96_21, st96_22, st96_23, st96_24, st96_25, st96_26, st96_27, st96_28, st96_29, st96_30, st96_31, st96_32, st96_33, st96_34, st96_35, st96_36, st96_37, st96_38, st96_39, st96_40, st96_41, hc.1, hc.2.1, ht.1.1, f67 hw ht, f113 hc, cx, cy, cz, cz0, E_n (show e < 1000 by omega), E_n (show b < 1000 by omega), b0, e0, f117 he hc hH hC hw ht, k, hbk.1.1, f9 v2 hbk.1.1 u1, u2, E_and _ hW _ (hw.in9 b), aft_some, Option.toList_some, Option.toList_none, List.cons_append, List.nil_append, br0, br1, br2, br3, zr01, zr02, n10, n01, ne_eq, not_true_eq_false, not_false_eq_true, if_true, if_false, true_and, and_true, and_self]
            refine a1.trans ?_
            by_cases z0 : z = 0
            · simp only [st96_72, st96_73, st96_74, st96_75, st96_76, st96_77, z0, aft_some, Option.toList_some, Option.toList_none, List.cons_append, List.nil_append, br0, br1, br2, br3, zr01, zr02, n10, n01, ne_eq, not_true_eq_false, not_false_eq_true, if_true, if_false, true_and, and_true, and_self]
            · simp only [st96_72, st96_73, st96_74, st96_75, st96_76, st96_77, z0, aft_some, Option.toList_some, Option.toList_none, List.cons_append, List.nil_append, br0, br1, br2, br3, zr01, zr02, n10, n01, ne_eq, not_true_eq_false, not_false_eq_true, if_true, if_false, true_and, and_true, and_self]
          · show rn (d + 12) 202 0 [some (Sum.inr (Sum.inl (69))), some (Sum.inl (E b)), some (Sum.inl (E e)), some (Sum.inl (z)), none, none, none, none, none, none, none] [] μ = _
            simp only [st202_0, st202_1, st202_2, st202_3, st202_4, st202_5, st202_6, st202_7, st202_8, st202_9, st202_10, st202_11, st202_12, st202_13, st202_14, st202_15, st202_16, st202_17, st202_18, st202_19, st202_20, st202_21, hm.1, f190 he hm hH hM hw hr.2.1 hr.1, cx, cz, k, f144 b4 hm, (hr.2.2.2.1 b hb).2.1, b1, aft_some, Option.toList_some, Option.toList_none, List.cons_append, List.nil_append, br0, br1, br2, br3, zr01, zr02, n10, n01, ne_eq, not_true_eq_false, not_false_eq_true, if_true, if_false, true_and, and_true, and_self]
            refine c1.trans ?_
            by_cases z0 : z = 0
            · simp only [st202_66, st202_67, st202_68, st202_69, st202_70, st202_71, z0, aft_some, Option.toList_some, Option.toList_none, List.cons_append, List.nil_append, br0, br1, br2, br3, zr01, zr02, n10, n01, ne_eq, not_true_eq_false, not_false_eq_true, if_true, if_false, true_and, and_true, and_self]
            · simp only [st202_66, st202_67, st202_68, st202_69, st202_70, st202_71, z0, aft_some, Option.toList_some, Option.toList_none, List.cons_append, List.nil_append, br0, br1, br2, br3, zr01, zr02, n10, n01, ne_eq, not_true_eq_false, not_false_eq_true, if_true, if_false, true_and, and_true, and_self]
        · refine ⟨rfRs A (Hs e), μ, ?_, ?_, h, rfl, rfl⟩
          · show rn (d + 12) 96 0 [some (Sum.inr (Sum.inl (2))), some (Sum.inl (E b)), some (Sum.inl (E e)), some (Sum.inl (z)), none, none, none, none, none, none, none, none] [] μ = _
            simp only [st96_0, st96_1, st96_2, st96_3, st96_4, st96_5, st96_6, st96_7, st96_8, st96_9, st96_10, st96_11, st96_12, st96_13, st96_14, st96_15, st96_16, st96_17, st96_18, st96_19, st96_20, st96_21, st96_22, st96_23, st96_24, st96_25, st96_26, st96_27, st96_28, st96_29, st96_30, st96_31, st96_32, st96_33, st96_34, st96_35, st96_36, st96_37, st96_38, st96_39, st96_40, st96_41, hc.1, hc.2.1, ht.1.1, f67 hw ht, f113 hc, cx, cy, cz, cz0, E_n (show e < 1000 by omega), E_n (show b < 1000 by omega), b0, e0, f117 he hc hH hC hw ht, k, aft_some, Option.toList_some, Option.toList_none, List.cons_append, List.nil_append, br0, br1, br2, br3, zr01, zr02, n10, n01, ne_eq, not_true_eq_false, not_false_eq_true, if_true, if_false, true_and, and_true, and_self]
          · show rn (d + 12) 202 0 [some (Sum.inr (Sum.inl (69))), some (Sum.inl (E b)), some (Sum.inl (E e)), some (Sum.inl (z)), none, none, none, none, none, none, none] [] μ = _
            simp only [st202_0, st202_1, st202_2, st202_3, st202_4, st202_5, st202_6, st202_7, st202_8, st202_9, st202_10, st202_11, st202_12, st202_13, st202_14, st202_15, st202_16, st202_17, st202_18, st202_19, st202_20, st202_21, hm.1, f190 he hm hH hM hw hr.2.1 hr.1, cx, cz, k, aft_some, Option.toList_some, Option.toList_none, List.cons_append, List.nil_append, br0, br1, br2, br3, zr01, zr02, n10, n01, ne_eq, not_true_eq_false, not_false_eq_true, if_true, if_false, true_and, and_true, and_self]
      · refine ⟨-1, μ, ?_, ?_, h, rfl, rfl⟩
        · show rn (d + 12) 96 0 [some (Sum.inr (Sum.inl (2))), some (Sum.inl (E b)), some (Sum.inl (E e)), some (Sum.inl (z)), none, none, none, none, none, none, none, none] [] μ = _
          by_cases z0 : z < 0
          · simp only [st96_0, st96_1, st96_2, st96_3, st96_4, st96_5, st96_6, st96_7, st96_8, st96_9, st96_10, st96_11, st96_12, st96_13, st96_14, st96_15, st96_16, st96_17, st96_18, st96_19, st96_20, st96_21, st96_22, st96_23, st96_24, st96_25, st96_26, st96_27, st96_28, st96_29, st96_30, st96_31, st96_32, st96_33, st96_34, st96_35, st96_36, st96_37, st96_38, st96_39, st96_40, st96_41, hc.1, hc.2.1, ht.1.1, f67 hw ht, f113 hc, cx, cy, z0, E_n (show e < 1000 by omega), E_n (show b < 1000 by omega), b0, e0, aft_some, Option.toList_some, Option.toList_none, List.cons_append, List.nil_append, br0, br1, br2, br3, zr01, zr02, n10, n01, ne_eq, not_true_eq_false, not_false_eq_true, if_true, if_false, true_and, and_true, and_self]
          · have z1 : ¬ z ≤ 1 := fun e => cz ⟨Int32.not_lt.mp z0, e⟩
            simp only [st96_0, st96_1, st96_2, st96_3, st96_4, st96_5, st96_6, st96_7, st96_8, st96_9, st96_10, st96_11, st96_12, st96_13, st96_14, st96_15, st96_16, st96_17, st96_18, st96_19, st96_20, st96_21, st96_22, st96_23, st96_24, st96_25, st96_26, st96_27, st96_28, st96_29, st96_30, st96_31, st96_32, st96_33, st96_34, st96_35, st96_36, st96_37, st96_38, st96_39, st96_40, st96_41, hc.1, hc.2.1, ht.1.1, f67 hw ht, f113 hc, cx, cy, z0, z1, E_n (show e < 1000 by omega), E_n (show b < 1000 by omega), b0, e0, aft_some, Option.toList_some, Option.toList_none, List.cons_append, List.nil_append, br0, br1, br2, br3, zr01, zr02, n10, n01, ne_eq, not_true_eq_false, not_false_eq_true, if_true, if_false, true_and, and_true, and_self]
        · show rn (d + 12) 202 0 [some (Sum.inr (Sum.inl (69))), some (Sum.inl (E b)), some (Sum.inl (E e)), some (Sum.inl (z)), none, none, none, none, none, none, none] [] μ = _
          simp only [st202_0, st202_1, st202_2, st202_3, st202_4, st202_5, st202_6, st202_7, st202_8, st202_9, st202_10, st202_11, st202_12, st202_13, st202_14, st202_15, st202_16, st202_17, st202_18, st202_19, st202_20, st202_21, hm.1, f190 he hm hH hM hw hr.2.1 hr.1, cz, and_false, n1, aft_some, Option.toList_some, Option.toList_none, List.cons_append, List.nil_append, br0, br1, br2, br3, zr01, zr02, n10, n01, ne_eq, not_true_eq_false, not_false_eq_true, if_true, if_false, true_and, and_true, and_self]
    · refine ⟨-1, μ, ?_, ?_, h, rfl, rfl⟩
      · show rn (d + 12) 96 0 [some (Sum.inr (Sum.inl (2))), some (Sum.inl (x)), some (Sum.inl (E e)), some (Sum.inl (z)), none, none, none, none, none, none, none, none] [] μ = _
        simp only [st96_0, st96_1, st96_2, st96_3, st96_4, st96_5, st96_6, st96_7, st96_8, st96_9, st96_10, st96_11, st96_12, st96_13, st96_14, st96_15, st96_16, st96_17, st96_18, st96_19, st96_20, st96_21, st96_22, st96_23, st96_24, st96_25, st96_26, st96_27, st96_28, st96_29, st96_30, st96_31, st96_32, st96_33, st96_34, st96_35, st96_36, st96_37, st96_38, st96_39, st96_40, st96_41, hc.1, hc.2.1, ht.1.1, f67 hw ht, f113 hc, cx, cy, aft_some, Option.toList_some, Option.toList_none, List.cons_append, List.nil_append, br0, br1, br2, br3, zr01, zr02, n10, n01, ne_eq, not_true_eq_false, not_false_eq_true, if_true, if_false, true_and, and_true, and_self]
      · show rn (d + 12) 202 0 [some (Sum.inr (Sum.inl (69))), some (Sum.inl (x)), some (Sum.inl (E e)), some (Sum.inl (z)), none, none, none, none, none, none, none] [] μ = _
        simp only [st202_0, st202_1, st202_2, st202_3, st202_4, st202_5, st202_6, st202_7, st202_8, st202_9, st202_10, st202_11, st202_12, st202_13, st202_14, st202_15, st202_16, st202_17, st202_18, st202_19, st202_20, st202_21, hm.1, f190 he hm hH hM hw hr.2.1 hr.1, cx, false_and, n1, aft_some, Option.toList_some, Option.toList_none, List.cons_append, List.nil_append, br0, br1, br2, br3, zr01, zr02, n10, n01, ne_eq, not_true_eq_false, not_false_eq_true, if_true, if_false, true_and, and_true, and_self]
  · refine ⟨-1, μ, ?_, ?_, h, rfl, rfl⟩
    · show rn (d + 12) 96 0 [some (Sum.inr (Sum.inl (2))), some (Sum.inl (x)), some (Sum.inl (y)), some (Sum.inl (z)), none, none, none, none, none, none, none, none] [] μ = _
      by_cases cx : 0 ≤ x ∧ x < E (bcA A)
      · have b0 : (3 + 3 + 3 * x.toNatClampNeg = 0) = False := eq_false (by omega)
        simp only [st96_0, st96_1, st96_2, st96_3, st96_4, st96_5, st96_6, st96_7, st96_8, st96_9, st96_10, st96_11, st96_12, st96_13, st96_14, st96_15, st96_16, st96_17, st96_18, st96_19, st96_20, st96_21, st96_22, st96_23, st96_24, st96_25, st96_26, st96_27, st96_28, st96_29, st96_30, st96_31, st96_32, st96_33, st96_34, st96_35, st96_36, st96_37, st96_38, st96_39, st96_40, st96_41, hc.1, hc.2.1, ht.1.1, f67 hw ht, f113 hc, cx, cy, b0, aft_some, Option.toList_some, Option.toList_none, List.cons_append, List.nil_append, br0, br1, br2, br3, zr01, zr02, n10, n01, ne_eq, not_true_eq_false, not_false_eq_true, if_true, if_false, true_and, and_true, and_self]
      · simp only [st96_0, st96_1, st96_2, st96_3, st96_4, st96_5, st96_6, st96_7, st96_8, st96_9, st96_10, st96_11, st96_12, st96_13, st96_14, st96_15, st96_16, st96_17, st96_18, st96_19, st96_20, st96_21, st96_22, st96_23, st96_24, st96_25, st96_26, st96_27, st96_28, st96_29, st96_30, st96_31, st96_32, st96_33, st96_34, st96_35, st96_36, st96_37, st96_38, st96_39, st96_40, st96_41, hc.1, hc.2.1, ht.1.1, f67 hw ht, f113 hc, cx, cy, aft_some, Option.toList_some, Option.toList_none, List.cons_append, List.nil_append, br0, br1, br2, br3, zr01, zr02, n10, n01, ne_eq, not_true_eq_false, not_false_eq_true, if_true, if_false, true_and, and_true, and_self]
    · show rn (d + 12) 202 0 [some (Sum.inr (Sum.inl (69))), some (Sum.inl (x)), some (Sum.inl (y)), some (Sum.inl (z)), none, none, none, none, none, none, none] [] μ = _
      simp only [st202_0, st202_1, st202_2, st202_3, st202_4, st202_5, st202_6, st202_7, st202_8, st202_9, st202_10, st202_11, st202_12, st202_13, st202_14, st202_15, st202_16, st202_17, st202_18, st202_19, st202_20, st202_21, hm.1, f190n hm hw hr.1 cy, n1, aft_some, Option.toList_some, Option.toList_none, List.cons_append, List.nil_append, br0, br1, br2, br3, zr01, zr02, n10, n01, ne_eq, not_true_eq_false, not_false_eq_true, if_true, if_false, true_and, and_true, and_self]
