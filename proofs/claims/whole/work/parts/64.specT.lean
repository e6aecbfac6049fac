/-! SPECS T: pages in mind; run -/
theorem f123_lp {d : Nat} {S : Nat → Nat} {μ : SMem} (hc : CAo μ) (hM : MD μ S) (hS : ∀ b, b < 4 → S b < 256) : ∀ k b, b + k = 4 → rn (d + 1) 123 4 [some (Sum.inr (Sum.inl (2))), some (Sum.inl (E (smF (fun b => pcn (S b)) b))), some (Sum.inl (E b))] [] μ = some (Sum.inl (some (Sum.inl (E (smF (fun b => pcn (S b)) 4)))), μ) := by
  obtain ⟨c1, c2, c3, c4, c5, c6, c7, c8, c9, ⟨a1, a2, a3, a4, a5⟩, ⟨b1, b2, b3, b4, b5⟩, _⟩ := hc
  intro k
  induction k with
  | zero =>
    intro b hb
    have : b = 4 := by omega
    subst this
    rw [st123_4]
    simp only [st123_0, st123_1, st123_2, st123_3, st123_5, st123_6, st123_7, st123_8, st123_9, st123_10, st123_11, st123_12, st123_13, st123_14, st123_15, st123_16, st123_17, st123_18, st123_19, st123_20, c1, c6, a2, b2, alA, alB, alC, alD, alE, and_self, show Int32.ofNat 4 = E 4 from rfl, Int32.le_refl, if_true]
  | succ k ih =>
    intro b hb
    have hc : ¬ E 4 ≤ E b := by rw [E_le (by decide) (by omega)]; omega
    have b4' : b < 4 := by omega
    have ihs := ih (b + 1) (by omega)
    rw [smF_s b] at ihs
    rw [st123_4]
    simp only [st123_0, st123_1, st123_2, st123_3, st123_5, st123_6, st123_7, st123_8, st123_9, st123_10, st123_11, st123_12, st123_13, st123_14, st123_15, st123_16, st123_17, st123_18, st123_19, st123_20, c1, c6, a2, b2, alA, alB, alC, alD, alE, and_self, show Int32.ofNat 4 = E 4 from rfl, hc, E_ge0 (show b < 1000 by omega), E_n (show b < 1000 by omega), b4', hM b b4', f224 (hS b b4'), E_add, show E b + 1 = E (b + 1) from E_add b 1, aft_some, Option.toList_some, Option.toList_none, List.cons_append, List.nil_append, br0, br1, br2, br3, zr01, zr02, n10, n01, ne_eq, not_true_eq_false, not_false_eq_true, if_true, if_false, true_and, and_true, and_self]
    exact ihs
theorem f123 {d : Nat} {S : Nat → Nat} {μ : SMem} (hc : CAo μ) (hM : MD μ S) (hS : ∀ b, b < 4 → S b < 256) : cl (d + 1) 123 [Sum.inr (Sum.inl (2))] μ = some (Sum.inl (some (Sum.inl (E (smF (fun b => pcn (S b)) 4)))), μ) := by
  show rn (d + 1) 123 0 [some (Sum.inr (Sum.inl (2))), none, none] [] μ = _
  simp only [st123_0, st123_1, st123_2, st123_3]
  exact f123_lp hc hM hS 4 0 rfl
theorem in01 {y : Int32} : (0 ≤ y ∧ y ≤ 1) ↔ (y = 0 ∨ y = 1) := by
  refine ⟨fun h => ?_, fun h => ?_⟩
  · have a := Int32.le_iff_toInt_le.mp h.2
    have b : (1 : Int32).toInt = 1 := rfl
    have c := Int32.le_iff_toInt_le.mp h.1
    have e : (0 : Int32).toInt = 0 := rfl
    by_cases k : y.toInt = 0
    · exact Or.inl (Int32.toInt_inj.mp (by omega))
    · exact Or.inr (Int32.toInt_inj.mp (by omega))
  · rcases h with rfl | rfl <;> decide
theorem g87 {d : Nat} {x y : Int32} {A Ai : AT} {im : Nat} {Hs : Nat → HT} {μ : SMem} (h : INVw μ A Ai im Hs) : ∃ v μ1 μ2, cl (d + 12) 87 [Sum.inr (Sum.inl (2)), Sum.inl (x), Sum.inl (y)] μ = some (Sum.inl (some (Sum.inl (v))), μ1) ∧ cl (d + 12) 188 [Sum.inr (Sum.inl (69)), Sum.inl (x), Sum.inl (y)] μ1 = some (Sum.inl (some (Sum.inl (v))), μ2) ∧ INVw μ2 A Ai im Hs ∧ sz μ2 = sz μ ∧ sl μ2 = sl μ ∧ K1 μ μ1 := by
  have hB := h.1
  obtain ⟨hm, hc, hw, ht, hr⟩ := hB
  have hq := hr.mq hw
  by_cases c : 0 ≤ x ∧ x < 8
  · obtain ⟨e, he, rfl⟩ := E_of (n := 8) c.1 c.2 (by decide)
    obtain ⟨hH, hC, hM⟩ := h.2.2.2.1 e he
    have e0 : (53 + 2 * e = 0) = False := eq_false (by omega)
    by_cases cy : 0 ≤ y ∧ y ≤ 1
    · have cy0 : ¬ y < 0 := Int32.not_lt.mpr cy.1
      by_cases k : rfRd A (Hs e) = 0
      · obtain ⟨μ1, a1, a2, a3⟩ := f124 (d := d + 5) (but := -4) he h.1 hH hC k
        have hB1 := h.1.tw a2 (fun c e => by omega)
        have hM1 := hM.sb a2 (fun c e => by omega)
        have hq1 := hB1.2.2.2.2.mq hw
        obtain ⟨μa, b1, b2, b3⟩ := f183 (d := d + 10) hB1.1
        have hqa : MQr (gi μa 70) A (inA A) := by rw [b2.2.2.2.2.2.2 70 (by omega)]; exact hq1
        have hma := hB1.1.sb b2
        obtain ⟨μb, c1, c2, c3⟩ := f185 (d := d + 6) (but := -4) he hma hw hH (hM1.sb b2 (fun c e => by omega)) hqa k
        have hmb := hma.sb c2
        obtain ⟨μc, d1, d2, d3⟩ := f184b (d := d + 10) hB1 b2 b3 c2
        obtain ⟨k2, q2, _, q3⟩ := rfRd_0 k
        have hok := ok_rd hw q3
        have hz := rnv_0 (but := -4) hw hok (fun b hb => (hw.2.2.2.1 b hb).2) (hsz (Hs e) / 2) (Nat.le_refl _)
        have hlt := rnv_lt (but := -4) hw hok (fun b _ => hw.in2 b) (hsz (Hs e) / 2) (Nat.le_refl _)
        have h256 : ∀ b, b < 4 → (rnv A (hel (Hs e)) (-4) (inA A) (hsz (Hs e) / 2)).2 b < 256 := by
          intro b _
          by_cases hb : b < bcA A
          · exact lt_256 (hlt b hb) (hw.pg9 b)
          · rw [hz b (by omega)]; decide
        have e123 := fun d => f123 (d := d) hB1.2.1 a3 h256
        have e186 := fun d => f186 (d := d) hmb hw c3
        rw [smF_4 hw.1 (fun b hb => by rw [hz b hb]; exact pcn_0)] at e186
        have e187 := fun d => f187 (d := d) hmb hw c3
        have hsb : SB Scr μ μc := (a2.wk (fun c e => by unfold Scr; omega)).tr (d2.wk (fun c e => by unfold Scr; omega))
        refine ⟨if y = 0 then E (rnv A (hel (Hs e)) (-4) (inA A) (hsz (Hs e) / 2)).1 else E (smF (pgA A) 4) - E (smF (fun b => pcn ((rnv A (hel (Hs e)) (-4) (inA A) (hsz (Hs e) / 2)).2 b)) 4), μ1, μc, ?_, ?_, h.up hsb (fun c h => h) ?_ d3, by rw [d2.2.2.2.2.1, a2.2.2.2.2.1], by rw [d2.2.2.2.2.2.1, a2.2.2.2.2.2.1], K1.sb a2 (by omega)⟩
        · show rn (d + 12) 87 0 [some (Sum.inr (Sum.inl (2))), some (Sum.inl (E e)), some (Sum.inl (y)), none, none, none] [] μ = _
          by_cases y0 : y = 0
          · subst y0
            simp only [st87_0, st87_1, st87_2, st87_3, st87_4, st87_5, st87_6, st87_7, st87_8, st87_9, st87_10, st87_11, st87_12, st87_13, st87_14, st87_15, st87_16, st87_17, st87_18, st87_19, st87_20, st87_21, st87_22, st87_23, st87_24, st87_25, st87_26, st87_27, st87_28, st87_29, st87_30, st87_31, st87_32, st87_33, st87_34, st87_35, st87_36, st87_37, hc.1, hc.2.1, f113 hc, c, E_n (show e < 1000 by omega), e0, cy0, cy.2, f118 he hc hH hC hw ht, k, a1, aft_some, Option.toList_some, Option.toList_none, List.cons_append, List.nil_append, br0, br1, br2, br3, zr01, zr02, n10, n01, ne_eq, not_true_eq_false, not_false_eq_true, if_true, if_false, true_and, and_true, and_self]
          · simp only [st87_0, st87_1, st87_2, st87_3, st87_4, st87_5, st87_6, st87_7, st87_8, st87_9, st87_10, st87_11, st87_12, st87_13, st87_14, st87_15, st87_16, st87_17, st87_18, st87_19, st87_20, st87_21, st87_22, st87_23, st87_24, st87_25, st87_26, st87_27, st87_28, st87_29, st87_30, st87_31, st87_32, st87_33, st87_34, st87_35, st87_36, st87_37, hc.1, hc.2.1, f113 hc, c, E_n (show e < 1000 by omega), e0, cy0, cy.2, f118 he hc hH hC hw ht, k, a1, y0, hB1.2.1.1, hB1.2.1.2.1, hB1.2.2.2.1.1.1, f76 hB1.2.2.2.1, e123, aft_some, Option.toList_some, Option.toList_none, List.cons_append, List.nil_append, br0, br1, br2, br3, zr01, zr02, n10, n01, ne_eq, not_true_eq_false, not_false_eq_true, if_true, if_false, true_and, and_true, and_self]
        · show rn (d + 12) 188 0 [some (Sum.inr (Sum.inl (69))), some (Sum.inl (E e)), some (Sum.inl (y)), none, none, none] [] μ1 = _
          by_cases y0 : y = 0
          · simp only [st188_0, st188_1, st188_2, st188_3, st188_4, st188_5, st188_6, st188_7, st188_8, st188_9, st188_10, st188_11, st188_12, st188_13, st188_14, st188_15, st188_16, st188_17, st188_18, st188_19, st188_20, st188_21, st188_22, st188_23, st188_24, st188_25, st188_26, st188_27, st188_28, st188_29, st188_30, st188_31, st188_32, st188_33, st188_34, st188_35, st188_36, st188_37, st188_38, st188_39, f140, E_ge0 (show e < 1000 by omega), E_lt8 he, f139, l_ge0, isin01, cy, hB1.1.1, f181 he hB1.1 hH hM1 hw hq1, k, b1, hma.1, c1, hmb.1, e186, e187, d1, y0, z00, z01, aft_some, Option.toList_some, Option.toList_none, List.cons_append, List.nil_append, br0, br1, br2, br3, zr01, zr02, n10, n01, ne_eq, not_true_eq_false, not_false_eq_true, if_true, if_false, true_and, and_true, and_self]
          · simp only [st188_0, st188_1, st188_2, st188_3, st188_4, st188_5, st188_6, st188_7, st188_8, st188_9, st188_10, st188_11, st188_12, st188_13, st188_14, st188_15, st188_16, st188_17, st188_18, st188_19, st188_20, st188_21, st188_22, st188_23, st188_24, st188_25, st188_26, st188_27, st188_28, st188_29, st188_30, st188_31, st188_32, st188_33, st188_34, st188_35, st188_36, st188_37, st188_38, st188_39, f140, E_ge0 (show e < 1000 by omega), E_lt8 he, f139, l_ge0, isin01, cy, hB1.1.1, f181 he hB1.1 hH hM1 hw hq1, k, b1, hma.1, c1, hmb.1, e186, e187, d1, y0, aft_some, Option.toList_some, Option.toList_none, List.cons_append, List.nil_append, br0, br1, br2, br3, zr01, zr02, n10, n01, ne_eq, not_true_eq_false, not_false_eq_true, if_true, if_false, true_and, and_true, and_self]
        · rw [d2.2.2.2.2.2.2 69 (by omega), a2.2.2.2.2.2.2 69 (by omega)]
      · refine ⟨rfRd A (Hs e), μ, μ, ?_, ?_, h, rfl, rfl, K1.rf⟩
        · show rn (d + 12) 87 0 [some (Sum.inr (Sum.inl (2))), some (Sum.inl (E e)), some (Sum.inl (y)), none, none, none] [] μ = _
          simp only [st87_0, st87_1, st87_2, st87_3, st87_4, st87_5, st87_6, st87_7, st87_8, st87_9, st87_10, st87_11, st87_12, st87_13, st87_14, st87_15, st87_16, st87_17, st87_18, st87_19, st87_20, st87_21, st87_22, st87_23, st87_24, st87_25, st87_26, st87_27, st87_28, st87_29, st87_30, st87_31, st87_32, st87_33, st87_34, st87_35, st87_36, st87_37, hc.1, hc.2.1, f113 hc, c, E_n (show e < 1000 by omega), e0, cy0, cy.2, f118 he hc hH hC hw ht, k, aft_some, Option.toList_some, Option.toList_none, List.cons_append, List.nil_append, br0, br1, br2, br3, zr01, zr02, n10, n01, ne_eq, not_true_eq_false, not_false_eq_true, if_true, if_false, true_and, and_true, and_self]
        · show rn (d + 12) 188 0 [some (Sum.inr (Sum.inl (69))), some (Sum.inl (E e)), some (Sum.inl (y)), none, none, none] [] μ = _
          simp only [st188_0, st188_1, st188_2, st188_3, st188_4, st188_5, st188_6, st188_7, st188_8, st188_9, st188_10, st188_11, st188_12, st188_13, st188_14, st188_15, st188_16, st188_17, st188_18, st188_19, st188_20, st188_21, st188_22, st188_23, st188_24, st188_25, st188_26, st188_27, st188_28, st188_29, st188_30, st188_31, st188_32, st188_33, st188_34, st188_35, st188_36, st188_37, st188_38, st188_39, f140, E_ge0 (show e < 1000 by omega), E_lt8 he, f139, l_ge0, isin01, cy, hm.1, f181 he hm hH hM hw hq, k, aft_some, Option.toList_some, Option.toList_none, List.cons_append, List.nil_append, br0, br1, br2, br3, zr01, zr02, n10, n01, ne_eq, not_true_eq_false, not_false_eq_true, if_true, if_false, true_and, and_true, and_self]
    · refine ⟨-1, μ, μ, ?_, ?_, h, rfl, rfl, K1.rf⟩
      · show rn (d + 12) 87 0 [some (Sum.inr (Sum.inl (2))), some (Sum.inl (E e)), some (Sum.inl (y)), none, none, none] [] μ = _
        by_cases c0 : y < 0
        · simp only [st87_0, st87_1, st87_2, st87_3, st87_4, st87_5, st87_6, st87_7, st87_8, st87_9, st87_10, st87_11, st87_12, st87_13, st87_14, st87_15, st87_16, st87_17, st87_18, st87_19, st87_20, st87_21, st87_22, st87_23, st87_24, st87_25, st87_26, st87_27, st87_28, st87_29, st87_30, st87_31, st87_32, st87_33, st87_34, st87_35, st87_36, st87_37, hc.1, hc.2.1, f113 hc, c, E_n (show e < 1000 by omega), e0, c0, aft_some, Option.toList_some, Option.toList_none, List.cons_append, List.nil_append, br0, br1, br2, br3, zr01, zr02, n10, n01, ne_eq, not_true_eq_false, not_false_eq_true, if_true, if_false, true_and, and_true, and_self]
        · have c1 : ¬ y ≤ 1 := fun e => cy ⟨Int32.not_lt.mp c0, e⟩
          simp only [st87_0, st87_1, st87_2, st87_3, st87_4, st87_5, st87_6, st87_7, st87_8, st87_9, st87_10, st87_11, st87_12, st87_13, st87_14, st87_15, st87_16, st87_17, st87_18, st87_19, st87_20, st87_21, st87_22, st87_23, st87_24, st87_25, st87_26, st87_27, st87_28, st87_29, st87_30, st87_31, st87_32, st87_33, st87_34, st87_35, st87_36, st87_37, hc.1, hc.2.1, f113 hc, c, E_n (show e < 1000 by omega), e0, c0, c1, aft_some, Option.toList_some, Option.toList_none, List.cons_append, List.nil_append, br0, br1, br2, br3, zr01, zr02, n10, n01, ne_eq, not_true_eq_false, not_false_eq_true, if_true, if_false, true_and, and_true, and_self]
      · show rn (d + 12) 188 0 [some (Sum.inr (Sum.inl (69))), some (Sum.inl (E e)), some (Sum.inl (y)), none, none, none] [] μ = _
        simp only [st188_0, st188_1, st188_2, st188_3, st188_4, st188_5, st188_6, st188_7, st188_8, st188_9, st188_10, st188_11, st188_12, st188_13, st188_14, st188_15, st188_16, st188_17, st188_18, st188_19, st188_20, st188_21, st188_22, st188_23, st188_24, st188_25, st188_26, st188_27, st188_28, st188_29, st188_30, st188_31, st188_32, st188_33, st188_34, st188_35, st188_36, st188_37, st188_38, st188_39, f140, E_ge0 (show e < 1000 by omega), E_lt8 he, f139, l_ge0, isin01, cy, aft_some, Option.toList_some, Option.toList_none, List.cons_append, List.nil_append, br0, br1, br2, br3, zr01, zr02, n10, n01, ne_eq, not_true_eq_false, not_false_eq_true, if_true, if_false, true_and, and_true, and_self]
  · refine ⟨-1, μ, μ, ?_, ?_, h, rfl, rfl, K1.rf⟩
    · show rn (d + 12) 87 0 [some (Sum.inr (Sum.inl (2))), some (Sum.inl (x)), some (Sum.inl (y)), none, none, none] [] μ = _
      simp only [st87_0, st87_1, st87_2, st87_3, st87_4, st87_5, st87_6, st87_7, st87_8, st87_9, st87_10, st87_11, st87_12, st87_13, st87_14, st87_15, st87_16, st87_17, st87_18, st87_19, st87_20, st87_21, st87_22, st87_23, st87_24, st87_25, st87_26, st87_27, st87_28, st87_29, st87_30, st87_31, st87_32, st87_33, st87_34, st87_35, st87_36, st87_37, hc.1, hc.2.1, f113 hc, c, aft_some, Option.toList_some, Option.toList_none, List.cons_append, List.nil_append, br0, br1, br2, br3, zr01, zr02, n10, n01, ne_eq, not_true_eq_false, not_false_eq_true, if_true, if_false, true_and, and_true, and_self]
    · show rn (d + 12) 188 0 [some (Sum.inr (Sum.inl (69))), some (Sum.inl (x)), some (Sum.inl (y)), none, none, none] [] μ = _
      simp only [st188_0, st188_1, st188_2, st188_3, st188_4, st188_5, st188_6, st188_7, st188_8, st188_9, st188_10, st188_11, st188_12, st188_13, st188_14, st188_15, st188_16, st188_17, st188_18, st188_19, st188_20, st188_21, st188_22, st188_23, st188_24, st188_25, st188_26, st188_27, st188_28, st188_29, st188_30, st188_31, st188_32, st188_33, st188_34, st188_35, st188_36, st188_37, st188_38, st188_39, f140, c, aft_some, Option.toList_some, Option.toList_none, List.cons_append, List.nil_append, br0, br1, br2, br3, zr01, zr02, n10, n01, ne_eq, not_true_eq_false, not_false_eq_true, if_true, if_false, true_and, and_true, and_self]
