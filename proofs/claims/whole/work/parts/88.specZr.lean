/-! SPECS ZR: put, copy -/
def cvS (t : Nat) (x : Int32) : Int32 := if t = 0 then x.toInt8.toInt32 else if t = 1 then x.toInt16.toInt32 else x
theorem f58 {d e i : Nat} {v : Int32} {H : HT} {μ : SMem} (he : e < 8) (hc : CAo μ) (hH : HWF H) (h : ShC μ e H) (hk : hkt H = 2) (hi : i < hsz H) : cl d 58 [Sum.inr (Sum.inl (53 + 2 * e)), Sum.inl (E i), Sum.inl (v)] μ = some (Sum.inl (some (Sum.inl (1))), seti μ (54 + 2 * e) i (cvS (hso H) v)) := by
  obtain ⟨x1', x2', x3', x4', x5'⟩ := hc.2.2.2.2.2.2.2.2.2.2.2 e he
  have hn := hH.2.2.1
  obtain ⟨h1, h2, h3, h4⟩ := h.2.1 hk
  have l1 : (E (hsz H) ≤ E i) = False := by rw [E_leE (by omega) (by omega)]; exact eq_false (by omega)
  have l2 : (E i < 100) = True := by rw [show (100 : Int32) = E 100 from rfl, E_ltE (by omega) (by decide)]; exact eq_true (by omega)
  have z0 := E_z (show hso H < 1000 by have := hH.2.1; omega)
  have z1 := (Ekt (hso H) hH.2.1).2.1
  show rn d 58 0 [some (Sum.inr (Sum.inl (53 + 2 * e))), some (Sum.inl (E i)), some (Sum.inl (v))] [] μ = _
  by_cases c0 : hso H = 0
  · have ev : cvS (hso H) v = v.toInt8.toInt32 := by unfold cvS; rw [if_pos c0]
    rw [ev]
    simp only [st58_0, st58_1, st58_2, st58_3, st58_4, st58_5, st58_6, st58_7, st58_8, st58_9, st58_10, st58_11, st58_12, st58_13, st58_14, st58_15, st58_16, st58_17, st58_18, st58_19, st58_20, st58_21, st58_22, st58_23, st58_24, st58_25, st58_26, st58_27, st58_28, st58_29, st58_30, st58_31, st58_32, st58_33, st58_34, x2', x3', x4', x5', h3, h4, E_lt0 (show i < 1000 by omega), l1, l2, z0, c0, E_ge0 (show i < 1000 by omega), E_n (show i < 1000 by omega), show i < 100 by omega, show (E 0 = (0 : Int32)) = True from eq_true rfl, or_true, aft_some, Option.toList_some, Option.toList_none, List.cons_append, List.nil_append, br0, br1, br2, br3, zr01, zr02, n10, n01, ne_eq, not_true_eq_false, not_false_eq_true, if_true, if_false, true_and, and_true, and_self]
  · by_cases c1 : hso H = 1
    · have ev : cvS (hso H) v = v.toInt16.toInt32 := by unfold cvS; rw [if_neg c0, if_pos c1]
      rw [ev]
      simp only [st58_0, st58_1, st58_2, st58_3, st58_4, st58_5, st58_6, st58_7, st58_8, st58_9, st58_10, st58_11, st58_12, st58_13, st58_14, st58_15, st58_16, st58_17, st58_18, st58_19, st58_20, st58_21, st58_22, st58_23, st58_24, st58_25, st58_26, st58_27, st58_28, st58_29, st58_30, st58_31, st58_32, st58_33, st58_34, x2', x3', x4', x5', h3, h4, E_lt0 (show i < 1000 by omega), l1, l2, z0, c0, z1, c1, E_ge0 (show i < 1000 by omega), E_n (show i < 1000 by omega), show i < 100 by omega, or_true, aft_some, Option.toList_some, Option.toList_none, List.cons_append, List.nil_append, br0, br1, br2, br3, zr01, zr02, n10, n01, ne_eq, not_true_eq_false, not_false_eq_true, if_true, if_false, true_and, and_true, and_self]
      simp only [en10, en11, st58_0, st58_1, st58_2, st58_3, st58_4, st58_5, st58_6, st58_7, st58_8, st58_9, st58_10, st58_11, st58_12, st58_13, st58_14, st58_15, st58_16, st58_17, st58_18, st58_19, st58_20, st58_21, st58_22, st58_23, st58_24, st58_25, st58_26, st58_27, st58_28, st58_29, st58_30, st58_31, st58_32, st58_33, st58_34, x2', x3', x4', x5', E_ge0 (show i < 1000 by omega), E_n (show i < 1000 by omega), show i < 100 by omega, or_true, aft_some, Option.toList_some, Option.toList_none, List.cons_append, List.nil_append, br0, br1, br2, br3, zr01, zr02, n10, n01, ne_eq, not_true_eq_false, not_false_eq_true, if_true, if_false, true_and, and_true, and_self]
    · have ev : cvS (hso H) v = v := by unfold cvS; rw [if_neg c0, if_neg c1]
      rw [ev]
      simp only [st58_0, st58_1, st58_2, st58_3, st58_4, st58_5, st58_6, st58_7, st58_8, st58_9, st58_10, st58_11, st58_12, st58_13, st58_14, st58_15, st58_16, st58_17, st58_18, st58_19, st58_20, st58_21, st58_22, st58_23, st58_24, st58_25, st58_26, st58_27, st58_28, st58_29, st58_30, st58_31, st58_32, st58_33, st58_34, x2', x3', x4', x5', h3, h4, E_lt0 (show i < 1000 by omega), l1, l2, z0, c0, z1, c1, E_ge0 (show i < 1000 by omega), E_n (show i < 1000 by omega), show i < 100 by omega, or_true, aft_some, Option.toList_some, Option.toList_none, List.cons_append, List.nil_append, br0, br1, br2, br3, zr01, zr02, n10, n01, ne_eq, not_true_eq_false, not_false_eq_true, if_true, if_false, true_and, and_true, and_self]
theorem f58n {d e : Nat} {x v : Int32} {H : HT} {μ : SMem} (he : e < 8) (hc : CAo μ) (hH : HWF H) (h : ShC μ e H) (hk : hkt H = 2) (hx : ¬ (0 ≤ x ∧ x < E (hsz H))) : cl d 58 [Sum.inr (Sum.inl (53 + 2 * e)), Sum.inl (x), Sum.inl (v)] μ = some (Sum.inl (some (Sum.inl (0))), μ) := by
  obtain ⟨x1', x2', x3', x4', x5'⟩ := hc.2.2.2.2.2.2.2.2.2.2.2 e he
  obtain ⟨h1, h2, h3, h4⟩ := h.2.1 hk
  show rn d 58 0 [some (Sum.inr (Sum.inl (53 + 2 * e))), some (Sum.inl (x)), some (Sum.inl (v))] [] μ = _
  by_cases c : x < 0
  · simp only [st58_0, st58_1, st58_2, st58_3, st58_4, st58_5, st58_6, st58_7, st58_8, st58_9, st58_10, st58_11, st58_12, st58_13, st58_14, st58_15, st58_16, st58_17, st58_18, st58_19, st58_20, st58_21, st58_22, st58_23, st58_24, st58_25, st58_26, st58_27, st58_28, st58_29, st58_30, st58_31, st58_32, st58_33, st58_34, c, true_or, aft_some, Option.toList_some, Option.toList_none, List.cons_append, List.nil_append, br0, br1, br2, br3, zr01, zr02, n10, n01, ne_eq, not_true_eq_false, not_false_eq_true, if_true, if_false, true_and, and_true, and_self]
  · have c2 : E (hsz H) ≤ x := Int32.not_lt.mp fun q => hx ⟨Int32.not_lt.mp c, q⟩
    simp only [st58_0, st58_1, st58_2, st58_3, st58_4, st58_5, st58_6, st58_7, st58_8, st58_9, st58_10, st58_11, st58_12, st58_13, st58_14, st58_15, st58_16, st58_17, st58_18, st58_19, st58_20, st58_21, st58_22, st58_23, st58_24, st58_25, st58_26, st58_27, st58_28, st58_29, st58_30, st58_31, st58_32, st58_33, st58_34, x2', c, h4, c2, true_or, aft_some, Option.toList_some, Option.toList_none, List.cons_append, List.nil_append, br0, br1, br2, br3, zr01, zr02, n10, n01, ne_eq, not_true_eq_false, not_false_eq_true, if_true, if_false, true_and, and_true, and_self]
theorem g107 {d : Nat} {x y z : Int32} {A Ai : AT} {im : Nat} {Hs : Nat → HT} {μ : SMem} (h : INVw μ A Ai im Hs) : ∃ v μ1 μ2 Hs', cl (d + 12) 107 [Sum.inr (Sum.inl (2)), Sum.inl (x), Sum.inl (y), Sum.inl (z)] μ = some (Sum.inl (some (Sum.inl (v))), μ1) ∧ cl (d + 12) 217 [Sum.inr (Sum.inl (69)), Sum.inl (x), Sum.inl (y), Sum.inl (z)] μ1 = some (Sum.inl (some (Sum.inl (v))), μ2) ∧ INVw μ2 A Ai im Hs' ∧ Hs' 8 = Hs 8 ∧ sz μ2 = sz μ ∧ sl μ2 = sl μ ∧ K1 μ μ1 := by
  have hB := h.1
  obtain ⟨hm, hc, hw, ht, hr⟩ := hB
  have hu := h.2.2.2.2.2
  have n1 : ((-1 : Int32) = 0) = False := eq_false (by decide)
  by_cases c : 0 ≤ x ∧ x < 8
  · obtain ⟨e, he, rfl⟩ := E_of (n := 8) c.1 c.2 (by decide)
    obtain ⟨hH, hC, hM⟩ := h.2.2.2.1 e he
    have e0 : (53 + 2 * e = 0) = False := eq_false (by omega)
    have hn := hH.2.2.1
    obtain ⟨x1', x2', x3', x4', x5'⟩ := hc.2.2.2.2.2.2.2.2.2.2.2 e he
    by_cases k : rfW (Hs e) = 0
    · have hk := rfW_0 k
      have lm := le_m1 (x := y) (show hsz (Hs e) < 1000 by omega)
      by_cases cy : 0 ≤ y ∧ y < E (hsz (Hs e))
      · obtain ⟨i, hi, rfl⟩ := E_of cy.1 cy.2 (by omega)
        have a1 := fun d => f58 (d := d) (v := z) he hc hH hC hk hi
        have s1 : SG (PC e) (QSh e) μ (seti μ (54 + 2 * e) i (cvS (hso (Hs e)) z)) := SG.seti hu (Or.inr rfl)
        have sb1 : SB (fun c => c = 54 + 2 * e) μ (seti μ (54 + 2 * e) i (cvS (hso (Hs e)) z)) := SB.se rfl
        have g1 : ∀ j, j < 100 → gi (seti μ (54 + 2 * e) i (cvS (hso (Hs e)) z)) (54 + 2 * e) j = up1 (hel (Hs e)) i (cvS (hso (Hs e)) z) j := fun j hj => by
          rw [gi_seti]
          by_cases q : j = i
          · rw [if_pos ⟨rfl, q⟩, up1, if_pos q]
          · rw [if_neg (fun h => q h.2), up1, if_neg q]; exact hC.1 j hj
        have hz1 : sz (seti μ (54 + 2 * e) i (cvS (hso (Hs e)) z)) = sz μ := rfl
        have hz2 : sl (seti μ (54 + 2 * e) i (cvS (hso (Hs e)) z)) = sl μ := rfl
        generalize seti μ (54 + 2 * e) i (cvS (hso (Hs e)) z) = μ1 at *
        have hm1 := hm.sb sb1
        have hc1 := hc.sb sb1
        have hM1 := hM.sg hm s1 (fun c j p => by unfold PC at p; omega)
        have hu1 := s1.2.2.2.2.2
        obtain ⟨q1, q2, q3, q4⟩ := hC.2.1 hk
        have e53 : ∀ j, gi μ1 (53 + 2 * e) j = gi μ (53 + 2 * e) j := fun j => by rw [sb1.2.2.2.2.2.2 _ (by omega)]
        have sM : SG (PMm e) NoC μ1 (seti μ1 77 (100 * e + i) (cvS (hso (Hs e)) z)) := SG.seti hu1 (Or.inr ⟨rfl, by omega, by omega⟩)
        have fin := h.sh (H' := ((2, hso (Hs e), hsz (Hs e), hkd (Hs e), hfg (Hs e)), up1 (hel (Hs e)) i (cvS (hso (Hs e)) z))) he ((s1.wk (fun c j p => PC_sh p) (fun c j q => q)).tr (sM.wk (fun c j p => PMm_sh p) (fun c j q => q.elim))) ⟨(by decide : (2 : Nat) < 3), hH.2.1, hn, fun q => absurd (show 2 = 1 from q) (by decide)⟩ (ShC.sm (e := e) ⟨g1, fun _ => ⟨by rw [sb1.2.2.1]; exact q1, by rw [e53]; exact q2, by rw [e53]; exact q3, by rw [e53]; exact q4⟩, fun q => absurd (show 2 = 1 from q) (by decide), fun q => absurd (show 2 = 0 from q) (by decide)⟩ he hc1 hm1 sM) ⟨by rw [gi_seti, if_neg (by omega), hM1.1, hk]; rfl, fun _ => ⟨by rw [gi_seti, if_neg (by omega)]; exact (hM1.2.1 hk).1, by rw [gi_seti, if_neg (by omega)]; exact (hM1.2.1 hk).2⟩, fun q => absurd (show 2 = 1 from q) (by decide), fun j hj => by
          rw [gi_seti]
          show _ = up1 (hel (Hs e)) i (cvS (hso (Hs e)) z) j
          by_cases q : j = i
          · rw [if_pos ⟨rfl, by rw [q]⟩, up1, if_pos q]
          · rw [if_neg (fun h => q (by omega)), up1, if_neg q]; exact hM1.2.2.2 j hj⟩
        refine ⟨0, μ1, _, _, ?_, ?_, fin, up8 he, hz1, hz2, K1.sg s1⟩
        · show rn (d + 12) 107 0 [some (Sum.inr (Sum.inl (2))), some (Sum.inl (E e)), some (Sum.inl (E i)), some (Sum.inl (z)), none, none] [] μ = _
          simp only [st107_0, st107_1, st107_2, st107_3, st107_4, st107_5, st107_6, st107_7, st107_8, st107_9, st107_10, st107_11, st107_12, st107_13, st107_14, st107_15, st107_16, st107_17, st107_18, st107_19, st107_20, st107_21, hc.1, f113 hc, c, E_n (show e < 1000 by omega), e0, f114 he hc hH hC, k, x2', a1, aft_some, Option.toList_some, Option.toList_none, List.cons_append, List.nil_append, br0, br1, br2, br3, zr01, zr02, n10, n01, ne_eq, not_true_eq_false, not_false_eq_true, if_true, if_false, true_and, and_true, and_self]
        · have f168 := fun d => f168w (d := d) he hm1 hH hM1
          obtain ⟨r1, r2⟩ := hM1.2.1 hk
          obtain ⟨m1, m2, m3, m4, m5, m6, m7, m8, m9, m10, m11, m12, m13, m14, ⟨t0, t1, t2, t3, t4, t5, t6, t7, t8, t9, t10, t11, t12⟩, l0, l1, l2, l3, l4, l5, l6, l7, l8, l9, l10, l11, l12⟩ := hm1
          have z0 := E_z (show hso (Hs e) < 1000 by have := hH.2.1; omega)
          have z1 := (Ekt (hso (Hs e)) hH.2.1).2.1
          show rn (d + 12) 217 0 [some (Sum.inr (Sum.inl (69))), some (Sum.inl (E e)), some (Sum.inl (E i)), some (Sum.inl (z)), none] [] μ1 = _
          by_cases c0 : hso (Hs e) = 0
          · have ev : cvS (hso (Hs e)) z = z.toInt8.toInt32 := by unfold cvS; rw [if_pos c0]
            rw [ev]
            simp only [st217_0, st217_1, st217_2, st217_3, st217_4, st217_5, st217_6, st217_7, st217_8, st217_9, st217_10, st217_11, st217_12, st217_13, st217_14, st217_15, st217_16, st217_17, st217_18, st217_19, st217_20, st217_21, st217_22, st217_23, st217_24, st217_25, st217_26, st217_27, st217_28, st217_29, st217_30, st217_31, st217_32, st217_33, st217_34, st217_35, st217_36, st217_37, st217_38, st217_39, st217_40, st217_41, st217_42, st217_43, st217_44, st217_45, st217_46, st217_47, st217_48, st217_49, st217_50, f168, k, m1, m7, m8, m9, t5, t6, t7, l5, l6, l7, E_ge0 (show e < 1000 by omega), E_n (show e < 1000 by omega), he, r1, r2, f139, l_ge0, l_le, lm, cy, z0, c0, show (E 0 = (0 : Int32)) = True from eq_true rfl, ix100, E_ge0 (show 100 * e + i < 1000 by omega), E_n (show 100 * e + i < 1000 by omega), show 100 * e + i < 800 by omega, aft_some, Option.toList_some, Option.toList_none, List.cons_append, List.nil_append, br0, br1, br2, br3, zr01, zr02, n10, n01, ne_eq, not_true_eq_false, not_false_eq_true, if_true, if_false, true_and, and_true, and_self]
          · by_cases c1 : hso (Hs e) = 1
            · have ev : cvS (hso (Hs e)) z = z.toInt16.toInt32 := by unfold cvS; rw [if_neg c0, if_pos c1]
              rw [ev]
              rw [c1] at r1
              simp only [st217_0, st217_1, st217_2, st217_3, st217_4, st217_5, st217_6, st217_7, st217_8, st217_9, st217_10, st217_11, st217_12, st217_13, st217_14, st217_15, st217_16, st217_17, st217_18, st217_19, st217_20, st217_21, st217_22, st217_23, st217_24, st217_25, st217_26, st217_27, st217_28, st217_29, st217_30, st217_31, st217_32, st217_33, st217_34, st217_35, st217_36, st217_37, st217_38, st217_39, st217_40, st217_41, st217_42, st217_43, st217_44, st217_45, st217_46, st217_47, st217_48, st217_49, st217_50, f168, k, m1, m7, m8, m9, t5, t6, t7, l5, l6, l7, E_ge0 (show e < 1000 by omega), E_n (show e < 1000 by omega), he, r1, r2, f139, l_ge0, l_le, lm, cy, en10, en11, ix100, E_ge0 (show 100 * e + i < 1000 by omega), E_n (show 100 * e + i < 1000 by omega), show 100 * e + i < 800 by omega, aft_some, Option.toList_some, Option.toList_none, List.cons_append, List.nil_append, br0, br1, br2, br3, zr01, zr02, n10, n01, ne_eq, not_true_eq_false, not_false_eq_true, if_true, if_false, true_and, and_true, and_self]
            · have ev : cvS (hso (Hs e)) z = z := by unfold cvS; rw [if_neg c0, if_neg c1]
              rw [ev]
              simp only [st217_0, st217_1, st217_2, st217_3, st217_4, st217_5, st217_6, st217_7, st217_8, st217_9, st217_10, st217_11, st217_12, st217_13, st217_14, st217_15, st217_16, st217_17, st217_18, st217_19, st217_20, st217_21, st217_22, st217_23, st217_24, st217_25, st217_26, st217_27, st217_28, st217_29, st217_30, st217_31, st217_32, st217_33, st217_34, st217_35, st217_36, st217_37, st217_38, st217_39, st217_40, st217_41, st217_42, st217_43, st217_44, st217_45, st217_46, st217_47, st217_48, st217_49, st217_50, f168, k, m1, m7, m8, m9, t5, t6, t7, l5, l6, l7, E_ge0 (show e < 1000 by omega), E_n (show e < 1000 by omega), he, r1, r2, f139, l_ge0, l_le, lm, cy, z0, c0, z1, c1, ix100, E_ge0 (show 100 * e + i < 1000 by omega), E_n (show 100 * e + i < 1000 by omega), show 100 * e + i < 800 by omega, aft_some, Option.toList_some, Option.toList_none, List.cons_append, List.nil_append, br0, br1, br2, br3, zr01, zr02, n10, n01, ne_eq, not_true_eq_false, not_false_eq_true, if_true, if_false, true_and, and_true, and_self]
      · refine ⟨-13, μ, μ, Hs, ?_, ?_, h, rfl, rfl, rfl, K1.rf⟩
        · show rn (d + 12) 107 0 [some (Sum.inr (Sum.inl (2))), some (Sum.inl (E e)), some (Sum.inl (y)), some (Sum.inl (z)), none, none] [] μ = _
          simp only [st107_0, st107_1, st107_2, st107_3, st107_4, st107_5, st107_6, st107_7, st107_8, st107_9, st107_10, st107_11, st107_12, st107_13, st107_14, st107_15, st107_16, st107_17, st107_18, st107_19, st107_20, st107_21, hc.1, f113 hc, c, E_n (show e < 1000 by omega), e0, f114 he hc hH hC, k, x2', f58n he hc hH hC hk cy, aft_some, Option.toList_some, Option.toList_none, List.cons_append, List.nil_append, br0, br1, br2, br3, zr01, zr02, n10, n01, ne_eq, not_true_eq_false, not_false_eq_true, if_true, if_false, true_and, and_true, and_self]
        · have f168 := fun d => f168w (d := d) he hm hH hM
          obtain ⟨r1, r2⟩ := hM.2.1 hk
          obtain ⟨m1, m2, m3, m4, m5, m6, m7, m8, m9, m10, m11, m12, m13, m14, ⟨t0, t1, t2, t3, t4, t5, t6, t7, t8, t9, t10, t11, t12⟩, l0, l1, l2, l3, l4, l5, l6, l7, l8, l9, l10, l11, l12⟩ := hm
          show rn (d + 12) 217 0 [some (Sum.inr (Sum.inl (69))), some (Sum.inl (E e)), some (Sum.inl (y)), some (Sum.inl (z)), none] [] μ = _
          simp only [st217_0, st217_1, st217_2, st217_3, st217_4, st217_5, st217_6, st217_7, st217_8, st217_9, st217_10, st217_11, st217_12, st217_13, st217_14, st217_15, st217_16, st217_17, st217_18, st217_19, st217_20, st217_21, st217_22, st217_23, st217_24, st217_25, st217_26, st217_27, st217_28, st217_29, st217_30, st217_31, st217_32, st217_33, st217_34, st217_35, st217_36, st217_37, st217_38, st217_39, st217_40, st217_41, st217_42, st217_43, st217_44, st217_45, st217_46, st217_47, st217_48, st217_49, st217_50, f168, k, m1, m7, m8, m9, t5, t6, t7, l5, l6, l7, E_ge0 (show e < 1000 by omega), E_n (show e < 1000 by omega), he, r1, r2, f139, l_ge0, l_le, lm, cy, aft_some, Option.toList_some, Option.toList_none, List.cons_append, List.nil_append, br0, br1, br2, br3, zr01, zr02, n10, n01, ne_eq, not_true_eq_false, not_false_eq_true, if_true, if_false, true_and, and_true, and_self]
    · refine ⟨rfW (Hs e), μ, μ, Hs, ?_, ?_, h, rfl, rfl, rfl, K1.rf⟩
      · show rn (d + 12) 107 0 [some (Sum.inr (Sum.inl (2))), some (Sum.inl (E e)), some (Sum.inl (y)), some (Sum.inl (z)), none, none] [] μ = _
        simp only [st107_0, st107_1, st107_2, st107_3, st107_4, st107_5, st107_6, st107_7, st107_8, st107_9, st107_10, st107_11, st107_12, st107_13, st107_14, st107_15, st107_16, st107_17, st107_18, st107_19, st107_20, st107_21, hc.1, f113 hc, c, E_n (show e < 1000 by omega), e0, f114 he hc hH hC, k, aft_some, Option.toList_some, Option.toList_none, List.cons_append, List.nil_append, br0, br1, br2, br3, zr01, zr02, n10, n01, ne_eq, not_true_eq_false, not_false_eq_true, if_true, if_false, true_and, and_true, and_self]
      · show rn (d + 12) 217 0 [some (Sum.inr (Sum.inl (69))), some (Sum.inl (E e)), some (Sum.inl (y)), some (Sum.inl (z)), none] [] μ = _
        simp only [st217_0, st217_1, st217_2, st217_3, st217_4, st217_5, st217_6, st217_7, st217_8, st217_9, st217_10, st217_11, st217_12, st217_13, st217_14, st217_15, st217_16, st217_17, st217_18, st217_19, st217_20, st217_21, st217_22, st217_23, st217_24, st217_25, st217_26, st217_27, st217_28, st217_29, st217_30, st217_31, st217_32, st217_33, st217_34, st217_35, st217_36, st217_37, st217_38, st217_39, st217_40, st217_41, st217_42, st217_43, st217_44, st217_45, st217_46, st217_47, st217_48, st217_49, st217_50, hm.1, f168w he hm hH hM, k, aft_some, Option.toList_some, Option.toList_none, List.cons_append, List.nil_append, br0, br1, br2, br3, zr01, zr02, n10, n01, ne_eq, not_true_eq_false, not_false_eq_true, if_true, if_false, true_and, and_true, and_self]
  · refine ⟨-1, μ, μ, Hs, ?_, ?_, h, rfl, rfl, rfl, K1.rf⟩
    · show rn (d + 12) 107 0 [some (Sum.inr (Sum.inl (2))), some (Sum.inl (x)), some (Sum.inl (y)), some (Sum.inl (z)), none, none] [] μ = _
      simp only [st107_0, st107_1, st107_2, st107_3, st107_4, st107_5, st107_6, st107_7, st107_8, st107_9, st107_10, st107_11, st107_12, st107_13, st107_14, st107_15, st107_16, st107_17, st107_18, st107_19, st107_20, st107_21, hc.1, f113 hc, c, f114n, aft_some, Option.toList_some, Option.toList_none, List.cons_append, List.nil_append, br0, br1, br2, br3, zr01, zr02, n10, n01, ne_eq, not_true_eq_false, not_false_eq_true, if_true, if_false, true_and, and_true, and_self]
    · show rn (d + 12) 217 0 [some (Sum.inr (Sum.inl (69))), some (Sum.inl (x)), some (Sum.inl (y)), some (Sum.inl (z)), none] [] μ = _
      simp only [st217_0, st217_1, st217_2, st217_3, st217_4, st217_5, st217_6, st217_7, st217_8, st217_9, st217_10, st217_11, st217_12, st217_13, st217_14, st217_15, st217_16, st217_17, st217_18, st217_19, st217_20, st217_21, st217_22, st217_23, st217_24, st217_25, st217_26, st217_27, st217_28, st217_29, st217_30, st217_31, st217_32, st217_33, st217_34, st217_35, st217_36, st217_37, st217_38, st217_39, st217_40, st217_41, st217_42, st217_43, st217_44, st217_45, st217_46, st217_47, st217_48, st217_49, st217_50, hm.1, f168n hm c, n1, aft_some, Option.toList_some, Option.toList_none, List.cons_append, List.nil_append, br0, br1, br2, br3, zr01, zr02, n10, n01, ne_eq, not_true_eq_false, not_false_eq_true, if_true, if_false, true_and, and_true, and_self]
/-- an int that fits behind a place -/
theorem fit_E {s : Nat} {y z : Int32} (hs : s ≤ 100) (hy : 0 ≤ y) (hz : 0 ≤ z) (h : z ≤ E s - y) : ∃ p n, y = E p ∧ z = E n ∧ p + n ≤ s := by
  have y0 := Int32.le_iff_toInt_le.mp hy
  have z0 := Int32.le_iff_toInt_le.mp hz
  have e0 : (0 : Int32).toInt = 0 := rfl
  have h1 := Int32.le_iff_toInt_le.mp h
  have yt := Int32.toInt_lt y
  rw [Int32.toInt_sub, E_toInt (show s < 2147483648 by omega), Int.bmod_eq_of_le (by omega) (by omega)] at h1
  obtain ⟨p, hp, ep⟩ := E_of (x := y) (n := 101) hy (Int32.lt_iff_toInt_lt.mpr (by have e0 : (E 101).toInt = 101 := rfl; omega)) (by decide)
  obtain ⟨n, hn, en⟩ := E_of (x := z) (n := 101) hz (Int32.lt_iff_toInt_lt.mpr (by have e0 : (E 101).toInt = 101 := rfl; omega)) (by decide)
  refine ⟨p, n, ep, en, ?_⟩
  rw [ep, en, E_toInt (by omega), E_toInt (by omega)] at h1
  omega
