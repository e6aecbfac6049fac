/-! SPECS ZN: spoils, the call -/
def spX (x6 : Int32) (s : Int32 × Int32) : Int32 := if s.1 = -4 then x6 else s.2
theorem f193_lp {d e b n : Nat} {A : AT} {H : HT} {z x4 x6 : Int32} {μ0 : SMem} (he : e < 8) (hm : MA μ0) (hw : WF A) (hH : HWF H) (hC : ShM μ0 e H) (hk : hkt H = 2) (hsn : hsz H = n) (hn : n < 7) (hb : b < bcA A) (hok : ∀ i, i < n → ∃ r, r < rcA A ∧ hel H i = E r) (hq : MQr (gi μ0 70) A (inA A)) (h73 : ∀ j, j < 87 → gi μ0 73 j = gi μ0 70 j) : ∀ k p (μ : SMem) (u8 : Option SV), p + k = pgA A b → SB (fun c => c = 70) μ0 μ → (∀ j, j < 87 → gi μ 70 j = gi μ0 70 j) → ∃ μ' u8', rn (d + 6) 193 29 [some (Sum.inr (Sum.inl (69))), some (Sum.inl (E b)), some (Sum.inl (E e)), some (Sum.inl (z)), some (Sum.inl (x4)), some (Sum.inl ((spF A b (hel H) n p).1)), some (Sum.inl (spX x6 (spF A b (hel H) n p))), some (Sum.inl (E p)), u8] [] μ = rn (d + 6) 193 64 [some (Sum.inr (Sum.inl (69))), some (Sum.inl (E b)), some (Sum.inl (E e)), some (Sum.inl (z)), some (Sum.inl (x4)), some (Sum.inl ((spF A b (hel H) n (pgA A b)).1)), some (Sum.inl (spX x6 (spF A b (hel H) n (pgA A b)))), some (Sum.inl (E (pgA A b))), u8'] [] μ' ∧ SB (fun c => c = 70) μ0 μ' ∧ (∀ j, j < 87 → gi μ' 70 j = gi μ0 70 j) := by
  obtain ⟨v1, v2, v3, v4, v5, v6⟩ := hw.2.2.1 b hb
  have b4 : b < 4 := by have := hw.1; omega
  have hS := hw.in9 b
  intro k
  induction k with
  | zero =>
    intro p μ u8 hp hs hj
    have : p = pgA A b := by omega
    subst this
    have hm1 := hm.sb hs
    refine ⟨μ, u8, ?_, hs, hj⟩
    have g3 : gi μ 70 (3 + 18 * b) = E (pgA A b) := by rw [hj _ (by omega)]; exact (hq.2.2.1 b hb).1
    rw [st193_29]
    simp only [st193_30, st193_31, st193_32, st193_33, hm1.1, f143 b4 hm1, g3, Int32.le_refl, aft_some, Option.toList_some, Option.toList_none, List.cons_append, List.nil_append, br0, br1, br2, br3, zr01, zr02, n10, n01, ne_eq, not_true_eq_false, not_false_eq_true, if_true, if_false, true_and, and_true, and_self]
  | succ k ih =>
    intro p μ u8 hp hs hj
    have hm1 := hm.sb hs
    have hC1 := hC.sb hs (fun c e9 => by omega)
    have p8 : p < 8 := by omega
    have p1 : E p + 1 = E (p + 1) := E_add p 1
    have hM : MQr (gi μ 70) A (inA A) := hq.same hw hj
    have hbs := hM.bk hw hb
    have g3 : gi μ 70 (3 + 18 * b) = E (pgA A b) := (hM.2.2.1 b hb).1
    have cx : ¬ E (pgA A b) ≤ E p := by rw [E_le (by omega) (by omega)]; omega
    by_cases c : (inA A b).testBit p = true
    · have f161' := fun d => f161 (d := d) (to := -4) p8 hm1 hbs
      have hcl := clr_lt2 _ v2 _ v3 p p8
      have hM2 := hM.st2 (x := -4) hw hb hcl p8
      have s1 : SB (fun c => c = 70) μ (seti (seti μ 70 (4 + 18 * b) (E (clr (inA A b) p))) 70 (13 + 18 * b + p) (-4)) := SB.se2
      generalize seti (seti μ 70 (4 + 18 * b) (E (clr (inA A b) p))) 70 (13 + 18 * b + p) (-4) = μ1 at *
      have hm2 := hm1.sb s1
      obtain ⟨μ2, z1, z2⟩ := f192 (d := d) (S0 := clr (inA A b) p) he hm2 hw hH (hC1.sb s1 (fun c e9 => by omega)) hk hsn hn hb hok hM2 (by rw [up1, if_pos rfl])
      have hm3 := hm2.sb z2
      obtain ⟨μ3, y1, y2, y3⟩ := f184 (d := d + 4) hm3
      have hs3 : SB (fun c => c = 70) μ0 μ3 := hs.tr (s1.tr (z2.tr y2))
      have hj3 : ∀ j, j < 87 → gi μ3 70 j = gi μ0 70 j := fun j hj9 => by rw [y3 j hj9, z2.2.2.2.2.2.2 73 (by omega), s1.2.2.2.2.2.2 73 (by omega), hs.2.2.2.2.2.2 73 (by omega), h73 j hj9]
      have hcs := (csF_lt (A := A) (b := b) (el := hel H) hw hb (clr_lt _ hS p p8) n (fun j hj => hok j hj)).2
      have e0 : (0 : Int32) ≤ E (csF A b (hel H) (clr (inA A b) p) n).1 := E_nonneg (by omega)
      obtain ⟨μ', u8', o1, o2, o3⟩ := ih (p + 1) μ3 (some (Sum.inl (E (csF A b (hel H) (clr (inA A b) p) n).1))) (by omega) hs3 hj3
      refine ⟨μ', u8', ?_, o2, o3⟩
      by_cases cb : (spF A b (hel H) n p).2 < E (csF A b (hel H) (clr (inA A b) p) n).1
      · rw [spF_s p, if_pos ⟨c, cb⟩] at o1
        have ex : spX x6 (E p, E (csF A b (hel H) (clr (inA A b) p) n).1) = E (csF A b (hel H) (clr (inA A b) p) n).1 := if_neg (fun h => (Em4 (by omega)).mp h)
        rw [ex] at o1
        rw [st193_29]
        rcases spF_v (A := A) (b := b) (el := hel H) (n := n) p with q | ⟨q, hq9, e9⟩
        · simp only [st193_30, st193_31, st193_32, st193_33, st193_34, st193_35, st193_36, st193_37, st193_38, st193_39, st193_40, st193_41, st193_42, st193_43, st193_44, st193_45, st193_46, st193_47, st193_48, st193_49, st193_50, st193_51, st193_52, st193_53, st193_54, st193_55, st193_56, st193_57, st193_58, st193_59, st193_60, st193_61, st193_62, st193_63, hm1.1, f143 b4 hm1, g3, cx, f149 p8 hm1 hbs, c, f161', hm2.1, z1, hm3.1, y1, q, show ((-4 : Int32) < 0) = True from eq_true (by decide), p1, aft_some, Option.toList_some, Option.toList_none, List.cons_append, List.nil_append, br0, br1, br2, br3, zr01, zr02, n10, n01, ne_eq, not_true_eq_false, not_false_eq_true, if_true, if_false, true_and, and_true, and_self]
          exact o1
        · have ex2 : spX x6 (spF A b (hel H) n p) = (spF A b (hel H) n p).2 := if_neg (fun h => by rw [e9] at h; exact (Em4 (by omega)).mp h)
          simp only [st193_30, st193_31, st193_32, st193_33, st193_34, st193_35, st193_36, st193_37, st193_38, st193_39, st193_40, st193_41, st193_42, st193_43, st193_44, st193_45, st193_46, st193_47, st193_48, st193_49, st193_50, st193_51, st193_52, st193_53, st193_54, st193_55, st193_56, st193_57, st193_58, st193_59, st193_60, st193_61, st193_62, st193_63, hm1.1, f143 b4 hm1, g3, cx, f149 p8 hm1 hbs, c, f161', hm2.1, z1, hm3.1, y1, ex2, e9, E_lt0 (show q < 1000 by omega), cb, p1, aft_some, Option.toList_some, Option.toList_none, List.cons_append, List.nil_append, br0, br1, br2, br3, zr01, zr02, n10, n01, ne_eq, not_true_eq_false, not_false_eq_true, if_true, if_false, true_and, and_true, and_self]
          exact o1
      · rw [spF_s p, if_neg (fun h => cb h.2)] at o1
        rw [st193_29]
        rcases spF_v (A := A) (b := b) (el := hel H) (n := n) p with q | ⟨q, hq9, e9⟩
        · rw [q] at cb
          exact absurd (Int32.lt_of_lt_of_le (by decide : (-1 : Int32) < 0) e0) cb
        · have ex2 : spX x6 (spF A b (hel H) n p) = (spF A b (hel H) n p).2 := if_neg (fun h => by rw [e9] at h; exact (Em4 (by omega)).mp h)
          rw [ex2, e9] at o1
          simp only [st193_30, st193_31, st193_32, st193_33, st193_34, st193_35, st193_36, st193_37, st193_38, st193_39, st193_40, st193_41, st193_42, st193_43, st193_44, st193_45, st193_46, st193_47, st193_48, st193_49, st193_50, st193_51, st193_52, st193_53, st193_54, st193_55, st193_56, st193_57, st193_58, st193_59, st193_60, st193_61, st193_62, st193_63, hm1.1, f143 b4 hm1, g3, cx, f149 p8 hm1 hbs, c, f161', hm2.1, z1, hm3.1, y1, ex2, e9, E_lt0 (show q < 1000 by omega), cb, p1, aft_some, Option.toList_some, Option.toList_none, List.cons_append, List.nil_append, br0, br1, br2, br3, zr01, zr02, n10, n01, ne_eq, not_true_eq_false, not_false_eq_true, if_true, if_false, true_and, and_true, and_self]
          exact o1
    · obtain ⟨μ', u8', o1, o2, o3⟩ := ih (p + 1) μ u8 (by omega) hs hj
      refine ⟨μ', u8', ?_, o2, o3⟩
      rw [spF_s p, if_neg (fun h => c h.1)] at o1
      rw [st193_29]
      simp only [st193_30, st193_31, st193_32, st193_33, st193_34, st193_35, st193_36, st193_37, st193_38, st193_39, st193_40, st193_41, st193_42, st193_43, st193_44, st193_45, st193_46, st193_47, st193_48, st193_49, st193_50, st193_51, st193_52, st193_53, st193_54, st193_55, st193_56, st193_57, st193_58, st193_59, st193_60, st193_61, st193_62, st193_63, hm1.1, f143 b4 hm1, g3, cx, f149 p8 hm1 hbs, c, show (false = true) = False from eq_false (by decide), p1, aft_some, Option.toList_some, Option.toList_none, List.cons_append, List.nil_append, br0, br1, br2, br3, zr01, zr02, n10, n01, ne_eq, not_true_eq_false, not_false_eq_true, if_true, if_false, true_and, and_true, and_self]
      exact o1
theorem spF_8 {A : AT} {b n : Nat} {el : Nat → Int32} (hw : WF A) : spF A b el n 8 = spF A b el n (pgA A b) := by
  have e := spF_stop (A := A) (b := b) (n := n) (el := el) hw (8 - pgA A b)
  rw [show pgA A b + (8 - pgA A b) = 8 by have := hw.pg9 b; omega] at e
  exact e
theorem g89 {d : Nat} {x y z : Int32} {A Ai : AT} {im : Nat} {Hs : Nat → HT} {μ : SMem} (h : INVw μ A Ai im Hs) : ∃ v μ2, cl (d + 12) 89 [Sum.inr (Sum.inl (2)), Sum.inl (x), Sum.inl (y), Sum.inl (z)] μ = some (Sum.inl (some (Sum.inl (v))), μ) ∧ cl (d + 12) 193 [Sum.inr (Sum.inl (69)), Sum.inl (x), Sum.inl (y), Sum.inl (z)] μ = some (Sum.inl (some (Sum.inl (v))), μ2) ∧ INVw μ2 A Ai im Hs ∧ sz μ2 = sz μ ∧ sl μ2 = sl μ := by
  have hB := h.1
  obtain ⟨hm, hc, hw, ht, hr⟩ := hB
  have hq := hr.mq hw
  have n1 : ((-1 : Int32) = 0) = False := eq_false (by decide)
  by_cases cy : 0 ≤ y ∧ y < 8
  · obtain ⟨e, he, rfl⟩ := E_of (n := 8) cy.1 cy.2 (by decide)
    obtain ⟨hH, hC, hM⟩ := h.2.2.2.1 e he
    have e0 : (53 + 2 * e = 0) = False := eq_false (by omega)
    by_cases cx : 0 ≤ x ∧ x < E (bcA A)
    · obtain ⟨b, hb, rfl⟩ := E_of cx.1 cx.2 (by have := hw.1; omega)
      have b4 : b < 4 := by have := hw.1; omega
      have b0 : (3 + 3 + 3 * b = 0) = False := eq_false (by omega)
      by_cases cz : 0 ≤ z ∧ z ≤ 1
      · have cz0 : ¬ z < 0 := Int32.not_lt.mpr cz.1
        by_cases k : rfRs A (Hs e) = 0
        · obtain ⟨hk, h6, hok'⟩ := rfRs_0 k
          have hok := ok_rs hw hok'
          have h7 : hsz (Hs e) < 7 := by omega
          have hS := hw.in9 b
          obtain ⟨u1, u2, u3, u4⟩ := ht.2.2.2.2.1 b b4
          have hbk := ht.bk b4
          have hcs := fun S0 (hS0 : S0 < 256) => (csF_lt (A := A) (b := b) (el := hel (Hs e)) hw hb hS0 (hsz (Hs e)) (fun j hj => hok j hj)).2
          obtain ⟨u10, a1⟩ := f89_lp (d := d + 6) (x1 := E b) (x2 := E e) (x3 := z) (x6 := 0) he h.1 hH hC hk rfl h7 hb hok 8 0 none (by omega)
          have e125 := fun d => f125 (d := d) he h.1 hH hC hk rfl h7 hb hok hS
          obtain ⟨μa, b1, b2, b3⟩ := f183 (d := d + 10) hm
          have hma := hm.sb b2
          have hMa := hM.sb b2 (fun c e => by omega)
          have hqa : MQr (gi μa 70) A (inA A) := hq.same hw (fun j _ => by rw [b2.2.2.2.2.2.2 70 (by omega)])
          have h73 : ∀ j, j < 87 → gi μa 73 j = gi μa 70 j := fun j hj => by rw [b3 j hj, b2.2.2.2.2.2.2 70 (by omega)]
          have g4 : gi μa 70 (4 + 18 * b) = E (inA A b) := (hqa.2.2.1 b hb).2.1
          have main : ∀ (x6 : Int32), ((inA A b = 0) → x6 = E (csF A b (hel (Hs e)) (inA A b) (hsz (Hs e))).1) → (if z = 0 then (spF A b (hel (Hs e)) (hsz (Hs e)) 8).1 else if (spF A b (hel (Hs e)) (hsz (Hs e)) 8).1 = -4 then E (csF A b (hel (Hs e)) (inA A b) (hsz (Hs e))).1 else (spF A b (hel (Hs e)) (hsz (Hs e)) 8).2) = (if z = 0 then (spF A b (hel (Hs e)) (hsz (Hs e)) (pgA A b)).1 else spX x6 (spF A b (hel (Hs e)) (hsz (Hs e)) (pgA A b))) := by
            intro x6 h6'
            rw [← spF_8 hw]
            unfold spX
            by_cases q : (spF A b (hel (Hs e)) (hsz (Hs e)) 8).1 = -4
            · rw [if_pos q, if_pos q]
              rcases spF_v (A := A) (b := b) (el := hel (Hs e)) (n := hsz (Hs e)) 8 with e9 | ⟨q', hq', e9⟩
              · have hz := spF_n (fun p hp => by have := hcs _ (clr_lt _ hS p hp); omega) 8 (by omega) e9
                have : inA A b = 0 := bits_eq hS (by decide) (fun q hq => by rw [hz q hq, Nat.zero_testBit])
                rw [h6' this]
              · rw [e9] at q; exact ((Em4 (by omega)).mp q).elim
            · rw [if_neg q, if_neg q]
          have fin : ∀ (x6 : Int32) (μs : SMem), ((inA A b = 0) → x6 = E (csF A b (hel (Hs e)) (inA A b) (hsz (Hs e))).1) → SB (fun c => c = 70) μa μs → (∀ j, j < 87 → gi μs 70 j = gi μa 70 j) → ∃ μb, rn (d + 12) 193 29 [some (Sum.inr (Sum.inl (69))), some (Sum.inl (E b)), some (Sum.inl (E e)), some (Sum.inl (z)), some (Sum.inl (0)), some (Sum.inl (-4)), some (Sum.inl (x6)), some (Sum.inl (0)), none] [] μs = some (Sum.inl (some (Sum.inl (if z = 0 then (spF A b (hel (Hs e)) (hsz (Hs e)) 8).1 else if (spF A b (hel (Hs e)) (hsz (Hs e)) 8).1 = -4 then E (csF A b (hel (Hs e)) (inA A b) (hsz (Hs e))).1 else (spF A b (hel (Hs e)) (hsz (Hs e)) 8).2))), μb) ∧ SB (fun c => c = 70) μa μb ∧ (∀ j, j < 87 → gi μb 70 j = gi μa 70 j) := by
            intro x6 μs h6' hs hj
            obtain ⟨μb, u8', o1, o2, o3⟩ := f193_lp (d := d + 6) (z := z) (x4 := 0) (x6 := x6) he hma hw hH hMa hk rfl h7 hb hok hqa h73 (pgA A b) 0 μs none (by omega) hs hj
            refine ⟨μb, ?_, o2, o3⟩
            refine Eq.trans (show _ = _ from o1) ?_
            rw [main x6 h6']
            by_cases z0 : z = 0
            · simp only [st193_64, st193_65, st193_66, st193_67, st193_68, st193_69, z0, aft_some, Option.toList_some, Option.toList_none, List.cons_append, List.nil_append, br0, br1, br2, br3, zr01, zr02, n10, n01, ne_eq, not_true_eq_false, not_false_eq_true, if_true, if_false, true_and, and_true, and_self]
            · simp only [st193_64, st193_65, st193_66, st193_67, st193_68, st193_69, z0, aft_some, Option.toList_some, Option.toList_none, List.cons_append, List.nil_append, br0, br1, br2, br3, zr01, zr02, n10, n01, ne_eq, not_true_eq_false, not_false_eq_true, if_true, if_false, true_and, and_true, and_self]
          refine ⟨if z = 0 then (spF A b (hel (Hs e)) (hsz (Hs e)) 8).1 else if (spF A b (hel (Hs e)) (hsz (Hs e)) 8).1 = -4 then E (csF A b (hel (Hs e)) (inA A b) (hsz (Hs e))).1 else (spF A b (hel (Hs e)) (hsz (Hs e)) 8).2, ?_⟩
          have cls : cl (d + 12) 89 [Sum.inr (Sum.inl (2)), Sum.inl (E b), Sum.inl (E e), Sum.inl (z)] μ = some (Sum.inl (some (Sum.inl (if z = 0 then (spF A b (hel (Hs e)) (hsz (Hs e)) 8).1 else if (spF A b (hel (Hs e)) (hsz (Hs e)) 8).1 = -4 then E (csF A b (hel (Hs e)) (inA A b) (hsz (Hs e))).1 else (spF A b (hel (Hs e)) (hsz (Hs e)) 8).2))), μ) := by
            show rn (d + 12) 89 0 [some (Sum.inr (Sum.inl (2))), some (Sum.inl (E b)), some (Sum.inl (E e)), some (Sum.inl (z)), none, none, none, none, none, none, none] [] μ = _
            simp only [st89_0, st89_1, st89_2, st89_3, st89_4, st89_5, st89_6, st89_7, st89_8, st89_9, st89_10, st89_11, st89_12, st89_13, st89_14, st89_15, st89_16, st89_17, st89_18, st89_19, st89_20, st89_21, st89_22, st89_23, st89_24, st89_25, st89_26, st89_27, st89_28, st89_29, st89_30, st89_31, st89_32, st89_33, hc.1, hc.2.1, ht.1.1, f67 hw ht, f113 hc, cx, cy, cz, cz0, E_n (show e < 1000 by omega), E_n (show b < 1000 by omega), b0, e0, f117 he hc hH hC hw ht, k, aft_some, Option.toList_some, Option.toList_none, List.cons_append, List.nil_append, br0, br1, br2, br3, zr01, zr02, n10, n01, ne_eq, not_true_eq_false, not_false_eq_true, if_true, if_false, true_and, and_true, and_self]
            refine Eq.trans (show _ = _ from a1) ?_
            by_cases z0 : z = 0
            · simp only [st89_63, st89_64, st89_65, st89_66, st89_67, st89_68, st89_69, st89_70, st89_71, st89_72, st89_73, st89_74, st89_75, st89_76, st89_77, st89_78, z0, aft_some, Option.toList_some, Option.toList_none, List.cons_append, List.nil_append, br0, br1, br2, br3, zr01, zr02, n10, n01, ne_eq, not_true_eq_false, not_false_eq_true, if_true, if_false, true_and, and_true, and_self]
            · by_cases q : (spF A b (hel (Hs e)) (hsz (Hs e)) 8).1 = -4
              · simp only [st89_63, st89_64, st89_65, st89_66, st89_67, st89_68, st89_69, st89_70, st89_71, st89_72, st89_73, st89_74, st89_75, st89_76, st89_77, st89_78, z0, q, hc.1, hbk.1.1, u2, e125, aft_some, Option.toList_some, Option.toList_none, List.cons_append, List.nil_append, br0, br1, br2, br3, zr01, zr02, n10, n01, ne_eq, not_true_eq_false, not_false_eq_true, if_true, if_false, true_and, and_true, and_self]
              · simp only [st89_63, st89_64, st89_65, st89_66, st89_67, st89_68, st89_69, st89_70, st89_71, st89_72, st89_73, st89_74, st89_75, st89_76, st89_77, st89_78, z0, q, aft_some, Option.toList_some, Option.toList_none, List.cons_append, List.nil_append, br0, br1, br2, br3, zr01, zr02, n10, n01, ne_eq, not_true_eq_false, not_false_eq_true, if_true, if_false, true_and, and_true, and_self]
          by_cases i0 : inA A b = 0
          · obtain ⟨μ1, c1, c2⟩ := f192 (d := d + 6) (S0 := inA A b) he hma hw hH hMa hk rfl h7 hb hok hqa rfl
            have hm1 := hma.sb c2
            obtain ⟨μ2, y1, y2, y3⟩ := f184 (d := d + 10) hm1
            obtain ⟨μb, o1, o2, o3⟩ := fin (E (csF A b (hel (Hs e)) (inA A b) (hsz (Hs e))).1) μ2 (fun _ => rfl) (c2.tr y2) (fun j hj => by rw [y3 j hj, c2.2.2.2.2.2.2 73 (by omega), h73 j hj])
            have hs : SB (fun c => c = 70 ∨ c = 73) μ μb := (b2.wk (fun c e => Or.inr e)).tr (o2.wk (fun c e => Or.inl e))
            have hBb := h.1.r70 hs (fun j hj => by rw [o3 j hj, b2.2.2.2.2.2.2 70 (by omega)])
            refine ⟨μb, cls, ?_, h.up (hs.wk (fun c e => by unfold Scr; omega)) (fun c h => h) (by rw [hs.2.2.2.2.2.2 69 (by omega)]) hBb, hs.2.2.2.2.1, hs.2.2.2.2.2.1⟩
            rw [i0] at g4
            show rn (d + 12) 193 0 [some (Sum.inr (Sum.inl (69))), some (Sum.inl (E b)), some (Sum.inl (E e)), some (Sum.inl (z)), none, none, none, none, none] [] μ = _
            simp only [st193_0, st193_1, st193_2, st193_3, st193_4, st193_5, st193_6, st193_7, st193_8, st193_9, st193_10, st193_11, st193_12, st193_13, st193_14, st193_15, st193_16, st193_17, st193_18, st193_19, st193_20, st193_21, st193_22, st193_23, st193_24, st193_25, st193_26, st193_27, st193_28, hm.1, f190 he hm hH hM hw hr.2.1 hr.1, cx, cz, k, b1, hma.1, f144 b4 hma, g4, show (E 0 = (0 : Int32)) = True from eq_true rfl, c1, hm1.1, y1, aft_some, Option.toList_some, Option.toList_none, List.cons_append, List.nil_append, br0, br1, br2, br3, zr01, zr02, n10, n01, ne_eq, not_true_eq_false, not_false_eq_true, if_true, if_false, true_and, and_true, and_self]
            exact o1
          · obtain ⟨μ2, y1, y2, y3⟩ := f184 (d := d + 10) hma
            obtain ⟨μb, o1, o2, o3⟩ := fin 0 μ2 (fun h => absurd h i0) y2 (fun j hj => by rw [y3 j hj, h73 j hj])
            have hs : SB (fun c => c = 70 ∨ c = 73) μ μb := (b2.wk (fun c e => Or.inr e)).tr (o2.wk (fun c e => Or.inl e))
            have hBb := h.1.r70 hs (fun j hj => by rw [o3 j hj, b2.2.2.2.2.2.2 70 (by omega)])
            refine ⟨μb, cls, ?_, h.up (hs.wk (fun c e => by unfold Scr; omega)) (fun c h => h) (by rw [hs.2.2.2.2.2.2 69 (by omega)]) hBb, hs.2.2.2.2.1, hs.2.2.2.2.2.1⟩
            show rn (d + 12) 193 0 [some (Sum.inr (Sum.inl (69))), some (Sum.inl (E b)), some (Sum.inl (E e)), some (Sum.inl (z)), none, none, none, none, none] [] μ = _
            simp only [st193_0, st193_1, st193_2, st193_3, st193_4, st193_5, st193_6, st193_7, st193_8, st193_9, st193_10, st193_11, st193_12, st193_13, st193_14, st193_15, st193_16, st193_17, st193_18, st193_19, st193_20, st193_21, st193_22, st193_23, st193_24, st193_25, st193_26, st193_27, st193_28, hm.1, f190 he hm hH hM hw hr.2.1 hr.1, cx, cz, k, b1, hma.1, f144 b4 hma, g4, E_z (show inA A b < 1000 by omega), i0, y1, aft_some, Option.toList_some, Option.toList_none, List.cons_append, List.nil_append, br0, br1, br2, br3, zr01, zr02, n10, n01, ne_eq, not_true_eq_false, not_false_eq_true, if_true, if_false, true_and, and_true, and_self]
            exact o1
        · refine ⟨rfRs A (Hs e), μ, ?_, ?_, h, rfl, rfl⟩
          · show rn (d + 12) 89 0 [some (Sum.inr (Sum.inl (2))), some (Sum.inl (E b)), some (Sum.inl (E e)), some (Sum.inl (z)), none, none, none, none, none, none, none] [] μ = _
            simp only [st89_0, st89_1, st89_2, st89_3, st89_4, st89_5, st89_6, st89_7, st89_8, st89_9, st89_10, st89_11, st89_12, st89_13, st89_14, st89_15, st89_16, st89_17, st89_18, st89_19, st89_20, st89_21, st89_22, st89_23, st89_24, st89_25, st89_26, st89_27, st89_28, st89_29, st89_30, st89_31, st89_32, st89_33, hc.1, hc.2.1, ht.1.1, f67 hw ht, f113 hc, cx, cy, cz, cz0, E_n (show e < 1000 by omega), E_n (show b < 1000 by omega), b0, e0, f117 he hc hH hC hw ht, k, aft_some, Option.toList_some, Option.toList_none, List.cons_append, List.nil_append, br0, br1, br2, br3, zr01, zr02, n10, n01, ne_eq, not_true_eq_false, not_false_eq_true, if_true, if_false, true_and, and_true, and_self]
          · show rn (d + 12) 193 0 [some (Sum.inr (Sum.inl (69))), some (Sum.inl (E b)), some (Sum.inl (E e)), some (Sum.inl (z)), none, none, none, none, none] [] μ = _
            simp only [st193_0, st193_1, st193_2, st193_3, st193_4, st193_5, st193_6, st193_7, st193_8, st193_9, st193_10, st193_11, st193_12, st193_13, st193_14, st193_15, st193_16, st193_17, st193_18, st193_19, st193_20, st193_21, st193_22, st193_23, st193_24, st193_25, st193_26, st193_27, st193_28, hm.1, f190 he hm hH hM hw hr.2.1 hr.1, cx, cz, k, aft_some, Option.toList_some, Option.toList_none, List.cons_append, List.nil_append, br0, br1, br2, br3, zr01, zr02, n10, n01, ne_eq, not_true_eq_false, not_false_eq_true, if_true, if_false, true_and, and_true, and_self]
      · refine ⟨-1, μ, ?_, ?_, h, rfl, rfl⟩
        · show rn (d + 12) 89 0 [some (Sum.inr (Sum.inl (2))), some (Sum.inl (E b)), some (Sum.inl (E e)), some (Sum.inl (z)), none, none, none, none, none, none, none] [] μ = _
          by_cases z0 : z < 0
          · simp only [st89_0, st89_1, st89_2, st89_3, st89_4, st89_5, st89_6, st89_7, st89_8, st89_9, st89_10, st89_11, st89_12, st89_13, st89_14, st89_15, st89_16, st89_17, st89_18, st89_19, st89_20, st89_21, st89_22, st89_23, st89_24, st89_25, st89_26, st89_27, st89_28, st89_29, st89_30, st89_31, st89_32, st89_33, hc.1, hc.2.1, ht.1.1, f67 hw ht, f113 hc, cx, cy, z0, E_n (show e < 1000 by omega), E_n (show b < 1000 by omega), b0, e0, aft_some, Option.toList_some, Option.toList_none, List.cons_append, List.nil_append, br0, br1, br2, br3, zr01, zr02, n10, n01, ne_eq, not_true_eq_false, not_false_eq_true, if_true, if_false, true_and, and_true, and_self]
          · have z1 : ¬ z ≤ 1 := fun e => cz ⟨Int32.not_lt.mp z0, e⟩
            simp only [st89_0, st89_1, st89_2, st89_3, st89_4, st89_5, st89_6, st89_7, st89_8, st89_9, st89_10, st89_11, st89_12, st89_13, st89_14, st89_15, st89_16, st89_17, st89_18, st89_19, st89_20, st89_21, st89_22, st89_23, st89_24, st89_25, st89_26, st89_27, st89_28, st89_29, st89_30, st89_31, st89_32, st89_33, hc.1, hc.2.1, ht.1.1, f67 hw ht, f113 hc, cx, cy, z0, z1, E_n (show e < 1000 by omega), E_n (show b < 1000 by omega), b0, e0, aft_some, Option.toList_some, Option.toList_none, List.cons_append, List.nil_append, br0, br1, br2, br3, zr01, zr02, n10, n01, ne_eq, not_true_eq_false, not_false_eq_true, if_true, if_false, true_and, and_true, and_self]
        · show rn (d + 12) 193 0 [some (Sum.inr (Sum.inl (69))), some (Sum.inl (E b)), some (Sum.inl (E e)), some (Sum.inl (z)), none, none, none, none, none] [] μ = _
          simp only [st193_0, st193_1, st193_2, st193_3, st193_4, st193_5, st193_6, st193_7, st193_8, st193_9, st193_10, st193_11, st193_12, st193_13, st193_14, st193_15, st193_16, st193_17, st193_18, st193_19, st193_20, st193_21, st193_22, st193_23, st193_24, st193_25, st193_26, st193_27, st193_28, hm.1, f190 he hm hH hM hw hr.2.1 hr.1, cz, and_false, n1, aft_some, Option.toList_some, Option.toList_none, List.cons_append, List.nil_append, br0, br1, br2, br3, zr01, zr02, n10, n01, ne_eq, not_true_eq_false, not_false_eq_true, if_true, if_false, true_and, and_true, and_self]
    · refine ⟨-1, μ, ?_, ?_, h, rfl, rfl⟩
      · show rn (d + 12) 89 0 [some (Sum.inr (Sum.inl (2))), some (Sum.inl (x)), some (Sum.inl (E e)), some (Sum.inl (z)), none, none, none, none, none, none, none] [] μ = _
        simp only [st89_0, st89_1, st89_2, st89_3, st89_4, st89_5, st89_6, st89_7, st89_8, st89_9, st89_10, st89_11, st89_12, st89_13, st89_14, st89_15, st89_16, st89_17, st89_18, st89_19, st89_20, st89_21, st89_22, st89_23, st89_24, st89_25, st89_26, st89_27, st89_28, st89_29, st89_30, st89_31, st89_32, st89_33, hc.1, hc.2.1, ht.1.1, f67 hw ht, f113 hc, cx, cy, aft_some, Option.toList_some, Option.toList_none, List.cons_append, List.nil_append, br0, br1, br2, br3, zr01, zr02, n10, n01, ne_eq, not_true_eq_false, not_false_eq_true, if_true, if_false, true_and, and_true, and_self]
      · show rn (d + 12) 193 0 [some (Sum.inr (Sum.inl (69))), some (Sum.inl (x)), some (Sum.inl (E e)), some (Sum.inl (z)), none, none, none, none, none] [] μ = _
        simp only [st193_0, st193_1, st193_2, st193_3, st193_4, st193_5, st193_6, st193_7, st193_8, st193_9, st193_10, st193_11, st193_12, st193_13, st193_14, st193_15, st193_16, st193_17, st193_18, st193_19, st193_20, st193_21, st193_22, st193_23, st193_24, st193_25, st193_26, st193_27, st193_28, hm.1, f190 he hm hH hM hw hr.2.1 hr.1, cx, false_and, n1, aft_some, Option.toList_some, Option.toList_none, List.cons_append, List.nil_append, br0, br1, br2, br3, zr01, zr02, n10, n01, ne_eq, not_true_eq_false, not_false_eq_true, if_true, if_false, true_and, and_true, and_self]
  · refine ⟨-1, μ, ?_, ?_, h, rfl, rfl⟩
    · show rn (d + 12) 89 0 [some (Sum.inr (Sum.inl (2))), some (Sum.inl (x)), some (Sum.inl (y)), some (Sum.inl (z)), none, none, none, none, none, none, none] [] μ = _
      by_cases cx : 0 ≤ x ∧ x < E (bcA A)
      · have b0 : (3 + 3 + 3 * x.toNatClampNeg = 0) = False := eq_false (by omega)
        simp only [st89_0, st89_1, st89_2, st89_3, st89_4, st89_5, st89_6, st89_7, st89_8, st89_9, st89_10, st89_11, st89_12, st89_13, st89_14, st89_15, st89_16, st89_17, st89_18, st89_19, st89_20, st89_21, st89_22, st89_23, st89_24, st89_25, st89_26, st89_27, st89_28, st89_29, st89_30, st89_31, st89_32, st89_33, hc.1, hc.2.1, ht.1.1, f67 hw ht, f113 hc, cx, cy, b0, aft_some, Option.toList_some, Option.toList_none, List.cons_append, List.nil_append, br0, br1, br2, br3, zr01, zr02, n10, n01, ne_eq, not_true_eq_false, not_false_eq_true, if_true, if_false, true_and, and_true, and_self]
      · simp only [st89_0, st89_1, st89_2, st89_3, st89_4, st89_5, st89_6, st89_7, st89_8, st89_9, st89_10, st89_11, st89_12, st89_13, st89_14, st89_15, st89_16, st89_17, st89_18, st89_19, st89_20, st89_21, st89_22, st89_23, st89_24, st89_25, st89_26, st89_27, st89_28, st89_29, st89_30, st89_31, st89_32, st89_33, hc.1, hc.2.1, ht.1.1, f67 hw ht, f113 hc, cx, cy, aft_some, Option.toList_some, Option.toList_none, List.cons_append, List.nil_append, br0, br1, br2, br3, zr01, zr02, n10, n01, ne_eq, not_true_eq_false, not_false_eq_true, if_true, if_false, true_and, and_true, and_self]
    · show rn (d + 12) 193 0 [some (Sum.inr (Sum.inl (69))), some (Sum.inl (x)), some (Sum.inl (y)), some (Sum.inl (z)), none, none, none, none, none] [] μ = _
      simp only [st193_0, st193_1, st193_2, st193_3, st193_4, st193_5, st193_6, st193_7, st193_8, st193_9, st193_10, st193_11, st193_12, st193_13, st193_14, st193_15, st193_16, st193_17, st193_18, st193_19, st193_20, st193_21, st193_22, st193_23, st193_24, st193_25, st193_26, st193_27, st193_28, hm.1, f190n hm hw hr.1 cy, n1, aft_some, Option.toList_some, Option.toList_none, List.cons_append, List.nil_append, br0, br1, br2, br3, zr01, zr02, n10, n01, ne_eq, not_true_eq_false, not_false_eq_true, if_true, if_false, true_and, and_true, and_self]
