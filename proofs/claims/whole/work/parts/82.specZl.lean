/-! SPECS ZL: most, the call -/
theorem Both.rs {P : Nat → Prop} {A : AT} {μ μ' : SMem} (h : Both μ A) (hs : SB P μ μ') (hP : ∀ c, P c → Scr c ∧ 17 < c) (e : ∀ j, j < 87 → gi μ' 70 j = gi μ 70 j) : Both μ' A := by
  have h0 := h
  obtain ⟨hm, hc, hw, ht, hr⟩ := h
  exact ⟨hm.sb hs, hc.sb hs, hw, ht.sb hs (fun c e => ⟨by have := (hP c e).2; omega, scr_tag h0 (hP c e).1⟩), hr.ext hw e⟩
theorem stp_ge {A : AT} {b : Nat} {el : Nat → Int32} {n : Nat} : ∀ (L : List (List Nat)) (s : Int32 × Nat), (0 : Int32) ≤ s.1 → (0 : Int32) ≤ (L.foldl (stp A b el n) s).1 := by
  intro L
  induction L with
  | nil => intro s h; exact h
  | cons l L ih =>
    intro s h
    rw [List.foldl_cons]
    refine ih _ ?_
    unfold stp
    split
    · rename_i c; exact Int32.le_of_lt (Int32.lt_of_le_of_lt h c)
    · exact h
theorem bst_ge {A : AT} {b n : Nat} {el : Nat → Int32} (hw : WF A) (hb : b < bcA A) (hn : n < 7) (hok : ∀ i, i < n → ∃ r, r < rcA A ∧ el i = E r) : (0 : Int32) ≤ (bst A b el n).1 := by
  have h1 := chk_ok n hn
  unfold bst
  cases hL : dfsL n n [] 0 with
  | nil => rw [hL] at h1; exact absurd (show false = true from h1.1) (by decide)
  | cons l rest =>
    rw [hL] at h1
    rw [List.foldl_cons]
    have ho := chk_lt h1.1
    have hp := (prF_lt (A := A) (b := b) (el := el) (o := oL l) hw hb n (fun j hj => hok _ (ho j hj))).2
    have e0 : (0 : Int32) ≤ E (prF A b el (oL l) n).1 := E_nonneg (by omega)
    refine stp_ge rest _ ?_
    unfold stp
    rw [if_pos (Int32.lt_of_lt_of_le (by decide : (-1 : Int32) < 0) e0)]
    exact e0
theorem g88 {d : Nat} {x y z : Int32} {A Ai : AT} {im : Nat} {Hs : Nat → HT} {μ : SMem} (h : INVw μ A Ai im Hs) : ∃ v μ1 μ2, cl (d + 12) 88 [Sum.inr (Sum.inl (2)), Sum.inl (x), Sum.inl (y), Sum.inl (z)] μ = some (Sum.inl (some (Sum.inl (v))), μ1) ∧ cl (d + 12) 191 [Sum.inr (Sum.inl (69)), Sum.inl (x), Sum.inl (y), Sum.inl (z)] μ1 = some (Sum.inl (some (Sum.inl (v))), μ2) ∧ INVw μ2 A Ai im Hs ∧ sz μ2 = sz μ ∧ sl μ2 = sl μ ∧ K1 μ μ1 := by
  have hB := h.1
  obtain ⟨hm, hc, hw, ht, hr⟩ := hB
  have hq := hr.mq hw
  have n1 : ((-1 : Int32) = 0) = False := eq_false (by decide)
  by_cases cy : 0 ≤ y ∧ y < 8
  · obtain ⟨e, he, rfl⟩ := E_of (n := 8) cy.1 cy.2 (by decide)
    obtain ⟨hH, hC, hM⟩ := h.2.2.2.1 e he
    have e0 : (53 + 2 * e = 0) = False := eq_false (by omega)
    by_cases cx : 0 ≤ x ∧ x < E (bcA A)
    · obtain ⟨b, hb, rfl⟩ := E_of cx.1 cx.2 (by have := hw.1; omega)
      have b4 : b < 4 := by have := hw.1; omega
      have b0 : (3 + 3 + 3 * b = 0) = False := eq_false (by omega)
      by_cases cz : 0 ≤ z ∧ z ≤ 1
      · have cz0 : ¬ z < 0 := Int32.not_lt.mpr cz.1
        by_cases k : rfRs A (Hs e) = 0
        · obtain ⟨hk, h6, hok'⟩ := rfRs_0 k
          have hok := ok_rs hw hok'
          obtain ⟨μ1, a1, a2⟩ := f127 (d := d + 5) (z := z) he h.1 hH hC hk rfl (show hsz (Hs e) < 7 by omega) hb hok
          have hB1 := h.1.tw a2 (fun c e => by omega)
          have hM1 := hM.sb a2 (fun c e => by omega)
          have hq1 := hB1.2.2.2.2.mq hw
          have s1 : SB (fun c => c = 69) μ1 (seti μ1 69 17 (-1)) := SB.se rfl
          have hms := hB1.1.sb s1
          have hT : TQ (seti μ1 69 17 (-1)) (seti μ1 69 17 (-1)) (oL []) ([] : List Nat).length (-1, 0) := ⟨SB.rf, fun _ _ => rfl, fun _ _ _ => rfl, fun j hj => absurd hj (Nat.not_lt_zero j), by rw [gi_seti, if_pos ⟨rfl, rfl⟩], Or.inl rfl⟩
          obtain ⟨μ2, b1, b2, b3, b4', b5, b6, b7⟩ := f189 he hms hw hH (hM1.sb s1 (fun c e => by omega)) hk rfl (show hsz (Hs e) < 7 by omega) hb hok (hq1.same hw (fun j _ => by rw [s1.2.2.2.2.2.2 70 (by omega)])) (hsz (Hs e)) (d + 6 - hsz (Hs e)) 0 [] (seti μ1 69 17 (-1)) (-1, 0) (by simp) (by decide) (fun j hj => absurd hj (Nat.not_lt_zero j)) hT
          have hbg := bst_ge (el := hel (Hs e)) hw hb (show hsz (Hs e) < 7 by omega) hok
          unfold bst at hbg
          have g18 : gi μ2 69 18 = E (bst A b (hel (Hs e)) (hsz (Hs e))).2 := by
            rcases b7 with q | q
            · rw [q] at hbg; exact absurd hbg (by decide)
            · exact q
          have g17 : gi μ2 69 17 = (bst A b (hel (Hs e)) (hsz (Hs e))).1 := b6
          rw [show d + 6 - hsz (Hs e) + 5 + hsz (Hs e) = d + 11 by omega] at b1
          have hsb : SB (fun c => c = 69 ∨ c = 70 ∨ c = 73 ∨ c = 81) μ1 μ2 := (s1.wk (fun c e => Or.inl e)).tr b2
          have hB2 := hB1.rs hsb (fun c e => by unfold Scr; omega) (fun j hj => by rw [b3 j hj, s1.2.2.2.2.2.2 70 (by omega)])
          refine ⟨if z = 0 then (bst A b (hel (Hs e)) (hsz (Hs e))).1 else E (bst A b (hel (Hs e)) (hsz (Hs e))).2, μ1, μ2, ?_, ?_, h.up ((a2.wk (fun c e => by unfold Scr; omega)).tr (hsb.wk (fun c e => by unfold Scr; omega))) (fun c h => h) ?_ hB2, by rw [hsb.2.2.2.2.1, a2.2.2.2.2.1], by rw [hsb.2.2.2.2.2.1, a2.2.2.2.2.2.1], K1.sb a2 (by omega)⟩
          · show rn (d + 12) 88 0 [some (Sum.inr (Sum.inl (2))), some (Sum.inl (E b)), some (Sum.inl (E e)), some (Sum.inl (z)), none, none, none] [] μ = _
            simp only [st88_0, st88_1, st88_2, st88_3, st88_4, st88_5, st88_6, st88_7, st88_8, st88_9, st88_10, st88_11, st88_12, st88_13, st88_14, st88_15, st88_16, st88_17, st88_18, st88_19, st88_20, st88_21, st88_22, st88_23, st88_24, st88_25, st88_26, st88_27, st88_28, st88_29, st88_30, st88_31, st88_32, st88_33, hc.1, hc.2.1, ht.1.1, f67 hw ht, f113 hc, cx, cy, cz, cz0, E_n (show e < 1000 by omega), E_n (show b < 1000 by omega), b0, e0, f117 he hc hH hC hw ht, k, a1, aft_some, Option.toList_some, Option.toList_none, List.cons_append, List.nil_append, br0, br1, br2, br3, zr01, zr02, n10, n01, ne_eq, not_true_eq_false, not_false_eq_true, if_true, if_false, true_and, and_true, and_self]
          · show rn (d + 12) 191 0 [some (Sum.inr (Sum.inl (69))), some (Sum.inl (E b)), some (Sum.inl (E e)), some (Sum.inl (z)), none] [] μ1 = _
            have b1' : cl (d + 11) 189 [Sum.inr (Sum.inl (69)), Sum.inl (E b), Sum.inl (E e), Sum.inl (0), Sum.inl (0)] (seti μ1 69 17 (-1)) = some (Sum.inl none, μ2) := b1
            by_cases z0 : z = 0
            · simp only [st191_0, st191_1, st191_2, st191_3, st191_4, st191_5, st191_6, st191_7, st191_8, st191_9, st191_10, st191_11, st191_12, st191_13, st191_14, st191_15, st191_16, st191_17, st191_18, st191_19, st191_20, st191_21, st191_22, st191_23, st191_24, st191_25, st191_26, hB1.1.1, f190 he hB1.1 hH hM1 hw hB1.2.2.2.2.2.1 hB1.2.2.2.2.1, cx, z0, z00, z01, k, tg_seti, b1', hB2.1.1, g17, aft_some, Option.toList_some, Option.toList_none, List.cons_append, List.nil_append, br0, br1, br2, br3, zr01, zr02, n10, n01, ne_eq, not_true_eq_false, not_false_eq_true, if_true, if_false, true_and, and_true, and_self]
            · simp only [st191_0, st191_1, st191_2, st191_3, st191_4, st191_5, st191_6, st191_7, st191_8, st191_9, st191_10, st191_11, st191_12, st191_13, st191_14, st191_15, st191_16, st191_17, st191_18, st191_19, st191_20, st191_21, st191_22, st191_23, st191_24, st191_25, st191_26, hB1.1.1, f190 he hB1.1 hH hM1 hw hB1.2.2.2.2.2.1 hB1.2.2.2.2.1, cx, cz, z0, k, tg_seti, b1', hB2.1.1, g18, aft_some, Option.toList_some, Option.toList_none, List.cons_append, List.nil_append, br0, br1, br2, br3, zr01, zr02, n10, n01, ne_eq, not_true_eq_false, not_false_eq_true, if_true, if_false, true_and, and_true, and_self]
          · rw [b4' 10 (by decide) (by decide), gi_seti, if_neg (by decide), a2.2.2.2.2.2.2 69 (by omega)]
        · refine ⟨rfRs A (Hs e), μ, μ, ?_, ?_, h, rfl, rfl, K1.rf⟩
          · show rn (d + 12) 88 0 [some (Sum.inr (Sum.inl (2))), some (Sum.inl (E b)), some (Sum.inl (E e)), some (Sum.inl (z)), none, none, none] [] μ = _
            simp only [st88_0, st88_1, st88_2, st88_3, st88_4, st88_5, st88_6, st88_7, st88_8, st88_9, st88_10, st88_11, st88_12, st88_13, st88_14, st88_15, st88_16, st88_17, st88_18, st88_19, st88_20, st88_21, st88_22, st88_23, st88_24, st88_25, st88_26, st88_27, st88_28, st88_29, st88_30, st88_31, st88_32, st88_33, hc.1, hc.2.1, ht.1.1, f67 hw ht, f113 hc, cx, cy, cz, cz0, E_n (show e < 1000 by omega), E_n (show b < 1000 by omega), b0, e0, f117 he hc hH hC hw ht, k, aft_some, Option.toList_some, Option.toList_none, List.cons_append, List.nil_append, br0, br1, br2, br3, zr01, zr02, n10, n01, ne_eq, not_true_eq_false, not_false_eq_true, if_true, if_false, true_and, and_true, and_self]
          · show rn (d + 12) 191 0 [some (Sum.inr (Sum.inl (69))), some (Sum.inl (E b)), some (Sum.inl (E e)), some (Sum.inl (z)), none] [] μ = _
            simp only [st191_0, st191_1, st191_2, st191_3, st191_4, st191_5, st191_6, st191_7, st191_8, st191_9, st191_10, st191_11, st191_12, st191_13, st191_14, st191_15, st191_16, st191_17, st191_18, st191_19, st191_20, st191_21, st191_22, st191_23, st191_24, st191_25, st191_26, hm.1, f190 he hm hH hM hw hr.2.1 hr.1, cx, cz, k, aft_some, Option.toList_some, Option.toList_none, List.cons_append, List.nil_append, br0, br1, br2, br3, zr01, zr02, n10, n01, ne_eq, not_true_eq_false, not_false_eq_true, if_true, if_false, true_and, and_true, and_self]
      · refine ⟨-1, μ, μ, ?_, ?_, h, rfl, rfl, K1.rf⟩
        · show rn (d + 12) 88 0 [some (Sum.inr (Sum.inl (2))), some (Sum.inl (E b)), some (Sum.inl (E e)), some (Sum.inl (z)), none, none, none] [] μ = _
          by_cases z0 : z < 0
          · simp only [st88_0, st88_1, st88_2, st88_3, st88_4, st88_5, st88_6, st88_7, st88_8, st88_9, st88_10, st88_11, st88_12, st88_13, st88_14, st88_15, st88_16, st88_17, st88_18, st88_19, st88_20, st88_21, st88_22, st88_23, st88_24, st88_25, st88_26, st88_27, st88_28, st88_29, st88_30, st88_31, st88_32, st88_33, hc.1, hc.2.1, ht.1.1, f67 hw ht, f113 hc, cx, cy, z0, E_n (show e < 1000 by omega), E_n (show b < 1000 by omega), b0, e0, aft_some, Option.toList_some, Option.toList_none, List.cons_append, List.nil_append, br0, br1, br2, br3, zr01, zr02, n10, n01, ne_eq, not_true_eq_false, not_false_eq_true, if_true, if_false, true_and, and_true, and_self]
          · have z1 : ¬ z ≤ 1 := fun e => cz ⟨Int32.not_lt.mp z0, e⟩
            simp only [st88_0, st88_1, st88_2, st88_3, st88_4, st88_5, st88_6, st88_7, st88_8, st88_9, st88_10, st88_11, st88_12, st88_13, st88_14, st88_15, st88_16, st88_17, st88_18, st88_19, st88_20, st88_21, st88_22, st88_23, st88_24, st88_25, st88_26, st88_27, st88_28, st88_29, st88_30, st88_31, st88_32, st88_33, hc.1, hc.2.1, ht.1.1, f67 hw ht, f113 hc, cx, cy, z0, z1, E_n (show e < 1000 by omega), E_n (show b < 1000 by omega), b0, e0, aft_some, Option.toList_some, Option.toList_none, List.cons_append, List.nil_append, br0, br1, br2, br3, zr01, zr02, n10, n01, ne_eq, not_true_eq_false, not_false_eq_true, if_true, if_false, true_and, and_true, and_self]
        · show rn (d + 12) 191 0 [some (Sum.inr (Sum.inl (69))), some (Sum.inl (E b)), some (Sum.inl (E e)), some (Sum.inl (z)), none] [] μ = _
          simp only [st191_0, st191_1, st191_2, st191_3, st191_4, st191_5, st191_6, st191_7, st191_8, st191_9, st191_10, st191_11, st191_12, st191_13, st191_14, st191_15, st191_16, st191_17, st191_18, st191_19, st191_20, st191_21, st191_22, st191_23, st191_24, st191_25, st191_26, hm.1, f190 he hm hH hM hw hr.2.1 hr.1, cz, and_false, n1, aft_some, Option.toList_some, Option.toList_none, List.cons_append, List.nil_append, br0, br1, br2, br3, zr01, zr02, n10, n01, ne_eq, not_true_eq_false, not_false_eq_true, if_true, if_false, true_and, and_true, and_self]
    · refine ⟨-1, μ, μ, ?_, ?_, h, rfl, rfl, K1.rf⟩
      · show rn (d + 12) 88 0 [some (Sum.inr (Sum.inl (2))), some (Sum.inl (x)), some (Sum.inl (E e)), some (Sum.inl (z)), none, none, none] [] μ = _
        simp only [st88_0, st88_1, st88_2, st88_3, st88_4, st88_5, st88_6, st88_7, st88_8, st88_9, st88_10, st88_11, st88_12, st88_13, st88_14, st88_15, st88_16, st88_17, st88_18, st88_19, st88_20, st88_21, st88_22, st88_23, st88_24, st88_25, st88_26, st88_27, st88_28, st88_29, st88_30, st88_31, st88_32, st88_33, hc.1, hc.2.1, ht.1.1, f67 hw ht, f113 hc, cx, cy, aft_some, Option.toList_some, Option.toList_none, List.cons_append, List.nil_append, br0, br1, br2, br3, zr01, zr02, n10, n01, ne_eq, not_true_eq_false, not_false_eq_true, if_true, if_false, true_and, and_true, and_self]
      · show rn (d + 12) 191 0 [some (Sum.inr (Sum.inl (69))), some (Sum.inl (x)), some (Sum.inl (E e)), some (Sum.inl (z)), none] [] μ = _
        simp only [st191_0, st191_1, st191_2, st191_3, st191_4, st191_5, st191_6, st191_7, st191_8, st191_9, st191_10, st191_11, st191_12, st191_13, st191_14, st191_15, st191_16, st191_17, st191_18, st191_19, st191_20, st191_21, st191_22, st191_23, st191_24, st191_25, st191_26, hm.1, f190 he hm hH hM hw hr.2.1 hr.1, cx, false_and, n1, aft_some, Option.toList_some, Option.toList_none, List.cons_append, List.nil_append, br0, br1, br2, br3, zr01, zr02, n10, n01, ne_eq, not_true_eq_false, not_false_eq_true, if_true, if_false, true_and, and_true, and_self]
  · refine ⟨-1, μ, μ, ?_, ?_, h, rfl, rfl, K1.rf⟩
    · show rn (d + 12) 88 0 [some (Sum.inr (Sum.inl (2))), some (Sum.inl (x)), some (Sum.inl (y)), some (Sum.inl (z)), none, none, none] [] μ = _
      by_cases cx : 0 ≤ x ∧ x < E (bcA A)
      · have b0 : (3 + 3 + 3 * x.toNatClampNeg = 0) = False := eq_false (by omega)
        simp only [st88_0, st88_1, st88_2, st88_3, st88_4, st88_5, st88_6, st88_7, st88_8, st88_9, st88_10, st88_11, st88_12, st88_13, st88_14, st88_15, st88_16, st88_17, st88_18, st88_19, st88_20, st88_21, st88_22, st88_23, st88_24, st88_25, st88_26, st88_27, st88_28, st88_29, st88_30, st88_31, st88_32, st88_33, hc.1, hc.2.1, ht.1.1, f67 hw ht, f113 hc, cx, cy, b0, aft_some, Option.toList_some, Option.toList_none, List.cons_append, List.nil_append, br0, br1, br2, br3, zr01, zr02, n10, n01, ne_eq, not_true_eq_false, not_false_eq_true, if_true, if_false, true_and, and_true, and_self]
      · simp only [st88_0, st88_1, st88_2, st88_3, st88_4, st88_5, st88_6, st88_7, st88_8, st88_9, st88_10, st88_11, st88_12, st88_13, st88_14, st88_15, st88_16, st88_17, st88_18, st88_19, st88_20, st88_21, st88_22, st88_23, st88_24, st88_25, st88_26, st88_27, st88_28, st88_29, st88_30, st88_31, st88_32, st88_33, hc.1, hc.2.1, ht.1.1, f67 hw ht, f113 hc, cx, cy, aft_some, Option.toList_some, Option.toList_none, List.cons_append, List.nil_append, br0, br1, br2, br3, zr01, zr02, n10, n01, ne_eq, not_true_eq_false, not_false_eq_true, if_true, if_false, true_and, and_true, and_self]
    · show rn (d + 12) 191 0 [some (Sum.inr (Sum.inl (69))), some (Sum.inl (x)), some (Sum.inl (y)), some (Sum.inl (z)), none] [] μ = _
      simp only [st191_0, st191_1, st191_2, st191_3, st191_4, st191_5, st191_6, st191_7, st191_8, st191_9, st191_10, st191_11, st191_12, st191_13, st191_14, st191_15, st191_16, st191_17, st191_18, st191_19, st191_20, st191_21, st191_22, st191_23, st191_24, st191_25, st191_26, hm.1, f190n hm hw hr.1 cy, n1, aft_some, Option.toList_some, Option.toList_none, List.cons_append, List.nil_append, br0, br1, br2, br3, zr01, zr02, n10, n01, ne_eq, not_true_eq_false, not_false_eq_true, if_true, if_false, true_and, and_true, and_self]
