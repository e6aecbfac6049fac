/-! SPECS ZA: judge, the call -/
theorem wt_cases {A : AT} {el : Nat → Int32} {S : Nat → Nat} {q : Nat} : wt A el S q = -4 ∨ ∃ p, p < q + 3 ∧ wt A el S q = E p := by
  unfold wt
  split
  · split
    · split
      · exact Or.inl rfl
      · exact Or.inr ⟨q + 2, by omega, rfl⟩
    · exact Or.inr ⟨q + 1, by omega, rfl⟩
  · exact Or.inr ⟨q, by omega, rfl⟩
theorem f210_lp {d e : Nat} {A : AT} {H : HT} {x2 : Int32} {μ0 : SMem} (he : e < 8) (hm : MA μ0) (hw : WF A) (hH : HWF H) (hC : ShM μ0 e H) (hk : hkt H = 2) : ∀ m q (μ : SMem) (S : Nat → Nat), hsz H < q + 3 * m → q ≤ hsz H → q % 3 = 0 → SB (fun c => c = 70) μ0 μ → MQr (gi μ 70) A S → ∃ μ' v x, rn (d + 6) 210 15 [some (Sum.inr (Sum.inl (69))), some (Sum.inl (E e)), some (Sum.inl (x2)), some (Sum.inl (-4)), some (Sum.inl (E q))] [] μ = rn (d + 6) 210 32 [some (Sum.inr (Sum.inl (69))), some (Sum.inl (E e)), some (Sum.inl (x2)), some (Sum.inl (v)), some (Sum.inl (x))] [] μ' ∧ SB (fun c => c = 70) μ0 μ' ∧ (if 0 ≤ v ∨ hsz H % 3 = 0 then v else x) = jdg A (hel H) (hsz H) m q S := by
  have hn := hH.2.2.1
  have p2 : ∀ q, E q + 2 = E (q + 2) := fun q => E_add q 2
  have p3 : ∀ q, E q + 3 = E (q + 3) := fun q => E_add q 3
  have nm : ¬ (0 : Int32) ≤ -4 := by decide
  intro m
  induction m with
  | zero => intro q μ S hi hq9; omega
  | succ m ih =>
    intro q μ S hi hq9 hq3 hs hM
    have hm1 := hm.sb hs
    have hm0 := hm1
    have hC1 := hC.sb hs (fun c e9 => by omega)
    obtain ⟨m1, m2, m3, m4, m5, m6, m7, m8, m9, m10, m11, m12, m13, m14, ⟨t0, t1, t2, t3, t4, t5, t6, t7, t8, t9, t10, t11, t12⟩, l0, l1, l2, l3, l4, l5, l6, l7, l8, l9, l10, l11, l12⟩ := hm1
    rw [jdg_s m q S]
    by_cases c1 : hsz H ≤ q + 2
    · refine ⟨μ, -4, E q, ?_, hs, ?_⟩
      · rw [st210_15]
        simp only [st210_16, st210_17, st210_18, st210_19, st210_20, st210_21, st210_22, st210_23, st210_24, st210_25, st210_26, st210_27, st210_28, st210_29, st210_30, st210_31, m1, m8, t6, l6, E_ge0 (show e < 1000 by omega), E_n (show e < 1000 by omega), he, and_self, (hC1.2.1 hk).2, p2, E_leE (show hsz H < 2147483648 by omega) (show q + 2 < 2147483648 by omega), c1, if_true]
      · by_cases z : hsz H % 3 = 0
        · rw [if_pos (Or.inr z), if_pos (by omega)]
        · rw [if_neg (fun e => e.elim nm z), if_neg (by omega), if_pos (by omega)]
    · rw [if_neg (by omega), if_neg (by omega)]
      obtain ⟨μ1, z1, z2, z3⟩ := f209 (d := d) he (show q + 2 < 100 by omega) hm0 hw hM hC1.2.2.2
      by_cases k : wt A (hel H) S q = -4
      · rw [if_pos k]
        obtain ⟨μ', v, x, y1, y2, y3⟩ := ih (q + 3) μ1 _ (by omega) (by omega) (by omega) (hs.tr z2) (z3 k)
        refine ⟨μ', v, x, ?_, y2, y3⟩
        rw [k] at z1
        rw [st210_15]
        simp only [st210_16, st210_17, st210_18, st210_19, st210_20, st210_21, st210_22, st210_23, st210_24, st210_25, st210_26, st210_27, st210_28, st210_29, st210_30, st210_31, m1, m8, t6, l6, E_ge0 (show e < 1000 by omega), E_n (show e < 1000 by omega), he, (hC1.2.1 hk).2, p2, p3, E_leE (show hsz H < 2147483648 by omega) (show q + 2 < 2147483648 by omega), c1, nm, z1, aft_some, Option.toList_some, Option.toList_none, List.cons_append, List.nil_append, br0, br1, br2, br3, zr01, zr02, n10, n01, ne_eq, not_true_eq_false, not_false_eq_true, if_true, if_false, true_and, and_true, and_self]
        exact y1
      · rw [if_neg k]
        rcases wt_cases (A := A) (el := hel H) (S := S) (q := q) with w | ⟨p, hp, w⟩
        · exact absurd w k
        rw [w] at z1 ⊢
        have hm2 := hm.sb (hs.tr z2)
        have hC2 := hC.sb (hs.tr z2) (fun c e9 => by omega)
        refine ⟨μ1, E p, E (q + 3), ?_, hs.tr z2, if_pos (Or.inl (E_nonneg (by omega)))⟩
        rw [st210_15]
        simp only [st210_16, st210_17, st210_18, st210_19, st210_20, st210_21, st210_22, st210_23, st210_24, st210_25, st210_26, st210_27, st210_28, st210_29, st210_30, st210_31, m1, m8, t6, l6, E_ge0 (show e < 1000 by omega), E_n (show e < 1000 by omega), he, (hC1.2.1 hk).2, p2, p3, E_leE (show hsz H < 2147483648 by omega) (show q + 2 < 2147483648 by omega), c1, nm, z1, aft_some, Option.toList_some, Option.toList_none, List.cons_append, List.nil_append, br0, br1, br2, br3, zr01, zr02, n10, n01, ne_eq, not_true_eq_false, not_false_eq_true, if_true, if_false, true_and, and_true, and_self]
        obtain ⟨m1, m2, m3, m4, m5, m6, m7, m8, m9, m10, m11, m12, m13, m14, ⟨t0, t1, t2, t3, t4, t5, t6, t7, t8, t9, t10, t11, t12⟩, l0, l1, l2, l3, l4, l5, l6, l7, l8, l9, l10, l11, l12⟩ := hm2
        rw [st210_15]
        by_cases c2 : hsz H ≤ q + 3 + 2
        · simp only [st210_16, st210_17, st210_18, st210_19, st210_20, st210_21, st210_22, st210_23, st210_24, st210_25, st210_26, st210_27, st210_28, st210_29, st210_30, st210_31, m1, m8, t6, l6, E_ge0 (show e < 1000 by omega), E_n (show e < 1000 by omega), he, (hC2.2.1 hk).2, p2, p3, E_leE (show hsz H < 2147483648 by omega) (show q + 3 + 2 < 2147483648 by omega), c2, aft_some, Option.toList_some, Option.toList_none, List.cons_append, List.nil_append, br0, br1, br2, br3, zr01, zr02, n10, n01, ne_eq, not_true_eq_false, not_false_eq_true, if_true, if_false, true_and, and_true, and_self]
        · simp only [st210_16, st210_17, st210_18, st210_19, st210_20, st210_21, st210_22, st210_23, st210_24, st210_25, st210_26, st210_27, st210_28, st210_29, st210_30, st210_31, m1, m8, t6, l6, E_ge0 (show e < 1000 by omega), E_n (show e < 1000 by omega), he, (hC2.2.1 hk).2, p2, p3, E_leE (show hsz H < 2147483648 by omega) (show q + 3 + 2 < 2147483648 by omega), c2, E_ge0 (show p < 1000 by omega), aft_some, Option.toList_some, Option.toList_none, List.cons_append, List.nil_append, br0, br1, br2, br3, zr01, zr02, n10, n01, ne_eq, not_true_eq_false, not_false_eq_true, if_true, if_false, true_and, and_true, and_self]
theorem rfW_0 {H : HT} (h : rfW H = 0) : hkt H = 2 := by
  unfold rfW at h
  by_cases a : hkt H = 0
  · rw [if_pos a] at h; exact absurd h (by decide)
  · rw [if_neg a] at h
    by_cases b : hkt H = 2
    · exact b
    · rw [if_neg b] at h; exact absurd h (by decide)
theorem E_rem3 : ∀ n, n < 101 → g_irem (E n) 3 = E (n % 3) := by decide +kernel
theorem g101 {d : Nat} {x : Int32} {A Ai : AT} {im : Nat} {Hs : Nat → HT} {μ : SMem} (h : INVw μ A Ai im Hs) : ∃ v μ1 μ2, cl (d + 12) 101 [Sum.inr (Sum.inl (2)), Sum.inl (x)] μ = some (Sum.inl (some (Sum.inl (v))), μ1) ∧ cl (d + 12) 210 [Sum.inr (Sum.inl (69)), Sum.inl (x)] μ1 = some (Sum.inl (some (Sum.inl (v))), μ2) ∧ INVw μ2 A Ai im Hs ∧ sz μ2 = sz μ ∧ sl μ2 = sl μ ∧ K1 μ μ1 := by
  have hB := h.1
  obtain ⟨hm, hc, hw, ht, hr⟩ := hB
  have hq := hr.mq hw
  by_cases c : 0 ≤ x ∧ x < 8
  · obtain ⟨e, he, rfl⟩ := E_of (n := 8) c.1 c.2 (by decide)
    obtain ⟨hH, hC, hM⟩ := h.2.2.2.1 e he
    have e0 : (53 + 2 * e = 0) = False := eq_false (by omega)
    by_cases k : rfW (Hs e) = 0
    · have hk := rfW_0 k
      have hn := hH.2.2.1
      obtain ⟨μx, a1, a2, a3⟩ := f121 (d := d + 10) h.1
      have hSl : SLt A (inA A) := fun b _ => hw.in2 b
      obtain ⟨μ1, b1, b2⟩ := f101_lp (d := d + 6) (x3 := 0) he h.1 hH hC hk 34 0 μx (inA A) none none (by omega) (by omega) a2 a3 hSl
      have hB1 := h.1.tw b2 (fun c e => by omega)
      have hM1 := hM.sb b2 (fun c e => by omega)
      have hq1 := hB1.2.2.2.2.mq hw
      obtain ⟨μa, c1, c2, c3⟩ := f183 (d := d + 10) hB1.1
      have hqa : MQr (gi μa 70) A (inA A) := by rw [c2.2.2.2.2.2.2 70 (by omega)]; exact hq1
      have hma := hB1.1.sb c2
      obtain ⟨μb, v, x5, d1, d2, d3⟩ := f210_lp (d := d + 6) (x2 := 0) he hma hw hH (hM1.sb c2 (fun c e => by omega)) hk 34 0 μa (inA A) (by omega) (by omega) (by omega) SB.rf hqa
      obtain ⟨μc, y1, y2, y3⟩ := f184b (d := d + 10) hB1 c2 c3 d2
      have hsb : SB Scr μ μc := (b2.wk (fun c e => by unfold Scr; omega)).tr (y2.wk (fun c e => by unfold Scr; omega))
      have hMc := hM1.sb y2 (fun c e => by omega)
      have e9 := (hMc.2.1 hk).2
      refine ⟨jdg A (hel (Hs e)) (hsz (Hs e)) 34 0 (inA A), μ1, μc, ?_, ?_, h.up hsb (fun c h => h) ?_ y3, by rw [y2.2.2.2.2.1, b2.2.2.2.2.1], by rw [y2.2.2.2.2.2.1, b2.2.2.2.2.2.1], K1.sb b2 (by omega)⟩
      · show rn (d + 12) 101 0 [some (Sum.inr (Sum.inl (2))), some (Sum.inl (E e)), none, none, none, none, none] [] μ = _
        simp only [st101_0, st101_1, st101_2, st101_3, st101_4, st101_5, st101_6, st101_7, st101_8, st101_9, st101_10, st101_11, st101_12, st101_13, st101_14, st101_15, st101_16, hc.1, f113 hc, c, E_n (show e < 1000 by omega), e0, f114 he hc hH hC, k, a1, aft_some, Option.toList_some, Option.toList_none, List.cons_append, List.nil_append, br0, br1, br2, br3, zr01, zr02, n10, n01, ne_eq, not_true_eq_false, not_false_eq_true, if_true, if_false, true_and, and_true, and_self]
        exact b1
      · show rn (d + 12) 210 0 [some (Sum.inr (Sum.inl (69))), some (Sum.inl (E e)), none, none, none] [] μ1 = _
        simp only [st210_0, st210_1, st210_2, st210_3, st210_4, st210_5, st210_6, st210_7, st210_8, st210_9, st210_10, st210_11, st210_12, st210_13, st210_14, hB1.1.1, f168w he hB1.1 hH hM1, k, c1, aft_some, Option.toList_some, Option.toList_none, List.cons_append, List.nil_append, br0, br1, br2, br3, zr01, zr02, n10, n01, ne_eq, not_true_eq_false, not_false_eq_true, if_true, if_false, true_and, and_true, and_self]
        refine d1.trans ?_
        rw [← d3]
        obtain ⟨m1, m2, m3, m4, m5, m6, m7, m8, m9, m10, m11, m12, m13, m14, ⟨t0, t1, t2, t3, t4, t5, t6, t7, t8, t9, t10, t11, t12⟩, l0, l1, l2, l3, l4, l5, l6, l7, l8, l9, l10, l11, l12⟩ := y3.1
        have q3 : (E (hsz (Hs e) % 3) = 0) = (hsz (Hs e) % 3 = 0) := by rw [E_0, eq_iff_iff, E_inj (by omega) (by decide)]
        by_cases v0 : 0 ≤ v
        · simp only [st210_32, st210_33, st210_34, st210_35, st210_36, st210_37, st210_38, st210_39, st210_40, st210_41, st210_42, st210_43, st210_44, st210_45, st210_46, (hma.sb d2).1, y1, v0, true_or, aft_some, Option.toList_some, Option.toList_none, List.cons_append, List.nil_append, br0, br1, br2, br3, zr01, zr02, n10, n01, ne_eq, not_true_eq_false, not_false_eq_true, if_true, if_false, true_and, and_true, and_self]
        · by_cases z : hsz (Hs e) % 3 = 0
          · simp only [st210_32, st210_33, st210_34, st210_35, st210_36, st210_37, st210_38, st210_39, st210_40, st210_41, st210_42, st210_43, st210_44, st210_45, st210_46, (hma.sb d2).1, y1, v0, m1, m8, t6, l6, E_ge0 (show e < 1000 by omega), E_n (show e < 1000 by omega), he, e9, E_rem3 _ (show hsz (Hs e) < 101 by omega), q3, z, or_true, show (E 0 = (0 : Int32)) = True from eq_true rfl, show ((3 : Int32) = 0) = False from eq_false (by decide), aft_some, Option.toList_some, Option.toList_none, List.cons_append, List.nil_append, br0, br1, br2, br3, zr01, zr02, n10, n01, ne_eq, not_true_eq_false, not_false_eq_true, if_true, if_false, true_and, and_true, and_self]
          · simp only [st210_32, st210_33, st210_34, st210_35, st210_36, st210_37, st210_38, st210_39, st210_40, st210_41, st210_42, st210_43, st210_44, st210_45, st210_46, (hma.sb d2).1, y1, v0, m1, m8, t6, l6, E_ge0 (show e < 1000 by omega), E_n (show e < 1000 by omega), he, e9, E_rem3 _ (show hsz (Hs e) < 101 by omega), q3, z, or_self, show ((3 : Int32) = 0) = False from eq_false (by decide), aft_some, Option.toList_some, Option.toList_none, List.cons_append, List.nil_append, br0, br1, br2, br3, zr01, zr02, n10, n01, ne_eq, not_true_eq_false, not_false_eq_true, if_true, if_false, true_and, and_true, and_self]
      · rw [y2.2.2.2.2.2.2 69 (by omega), b2.2.2.2.2.2.2 69 (by omega)]
    · refine ⟨rfW (Hs e), μ, μ, ?_, ?_, h, rfl, rfl, K1.rf⟩
      · show rn (d + 12) 101 0 [some (Sum.inr (Sum.inl (2))), some (Sum.inl (E e)), none, none, none, none, none] [] μ = _
        simp only [st101_0, st101_1, st101_2, st101_3, st101_4, st101_5, st101_6, st101_7, st101_8, st101_9, st101_10, st101_11, st101_12, st101_13, st101_14, st101_15, st101_16, hc.1, f113 hc, c, E_n (show e < 1000 by omega), e0, f114 he hc hH hC, k, aft_some, Option.toList_some, Option.toList_none, List.cons_append, List.nil_append, br0, br1, br2, br3, zr01, zr02, n10, n01, ne_eq, not_true_eq_false, not_false_eq_true, if_true, if_false, true_and, and_true, and_self]
      · show rn (d + 12) 210 0 [some (Sum.inr (Sum.inl (69))), some (Sum.inl (E e)), none, none, none] [] μ = _
        simp only [st210_0, st210_1, st210_2, st210_3, st210_4, st210_5, st210_6, st210_7, st210_8, st210_9, st210_10, st210_11, st210_12, st210_13, st210_14, hm.1, f168w he hm hH hM, k, aft_some, Option.toList_some, Option.toList_none, List.cons_append, List.nil_append, br0, br1, br2, br3, zr01, zr02, n10, n01, ne_eq, not_true_eq_false, not_false_eq_true, if_true, if_false, true_and, and_true, and_self]
  · refine ⟨-1, μ, μ, ?_, ?_, h, rfl, rfl, K1.rf⟩
    · show rn (d + 12) 101 0 [some (Sum.inr (Sum.inl (2))), some (Sum.inl (x)), none, none, none, none, none] [] μ = _
      simp only [st101_0, st101_1, st101_2, st101_3, st101_4, st101_5, st101_6, st101_7, st101_8, st101_9, st101_10, st101_11, st101_12, st101_13, st101_14, st101_15, st101_16, hc.1, f113 hc, c, f114n, show ((-1 : Int32) = 0) = False from eq_false (by decide), aft_some, Option.toList_some, Option.toList_none, List.cons_append, List.nil_append, br0, br1, br2, br3, zr01, zr02, n10, n01, ne_eq, not_true_eq_false, not_false_eq_true, if_true, if_false, true_and, and_true, and_self]
    · show rn (d + 12) 210 0 [some (Sum.inr (Sum.inl (69))), some (Sum.inl (x)), none, none, none] [] μ = _
      simp only [st210_0, st210_1, st210_2, st210_3, st210_4, st210_5, st210_6, st210_7, st210_8, st210_9, st210_10, st210_11, st210_12, st210_13, st210_14, hm.1, f168n hm c, show ((-1 : Int32) = 0) = False from eq_false (by decide), aft_some, Option.toList_some, Option.toList_none, List.cons_append, List.nil_append, br0, br1, br2, br3, zr01, zr02, n10, n01, ne_eq, not_true_eq_false, not_false_eq_true, if_true, if_false, true_and, and_true, and_self]
