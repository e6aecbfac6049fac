/-! SPECS R: rows of readings in mind, of the reference -/
theorem rfRd_0 {A : AT} {H : HT} (hz : rfRd A H = 0) : hkt H = 2 ∧ hsz H % 2 = 0 ∧ hsz H ≤ 24 ∧ allF (fun i => okR A (hel H (2 * i)) && okB A (hel H (2 * i + 1))) 0 (hsz H / 2) = true := by
  unfold rfRd at hz
  by_cases c : rfB H = 0
  · rw [if_neg (by simp [c])] at hz
    by_cases c2 : hsz H % 2 ≠ 0 ∨ 24 < hsz H
    · rw [if_pos c2] at hz; exact absurd hz (by decide)
    · rw [if_neg c2] at hz
      by_cases c3 : allF (fun i => okR A (hel H (2 * i)) && okB A (hel H (2 * i + 1))) 0 (hsz H / 2) = true
      · exact ⟨(rfB_0 c).1, by omega, by omega, c3⟩
      · rw [if_neg c3] at hz; exact absurd hz (by decide)
  · rw [if_pos c] at hz; exact absurd hz c
theorem rnv_0 {A : AT} {H : HT} {but : Int32} {S0 : Nat → Nat} {m : Nat} (hw : WF A) (hok : ∀ i, i < m → ∃ r b, r < rcA A ∧ b < bcA A ∧ hel H (2 * i) = E r ∧ hel H (2 * i + 1) = E b) (hS : ∀ b, bcA A ≤ b → S0 b = 0) : ∀ i, i ≤ m → ∀ b, bcA A ≤ b → (rnv A (hel H) but S0 i).2 b = 0 := by
  intro i
  induction i with
  | zero => intro _; exact hS
  | succ i ih =>
    intro hi b hb
    obtain ⟨r, b', hr, hb', e1, e2⟩ := hok i (by omega)
    rw [rnv_s i]
    by_cases c : hel H (2 * i) = but
    · rw [if_pos c]; exact ih (by omega) b hb
    · rw [if_neg c, e1, e2, E_nn (by have := hw.2.1; omega), E_nn (by have := hw.1; omega)]
      show rdS A _ r b' b = 0
      unfold rdS up1
      rw [if_neg (by omega)]
      exact ih (by omega) b hb
theorem f185_lp {d e m : Nat} {A : AT} {H : HT} {but : Int32} {μ0 : SMem} (he : e < 8) (hm : MA μ0) (hw : WF A) (hH : HWF H) (hC : ShM μ0 e H) (hk : hkt H = 2) (hsm : hsz H = 2 * m) (hok : ∀ i, i < m → ∃ r b, r < rcA A ∧ b < bcA A ∧ hel H (2 * i) = E r ∧ hel H (2 * i + 1) = E b) : ∀ k i (μ : SMem) (u5 : Option SV), i + k = m → SB (fun c => c = 70) μ0 μ → MQr (gi μ 70) A (rnv A (hel H) but (inA A) i).2 → ∃ μ', rn (d + 5) 185 4 [some (Sum.inr (Sum.inl (69))), some (Sum.inl (E e)), some (Sum.inl (but)), some (Sum.inl (E (rnv A (hel H) but (inA A) i).1)), some (Sum.inl (E (2 * i))), u5] [] μ = some (Sum.inl (some (Sum.inl (E (rnv A (hel H) but (inA A) m).1))), μ') ∧ SB (fun c => c = 70) μ0 μ' ∧ MQr (gi μ' 70) A (rnv A (hel H) but (inA A) m).2 := by
  intro k
  induction k with
  | zero =>
    intro i μ u5 hi hs hM
    have : i = m := by omega
    subst this
    have hm1 := hm.sb hs
    have hC1 := hC.sb hs (fun c e9 => by omega)
    obtain ⟨m1, m2, m3, m4, m5, m6, m7, m8, m9, m10, m11, m12, m13, m14, ⟨t0, t1, t2, t3, t4, t5, t6, t7, t8, t9, t10, t11, t12⟩, l0, l1, l2, l3, l4, l5, l6, l7, l8, l9, l10, l11, l12⟩ := hm1
    refine ⟨μ, ?_, hs, hM⟩
    rw [st185_4]
    simp only [st185_0, st185_1, st185_2, st185_3, st185_5, st185_6, st185_7, st185_8, st185_9, st185_10, st185_11, st185_12, st185_13, st185_14, st185_15, st185_16, st185_17, st185_18, st185_19, st185_20, st185_21, st185_22, st185_23, st185_24, st185_25, st185_26, st185_27, st185_28, st185_29, st185_30, st185_31, st185_32, st185_33, st185_34, st185_35, st185_36, st185_37, st185_38, st185_39, st185_40, st185_41, st185_42, st185_43, m1, m8, t6, l6, E_ge0 (show e < 1000 by omega), E_n (show e < 1000 by omega), he, and_self, (hC1.2.1 hk).2, hsm, Int32.le_refl, if_true]
  | succ k ih =>
    intro i μ u5 hi hs hM
    have hm1 := hm.sb hs
    have hm0 := hm1
    have hC1 := hC.sb hs (fun c e9 => by omega)
    obtain ⟨m1, m2, m3, m4, m5, m6, m7, m8, m9, m10, m11, m12, m13, m14, ⟨t0, t1, t2, t3, t4, t5, t6, t7, t8, t9, t10, t11, t12⟩, l0, l1, l2, l3, l4, l5, l6, l7, l8, l9, l10, l11, l12⟩ := hm1
    have hn := hH.2.2.1
    obtain ⟨r, b, hr, hb, e1, e2⟩ := hok i (by omega)
    have r6 : r < 6 := by have := hw.2.1; omega
    have b4 : b < 4 := by have := hw.1; omega
    have x4 := (hC1.2.1 hk).2
    have cx : ¬ E (hsz H) ≤ E (2 * i) := by rw [E_le (by omega) (by omega)]; omega
    have p2 : E (2 * i) + 2 = E (2 * (i + 1)) := E_add (2 * i) 2
    have g1 := hC1.2.2.2 (2 * i) (by omega)
    have g2 := hC1.2.2.2 (2 * i + 1) (by omega)
    by_cases cb : E r = but
    · have ev : rnv A (hel H) but (inA A) (i + 1) = rnv A (hel H) but (inA A) i := by rw [rnv_s i, e1, if_pos cb]
      have ih1 := fun u5 => ih (i + 1) μ u5 (by omega) hs (by rw [ev]; exact hM)
      rw [ev] at ih1
      obtain ⟨μ', y1, y2, y3⟩ := ih1 (some (Sum.inl but))
      refine ⟨μ', ?_, y2, y3⟩
      rw [st185_4]
      simp only [st185_0, st185_1, st185_2, st185_3, st185_5, st185_6, st185_7, st185_8, st185_9, st185_10, st185_11, st185_12, st185_13, st185_14, st185_15, st185_16, st185_17, st185_18, st185_19, st185_20, st185_21, st185_22, st185_23, st185_24, st185_25, st185_26, st185_27, st185_28, st185_29, st185_30, st185_31, st185_32, st185_33, st185_34, st185_35, st185_36, st185_37, st185_38, st185_39, st185_40, st185_41, st185_42, st185_43, m1, m8, m9, t6, t7, l6, l7, E_ge0 (show e < 1000 by omega), E_n (show e < 1000 by omega), he, x4, cx, ix100, E_ge0 (show 100 * e + 2 * i < 1000 by omega), E_n (show 100 * e + 2 * i < 1000 by omega), show 100 * e + 2 * i < 800 by omega, g1, e1, cb, p2, Int32.add_zero, aft_some, Option.toList_some, Option.toList_none, List.cons_append, List.nil_append, br0, br1, br2, br3, zr01, zr02, n10, n01, ne_eq, not_true_eq_false, not_false_eq_true, if_true, if_false, true_and, and_true, and_self]
      exact y1
    · have ev : rnv A (hel H) but (inA A) (i + 1) = ((rnv A (hel H) but (inA A) i).1 + wrS A (rnv A (hel H) but (inA A) i).2 r b, rdS A (rnv A (hel H) but (inA A) i).2 r b) := by rw [rnv_s i, e1, if_neg cb, e2, E_nn (by omega), E_nn (by omega)]
      obtain ⟨μ1, z1, z2, z3⟩ := f162m (d := d) hm0 hw hM hr hb
      have ih1 := fun u5 => ih (i + 1) μ1 u5 (by omega) (hs.tr z2) (by rw [ev]; exact z3)
      rw [ev] at ih1
      obtain ⟨μ', y1, y2, y3⟩ := ih1 (some (Sum.inl (E r)))
      refine ⟨μ', ?_, y2, y3⟩
      rw [st185_4]
      simp only [st185_0, st185_1, st185_2, st185_3, st185_5, st185_6, st185_7, st185_8, st185_9, st185_10, st185_11, st185_12, st185_13, st185_14, st185_15, st185_16, st185_17, st185_18, st185_19, st185_20, st185_21, st185_22, st185_23, st185_24, st185_25, st185_26, st185_27, st185_28, st185_29, st185_30, st185_31, st185_32, st185_33, st185_34, st185_35, st185_36, st185_37, st185_38, st185_39, st185_40, st185_41, st185_42, st185_43, m1, m8, m9, t6, t7, l6, l7, E_ge0 (show e < 1000 by omega), E_n (show e < 1000 by omega), he, x4, cx, ix100, ix1p, E_ge0 (show 100 * e + 2 * i < 1000 by omega), E_n (show 100 * e + 2 * i < 1000 by omega), show 100 * e + 2 * i < 800 by omega, E_ge0 (show 100 * e + (2 * i + 1) < 1000 by omega), E_n (show 100 * e + (2 * i + 1) < 1000 by omega), show 100 * e + (2 * i + 1) < 800 by omega, g1, g2, e1, e2, cb, p2, z1, E_add, aft_some, Option.toList_some, Option.toList_none, List.cons_append, List.nil_append, br0, br1, br2, br3, zr01, zr02, n10, n01, ne_eq, not_true_eq_false, not_false_eq_true, if_true, if_false, true_and, and_true, and_self]
      exact y1
theorem f185 {d e : Nat} {A : AT} {H : HT} {but : Int32} {μ : SMem} (he : e < 8) (hm : MA μ) (hw : WF A) (hH : HWF H) (hC : ShM μ e H) (hq : MQr (gi μ 70) A (inA A)) (hz : rfRd A H = 0) : ∃ μ', cl (d + 5) 185 [Sum.inr (Sum.inl (69)), Sum.inl (E e), Sum.inl (but)] μ = some (Sum.inl (some (Sum.inl (E (rnv A (hel H) but (inA A) (hsz H / 2)).1))), μ') ∧ SB (fun c => c = 70) μ μ' ∧ MQr (gi μ' 70) A (rnv A (hel H) but (inA A) (hsz H / 2)).2 := by
  obtain ⟨k2, q2, _, q3⟩ := rfRd_0 hz
  obtain ⟨μ', y1, y2, y3⟩ := f185_lp (d := d) (but := but) he hm hw hH hC k2 (show hsz H = 2 * (hsz H / 2) by omega) (ok_rd hw q3) (hsz H / 2) 0 μ none (by omega) SB.rf hq
  refine ⟨μ', ?_, y2, y3⟩
  show rn (d + 5) 185 0 [some (Sum.inr (Sum.inl (69))), some (Sum.inl (E e)), some (Sum.inl (but)), none, none, none] [] μ = _
  simp only [st185_0, st185_1, st185_2, st185_3]
  exact y1
