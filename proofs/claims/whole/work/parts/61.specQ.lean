/-! SPECS Q: rows of readings in mind, class and reference; run, without -/
theorem ok_rd {A : AT} {H : HT} {m : Nat} (hw : WF A) (h : allF (fun i => okR A (hel H (2 * i)) && okB A (hel H (2 * i + 1))) 0 m = true) : ∀ i, i < m → ∃ r b, r < rcA A ∧ b < bcA A ∧ hel H (2 * i) = E r ∧ hel H (2 * i + 1) = E b := by
  intro i hi
  have h1 := allF_at m 0 h i (by omega) (by omega)
  rw [Bool.and_eq_true] at h1
  have c1 := of_decide_eq_true h1.1
  have c2 := of_decide_eq_true h1.2
  obtain ⟨r, hr, e1⟩ := E_of c1.1 c1.2 (by have := hw.2.1; omega)
  obtain ⟨b, hb, e2⟩ := E_of c2.1 c2.2 (by have := hw.1; omega)
  exact ⟨r, b, hr, hb, e1, e2⟩
theorem rnv_lt {A : AT} {H : HT} {but : Int32} {S0 : Nat → Nat} {m : Nat} (hw : WF A) (hok : ∀ i, i < m → ∃ r b, r < rcA A ∧ b < bcA A ∧ hel H (2 * i) = E r ∧ hel H (2 * i + 1) = E b) (hS : SLt A S0) : ∀ i, i ≤ m → SLt A (rnv A (hel H) but S0 i).2 := by
  intro i
  induction i with
  | zero => intro _; exact hS
  | succ i ih =>
    intro hi
    have h1 := ih (by omega)
    obtain ⟨r, b, hr, hb, e1, e2⟩ := hok i (by omega)
    rw [rnv_s i]
    by_cases c : hel H (2 * i) = but
    · rw [if_pos c]; exact h1
    · rw [if_neg c, e1, e2, E_nn (by have := hw.2.1; omega), E_nn (by have := hw.1; omega)]
      exact rdS_lt hw h1 hr hb
theorem f124_lp {d e m : Nat} {A : AT} {H : HT} {but : Int32} {μ0 : SMem} (he : e < 8) (h : Both μ0 A) (hH : HWF H) (hC : ShC μ0 e H) (hk : hkt H = 2) (hm : hsz H = 2 * m) (hok : ∀ i, i < m → ∃ r b, r < rcA A ∧ b < bcA A ∧ hel H (2 * i) = E r ∧ hel H (2 * i + 1) = E b) (hS : SLt A (inA A)) : ∀ k i (μ : SMem) (u6 u7 : Option SV), i + k = m → SB (fun c => c = 49) μ0 μ → MD μ (rnv A (hel H) but (inA A) i).2 → ∃ μ', rn (d + 6) 124 6 [some (Sum.inr (Sum.inl (2))), some (Sum.inr (Sum.inl (53 + 2 * e))), some (Sum.inr (Sum.inl (0))), some (Sum.inl (but)), some (Sum.inl (E (rnv A (hel H) but (inA A) i).1)), some (Sum.inl (E (2 * i))), u6, u7] [] μ = some (Sum.inl (some (Sum.inl (E (rnv A (hel H) but (inA A) m).1))), μ') ∧ SB (fun c => c = 49) μ0 μ' ∧ MD μ' (rnv A (hel H) but (inA A) m).2 := by
  intro k
  induction k with
  | zero =>
    intro i μ u6 u7 hi hs hM
    have : i = m := by omega
    subst this
    have hB := h.tw hs (fun c e => by omega)
    have hC1 := hC.sb hH hs (fun c e9 => ⟨by omega, by omega, scr_tag h (by unfold Scr; omega)⟩)
    have t8 := (hB.2.1.2.2.2.2.2.2.2.2.2.2.2 e he).2.1
    refine ⟨μ, ?_, hs, hM⟩
    rw [st124_6]
    have hn := hH.2.2.1
    simp only [st124_0, st124_1, st124_2, st124_3, st124_4, st124_5, st124_7, st124_8, st124_9, st124_10, st124_11, st124_12, st124_13, st124_14, st124_15, st124_16, st124_17, st124_18, st124_19, st124_20, st124_21, st124_22, st124_23, st124_24, st124_25, st124_26, st124_27, st124_28, st124_29, st124_30, st124_31, st124_32, st124_33, st124_34, st124_35, st124_36, st124_37, st124_38, st124_39, st124_40, st124_41, st124_42, t8, (hC1.2.1 hk).2.2.2, hm, show E (2 * i) + 1 = E (2 * i + 1) from E_add _ 1, E_leE (show 2 * i < 2147483648 by omega) (show 2 * i + 1 < 2147483648 by omega), show 2 * i ≤ 2 * i + 1 by omega, if_true]
  | succ k ih =>
    intro i μ u6 u7 hi hs hM
    have hB := h.tw hs (fun c e => by omega)
    have hC1 := hC.sb hH hs (fun c e9 => ⟨by omega, by omega, scr_tag h (by unfold Scr; omega)⟩)
    have hB0 := hB
    obtain ⟨hm', hc, hw, ht, hr9⟩ := hB
    have t8 := (hc.2.2.2.2.2.2.2.2.2.2.2 e he).2.1
    have hn := hH.2.2.1
    obtain ⟨r, b, hr, hb, e1, e2⟩ := hok i (by omega)
    have r6 : r < 6 := by have := hw.2.1; omega
    have b4 : b < 4 := by have := hw.1; omega
    have x4 := (hC1.2.1 hk).2.2.2
    have cx : ¬ E (hsz H) ≤ E (2 * i + 1) := by rw [E_le (by omega) (by omega)]; omega
    have cc : 0 ≤ E (2 * i) ∧ E (2 * i) < E (hsz H) := (inr (by omega) (by omega)).mpr (by omega)
    have cc1 : 0 ≤ E (2 * i + 1) ∧ E (2 * i + 1) < E (hsz H) := (inr (by omega) (by omega)).mpr (by omega)
    have p1 : E (2 * i) + 1 = E (2 * i + 1) := E_add (2 * i) 1
    have p2 : E (2 * i) + 2 = E (2 * (i + 1)) := E_add (2 * i) 2
    by_cases cb : E r = but
    · have ev : rnv A (hel H) but (inA A) (i + 1) = rnv A (hel H) but (inA A) i := by rw [rnv_s i, e1, if_pos cb]
      have ih1 := fun u6 u7 => ih (i + 1) μ u6 u7 (by omega) hs (by rw [ev]; exact hM)
      rw [ev] at ih1
      obtain ⟨μ', y1, y2, y3⟩ := ih1 (some (Sum.inl but)) u7
      refine ⟨μ', ?_, y2, y3⟩
      rw [st124_6]
      simp only [st124_0, st124_1, st124_2, st124_3, st124_4, st124_5, st124_7, st124_8, st124_9, st124_10, st124_11, st124_12, st124_13, st124_14, st124_15, st124_16, st124_17, st124_18, st124_19, st124_20, st124_21, st124_22, st124_23, st124_24, st124_25, st124_26, st124_27, st124_28, st124_29, st124_30, st124_31, st124_32, st124_33, st124_34, st124_35, st124_36, st124_37, st124_38, st124_39, st124_40, st124_41, st124_42, t8, x4, p1, cx, f57 he hc hH hC1 hk, cc, E_n (show 2 * i < 1000 by omega), e1, cb, p2, aft_some, Option.toList_some, Option.toList_none, List.cons_append, List.nil_append, br0, br1, br2, br3, zr01, zr02, n10, n01, ne_eq, not_true_eq_false, not_false_eq_true, if_true, if_false, true_and, and_true, and_self]
      exact y1
    · have ev : rnv A (hel H) but (inA A) (i + 1) = ((rnv A (hel H) but (inA A) i).1 + wrS A (rnv A (hel H) but (inA A) i).2 r b, rdS A (rnv A (hel H) but (inA A) i).2 r b) := by rw [rnv_s i, e1, if_neg cb, e2, E_nn (by omega), E_nn (by omega)]
      obtain ⟨r0, hrd⟩ := ht.2.2.2.2.2 r hr
      have hSl := rnv_lt (but := but) hw hok hS i (by omega)
      obtain ⟨μ1, z1, z2, z3⟩ := f122 (d := d) hB0 hM hSl hb r0 hrd
      have cR : 0 ≤ E r ∧ E r < E (rcA A) := (inr (by omega) (by have := hw.2.1; omega)).mpr hr
      have ih1 := fun u6 u7 => ih (i + 1) μ1 u6 u7 (by omega) (hs.tr z2) (by rw [ev]; exact z3)
      rw [ev] at ih1
      obtain ⟨μ', y1, y2, y3⟩ := ih1 (some (Sum.inl (E r))) (some (Sum.inr (Sum.inl (gr μ (3 + 2) r))))
      refine ⟨μ', ?_, y2, y3⟩
      rw [st124_6]
      simp only [st124_0, st124_1, st124_2, st124_3, st124_4, st124_5, st124_7, st124_8, st124_9, st124_10, st124_11, st124_12, st124_13, st124_14, st124_15, st124_16, st124_17, st124_18, st124_19, st124_20, st124_21, st124_22, st124_23, st124_24, st124_25, st124_26, st124_27, st124_28, st124_29, st124_30, st124_31, st124_32, st124_33, st124_34, st124_35, st124_36, st124_37, st124_38, st124_39, st124_40, st124_41, st124_42, t8, x4, p1, cx, f57 he hc hH hC1 hk, cc, cc1, E_n (show 2 * i < 1000 by omega), E_n (show 2 * i + 1 < 1000 by omega), e1, e2, cb, hc.1, hc.2.1, ht.1.1, f68 hw ht, cR, E_n (show r < 1000 by omega), z1, E_add, p2, aft_some, Option.toList_some, Option.toList_none, List.cons_append, List.nil_append, br0, br1, br2, br3, zr01, zr02, n10, n01, ne_eq, not_true_eq_false, not_false_eq_true, if_true, if_false, true_and, and_true, and_self]
      exact y1
theorem f124 {d e : Nat} {A : AT} {H : HT} {but : Int32} {μ : SMem} (he : e < 8) (h : Both μ A) (hH : HWF H) (hC : ShC μ e H) (hz : rfRd A H = 0) : ∃ μ', cl (d + 6) 124 [Sum.inr (Sum.inl (2)), Sum.inr (Sum.inl (53 + 2 * e)), Sum.inr (Sum.inl (0)), Sum.inl (but)] μ = some (Sum.inl (some (Sum.inl (E (rnv A (hel H) but (inA A) (hsz H / 2)).1))), μ') ∧ SB (fun c => c = 49) μ μ' ∧ MD μ' (rnv A (hel H) but (inA A) (hsz H / 2)).2 := by
  have hrf : rfB H = 0 ∧ hsz H % 2 = 0 ∧ allF (fun i => okR A (hel H (2 * i)) && okB A (hel H (2 * i + 1))) 0 (hsz H / 2) = true := by
    unfold rfRd at hz
    by_cases c : rfB H = 0
    · rw [if_neg (by simp [c])] at hz
      by_cases c2 : hsz H % 2 ≠ 0 ∨ 24 < hsz H
      · rw [if_pos c2] at hz; exact absurd hz (by decide)
      · rw [if_neg c2] at hz
        by_cases c3 : allF (fun i => okR A (hel H (2 * i)) && okB A (hel H (2 * i + 1))) 0 (hsz H / 2) = true
        · exact ⟨c, by omega, c3⟩
        · rw [if_neg c3] at hz; exact absurd hz (by decide)
    · rw [if_pos c] at hz; exact absurd hz c
  obtain ⟨q1, q2, q3⟩ := hrf
  obtain ⟨k2, k0⟩ := rfB_0 q1
  have hok := ok_rd h.2.2.1 q3
  obtain ⟨μ1, x1, x2, x3⟩ := f121 (d := d + 4) h
  obtain ⟨μ', y1, y2, y3⟩ := f124_lp (d := d) (but := but) he h hH hC k2 (show hsz H = 2 * (hsz H / 2) by omega) hok (fun b _ => h.2.2.1.in2 b) (hsz H / 2) 0 μ1 none none (by omega) x2 x3
  refine ⟨μ', ?_, y2, y3⟩
  show rn (d + 6) 124 0 [some (Sum.inr (Sum.inl (2))), some (Sum.inr (Sum.inl (53 + 2 * e))), some (Sum.inr (Sum.inl (0))), some (Sum.inl (but)), none, none, none, none] [] μ = _
  simp only [st124_0, st124_1, st124_2, st124_3, st124_4, st124_5, h.2.1.1, x1, aft_some, Option.toList_some, Option.toList_none, List.cons_append, List.nil_append, br0, br1, br2, br3, zr01, zr02, n10, n01, ne_eq, not_true_eq_false, not_false_eq_true, if_true, if_false, true_and, and_true, and_self]
  exact y1
