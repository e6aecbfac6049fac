/-! SPECS Z: judge -/
def wt (A : AT) (el : Nat → Int32) (S : Nat → Nat) (q : Nat) : Int32 := if 0 ≤ el q ∧ el q < E (rcA A) then (if 0 ≤ el (q + 1) ∧ el (q + 1) < E (bcA A) then (if E (wrS A S (el q).toNatClampNeg (el (q + 1)).toNatClampNeg) = el (q + 2) then -4 else E (q + 2)) else E (q + 1)) else E q
def jdg (A : AT) (el : Nat → Int32) (n : Nat) : Nat → Nat → (Nat → Nat) → Int32
  | 0, _, _ => -4
  | m + 1, q, S => if n ≤ q then -4 else if n < q + 3 then E q else if wt A el S q = -4 then jdg A el n m (q + 3) (rdS A S (el q).toNatClampNeg (el (q + 1)).toNatClampNeg) else wt A el S q
theorem jdg_s {A : AT} {el : Nat → Int32} {n : Nat} (m q : Nat) (S : Nat → Nat) : jdg A el n (m + 1) q S = if n ≤ q then -4 else if n < q + 3 then E q else if wt A el S q = -4 then jdg A el n m (q + 3) (rdS A S (el q).toNatClampNeg (el (q + 1)).toNatClampNeg) else wt A el S q := rfl
theorem Em4 {n : Nat} (h : n < 1000) : (E n = (-4 : Int32)) = False := by
  refine eq_false fun e => ?_
  have := E_nonneg (a := n) (by omega)
  rw [e] at this
  exact absurd this (by decide)
theorem ix2p (e i : Nat) : E (100 * e + i) + 2 = E (100 * e + (i + 2)) := E_add _ 2
theorem f101_lp {d e : Nat} {A : AT} {H : HT} {x3 : Int32} {μ0 : SMem} (he : e < 8) (h : Both μ0 A) (hH : HWF H) (hC : ShC μ0 e H) (hk : hkt H = 2) : ∀ m q (μ : SMem) (S : Nat → Nat) (u5 u6 : Option SV), hsz H ≤ q + 3 * m → q < 103 → SB (fun c => c = 49) μ0 μ → MD μ S → SLt A S → ∃ μ', rn (d + 6) 101 17 [some (Sum.inr (Sum.inl (2))), some (Sum.inl (E e)), some (Sum.inr (Sum.inl (53 + 2 * e))), some (Sum.inl (x3)), some (Sum.inl (E q)), u5, u6] [] μ = some (Sum.inl (some (Sum.inl (jdg A (hel H) (hsz H) m q S))), μ') ∧ SB (fun c => c = 49) μ0 μ' := by
  have hn := hH.2.2.1
  have base : ∀ q (μ : SMem) (u5 u6 : Option SV), q < 103 → hsz H ≤ q → SB (fun c => c = 49) μ0 μ → rn (d + 6) 101 17 [some (Sum.inr (Sum.inl (2))), some (Sum.inl (E e)), some (Sum.inr (Sum.inl (53 + 2 * e))), some (Sum.inl (x3)), some (Sum.inl (E q)), u5, u6] [] μ = some (Sum.inl (some (Sum.inl (-4))), μ) := by
    intro q μ u5 u6 hq9 hq hs
    have hB := h.tw hs (fun c e => by omega)
    have hC1 := hC.sb hH hs (fun c e9 => ⟨by omega, by omega, scr_tag h (by unfold Scr; omega)⟩)
    have t8 := (hB.2.1.2.2.2.2.2.2.2.2.2.2.2 e he).2.1
    rw [st101_17]
    simp only [st101_0, st101_1, st101_2, st101_3, st101_4, st101_5, st101_6, st101_7, st101_8, st101_9, st101_10, st101_11, st101_12, st101_13, st101_14, st101_15, st101_16, st101_18, st101_19, st101_20, st101_21, st101_22, st101_23, st101_24, st101_25, st101_26, st101_27, st101_28, st101_29, st101_30, st101_31, st101_32, st101_33, st101_34, st101_35, st101_36, st101_37, st101_38, st101_39, st101_40, st101_41, st101_42, st101_43, st101_44, st101_45, st101_46, st101_47, st101_48, st101_49, st101_50, st101_51, st101_52, st101_53, st101_54, st101_55, st101_56, st101_57, st101_58, st101_59, st101_60, st101_61, st101_62, st101_63, st101_64, st101_65, st101_66, st101_67, st101_68, st101_69, st101_70, st101_71, st101_72, t8, (hC1.2.1 hk).2.2.2, E_leE (show hsz H < 2147483648 by omega) (show q < 2147483648 by omega), hq, aft_some, Option.toList_some, Option.toList_none, List.cons_append, List.nil_append, br0, br1, br2, br3, zr01, zr02, n10, n01, ne_eq, not_true_eq_false, not_false_eq_true, if_true, if_false, true_and, and_true, and_self]
  intro m
  induction m with
  | zero =>
    intro q μ S u5 u6 hi hq9 hs hM hS
    exact ⟨μ, base q μ u5 u6 hq9 (by omega) hs, hs⟩
  | succ m ih =>
    intro q μ S u5 u6 hi hq9 hs hM hS
    rw [jdg_s m q S]
    by_cases c1 : hsz H ≤ q
    · rw [if_pos c1]; exact ⟨μ, base q μ u5 u6 hq9 c1 hs, hs⟩
    have hB := h.tw hs (fun c e => by omega)
    have hC1 := hC.sb hH hs (fun c e9 => ⟨by omega, by omega, scr_tag h (by unfold Scr; omega)⟩)
    have hB0 := hB
    obtain ⟨hm', hc, hw, ht, hr9⟩ := hB
    have t8 := (hc.2.2.2.2.2.2.2.2.2.2.2 e he).2.1
    have x4 := (hC1.2.1 hk).2.2.2
    have l1 := E_leE (show hsz H < 2147483648 by omega) (show q < 2147483648 by omega)
    have sb := E_sub (show q ≤ hsz H by omega)
    have l2 : ((3 : Int32) ≤ E (hsz H - q)) = ¬ hsz H < q + 3 := by
      rw [show (3 : Int32) = E 3 from rfl, E_leE (by decide) (by omega), eq_iff_iff]; omega
    rw [if_neg c1]
    by_cases c2 : hsz H < q + 3
    · rw [if_pos c2]
      refine ⟨μ, ?_, hs⟩
      rw [st101_17]
      simp only [st101_0, st101_1, st101_2, st101_3, st101_4, st101_5, st101_6, st101_7, st101_8, st101_9, st101_10, st101_11, st101_12, st101_13, st101_14, st101_15, st101_16, st101_18, st101_19, st101_20, st101_21, st101_22, st101_23, st101_24, st101_25, st101_26, st101_27, st101_28, st101_29, st101_30, st101_31, st101_32, st101_33, st101_34, st101_35, st101_36, st101_37, st101_38, st101_39, st101_40, st101_41, st101_42, st101_43, st101_44, st101_45, st101_46, st101_47, st101_48, st101_49, st101_50, st101_51, st101_52, st101_53, st101_54, st101_55, st101_56, st101_57, st101_58, st101_59, st101_60, st101_61, st101_62, st101_63, st101_64, st101_65, st101_66, st101_67, st101_68, st101_69, st101_70, st101_71, st101_72, t8, x4, l1, c1, sb, l2, c2, aft_some, Option.toList_some, Option.toList_none, List.cons_append, List.nil_append, br0, br1, br2, br3, zr01, zr02, n10, n01, ne_eq, not_true_eq_false, not_false_eq_true, if_true, if_false, true_and, and_true, and_self]
    rw [if_neg c2]
    have cc : (0 ≤ E q ∧ E q < E (hsz H)) = True := eq_true ((inr (by omega) (by omega)).mpr (by omega))
    have cc1 : (0 ≤ E (q + 1) ∧ E (q + 1) < E (hsz H)) = True := eq_true ((inr (by omega) (by omega)).mpr (by omega))
    have cc2 : (0 ≤ E (q + 2) ∧ E (q + 2) < E (hsz H)) = True := eq_true ((inr (by omega) (by omega)).mpr (by omega))
    have p1 : E q + 1 = E (q + 1) := E_add q 1
    have p2 : E q + 2 = E (q + 2) := E_add q 2
    have p3 : E q + 3 = E (q + 3) := E_add q 3
    by_cases k1 : 0 ≤ hel H q ∧ hel H q < E (rcA A)
    · obtain ⟨r, hr1, er⟩ := E_of k1.1 k1.2 (by have := hw.2.1; omega)
      have r9 : r < 1000 := by have := hw.2.1; omega
      obtain ⟨r0, hrd⟩ := ht.2.2.2.2.2 r hr1
      rw [er] at k1
      by_cases k2 : 0 ≤ hel H (q + 1) ∧ hel H (q + 1) < E (bcA A)
      · obtain ⟨b, hb, eb⟩ := E_of k2.1 k2.2 (by have := hw.1; omega)
        have b9 : b < 1000 := by have := hw.1; omega
        rw [eb] at k2
        have e0 : (3 + 3 + 3 * b = 0) = False := eq_false (by omega)
        obtain ⟨μ1, z1, z2, z3⟩ := f122 (d := d) hB0 hM hS hb r0 hrd
        have hC2 := hC1.sb hH z2 (fun c e9 => ⟨by omega, by omega, scr_tag hB0 (by unfold Scr; omega)⟩)
        have hB2 := hB0.tw z2 (fun c e => by omega)
        have t8b : tg μ1 (53 + 2 * e) = 8 := by rw [z2.1]; exact t8
        have e57 := fun (d : Nat) (x : Int32) => f57 (d := d) (x := x) he hB2.2.1 hH hC2 hk
        have eW : wor (kdA A r) (fgA A r) (pgA A b) (ndA A b) (S b) = wrS A S r b := rfl
        by_cases k3 : E (wrS A S r b) = hel H (q + 2)
        · obtain ⟨μ', y1, y2⟩ := ih (q + 3) μ1 (rdS A S r b) (some (Sum.inr (Sum.inl (gr μ (3 + 2) r)))) (some (Sum.inl (E b))) (by omega) (by omega) (hs.tr z2) z3 (rdS_lt hw hS hr1 hb)
          have ew : wt A (hel H) S q = -4 := by unfold wt; rw [er, eb, if_pos k1, if_pos k2, E_nn (by omega), E_nn (by omega), if_pos k3]
          rw [if_pos ew, er, eb, E_nn (by omega), E_nn (by omega)]
          refine ⟨μ', ?_, y2⟩
          rw [st101_17]
          simp only [st101_0, st101_1, st101_2, st101_3, st101_4, st101_5, st101_6, st101_7, st101_8, st101_9, st101_10, st101_11, st101_12, st101_13, st101_14, st101_15, st101_16, st101_18, st101_19, st101_20, st101_21, st101_22, st101_23, st101_24, st101_25, st101_26, st101_27, st101_28, st101_29, st101_30, st101_31, st101_32, st101_33, st101_34, st101_35, st101_36, st101_37, st101_38, st101_39, st101_40, st101_41, st101_42, st101_43, st101_44, st101_45, st101_46, st101_47, st101_48, st101_49, st101_50, st101_51, st101_52, st101_53, st101_54, st101_55, st101_56, st101_57, st101_58, st101_59, st101_60, st101_61, st101_62, st101_63, st101_64, st101_65, st101_66, st101_67, st101_68, st101_69, st101_70, st101_71, st101_72, t8, t8b, x4, l1, c1, sb, l2, c2, hc.1, hc.2.1, ht.1.1, f57 he hc hH hC1 hk, e57, cc, cc1, cc2, p1, p2, p3, E_n (show q < 1000 by omega), E_n (show q + 1 < 1000 by omega), E_n (show q + 2 < 1000 by omega), er, eb, f68 hw ht, f67 hw ht, k1, k2, E_n r9, E_n b9, r0, e0, z1, eW, k3, aft_some, Option.toList_some, Option.toList_none, List.cons_append, List.nil_append, br0, br1, br2, br3, zr01, zr02, n10, n01, ne_eq, not_true_eq_false, not_false_eq_true, if_true, if_false, true_and, and_true, and_self]
          exact y1
        · have ew : wt A (hel H) S q = E (q + 2) := by unfold wt; rw [er, eb, if_pos k1, if_pos k2, E_nn (by omega), E_nn (by omega), if_neg k3]
          rw [ew, if_neg (fun h => (Em4 (by omega)).mp h)]
          refine ⟨μ1, ?_, hs.tr z2⟩
          rw [st101_17]
          simp only [st101_0, st101_1, st101_2, st101_3, st101_4, st101_5, st101_6, st101_7, st101_8, st101_9, st101_10, st101_11, st101_12, st101_13, st101_14, st101_15, st101_16, st101_18, st101_19, st101_20, st101_21, st101_22, st101_23, st101_24, st101_25, st101_26, st101_27, st101_28, st101_29, st101_30, st101_31, st101_32, st101_33, st101_34, st101_35, st101_36, st101_37, st101_38, st101_39, st101_40, st101_41, st101_42, st101_43, st101_44, st101_45, st101_46, st101_47, st101_48, st101_49, st101_50, st101_51, st101_52, st101_53, st101_54, st101_55, st101_56, st101_57, st101_58, st101_59, st101_60, st101_61, st101_62, st101_63, st101_64, st101_65, st101_66, st101_67, st101_68, st101_69, st101_70, st101_71, st101_72, t8, t8b, x4, l1, c1, sb, l2, c2, hc.1, hc.2.1, ht.1.1, f57 he hc hH hC1 hk, e57, cc, cc1, cc2, p1, p2, p3, E_n (show q < 1000 by omega), E_n (show q + 1 < 1000 by omega), E_n (show q + 2 < 1000 by omega), er, eb, f68 hw ht, f67 hw ht, k1, k2, E_n r9, E_n b9, r0, e0, z1, eW, k3, aft_some, Option.toList_some, Option.toList_none, List.cons_append, List.nil_append, br0, br1, br2, br3, zr01, zr02, n10, n01, ne_eq, not_true_eq_false, not_false_eq_true, if_true, if_false, true_and, and_true, and_self]
      · have ew : wt A (hel H) S q = E (q + 1) := by unfold wt; rw [er, if_pos k1, if_neg k2]
        rw [ew, if_neg (fun h => (Em4 (by omega)).mp h)]
        refine ⟨μ, ?_, hs⟩
        rw [st101_17]
        simp only [st101_0, st101_1, st101_2, st101_3, st101_4, st101_5, st101_6, st101_7, st101_8, st101_9, st101_10, st101_11, st101_12, st101_13, st101_14, st101_15, st101_16, st101_18, st101_19, st101_20, st101_21, st101_22, st101_23, st101_24, st101_25, st101_26, st101_27, st101_28, st101_29, st101_30, st101_31, st101_32, st101_33, st101_34, st101_35, st101_36, st101_37, st101_38, st101_39, st101_40, st101_41, st101_42, st101_43, st101_44, st101_45, st101_46, st101_47, st101_48, st101_49, st101_50, st101_51, st101_52, st101_53, st101_54, st101_55, st101_56, st101_57, st101_58, st101_59, st101_60, st101_61, st101_62, st101_63, st101_64, st101_65, st101_66, st101_67, st101_68, st101_69, st101_70, st101_71, st101_72, t8, x4, l1, c1, sb, l2, c2, hc.1, hc.2.1, ht.1.1, f57 he hc hH hC1 hk, cc, cc1, cc2, p1, p2, p3, E_n (show q < 1000 by omega), E_n (show q + 1 < 1000 by omega), er, f68 hw ht, f67 hw ht, k1, k2, E_n r9, r0, aft_some, Option.toList_some, Option.toList_none, List.cons_append, List.nil_append, br0, br1, br2, br3, zr01, zr02, n10, n01, ne_eq, not_true_eq_false, not_false_eq_true, if_true, if_false, true_and, and_true, and_self]
    · have ew : wt A (hel H) S q = E q := by unfold wt; rw [if_neg k1]
      rw [ew, if_neg (fun h => (Em4 (by omega)).mp h)]
      refine ⟨μ, ?_, hs⟩
      rw [st101_17]
      simp only [st101_0, st101_1, st101_2, st101_3, st101_4, st101_5, st101_6, st101_7, st101_8, st101_9, st101_10, st101_11, st101_12, st101_13, st101_14, st101_15, st101_16, st101_18, st101_19, st101_20, st101_21, st101_22, st101_23, st101_24, st101_25, st101_26, st101_27, st101_28, st101_29, st101_30, st101_31, st101_32, st101_33, st101_34, st101_35, st101_36, st101_37, st101_38, st101_39, st101_40, st101_41, st101_42, st101_43, st101_44, st101_45, st101_46, st101_47, st101_48, st101_49, st101_50, st101_51, st101_52, st101_53, st101_54, st101_55, st101_56, st101_57, st101_58, st101_59, st101_60, st101_61, st101_62, st101_63, st101_64, st101_65, st101_66, st101_67, st101_68, st101_69, st101_70, st101_71, st101_72, t8, x4, l1, c1, sb, l2, c2, hc.1, hc.2.1, ht.1.1, f57 he hc hH hC1 hk, cc, cc1, cc2, p1, p2, p3, E_n (show q < 1000 by omega), E_n (show q + 1 < 1000 by omega), f68 hw ht, f67 hw ht, k1, aft_some, Option.toList_some, Option.toList_none, List.cons_append, List.nil_append, br0, br1, br2, br3, zr01, zr02, n10, n01, ne_eq, not_true_eq_false, not_false_eq_true, if_true, if_false, true_and, and_true, and_self]
theorem f209 {d e q : Nat} {A : AT} {el : Nat → Int32} {S : Nat → Nat} {μ : SMem} (he : e < 8) (hq : q + 2 < 100) (hm : MA μ) (hw : WF A) (hM : MQr (gi μ 70) A S) (hel : ∀ i, i < 100 → gi μ 77 (100 * e + i) = el i) : ∃ μ', cl (d + 5) 209 [Sum.inr (Sum.inl (69)), Sum.inl (E e), Sum.inl (E q)] μ = some (Sum.inl (some (Sum.inl (wt A el S q))), μ') ∧ SB (fun c => c = 70) μ μ' ∧ (wt A el S q = -4 → MQr (gi μ' 70) A (rdS A S (el q).toNatClampNeg (el (q + 1)).toNatClampNeg)) := by
  have hm0 := hm
  obtain ⟨m1, m2, m3, m4, m5, m6, m7, m8, m9, m10, m11, m12, m13, m14, ⟨t0, t1, t2, t3, t4, t5, t6, t7, t8, t9, t10, t11, t12⟩, l0, l1, l2, l3, l4, l5, l6, l7, l8, l9, l10, l11, l12⟩ := hm
  have g0 := hel q (by omega)
  have g1 := hel (q + 1) (by omega)
  have g2 := hel (q + 2) (by omega)
  have p1 : E q + 1 = E (q + 1) := E_add q 1
  have p2 : E q + 2 = E (q + 2) := E_add q 2
  by_cases k1 : 0 ≤ el q ∧ el q < E (rcA A)
  · obtain ⟨r, hr1, er⟩ := E_of k1.1 k1.2 (by have := hw.2.1; omega)
    have r9 : r < 1000 := by have := hw.2.1; omega
    have k1' := k1
    rw [er] at k1 g0
    by_cases k2 : 0 ≤ el (q + 1) ∧ el (q + 1) < E (bcA A)
    · obtain ⟨b, hb, eb⟩ := E_of k2.1 k2.2 (by have := hw.1; omega)
      have b9 : b < 1000 := by have := hw.1; omega
      rw [eb] at k2 g1
      obtain ⟨μ1, z1, z2, z3⟩ := f162m (d := d) hm0 hw hM hr1 hb
      have g2' : gi μ1 77 (100 * e + (q + 2)) = el (q + 2) := by rw [z2.2.2.2.2.2.2 77 (by omega)]; exact g2
      have q1 : tg μ1 69 = 12 := by rw [z2.1]; exact m1
      have q2 : gr μ1 69 7 = 77 := by rw [z2.2.2.1]; exact m9
      have q3 : tg μ1 77 = 50 := by rw [z2.1]; exact t7
      have q4 : ln μ1 77 = 800 := by rw [z2.2.1]; exact l7
      by_cases k3 : E (wrS A S r b) = el (q + 2)
      · have ew : wt A el S q = -4 := by unfold wt; rw [er, eb, if_pos k1, if_pos k2, E_nn (by omega), E_nn (by omega), if_pos k3]
        refine ⟨μ1, ?_, z2, fun _ => by rw [er, eb, E_nn (by omega), E_nn (by omega)]; exact z3⟩
        rw [ew]
        show rn (d + 5) 209 0 [some (Sum.inr (Sum.inl (69))), some (Sum.inl (E e)), some (Sum.inl (E q)), none, none] [] μ = _
        simp only [st209_0, st209_1, st209_2, st209_3, st209_4, st209_5, st209_6, st209_7, st209_8, st209_9, st209_10, st209_11, st209_12, st209_13, st209_14, st209_15, st209_16, st209_17, st209_18, st209_19, st209_20, st209_21, st209_22, st209_23, st209_24, st209_25, st209_26, st209_27, st209_28, st209_29, st209_30, st209_31, st209_32, st209_33, st209_34, st209_35, st209_36, st209_37, st209_38, st209_39, st209_40, st209_41, st209_42, st209_43, st209_44, st209_45, st209_46, st209_47, st209_48, st209_49, st209_50, st209_51, st209_52, st209_53, st209_54, m1, m9, t7, l7, ix100, ix1p, ix2p, E_ge0 (show 100 * e + q < 1000 by omega), E_n (show 100 * e + q < 1000 by omega), show 100 * e + q < 800 by omega, E_ge0 (show 100 * e + (q + 1) < 1000 by omega), E_n (show 100 * e + (q + 1) < 1000 by omega), show 100 * e + (q + 1) < 800 by omega, E_ge0 (show 100 * e + (q + 2) < 1000 by omega), E_n (show 100 * e + (q + 2) < 1000 by omega), show 100 * e + (q + 2) < 800 by omega, g0, g1, g2', q1, q2, q3, q4, f142 hm0 hw hM.2.1, f141 hm0 hw hM.1, k1, k2, z1, k3, aft_some, Option.toList_some, Option.toList_none, List.cons_append, List.nil_append, br0, br1, br2, br3, zr01, zr02, n10, n01, ne_eq, not_true_eq_false, not_false_eq_true, if_true, if_false, true_and, and_true, and_self]
      · have ew : wt A el S q = E (q + 2) := by unfold wt; rw [er, eb, if_pos k1, if_pos k2, E_nn (by omega), E_nn (by omega), if_neg k3]
        refine ⟨μ1, ?_, z2, fun h => by rw [ew, Em4 (by omega)] at h; exact h.elim⟩
        rw [ew]
        show rn (d + 5) 209 0 [some (Sum.inr (Sum.inl (69))), some (Sum.inl (E e)), some (Sum.inl (E q)), none, none] [] μ = _
        simp only [st209_0, st209_1, st209_2, st209_3, st209_4, st209_5, st209_6, st209_7, st209_8, st209_9, st209_10, st209_11, st209_12, st209_13, st209_14, st209_15, st209_16, st209_17, st209_18, st209_19, st209_20, st209_21, st209_22, st209_23, st209_24, st209_25, st209_26, st209_27, st209_28, st209_29, st209_30, st209_31, st209_32, st209_33, st209_34, st209_35, st209_36, st209_37, st209_38, st209_39, st209_40, st209_41, st209_42, st209_43, st209_44, st209_45, st209_46, st209_47, st209_48, st209_49, st209_50, st209_51, st209_52, st209_53, st209_54, m1, m9, t7, l7, ix100, ix1p, ix2p, E_ge0 (show 100 * e + q < 1000 by omega), E_n (show 100 * e + q < 1000 by omega), show 100 * e + q < 800 by omega, E_ge0 (show 100 * e + (q + 1) < 1000 by omega), E_n (show 100 * e + (q + 1) < 1000 by omega), show 100 * e + (q + 1) < 800 by omega, E_ge0 (show 100 * e + (q + 2) < 1000 by omega), E_n (show 100 * e + (q + 2) < 1000 by omega), show 100 * e + (q + 2) < 800 by omega, g0, g1, g2', q1, q2, q3, q4, f142 hm0 hw hM.2.1, f141 hm0 hw hM.1, k1, k2, z1, k3, p2, aft_some, Option.toList_some, Option.toList_none, List.cons_append, List.nil_append, br0, br1, br2, br3, zr01, zr02, n10, n01, ne_eq, not_true_eq_false, not_false_eq_true, if_true, if_false, true_and, and_true, and_self]
    · have ew : wt A el S q = E (q + 1) := by unfold wt; rw [er, if_pos k1, if_neg k2]
      refine ⟨μ, ?_, SB.rf, fun h => by rw [ew, Em4 (by omega)] at h; exact h.elim⟩
      rw [ew]
      show rn (d + 5) 209 0 [some (Sum.inr (Sum.inl (69))), some (Sum.inl (E e)), some (Sum.inl (E q)), none, none] [] μ = _
      simp only [st209_0, st209_1, st209_2, st209_3, st209_4, st209_5, st209_6, st209_7, st209_8, st209_9, st209_10, st209_11, st209_12, st209_13, st209_14, st209_15, st209_16, st209_17, st209_18, st209_19, st209_20, st209_21, st209_22, st209_23, st209_24, st209_25, st209_26, st209_27, st209_28, st209_29, st209_30, st209_31, st209_32, st209_33, st209_34, st209_35, st209_36, st209_37, st209_38, st209_39, st209_40, st209_41, st209_42, st209_43, st209_44, st209_45, st209_46, st209_47, st209_48, st209_49, st209_50, st209_51, st209_52, st209_53, st209_54, m1, m9, t7, l7, ix100, ix1p, ix2p, E_ge0 (show 100 * e + q < 1000 by omega), E_n (show 100 * e + q < 1000 by omega), show 100 * e + q < 800 by omega, E_ge0 (show 100 * e + (q + 1) < 1000 by omega), E_n (show 100 * e + (q + 1) < 1000 by omega), show 100 * e + (q + 1) < 800 by omega, g0, g1, f142 hm0 hw hM.2.1, f141 hm0 hw hM.1, k1, k2, p1, aft_some, Option.toList_some, Option.toList_none, List.cons_append, List.nil_append, br0, br1, br2, br3, zr01, zr02, n10, n01, ne_eq, not_true_eq_false, not_false_eq_true, if_true, if_false, true_and, and_true, and_self]
  · have ew : wt A el S q = E q := by unfold wt; rw [if_neg k1]
    refine ⟨μ, ?_, SB.rf, fun h => by rw [ew, Em4 (by omega)] at h; exact h.elim⟩
    rw [ew]
    show rn (d + 5) 209 0 [some (Sum.inr (Sum.inl (69))), some (Sum.inl (E e)), some (Sum.inl (E q)), none, none] [] μ = _
    simp only [st209_0, st209_1, st209_2, st209_3, st209_4, st209_5, st209_6, st209_7, st209_8, st209_9, st209_10, st209_11, st209_12, st209_13, st209_14, st209_15, st209_16, st209_17, st209_18, st209_19, st209_20, st209_21, st209_22, st209_23, st209_24, st209_25, st209_26, st209_27, st209_28, st209_29, st209_30, st209_31, st209_32, st209_33, st209_34, st209_35, st209_36, st209_37, st209_38, st209_39, st209_40, st209_41, st209_42, st209_43, st209_44, st209_45, st209_46, st209_47, st209_48, st209_49, st209_50, st209_51, st209_52, st209_53, st209_54, m1, m9, t7, l7, ix100, ix1p, ix2p, E_ge0 (show 100 * e + q < 1000 by omega), E_n (show 100 * e + q < 1000 by omega), show 100 * e + q < 800 by omega, E_ge0 (show 100 * e + (q + 1) < 1000 by omega), E_n (show 100 * e + (q + 1) < 1000 by omega), show 100 * e + (q + 1) < 800 by omega, g0, g1, f142 hm0 hw hM.2.1, f141 hm0 hw hM.1, k1, aft_some, Option.toList_some, Option.toList_none, List.cons_append, List.nil_append, br0, br1, br2, br3, zr01, zr02, n10, n01, ne_eq, not_true_eq_false, not_false_eq_true, if_true, if_false, true_and, and_true, and_self]
