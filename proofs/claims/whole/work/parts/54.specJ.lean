/-! SPECS J: what is refused: READINGS of the class, all of the reference -/
theorem en00 : (E 0 = (0 : Int32)) = True := eq_true (by decide)
theorem en01 : (E 0 = (1 : Int32)) = False := eq_false (by decide)
theorem en02 : (E 0 = (2 : Int32)) = False := eq_false (by decide)
theorem en10 : (E 1 = (0 : Int32)) = False := eq_false (by decide)
theorem en11 : (E 1 = (1 : Int32)) = True := eq_true (by decide)
theorem en12 : (E 1 = (2 : Int32)) = False := eq_false (by decide)
theorem en20 : (E 2 = (0 : Int32)) = False := eq_false (by decide)
theorem en21 : (E 2 = (1 : Int32)) = False := eq_false (by decide)
theorem en22 : (E 2 = (2 : Int32)) = True := eq_true (by decide)
theorem E_rem2 : ∀ n, n < 101 → g_irem (E n) 2 = E (n % 2) := by decide +kernel
theorem E_r2 : ∀ n, n < 2 → ((E n = (0 : Int32)) ↔ n = 0) := by decide
theorem f118_lp {d e m : Nat} {A : AT} {H : HT} {x2 : Int32} {μ : SMem} (he : e < 8) (hc : CAo μ) (hH : HWF H) (h : ShC μ e H) (hw : WF A) (ht : TwC μ 3 A) (hk : hkt H = 2) (hm : hsz H = 2 * m) : ∀ k i, i + k = m → rn (d + 1) 118 22 [some (Sum.inr (Sum.inl (2))), some (Sum.inr (Sum.inl (53 + 2 * e))), some (Sum.inl (x2)), some (Sum.inl (E (2 * i)))] [] μ = some (Sum.inl (some (Sum.inl (if allF (fun i => okR A (hel H (2 * i)) && okB A (hel H (2 * i + 1))) i k = true then 0 else -13))), μ) := by
  have t8 := (hc.2.2.2.2.2.2.2.2.2.2.2 e he).2.1
  obtain ⟨x1, x2', x3, x4⟩ := h.2.1 hk
  have hn := hH.2.2.1
  intro k
  induction k with
  | zero =>
    intro i hi
    have : hsz H = 2 * i := by omega
    rw [st118_22]
    simp only [st118_0, st118_1, st118_2, st118_3, st118_4, st118_5, st118_6, st118_7, st118_8, st118_9, st118_10, st118_11, st118_12, st118_13, st118_14, st118_15, st118_16, st118_17, st118_18, st118_19, st118_20, st118_21, st118_23, st118_24, st118_25, st118_26, st118_27, st118_28, st118_29, st118_30, st118_31, st118_32, st118_33, st118_34, st118_35, st118_36, st118_37, st118_38, st118_39, st118_40, st118_41, st118_42, st118_43, st118_44, st118_45, st118_46, st118_47, t8, x4, this, Int32.le_refl, if_true, allF]
  | succ k ih =>
    intro i hi
    have hcc : ¬ E (hsz H) ≤ E (2 * i) := by rw [E_le (by omega) (by omega)]; omega
    have cc : 0 ≤ E (2 * i) ∧ E (2 * i) < E (hsz H) := (inr (by omega) (by omega)).mpr (by omega)
    have cc1 : 0 ≤ E (2 * i + 1) ∧ E (2 * i + 1) < E (hsz H) := (inr (by omega) (by omega)).mpr (by omega)
    have e1 : E (2 * i) + 1 = E (2 * i + 1) := E_add (2 * i) 1
    have e2 : E (2 * i) + 2 = E (2 * (i + 1)) := E_add (2 * i) 2
    rw [st118_22]
    rw [allF_s]
    by_cases c : 0 ≤ hel H (2 * i) ∧ hel H (2 * i) < E (rcA A)
    · obtain ⟨r, hr, hrr⟩ := E_of c.1 c.2 (by have := hw.2.1; omega)
      have hg := (ht.2.2.2.2.2 r hr).1
      have ok1 : okR A (hel H (2 * i)) = true := by unfold okR; exact decide_eq_true c
      have cR : 0 ≤ E r ∧ E r < E (rcA A) := by rw [← hrr]; exact c
      by_cases c2 : 0 ≤ hel H (2 * i + 1) ∧ hel H (2 * i + 1) < E (bcA A)
      · have ok2 : okB A (hel H (2 * i + 1)) = true := by unfold okB; exact decide_eq_true c2
        have e0 : (3 + 3 + 3 * (hel H (2 * i + 1)).toNatClampNeg = 0) = False := eq_false (by omega)
        simp only [st118_0, st118_1, st118_2, st118_3, st118_4, st118_5, st118_6, st118_7, st118_8, st118_9, st118_10, st118_11, st118_12, st118_13, st118_14, st118_15, st118_16, st118_17, st118_18, st118_19, st118_20, st118_21, st118_23, st118_24, st118_25, st118_26, st118_27, st118_28, st118_29, st118_30, st118_31, st118_32, st118_33, st118_34, st118_35, st118_36, st118_37, st118_38, st118_39, st118_40, st118_41, st118_42, st118_43, st118_44, st118_45, st118_46, st118_47, t8, x4, hcc, hc.1, hc.2.1, f57 he hc hH h hk, cc, cc1, E_n (show 2 * i < 1000 by omega), E_n (show 2 * i + 1 < 1000 by omega), ht.1.1, f68 hw ht, f67 hw ht, hrr, cR, E_n (show r < 1000 by have := hw.2.1; omega), hg, e1, c2, e0, e2, aft_some, Option.toList_some, Option.toList_none, List.cons_append, List.nil_append, br0, br1, br2, br3, zr01, zr02, n10, n01, ne_eq, not_true_eq_false, not_false_eq_true, if_true, if_false, true_and, and_true, and_self]
        rw [ih (i + 1) (by omega)]
        simp only [ok1, ok2, Bool.true_and, Bool.and_self, ← hrr]
      · have ok2 : okB A (hel H (2 * i + 1)) = false := by unfold okB; exact decide_eq_false c2
        simp only [st118_0, st118_1, st118_2, st118_3, st118_4, st118_5, st118_6, st118_7, st118_8, st118_9, st118_10, st118_11, st118_12, st118_13, st118_14, st118_15, st118_16, st118_17, st118_18, st118_19, st118_20, st118_21, st118_23, st118_24, st118_25, st118_26, st118_27, st118_28, st118_29, st118_30, st118_31, st118_32, st118_33, st118_34, st118_35, st118_36, st118_37, st118_38, st118_39, st118_40, st118_41, st118_42, st118_43, st118_44, st118_45, st118_46, st118_47, t8, x4, hcc, hc.1, hc.2.1, f57 he hc hH h hk, cc, cc1, E_n (show 2 * i < 1000 by omega), E_n (show 2 * i + 1 < 1000 by omega), ht.1.1, f68 hw ht, f67 hw ht, hrr, cR, E_n (show r < 1000 by have := hw.2.1; omega), hg, e1, c2, aft_some, Option.toList_some, Option.toList_none, List.cons_append, List.nil_append, br0, br1, br2, br3, zr01, zr02, n10, n01, ne_eq, not_true_eq_false, not_false_eq_true, if_true, if_false, true_and, and_true, and_self]
        simp only [ok1, ok2, Bool.and_false, Bool.false_and, if_false, Bool.false_eq_true]
    · have ok1 : okR A (hel H (2 * i)) = false := by unfold okR; exact decide_eq_false c
      simp only [st118_0, st118_1, st118_2, st118_3, st118_4, st118_5, st118_6, st118_7, st118_8, st118_9, st118_10, st118_11, st118_12, st118_13, st118_14, st118_15, st118_16, st118_17, st118_18, st118_19, st118_20, st118_21, st118_23, st118_24, st118_25, st118_26, st118_27, st118_28, st118_29, st118_30, st118_31, st118_32, st118_33, st118_34, st118_35, st118_36, st118_37, st118_38, st118_39, st118_40, st118_41, st118_42, st118_43, st118_44, st118_45, st118_46, st118_47, t8, x4, hcc, hc.1, hc.2.1, f57 he hc hH h hk, cc, E_n (show 2 * i < 1000 by omega), ht.1.1, f68 hw ht, c, aft_some, Option.toList_some, Option.toList_none, List.cons_append, List.nil_append, br0, br1, br2, br3, zr01, zr02, n10, n01, ne_eq, not_true_eq_false, not_false_eq_true, if_true, if_false, true_and, and_true, and_self]
      simp only [ok1, Bool.false_and, if_false, Bool.false_eq_true]
theorem f118 {d e : Nat} {A : AT} {H : HT} {μ : SMem} (he : e < 8) (hc : CAo μ) (hH : HWF H) (h : ShC μ e H) (hw : WF A) (ht : TwC μ 3 A) : cl (d + 3) 118 [Sum.inr (Sum.inl (2)), Sum.inr (Sum.inl (53 + 2 * e))] μ = some (Sum.inl (some (Sum.inl (rfRd A H))), μ) := by
  have t8 := (hc.2.2.2.2.2.2.2.2.2.2.2 e he).2.1
  have h115 := fun d => f115 (d := d) he hc hH h
  have e0 : (53 + 2 * e = 0) = False := eq_false (by omega)
  show rn (d + 3) 118 0 [some (Sum.inr (Sum.inl (2))), some (Sum.inr (Sum.inl (53 + 2 * e))), none, none] [] μ = _
  unfold rfRd
  by_cases hb : rfB H = 0
  · obtain ⟨k2, k0⟩ := rfB_0 hb
    obtain ⟨x1, x2', x3, x4⟩ := h.2.1 k2
    have hn := hH.2.2.1
    have c6 : (E (hsz H) ≤ (24 : Int32)) = (hsz H ≤ 24) := by rw [show (24 : Int32) = E 24 from rfl, E_leE (by omega) (by decide)]
    have n20 : ((2 : Int32) = 0) = False := eq_false (by decide)
    by_cases c : hsz H % 2 = 0
    · have hlp := f118_lp (d := d + 2) (m := hsz H / 2) (x2 := 0) he hc hH h hw ht k2 (by omega) (hsz H / 2) 0 (by omega)
      by_cases c2 : hsz H ≤ 24
      · have c' : ¬ 24 < hsz H := by omega
        simp only [st118_0, st118_1, st118_2, st118_3, st118_4, st118_5, st118_6, st118_7, st118_8, st118_9, st118_10, st118_11, st118_12, st118_13, st118_14, st118_15, st118_16, st118_17, st118_18, st118_19, st118_20, st118_21, h115, e0, hb, t8, x4, c6, n20, E_rem2 _ (show hsz H < 101 by omega), c, E_r2 _ (show hsz H % 2 < 2 by omega), en00, en01, en02, en10, en11, en12, en20, en21, en22, c2, c', or_self, aft_some, Option.toList_some, Option.toList_none, List.cons_append, List.nil_append, br0, br1, br2, br3, zr01, zr02, n10, n01, ne_eq, not_true_eq_false, not_false_eq_true, if_true, if_false, true_and, and_true, and_self]
        exact hlp
      · have c' : 24 < hsz H := by omega
        simp only [st118_0, st118_1, st118_2, st118_3, st118_4, st118_5, st118_6, st118_7, st118_8, st118_9, st118_10, st118_11, st118_12, st118_13, st118_14, st118_15, st118_16, st118_17, st118_18, st118_19, st118_20, st118_21, h115, e0, hb, t8, x4, c6, n20, E_rem2 _ (show hsz H < 101 by omega), c, E_r2 _ (show hsz H % 2 < 2 by omega), en00, en01, en02, en10, en11, en12, en20, en21, en22, c2, c', or_true, aft_some, Option.toList_some, Option.toList_none, List.cons_append, List.nil_append, br0, br1, br2, br3, zr01, zr02, n10, n01, ne_eq, not_true_eq_false, not_false_eq_true, if_true, if_false, true_and, and_true, and_self]
    · simp only [st118_0, st118_1, st118_2, st118_3, st118_4, st118_5, st118_6, st118_7, st118_8, st118_9, st118_10, st118_11, st118_12, st118_13, st118_14, st118_15, st118_16, st118_17, st118_18, st118_19, st118_20, st118_21, h115, e0, hb, t8, x4, c6, n20, E_rem2 _ (show hsz H < 101 by omega), c, E_r2 _ (show hsz H % 2 < 2 by omega), en00, en01, en02, en10, en11, en12, en20, en21, en22, true_or, aft_some, Option.toList_some, Option.toList_none, List.cons_append, List.nil_append, br0, br1, br2, br3, zr01, zr02, n10, n01, ne_eq, not_true_eq_false, not_false_eq_true, if_true, if_false, true_and, and_true, and_self]
  · simp only [st118_0, st118_1, st118_2, st118_3, st118_4, st118_5, st118_6, st118_7, st118_8, st118_9, st118_10, st118_11, st118_12, st118_13, st118_14, st118_15, st118_16, st118_17, st118_18, st118_19, st118_20, st118_21, h115, e0, hb, aft_some, Option.toList_some, Option.toList_none, List.cons_append, List.nil_append, br0, br1, br2, br3, zr01, zr02, n10, n01, ne_eq, not_true_eq_false, not_false_eq_true, if_true, if_false, true_and, and_true, and_self]
theorem f118n {d : Nat} {μ : SMem} : cl (d + 2) 118 [Sum.inr (Sum.inl (2)), Sum.inr (Sum.inl (0))] μ = some (Sum.inl (some (Sum.inl (-1))), μ) := by
  show rn (d + 2) 118 0 [some (Sum.inr (Sum.inl (2))), some (Sum.inr (Sum.inl (0))), none, none] [] μ = _
  simp [st118_0, st118_1, st118_2, st118_3, st118_4, st118_5, st118_6, st118_7, st118_8, st118_9, st118_10, st118_11, st118_12, st118_13, st118_14, st118_15, st118_16, st118_17, st118_18, st118_19, st118_20, st118_21, f115n, aft_some]
theorem Ekt : ∀ k, k < 3 → ((E k = (2 : Int32)) ↔ k = 2) ∧ ((E k = (1 : Int32)) ↔ k = 1) ∧ ((E k = (0 : Int32)) ↔ k = 0) := by decide +kernel
theorem E_lt8 {e : Nat} (he : e < 8) : (E e < 8) = True := eq_true ((E_lt (b := 8) (by omega) (by decide)).mpr he)
theorem f168b {d e : Nat} {H : HT} {μ : SMem} (he : e < 8) (hm : MA μ) (hH : HWF H) (h : ShM μ e H) : cl (d + 2) 168 [Sum.inr (Sum.inl (69)), Sum.inl (E e), Sum.inl (0)] μ = some (Sum.inl (some (Sum.inl (rfB H))), μ) := by
  obtain ⟨m1, m2, m3, m4, m5, m6, m7, m8, m9, m10, m11, m12, m13, m14, ⟨t0, t1, t2, t3, t4, t5, t6, t7, t8, t9, t10, t11, t12⟩, l0, l1, l2, l3, l4, l5, l6, l7, l8, l9, l10, l11, l12⟩ := hm
  obtain ⟨h1, h2, h3, h4⟩ := h
  obtain ⟨k2, k1, k0⟩ := Ekt _ hH.1
  show rn (d + 2) 168 0 [some (Sum.inr (Sum.inl (69))), some (Sum.inl (E e)), some (Sum.inl (0))] [] μ = _
  have hk : hkt H = 0 ∨ hkt H = 1 ∨ hkt H = 2 := by have := hH.1; omega
  unfold rfB
  rcases hk with k | k | k
  · simp only [st168_0, st168_1, st168_2, st168_3, st168_4, st168_5, st168_6, st168_7, st168_8, st168_9, st168_10, st168_11, st168_12, st168_13, st168_14, st168_15, st168_16, st168_17, st168_18, st168_19, st168_20, st168_21, st168_22, st168_23, st168_24, st168_25, st168_26, st168_27, st168_28, st168_29, f140, E_lt8 he, m1, m6, t4, l4, E_ge0 (show e < 1000 by omega), E_n (show e < 1000 by omega), he, h1, k, en00, en01, en02, en10, en11, en12, en20, en21, en22, aft_some, Option.toList_some, Option.toList_none, List.cons_append, List.nil_append, br0, br1, br2, br3, zr01, zr02, n10, n01, ne_eq, not_true_eq_false, not_false_eq_true, if_true, if_false, true_and, and_true, and_self]
  · simp only [st168_0, st168_1, st168_2, st168_3, st168_4, st168_5, st168_6, st168_7, st168_8, st168_9, st168_10, st168_11, st168_12, st168_13, st168_14, st168_15, st168_16, st168_17, st168_18, st168_19, st168_20, st168_21, st168_22, st168_23, st168_24, st168_25, st168_26, st168_27, st168_28, st168_29, f140, E_lt8 he, m1, m6, t4, l4, E_ge0 (show e < 1000 by omega), E_n (show e < 1000 by omega), he, h1, k, en00, en01, en02, en10, en11, en12, en20, en21, en22, aft_some, Option.toList_some, Option.toList_none, List.cons_append, List.nil_append, br0, br1, br2, br3, zr01, zr02, n10, n01, ne_eq, not_true_eq_false, not_false_eq_true, if_true, if_false, true_and, and_true, and_self]
    simp
  · obtain ⟨x1, x2⟩ := h2 k
    have z : ¬ ((0 : Int32) < 0) := by decide
    by_cases c : hso H = 0
    · simp only [st168_0, st168_1, st168_2, st168_3, st168_4, st168_5, st168_6, st168_7, st168_8, st168_9, st168_10, st168_11, st168_12, st168_13, st168_14, st168_15, st168_16, st168_17, st168_18, st168_19, st168_20, st168_21, st168_22, st168_23, st168_24, st168_25, st168_26, st168_27, st168_28, st168_29, f140, E_lt8 he, m1, m6, m7, t4, t5, l4, l5, E_ge0 (show e < 1000 by omega), E_n (show e < 1000 by omega), he, h1, k, en00, en01, en02, en10, en11, en12, en20, en21, en22, z, x1, Es3 _ hH.2.1, c, en00, en01, en02, en10, en11, en12, en20, en21, en22, aft_some, Option.toList_some, Option.toList_none, List.cons_append, List.nil_append, br0, br1, br2, br3, zr01, zr02, n10, n01, ne_eq, not_true_eq_false, not_false_eq_true, if_true, if_false, true_and, and_true, and_self]
      simp
    · simp only [st168_0, st168_1, st168_2, st168_3, st168_4, st168_5, st168_6, st168_7, st168_8, st168_9, st168_10, st168_11, st168_12, st168_13, st168_14, st168_15, st168_16, st168_17, st168_18, st168_19, st168_20, st168_21, st168_22, st168_23, st168_24, st168_25, st168_26, st168_27, st168_28, st168_29, f140, E_lt8 he, m1, m6, m7, t4, t5, l4, l5, E_ge0 (show e < 1000 by omega), E_n (show e < 1000 by omega), he, h1, k, en00, en01, en02, en10, en11, en12, en20, en21, en22, z, x1, Es3 _ hH.2.1, c, en00, en01, en02, en10, en11, en12, en20, en21, en22, aft_some, Option.toList_some, Option.toList_none, List.cons_append, List.nil_append, br0, br1, br2, br3, zr01, zr02, n10, n01, ne_eq, not_true_eq_false, not_false_eq_true, if_true, if_false, true_and, and_true, and_self]
      simp
theorem f168w {d e : Nat} {H : HT} {μ : SMem} (he : e < 8) (hm : MA μ) (hH : HWF H) (h : ShM μ e H) : cl (d + 2) 168 [Sum.inr (Sum.inl (69)), Sum.inl (E e), Sum.inl (-1)] μ = some (Sum.inl (some (Sum.inl (rfW H))), μ) := by
  obtain ⟨m1, m2, m3, m4, m5, m6, m7, m8, m9, m10, m11, m12, m13, m14, ⟨t0, t1, t2, t3, t4, t5, t6, t7, t8, t9, t10, t11, t12⟩, l0, l1, l2, l3, l4, l5, l6, l7, l8, l9, l10, l11, l12⟩ := hm
  obtain ⟨h1, h2, h3, h4⟩ := h
  obtain ⟨k2, k1, k0⟩ := Ekt _ hH.1
  show rn (d + 2) 168 0 [some (Sum.inr (Sum.inl (69))), some (Sum.inl (E e)), some (Sum.inl (-1))] [] μ = _
  have hk : hkt H = 0 ∨ hkt H = 1 ∨ hkt H = 2 := by have := hH.1; omega
  have z : ((-1 : Int32) < 0) = True := eq_true (by decide)
  unfold rfW
  rcases hk with k | k | k
  · simp only [st168_0, st168_1, st168_2, st168_3, st168_4, st168_5, st168_6, st168_7, st168_8, st168_9, st168_10, st168_11, st168_12, st168_13, st168_14, st168_15, st168_16, st168_17, st168_18, st168_19, st168_20, st168_21, st168_22, st168_23, st168_24, st168_25, st168_26, st168_27, st168_28, st168_29, f140, E_lt8 he, m1, m6, t4, l4, E_ge0 (show e < 1000 by omega), E_n (show e < 1000 by omega), he, h1, k, en00, en01, en02, en10, en11, en12, en20, en21, en22, aft_some, Option.toList_some, Option.toList_none, List.cons_append, List.nil_append, br0, br1, br2, br3, zr01, zr02, n10, n01, ne_eq, not_true_eq_false, not_false_eq_true, if_true, if_false, true_and, and_true, and_self]
  · simp only [st168_0, st168_1, st168_2, st168_3, st168_4, st168_5, st168_6, st168_7, st168_8, st168_9, st168_10, st168_11, st168_12, st168_13, st168_14, st168_15, st168_16, st168_17, st168_18, st168_19, st168_20, st168_21, st168_22, st168_23, st168_24, st168_25, st168_26, st168_27, st168_28, st168_29, f140, E_lt8 he, m1, m6, t4, l4, E_ge0 (show e < 1000 by omega), E_n (show e < 1000 by omega), he, h1, k, en00, en01, en02, en10, en11, en12, en20, en21, en22, aft_some, Option.toList_some, Option.toList_none, List.cons_append, List.nil_append, br0, br1, br2, br3, zr01, zr02, n10, n01, ne_eq, not_true_eq_false, not_false_eq_true, if_true, if_false, true_and, and_true, and_self]
    simp
  · simp only [st168_0, st168_1, st168_2, st168_3, st168_4, st168_5, st168_6, st168_7, st168_8, st168_9, st168_10, st168_11, st168_12, st168_13, st168_14, st168_15, st168_16, st168_17, st168_18, st168_19, st168_20, st168_21, st168_22, st168_23, st168_24, st168_25, st168_26, st168_27, st168_28, st168_29, f140, E_lt8 he, m1, m6, t4, l4, E_ge0 (show e < 1000 by omega), E_n (show e < 1000 by omega), he, h1, k, en00, en01, en02, en10, en11, en12, en20, en21, en22, z, aft_some, Option.toList_some, Option.toList_none, List.cons_append, List.nil_append, br0, br1, br2, br3, zr01, zr02, n10, n01, ne_eq, not_true_eq_false, not_false_eq_true, if_true, if_false, true_and, and_true, and_self]
    simp
theorem f168n {d : Nat} {x y : Int32} {μ : SMem} (hm : MA μ) (hx : ¬ (0 ≤ x ∧ x < 8)) : cl (d + 2) 168 [Sum.inr (Sum.inl (69)), Sum.inl (x), Sum.inl (y)] μ = some (Sum.inl (some (Sum.inl (-1))), μ) := by
  show rn (d + 2) 168 0 [some (Sum.inr (Sum.inl (69))), some (Sum.inl (x)), some (Sum.inl (y))] [] μ = _
  simp only [st168_0, st168_1, st168_2, st168_3, st168_4, st168_5, st168_6, st168_7, st168_8, st168_9, st168_10, st168_11, st168_12, st168_13, st168_14, st168_15, st168_16, st168_17, st168_18, st168_19, st168_20, st168_21, st168_22, st168_23, st168_24, st168_25, st168_26, st168_27, st168_28, st168_29, f140, hx, aft_some, Option.toList_some, Option.toList_none, List.cons_append, List.nil_append, br0, br1, br2, br3, zr01, zr02, n10, n01, ne_eq, not_true_eq_false, not_false_eq_true, if_true, if_false, true_and, and_true, and_self]
theorem ix100 (e i : Nat) : (100 : Int32) * E e + E i = E (100 * e + i) := by rw [show (100 : Int32) = E 100 from rfl, E_mul, E_add]
theorem ix101 (e i : Nat) : (100 : Int32) * E e + E i + 1 = E (100 * e + (i + 1)) := by rw [ix100, E_1, E_add]; rfl
theorem ix1p (e i : Nat) : E (100 * e + i) + 1 = E (100 * e + (i + 1)) := E_add _ 1
theorem f182_lp {d e : Nat} {A : AT} {H : HT} {x2 : Int32} {μ : SMem} (he : e < 8) (hm : MA μ) (hH : HWF H) (h : ShM μ e H) (hw : WF A) (ht : gi μ 70 1 = E (rcA A)) (hk : hkt H = 2) : ∀ k i, i + k = hsz H → rn (d + 2) 182 19 [some (Sum.inr (Sum.inl (69))), some (Sum.inl (E e)), some (Sum.inl (x2)), some (Sum.inl (E i))] [] μ = some (Sum.inl (some (Sum.inl (if allF (fun i => okR A (hel H i)) i k = true then 0 else -13))), μ) := by
  have hm0 := hm
  obtain ⟨m1, m2, m3, m4, m5, m6, m7, m8, m9, m10, m11, m12, m13, m14, ⟨t0, t1, t2, t3, t4, t5, t6, t7, t8, t9, t10, t11, t12⟩, l0, l1, l2, l3, l4, l5, l6, l7, l8, l9, l10, l11, l12⟩ := hm
  obtain ⟨y1, y2⟩ := h.2.1 hk
  have hn := hH.2.2.1
  intro k
  induction k with
  | zero =>
    intro i hi
    have : i = hsz H := by omega
    subst this
    rw [st182_19]
    simp only [st182_0, st182_1, st182_2, st182_3, st182_4, st182_5, st182_6, st182_7, st182_8, st182_9, st182_10, st182_11, st182_12, st182_13, st182_14, st182_15, st182_16, st182_17, st182_18, st182_20, st182_21, st182_22, st182_23, st182_24, st182_25, st182_26, st182_27, st182_28, st182_29, st182_30, st182_31, st182_32, st182_33, st182_34, st182_35, st182_36, st182_37, st182_38, st182_39, st182_40, st182_41, m1, m8, t6, l6, E_ge0 (show e < 1000 by omega), E_n (show e < 1000 by omega), he, and_self, y2, Int32.le_refl, if_true, allF]
  | succ k ih =>
    intro i hi
    have hcc : ¬ E (hsz H) ≤ E i := by rw [E_le (by omega) (by omega)]; omega
    rw [st182_19]
    rw [allF_s]
    simp only [st182_0, st182_1, st182_2, st182_3, st182_4, st182_5, st182_6, st182_7, st182_8, st182_9, st182_10, st182_11, st182_12, st182_13, st182_14, st182_15, st182_16, st182_17, st182_18, st182_20, st182_21, st182_22, st182_23, st182_24, st182_25, st182_26, st182_27, st182_28, st182_29, st182_30, st182_31, st182_32, st182_33, st182_34, st182_35, st182_36, st182_37, st182_38, st182_39, st182_40, st182_41, m1, m8, m9, t6, t7, l6, l7, E_ge0 (show e < 1000 by omega), E_n (show e < 1000 by omega), he, y2, hcc, ix100, E_ge0 (show 100 * e + i < 1000 by omega), E_n (show 100 * e + i < 1000 by omega), show 100 * e + i < 800 by omega, h.2.2.2 i (by omega), f142 hm0 hw ht, show E i + 1 = E (i + 1) from E_add i 1, aft_some, Option.toList_some, Option.toList_none, List.cons_append, List.nil_append, br0, br1, br2, br3, zr01, zr02, n10, n01, ne_eq, not_true_eq_false, not_false_eq_true, if_true, if_false, true_and, and_true, and_self]
    rw [ih (i + 1) (by omega)]
    by_cases c : 0 ≤ hel H i ∧ hel H i < E (rcA A)
    · have : okR A (hel H i) = true := by unfold okR; exact decide_eq_true c
      simp [c, this]
    · have : okR A (hel H i) = false := by unfold okR; exact decide_eq_false c
      simp only [c, this, if_false, Bool.false_and, Bool.false_eq_true, not_false_eq_true, not_true_eq_false]
theorem f182 {d e : Nat} {A : AT} {H : HT} {μ : SMem} (he : e < 8) (hm : MA μ) (hH : HWF H) (h : ShM μ e H) (hw : WF A) (ht : gi μ 70 1 = E (rcA A)) : cl (d + 3) 182 [Sum.inr (Sum.inl (69)), Sum.inl (E e)] μ = some (Sum.inl (some (Sum.inl (rfRs A H))), μ) := by
  have hm0 := hm
  have h168 := fun d => f168b (d := d) he hm hH h
  obtain ⟨m1, m2, m3, m4, m5, m6, m7, m8, m9, m10, m11, m12, m13, m14, ⟨t0, t1, t2, t3, t4, t5, t6, t7, t8, t9, t10, t11, t12⟩, l0, l1, l2, l3, l4, l5, l6, l7, l8, l9, l10, l11, l12⟩ := hm
  show rn (d + 3) 182 0 [some (Sum.inr (Sum.inl (69))), some (Sum.inl (E e)), none, none] [] μ = _
  unfold rfRs
  by_cases hb : rfB H = 0
  · obtain ⟨k2, k0⟩ := rfB_0 hb
    obtain ⟨y1, y2⟩ := h.2.1 k2
    have hn := hH.2.2.1
    have c6 : (E (hsz H) ≤ (6 : Int32)) = (hsz H ≤ 6) := by rw [show (6 : Int32) = E 6 from rfl, E_leE (by omega) (by decide)]
    have hlp := f182_lp (d := d + 1) (x2 := 0) he hm0 hH h hw ht k2 (hsz H) 0 (by omega)
    by_cases c : hsz H ≤ 6
    · have c' : ¬ 6 < hsz H := by omega
      simp only [st182_0, st182_1, st182_2, st182_3, st182_4, st182_5, st182_6, st182_7, st182_8, st182_9, st182_10, st182_11, st182_12, st182_13, st182_14, st182_15, st182_16, st182_17, st182_18, m1, h168, hb, m8, t6, l6, E_ge0 (show e < 1000 by omega), E_n (show e < 1000 by omega), he, y2, c6, c, c', aft_some, Option.toList_some, Option.toList_none, List.cons_append, List.nil_append, br0, br1, br2, br3, zr01, zr02, n10, n01, ne_eq, not_true_eq_false, not_false_eq_true, if_true, if_false, true_and, and_true, and_self]
      exact hlp
    · have c' : 6 < hsz H := by omega
      simp only [st182_0, st182_1, st182_2, st182_3, st182_4, st182_5, st182_6, st182_7, st182_8, st182_9, st182_10, st182_11, st182_12, st182_13, st182_14, st182_15, st182_16, st182_17, st182_18, m1, h168, hb, m8, t6, l6, E_ge0 (show e < 1000 by omega), E_n (show e < 1000 by omega), he, y2, c6, c, c', aft_some, Option.toList_some, Option.toList_none, List.cons_append, List.nil_append, br0, br1, br2, br3, zr01, zr02, n10, n01, ne_eq, not_true_eq_false, not_false_eq_true, if_true, if_false, true_and, and_true, and_self]
  · simp only [st182_0, st182_1, st182_2, st182_3, st182_4, st182_5, st182_6, st182_7, st182_8, st182_9, st182_10, st182_11, st182_12, st182_13, st182_14, st182_15, st182_16, st182_17, st182_18, m1, h168, hb, aft_some, Option.toList_some, Option.toList_none, List.cons_append, List.nil_append, br0, br1, br2, br3, zr01, zr02, n10, n01, ne_eq, not_true_eq_false, not_false_eq_true, if_true, if_false, true_and, and_true, and_self]
theorem f182n {d : Nat} {x : Int32} {μ : SMem} (hm : MA μ) (hx : ¬ (0 ≤ x ∧ x < 8)) : cl (d + 3) 182 [Sum.inr (Sum.inl (69)), Sum.inl (x)] μ = some (Sum.inl (some (Sum.inl (-1))), μ) := by
  have m1 := hm.1
  show rn (d + 3) 182 0 [some (Sum.inr (Sum.inl (69))), some (Sum.inl (x)), none, none] [] μ = _
  simp only [st182_0, st182_1, st182_2, st182_3, st182_4, st182_5, st182_6, st182_7, st182_8, st182_9, st182_10, st182_11, st182_12, st182_13, st182_14, st182_15, st182_16, st182_17, st182_18, m1, f168n hm hx, aft_some, Option.toList_some, Option.toList_none, List.cons_append, List.nil_append, br0, br1, br2, br3, zr01, zr02, n10, n01, ne_eq, not_true_eq_false, not_false_eq_true, if_true, if_false, true_and, and_true, and_self]
  simp
theorem f181_lp {d e m : Nat} {A : AT} {H : HT} {S : Nat → Nat} {x2 : Int32} {μ : SMem} (he : e < 8) (hm : MA μ) (hH : HWF H) (h : ShM μ e H) (hw : WF A) (ht : MQr (gi μ 70) A S) (hk : hkt H = 2) (h2m : hsz H = 2 * m) : ∀ k i, i + k = m → rn (d + 3) 181 26 [some (Sum.inr (Sum.inl (69))), some (Sum.inl (E e)), some (Sum.inl (x2)), some (Sum.inl (E (2 * i)))] [] μ = some (Sum.inl (some (Sum.inl (if allF (fun i => okR A (hel H (2 * i)) && okB A (hel H (2 * i + 1))) i k = true then 0 else -13))), μ) := by
  have hm0 := hm
  obtain ⟨m1, m2, m3, m4, m5, m6, m7, m8, m9, m10, m11, m12, m13, m14, ⟨t0, t1, t2, t3, t4, t5, t6, t7, t8, t9, t10, t11, t12⟩, l0, l1, l2, l3, l4, l5, l6, l7, l8, l9, l10, l11, l12⟩ := hm
  obtain ⟨y1, y2⟩ := h.2.1 hk
  have hn := hH.2.2.1
  intro k
  induction k with
  | zero =>
    intro i hi
    have : hsz H = 2 * i := by omega
    rw [st181_26]
    simp only [st181_0, st181_1, st181_2, st181_3, st181_4, st181_5, st181_6, st181_7, st181_8, st181_9, st181_10, st181_11, st181_12, st181_13, st181_14, st181_15, st181_16, st181_17, st181_18, st181_19, st181_20, st181_21, st181_22, st181_23, st181_24, st181_25, st181_27, st181_28, st181_29, st181_30, st181_31, st181_32, st181_33, st181_34, st181_35, st181_36, st181_37, st181_38, st181_39, st181_40, st181_41, st181_42, st181_43, st181_44, st181_45, st181_46, st181_47, st181_48, st181_49, st181_50, st181_51, st181_52, st181_53, st181_54, st181_55, st181_56, st181_57, st181_58, m1, m8, t6, l6, E_ge0 (show e < 1000 by omega), E_n (show e < 1000 by omega), he, and_self, y2, this, Int32.le_refl, if_true, allF]
  | succ k ih =>
    intro i hi
    have hcc : ¬ E (hsz H) ≤ E (2 * i) := by rw [E_le (by omega) (by omega)]; omega
    have e2 : E (2 * i) + 2 = E (2 * (i + 1)) := E_add (2 * i) 2
    rw [st181_26]
    rw [allF_s]
    simp only [st181_0, st181_1, st181_2, st181_3, st181_4, st181_5, st181_6, st181_7, st181_8, st181_9, st181_10, st181_11, st181_12, st181_13, st181_14, st181_15, st181_16, st181_17, st181_18, st181_19, st181_20, st181_21, st181_22, st181_23, st181_24, st181_25, st181_27, st181_28, st181_29, st181_30, st181_31, st181_32, st181_33, st181_34, st181_35, st181_36, st181_37, st181_38, st181_39, st181_40, st181_41, st181_42, st181_43, st181_44, st181_45, st181_46, st181_47, st181_48, st181_49, st181_50, st181_51, st181_52, st181_53, st181_54, st181_55, st181_56, st181_57, st181_58, m1, m8, m9, t6, t7, l6, l7, E_ge0 (show e < 1000 by omega), E_n (show e < 1000 by omega), he, y2, hcc, ix100, ix1p, E_ge0 (show 100 * e + 2 * i < 1000 by omega), E_n (show 100 * e + 2 * i < 1000 by omega), show 100 * e + 2 * i < 800 by omega, E_ge0 (show 100 * e + (2 * i + 1) < 1000 by omega), E_n (show 100 * e + (2 * i + 1) < 1000 by omega), show 100 * e + (2 * i + 1) < 800 by omega, h.2.2.2 (2 * i) (by omega), h.2.2.2 (2 * i + 1) (by omega), f176 hm0 hw ht, e2, aft_some, Option.toList_some, Option.toList_none, List.cons_append, List.nil_append, br0, br1, br2, br3, zr01, zr02, n10, n01, ne_eq, not_true_eq_false, not_false_eq_true, if_true, if_false, true_and, and_true, and_self]
    rw [ih (i + 1) (by omega)]
    by_cases c : 0 ≤ hel H (2 * i) ∧ hel H (2 * i) < E (rcA A)
    · have ok1 : okR A (hel H (2 * i)) = true := by unfold okR; exact decide_eq_true c
      by_cases c2 : 0 ≤ hel H (2 * i + 1) ∧ hel H (2 * i + 1) < E (bcA A)
      · have ok2 : okB A (hel H (2 * i + 1)) = true := by unfold okB; exact decide_eq_true c2
        simp only [c, c2, ok1, ok2, and_self, if_true, Bool.and_self, Bool.true_and, not_false_eq_true, not_true_eq_false, if_false]
      · have ok2 : okB A (hel H (2 * i + 1)) = false := by unfold okB; exact decide_eq_false c2
        simp only [c, c2, ok1, ok2, and_false, if_false, Bool.and_false, Bool.false_and, Bool.false_eq_true, not_false_eq_true, not_true_eq_false]
    · have ok1 : okR A (hel H (2 * i)) = false := by unfold okR; exact decide_eq_false c
      simp only [c, ok1, false_and, if_false, Bool.false_and, Bool.false_eq_true, not_false_eq_true, not_true_eq_false]
theorem f181 {d e : Nat} {A : AT} {H : HT} {S : Nat → Nat} {μ : SMem} (he : e < 8) (hm : MA μ) (hH : HWF H) (h : ShM μ e H) (hw : WF A) (ht : MQr (gi μ 70) A S) : cl (d + 3) 181 [Sum.inr (Sum.inl (69)), Sum.inl (E e)] μ = some (Sum.inl (some (Sum.inl (rfRd A H))), μ) := by
  have hm0 := hm
  have h168 := fun d => f168b (d := d) he hm hH h
  obtain ⟨m1, m2, m3, m4, m5, m6, m7, m8, m9, m10, m11, m12, m13, m14, ⟨t0, t1, t2, t3, t4, t5, t6, t7, t8, t9, t10, t11, t12⟩, l0, l1, l2, l3, l4, l5, l6, l7, l8, l9, l10, l11, l12⟩ := hm
  show rn (d + 3) 181 0 [some (Sum.inr (Sum.inl (69))), some (Sum.inl (E e)), none, none] [] μ = _
  unfold rfRd
  by_cases hb : rfB H = 0
  · obtain ⟨k2, k0⟩ := rfB_0 hb
    obtain ⟨y1, y2⟩ := h.2.1 k2
    have hn := hH.2.2.1
    have c6 : (E (hsz H) ≤ (24 : Int32)) = (hsz H ≤ 24) := by rw [show (24 : Int32) = E 24 from rfl, E_leE (by omega) (by decide)]
    have n20 : ((2 : Int32) = 0) = False := eq_false (by decide)
    by_cases c : hsz H % 2 = 0
    · have hlp := f181_lp (d := d) (m := hsz H / 2) (x2 := 0) he hm0 hH h hw ht k2 (by omega) (hsz H / 2) 0 (by omega)
      by_cases c2 : hsz H ≤ 24
      · have c' : ¬ 24 < hsz H := by omega
        simp only [st181_0, st181_1, st181_2, st181_3, st181_4, st181_5, st181_6, st181_7, st181_8, st181_9, st181_10, st181_11, st181_12, st181_13, st181_14, st181_15, st181_16, st181_17, st181_18, st181_19, st181_20, st181_21, st181_22, st181_23, st181_24, st181_25, m1, h168, hb, m8, t6, l6, E_ge0 (show e < 1000 by omega), E_n (show e < 1000 by omega), he, y2, c6, n20, E_rem2 _ (show hsz H < 101 by omega), c, E_r2 _ (show hsz H % 2 < 2 by omega), en00, en01, en02, en10, en11, en12, en20, en21, en22, c2, c', or_self, aft_some, Option.toList_some, Option.toList_none, List.cons_append, List.nil_append, br0, br1, br2, br3, zr01, zr02, n10, n01, ne_eq, not_true_eq_false, not_false_eq_true, if_true, if_false, true_and, and_true, and_self]
        exact hlp
      · have c' : 24 < hsz H := by omega
        simp only [st181_0, st181_1, st181_2, st181_3, st181_4, st181_5, st181_6, st181_7, st181_8, st181_9, st181_10, st181_11, st181_12, st181_13, st181_14, st181_15, st181_16, st181_17, st181_18, st181_19, st181_20, st181_21, st181_22, st181_23, st181_24, st181_25, m1, h168, hb, m8, t6, l6, E_ge0 (show e < 1000 by omega), E_n (show e < 1000 by omega), he, y2, c6, n20, E_rem2 _ (show hsz H < 101 by omega), c, E_r2 _ (show hsz H % 2 < 2 by omega), en00, en01, en02, en10, en11, en12, en20, en21, en22, c2, c', or_true, aft_some, Option.toList_some, Option.toList_none, List.cons_append, List.nil_append, br0, br1, br2, br3, zr01, zr02, n10, n01, ne_eq, not_true_eq_false, not_false_eq_true, if_true, if_false, true_and, and_true, and_self]
    · simp only [st181_0, st181_1, st181_2, st181_3, st181_4, st181_5, st181_6, st181_7, st181_8, st181_9, st181_10, st181_11, st181_12, st181_13, st181_14, st181_15, st181_16, st181_17, st181_18, st181_19, st181_20, st181_21, st181_22, st181_23, st181_24, st181_25, m1, h168, hb, m8, t6, l6, E_ge0 (show e < 1000 by omega), E_n (show e < 1000 by omega), he, y2, c6, n20, E_rem2 _ (show hsz H < 101 by omega), c, E_r2 _ (show hsz H % 2 < 2 by omega), en00, en01, en02, en10, en11, en12, en20, en21, en22, true_or, aft_some, Option.toList_some, Option.toList_none, List.cons_append, List.nil_append, br0, br1, br2, br3, zr01, zr02, n10, n01, ne_eq, not_true_eq_false, not_false_eq_true, if_true, if_false, true_and, and_true, and_self]
  · simp only [st181_0, st181_1, st181_2, st181_3, st181_4, st181_5, st181_6, st181_7, st181_8, st181_9, st181_10, st181_11, st181_12, st181_13, st181_14, st181_15, st181_16, st181_17, st181_18, st181_19, st181_20, st181_21, st181_22, st181_23, st181_24, st181_25, m1, h168, hb, aft_some, Option.toList_some, Option.toList_none, List.cons_append, List.nil_append, br0, br1, br2, br3, zr01, zr02, n10, n01, ne_eq, not_true_eq_false, not_false_eq_true, if_true, if_false, true_and, and_true, and_self]
theorem f181n {d : Nat} {x : Int32} {μ : SMem} (hm : MA μ) (hx : ¬ (0 ≤ x ∧ x < 8)) : cl (d + 3) 181 [Sum.inr (Sum.inl (69)), Sum.inl (x)] μ = some (Sum.inl (some (Sum.inl (-1))), μ) := by
  have m1 := hm.1
  show rn (d + 3) 181 0 [some (Sum.inr (Sum.inl (69))), some (Sum.inl (x)), none, none] [] μ = _
  simp only [st181_0, st181_1, st181_2, st181_3, st181_4, st181_5, st181_6, st181_7, st181_8, st181_9, st181_10, st181_11, st181_12, st181_13, st181_14, st181_15, st181_16, st181_17, st181_18, st181_19, st181_20, st181_21, st181_22, st181_23, st181_24, st181_25, m1, f168n hm hx, aft_some, Option.toList_some, Option.toList_none, List.cons_append, List.nil_append, br0, br1, br2, br3, zr01, zr02, n10, n01, ne_eq, not_true_eq_false, not_false_eq_true, if_true, if_false, true_and, and_true, and_self]
  simp
theorem f220 {d e : Nat} {H : HT} {μ : SMem} (he : e < 8) (hm : MA μ) (hH : HWF H) (h : ShM μ e H) : cl (d + 2) 220 [Sum.inr (Sum.inl (69)), Sum.inl (E e)] μ = some (Sum.inl (some (Sum.inl (rfK H))), μ) := by
  obtain ⟨m1, m2, m3, m4, m5, m6, m7, m8, m9, m10, m11, m12, m13, m14, ⟨t0, t1, t2, t3, t4, t5, t6, t7, t8, t9, t10, t11, t12⟩, l0, l1, l2, l3, l4, l5, l6, l7, l8, l9, l10, l11, l12⟩ := hm
  obtain ⟨h1, h2, h3, h4⟩ := h
  obtain ⟨k2, k1, k0⟩ := Ekt _ hH.1
  show rn (d + 2) 220 0 [some (Sum.inr (Sum.inl (69))), some (Sum.inl (E e))] [] μ = _
  unfold rfK
  simp only [st220_0, st220_1, st220_2, st220_3, st220_4, st220_5, st220_6, st220_7, st220_8, st220_9, st220_10, st220_11, st220_12, st220_13, st220_14, st220_15, st220_16, st220_17, st220_18, st220_19, st220_20, st220_21, f140, E_lt8 he, m1, m6, t4, l4, E_ge0 (show e < 1000 by omega), E_n (show e < 1000 by omega), he, h1, k0, k1, aft_some, Option.toList_some, Option.toList_none, List.cons_append, List.nil_append, br0, br1, br2, br3, zr01, zr02, n10, n01, ne_eq, not_true_eq_false, not_false_eq_true, if_true, if_false, true_and, and_true, and_self]
  by_cases c0 : hkt H = 0
  · simp [c0]
  · by_cases c1 : hkt H = 1 <;> simp [c0, c1]
theorem f220n {d : Nat} {x : Int32} {μ : SMem} (hm : MA μ) (hx : ¬ (0 ≤ x ∧ x < 8)) : cl (d + 2) 220 [Sum.inr (Sum.inl (69)), Sum.inl (x)] μ = some (Sum.inl (some (Sum.inl (-1))), μ) := by
  have m1 := hm.1
  show rn (d + 2) 220 0 [some (Sum.inr (Sum.inl (69))), some (Sum.inl (x))] [] μ = _
  simp only [st220_0, st220_1, st220_2, st220_3, st220_4, st220_5, st220_6, st220_7, st220_8, st220_9, st220_10, st220_11, st220_12, st220_13, st220_14, st220_15, st220_16, st220_17, st220_18, st220_19, st220_20, st220_21, f140, hx, aft_some, Option.toList_some, Option.toList_none, List.cons_append, List.nil_append, br0, br1, br2, br3, zr01, zr02, n10, n01, ne_eq, not_true_eq_false, not_false_eq_true, if_true, if_false, true_and, and_true, and_self]
theorem isin01 (x : Int32) : (x.toInt64 ≤ (1 : Int64)) = (x ≤ 1) := l_le x 1
theorem isin2 (x : Int32) : (x.toInt64 ≤ (2 : Int64)) = (x ≤ 2) := l_le x 2
theorem isin7 (x : Int32) : (x.toInt64 ≤ (7 : Int64)) = (x ≤ 7) := l_le x 7
theorem isin9 (x : Int32) : (x.toInt64 ≤ (9 : Int64)) = (x ≤ 9) := l_le x 9
theorem f195 {d : Nat} {x y : Int32} {μ : SMem} : cl (d + 1) 195 [Sum.inl (x), Sum.inl (y)] μ = some (Sum.inl (some (Sum.inl (if (0 ≤ x ∧ x ≤ 7) ∧ 0 ≤ y ∧ y ≤ 9 then 1 else 0))), μ) := by
  show rn (d + 1) 195 0 [some (Sum.inl (x)), some (Sum.inl (y))] [] μ = _
  simp only [st195_0, st195_1, st195_2, st195_3, st195_4, st195_5, st195_6, st195_7, st195_8, st195_9, st195_10, st195_11, st195_12, st195_13, st195_14, st195_15, f139, l_ge0, isin7, isin9, aft_some, Option.toList_some, Option.toList_none, List.cons_append, List.nil_append, br0, br1, br2, br3, zr01, zr02]
  by_cases c1 : 0 ≤ x ∧ x ≤ 7 <;> by_cases c2 : 0 ≤ y ∧ y ≤ 9 <;> simp [c1, c2]
theorem f190 {d e : Nat} {x w : Int32} {A : AT} {H : HT} {μ : SMem} (he : e < 8) (hm : MA μ) (hH : HWF H) (h : ShM μ e H) (hw : WF A) (ht : gi μ 70 1 = E (rcA A)) (h0 : gi μ 70 0 = E (bcA A)) : cl (d + 4) 190 [Sum.inr (Sum.inl (69)), Sum.inl (x), Sum.inl (E e), Sum.inl (w)] μ = some (Sum.inl (some (Sum.inl (if (0 ≤ x ∧ x < E (bcA A)) ∧ 0 ≤ w ∧ w ≤ 1 then rfRs A H else -1))), μ) := by
  have m1 := hm.1
  show rn (d + 4) 190 0 [some (Sum.inr (Sum.inl (69))), some (Sum.inl (x)), some (Sum.inl (E e)), some (Sum.inl (w))] [] μ = _
  simp only [st190_0, st190_1, st190_2, st190_3, st190_4, st190_5, st190_6, st190_7, st190_8, st190_9, st190_10, st190_11, st190_12, st190_13, st190_14, st190_15, st190_16, st190_17, st190_18, m1, f141 hm hw h0, f140, E_ge0 (show e < 1000 by omega), E_lt8 he, f139, l_ge0, isin01, f182 he hm hH h hw ht, aft_some, Option.toList_some, Option.toList_none, List.cons_append, List.nil_append, br0, br1, br2, br3, zr01, zr02, n10, n01, ne_eq, not_true_eq_false, not_false_eq_true, if_true, if_false, true_and, and_true, and_self]
  by_cases c1 : 0 ≤ x ∧ x < E (bcA A) <;> by_cases c2 : 0 ≤ w ∧ w ≤ 1 <;> simp [c1, c2]
theorem f190n {d : Nat} {x y w : Int32} {A : AT} {μ : SMem} (hm : MA μ) (hw : WF A) (h0 : gi μ 70 0 = E (bcA A)) (hy : ¬ (0 ≤ y ∧ y < 8)) : cl (d + 4) 190 [Sum.inr (Sum.inl (69)), Sum.inl (x), Sum.inl (y), Sum.inl (w)] μ = some (Sum.inl (some (Sum.inl (-1))), μ) := by
  have m1 := hm.1
  show rn (d + 4) 190 0 [some (Sum.inr (Sum.inl (69))), some (Sum.inl (x)), some (Sum.inl (y)), some (Sum.inl (w))] [] μ = _
  simp only [st190_0, st190_1, st190_2, st190_3, st190_4, st190_5, st190_6, st190_7, st190_8, st190_9, st190_10, st190_11, st190_12, st190_13, st190_14, st190_15, st190_16, st190_17, st190_18, m1, f141 hm hw h0, f140, hy, aft_some, Option.toList_some, Option.toList_none, List.cons_append, List.nil_append, br0, br1, br2, br3, zr01, zr02, n10, n01, ne_eq, not_true_eq_false, not_false_eq_true, if_true, if_false, true_and, and_true, and_self]
  by_cases c1 : 0 ≤ x ∧ x < E (bcA A) <;> simp [c1]
