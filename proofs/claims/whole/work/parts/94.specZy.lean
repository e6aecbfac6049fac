/-! SPECS ZY: a statement done, the class -/
theorem f71z {d T : Nat} {μ : SMem} : cl d 71 [Sum.inr (Sum.inl (T)), Sum.inr (Sum.inl (0))] μ = some (Sum.inl (some (Sum.inl (0))), μ) := by
  show rn d 71 0 [some (Sum.inr (Sum.inl (T))), some (Sum.inr (Sum.inl (0)))] [] μ = _
  simp only [st71_0, st71_1, st71_2, st71_3, st71_4, st71_5, st71_6, st71_7, st71_8, st71_9, st71_10, st71_11, st71_12, st71_13, st71_14, st71_15, st71_16, st71_17, st71_18, st71_19, st71_20, st71_21, true_or, aft_some, Option.toList_some, Option.toList_none, List.cons_append, List.nil_append, br0, br1, br2, br3, zr01, zr02, n10, n01, ne_eq, not_true_eq_false, not_false_eq_true, if_true, if_false, true_and, and_true, and_self]
theorem f69 {d e i c x y z : Nat} {T : Nat} {A : AT} {H : HT} {μ : SMem} (hT3 : 3 ≤ T) (he : e < 8) (hc : CAo μ) (hH : HWF H) (hC : ShC μ e H) (hk : hkt H = 2) (hw : WF A) (ht : TwC μ T A) (h2 : 2 ≤ sz μ) (hu : ∀ c, sz μ ≤ c → tg μ c = 99) (hi : i + 2 < hsz H) (hx : x < 10) (hy : y < 10) (hz : z < 10) (ec : hel H i = E c) (ex : hel H (i + 1) = E (48 + x)) (ey : c ≠ 98 → hel H (i + 2) = E (48 + y)) (ez : c = 110 → i + 3 < hsz H ∧ hel H (i + 3) = E (48 + z)) (hcc : c = 98 ∨ c = 110 ∨ c = 111 ∨ c = 114 ∨ c = 120) : ∃ μ', cl (d + 6) 69 [Sum.inr (Sum.inl (T)), Sum.inr (Sum.inl (53 + 2 * e)), Sum.inl (E i)] μ = some (Sum.inl (some (Sum.inl (if (stD A c x y z).isSome = true then 1 else 0))), μ') ∧ SG (fun c j => T ≤ c ∧ c ≤ T + 14) (fun c j => c = T + 2) μ μ' ∧ (sz μ' ≤ sz μ + 1 ∧ sl μ' ≤ sl μ + 1) ∧ (∀ A', stD A c x y z = some A' → TwC μ' T A') ∧ TwS μ' T := by
  have hn := hH.2.2.1
  have w1 := hw.1
  have w2 := hw.2.1
  have c1 : (0 ≤ E (i + 1) ∧ E (i + 1) < E (hsz H)) = True := eq_true ((inr (by omega) (by omega)).mpr (by omega))
  have c2 : (0 ≤ E (i + 2) ∧ E (i + 2) < E (hsz H)) = True := eq_true ((inr (by omega) (by omega)).mpr (by omega))
  have c0 : (0 ≤ E i ∧ E i < E (hsz H)) = True := eq_true ((inr (by omega) (by omega)).mpr (by omega))
  have p1 : E i + 1 = E (i + 1) := E_add i 1
  have p2 : E i + 2 = E (i + 2) := E_add i 2
  have p3 : E i + 3 = E (i + 3) := E_add i 3
  have sx : E (48 + x) - 48 = E x := by rw [show (48 : Int32) = E 48 from rfl, E_sub (by omega)]; congr 1; omega
  have sy : E (48 + y) - 48 = E y := by rw [show (48 : Int32) = E 48 from rfl, E_sub (by omega)]; congr 1; omega
  have sz9 : E (48 + z) - 48 = E z := by rw [show (48 : Int32) = E 48 from rfl, E_sub (by omega)]; congr 1; omega
  have x9 := E_n (show x < 1000 by omega)
  have y9 := E_n (show y < 1000 by omega)
  have x0 := E_ge0 (show x < 1000 by omega)
  have y0 := E_ge0 (show y < 1000 by omega)
  have z0 := E_ge0 (show z < 1000 by omega)
  have lb : (E x < E (bcA A)) = (x < bcA A) := E_ltE (by omega) (by omega)
  have f57' := fun (d : Nat) (v : Int32) => f57 (d := d) (x := v) he hc hH hC hk
  have f67' := fun (d : Nat) (v : Int32) => f67 (d := d) (x := v) hw ht
  have t0 : tg μ T = 10 := ht.1.1
  have t8 := (hc.2.2.2.2.2.2.2.2.2.2.2 e he).2.1
  have rf : SG (fun c j => T ≤ c ∧ c ≤ T + 14) (fun c j => c = T + 2) μ μ := SG.rf hu
  rcases hcc with q | q | q | q | q
  · subst q
    have es : stD A 98 x y z = if (1 ≤ x ∧ x < 9) ∧ bcA A < 4 then some (adB A x) else none := rfl
    by_cases k : (1 ≤ x ∧ x < 9) ∧ bcA A < 4
    · obtain ⟨μ1, a1, a2, a3⟩ := f70 (d := d + 3) hw ht k.1.1 k.1.2 k.2
      rw [es.trans (if_pos k)]
      refine ⟨μ1, ?_, SG.sb hu a2 (fun c j e => e), ⟨by rw [a2.2.2.2.2.1]; omega, by rw [a2.2.2.2.2.2.1]; omega⟩, (fun A' h => by cases h; exact a3), a3.1⟩
      show rn (d + 6) 69 0 [some (Sum.inr (Sum.inl (T))), some (Sum.inr (Sum.inl (53 + 2 * e))), some (Sum.inl (E i)), none, none, none] [] μ = _
      simp only [st69_0, st69_1, st69_2, st69_3, st69_4, st69_5, st69_6, st69_7, st69_8, st69_9, st69_10, st69_11, st69_12, st69_13, st69_14, st69_15, st69_16, st69_17, st69_18, st69_19, st69_20, st69_21, st69_22, st69_23, st69_24, st69_25, st69_26, st69_27, t8, t0, p1, p2, f57', c0, c1, c2, E_n (show i < 1000 by omega), E_n (show i + 1 < 1000 by omega), E_n (show i + 2 < 1000 by omega), ex, ec, sx, f67', show (E 98 = (98 : Int32)) = True from eq_true rfl, a1, or_true, Option.isSome_some, aft_some, Option.toList_some, Option.toList_none, List.cons_append, List.nil_append, br0, br1, br2, br3, zr01, zr02, n10, n01, ne_eq, not_true_eq_false, not_false_eq_true, if_true, if_false, true_and, and_true, and_self]
    · have k' : ¬ ((1 ≤ E x ∧ E x ≤ 8) ∧ bcA A < 4) := fun h => k ⟨⟨by
          have := h.1.1; rw [E_1le (by omega)] at this; exact this, by
          have := h.1.2; rw [show (8 : Int32) = E 8 from rfl, E_leE (by omega) (by decide)] at this; omega⟩, h.2⟩
      rw [es.trans (if_neg k)]
      refine ⟨μ, ?_, rf, ⟨by omega, by omega⟩, (fun A' h => by cases h), ht.1⟩
      show rn (d + 6) 69 0 [some (Sum.inr (Sum.inl (T))), some (Sum.inr (Sum.inl (53 + 2 * e))), some (Sum.inl (E i)), none, none, none] [] μ = _
      simp only [st69_0, st69_1, st69_2, st69_3, st69_4, st69_5, st69_6, st69_7, st69_8, st69_9, st69_10, st69_11, st69_12, st69_13, st69_14, st69_15, st69_16, st69_17, st69_18, st69_19, st69_20, st69_21, st69_22, st69_23, st69_24, st69_25, st69_26, st69_27, t8, t0, p1, p2, f57', c0, c1, c2, E_n (show i < 1000 by omega), E_n (show i + 1 < 1000 by omega), E_n (show i + 2 < 1000 by omega), ex, ec, sx, f67', show (E 98 = (98 : Int32)) = True from eq_true rfl, f70n hw ht k', true_or, Option.isSome_none, show (false = true) = False from eq_false (by decide), aft_some, Option.toList_some, Option.toList_none, List.cons_append, List.nil_append, br0, br1, br2, br3, zr01, zr02, n10, n01, ne_eq, not_true_eq_false, not_false_eq_true, if_true, if_false, true_and, and_true, and_self]
  · subst q
    have es : stD A 110 x y z = if (x < bcA A ∧ y < pgA A x) ∧ z < y then some (ndB A x y z) else none := rfl
    have ey' := ey (by decide)
    obtain ⟨i3, ez'⟩ := ez rfl
    have c3 : (0 ≤ E (i + 3) ∧ E (i + 3) < E (hsz H)) = True := eq_true ((inr (by omega) (by omega)).mpr (by omega))
    by_cases kx : x < bcA A
    · have x4 : x < 4 := by omega
      have bk := (ht.bk x4).1
      obtain ⟨u1, u2, u3, u4⟩ := ht.2.2.2.2.1 x x4
      have v2 := hw.pg9 x
      have a0 : (T + 3 + 3 * x = 0) = False := eq_false (by omega)
      have f12' := fun d => f12 (d := d) (x := E y) (y := E z) v2 bk u1
      have lp : (E y < E (pgA A x)) = (y < pgA A x) := E_ltE (by omega) (by omega)
      have lz : (E z < E y) = (z < y) := E_ltE (by omega) (by omega)
      by_cases k : y < pgA A x ∧ z < y
      · obtain ⟨a2, a3⟩ := ndB_tw (T := T) (b := x) (p := y) (q := z) hw ht x4
        rw [es.trans (if_pos ⟨⟨kx, k.1⟩, k.2⟩)]
        refine ⟨_, ?_, SG.sb hu a2 (fun c j e => e), ⟨Nat.le_succ _, Nat.le_succ _⟩, (fun A' h => by cases h; exact a3), a3.1⟩
        show rn (d + 6) 69 0 [some (Sum.inr (Sum.inl (T))), some (Sum.inr (Sum.inl (53 + 2 * e))), some (Sum.inl (E i)), none, none, none] [] μ = _
        simp only [st69_0, st69_1, st69_2, st69_3, st69_4, st69_5, st69_6, st69_7, st69_8, st69_9, st69_10, st69_11, st69_12, st69_13, st69_14, st69_15, st69_16, st69_17, st69_18, st69_19, st69_20, st69_21, st69_22, st69_23, st69_24, st69_25, st69_26, st69_27, st69_28, st69_29, st69_30, st69_31, st69_32, st69_33, st69_34, st69_35, st69_36, st69_37, st69_38, st69_39, st69_40, st69_41, st69_42, st69_43, st69_44, t8, t0, p1, p2, p3, f57', c0, c1, c2, c3, E_n (show i < 1000 by omega), E_n (show i + 1 < 1000 by omega), E_n (show i + 2 < 1000 by omega), E_n (show i + 3 < 1000 by omega), ex, ec, ey', ez', sx, sy, sz9, f67', show (E 110 = (98 : Int32)) = False from eq_false (by decide), show (E 110 = (110 : Int32)) = True from eq_true rfl, x0, lb, kx, x9, a0, bk.1, f12', y0, lp, z0, lz, k, y9, or_true, Option.isSome_some, aft_some, Option.toList_some, Option.toList_none, List.cons_append, List.nil_append, br0, br1, br2, br3, zr01, zr02, n10, n01, ne_eq, not_true_eq_false, not_false_eq_true, if_true, if_false, true_and, and_true, and_self]
      · rw [es.trans (if_neg (fun h => k ⟨h.1.2, h.2⟩))]
        refine ⟨μ, ?_, rf, ⟨by omega, by omega⟩, (fun A' h => by cases h), ht.1⟩
        show rn (d + 6) 69 0 [some (Sum.inr (Sum.inl (T))), some (Sum.inr (Sum.inl (53 + 2 * e))), some (Sum.inl (E i)), none, none, none] [] μ = _
        simp only [st69_0, st69_1, st69_2, st69_3, st69_4, st69_5, st69_6, st69_7, st69_8, st69_9, st69_10, st69_11, st69_12, st69_13, st69_14, st69_15, st69_16, st69_17, st69_18, st69_19, st69_20, st69_21, st69_22, st69_23, st69_24, st69_25, st69_26, st69_27, st69_28, st69_29, st69_30, st69_31, st69_32, st69_33, st69_34, st69_35, st69_36, st69_37, st69_38, st69_39, st69_40, st69_41, st69_42, st69_43, st69_44, t8, t0, p1, p2, p3, f57', c0, c1, c2, c3, E_n (show i < 1000 by omega), E_n (show i + 1 < 1000 by omega), E_n (show i + 2 < 1000 by omega), E_n (show i + 3 < 1000 by omega), ex, ec, ey', ez', sx, sy, sz9, f67', show (E 110 = (98 : Int32)) = False from eq_false (by decide), show (E 110 = (110 : Int32)) = True from eq_true rfl, x0, lb, kx, x9, a0, bk.1, f12', y0, lp, z0, lz, k, y9, true_or, Option.isSome_none, show (false = true) = False from eq_false (by decide), aft_some, Option.toList_some, Option.toList_none, List.cons_append, List.nil_append, br0, br1, br2, br3, zr01, zr02, n10, n01, ne_eq, not_true_eq_false, not_false_eq_true, if_true, if_false, true_and, and_true, and_self]
    · rw [es.trans (if_neg (fun h => kx h.1.1))]
      refine ⟨μ, ?_, rf, ⟨by omega, by omega⟩, (fun A' h => by cases h), ht.1⟩
      show rn (d + 6) 69 0 [some (Sum.inr (Sum.inl (T))), some (Sum.inr (Sum.inl (53 + 2 * e))), some (Sum.inl (E i)), none, none, none] [] μ = _
      simp only [st69_0, st69_1, st69_2, st69_3, st69_4, st69_5, st69_6, st69_7, st69_8, st69_9, st69_10, st69_11, st69_12, st69_13, st69_14, st69_15, st69_16, st69_17, st69_18, st69_19, st69_20, st69_21, st69_22, st69_23, st69_24, st69_25, st69_26, st69_27, st69_28, st69_29, st69_30, st69_31, st69_32, st69_33, st69_34, st69_35, st69_36, st69_37, st69_38, st69_39, st69_40, st69_41, st69_42, st69_43, st69_44, t8, t0, p1, p2, p3, f57', c0, c1, c2, c3, E_n (show i < 1000 by omega), E_n (show i + 1 < 1000 by omega), E_n (show i + 2 < 1000 by omega), E_n (show i + 3 < 1000 by omega), ex, ec, ey', ez', sx, sy, sz9, f67', show (E 110 = (98 : Int32)) = False from eq_false (by decide), show (E 110 = (110 : Int32)) = True from eq_true rfl, x0, lb, kx, and_false, true_or, Option.isSome_none, show (false = true) = False from eq_false (by decide), aft_some, Option.toList_some, Option.toList_none, List.cons_append, List.nil_append, br0, br1, br2, br3, zr01, zr02, n10, n01, ne_eq, not_true_eq_false, not_false_eq_true, if_true, if_false, true_and, and_true, and_self]
  · subst q
    have es : stD A 111 x y z = if (x < bcA A ∧ y < pgA A x) ∧ (inA A x).testBit y = true then some (loB A x y) else none := rfl
    have ey' := ey (by decide)
    by_cases kx : x < bcA A
    · have x4 : x < 4 := by omega
      have bk := (ht.bk x4).1
      obtain ⟨u1, u2, u3, u4⟩ := ht.2.2.2.2.1 x x4
      have v2 := hw.pg9 x
      have a0 : (T + 3 + 3 * x = 0) = False := eq_false (by omega)
      have f13' := fun d => f13 (d := d) (x := E y) (y := -4) v2 (hw.in9 x) bk u1 u2
      have lp : (E y < E (pgA A x)) = (y < pgA A x) := E_ltE (by omega) (by omega)
      by_cases k : y < pgA A x ∧ (inA A x).testBit y = true
      · obtain ⟨a2, a3⟩ := loB_tw (T := T) (b := x) (p := y) hw ht x4
        rw [es.trans (if_pos ⟨⟨kx, k.1⟩, k.2⟩)]
        refine ⟨_, ?_, SG.sb hu a2 (fun c j e => e), ⟨Nat.le_succ _, Nat.le_succ _⟩, (fun A' h => by cases h; exact a3), a3.1⟩
        show rn (d + 6) 69 0 [some (Sum.inr (Sum.inl (T))), some (Sum.inr (Sum.inl (53 + 2 * e))), some (Sum.inl (E i)), none, none, none] [] μ = _
        simp only [st69_0, st69_1, st69_2, st69_3, st69_4, st69_5, st69_6, st69_7, st69_8, st69_9, st69_10, st69_11, st69_12, st69_13, st69_14, st69_15, st69_16, st69_17, st69_18, st69_19, st69_20, st69_21, st69_22, st69_23, st69_51, st69_52, st69_53, st69_54, st69_55, st69_56, st69_57, st69_58, st69_59, st69_60, st69_61, t8, t0, p1, p2, f57', c0, c1, c2, E_n (show i < 1000 by omega), E_n (show i + 1 < 1000 by omega), E_n (show i + 2 < 1000 by omega), ex, ec, ey', sx, sy, f67', show (E 111 = (98 : Int32)) = False from eq_false (by decide), show (E 111 = (110 : Int32)) = False from eq_false (by decide), show (E 111 = (111 : Int32)) = True from eq_true rfl, x0, lb, kx, x9, a0, bk.1, f13', y0, lp, k, y9, or_true, Option.isSome_some, aft_some, Option.toList_some, Option.toList_none, List.cons_append, List.nil_append, br0, br1, br2, br3, zr01, zr02, n10, n01, ne_eq, not_true_eq_false, not_false_eq_true, if_true, if_false, true_and, and_true, and_self]
      · have k2 : ¬ (((0 : Int32) ≤ E y ∧ E y < E (pgA A x)) ∧ (inA A x).testBit (E y).toNatClampNeg = true) := fun h => k ⟨by rw [← lp]; exact h.1.2, by have := h.2; rw [y9] at this; exact this⟩
        rw [es.trans (if_neg (fun h => k ⟨h.1.2, h.2⟩))]
        simp only [k2, if_false] at f13'
        refine ⟨μ, ?_, rf, ⟨by omega, by omega⟩, (fun A' h => by cases h), ht.1⟩
        show rn (d + 6) 69 0 [some (Sum.inr (Sum.inl (T))), some (Sum.inr (Sum.inl (53 + 2 * e))), some (Sum.inl (E i)), none, none, none] [] μ = _
        simp only [st69_0, st69_1, st69_2, st69_3, st69_4, st69_5, st69_6, st69_7, st69_8, st69_9, st69_10, st69_11, st69_12, st69_13, st69_14, st69_15, st69_16, st69_17, st69_18, st69_19, st69_20, st69_21, st69_22, st69_23, st69_51, st69_52, st69_53, st69_54, st69_55, st69_56, st69_57, st69_58, st69_59, st69_60, st69_61, t8, t0, p1, p2, f57', c0, c1, c2, E_n (show i < 1000 by omega), E_n (show i + 1 < 1000 by omega), E_n (show i + 2 < 1000 by omega), ex, ec, ey', sx, sy, f67', show (E 111 = (98 : Int32)) = False from eq_false (by decide), show (E 111 = (110 : Int32)) = False from eq_false (by decide), show (E 111 = (111 : Int32)) = True from eq_true rfl, x0, lb, kx, x9, a0, bk.1, f13', true_or, Option.isSome_none, show (false = true) = False from eq_false (by decide), aft_some, Option.toList_some, Option.toList_none, List.cons_append, List.nil_append, br0, br1, br2, br3, zr01, zr02, n10, n01, ne_eq, not_true_eq_false, not_false_eq_true, if_true, if_false, true_and, and_true, and_self]
    · rw [es.trans (if_neg (fun h => kx h.1.1))]
      refine ⟨μ, ?_, rf, ⟨by omega, by omega⟩, (fun A' h => by cases h), ht.1⟩
      show rn (d + 6) 69 0 [some (Sum.inr (Sum.inl (T))), some (Sum.inr (Sum.inl (53 + 2 * e))), some (Sum.inl (E i)), none, none, none] [] μ = _
      simp only [st69_0, st69_1, st69_2, st69_3, st69_4, st69_5, st69_6, st69_7, st69_8, st69_9, st69_10, st69_11, st69_12, st69_13, st69_14, st69_15, st69_16, st69_17, st69_18, st69_19, st69_20, st69_21, st69_22, st69_23, st69_51, st69_52, st69_53, st69_54, st69_55, st69_56, st69_57, st69_58, st69_59, st69_60, st69_61, t8, t0, p1, p2, f57', c0, c1, c2, E_n (show i < 1000 by omega), E_n (show i + 1 < 1000 by omega), E_n (show i + 2 < 1000 by omega), ex, ec, ey', sx, sy, f67', show (E 111 = (98 : Int32)) = False from eq_false (by decide), show (E 111 = (110 : Int32)) = False from eq_false (by decide), show (E 111 = (111 : Int32)) = True from eq_true rfl, x0, lb, kx, and_false, true_or, Option.isSome_none, show (false = true) = False from eq_false (by decide), aft_some, Option.toList_some, Option.toList_none, List.cons_append, List.nil_append, br0, br1, br2, br3, zr01, zr02, n10, n01, ne_eq, not_true_eq_false, not_false_eq_true, if_true, if_false, true_and, and_true, and_self]
  · subst q
    have es : stD A 114 x y z = if x < 8 ∧ rcA A < 6 then some (adR A x y) else none := rfl
    have ey' := ey (by decide)
    have f67r := fun (d : Nat) (v : Int32) => f67 (d := d) (x := v) hw ht
    by_cases kx : x < 8
    · obtain ⟨μa, b1, b2, b3, b4, b5⟩ := f136 (d := d + 2) kx hy h2 hu
      have hta := ht.sg b2 (fun c j q => q.elim) (fun c j q => q.elim)
      have hua := b2.2.2.2.2.2
      have sA : SG (fun c j => T ≤ c ∧ c ≤ T + 14) (fun c j => c = T + 2) μ μa := b2.wk (fun c j q => q.elim) (fun c j q => q.elim)
      by_cases kr : rcA A < 6
      · obtain ⟨μ1, a1, a2, ⟨a3, a3'⟩, a4⟩ := f71 (d := d + 5) hT3 hw hta kr (show sz μ ≠ 0 by omega) b3 hua
        rw [es.trans (if_pos ⟨kx, kr⟩)]
        refine ⟨μ1, ?_, sA.tr (a2.wk (fun c j e => by omega) (fun c j e => e)), ⟨by omega, by omega⟩, (fun A' h => by cases h; exact a4), a4.1⟩
        show rn (d + 6) 69 0 [some (Sum.inr (Sum.inl (T))), some (Sum.inr (Sum.inl (53 + 2 * e))), some (Sum.inl (E i)), none, none, none] [] μ = _
        simp only [st69_0, st69_1, st69_2, st69_3, st69_4, st69_5, st69_6, st69_7, st69_8, st69_9, st69_10, st69_11, st69_12, st69_13, st69_14, st69_15, st69_16, st69_17, st69_18, st69_19, st69_20, st69_21, st69_22, st69_23, st69_45, st69_46, st69_47, st69_48, st69_49, st69_50, t8, t0, p1, p2, f57', c0, c1, c2, E_n (show i < 1000 by omega), E_n (show i + 1 < 1000 by omega), E_n (show i + 2 < 1000 by omega), ex, ec, ey', sx, sy, f67', show (E 114 = (98 : Int32)) = False from eq_false (by decide), show (E 114 = (110 : Int32)) = False from eq_false (by decide), show (E 114 = (111 : Int32)) = False from eq_false (by decide), show (E 114 = (114 : Int32)) = True from eq_true rfl, b1, hta.1.1, a1, or_true, Option.isSome_some, aft_some, Option.toList_some, Option.toList_none, List.cons_append, List.nil_append, br0, br1, br2, br3, zr01, zr02, n10, n01, ne_eq, not_true_eq_false, not_false_eq_true, if_true, if_false, true_and, and_true, and_self]
      · rw [es.trans (if_neg (fun h => kr h.2))]
        refine ⟨μa, ?_, sA, ⟨by omega, by omega⟩, (fun A' h => by cases h), hta.1⟩
        show rn (d + 6) 69 0 [some (Sum.inr (Sum.inl (T))), some (Sum.inr (Sum.inl (53 + 2 * e))), some (Sum.inl (E i)), none, none, none] [] μ = _
        simp only [st69_0, st69_1, st69_2, st69_3, st69_4, st69_5, st69_6, st69_7, st69_8, st69_9, st69_10, st69_11, st69_12, st69_13, st69_14, st69_15, st69_16, st69_17, st69_18, st69_19, st69_20, st69_21, st69_22, st69_23, st69_45, st69_46, st69_47, st69_48, st69_49, st69_50, t8, t0, p1, p2, f57', c0, c1, c2, E_n (show i < 1000 by omega), E_n (show i + 1 < 1000 by omega), E_n (show i + 2 < 1000 by omega), ex, ec, ey', sx, sy, f67', show (E 114 = (98 : Int32)) = False from eq_false (by decide), show (E 114 = (110 : Int32)) = False from eq_false (by decide), show (E 114 = (111 : Int32)) = False from eq_false (by decide), show (E 114 = (114 : Int32)) = True from eq_true rfl, b1, hta.1.1, f71n hw hta kr (show sz μ ≠ 0 by omega), true_or, Option.isSome_none, show (false = true) = False from eq_false (by decide), aft_some, Option.toList_some, Option.toList_none, List.cons_append, List.nil_append, br0, br1, br2, br3, zr01, zr02, n10, n01, ne_eq, not_true_eq_false, not_false_eq_true, if_true, if_false, true_and, and_true, and_self]
    · have kn : ¬ (((0 : Int32) ≤ E x ∧ E x ≤ 7) ∧ 0 ≤ E y ∧ E y ≤ 9) := fun h => by
        have := h.1.2
        rw [show (7 : Int32) = E 7 from rfl, E_leE (by omega) (by decide)] at this
        omega
      rw [es.trans (if_neg (fun h => kx h.1))]
      refine ⟨μ, ?_, rf, ⟨by omega, by omega⟩, (fun A' h => by cases h), ht.1⟩
      show rn (d + 6) 69 0 [some (Sum.inr (Sum.inl (T))), some (Sum.inr (Sum.inl (53 + 2 * e))), some (Sum.inl (E i)), none, none, none] [] μ = _
      simp only [st69_0, st69_1, st69_2, st69_3, st69_4, st69_5, st69_6, st69_7, st69_8, st69_9, st69_10, st69_11, st69_12, st69_13, st69_14, st69_15, st69_16, st69_17, st69_18, st69_19, st69_20, st69_21, st69_22, st69_23, st69_45, st69_46, st69_47, st69_48, st69_49, st69_50, t8, t0, p1, p2, f57', c0, c1, c2, E_n (show i < 1000 by omega), E_n (show i + 1 < 1000 by omega), E_n (show i + 2 < 1000 by omega), ex, ec, ey', sx, sy, f67', show (E 114 = (98 : Int32)) = False from eq_false (by decide), show (E 114 = (110 : Int32)) = False from eq_false (by decide), show (E 114 = (111 : Int32)) = False from eq_false (by decide), show (E 114 = (114 : Int32)) = True from eq_true rfl, f136n kn, f71z, true_or, Option.isSome_none, show (false = true) = False from eq_false (by decide), aft_some, Option.toList_some, Option.toList_none, List.cons_append, List.nil_append, br0, br1, br2, br3, zr01, zr02, n10, n01, ne_eq, not_true_eq_false, not_false_eq_true, if_true, if_false, true_and, and_true, and_self]
  · subst q
    have es : stD A 120 x y z = if x < rcA A ∧ y < bcA A then some (rdA A x y) else none := rfl
    have ey' := ey (by decide)
    by_cases k : x < rcA A ∧ y < bcA A
    · obtain ⟨μ1, a1, a2, a3⟩ := f72 (d := d) hw ht k.1 k.2
      rw [es.trans (if_pos k)]
      have wl := wor_lt (k := kdA A x) (f := fgA A x) (pg := pgA A y) (nd := ndA A y) (S := inA A y) (hw.2.2.2.2 x k.1).2
      have s2 : SB (fun c => T ≤ c ∧ c ≤ T + 14) μ μ1 := a2.wk (fun c e => by omega)
      refine ⟨μ1, ?_, SG.sb hu s2 (fun c j e => e), ⟨by rw [a2.2.2.2.2.1]; omega, by rw [a2.2.2.2.2.2.1]; omega⟩, (fun A' h => by cases h; exact a3), a3.1⟩
      show rn (d + 6) 69 0 [some (Sum.inr (Sum.inl (T))), some (Sum.inr (Sum.inl (53 + 2 * e))), some (Sum.inl (E i)), none, none, none] [] μ = _
      simp only [st69_0, st69_1, st69_2, st69_3, st69_4, st69_5, st69_6, st69_7, st69_8, st69_9, st69_10, st69_11, st69_12, st69_13, st69_14, st69_15, st69_16, st69_17, st69_18, st69_19, st69_20, st69_21, st69_22, st69_23, st69_62, st69_63, st69_64, st69_65, st69_66, st69_67, st69_68, st69_69, st69_70, t8, t0, p1, p2, f57', c0, c1, c2, E_n (show i < 1000 by omega), E_n (show i + 1 < 1000 by omega), E_n (show i + 2 < 1000 by omega), ex, ec, ey', sx, sy, f67', show (E 120 = (98 : Int32)) = False from eq_false (by decide), show (E 120 = (110 : Int32)) = False from eq_false (by decide), show (E 120 = (111 : Int32)) = False from eq_false (by decide), show (E 120 = (114 : Int32)) = False from eq_false (by decide), show (E 120 = (120 : Int32)) = True from eq_true rfl, a1, E_lt0 wl, or_true, Option.isSome_some, aft_some, Option.toList_some, Option.toList_none, List.cons_append, List.nil_append, br0, br1, br2, br3, zr01, zr02, n10, n01, ne_eq, not_true_eq_false, not_false_eq_true, if_true, if_false, true_and, and_true, and_self]
    · have k' : ¬ (((0 : Int32) ≤ E x ∧ E x < E (rcA A)) ∧ 0 ≤ E y ∧ E y < E (bcA A)) := fun h => k ⟨by have := h.1.2; rw [E_ltE (by omega) (by omega)] at this; exact this, by have := h.2.2; rw [E_ltE (by omega) (by omega)] at this; exact this⟩
      rw [es.trans (if_neg k)]
      refine ⟨μ, ?_, rf, ⟨by omega, by omega⟩, (fun A' h => by cases h), ht.1⟩
      show rn (d + 6) 69 0 [some (Sum.inr (Sum.inl (T))), some (Sum.inr (Sum.inl (53 + 2 * e))), some (Sum.inl (E i)), none, none, none] [] μ = _
      simp only [st69_0, st69_1, st69_2, st69_3, st69_4, st69_5, st69_6, st69_7, st69_8, st69_9, st69_10, st69_11, st69_12, st69_13, st69_14, st69_15, st69_16, st69_17, st69_18, st69_19, st69_20, st69_21, st69_22, st69_23, st69_62, st69_63, st69_64, st69_65, st69_66, st69_67, st69_68, st69_69, st69_70, t8, t0, p1, p2, f57', c0, c1, c2, E_n (show i < 1000 by omega), E_n (show i + 1 < 1000 by omega), E_n (show i + 2 < 1000 by omega), ex, ec, ey', sx, sy, f67', show (E 120 = (98 : Int32)) = False from eq_false (by decide), show (E 120 = (110 : Int32)) = False from eq_false (by decide), show (E 120 = (111 : Int32)) = False from eq_false (by decide), show (E 120 = (114 : Int32)) = False from eq_false (by decide), show (E 120 = (120 : Int32)) = True from eq_true rfl, f72u hw ht k', show ((-1 : Int32) < 0) = True from eq_true (by decide), true_or, Option.isSome_none, show (false = true) = False from eq_false (by decide), aft_some, Option.toList_some, Option.toList_none, List.cons_append, List.nil_append, br0, br1, br2, br3, zr01, zr02, n10, n01, ne_eq, not_true_eq_false, not_false_eq_true, if_true, if_false, true_and, and_true, and_self]
/-! SPECS ZZ: a statement done, the reference -/
theorem f167_lp {d B : Nat} {x1 x2 x3 : Int32} {μ0 : SMem} (hm : MA μ0) (hB : B + 18 ≤ 75) : ∀ k j (μ : SMem), j + k = 16 → SB (fun c => c = 70) μ0 μ → (∀ a, gi μ 70 a = if B + 2 ≤ a ∧ a < B + 2 + j then -4 else gi μ0 70 a) → ∃ μ', rn d 167 53 [some (Sum.inr (Sum.inl (69))), some (Sum.inl (x1)), some (Sum.inl (x2)), some (Sum.inl (x3)), some (Sum.inl (E B)), some (Sum.inl (E j))] [] μ = rn d 167 67 [some (Sum.inr (Sum.inl (69))), some (Sum.inl (x1)), some (Sum.inl (x2)), some (Sum.inl (x3)), some (Sum.inl (E B)), some (Sum.inl (E 16))] [] μ' ∧ SB (fun c => c = 70) μ0 μ' ∧ (∀ a, gi μ' 70 a = if B + 2 ≤ a ∧ a < B + 18 then -4 else gi μ0 70 a) := by
  intro k
  induction k with
  | zero =>
    intro j μ hj hs hv
    have : j = 16 := by omega
    subst this
    refine ⟨μ, ?_, hs, fun a => hv a⟩
    rw [st167_53]
    simp only [st167_54, st167_55, st167_56, st167_57, st167_58, st167_59, st167_60, st167_61, st167_62, st167_63, st167_64, st167_65, st167_66, show (16 : Int32) ≤ E 16 from by decide, if_true]
  | succ k ih =>
    intro j μ hj hs hv
    have hm1 := hm.sb hs
    have cx : ¬ (16 : Int32) ≤ E j := by rw [show (16 : Int32) = E 16 from rfl, E_le (by decide) (by omega)]; omega
    have e1 : E B + 2 = E (B + 2) := E_add B 2
    have e2 : E (B + 2) + E j = E (B + 2 + j) := E_add _ _
    obtain ⟨μ', y1, y2, y3⟩ := ih (j + 1) (seti μ 70 (B + 2 + j) (-4)) (by omega) (hs.tr (SB.se rfl)) (fun a => by
      rw [gi_seti]
      by_cases c : a = B + 2 + j
      · rw [if_pos ⟨rfl, c⟩, if_pos (by omega)]
      · rw [if_neg (fun h => c h.2), hv]
        by_cases c2 : B + 2 ≤ a ∧ a < B + 2 + j
        · rw [if_pos c2, if_pos (show B + 2 ≤ a ∧ a < B + 2 + (j + 1) by omega)]
        · rw [if_neg c2, if_neg (show ¬ (B + 2 ≤ a ∧ a < B + 2 + (j + 1)) by omega)])
    refine ⟨μ', ?_, y2, y3⟩
    obtain ⟨m1, m2, m3, m4, m5, m6, m7, m8, m9, m10, m11, m12, m13, m14, ⟨t0, t1, t2, t3, t4, t5, t6, t7, t8, t9, t10, t11, t12⟩, l0, l1, l2, l3, l4, l5, l6, l7, l8, l9, l10, l11, l12⟩ := hm1
    rw [st167_53]
    simp only [st167_54, st167_55, st167_56, st167_57, st167_58, st167_59, st167_60, st167_61, st167_62, st167_63, st167_64, st167_65, st167_66, cx, m1, m2, t0, l0, e1, e2, E_ge0 (show B + 2 + j < 1000 by omega), E_n (show B + 2 + j < 1000 by omega), show B + 2 + j < 87 by omega, show E j + 1 = E (j + 1) from E_add j 1, aft_some, Option.toList_some, Option.toList_none, List.cons_append, List.nil_append, br0, br1, br2, br3, zr01, zr02, n10, n01, ne_eq, not_true_eq_false, not_false_eq_true, if_true, if_false, true_and, and_true, and_self]
    exact y1
theorem ndB_mr {b p q : Nat} {A : AT} {μ : SMem} (hw : WF A) (hM : MRw (gi μ 70) A) (hb : b < bcA A) (hp : p < 8) : MRw (gi (seti μ 70 (5 + 18 * b + p) (E q)) 70) (ndB A b p q) := by
  have w1 := hw.1
  have w2 := hw.2.1
  obtain ⟨h1, h2, h3, h4, h5⟩ := hM
  have e : ∀ j, j ≠ 5 + 18 * b + p → gi (seti μ 70 (5 + 18 * b + p) (E q)) 70 j = gi μ 70 j := fun j hj => by rw [gi_seti, if_neg (fun e => hj e.2)]
  refine ⟨by rw [e _ (by omega)]; exact h1, by rw [e _ (by omega)]; exact h2, by rw [e _ (by omega)]; exact h3, fun b' hb' => ?_, fun r hr => by have hr9 : r < rcA A := hr; rw [e _ (by omega), e _ (by omega)]; exact h5 r hr⟩
  have hb9 : b' < bcA A := hb'
  obtain ⟨x1, x2, x3, x4⟩ := h4 b' hb'
  refine ⟨by rw [e _ (by omega)]; exact x1, by rw [e _ (by omega)]; exact x2, fun p' hp' => ?_, fun p' hp' q1 q2 => by rw [e _ (by omega)]; exact x4 p' hp' q1 q2⟩
  show _ = up1 (ndA A) b (up1 (ndA A b) p (E q)) b' p'
  by_cases c : b' = b
  · subst c
    rw [up1, if_pos rfl]
    by_cases c2 : p' = p
    · subst c2
      rw [gi_seti, if_pos ⟨rfl, rfl⟩, up1, if_pos rfl]
    · rw [e _ (by omega), up1, if_neg c2]; exact x3 p' hp'
  · rw [e _ (by omega), up1, if_neg c]; exact x3 p' hp'
theorem loB_mr {b p : Nat} {A : AT} {μ : SMem} (hw : WF A) (hM : MRw (gi μ 70) A) (hb : b < bcA A) (hp : p < 8) : MRw (gi (seti (seti μ 70 (4 + 18 * b) (E (clr (inA A b) p))) 70 (13 + 18 * b + p) (-4)) 70) (loB A b p) := by
  have w1 := hw.1
  have w2 := hw.2.1
  have hS := hw.in9 b
  obtain ⟨h1, h2, h3, h4, h5⟩ := hM
  have e : ∀ j, j ≠ 4 + 18 * b → j ≠ 13 + 18 * b + p → gi (seti (seti μ 70 (4 + 18 * b) (E (clr (inA A b) p))) 70 (13 + 18 * b + p) (-4)) 70 j = gi μ 70 j := fun j hj hj2 => by rw [gi_seti, if_neg (fun e => hj2 e.2), gi_seti, if_neg (fun e => hj e.2)]
  refine ⟨by rw [e _ (by omega) (by omega)]; exact h1, by rw [e _ (by omega) (by omega)]; exact h2, by rw [e _ (by omega) (by omega)]; exact h3, fun b' hb' => ?_, fun r hr => by have hr9 : r < rcA A := hr; rw [e _ (by omega) (by omega), e _ (by omega) (by omega)]; exact h5 r hr⟩
  have hb9 : b' < bcA A := hb'
  obtain ⟨x1, x2, x3, x4⟩ := h4 b' hb'
  by_cases c : b' = b
  · subst c
    refine ⟨by rw [e _ (by omega) (by omega)]; exact x1, ?_, fun p' hp' => by rw [e _ (by omega) (by omega)]; exact x3 p' hp', fun p' hp' q1 q2 => ?_⟩
    · rw [gi_seti, if_neg (by omega), gi_seti, if_pos ⟨rfl, rfl⟩]
      show _ = E (up1 (inA A) b' (clr (inA A b') p) b')
      rw [up1, if_pos rfl]
    · show _ = up1 (hoA A) b' (up1 (hoA A b') p (-4)) b' p'
      have q2' : (up1 (inA A) b' (clr (inA A b') p) b').testBit p' = false := q2
      rw [up1, if_pos rfl] at q2' ⊢
      by_cases c2 : p' = p
      · subst c2
        rw [gi_seti, if_pos ⟨rfl, rfl⟩, up1, if_pos rfl]
      · rw [clr_bit _ hS p hp p' hp', show (p' == p) = false from by simp [c2], Bool.not_false, Bool.and_true] at q2'
        rw [e _ (by omega) (by omega), up1, if_neg c2]
        exact x4 p' hp' q1 q2'
  · refine ⟨by rw [e _ (by omega) (by omega)]; exact x1, ?_, fun p' hp' => by rw [e _ (by omega) (by omega)]; exact x3 p' hp', fun p' hp' q1 q2 => ?_⟩
    · rw [e _ (by omega) (by omega)]
      show _ = E (up1 (inA A) b (clr (inA A b) p) b')
      rw [up1, if_neg c]; exact x2
    · show _ = up1 (hoA A) b (up1 (hoA A b) p (-4)) b' p'
      have q2' : (up1 (inA A) b (clr (inA A b) p) b').testBit p' = false := q2
      rw [up1, if_neg c] at q2' ⊢
      rw [e _ (by omega) (by omega)]
      exact x4 p' hp' q1 q2'
theorem adB_mr {pg : Nat} {A : AT} {g g' : Nat → Int32} (hw : WF A) (hM : MRw g A) (hb : bcA A < 4) (h0 : g' 0 = E (bcA A + 1)) (hp : g' (3 + 18 * bcA A) = E pg) (hi : g' (4 + 18 * bcA A) = E (2 ^ pg - 1)) (hn : ∀ a, 5 + 18 * bcA A ≤ a → a < 21 + 18 * bcA A → g' a = -4) (ho : ∀ a, a ≠ 0 → (a < 3 + 18 * bcA A ∨ 21 + 18 * bcA A ≤ a) → g' a = g a) : MRw g' (adB A pg) := by
  have w1 := hw.1
  have w2 := hw.2.1
  obtain ⟨h1, h2, h3, h4, h5⟩ := hM
  refine ⟨h0, by rw [ho _ (by omega) (by omega)]; exact h2, by rw [ho _ (by omega) (by omega)]; exact h3, fun b hb9 => ?_, fun r hr => by have hr9 : r < rcA A := hr; rw [ho _ (by omega) (by omega), ho _ (by omega) (by omega)]; exact h5 r hr⟩
  have hb' : b < bcA A + 1 := hb9
  show g' (3 + 18 * b) = E (up1 (pgA A) (bcA A) pg b) ∧ g' (4 + 18 * b) = E (up1 (inA A) (bcA A) (2 ^ pg - 1) b) ∧ (∀ p, p < 8 → g' (5 + 18 * b + p) = up1 (ndA A) (bcA A) (fun _ => -4) b p) ∧ ∀ p, p < 8 → p < up1 (pgA A) (bcA A) pg b → (up1 (inA A) (bcA A) (2 ^ pg - 1) b).testBit p = false → g' (13 + 18 * b + p) = up1 (hoA A) (bcA A) (fun _ => -4) b p
  by_cases c : b = bcA A
  · subst c
    simp only [up1, if_true]
    exact ⟨hp, hi, fun p hp9 => hn _ (by omega) (by omega), fun p hp9 _ _ => hn _ (by omega) (by omega)⟩
  · simp only [up1, if_neg c]
    obtain ⟨x1, x2, x3, x4⟩ := h4 b (by omega)
    exact ⟨by rw [ho _ (by omega) (by omega)]; exact x1, by rw [ho _ (by omega) (by omega)]; exact x2, fun p hp9 => by rw [ho _ (by omega) (by omega)]; exact x3 p hp9, fun p hp9 q1 q2 => by rw [ho _ (by omega) (by omega)]; exact x4 p hp9 q1 q2⟩
theorem f167 {d c x y z : Nat} {A : AT} {μ : SMem} (hm : MA μ) (hw : WF A) (hM : MRw (gi μ 70) A) (hx : x < 10) (hy : y < 10) (hz : z < 10) (gx : gi μ 80 0 = E x) (gy : c ≠ 98 → gi μ 80 1 = E y) (gz : c = 110 → gi μ 80 2 = E z) (hcc : c = 98 ∨ c = 110 ∨ c = 111 ∨ c = 114 ∨ c = 120) : ∃ μ', cl (d + 6) 167 [Sum.inr (Sum.inl (69)), Sum.inl (E c)] μ = some (Sum.inl (some (Sum.inl (if (stD A c x y z).isSome = true then 1 else 0))), μ') ∧ SB (fun c => c = 70) μ μ' ∧ (∀ A', stD A c x y z = some A' → MRw (gi μ' 70) A') := by
  have w1 := hw.1
  have w2 := hw.2.1
  have hm0 := hm
  have hq := hM.mq hw
  obtain ⟨m1, m2, m3, m4, m5, m6, m7, m8, m9, m10, m11, m12, m13, m14, ⟨t0, t1, t2, t3, t4, t5, t6, t7, t8, t9, t10, t11, t12⟩, l0, l1, l2, l3, l4, l5, l6, l7, l8, l9, l10, l11, l12⟩ := hm
  have x9 := E_n (show x < 1000 by omega)
  have y9 := E_n (show y < 1000 by omega)
  have x0 := E_ge0 (show x < 1000 by omega)
  have y0 := E_ge0 (show y < 1000 by omega)
  have lb : (E x < E (bcA A)) = (x < bcA A) := E_ltE (by omega) (by omega)
  have lr : (E x < E (rcA A)) = (x < rcA A) := E_ltE (by omega) (by omega)
  have lby : (E y < E (bcA A)) = (y < bcA A) := E_ltE (by omega) (by omega)
  have g0 : gi μ 70 0 = E (bcA A) := hM.1
  rcases hcc with q | q | q | q | q
  · subst q
    have es : stD A 98 x y z = if (1 ≤ x ∧ x < 9) ∧ bcA A < 4 then some (adB A x) else none := rfl
    have n1 : (E x < 1) = (x < 1) := by rw [show (1 : Int32) = E 1 from rfl]; exact E_ltE (by omega) (by decide)
    have n8 : ((8 : Int32) < E x) = (8 < x) := by rw [show (8 : Int32) = E 8 from rfl]; exact E_ltE (by decide) (by omega)
    have n4 : (E (bcA A) = (4 : Int32)) = (bcA A = 4) := by rw [show (4 : Int32) = E 4 from rfl, eq_iff_iff]; exact E_inj (by omega) (by decide)
    by_cases k : (1 ≤ x ∧ x < 9) ∧ bcA A < 4
    · have e1 : (3 : Int32) + 18 * E (bcA A) = E (3 + 18 * bcA A) := ix3 _
      have e2 : E (3 + 18 * bcA A) + 1 = E (4 + 18 * bcA A) := by rw [show (1 : Int32) = E 1 from rfl, E_add]; congr 1; omega
      have eW := E_whole x (by omega)
      have sA : SB (fun c => c = 70) μ (seti (seti μ 70 (3 + 18 * bcA A) (E x)) 70 (4 + 18 * bcA A) (E (2 ^ x - 1))) := SB.se2
      have gA : ∀ a, gi (seti (seti μ 70 (3 + 18 * bcA A) (E x)) 70 (4 + 18 * bcA A) (E (2 ^ x - 1))) 70 a = if a = 4 + 18 * bcA A then E (2 ^ x - 1) else if a = 3 + 18 * bcA A then E x else gi μ 70 a := fun a => by
        rw [gi_seti, gi_seti]; simp only [true_and]
      have eA : rn (d + 6) 167 0 [some (Sum.inr (Sum.inl (69))), some (Sum.inl (E 98)), none, none, none, none] [] μ = rn (d + 6) 167 53 [some (Sum.inr (Sum.inl (69))), some (Sum.inl (E 98)), some (Sum.inl (E x)), some (Sum.inl (gi μ 80 1)), some (Sum.inl (E (3 + 18 * bcA A))), some (Sum.inl (E 0))] [] (seti (seti μ 70 (3 + 18 * bcA A) (E x)) 70 (4 + 18 * bcA A) (E (2 ^ x - 1))) := by
        simp only [st167_0, st167_1, st167_2, st167_3, st167_4, st167_5, st167_6, st167_7, st167_8, st167_9, st167_10, st167_11, st167_12, st167_13, st167_14, st167_15, st167_16, st167_17, st167_18, st167_19, st167_20, st167_21, st167_22, st167_23, st167_24, st167_25, st167_26, st167_27, st167_28, st167_29, st167_30, st167_31, st167_32, st167_33, st167_34, st167_35, st167_36, st167_37, st167_38, st167_39, st167_40, st167_41, st167_42, st167_43, st167_44, st167_45, st167_46, st167_47, st167_48, st167_49, st167_50, st167_51, st167_52, m1, m2, m12, t0, t10, l0, l10, z00, z01, zn0, zn1, zl0, show (0 : Nat) < 3 from by decide, show (1 : Nat) < 3 from by decide, gx, show (E 98 = (98 : Int32)) = True from eq_true rfl, n1, n8, show ¬ x < 1 by omega, show ¬ 8 < x by omega, g0, n4, show ¬ bcA A = 4 by omega, e1, e2, eW, gi_seti, gi_setr, gi_setl, gi_setrow, gr_seti, gr_setr, gr_setl, gr_setrow, gl_seti, gl_setr, gl_setl, gl_setrow, tg_seti, tg_setr, tg_setl, tg_setrow, ln_seti, ln_setr, ln_setl, ln_setrow, sz_seti, sz_setr, sz_setl, sz_setrow, sl_seti, sl_setr, sl_setl, sl_setrow, E_ge0 (show 3 + 18 * bcA A < 1000 by omega), E_n (show 3 + 18 * bcA A < 1000 by omega), show 3 + 18 * bcA A < 87 by omega, E_ge0 (show 4 + 18 * bcA A < 1000 by omega), E_n (show 4 + 18 * bcA A < 1000 by omega), show 4 + 18 * bcA A < 87 by omega, aft_some, Option.toList_some, Option.toList_none, List.cons_append, List.nil_append, br0, br1, br2, br3, zr01, zr02, n10, n01, ne_eq, not_true_eq_false, not_false_eq_true, if_true, if_false, true_and, and_true, and_self]
        rfl
      generalize seti (seti μ 70 (3 + 18 * bcA A) (E x)) 70 (4 + 18 * bcA A) (E (2 ^ x - 1)) = μ1 at *
      obtain ⟨μ2, b1, b2, b3⟩ := f167_lp (d := d + 6) (B := 3 + 18 * bcA A) (x1 := E 98) (x2 := E x) (x3 := gi μ 80 1) (hm0.sb sA) (by omega) 16 0 μ1 rfl SB.rf (fun a => by rw [if_neg (by omega)])
      have gB : gi μ2 70 0 = E (bcA A) := by rw [b3, if_neg (by omega), gA, if_neg (by omega), if_neg (by omega)]; exact g0
      have sC : SB (fun c => c = 70) μ2 (seti μ2 70 0 (E (bcA A + 1))) := SB.se rfl
      have hm2 := (hm0.sb sA).sb b2
      rw [es.trans (if_pos k)]
      refine ⟨seti μ2 70 0 (E (bcA A + 1)), ?_, sA.tr (b2.tr sC), fun A' h => ?_⟩
      · obtain ⟨v1, v2, _, _, _, _, _, _, _, _, _, _, _, _, ⟨v3, _⟩, v4, _⟩ := hm2
        show rn (d + 6) 167 0 [some (Sum.inr (Sum.inl (69))), some (Sum.inl (E 98)), none, none, none, none] [] μ = _
        rw [eA, b1]
        simp only [st167_67, st167_68, st167_69, st167_70, st167_71, st167_72, st167_73, st167_74, st167_75, st167_76, v1, v2, v3, v4, z00, zn0, zl0, gB, show E (bcA A) + 1 = E (bcA A + 1) from E_add _ 1, or_true, Option.isSome_some, aft_some, Option.toList_some, Option.toList_none, List.cons_append, List.nil_append, br0, br1, br2, br3, zr01, zr02, n10, n01, ne_eq, not_true_eq_false, not_false_eq_true, if_true, if_false, true_and, and_true, and_self]
      · cases h
        have gC : ∀ a, a ≠ 0 → gi (seti μ2 70 0 (E (bcA A + 1))) 70 a = gi μ2 70 a := fun a ha => by rw [gi_seti, if_neg (fun e => ha e.2)]
        refine adB_mr hw hM k.2 (by rw [gi_seti, if_pos ⟨rfl, rfl⟩]) ?_ ?_ (fun a h1 h2 => ?_) (fun a h1 h2 => ?_)
        · rw [gC _ (by omega), b3, if_neg (by omega), gA, if_neg (by omega), if_pos rfl]
        · rw [gC _ (by omega), b3, if_neg (by omega), gA, if_pos rfl]
        · rw [gC _ (by omega), b3, if_pos (by omega)]
        · rw [gC _ h1, b3, if_neg (by omega), gA, if_neg (by omega), if_neg (by omega)]
    · rw [es.trans (if_neg k)]
      refine ⟨μ, ?_, SB.rf, fun A' h => by cases h⟩
      show rn (d + 6) 167 0 [some (Sum.inr (Sum.inl (69))), some (Sum.inl (E 98)), none, none, none, none] [] μ = _
      by_cases k1 : x < 1
      · simp only [st167_0, st167_1, st167_2, st167_3, st167_4, st167_5, st167_6, st167_7, st167_8, st167_9, st167_10, st167_11, st167_12, st167_13, st167_14, st167_15, st167_16, st167_17, st167_18, st167_19, st167_20, st167_21, st167_22, st167_23, st167_24, st167_25, m1, m12, t10, l10, z00, z01, zn0, zn1, show (0 : Nat) < 3 from by decide, show (1 : Nat) < 3 from by decide, gx, show (E 98 = (98 : Int32)) = True from eq_true rfl, n1, k1, true_or, Option.isSome_none, show (false = true) = False from eq_false (by decide), aft_some, Option.toList_some, Option.toList_none, List.cons_append, List.nil_append, br0, br1, br2, br3, zr01, zr02, n10, n01, ne_eq, not_true_eq_false, not_false_eq_true, if_true, if_false, true_and, and_true, and_self]
      · by_cases k2 : 8 < x
        · simp only [st167_0, st167_1, st167_2, st167_3, st167_4, st167_5, st167_6, st167_7, st167_8, st167_9, st167_10, st167_11, st167_12, st167_13, st167_14, st167_15, st167_16, st167_17, st167_18, st167_19, st167_20, st167_21, st167_22, st167_23, st167_24, st167_25, m1, m12, t10, l10, z00, z01, zn0, zn1, show (0 : Nat) < 3 from by decide, show (1 : Nat) < 3 from by decide, gx, show (E 98 = (98 : Int32)) = True from eq_true rfl, n1, k1, n8, k2, true_or, Option.isSome_none, show (false = true) = False from eq_false (by decide), aft_some, Option.toList_some, Option.toList_none, List.cons_append, List.nil_append, br0, br1, br2, br3, zr01, zr02, n10, n01, ne_eq, not_true_eq_false, not_false_eq_true, if_true, if_false, true_and, and_true, and_self]
        · have k4 : bcA A = 4 := by omega
          rw [k4] at g0
          simp only [st167_0, st167_1, st167_2, st167_3, st167_4, st167_5, st167_6, st167_7, st167_8, st167_9, st167_10, st167_11, st167_12, st167_13, st167_14, st167_15, st167_16, st167_17, st167_18, st167_19, st167_20, st167_21, st167_22, st167_23, st167_24, st167_25, m1, m2, m12, t0, t10, l0, l10, z00, z01, zn0, zn1, zl0, show (0 : Nat) < 3 from by decide, show (1 : Nat) < 3 from by decide, gx, show (E 98 = (98 : Int32)) = True from eq_true rfl, n1, k1, n8, k2, g0, show (E 4 = (4 : Int32)) = True from eq_true rfl, true_or, Option.isSome_none, show (false = true) = False from eq_false (by decide), aft_some, Option.toList_some, Option.toList_none, List.cons_append, List.nil_append, br0, br1, br2, br3, zr01, zr02, n10, n01, ne_eq, not_true_eq_false, not_false_eq_true, if_true, if_false, true_and, and_true, and_self]
  · subst q
    have es : stD A 110 x y z = if (x < bcA A ∧ y < pgA A x) ∧ z < y then some (ndB A x y z) else none := rfl
    have gy' := gy (by decide)
    have gz' := gz rfl
    have f148' := fun d => f148 (d := d) (x := E x) (y := E y) hm0 hw hq
    have lp : x < bcA A → (E y < E (pgA A x)) = (y < pgA A x) := fun h => E_ltE (by omega) (by have := hw.pg9 x; omega)
    have lz : (E z < E y) = (z < y) := E_ltE (by omega) (by omega)
    by_cases k1 : x < bcA A ∧ y < pgA A x
    · have c148 : ((0 ≤ E x ∧ E x < E (bcA A)) ∧ 0 ≤ E y ∧ E y < E (pgA A (E x).toNatClampNeg)) = True := by rw [x9]; exact eq_true ⟨⟨E_nonneg (by omega), by rw [lb]; exact k1.1⟩, E_nonneg (by omega), by rw [lp k1.1]; exact k1.2⟩
      simp only [c148, if_true] at f148'
      have y8 : y < 8 := by have := hw.pg9 x; omega
      by_cases k2 : z < y
      · have e1 : (3 : Int32) + 18 * E x + 2 + E y = E (5 + 18 * x + y) := ix5 x y
        rw [es.trans (if_pos ⟨k1, k2⟩)]
        refine ⟨seti μ 70 (5 + 18 * x + y) (E z), ?_, SB.se rfl, fun A' h => by cases h; exact ndB_mr hw hM k1.1 y8⟩
        show rn (d + 6) 167 0 [some (Sum.inr (Sum.inl (69))), some (Sum.inl (E 110)), none, none, none, none] [] μ = _
        simp only [st167_0, st167_1, st167_2, st167_3, st167_4, st167_5, st167_6, st167_7, st167_8, st167_9, st167_10, st167_11, st167_77, st167_78, st167_79, st167_80, st167_81, st167_82, st167_83, st167_84, st167_85, st167_86, st167_87, st167_88, st167_89, st167_90, st167_91, st167_92, st167_93, st167_94, st167_95, st167_96, st167_97, st167_98, st167_99, st167_100, st167_101, st167_102, st167_103, st167_104, st167_105, st167_106, st167_107, m1, m2, m12, t0, t10, l0, l10, z00, z01, z02, zn0, zn1, zn2, show (0 : Nat) < 3 from by decide, show (1 : Nat) < 3 from by decide, show (2 : Nat) < 3 from by decide, gx, gy', gz', show (E 110 = (98 : Int32)) = False from eq_false (by decide), show (E 110 = (110 : Int32)) = True from eq_true rfl, f148', lz, k2, e1, E_ge0 (show 5 + 18 * x + y < 1000 by omega), E_n (show 5 + 18 * x + y < 1000 by omega), show 5 + 18 * x + y < 87 by omega, or_true, Option.isSome_some, aft_some, Option.toList_some, Option.toList_none, List.cons_append, List.nil_append, br0, br1, br2, br3, zr01, zr02, n10, n01, ne_eq, not_true_eq_false, not_false_eq_true, if_true, if_false, true_and, and_true, and_self]
      · rw [es.trans (if_neg (fun h => k2 h.2))]
        refine ⟨μ, ?_, SB.rf, fun A' h => by cases h⟩
        show rn (d + 6) 167 0 [some (Sum.inr (Sum.inl (69))), some (Sum.inl (E 110)), none, none, none, none] [] μ = _
        simp only [st167_0, st167_1, st167_2, st167_3, st167_4, st167_5, st167_6, st167_7, st167_8, st167_9, st167_10, st167_11, st167_77, st167_78, st167_79, st167_80, st167_81, st167_82, st167_83, st167_84, st167_85, st167_86, st167_87, st167_88, st167_89, st167_90, st167_91, st167_92, st167_93, st167_94, st167_95, st167_96, st167_97, st167_98, st167_99, st167_100, st167_101, st167_102, st167_103, st167_104, st167_105, st167_106, st167_107, m1, m12, t10, l10, z00, z01, z02, zn0, zn1, zn2, show (0 : Nat) < 3 from by decide, show (1 : Nat) < 3 from by decide, show (2 : Nat) < 3 from by decide, gx, gy', gz', show (E 110 = (98 : Int32)) = False from eq_false (by decide), show (E 110 = (110 : Int32)) = True from eq_true rfl, f148', lz, k2, true_or, Option.isSome_none, show (false = true) = False from eq_false (by decide), aft_some, Option.toList_some, Option.toList_none, List.cons_append, List.nil_append, br0, br1, br2, br3, zr01, zr02, n10, n01, ne_eq, not_true_eq_false, not_false_eq_true, if_true, if_false, true_and, and_true, and_self]
    · have c148 : ((0 ≤ E x ∧ E x < E (bcA A)) ∧ 0 ≤ E y ∧ E y < E (pgA A (E x).toNatClampNeg)) = False := eq_false fun h => by
        rw [x9] at h
        have a1 : x < bcA A := by have := h.1.2; rw [lb] at this; exact this
        have a2 := h.2.2
        rw [lp a1] at a2
        exact k1 ⟨a1, a2⟩
      simp only [c148, if_false] at f148'
      rw [es.trans (if_neg (fun h => k1 h.1))]
      refine ⟨μ, ?_, SB.rf, fun A' h => by cases h⟩
      show rn (d + 6) 167 0 [some (Sum.inr (Sum.inl (69))), some (Sum.inl (E 110)), none, none, none, none] [] μ = _
      simp only [st167_0, st167_1, st167_2, st167_3, st167_4, st167_5, st167_6, st167_7, st167_8, st167_9, st167_10, st167_11, st167_77, st167_78, st167_79, st167_80, st167_81, st167_82, st167_83, st167_84, st167_85, st167_86, st167_87, st167_88, st167_89, st167_90, st167_91, st167_92, st167_93, st167_94, st167_95, st167_96, st167_97, st167_98, st167_99, st167_100, st167_101, st167_102, st167_103, st167_104, st167_105, st167_106, st167_107, m1, m12, t10, l10, z00, z01, zn0, zn1, show (0 : Nat) < 3 from by decide, show (1 : Nat) < 3 from by decide, gx, gy', show (E 110 = (98 : Int32)) = False from eq_false (by decide), show (E 110 = (110 : Int32)) = True from eq_true rfl, f148', true_or, Option.isSome_none, show (false = true) = False from eq_false (by decide), aft_some, Option.toList_some, Option.toList_none, List.cons_append, List.nil_append, br0, br1, br2, br3, zr01, zr02, n10, n01, ne_eq, not_true_eq_false, not_false_eq_true, if_true, if_false, true_and, and_true, and_self]
  · subst q
    have es : stD A 111 x y z = if (x < bcA A ∧ y < pgA A x) ∧ (inA A x).testBit y = true then some (loB A x y) else none := rfl
    have gy' := gy (by decide)
    have f148' := fun d => f148 (d := d) (x := E x) (y := E y) hm0 hw hq
    have lp : x < bcA A → (E y < E (pgA A x)) = (y < pgA A x) := fun h => E_ltE (by omega) (by have := hw.pg9 x; omega)
    by_cases k1 : x < bcA A ∧ y < pgA A x
    · have c148 : ((0 ≤ E x ∧ E x < E (bcA A)) ∧ 0 ≤ E y ∧ E y < E (pgA A (E x).toNatClampNeg)) = True := by rw [x9]; exact eq_true ⟨⟨E_nonneg (by omega), by rw [lb]; exact k1.1⟩, E_nonneg (by omega), by rw [lp k1.1]; exact k1.2⟩
      simp only [c148, if_true] at f148'
      have y8 : y < 8 := by have := hw.pg9 x; omega
      have hbk := hq.bk hw k1.1
      have f149' := fun d => f149 (d := d) y8 hm0 hbk
      have f161' := fun d => f161 (d := d) (to := -4) y8 hm0 hbk
      by_cases k2 : (inA A x).testBit y = true
      · rw [es.trans (if_pos ⟨k1, k2⟩)]
        refine ⟨_, ?_, SB.se2, fun A' h => by cases h; exact loB_mr hw hM k1.1 y8⟩
        show rn (d + 6) 167 0 [some (Sum.inr (Sum.inl (69))), some (Sum.inl (E 111)), none, none, none, none] [] μ = _
        simp only [st167_0, st167_1, st167_2, st167_3, st167_4, st167_5, st167_6, st167_7, st167_8, st167_9, st167_10, st167_11, st167_120, st167_121, st167_122, st167_123, st167_124, st167_125, st167_126, st167_127, st167_128, st167_129, st167_130, st167_131, st167_132, st167_133, st167_134, st167_135, st167_136, st167_137, st167_138, m1, m12, t10, l10, z00, z01, zn0, zn1, show (0 : Nat) < 3 from by decide, show (1 : Nat) < 3 from by decide, gx, gy', show (E 111 = (98 : Int32)) = False from eq_false (by decide), show (E 111 = (110 : Int32)) = False from eq_false (by decide), show (E 111 = (111 : Int32)) = True from eq_true rfl, f148', f149', k2, f161', or_true, Option.isSome_some, aft_some, Option.toList_some, Option.toList_none, List.cons_append, List.nil_append, br0, br1, br2, br3, zr01, zr02, n10, n01, ne_eq, not_true_eq_false, not_false_eq_true, if_true, if_false, true_and, and_true, and_self]
      · rw [es.trans (if_neg (fun h => k2 h.2))]
        refine ⟨μ, ?_, SB.rf, fun A' h => by cases h⟩
        show rn (d + 6) 167 0 [some (Sum.inr (Sum.inl (69))), some (Sum.inl (E 111)), none, none, none, none] [] μ = _
        simp only [st167_0, st167_1, st167_2, st167_3, st167_4, st167_5, st167_6, st167_7, st167_8, st167_9, st167_10, st167_11, st167_120, st167_121, st167_122, st167_123, st167_124, st167_125, st167_126, st167_127, st167_128, st167_129, st167_130, st167_131, st167_132, st167_133, st167_134, st167_135, st167_136, st167_137, st167_138, m1, m12, t10, l10, z00, z01, zn0, zn1, show (0 : Nat) < 3 from by decide, show (1 : Nat) < 3 from by decide, gx, gy', show (E 111 = (98 : Int32)) = False from eq_false (by decide), show (E 111 = (110 : Int32)) = False from eq_false (by decide), show (E 111 = (111 : Int32)) = True from eq_true rfl, f148', f149', k2, true_or, Option.isSome_none, show (false = true) = False from eq_false (by decide), aft_some, Option.toList_some, Option.toList_none, List.cons_append, List.nil_append, br0, br1, br2, br3, zr01, zr02, n10, n01, ne_eq, not_true_eq_false, not_false_eq_true, if_true, if_false, true_and, and_true, and_self]
    · have c148 : ((0 ≤ E x ∧ E x < E (bcA A)) ∧ 0 ≤ E y ∧ E y < E (pgA A (E x).toNatClampNeg)) = False := eq_false fun h => by
        rw [x9] at h
        have a1 : x < bcA A := by have := h.1.2; rw [lb] at this; exact this
        have a2 := h.2.2
        rw [lp a1] at a2
        exact k1 ⟨a1, a2⟩
      simp only [c148, if_false] at f148'
      rw [es.trans (if_neg (fun h => k1 h.1))]
      refine ⟨μ, ?_, SB.rf, fun A' h => by cases h⟩
      show rn (d + 6) 167 0 [some (Sum.inr (Sum.inl (69))), some (Sum.inl (E 111)), none, none, none, none] [] μ = _
      simp only [st167_0, st167_1, st167_2, st167_3, st167_4, st167_5, st167_6, st167_7, st167_8, st167_9, st167_10, st167_11, st167_120, st167_121, st167_122, st167_123, st167_124, st167_125, st167_126, st167_127, st167_128, st167_129, st167_130, st167_131, st167_132, st167_133, st167_134, st167_135, st167_136, st167_137, st167_138, m1, m12, t10, l10, z00, z01, zn0, zn1, show (0 : Nat) < 3 from by decide, show (1 : Nat) < 3 from by decide, gx, gy', show (E 111 = (98 : Int32)) = False from eq_false (by decide), show (E 111 = (110 : Int32)) = False from eq_false (by decide), show (E 111 = (111 : Int32)) = True from eq_true rfl, f148', true_or, Option.isSome_none, show (false = true) = False from eq_false (by decide), aft_some, Option.toList_some, Option.toList_none, List.cons_append, List.nil_append, br0, br1, br2, br3, zr01, zr02, n10, n01, ne_eq, not_true_eq_false, not_false_eq_true, if_true, if_false, true_and, and_true, and_self]
  · subst q
    have es : stD A 114 x y z = if x < 8 ∧ rcA A < 6 then some (adR A x y) else none := rfl
    have gy' := gy (by decide)
    have n8 : ((8 : Int32) ≤ E x) = (8 ≤ x) := by rw [show (8 : Int32) = E 8 from rfl]; exact E_leE (by decide) (by omega)
    by_cases kx : x < 8
    · by_cases kr : rcA A < 6
      · obtain ⟨μ1, a1, a2, a3⟩ := f166 (d := d + 5) (k := x) (f := y) hm0 hw hM kr
        rw [es.trans (if_pos ⟨kx, kr⟩)]
        refine ⟨μ1, ?_, a2, fun A' h => by cases h; exact a3⟩
        show rn (d + 6) 167 0 [some (Sum.inr (Sum.inl (69))), some (Sum.inl (E 114)), none, none, none, none] [] μ = _
        simp only [st167_0, st167_1, st167_2, st167_3, st167_4, st167_5, st167_6, st167_7, st167_8, st167_9, st167_10, st167_11, st167_108, st167_109, st167_110, st167_111, st167_112, st167_113, st167_114, st167_115, st167_116, st167_117, st167_118, st167_119, m1, m12, t10, l10, z00, z01, zn0, zn1, show (0 : Nat) < 3 from by decide, show (1 : Nat) < 3 from by decide, gx, gy', show (E 114 = (98 : Int32)) = False from eq_false (by decide), show (E 114 = (110 : Int32)) = False from eq_false (by decide), show (E 114 = (111 : Int32)) = False from eq_false (by decide), show (E 114 = (114 : Int32)) = True from eq_true rfl, n8, show ¬ 8 ≤ x by omega, a1, or_true, Option.isSome_some, aft_some, Option.toList_some, Option.toList_none, List.cons_append, List.nil_append, br0, br1, br2, br3, zr01, zr02, n10, n01, ne_eq, not_true_eq_false, not_false_eq_true, if_true, if_false, true_and, and_true, and_self]
      · rw [es.trans (if_neg (fun h => kr h.2))]
        refine ⟨μ, ?_, SB.rf, fun A' h => by cases h⟩
        have f166' := fun (d : Nat) (x y : Int32) => f166n (d := d) (x := x) (y := y) hm0 hM.2.1 (show rcA A = 6 by omega)
        show rn (d + 6) 167 0 [some (Sum.inr (Sum.inl (69))), some (Sum.inl (E 114)), none, none, none, none] [] μ = _
        simp only [st167_0, st167_1, st167_2, st167_3, st167_4, st167_5, st167_6, st167_7, st167_8, st167_9, st167_10, st167_11, st167_108, st167_109, st167_110, st167_111, st167_112, st167_113, st167_114, st167_115, st167_116, st167_117, st167_118, st167_119, m1, m12, t10, l10, z00, z01, zn0, zn1, show (0 : Nat) < 3 from by decide, show (1 : Nat) < 3 from by decide, gx, gy', show (E 114 = (98 : Int32)) = False from eq_false (by decide), show (E 114 = (110 : Int32)) = False from eq_false (by decide), show (E 114 = (111 : Int32)) = False from eq_false (by decide), show (E 114 = (114 : Int32)) = True from eq_true rfl, n8, show ¬ 8 ≤ x by omega, f166', true_or, Option.isSome_none, show (false = true) = False from eq_false (by decide), aft_some, Option.toList_some, Option.toList_none, List.cons_append, List.nil_append, br0, br1, br2, br3, zr01, zr02, n10, n01, ne_eq, not_true_eq_false, not_false_eq_true, if_true, if_false, true_and, and_true, and_self]
    · rw [es.trans (if_neg (fun h => kx h.1))]
      refine ⟨μ, ?_, SB.rf, fun A' h => by cases h⟩
      show rn (d + 6) 167 0 [some (Sum.inr (Sum.inl (69))), some (Sum.inl (E 114)), none, none, none, none] [] μ = _
      simp only [st167_0, st167_1, st167_2, st167_3, st167_4, st167_5, st167_6, st167_7, st167_8, st167_9, st167_10, st167_11, st167_108, st167_109, st167_110, st167_111, st167_112, st167_113, st167_114, st167_115, st167_116, st167_117, st167_118, st167_119, m1, m12, t10, l10, z00, z01, zn0, zn1, show (0 : Nat) < 3 from by decide, show (1 : Nat) < 3 from by decide, gx, gy', show (E 114 = (98 : Int32)) = False from eq_false (by decide), show (E 114 = (110 : Int32)) = False from eq_false (by decide), show (E 114 = (111 : Int32)) = False from eq_false (by decide), show (E 114 = (114 : Int32)) = True from eq_true rfl, n8, show 8 ≤ x by omega, true_or, Option.isSome_none, show (false = true) = False from eq_false (by decide), aft_some, Option.toList_some, Option.toList_none, List.cons_append, List.nil_append, br0, br1, br2, br3, zr01, zr02, n10, n01, ne_eq, not_true_eq_false, not_false_eq_true, if_true, if_false, true_and, and_true, and_self]
  · subst q
    have es : stD A 120 x y z = if x < rcA A ∧ y < bcA A then some (rdA A x y) else none := rfl
    have gy' := gy (by decide)
    by_cases k1 : x < rcA A
    · by_cases k2 : y < bcA A
      · obtain ⟨μ1, a1, a2, a3⟩ := f162r (d := d + 1) hm0 hw hM k1 k2
        rw [es.trans (if_pos ⟨k1, k2⟩)]
        refine ⟨μ1, ?_, a2, fun A' h => by cases h; exact a3⟩
        show rn (d + 6) 167 0 [some (Sum.inr (Sum.inl (69))), some (Sum.inl (E 120)), none, none, none, none] [] μ = _
        simp only [st167_0, st167_1, st167_2, st167_3, st167_4, st167_5, st167_6, st167_7, st167_8, st167_9, st167_10, st167_11, st167_139, st167_140, st167_141, st167_142, st167_143, st167_144, st167_145, st167_146, st167_147, st167_148, st167_149, st167_150, st167_151, st167_152, st167_153, st167_154, st167_155, m1, m12, t10, l10, z00, z01, zn0, zn1, show (0 : Nat) < 3 from by decide, show (1 : Nat) < 3 from by decide, gx, gy', show (E 120 = (98 : Int32)) = False from eq_false (by decide), show (E 120 = (110 : Int32)) = False from eq_false (by decide), show (E 120 = (111 : Int32)) = False from eq_false (by decide), show (E 120 = (114 : Int32)) = False from eq_false (by decide), f142 hm0 hw hM.2.1, f141 hm0 hw hM.1, x0, y0, lr, lby, k1, k2, a1, or_true, Option.isSome_some, aft_some, Option.toList_some, Option.toList_none, List.cons_append, List.nil_append, br0, br1, br2, br3, zr01, zr02, n10, n01, ne_eq, not_true_eq_false, not_false_eq_true, if_true, if_false, true_and, and_true, and_self]
      · rw [es.trans (if_neg (fun h => k2 h.2))]
        refine ⟨μ, ?_, SB.rf, fun A' h => by cases h⟩
        show rn (d + 6) 167 0 [some (Sum.inr (Sum.inl (69))), some (Sum.inl (E 120)), none, none, none, none] [] μ = _
        simp only [st167_0, st167_1, st167_2, st167_3, st167_4, st167_5, st167_6, st167_7, st167_8, st167_9, st167_10, st167_11, st167_139, st167_140, st167_141, st167_142, st167_143, st167_144, st167_145, st167_146, st167_147, st167_148, st167_149, st167_150, st167_151, st167_152, st167_153, st167_154, st167_155, m1, m12, t10, l10, z00, z01, zn0, zn1, show (0 : Nat) < 3 from by decide, show (1 : Nat) < 3 from by decide, gx, gy', show (E 120 = (98 : Int32)) = False from eq_false (by decide), show (E 120 = (110 : Int32)) = False from eq_false (by decide), show (E 120 = (111 : Int32)) = False from eq_false (by decide), show (E 120 = (114 : Int32)) = False from eq_false (by decide), f142 hm0 hw hM.2.1, f141 hm0 hw hM.1, x0, y0, lr, lby, k1, k2, and_false, true_or, Option.isSome_none, show (false = true) = False from eq_false (by decide), aft_some, Option.toList_some, Option.toList_none, List.cons_append, List.nil_append, br0, br1, br2, br3, zr01, zr02, n10, n01, ne_eq, not_true_eq_false, not_false_eq_true, if_true, if_false, true_and, and_true, and_self]
    · rw [es.trans (if_neg (fun h => k1 h.1))]
      refine ⟨μ, ?_, SB.rf, fun A' h => by cases h⟩
      show rn (d + 6) 167 0 [some (Sum.inr (Sum.inl (69))), some (Sum.inl (E 120)), none, none, none, none] [] μ = _
      simp only [st167_0, st167_1, st167_2, st167_3, st167_4, st167_5, st167_6, st167_7, st167_8, st167_9, st167_10, st167_11, st167_139, st167_140, st167_141, st167_142, st167_143, st167_144, st167_145, st167_146, st167_147, st167_148, st167_149, st167_150, st167_151, st167_152, st167_153, st167_154, st167_155, m1, m12, t10, l10, z00, z01, zn0, zn1, show (0 : Nat) < 3 from by decide, show (1 : Nat) < 3 from by decide, gx, gy', show (E 120 = (98 : Int32)) = False from eq_false (by decide), show (E 120 = (110 : Int32)) = False from eq_false (by decide), show (E 120 = (111 : Int32)) = False from eq_false (by decide), show (E 120 = (114 : Int32)) = False from eq_false (by decide), f142 hm0 hw hM.2.1, x0, lr, k1, and_false, true_or, Option.isSome_none, show (false = true) = False from eq_false (by decide), aft_some, Option.toList_some, Option.toList_none, List.cons_append, List.nil_append, br0, br1, br2, br3, zr01, zr02, n10, n01, ne_eq, not_true_eq_false, not_false_eq_true, if_true, if_false, true_and, and_true, and_self]
