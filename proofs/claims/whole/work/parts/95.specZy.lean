/-! SPECS ZY: a statement done, the class -/
theorem f71z {d T : Nat} {μ : SMem} : cl d 71 [Sum.inr (Sum.inl (T)), Sum.inr (Sum.inl (0))] μ = some (Sum.inl (some (Sum.inl (0))), μ) := by
  show rn d 71 0 [some (Sum.inr (Sum.inl (T))), some (Sum.inr (Sum.inl (0)))] [] μ = _
  simp only [st71_0, st71_1, st71_2, st71_3, st71_4, st71_5, st71_6, st71_7, st71_8, st71_9, st71_10, st71_11, st71_12, st71_13, st71_14, st71_15, st71_16, st71_17, st71_18, st71_19, st71_20, st71_21, true_or, aft_some, Option.toList_some, Option.toList_none, List.cons_append, List.nil_append, br0, br1, br2, br3, zr01, zr02, n10, n01, ne_eq, not_true_eq_false, not_false_eq_true, if_true, if_false, true_and, and_true, and_self]
theorem f69 {d e i c x y z : Nat} {T : Nat} {A : AT} {H : HT} {μ : SMem} (hT3 : 3 ≤ T) (he : e < 8) (hc : CAo μ) (hH : HWF H) (hC : ShC μ e H) (hk : hkt H = 2) (hw : WF A) (ht : TwC μ T A) (h2 : 2 ≤ sz μ) (hu : ∀ c, sz μ ≤ c → tg μ c = 99) (hi : i + 2 < hsz H) (hx : x < 10) (hy : y < 10) (hz : z < 10) (ec : hel H i = E c) (ex : hel H (i + 1) = E (48 + x)) (ey : c ≠ 98 → hel H (i + 2) = E (48 + y)) (ez : c = 110 → i + 3 < hsz H ∧ hel H (i + 3) = E (48 + z)) (hcc : c = 98 ∨ c = 110 ∨ c = 111 ∨ c = 114 ∨ c = 120) : ∃ μ', cl (d + 6) 69 [Sum.inr (Sum.inl (T)), Sum.inr (Sum.inl (53 + 2 * e)), Sum.inl (E i)] μ = some (Sum.inl (some (Sum.inl (if (stD A c x y z).isSome = true then 1 else 0))), μ') ∧ SG (fun c j => T ≤ c ∧ c ≤ T + 14) (fun c j => c = T + 2) μ μ' ∧ (sz μ' ≤ sz μ + 1 ∧ sl μ' ≤ sl μ + 1) ∧ (∀ A', stD A c x y z = some A' → TwC μ' T A') ∧ TwS μ' T := by
  have hn := hH.2.2.1
  have w1 := hw.1
  have w2 := hw.2.1
  have c1 : (0 ≤ E (i + 1) ∧ E (i + 1) < E (hsz H)) = True := eq_true ((inr (by omega) (by omega)).mpr (by omega))
  have c2 : (0 ≤ E (i + 2) ∧ E (i + 2) < E (hsz H)) = True := eq_true ((inr (by omega) (by omega)).mpr (by omega))
  have c0 : (0 ≤ E i ∧ E i < E (hsz H)) = True := eq_true ((inr (by omega) (by omega)).mpr (by omega))
  have p1 : E i + 1 = E (i + 1) := E_add i 1
  have p2 : E i + 2 = E (i + 2) := E_add i 2
  have p3 : E i + 3 = E (i + 3) := E_add i 3
  have sx : E (48 + x) - 48 = E x := by rw [show (48 : Int32) = E 48 from rfl, E_sub (by omega)]; congr 1; omega
  have sy : E (48 + y) - 48 = E y := by rw [show (48 : Int32) = E 48 from rfl, E_sub (by omega)]; congr 1; omega
  have sz9 : E (48 + z) - 48 = E z := by rw [show (48 : Int32) = E 48 from rfl, E_sub (by omega)]; congr 1; omega
  have x9 := E_n (show x < 1000 by omega)
  have y9 := E_n (show y < 1000 by omega)
  have x0 := E_ge0 (show x < 1000 by omega)
  have y0 := E_ge0 (show y < 1000 by omega)
  have z0 := E_ge0 (show z < 1000 by omega)
  have lb : (E x < E (bcA A)) = (x < bcA A) := E_ltE (by omega) (by omega)
  have f57' := fun (d : Nat) (v : Int32) => f57 (d := d) (x := v) he hc hH hC hk
  have f67' := fun (d : Nat) (v : Int32) => f67 (d := d) (x := v) hw ht
  have t0 : tg μ T = 10 := ht.1.1
  have t8 := (hc.2.2.2.2.2.2.2.2.2.2.2 e he).2.1
  have rf : SG (fun c j => T ≤ c ∧ c ≤ T + 14) (fun c j => c = T + 2) μ μ := SG.rf hu
  rcases hcc with q | q | q | q | q
  · subst q
    have es : stD A 98 x y z = if (1 ≤ x ∧ x < 9) ∧ bcA A < 4 then some (adB A x) else none := rfl
    by_cases k : (1 ≤ x ∧ x < 9) ∧ bcA A < 4
    · obtain ⟨μ1, a1, a2, a3⟩ := f70 (d := d + 3) hw ht k.1.1 k.1.2 k.2
      rw [es.trans (if_pos k)]
      refine ⟨μ1, ?_, SG.sb hu a2 (fun c j e => e), ⟨by rw [a2.2.2.2.2.1]; omega, by rw [a2.2.2.2.2.2.1]; omega⟩, (fun A' h => by cases h; exact a3), a3.1⟩
      show rn (d + 6) 69 0 [some (Sum.inr (Sum.inl (T))), some (Sum.inr (Sum.inl (53 + 2 * e))), some (Sum.inl (E i)), none, none, none] [] μ = _
      simp only [st69_0, st69_1, st69_2, st69_3, st69_4, st69_5, st69_6, st69_7, st69_8, st69_9, st69_10, st69_11, st69_12, st69_13, st69_14, st69_15, st69_16, st69_17, st69_18, st69_19, st69_20, st69_21, st69_22, st69_23, st69_24, st69_25, st69_26, st69_27, t8, t0, p1, p2, f57', c0, c1, c2, E_n (show i < 1000 by omega), E_n (show i + 1 < 1000 by omega), E_n (show i + 2 < 1000 by omega), ex, ec, sx, f67', show (E 98 = (98 : Int32)) = True from eq_true rfl, a1, or_true, Option.isSome_some, aft_some, Option.toList_some, Option.toList_none, List.cons_append, List.nil_append, br0, br1, br2, br3, zr01, zr02, n10, n01, ne_eq, not_true_eq_false, not_false_eq_true, if_true, if_false, true_and, and_true, and_self]
    · have k' : ¬ ((1 ≤ E x ∧ E x ≤ 8) ∧ bcA A < 4) := fun h => k ⟨⟨by
          have := h.1.1; rw [E_1le (by omega)] at this; exact this, by
          have := h.1.2; rw [show (8 : Int32) = E 8 from rfl, E_leE (by omega) (by decide)] at this; omega⟩, h.2⟩
      rw [es.trans (if_neg k)]
      refine ⟨μ, ?_, rf, ⟨by omega, by omega⟩, (fun A' h => by cases h), ht.1⟩
      show rn (d + 6) 69 0 [some (Sum.inr (Sum.inl (T))), some (Sum.inr (Sum.inl (53 + 2 * e))), some (Sum.inl (E i)), none, none, none] [] μ = _
      simp only [st69_0, st69_1, st69_2, st69_3, st69_4, st69_5, st69_6, st69_7, st69_8, st69_9, st69_10, st69_11, st69_12, st69_13, st69_14, st69_15, st69_16, st69_17, st69_18, st69_19, st69_20, st69_21, st69_22, st69_23, st69_24, st69_25, st69_26, st69_27, t8, t0, p1, p2, f57', c0, c1, c2, E_n (show i < 1000 by omega), E_n (show i + 1 < 1000 by omega), E_n (show i + 2 < 1000 by omega), ex, ec, sx, f67', show (E 98 = (98 : Int32)) = True from eq_true rfl, f70n hw ht k', true_or, Option.isSome_none, show (false = true) = False from eq_false (by decide), aft_some, Option.toList_some, Option.toList_none, List.cons_append, List.nil_append, br0, br1, br2, br3, zr01, zr02, n10, n01, ne_eq, not_true_eq_false, not_false_eq_true, if_true, if_false, true_and, and_true, and_self]
  · subst q
    have es : stD A 110 x y z = if (x < bcA A ∧ y < pgA A x) ∧ z < y then some (ndB A x y z) else none := rfl
    have ey' := ey (by decide)
    obtain ⟨i3, ez'⟩ := ez rfl
    have c3 : (0 ≤ E (i + 3) ∧ E (i + 3) < E (hsz H)) = True := eq_true ((inr (by omega) (by omega)).mpr (by omega))
    by_cases kx : x < bcA A
    · have x4 : x < 4 := by omega
      have bk := (ht.bk x4).1
      obtain ⟨u1, u2, u3, u4⟩ := ht.2.2.2.2.1 x x4
      have v2 := hw.pg9 x
      have a0 : (T + 3 + 3 * x = 0) = False := eq_false (by omega)
      have f12' := fun d => f12 (d := d) (x := E y) (y := E z) v2 bk u1
      have lp : (E y < E (pgA A x)) = (y < pgA A x) := E_ltE (by omega) (by omega)
      have lz : (E z < E y) = (z < y) := E_ltE (by omega) (by omega)
      by_cases k : y < pgA A x ∧ z < y
      · obtain ⟨a2, a3⟩ := ndB_tw (T := T) (b := x) (p := y) (q := z) hw ht x4
        rw [es.trans (if_pos ⟨⟨kx, k.1⟩, k.2⟩)]
        refine ⟨_, ?_, SG.sb hu a2 (fun c j e => e), ⟨Nat.le_succ _, Nat.le_succ _⟩, (fun A' h => by cases h; exact a3), a3.1⟩
        show rn (d + 6) 69 0 [some (Sum.inr (Sum.inl (T))), some (Sum.inr (Sum.inl (53 + 2 * e))), some (Sum.inl (E i)), none, none, none] [] μ = _
        simp only [st69_0, st69_1, st69_2, st69_3, st69_4, st69_5, st69_6, st69_7, st69_8, st69_9, st69_10, st69_11, st69_12, st69_13, st69_14, st69_15, st69_16, st69_17, st69_18, st69_19, st69_20, st69_21, st69_22, st69_23, st69_24, st69_25, st69_26, st69_27, st69_28, st69_29, st69_30, st69_31, st69_32, st69_33, st69_34, st69_35, st69_36, st69_37, st69_38, st69_39, st69_40, st69_41, st69_42, st69_43, st69_44, t8, t0, p1, p2, p3, f57', c0, c1, c2, c3, E_n (show i < 1000 by omega), E_n (show i + 1 < 1000 by omega), E_n (show i + 2 < 1000 by omega), E_n (show i + 3 < 1000 by omega), ex, ec, ey', ez', sx, sy, sz9, f67', show (E 110 = (98 : Int32)) = False from eq_false (by decide), show (E 110 = (110 : Int32)) = True from eq_true rfl, x0, lb, kx, x9, a0, bk.1, f12', y0, lp, z0, lz, k, y9, or_true, Option.isSome_some, aft_some, Option.toList_some, Option.toList_none, List.cons_append, List.nil_append, br0, br1, br2, br3, zr01, zr02, n10, n01, ne_eq, not_true_eq_false, not_false_eq_true, if_true, if_false, true_and, and_true, and_self]
      · rw [es.trans (if_neg (fun h => k ⟨h.1.2, h.2⟩))]
        refine ⟨μ, ?_, rf, ⟨by omega, by omega⟩, (fun A' h => by cases h), ht.1⟩
        show rn (d + 6) 69 0 [some (Sum.inr (Sum.inl (T))), some (Sum.inr (Sum.inl (53 + 2 * e))), some (Sum.inl (E i)), none, none, none] [] μ = _
        simp only [st69_0, st69_1, st69_2, st69_3, st69_4, st69_5, st69_6, st69_7, st69_8, st69_9, st69_10, st69_11, st69_12, st69_13, st69_14, st69_15, st69_16, st69_17, st69_18, st69_19, st69_20, st69_21, st69_22, st69_23, st69_24, st69_25, st69_26, st69_27, st69_28, st69_29, st69_30, st69_31, st69_32, st69_33, st69_34, st69_35, st69_36, st69_37, st69_38, st69_39, st69_40, st69_41, st69_42, st69_43, st69_44, t8, t0, p1, p2, p3, f57', c0, c1, c2, c3, E_n (show i < 1000 by omega), E_n (show i + 1 < 1000 by omega), E_n (show i + 2 < 1000 by omega), E_n (show i + 3 < 1000 by omega), ex, ec, ey', ez', sx, sy, sz9, f67', show (E 110 = (98 : Int32)) = False from eq_false (by decide), show (E 110 = (110 : Int32)) = True from eq_true rfl, x0, lb, kx, x9, a0, bk.1, f12', y0, lp, z0, lz, k, y9, true_or, Option.isSome_none, show (false = true) = False from eq_false (by decide), aft_some, Option.toList_some, Option.toList_none, List.cons_append, List.nil_append, br0, br1, br2, br3, zr01, zr02, n10, n01, ne_eq, not_true_eq_false, not_false_eq_true, if_true, if_false, true_and, and_true, and_self]
    · rw [es.trans (if_neg (fun h => kx h.1.1))]
      refine ⟨μ, ?_, rf, ⟨by omega, by omega⟩, (fun A' h => by cases h), ht.1⟩
      show rn (d + 6) 69 0 [some (Sum.inr (Sum.inl (T))), some (Sum.inr (Sum.inl (53 + 2 * e))), some (Sum.inl (E i)), none, none, none] [] μ = _
      simp only [st69_0, st69_1, st69_2, st69_3, st69_4, st69_5, st69_6, st69_7, st69_8, st69_9, st69_10, st69_11, st69_12, st69_13, st69_14, st69_15, st69_16, st69_17, st69_18, st69_19, st69_20, st69_21, st69_22, st69_23, st69_24, st69_25, st69_26, st69_27, st69_28, st69_29, st69_30, st69_31, st69_32, st69_33, st69_34, st69_35, st69_36, st69_37, st69_38, st69_39, st69_40, st69_41, st69_42, st69_43, st69_44, t8, t0, p1, p2, p3, f57', c0, c1, c2, c3, E_n (show i < 1000 by omega), E_n (show i + 1 < 1000 by omega), E_n (show i + 2 < 1000 by omega), E_n (show i + 3 < 1000 by omega), ex, ec, ey', ez', sx, sy, sz9, f67', show (E 110 = (98 : Int32)) = False from eq_false (by decide), show (E 110 = (110 : Int32)) = True from eq_true rfl, x0, lb, kx, and_false, true_or, Option.isSome_none, show (false = true) = False from eq_false (by decide), aft_some, Option.toList_some, Option.toList_none, List.cons_append, List.nil_append, br0, br1, br2, br3, zr01, zr02, n10, n01, ne_eq, not_true_eq_false, not_false_eq_true, if_true, if_false, true_and, and_true, and_self]
  · subst q
    have es : stD A 111 x y z = if (x < bcA A ∧ y < pgA A x) ∧ (inA A x).testBit y = true then some (loB A x y) else none := rfl
    have ey' := ey (by decide)
    by_cases kx : x < bcA A
    · have x4 : x < 4 := by omega
      have bk := (ht.bk x4).1
      obtain ⟨u1, u2, u3, u4⟩ := ht.2.2.2.2.1 x x4
      have v2 := hw.pg9 x
      have a0 : (T + 3 + 3 * x = 0) = False := eq_false (by omega)
      have f13' := fun d => f13 (d := d) (x := E y) (y := -4) v2 (hw.in9 x) bk u1 u2
      have lp : (E y < E (pgA A x)) = (y < pgA A x) := E_ltE (by omega) (by omega)
      by_cases k : y < pgA A x ∧ (inA A x).testBit y = true
      · obtain ⟨a2, a3⟩ := loB_tw (T := T) (b := x) (p := y) hw ht x4
        rw [es.trans (if_pos ⟨⟨kx, k.1⟩, k.2⟩)]
        refine ⟨_, ?_, SG.sb hu a2 (fun c j e => e), ⟨Nat.le_succ _, Nat.le_succ _⟩, (fun A' h => by cases h; exact a3), a3.1⟩
        show rn (d + 6) 69 0 [some (Sum.inr (Sum.inl (T))), some (Sum.inr (Sum.inl (53 + 2 * e))), some (Sum.inl (E i)), none, none, none] [] μ = _
        simp only [st69_0, st69_1, st69_2, st69_3, st69_4, st69_5, st69_6, st69_7, st69_8, st69_9, st69_10, st69_11, st69_12, st69_13, st69_14, st69_15, st69_16, st69_17, st69_18, st69_19, st69_20, st69_21, st69_22, st69_23, st69_51, st69_52, st69_53, st69_54, st69_55, st69_56, st69_57, st69_58, st69_59, st69_60, st69_61, t8, t0, p1, p2, f57', c0, c1, c2, E_n (show i < 1000 by omega), E_n (show i + 1 < 1000 by omega), E_n (show i + 2 < 1000 by omega), ex, ec, ey', sx, sy, f67', show (E 111 = (98 : Int32)) = False from eq_false (by decide), show (E 111 = (110 : Int32)) = False from eq_false (by decide), show (E 111 = (111 : Int32)) = True from eq_true rfl, x0, lb, kx, x9, a0, bk.1, f13', y0, lp, k, y9, or_true, Option.isSome_some, aft_some, Option.toList_some, Option.toList_none, List.cons_append, List.nil_append, br0, br1, br2, br3, zr01, zr02, n10, n01, ne_eq, not_true_eq_false, not_false_eq_true, if_true, if_false, true_and, and_true, and_self]
      · have k2 : ¬ (((0 : Int32) ≤ E y ∧ E y < E (pgA A x)) ∧ (inA A x).testBit (E y).toNatClampNeg = true) := fun h => k ⟨by rw [← lp]; exact h.1.2, by have := h.2; rw [y9] at this; exact this⟩
        rw [es.trans (if_neg (fun h => k ⟨h.1.2, h.2⟩))]
        simp only [k2, if_false] at f13'
        refine ⟨μ, ?_, rf, ⟨by omega, by omega⟩, (fun A' h => by cases h), ht.1⟩
        show rn (d + 6) 69 0 [some (Sum.inr (Sum.inl (T))), some (Sum.inr (Sum.inl (53 + 2 * e))), some (Sum.inl (E i)), none, none, none] [] μ = _
        simp only [st69_0, st69_1, st69_2, st69_3, st69_4, st69_5, st69_6, st69_7, st69_8, st69_9, st69_10, st69_11, st69_12, st69_13, st69_14, st69_15, st69_16, st69_17, st69_18, st69_19, st69_20, st69_21, st69_22, st69_23, st69_51, st69_52, st69_53, st69_54, st69_55, st69_56, st69_57, st69_58, st69_59, st69_60, st69_61, t8, t0, p1, p2, f57', c0, c1, c2, E_n (show i < 1000 by omega), E_n (show i + 1 < 1000 by omega), E_n (show i + 2 < 1000 by omega), ex, ec, ey', sx, sy, f67', show (E 111 = (98 : Int32)) = False from eq_false (by decide), show (E 111 = (110 : Int32)) = False from eq_false (by decide), show (E 111 = (111 : Int32)) = True from eq_true rfl, x0, lb, kx, x9, a0, bk.1, f13', true_or, Option.isSome_none, show (false = true) = False from eq_false (by decide), aft_some, Option.toList_some, Option.toList_none, List.cons_append, List.nil_append, br0, br1, br2, br3, zr01, zr02, n10, n01, ne_eq, not_true_eq_false, not_false_eq_true, if_true, if_false, true_and, and_true, and_self]
    · rw [es.trans (if_neg (fun h => kx h.1.1))]
      refine ⟨μ, ?_, rf, ⟨by omega, by omega⟩, (fun A' h => by cases h), ht.1⟩
      show rn (d + 6) 69 0 [some (Sum.inr (Sum.inl (T))), some (Sum.inr (Sum.inl (53 + 2 * e))), some (Sum.inl (E i)), none, none, none] [] μ = _
      simp only [st69_0, st69_1, st69_2, st69_3, st69_4, st69_5, st69_6, st69_7, st69_8, st69_9, st69_10, st69_11, st69_12, st69_13, st69_14, st69_15, st69_16, st69_17, st69_18, st69_19, st69_20, st69_21, st69_22, st69_23, st69_51, st69_52, st69_53, st69_54, st69_55, st69_56, st69_57, st69_58, st69_59, st69_60, st69_61, t8, t0, p1, p2, f57', c0, c1, c2, E_n (show i < 1000 by omega), E_n (show i + 1 < 1000 by omega), E_n (show i + 2 < 1000 by omega), ex, ec, ey', sx, sy, f67', show (E 111 = (98 : Int32)) = False from eq_false (by decide), show (E 111 = (110 : Int32)) = False from eq_false (by decide), show (E 111 = (111 : Int32)) = True from eq_true rfl, x0, lb, kx, and_false, true_or, Option.isSome_none, show (false = true) = False from eq_false (by decide), aft_some, Option.toList_some, Option.toList_none, List.cons_append, List.nil_append, br0, br1, br2, br3, zr01, zr02, n10, n01, ne_eq, not_true_eq_false, not_false_eq_true, if_true, if_false, true_and, and_true, and_self]
  · subst q
    have es : stD A 114 x y z = if x < 8 ∧ rcA A < 6 then some (adR A x y) else none := rfl
    have ey' := ey (by decide)
    have f67r := fun (d : Nat) (v : Int32) => f67 (d := d) (x := v) hw ht
    by_cases kx : x < 8
    · obtain ⟨μa, b1, b2, b3, b4, b5⟩ := f136 (d := d + 2) kx hy h2 hu
      have hta := ht.sg b2 (fun c j q => q.elim) (fun c j q => q.elim)
      have hua := b2.2.2.2.2.2
      have sA : SG (fun c j => T ≤ c ∧ c ≤ T + 14) (fun c j => c = T + 2) μ μa := b2.wk (fun c j q => q.elim) (fun c j q => q.elim)
      by_cases kr : rcA A < 6
      · obtain ⟨μ1, a1, a2, ⟨a3, a3'⟩, a4⟩ := f71 (d := d + 5) hT3 hw hta kr (show sz μ ≠ 0 by omega) b3 hua
        rw [es.trans (if_pos ⟨kx, kr⟩)]
        refine ⟨μ1, ?_, sA.tr (a2.wk (fun c j e => by omega) (fun c j e => e)), ⟨by omega, by omega⟩, (fun A' h => by cases h; exact a4), a4.1⟩
        show rn (d + 6) 69 0 [some (Sum.inr (Sum.inl (T))), some (Sum.inr (Sum.inl (53 + 2 * e))), some (Sum.inl (E i)), none, none, none] [] μ = _
        simp only [st69_0, st69_1, st69_2, st69_3, st69_4, st69_5, st69_6, st69_7, st69_8, st69_9, st69_10, st69_11, st69_12, st69_13, st69_14, st69_15, st69_16, st69_17, st69_18, st69_19, st69_20, st69_21, st69_22, st69_23, st69_45, st69_46, st69_47, st69_48, st69_49, st69_50, t8, t0, p1, p2, f57', c0, c1, c2, E_n (show i < 1000 by omega), E_n (show i + 1 < 1000 by omega), E_n (show i + 2 < 1000 by omega), ex, ec, ey', sx, sy, f67', show (E 114 = (98 : Int32)) = False from eq_false (by decide), show (E 114 = (110 : Int32)) = False from eq_false (by decide), show (E 114 = (111 : Int32)) = False from eq_false (by decide), show (E 114 = (114 : Int32)) = True from eq_true rfl, b1, hta.1.1, a1, or_true, Option.isSome_some, aft_some, Option.toList_some, Option.toList_none, List.cons_append, List.nil_append, br0, br1, br2, br3, zr01, zr02, n10, n01, ne_eq, not_true_eq_false, not_false_eq_true, if_true, if_false, true_and, and_true, and_self]
      · rw [es.trans (if_neg (fun h => kr h.2))]
        refine ⟨μa, ?_, sA, ⟨by omega, by omega⟩, (fun A' h => by cases h), hta.1⟩
        show rn (d + 6) 69 0 [some (Sum.inr (Sum.inl (T))), some (Sum.inr (Sum.inl (53 + 2 * e))), some (Sum.inl (E i)), none, none, none] [] μ = _
        simp only [st69_0, st69_1, st69_2, st69_3, st69_4, st69_5, st69_6, st69_7, st69_8, st69_9, st69_10, st69_11, st69_12, st69_13, st69_14, st69_15, st69_16, st69_17, st69_18, st69_19, st69_20, st69_21, st69_22, st69_23, st69_45, st69_46, st69_47, st69_48, st69_49, st69_50, t8, t0, p1, p2, f57', c0, c1, c2, E_n (show i < 1000 by omega), E_n (show i + 1 < 1000 by omega), E_n (show i + 2 < 1000 by omega), ex, ec, ey', sx, sy, f67', show (E 114 = (98 : Int32)) = False from eq_false (by decide), show (E 114 = (110 : Int32)) = False from eq_false (by decide), show (E 114 = (111 : Int32)) = False from eq_false (by decide), show (E 114 = (114 : Int32)) = True from eq_true rfl, b1, hta.1.1, f71n hw hta kr (show sz μ ≠ 0 by omega), true_or, Option.isSome_none, show (false = true) = False from eq_false (by decide), aft_some, Option.toList_some, Option.toList_none, List.cons_append, List.nil_append, br0, br1, br2, br3, zr01, zr02, n10, n01, ne_eq, not_true_eq_false, not_false_eq_true, if_true, if_false, true_and, and_true, and_self]
    · have kn : ¬ (((0 : Int32) ≤ E x ∧ E x ≤ 7) ∧ 0 ≤ E y ∧ E y ≤ 9) := fun h => by
        have := h.1.2
        rw [show (7 : Int32) = E 7 from rfl, E_leE (by omega) (by decide)] at this
        omega
      rw [es.trans (if_neg (fun h => kx h.1))]
      refine ⟨μ, ?_, rf, ⟨by omega, by omega⟩, (fun A' h => by cases h), ht.1⟩
      show rn (d + 6) 69 0 [some (Sum.inr (Sum.inl (T))), some (Sum.inr (Sum.inl (53 + 2 * e))), some (Sum.inl (E i)), none, none, none] [] μ = _
      simp only [st69_0, st69_1, st69_2, st69_3, st69_4, st69_5, st69_6, st69_7, st69_8, st69_9, st69_10, st69_11, st69_12, st69_13, st69_14, st69_15, st69_16, st69_17, st69_18, st69_19, st69_20, st69_21, st69_22, st69_23, st69_45, st69_46, st69_47, st69_48, st69_49, st69_50, t8, t0, p1, p2, f57', c0, c1, c2, E_n (show i < 1000 by omega), E_n (show i + 1 < 1000 by omega), E_n (show i + 2 < 1000 by omega), ex, ec, ey', sx, sy, f67', show (E 114 = (98 : Int32)) = False from eq_false (by decide), show (E 114 = (110 : Int32)) = False from eq_false (by decide), show (E 114 = (111 : Int32)) = False from eq_false (by decide), show (E 114 = (114 : Int32)) = True from eq_true rfl, f136n kn, f71z, true_or, Option.isSome_none, show (false = true) = False from eq_false (by decide), aft_some, Option.toList_some, Option.toList_none, List.cons_append, List.nil_append, br0, br1, br2, br3, zr01, zr02, n10, n01, ne_eq, not_true_eq_false, not_false_eq_true, if_true, if_false, true_and, and_true, and_self]
  · subst q
    have es : stD A 120 x y z = if x < rcA A ∧ y < bcA A then some (rdA A x y) else none := rfl
    have ey' := ey (by decide)
    by_cases k : x < rcA A ∧ y < bcA A
    · obtain ⟨μ1, a1, a2, a3⟩ := f72 (d := d) hw ht k.1 k.2
      rw [es.trans (if_pos k)]
      have wl := wor_lt (k := kdA A x) (f := fgA A x) (pg := pgA A y) (nd := ndA A y) (S := inA A y) (hw.2.2.2.2 x k.1).2
      have s2 : SB (fun c => T ≤ c ∧ c ≤ T + 14) μ μ1 := a2.wk (fun c e => by omega)
      refine ⟨μ1, ?_, SG.sb hu s2 (fun c j e => e), ⟨by rw [a2.2.2.2.2.1]; omega, by rw [a2.2.2.2.2.2.1]; omega⟩, (fun A' h => by cases h; exact a3), a3.1⟩
      show rn (d + 6) 69 0 [some (Sum.inr (Sum.inl (T))), some (Sum.inr (Sum.inl (53 + 2 * e))), some (Sum.inl (E i)), none, none, none] [] μ = _
      simp only [st69_0, st69_1, st69_2, st69_3, st69_4, st69_5, st69_6, st69_7, st69_8, st69_9, st69_10, st69_11, st69_12, st69_13, st69_14, st69_15, st69_16, st69_17, st69_18, st69_19, st69_20, st69_21, st69_22, st69_23, st69_62, st69_63, st69_64, st69_65, st69_66, st69_67, st69_68, st69_69, st69_70, t8, t0, p1, p2, f57', c0, c1, c2, E_n (show i < 1000 by omega), E_n (show i + 1 < 1000 by omega), E_n (show i + 2 < 1000 by omega), ex, ec, ey', sx, sy, f67', show (E 120 = (98 : Int32)) = False from eq_false (by decide), show (E 120 = (110 : Int32)) = False from eq_false (by decide), show (E 120 = (111 : Int32)) = False from eq_false (by decide), show (E 120 = (114 : Int32)) = False from eq_false (by decide), show (E 120 = (120 : Int32)) = True from eq_true rfl, a1, E_lt0 wl, or_true, Option.isSome_some, aft_some, Option.toList_some, Option.toList_none, List.cons_append, List.nil_append, br0, br1, br2, br3, zr01, zr02, n10, n01, ne_eq, not_true_eq_false, not_false_eq_true, if_true, if_false, true_and, and_true, and_self]
    · have k' : ¬ (((0 : Int32) ≤ E x ∧ E x < E (rcA A)) ∧ 0 ≤ E y ∧ E y < E (bcA A)) := fun h => k ⟨by have := h.1.2; rw [E_ltE (by omega) (by omega)] at this; exact this, by have := h.2.2; rw [E_ltE (by omega) (by omega)] at this; exact this⟩
      rw [es.trans (if_neg k)]
      refine ⟨μ, ?_, rf, ⟨by omega, by omega⟩, (fun A' h => by cases h), ht.1⟩
      show rn (d + 6) 69 0 [some (Sum.inr (Sum.inl (T))), some (Sum.inr (Sum.inl (53 + 2 * e))), some (Sum.inl (E i)), none, none, none] [] μ = _
      simp only [st69_0, st69_1, st69_2, st69_3, st69_4, st69_5, st69_6, st69_7, st69_8, st69_9, st69_10, st69_11, st69_12, st69_13, st69_14, st69_15, st69_16, st69_17, st69_18, st69_19, st69_20, st69_21, st69_22, st69_23, st69_62, st69_63, st69_64, st69_65, st69_66, st69_67, st69_68, st69_69, st69_70, t8, t0, p1, p2, f57', c0, c1, c2, E_n (show i < 1000 by omega), E_n (show i + 1 < 1000 by omega), E_n (show i + 2 < 1000 by omega), ex, ec, ey', sx, sy, f67', show (E 120 = (98 : Int32)) = False from eq_false (by decide), show (E 120 = (110 : Int32)) = False from eq_false (by decide), show (E 120 = (111 : Int32)) = False from eq_false (by decide), show (E 120 = (114 : Int32)) = False from eq_false (by decide), show (E 120 = (120 : Int32)) = True from eq_true rfl, f72u hw ht k', show ((-1 : Int32) < 0) = True from eq_true (by decide), true_or, Option.isSome_none, show (false = true) = False from eq_false (by decide), aft_some, Option.toList_some, Option.toList_none, List.cons_append, List.nil_append, br0, br1, br2, br3, zr01, zr02, n10, n01, ne_eq, not_true_eq_false, not_false_eq_true, if_true, if_false, true_and, and_true, and_self]
