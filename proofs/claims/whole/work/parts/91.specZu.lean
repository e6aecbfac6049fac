/-! SPECS ZU: image, restore -/
theorem SB.row {μ : SMem} {a : Nat} {f : Nat → Int32} : SB (fun c => c = a) μ (setrow μ a f) := ⟨rfl, rfl, rfl, rfl, rfl, rfl, fun c hc => funext fun j => by rw [gi_row, if_neg hc]⟩
theorem f6 {d a b : Nat} {μ : SMem} (ha : BkA μ a) (hb : BkA μ b) (hab : a + 3 ≤ b ∨ b + 3 ≤ a) : ∃ μ', cl d 6 [Sum.inr (Sum.inl (a)), Sum.inr (Sum.inl (b))] μ = some (Sum.inl none, μ') ∧ SB (fun c => a ≤ c ∧ c ≤ a + 2) μ μ' ∧ gi μ' a 2 = gi μ b 2 ∧ gi μ' a 3 = gi μ b 3 ∧ (∀ p, p < 8 → gi μ' (a + 1) p = gi μ (b + 1) p) ∧ (∀ p, p < 8 → gi μ' (a + 2) p = gi μ (b + 2) p) := by
  obtain ⟨x1, x2, x3, x4, x5, x6, x7⟩ := ha
  obtain ⟨y1, y2, y3, y4, y5, y6, y7⟩ := hb
  have s1 : SB (fun c => a ≤ c ∧ c ≤ a + 2) μ (seti (seti μ a 2 (gi μ b 2)) a 3 (gi μ b 3)) := SB.se2.wk (fun c e => by omega)
  have g1 : ∀ c j, c ≠ a → gi (seti (seti μ a 2 (gi μ b 2)) a 3 (gi μ b 3)) c j = gi μ c j := fun c j hc => by rw [gi_seti, if_neg (fun e => hc e.1), gi_seti, if_neg (fun e => hc e.1)]
  have g2 : gi (seti (seti μ a 2 (gi μ b 2)) a 3 (gi μ b 3)) a 2 = gi μ b 2 := by rw [gi_seti, if_neg (by omega), gi_seti, if_pos ⟨rfl, rfl⟩]
  have g3 : gi (seti (seti μ a 2 (gi μ b 2)) a 3 (gi μ b 3)) a 3 = gi μ b 3 := by rw [gi_seti, if_pos ⟨rfl, rfl⟩]
  have e1 : ∀ d, rn d 6 0 [some (Sum.inr (Sum.inl (a))), some (Sum.inr (Sum.inl (b)))] [] μ = rn d 6 8 [some (Sum.inr (Sum.inl (a))), some (Sum.inr (Sum.inl (b)))] [] (seti (seti μ a 2 (gi μ b 2)) a 3 (gi μ b 3)) := fun d => by
    simp only [st6_0, st6_1, st6_2, st6_3, st6_4, st6_5, st6_6, st6_7, x1, y1, tg_seti, g1 _ _ (show b ≠ a by omega), gi_seti, show (b = a) = False from eq_false (by omega), false_and, aft_some, Option.toList_some, Option.toList_none, List.cons_append, List.nil_append, br0, br1, br2, br3, zr01, zr02, n10, n01, ne_eq, not_true_eq_false, not_false_eq_true, if_true, if_false, true_and, and_true, and_self]
  generalize seti (seti μ a 2 (gi μ b 2)) a 3 (gi μ b 3) = μ1 at *
  have s2 : SB (fun c => a ≤ c ∧ c ≤ a + 2) μ1 (setrow μ1 (a + 1) (va_cpy (gi μ1 (b + 1)) (gi μ1 (a + 1)) 0 0 8)) := SB.row.wk (fun c e => by omega)
  have h1 : ∀ c j, gi (setrow μ1 (a + 1) (va_cpy (gi μ1 (b + 1)) (gi μ1 (a + 1)) 0 0 8)) c j = if c = a + 1 then va_cpy (gi μ1 (b + 1)) (gi μ1 (a + 1)) 0 0 8 j else gi μ1 c j := fun c j => gi_row
  have z8 : ((0 : Int32) ≤ 8) = True := eq_true (by decide)
  have zn8 : (8 : Int32).toNatClampNeg = 8 := rfl
  have e2 : ∀ d, rn d 6 8 [some (Sum.inr (Sum.inl (a))), some (Sum.inr (Sum.inl (b)))] [] μ1 = rn d 6 16 [some (Sum.inr (Sum.inl (a))), some (Sum.inr (Sum.inl (b)))] [] (setrow μ1 (a + 1) (va_cpy (gi μ1 (b + 1)) (gi μ1 (a + 1)) 0 0 8)) := fun d => by
    simp only [st6_8, st6_9, st6_10, st6_11, st6_12, st6_13, st6_14, st6_15, s1.1, s1.2.1, s1.2.2.1, x1, x2, x4, x5, y1, y2, y4, y5, z00, z8, zn0, zn8, Nat.zero_add, Nat.le_refl, aft_some, Option.toList_some, Option.toList_none, List.cons_append, List.nil_append, br0, br1, br2, br3, zr01, zr02, n10, n01, ne_eq, not_true_eq_false, not_false_eq_true, if_true, if_false, true_and, and_true, and_self]
  have t2 := s1.tr s2
  generalize setrow μ1 (a + 1) (va_cpy (gi μ1 (b + 1)) (gi μ1 (a + 1)) 0 0 8) = μ2 at *
  have s3 : SB (fun c => a ≤ c ∧ c ≤ a + 2) μ2 (setrow μ2 (a + 2) (va_cpy (gi μ2 (b + 2)) (gi μ2 (a + 2)) 0 0 8)) := SB.row.wk (fun c e => by omega)
  have h2 : ∀ c j, gi (setrow μ2 (a + 2) (va_cpy (gi μ2 (b + 2)) (gi μ2 (a + 2)) 0 0 8)) c j = if c = a + 2 then va_cpy (gi μ2 (b + 2)) (gi μ2 (a + 2)) 0 0 8 j else gi μ2 c j := fun c j => gi_row
  have e3 : ∀ d, rn d 6 16 [some (Sum.inr (Sum.inl (a))), some (Sum.inr (Sum.inl (b)))] [] μ2 = some (Sum.inl none, setrow μ2 (a + 2) (va_cpy (gi μ2 (b + 2)) (gi μ2 (a + 2)) 0 0 8)) := fun d => by
    simp only [st6_16, st6_17, st6_18, st6_19, st6_20, st6_21, st6_22, st6_23, st6_24, t2.1, t2.2.1, t2.2.2.1, x1, x3, x6, x7, y1, y3, y6, y7, z00, z8, zn0, zn8, Nat.zero_add, Nat.le_refl, aft_some, Option.toList_some, Option.toList_none, List.cons_append, List.nil_append, br0, br1, br2, br3, zr01, zr02, n10, n01, ne_eq, not_true_eq_false, not_false_eq_true, if_true, if_false, true_and, and_true, and_self]
  refine ⟨_, ?_, t2.tr s3, ?_, ?_, fun p hp => ?_, fun p hp => ?_⟩
  · show rn d 6 0 [some (Sum.inr (Sum.inl (a))), some (Sum.inr (Sum.inl (b)))] [] μ = _
    rw [e1, e2, e3]
  · rw [h2, if_neg (by omega), h1, if_neg (by omega), g2]
  · rw [h2, if_neg (by omega), h1, if_neg (by omega), g3]
  · rw [h2, if_neg (by omega), h1, if_pos rfl]
    unfold va_cpy
    rw [if_pos (by omega), g1 _ _ (by omega), Nat.sub_zero, Nat.zero_add]
  · rw [h2, if_pos rfl]
    unfold va_cpy
    rw [if_pos (by omega), h1, if_neg (by omega), g1 _ _ (by omega), Nat.sub_zero, Nat.zero_add]
theorem f66_b {d T U : Nat} {μ0 : SMem} (hT : TwS μ0 T) (hU : TwS μ0 U) (hTU : T + 15 ≤ U ∨ U + 15 ≤ T) : ∀ k b (μ : SMem), b + k = 4 → SB (fun c => T + 3 ≤ c ∧ c ≤ T + 14) μ0 μ → (∀ b', b' < b → gi μ (T + 3 + 3 * b') 2 = gi μ0 (U + 3 + 3 * b') 2 ∧ gi μ (T + 3 + 3 * b') 3 = gi μ0 (U + 3 + 3 * b') 3 ∧ (∀ p, p < 8 → gi μ (T + 3 + 3 * b' + 1) p = gi μ0 (U + 3 + 3 * b' + 1) p) ∧ ∀ p, p < 8 → gi μ (T + 3 + 3 * b' + 2) p = gi μ0 (U + 3 + 3 * b' + 2) p) → ∃ μ', rn (d + 1) 66 14 [some (Sum.inr (Sum.inl (T))), some (Sum.inr (Sum.inl (U))), some (Sum.inl (E b))] [] μ = rn (d + 1) 66 28 [some (Sum.inr (Sum.inl (T))), some (Sum.inr (Sum.inl (U))), some (Sum.inl (E 4))] [] μ' ∧ SB (fun c => T + 3 ≤ c ∧ c ≤ T + 14) μ0 μ' ∧ (∀ b', b' < 4 → gi μ' (T + 3 + 3 * b') 2 = gi μ0 (U + 3 + 3 * b') 2 ∧ gi μ' (T + 3 + 3 * b') 3 = gi μ0 (U + 3 + 3 * b') 3 ∧ (∀ p, p < 8 → gi μ' (T + 3 + 3 * b' + 1) p = gi μ0 (U + 3 + 3 * b' + 1) p) ∧ ∀ p, p < 8 → gi μ' (T + 3 + 3 * b' + 2) p = gi μ0 (U + 3 + 3 * b' + 2) p) := by
  intro k
  induction k with
  | zero =>
    intro b μ hb hs hv
    have : b = 4 := by omega
    subst this
    refine ⟨μ, ?_, hs, hv⟩
    rw [st66_14]
    simp only [st66_15, st66_16, st66_17, st66_18, st66_19, st66_20, st66_21, st66_22, st66_23, st66_24, st66_25, st66_26, st66_27, show (4 : Int32) ≤ E 4 from by decide, if_true]
  | succ k ih =>
    intro b μ hb hs hv
    have b4 : b < 4 := by omega
    have cx : ¬ (4 : Int32) ≤ E b := by rw [show (4 : Int32) = E 4 from rfl, E_le (by decide) (by omega)]; omega
    have hT1 := hT.sb hs
    have hU1 := hU.sb hs
    obtain ⟨s1, s2, s3, s4, s5, s6, s7, s8, s9⟩ := hT1
    obtain ⟨r1, r2, r3, r4, r5, r6, r7, r8, r9⟩ := hU1
    obtain ⟨μ1, a1, a2, a3, a4, a5, a6⟩ := f6 (d := d) (s8 b b4).2 (r8 b b4).2 (by omega)
    have gU : ∀ c, U + 3 ≤ c → c ≤ U + 14 → gi μ c = gi μ0 c := fun c h1 h2 => hs.2.2.2.2.2.2 c (by omega)
    obtain ⟨μ', y1, y2, y3⟩ := ih (b + 1) μ1 (by omega) (hs.tr (a2.wk (fun c e => by omega))) (fun b' hb' => by
      by_cases q : b' = b
      · subst q
        refine ⟨by rw [a3, gU _ (by omega) (by omega)], by rw [a4, gU _ (by omega) (by omega)], fun p hp => by rw [a5 p hp, gU _ (by omega) (by omega)], fun p hp => by rw [a6 p hp, gU _ (by omega) (by omega)]⟩
      · have ee : ∀ c, c = T + 3 + 3 * b' ∨ c = T + 3 + 3 * b' + 1 ∨ c = T + 3 + 3 * b' + 2 → gi μ1 c = gi μ c := fun c hc => a2.2.2.2.2.2.2 c (by omega)
        rw [ee _ (Or.inl rfl), ee _ (Or.inr (Or.inl rfl)), ee _ (Or.inr (Or.inr rfl))]
        exact hv b' (by omega))
    refine ⟨μ', ?_, y2, y3⟩
    rw [st66_14]
    simp only [st66_15, st66_16, st66_17, st66_18, st66_19, st66_20, st66_21, st66_22, st66_23, st66_24, st66_25, st66_26, st66_27, cx, s1, s2, s4, s5, r1, r2, r4, r5, E_ge0 (show b < 1000 by omega), E_n (show b < 1000 by omega), b4, (s8 b b4).1, (r8 b b4).1, (s8 b b4).2.1, a1, show E b + 1 = E (b + 1) from E_add b 1, aft_some, Option.toList_some, Option.toList_none, List.cons_append, List.nil_append, br0, br1, br2, br3, zr01, zr02, n10, n01, ne_eq, not_true_eq_false, not_false_eq_true, if_true, if_false, true_and, and_true, and_self]
    exact y1
def RQ (T U : Nat) (μ0 μ : SMem) (r : Nat) : Prop := (tg μ = tg μ0 ∧ ln μ = ln μ0 ∧ gi μ = gi μ0 ∧ sz μ = sz μ0 ∧ sl μ = sl μ0) ∧ ∀ c j, gr μ c j = if c = T + 2 ∧ j < r then gr μ0 (U + 2) j else gr μ0 c j
theorem f66_r {d T U : Nat} {μ0 : SMem} (hT : TwS μ0 T) (hU : TwS μ0 U) (hTU : T + 15 ≤ U ∨ U + 15 ≤ T) : ∀ k r (μ : SMem), r + k = 6 → RQ T U μ0 μ r → ∃ μ', rn (d + 1) 66 30 [some (Sum.inr (Sum.inl (T))), some (Sum.inr (Sum.inl (U))), some (Sum.inl (E r))] [] μ = some (Sum.inl none, μ') ∧ RQ T U μ0 μ' 6 := by
  obtain ⟨s1, s2, s3, s4, s5, s6, s7, s8, s9⟩ := hT
  obtain ⟨r1, r2, r3, r4, r5, r6, r7, r8, r9⟩ := hU
  intro k
  induction k with
  | zero =>
    intro r μ hr hq
    have : r = 6 := by omega
    subst this
    refine ⟨μ, ?_, hq⟩
    rw [st66_30]
    simp only [st66_31, st66_32, st66_33, st66_34, st66_35, st66_36, st66_37, st66_38, st66_39, st66_40, st66_41, st66_42, st66_43, show (6 : Int32) ≤ E 6 from by decide, if_true]
  | succ k ih =>
    intro r μ hr hq
    have cx : ¬ (6 : Int32) ≤ E r := by rw [show (6 : Int32) = E 6 from rfl, E_le (by decide) (by omega)]; omega
    obtain ⟨⟨q1, q2, q3, q4, q5⟩, q6⟩ := hq
    have u1 : gr μ T 1 = T + 2 := by rw [q6, if_neg (by omega)]; exact s3
    have u2 : gr μ U 1 = U + 2 := by rw [q6, if_neg (by omega)]; exact r3
    have u3 : gr μ (U + 2) r = gr μ0 (U + 2) r := by rw [q6, if_neg (by omega)]
    have u4 : (gr μ0 (U + 2) r = 0 ∨ isRd (tg μ (gr μ0 (U + 2) r)) = true) := by rw [q1]; exact r9 r (by omega)
    obtain ⟨μ', y1, y2⟩ := ih (r + 1) (setr μ (T + 2) r (gr μ0 (U + 2) r)) (by omega) ⟨⟨q1, q2, q3, q4, q5⟩, fun c j => by
      rw [gr_setr]
      by_cases e : c = T + 2 ∧ j = r
      · rw [if_pos e, if_pos ⟨e.1, by omega⟩, e.2]
      · rw [if_neg e, q6]
        by_cases e2 : c = T + 2 ∧ j < r
        · rw [if_pos e2, if_pos ⟨e2.1, by omega⟩]
        · rw [if_neg e2, if_neg (fun h => e2 ⟨h.1, by
            have : j ≠ r := fun h2 => e ⟨h.1, h2⟩
            omega⟩)]⟩
    refine ⟨μ', ?_, y2⟩
    rw [st66_30]
    simp only [st66_31, st66_32, st66_33, st66_34, st66_35, st66_36, st66_37, st66_38, st66_39, st66_40, st66_41, st66_42, cx, q1, q2, u1, u2, u3, s1, s6, s7, r1, r6, r7, E_ge0 (show r < 1000 by omega), E_n (show r < 1000 by omega), show r < 6 by omega, aft_some, Option.toList_some, Option.toList_none, List.cons_append, List.nil_append, br0, br1, br2, br3, zr01, zr02, n10, n01, ne_eq, not_true_eq_false, not_false_eq_true, if_true, if_false, true_and, and_true, and_self]
    rw [q1] at u4
    simp only [u4, st66_40, st66_41, st66_42, q1, q2, s6, s7, E_ge0 (show r < 1000 by omega), E_n (show r < 1000 by omega), show r < 6 by omega, show E r + 1 = E (r + 1) from E_add r 1, aft_some, Option.toList_some, Option.toList_none, List.cons_append, List.nil_append, br0, br1, br2, br3, zr01, zr02, n10, n01, ne_eq, not_true_eq_false, not_false_eq_true, if_true, if_false, true_and, and_true, and_self]
    exact y1
theorem f66 {d T U : Nat} {A : AT} {μ : SMem} (hT3 : 3 ≤ T) (hw : WF A) (hT : TwS μ T) (hU : TwC μ U A) (hTU : T + 15 ≤ U ∨ U + 15 ≤ T) (hu : ∀ c, sz μ ≤ c → tg μ c = 99) : ∃ μ', cl (d + 1) 66 [Sum.inr (Sum.inl (T)), Sum.inr (Sum.inl (U))] μ = some (Sum.inl none, μ') ∧ SG (fun c j => T ≤ c ∧ c ≤ T + 14) (fun c j => c = T + 2) μ μ' ∧ (sz μ' = sz μ ∧ sl μ' = sl μ) ∧ TwC μ' T A := by
  have hTg := fun c h1 h2 => hT.tag (c := c) h1 h2
  obtain ⟨hUS, t2, t3, t4, t5, t6⟩ := hU
  have s0 : SB (fun c => c = T) μ (seti (seti (seti μ T 2 (gi μ U 2)) T 3 (gi μ U 3)) T 4 (gi μ U 4)) := SB.se2.tr (SB.se rfl)
  have g0 : ∀ j, gi (seti (seti (seti μ T 2 (gi μ U 2)) T 3 (gi μ U 3)) T 4 (gi μ U 4)) T j = if j = 4 then gi μ U 4 else if j = 3 then gi μ U 3 else if j = 2 then gi μ U 2 else gi μ T j := fun j => by
    rw [gi_seti, gi_seti, gi_seti]
    simp only [true_and]
  have e0 : ∀ d, rn d 66 0 [some (Sum.inr (Sum.inl (T))), some (Sum.inr (Sum.inl (U))), none] [] μ = rn d 66 14 [some (Sum.inr (Sum.inl (T))), some (Sum.inr (Sum.inl (U))), some (Sum.inl (E 0))] [] (seti (seti (seti μ T 2 (gi μ U 2)) T 3 (gi μ U 3)) T 4 (gi μ U 4)) := fun d => by
    simp only [st66_0, st66_1, st66_2, st66_3, st66_4, st66_5, st66_6, st66_7, st66_8, st66_9, st66_10, st66_11, st66_12, st66_13, hT.1, hUS.1, tg_seti, gi_seti, show (U = T) = False from eq_false (by omega), false_and, aft_some, Option.toList_some, Option.toList_none, List.cons_append, List.nil_append, br0, br1, br2, br3, zr01, zr02, n10, n01, ne_eq, not_true_eq_false, not_false_eq_true, if_true, if_false, true_and, and_true, and_self]
    rfl
  generalize seti (seti (seti μ T 2 (gi μ U 2)) T 3 (gi μ U 3)) T 4 (gi μ U 4) = μ1 at *
  obtain ⟨μ2, b1, b2, b3⟩ := f66_b (d := d) (hT.sb s0) (hUS.sb s0) hTU 4 0 μ1 rfl SB.rf (fun b' hb' => by omega)
  have s2 : SB (fun c => T ≤ c ∧ c ≤ T + 14) μ μ2 := (s0.wk (fun c e => by omega)).tr (b2.wk (fun c e => by omega))
  obtain ⟨μ3, c1, ⟨k1, k2, k3, k4, k5⟩, k6⟩ := f66_r (d := d) (hT.sb s2) (hUS.sb s2) hTU 6 0 μ2 rfl ⟨⟨rfl, rfl, rfl, rfl, rfl⟩, fun c j => by rw [if_neg (by omega)]⟩
  have gk : ∀ c, (c < T ∨ T + 15 ≤ c) → gi μ3 c = gi μ c := fun c hc => by rw [k3]; exact s2.2.2.2.2.2.2 c (by omega)
  have tk1 : tg μ3 = tg μ := by rw [k1, s2.1]
  have lk1 : ln μ3 = ln μ := by rw [k2, s2.2.1]
  have rk : ∀ c j, gr μ3 c j = if c = T + 2 ∧ j < 6 then gr μ (U + 2) j else gr μ c j := fun c j => by rw [k6, s2.2.2.1]
  refine ⟨μ3, ?_, ⟨fun c _ => ⟨by rw [tk1], by rw [lk1]⟩, fun c j _ hn => by rw [gk c (by omega)], fun c j _ hn => by rw [rk, if_neg (fun h => hn h.1)], ⟨by rw [k4, s2.2.2.2.2.1]; exact Nat.le_refl _, gk 1 (by omega), by rw [lk1]⟩, by rw [k5, s2.2.2.2.2.2.1]; exact Nat.le_refl _, fun c hc => by rw [tk1]; rw [k4, s2.2.2.2.2.1] at hc; exact hu c hc⟩, ⟨by rw [k4, s2.2.2.2.2.1], by rw [k5, s2.2.2.2.2.2.1]⟩, ?_⟩
  · show rn (d + 1) 66 0 [some (Sum.inr (Sum.inl (T))), some (Sum.inr (Sum.inl (U))), none] [] μ = _
    rw [e0, b1, st66_28, st66_29]
    exact c1
  · obtain ⟨s1, s2', s3, s4, s5, s6, s7, s8, s9⟩ := hT
    obtain ⟨r1, r2, r3, r4, r5, r6, r7, r8, r9⟩ := hUS
    have gT : ∀ j, gi μ3 T j = if j = 4 then gi μ U 4 else if j = 3 then gi μ U 3 else if j = 2 then gi μ U 2 else gi μ T j := fun j => by rw [k3, b2.2.2.2.2.2.2 T (by omega), g0]
    have gU : ∀ c, U ≤ c → c ≤ U + 14 → gi μ1 c = gi μ c := fun c h1 h2 => s0.2.2.2.2.2.2 c (by omega)
    refine ⟨⟨by rw [tk1]; exact s1, by rw [rk, if_neg (by omega)]; exact s2', by rw [rk, if_neg (by omega)]; exact s3, by rw [tk1]; exact s4, by rw [lk1]; exact s5, by rw [tk1]; exact s6, by rw [lk1]; exact s7, fun b hb => ⟨by rw [rk, if_neg (by omega)]; exact (s8 b hb).1, ?_⟩, fun r hr => ?_⟩, by rw [gT, if_neg (by omega), if_neg (by omega), if_pos rfl]; exact t2, by rw [gT, if_neg (by omega), if_pos rfl]; exact t3, by rw [gT, if_pos rfl]; exact t4, fun b hb => ?_, fun r hr => ?_⟩
    · obtain ⟨x1, x2, x3, x4, x5, x6, x7⟩ := (s8 b hb).2
      exact ⟨by rw [tk1]; exact x1, by rw [rk, if_neg (by omega)]; exact x2, by rw [rk, if_neg (by omega)]; exact x3, by rw [tk1]; exact x4, by rw [lk1]; exact x5, by rw [tk1]; exact x6, by rw [lk1]; exact x7⟩
    · rw [rk, if_pos ⟨rfl, hr⟩, tk1]
      exact r9 r hr
    · obtain ⟨z1, z2, z3, z4⟩ := b3 b hb
      obtain ⟨w1, w2, w3, w4⟩ := t5 b hb
      refine ⟨by rw [k3, z1, gU _ (by omega) (by omega)]; exact w1, by rw [k3, z2, gU _ (by omega) (by omega)]; exact w2, fun p hp => by rw [k3, z3 p hp, gU _ (by omega) (by omega)]; exact w3 p hp, fun p hp => by rw [k3, z4 p hp, gU _ (by omega) (by omega)]; exact w4 p hp⟩
    · obtain ⟨y1, y2⟩ := t6 r hr
      have r6' : r < 6 := by have := hw.2.1; omega
      rw [rk, if_pos ⟨rfl, r6'⟩]
      refine ⟨y1, by rw [tk1]; exact y2.1, ?_, y2.2.2⟩
      have no : ¬ (T ≤ gr μ (U + 2) r ∧ gr μ (U + 2) r ≤ T + 14) := fun e => by have := (hTg _ e.1 e.2).1; rw [y2.rd] at this; cases this
      rw [gk _ (by omega)]
      exact y2.2.1
def PIm (c j : Nat) : Prop := (33 ≤ c ∧ c ≤ 47) ∨ c = 71 ∨ (c = 2 ∧ j = 3) ∨ (c = 69 ∧ j = 10)
def QIm (c j : Nat) : Prop := c = 35
theorem INVw.im {A Ai Ai' : AT} {im : Nat} {Hs : Nat → HT} {μ μ' : SMem} (h : INVw μ A Ai im Hs) (hs : SG PIm QIm μ μ') (hw' : WF Ai') (ht' : TwC μ' 33 Ai') (hr' : MRw (gi μ' 71) Ai') (e1 : gi μ' 2 3 = E 1) (e2 : gi μ' 69 10 = E 1) : INVw μ' A Ai' 1 Hs := by
  obtain ⟨⟨hm, hc, hw, ht, hr⟩, ⟨hs18, hs33⟩, ⟨i1, i2, i3, i4⟩, hsh, h84, hu⟩ := h
  have tp : ∀ c j, PIm c j → isRd (tg μ c) = false := by
    intro c j p
    unfold PIm at p
    rcases p with q | q | q | q
    · exact (hs33.tag q.1 (by omega)).1
    · rw [q]; obtain ⟨m1, m2, m3, m4, m5, m6, m7, m8, m9, m10, m11, m12, m13, m14, ⟨t0, t1, t2, t3, t4, t5, t6, t7, t8, t9, t10, t11, t12⟩, l0, l1, l2, l3, l4, l5, l6, l7, l8, l9, l10, l11, l12⟩ := hm; rw [t1]; rfl
    · rw [q.1, hc.1]; rfl
    · rw [q.1, hm.1]; rfl
  have hm0 := hm
  obtain ⟨m1, m2, m3, m4, m5, m6, m7, m8, m9, m10, m11, m12, m13, m14, ⟨t0, t1, t2, t3, t4, t5, t6, t7, t8, t9, t10, t11, t12⟩, l0, l1, l2, l3, l4, l5, l6, l7, l8, l9, l10, l11, l12⟩ := hm
  have g70 : gi μ' 70 = gi μ 70 := funext fun j => hs.2.1 70 j (by rw [t0]; decide) (fun q => by unfold PIm at q; omega)
  exact ⟨⟨hm0.sg hs (fun j q => by unfold QIm at q; omega), hc.sg hs (fun c j q => by unfold QIm at q; omega), hw, ht.sg hs (fun c j q => ⟨by unfold PIm at q; omega, tp c j q⟩) (fun c j q => by unfold QIm at q; omega), by rw [g70]; exact hr⟩, ⟨hs18.sg hs (fun c j q => by unfold QIm at q; omega), ht'.1⟩, ⟨by decide, e1, e2, fun _ => ⟨hw', ht', hr'⟩⟩, fun e he => ⟨(hsh e he).1, (hsh e he).2.1.sg he hc hs (fun c j p => ⟨by unfold PIm at p; omega, by unfold PIm at p; omega, tp c j p⟩) (fun c j p => by unfold QIm at p; omega), (hsh e he).2.2.sg hm0 hs (fun c j p => by unfold PIm at p; omega)⟩, ⟨Nat.le_trans h84.1 hs.2.2.2.1.1, h84.2.sg hs⟩, hs.2.2.2.2.2⟩
theorem g102 {d : Nat} {A Ai : AT} {im : Nat} {Hs : Nat → HT} {μ : SMem} (h : INVw μ A Ai im Hs) : ∃ v μ1 μ2 Ai' im', cl (d + 12) 102 [Sum.inr (Sum.inl (2))] μ = some (Sum.inl (some (Sum.inl (v))), μ1) ∧ cl (d + 12) 211 [Sum.inr (Sum.inl (69))] μ1 = some (Sum.inl (some (Sum.inl (v))), μ2) ∧ INVw μ2 A Ai' im' Hs ∧ sz μ2 = sz μ ∧ sl μ2 = sl μ ∧ K1 μ μ1 := by
  have hB := h.1
  obtain ⟨hm, hc, hw, ht, hr⟩ := hB
  have hu := h.2.2.2.2.2
  obtain ⟨μa, a1, a2, ⟨a3, a3'⟩, a4⟩ := f66 (d := d + 10) (show 3 ≤ 33 by decide) hw h.2.1.2 ht (Or.inr (by omega)) hu
  have hua := a2.2.2.2.2.2
  have sA : SG PIm QIm μ μa := a2.wk (fun c j p => by unfold PIm; omega) (fun c j q => q)
  have hca := hc.sg sA (fun c j q => by unfold QIm at q; omega)
  have hma := hm.sg sA (fun j q => by unfold QIm at q; omega)
  have hta := ht.sg a2 (fun c j p => ⟨by omega, (h.2.1.2.tag p.1 p.2).1⟩) (fun c j q => by omega)
  have sB : SG PIm QIm μa (seti μa 2 3 1) := SG.seti hua (Or.inr (Or.inr (Or.inl ⟨rfl, rfl⟩)))
  have sB' : SB (fun c => c = 2) μa (seti μa 2 3 1) := SB.se rfl
  have g23 : gi (seti μa 2 3 1) 2 3 = 1 := by rw [gi_seti, if_pos ⟨rfl, rfl⟩]
  have hub : ∀ c, sz (seti μa 2 3 1) ≤ c → tg (seti μa 2 3 1) c = 99 := hua
  have z1 : sz (seti μa 2 3 1) = sz μa := rfl
  have z2 : sl (seti μa 2 3 1) = sl μa := rfl
  have e102 : cl (d + 12) 102 [Sum.inr (Sum.inl (2))] μ = some (Sum.inl (some (Sum.inl (dyA A))), seti μa 2 3 1) := by
    have g34 : gi (seti μa 2 3 1) 3 4 = dyA A := by rw [sB'.2.2.2.2.2.2 3 (by omega)]; exact hta.2.2.2.1
    show rn (d + 12) 102 0 [some (Sum.inr (Sum.inl (2)))] [] μ = _
    simp only [st102_0, st102_1, st102_2, st102_3, st102_4, st102_5, st102_6, st102_7, st102_8, st102_9, st102_10, st102_11, hc.1, hc.2.1, hc.2.2.2.1, h.2.1.2.1, a1, hca.1, hca.2.1, hta.1.1, tg_seti, gr_seti, g34, true_or, or_true, aft_some, Option.toList_some, Option.toList_none, List.cons_append, List.nil_append, br0, br1, br2, br3, zr01, zr02, n10, n01, ne_eq, not_true_eq_false, not_false_eq_true, if_true, if_false, true_and, and_true, and_self]
  have hcb := hca.sb sB'
  have hmb := hma.sb sB'
  have htb := a4.sb sB' (fun c e => ⟨by omega, by rw [e, hca.1]; rfl⟩)
  have g70 : gi (seti μa 2 3 1) 70 = gi μ 70 := by
    obtain ⟨m1, m2, m3, m4, m5, m6, m7, m8, m9, m10, m11, m12, m13, m14, ⟨t0, t1, t2, t3, t4, t5, t6, t7, t8, t9, t10, t11, t12⟩, l0, l1, l2, l3, l4, l5, l6, l7, l8, l9, l10, l11, l12⟩ := hm
    rw [sB'.2.2.2.2.2.2 70 (by omega)]
    exact funext fun j => sA.2.1 70 j (by rw [t0]; decide) (fun q => by unfold PIm at q; omega)
  generalize seti μa 2 3 1 = μ1 at *
  have hmb' := hmb
  obtain ⟨m1, m2, m3, m4, m5, m6, m7, m8, m9, m10, m11, m12, m13, m14, ⟨t0, t1, t2, t3, t4, t5, t6, t7, t8, t9, t10, t11, t12⟩, l0, l1, l2, l3, l4, l5, l6, l7, l8, l9, l10, l11, l12⟩ := hmb
  obtain ⟨μ2, b1, b2, b3⟩ := f152 (d := d + 11) (a := 70) (c := 71) (by decide) t0 t1 l0 l1
  have hr1 : MRw (gi μ2 71) A := hr.ext hw (fun j hj => by rw [b3 j hj, g70])
  have hm2 := hmb'.sb b2
  have sC : SG PIm QIm μ1 μ2 := SG.sb hub b2 (fun c j p => by unfold PIm; omega)
  have hu2 := sC.2.2.2.2.2
  have sD : SG PIm QIm μ2 (seti μ2 69 10 1) := SG.seti hu2 (Or.inr (Or.inr (Or.inr ⟨rfl, rfl⟩)))
  have sD' : SB (fun c => c = 69) μ2 (seti μ2 69 10 1) := SB.se rfl
  have fin := h.im (Ai' := A) ((sA.tr sB).tr (sC.tr sD)) hw ((htb.sb b2 (fun c e => ⟨by omega, by rw [e, t1]; rfl⟩)).sb sD' (fun c e => ⟨by omega, by rw [e, hm2.1]; rfl⟩)) (by rw [sD'.2.2.2.2.2.2 71 (by omega)]; exact hr1) (by rw [sD'.2.2.2.2.2.2 2 (by omega), b2.2.2.2.2.2.2 2 (by omega)]; exact g23) (by rw [gi_seti, if_pos ⟨rfl, rfl⟩]; rfl)
  refine ⟨dyA A, μ1, seti μ2 69 10 1, A, 1, e102, ?_, fin, by show sz μ2 = _; rw [b2.2.2.2.2.1, z1, a3], by show sl μ2 = _; rw [b2.2.2.2.2.2.1, z2, a3'], K1.sg (sA.tr sB)⟩
  have g2 : gi μ2 70 2 = dyA A := by rw [b2.2.2.2.2.2.2 70 (by omega), g70]; exact hr.2.2.1
  obtain ⟨v1, v2, _, _, _, _, _, _, _, _, _, _, _, _, ⟨v3, _⟩, v4, _⟩ := hm2
  show rn (d + 12) 211 0 [some (Sum.inr (Sum.inl (69)))] [] μ1 = _
  simp only [st211_0, st211_1, st211_2, st211_3, st211_4, st211_5, st211_6, st211_7, st211_8, st211_9, st211_10, st211_11, st211_12, m1, m2, m3, b1, v1, v2, v3, v4, gi_seti, gi_setr, gi_setl, gi_setrow, gr_seti, gr_setr, gr_setl, gr_setrow, gl_seti, gl_setr, gl_setl, gl_setrow, tg_seti, tg_setr, tg_setl, tg_setrow, ln_seti, ln_setr, ln_setl, ln_setrow, sz_seti, sz_setr, sz_setl, sz_setrow, sl_seti, sl_setr, sl_setl, sl_setrow, show ((70 : Nat) = 69) = False from eq_false (by decide), false_and, z02, zn2, zl2, g2, true_or, or_true, aft_some, Option.toList_some, Option.toList_none, List.cons_append, List.nil_append, br0, br1, br2, br3, zr01, zr02, n10, n01, ne_eq, not_true_eq_false, not_false_eq_true, if_true, if_false, true_and, and_true, and_self]
theorem g103 {d : Nat} {A Ai : AT} {im : Nat} {Hs : Nat → HT} {μ : SMem} (h : INVw μ A Ai im Hs) : ∃ v μ1 μ2 A', cl (d + 12) 103 [Sum.inr (Sum.inl (2))] μ = some (Sum.inl (some (Sum.inl (v))), μ1) ∧ cl (d + 12) 212 [Sum.inr (Sum.inl (69))] μ1 = some (Sum.inl (some (Sum.inl (v))), μ2) ∧ INVw μ2 A' Ai im Hs ∧ sz μ2 = sz μ ∧ sl μ2 = sl μ ∧ K1 μ μ1 := by
  have hB := h.1
  obtain ⟨hm, hc, hw, ht, hr⟩ := hB
  have hu := h.2.2.2.2.2
  obtain ⟨i1, i2, i3, i4⟩ := h.2.2.1
  by_cases c0 : im = 0
  · rw [c0] at i2 i3
    refine ⟨-3, μ, μ, A, ?_, ?_, h, rfl, rfl, K1.rf⟩
    · show rn (d + 12) 103 0 [some (Sum.inr (Sum.inl (2)))] [] μ = _
      simp only [st103_0, st103_1, st103_2, st103_3, st103_4, st103_5, st103_6, st103_7, st103_8, st103_9, st103_10, st103_11, st103_12, st103_13, hc.1, i2, en00, aft_some, Option.toList_some, Option.toList_none, List.cons_append, List.nil_append, br0, br1, br2, br3, zr01, zr02, n10, n01, ne_eq, not_true_eq_false, not_false_eq_true, if_true, if_false, true_and, and_true, and_self]
    · show rn (d + 12) 212 0 [some (Sum.inr (Sum.inl (69)))] [] μ = _
      simp only [st212_0, st212_1, st212_2, st212_3, st212_4, st212_5, st212_6, st212_7, st212_8, st212_9, st212_10, st212_11, st212_12, st212_13, st212_14, hm.1, i3, en00, aft_some, Option.toList_some, Option.toList_none, List.cons_append, List.nil_append, br0, br1, br2, br3, zr01, zr02, n10, n01, ne_eq, not_true_eq_false, not_false_eq_true, if_true, if_false, true_and, and_true, and_self]
  · have c1 : im = 1 := by omega
    obtain ⟨hwi, hti, hri⟩ := i4 c1
    rw [c1] at i2 i3
    obtain ⟨μ1, a1, a2, ⟨a3, a3'⟩, a4⟩ := f66 (d := d + 10) (show 3 ≤ 3 by decide) hwi ht.1 hti (Or.inl (by omega)) hu
    have sA : SG PTw QTw μ μ1 := a2.wk (fun c j p => by unfold PTw; omega) (fun c j q => by unfold QTw; omega)
    have hu1 := sA.2.2.2.2.2
    have hc1 := hc.sg sA (fun c j q => by unfold QTw at q; omega)
    have hm1 := hm.sg sA (fun j q => by unfold QTw at q; omega)
    have hm1' := hm1
    have g71 : gi μ1 71 = gi μ 71 := by
      obtain ⟨m1, m2, m3, m4, m5, m6, m7, m8, m9, m10, m11, m12, m13, m14, ⟨t0, t1, t2, t3, t4, t5, t6, t7, t8, t9, t10, t11, t12⟩, l0, l1, l2, l3, l4, l5, l6, l7, l8, l9, l10, l11, l12⟩ := hm
      exact funext fun j => a2.2.1 71 j (by rw [t1]; decide) (fun q => by omega)
    have g69 : gi μ1 69 10 = E 1 := by rw [a2.2.1 69 10 (by rw [hm.1]; decide) (fun q => by omega)]; exact i3
    obtain ⟨m1, m2, m3, m4, m5, m6, m7, m8, m9, m10, m11, m12, m13, m14, ⟨t0, t1, t2, t3, t4, t5, t6, t7, t8, t9, t10, t11, t12⟩, l0, l1, l2, l3, l4, l5, l6, l7, l8, l9, l10, l11, l12⟩ := hm1
    obtain ⟨μ2, b1, b2, b3⟩ := f152 (d := d + 11) (a := 71) (c := 70) (by decide) t1 t0 l1 l0
    have hr2 : MRw (gi μ2 70) Ai := hri.ext hwi (fun j hj => by rw [b3 j hj, g71])
    have hm2 := hm1'.sb b2
    have sC : SG PTw QTw μ1 μ2 := SG.sb hu1 b2 (fun c j p => by unfold PTw; omega)
    have fin := h.tw (A' := Ai) (sA.tr sC) ⟨hm2, hc1.sb b2, hwi, a4.sb b2 (fun c e => ⟨by omega, by rw [e, t0]; rfl⟩), hr2⟩ ((h.2.1.1.sg a2 (fun c j q => by omega)).sb b2)
    refine ⟨dyA Ai, μ1, μ2, Ai, ?_, ?_, fin, by rw [b2.2.2.2.2.1, a3], by rw [b2.2.2.2.2.2.1, a3'], K1.sg sA⟩
    · show rn (d + 12) 103 0 [some (Sum.inr (Sum.inl (2)))] [] μ = _
      simp only [st103_0, st103_1, st103_2, st103_3, st103_4, st103_5, st103_6, st103_7, st103_8, st103_9, st103_10, st103_11, st103_12, st103_13, hc.1, hc.2.1, hc.2.2.2.1, i2, en10, ht.1.1, a1, hc1.1, hc1.2.1, a4.1.1, a4.2.2.2.1, aft_some, Option.toList_some, Option.toList_none, List.cons_append, List.nil_append, br0, br1, br2, br3, zr01, zr02, n10, n01, ne_eq, not_true_eq_false, not_false_eq_true, if_true, if_false, true_and, and_true, and_self]
    · have g2 : gi μ2 70 2 = dyA Ai := hr2.2.2.1
      obtain ⟨v1, v2, _, _, _, _, _, _, _, _, _, _, _, _, ⟨v3, _⟩, v4, _⟩ := hm2
      show rn (d + 12) 212 0 [some (Sum.inr (Sum.inl (69)))] [] μ1 = _
      simp only [st212_0, st212_1, st212_2, st212_3, st212_4, st212_5, st212_6, st212_7, st212_8, st212_9, st212_10, st212_11, st212_12, st212_13, st212_14, m1, m2, m3, g69, en10, b1, v1, v2, v3, v4, z02, zn2, zl2, g2, aft_some, Option.toList_some, Option.toList_none, List.cons_append, List.nil_append, br0, br1, br2, br3, zr01, zr02, n10, n01, ne_eq, not_true_eq_false, not_false_eq_true, if_true, if_false, true_and, and_true, and_self]
