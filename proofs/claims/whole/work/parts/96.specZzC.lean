/-! SPECS ZZC: town, the call -/
theorem stF_p {el : Nat → Int32} {n i p : Nat} (hi : i ≤ n) (h : stF el n i = Sum.inl p) : p ≤ n := by
  unfold stF at h
  by_cases c : i < n ∧ ltN (el i) ≠ 0
  · rw [if_pos c] at h
    cases hd : dF el n (ltN (el i)) (i + 1) with
    | some q =>
      rw [hd] at h
      cases h
      exact (dF_p _ _ (by omega) hd).2
    | none =>
      rw [hd] at h
      have h' : (if i + 1 + ltN (el i) < n ∧ el (i + 1 + ltN (el i)) = 59 then (Sum.inr (i + 2 + ltN (el i)) : Nat ⊕ Nat) else Sum.inl (i + 1 + ltN (el i))) = Sum.inl p := h
      have := (dF_n _ _ hd (ltN (el i) - 1) (by have := c.2; omega)).1
      by_cases c2 : i + 1 + ltN (el i) < n ∧ el (i + 1 + ltN (el i)) = 59
      · rw [if_pos c2] at h'; cases h'
      · rw [if_neg c2] at h'; cases h'; omega
  · rw [if_neg c] at h; cases h; exact hi
theorem ff_p {el : Nat → Int32} {n : Nat} : ∀ m i p, i ≤ n → (ff el n m i).1 = some p → p ≤ n := by
  intro m
  induction m with
  | zero => intro i p _ h; cases h
  | succ m ih =>
    intro i p hi h
    cases hs : stF el n i with
    | inl q => rw [ff_l hs] at h; cases h; exact stF_p hi hs
    | inr j =>
      rw [ff_r hs] at h
      by_cases c : n ≤ j
      · rw [if_pos c] at h; cases h
      · rw [if_neg c] at h; exact ih j p (by omega) h
theorem rS_p {el : Nat → Int32} {n : Nat} : ∀ m i A p, (rS el n m i A).1 = some p → p < n := by
  intro m
  induction m with
  | zero => intro i A p h; cases h
  | succ m ih =>
    intro i A p h
    by_cases c : n ≤ i
    · rw [rS_e c] at h; cases h
    · cases hs : stA A el i with
      | none => rw [rS_n c hs] at h; cases h; omega
      | some A' => rw [rS_s c hs] at h; exact ih _ A' p h
theorem f169_a {d e : Nat} {x1 x2 : Int32} {H : HT} {μ0 : SMem} (he : e < 8) (hm : MA μ0) (hH : HWF H) (hM : ShM μ0 e H) : ∀ m i cnt (μ : SMem), i ≤ hsz H → hsz H < i + m → PS e (hsz H) μ0 μ i → ∃ μ' q, (rn (d + 3) 169 25 [some (Sum.inr (Sum.inl (69))), some (Sum.inl (x1)), some (Sum.inl (x2)), some (Sum.inl (E cnt)), none, none, none] [] μ = match (ff (hel H) (hsz H) m i).1 with | some p => some (Sum.inl (some (Sum.inl (-1000 - E p))), μ') | none => rn (d + 3) 169 39 [some (Sum.inr (Sum.inl (69))), some (Sum.inl (x1)), some (Sum.inl (x2)), some (Sum.inl (E (cnt + (ff (hel H) (hsz H) m i).2))), none, none, none] [] μ') ∧ PS e (hsz H) μ0 μ' q := by
  have hn := hH.2.2.1
  intro m
  induction m with
  | zero => intro i cnt μ hi hm9; omega
  | succ m ih =>
    intro i cnt μ hi hm9 hP
    have hm1 := (hm.sb hP.1).1
    obtain ⟨μ1, b1, b2, b3⟩ := f165 (d := d) he hm hH hM hi hP
    cases hs : stF (hel H) (hsz H) i with
    | inl p =>
      rw [hs] at b1
      have hP1 := b2 p hs
      have hm2 := (hm.sb hP1.1).1
      refine ⟨μ1, p, ?_, hP1⟩
      rw [ff_l hs, st169_25]
      simp only [st169_26, st169_27, st169_28, st169_29, st169_30, st169_31, st169_32, hm1, b1, hm2, hP1.2.1, aft_some, Option.toList_some, Option.toList_none, List.cons_append, List.nil_append, br0, br1, br2, br3, zr01, zr02, n10, n01, ne_eq, not_true_eq_false, not_false_eq_true, if_true, if_false, true_and, and_true, and_self]
    | inr j =>
      rw [hs] at b1
      obtain ⟨hP1, _⟩ := b3 j hs
      have hm2 := (hm.sb hP1.1).1
      obtain ⟨r1, r2, r3, r4, r5, r6⟩ := stF_r hs
      have lj : (E j < E (hsz H)) = (j < hsz H) := E_ltE (by omega) (by omega)
      rw [ff_r hs]
      by_cases c : hsz H ≤ j
      · rw [if_pos c]
        refine ⟨μ1, j, ?_, hP1⟩
        rw [st169_25]
        simp only [st169_26, st169_27, st169_28, st169_29, st169_30, st169_31, st169_32, st169_33, st169_34, st169_35, st169_36, st169_37, st169_38, hm1, b1, hm2, hP1.2.1, hP1.2.2.2.1, lj, show ¬ j < hsz H by omega, show E cnt + 1 = E (cnt + 1) from E_add cnt 1, aft_some, Option.toList_some, Option.toList_none, List.cons_append, List.nil_append, br0, br1, br2, br3, zr01, zr02, n10, n01, ne_eq, not_true_eq_false, not_false_eq_true, if_true, if_false, true_and, and_true, and_self]
      · rw [if_neg c]
        obtain ⟨μ2, q, c1, c2⟩ := ih j (cnt + 1) μ1 (by omega) (by omega) hP1
        refine ⟨μ2, q, ?_, c2⟩
        have ea : cnt + 1 + (ff (hel H) (hsz H) m j).2 = cnt + ((ff (hel H) (hsz H) m j).2 + 1) := by omega
        rw [ea] at c1
        refine Eq.trans ?_ c1
        rw [st169_25]
        simp only [st169_26, st169_27, st169_28, st169_29, st169_30, st169_31, st169_32, st169_33, st169_34, st169_35, st169_36, st169_37, st169_38, hm1, b1, hm2, hP1.2.1, hP1.2.2.2.1, lj, show j < hsz H by omega, show E cnt + 1 = E (cnt + 1) from E_add cnt 1, aft_some, Option.toList_some, Option.toList_none, List.cons_append, List.nil_append, br0, br1, br2, br3, zr01, zr02, n10, n01, ne_eq, not_true_eq_false, not_false_eq_true, if_true, if_false, true_and, and_true, and_self]
theorem f169_b {d e : Nat} {x1 x2 x3 : Int32} {H : HT} (he : e < 8) (hH : HWF H) : ∀ m i (A : AT) (μ : SMem) (u4 u5 u6 : Option SV), i ≤ hsz H → hsz H < i + m → (hsz H ≤ i ∨ (ff (hel H) (hsz H) m i).1 = none) → MA μ → ShM μ e H → WF A → MRw (gi μ 70) A → gi μ 69 12 = E i → gi μ 69 13 = E (100 * e) → gi μ 69 14 = E (hsz H) → ∃ μ' u4' u5' u6', (rn (d + 7) 169 47 [some (Sum.inr (Sum.inl (69))), some (Sum.inl (x1)), some (Sum.inl (x2)), some (Sum.inl (x3)), u4, u5, u6] [] μ = match (rS (hel H) (hsz H) m i A).1 with | some p => some (Sum.inl (some (Sum.inl (-2000 - E p))), μ') | none => rn (d + 7) 169 75 [some (Sum.inr (Sum.inl (69))), some (Sum.inl (x1)), some (Sum.inl (x2)), some (Sum.inl (x3)), u4', u5', u6'] [] μ') ∧ SB (fun c => c = 69 ∨ c = 70 ∨ c = 80) μ μ' ∧ (∀ j, j ≠ 12 → gi μ' 69 j = gi μ 69 j) ∧ ((rS (hel H) (hsz H) m i A).1 = none → MRw (gi μ' 70) (rS (hel H) (hsz H) m i A).2) ∧ (∀ p, (rS (hel H) (hsz H) m i A).1 = some p → ∀ j, j < 87 → gi μ' 70 j = gi μ 72 j) := by
  have hn := hH.2.2.1
  intro m
  induction m with
  | zero => intro i A μ u4 u5 u6 hi hm9; omega
  | succ m ih =>
    intro i A μ u4 u5 u6 hi hm9 hok hm hM hw hR g12 g13 g14
    have ln1 : (E (hsz H) ≤ E i) = (hsz H ≤ i) := E_leE (by omega) (by omega)
    by_cases c1 : hsz H ≤ i
    · rw [rS_e c1]
      refine ⟨μ, u4, u5, u6, ?_, SB.rf, fun _ _ => rfl, fun _ => hR, (fun p h => by cases h)⟩
      rw [st169_47]
      simp only [st169_48, st169_49, st169_50, st169_51, hm.1, g12, g14, ln1, c1, aft_some, Option.toList_some, Option.toList_none, List.cons_append, List.nil_append, br0, br1, br2, br3, zr01, zr02, n10, n01, ne_eq, not_true_eq_false, not_false_eq_true, if_true, if_false, true_and, and_true, and_self]
    · have hok' : (ff (hel H) (hsz H) (m + 1) i).1 = none := hok.resolve_left c1
      have hP : PS e (hsz H) μ μ i := ⟨SB.rf, g12, g13, g14, fun _ _ => rfl⟩
      cases hs : stF (hel H) (hsz H) i with
      | inl p => rw [ff_l hs] at hok'; cases hok'
      | inr j =>
        obtain ⟨r1, r2, r3, r4, r5, r6⟩ := stF_r hs
        rw [ff_r hs] at hok'
        obtain ⟨c, ec, ec2, hcc, hl2, hl3⟩ := ltN_c r2
        have hdg := dF_n _ _ r3
        have lN := ltN_le (hel H i)
        have dlt : ∀ s, dgv (hel H) i s < 10 := fun s => Nat.mod_lt _ (by decide)
        have e163 := fun d => f163 (d := d) he hm hH hM hP hi
        rw [if_pos r1, ec] at e163
        obtain ⟨μ1, b1, b2, b3⟩ := f165 (d := d + 4) he hm hH hM hi hP
        rw [hs] at b1
        obtain ⟨hP1, g80⟩ := b3 j hs
        have hm1 := hm.sb hP1.1
        have hM1 := hM.sb hP1.1 (fun c e => by omega)
        have hR1 : MRw (gi μ1 70) A := by rw [hP1.1.2.2.2.2.2.2 70 (by omega)]; exact hR
        have gd : ∀ s, s < ltN (hel H i) → gi μ1 80 s = E (dgv (hel H) i s) := fun s hs9 => by
          rw [g80 s hs9, dig_E (hdg s hs9).2, show (48 : Int32) = E 48 from rfl, E_sub (by omega)]
          congr 1
          omega
        obtain ⟨μ2, a1, a2, a3⟩ := f167 (d := d) (c := c) hm1 hw hR1 (dlt 0) (dlt 1) (dlt 2) (gd 0 (by omega)) (fun h => gd 1 (by have := hl2 h; omega)) (fun h => gd 2 (by have := hl3 h; omega)) hcc
        have hm2 := hm1.sb a2
        have hM2 := hM1.sb a2 (fun c e => by omega)
        have es : stA A (hel H) i = stD A c (dgv (hel H) i 0) (dgv (hel H) i 1) (dgv (hel H) i 2) := by unfold stA; rw [ec2]
        have g69 : gi μ2 69 = gi μ1 69 := a2.2.2.2.2.2.2 69 (by omega)
        have s12 : SB (fun c => c = 69 ∨ c = 70 ∨ c = 80) μ μ2 := (hP1.1.wk (fun c e => by omega)).tr (a2.wk (fun c e => by omega))
        cases hst : stD A c (dgv (hel H) i 0) (dgv (hel H) i 1) (dgv (hel H) i 2) with
        | none =>
          rw [hst] at es a1
          rw [rS_n c1 es]
          have hm2' := hm2
          obtain ⟨m1, m2, m3, m4, m5, m6, m7, m8, m9, m10, m11, m12, m13, m14, ⟨t0, t1, t2, t3, t4, t5, t6, t7, t8, t9, t10, t11, t12⟩, l0, l1, l2, l3, l4, l5, l6, l7, l8, l9, l10, l11, l12⟩ := hm2'
          obtain ⟨μ3, y1, y2, y3⟩ := f152 (d := d + 6) (a := 72) (c := 70) (by decide) t2 t0 l2 l0
          refine ⟨μ3, none, none, none, ?_, s12.tr (y2.wk (fun c e => by omega)), fun j hj => by rw [y2.2.2.2.2.2.2 69 (by omega), g69]; exact hP1.2.2.2.2 j hj, (fun h => by cases h), fun p _ j hj => by rw [y3 j hj, s12.2.2.2.2.2.2 72 (by omega)]⟩
          rw [st169_47]
          simp only [st169_48, st169_49, st169_50, st169_51, st169_52, st169_53, st169_54, st169_55, st169_56, st169_57, st169_58, st169_59, st169_60, st169_61, st169_62, st169_63, st169_64, st169_65, st169_66, st169_67, st169_68, st169_69, st169_70, st169_71, st169_72, st169_73, hm.1, g12, g14, ln1, c1, e163, b1, hm1.1, a1, Option.isSome_none, show (false = true) = False from eq_false (by decide), m1, m2, m4, y1, aft_some, Option.toList_some, Option.toList_none, List.cons_append, List.nil_append, br0, br1, br2, br3, zr01, zr02, n10, n01, ne_eq, not_true_eq_false, not_false_eq_true, if_true, if_false, true_and, and_true, and_self]
        | some A' =>
          rw [hst] at es a1
          rw [rS_s c1 es]
          have hw1 := stD_wf hw (dlt 1) hst
          have hj : hsz H ≤ j ∨ (ff (hel H) (hsz H) m j).1 = none := by
            by_cases c3 : hsz H ≤ j
            · exact Or.inl c3
            · rw [if_neg c3] at hok'; exact Or.inr hok'
          obtain ⟨μ3, u4', u5', u6', y1, y2, y3, y4, y5⟩ := ih j A' μ2 (some (Sum.inl (E i))) (some (Sum.inl (E c))) (some (Sum.inl 1)) (by omega) (by omega) hj hm2 hM2 hw1 (a3 A' hst) (by rw [g69]; exact hP1.2.1) (by rw [g69]; exact hP1.2.2.1) (by rw [g69]; exact hP1.2.2.2.1)
          rw [r6] at y1 y4 y5
          refine ⟨μ3, u4', u5', u6', ?_, s12.tr y2, fun j hj => by rw [y3 j hj, g69]; exact hP1.2.2.2.2 j hj, y4, fun p hp j hj => by rw [y5 p hp j hj, s12.2.2.2.2.2.2 72 (by omega)]⟩
          refine Eq.trans ?_ y1
          rw [st169_47]
          simp only [st169_48, st169_49, st169_50, st169_51, st169_52, st169_53, st169_54, st169_55, st169_56, st169_57, st169_58, st169_59, st169_60, st169_61, st169_62, st169_63, st169_64, st169_74, hm.1, g12, g14, ln1, c1, e163, b1, hm1.1, a1, Option.isSome_some, aft_some, Option.toList_some, Option.toList_none, List.cons_append, List.nil_append, br0, br1, br2, br3, zr01, zr02, n10, n01, ne_eq, not_true_eq_false, not_false_eq_true, if_true, if_false, true_and, and_true, and_self]
theorem SG.s69 {P : Nat → Prop} {μ μ' : SMem} (h : ∀ c, sz μ ≤ c → tg μ c = 99) (hs : SB P μ μ') (hP : ∀ c, P c → c = 69 ∨ c = 70 ∨ c = 72 ∨ c = 73 ∨ (80 ≤ c ∧ c ≤ 82)) (h69 : gi μ' 69 10 = gi μ 69 10) : SG PTw QTw μ μ' := by
  obtain ⟨a1, a2, a3, a4, a5, a6, a7⟩ := hs
  refine ⟨fun c _ => ⟨by rw [a1], by rw [a2]⟩, fun c j _ hn => ?_, fun c j _ _ => by rw [a3], ⟨by rw [a5]; exact Nat.le_refl _, a7 1 (fun e => by have := hP _ e; omega), by rw [a2]⟩, by rw [a6]; exact Nat.le_refl _, fun c hc => by rw [a1]; rw [a5] at hc; exact h c hc⟩
  by_cases q : c = 69
  · subst q
    have : j = 10 := by
      by_cases q2 : j = 10
      · exact q2
      · exact absurd (Or.inr (Or.inr (Or.inl ⟨rfl, q2⟩))) hn
    rw [this]; exact h69
  · rw [a7 c (fun e => hn (by have := hP c e; unfold PTw; omega))]
theorem g78 {d : Nat} {x : Int32} {A Ai : AT} {im : Nat} {Hs : Nat → HT} {μ : SMem} (h : INVw μ A Ai im Hs) : ∃ v μ1 μ2 A', cl (d + 12) 78 [Sum.inr (Sum.inl (2)), Sum.inl (x)] μ = some (Sum.inl (some (Sum.inl (v))), μ1) ∧ cl (d + 12) 169 [Sum.inr (Sum.inl (69)), Sum.inl (x)] μ1 = some (Sum.inl (some (Sum.inl (v))), μ2) ∧ INVw μ2 A' Ai im Hs ∧ sz μ2 ≤ sz μ + 101 ∧ sl μ2 ≤ sl μ + 101 ∧ K1 μ μ1 := by
  have hB := h.1
  obtain ⟨hm, hc, hw, ht, hr⟩ := hB
  have hu := h.2.2.2.2.2
  have h84 := h.2.2.2.2.1.1
  have n1 : ((-1 : Int32) = 0) = False := eq_false (by decide)
  by_cases c : 0 ≤ x ∧ x < 8
  · obtain ⟨e, he, rfl⟩ := E_of (n := 8) c.1 c.2 (by decide)
    obtain ⟨hH, hC, hM⟩ := h.2.2.2.1 e he
    have e0 : (53 + 2 * e = 0) = False := eq_false (by omega)
    have hn := hH.2.2.1
    have t8 := (hc.2.2.2.2.2.2.2.2.2.2.2 e he).2.1
    have x4 := fun q => (hC.2.1 q).2.2.2
    by_cases k : rfB (Hs e) = 0
    · have hk := (rfB_0 k).1
      have e100 : (100 : Int32) * E e = E (100 * e) := by rw [show (100 : Int32) = E 100 from rfl, E_mul]
      -- the reference's first pass, from any memory whose parts are the same
      have pass1 : ∀ μ1 : SMem, MA μ1 → ShM μ1 e (Hs e) → ∃ μ', (rn (d + 12) 169 0 [some (Sum.inr (Sum.inl (69))), some (Sum.inl (E e)), none, none, none, none, none] [] μ1 = match (ff (hel (Hs e)) (hsz (Hs e)) (hsz (Hs e) + 1) 0).1 with | some p => some (Sum.inl (some (Sum.inl (-1000 - E p))), μ') | none => rn (d + 12) 169 39 [some (Sum.inr (Sum.inl (69))), some (Sum.inl (E e)), some (Sum.inl (0)), some (Sum.inl (E (0 + (ff (hel (Hs e)) (hsz (Hs e)) (hsz (Hs e) + 1) 0).2))), none, none, none] [] μ') ∧ SB (fun c => c = 69 ∨ c = 80) μ1 μ' ∧ gi μ' 69 10 = gi μ1 69 10 ∧ gi μ' 69 13 = E (100 * e) ∧ gi μ' 69 14 = E (hsz (Hs e)) := by
        intro μ1 hm1 hM1
        have f168' := fun d => f168b (d := d) he hm1 hH hM1
        have n76 := (hM1.2.1 hk).2
        have sA : SB (fun c => c = 69) μ1 (seti (seti (seti μ1 69 13 (E (100 * e))) 69 14 (E (hsz (Hs e)))) 69 12 0) := SB.se2.tr (SB.se rfl)
        have hmA := hm1.sb sA
        have hMA := hM1.sb sA (fun c e => by omega)
        have hPA : PS e (hsz (Hs e)) (seti (seti (seti μ1 69 13 (E (100 * e))) 69 14 (E (hsz (Hs e)))) 69 12 0) (seti (seti (seti μ1 69 13 (E (100 * e))) 69 14 (E (hsz (Hs e)))) 69 12 0) 0 := ⟨SB.rf, by rw [gi_seti, if_pos ⟨rfl, rfl⟩]; rfl, by rw [gi_seti, if_neg (by omega), gi_seti, if_neg (by omega), gi_seti, if_pos ⟨rfl, rfl⟩], by rw [gi_seti, if_neg (by omega), gi_seti, if_pos ⟨rfl, rfl⟩], fun _ _ => rfl⟩
        obtain ⟨μ', q, y1, y2⟩ := f169_a (d := d + 9) (x1 := E e) (x2 := 0) he hmA hH hMA (hsz (Hs e) + 1) 0 0 _ (by omega) (by omega) hPA
        refine ⟨μ', ?_, (sA.wk (fun c e => Or.inl e)).tr y2.1, ?_, y2.2.2.1, y2.2.2.2.1⟩
        · obtain ⟨m1, m2, m3, m4, m5, m6, m7, m8, m9, m10, m11, m12, m13, m14, ⟨t0, t1, t2, t3, t4, t5, t6, t7, t8, t9, t10, t11, t12⟩, l0, l1, l2, l3, l4, l5, l6, l7, l8, l9, l10, l11, l12⟩ := hm1
          refine Eq.trans ?_ y1
          simp only [st169_0, st169_1, st169_2, st169_3, st169_4, st169_5, st169_6, st169_7, st169_8, st169_9, st169_10, st169_11, st169_12, st169_13, st169_14, st169_15, st169_16, st169_17, st169_18, st169_19, st169_20, st169_21, st169_22, st169_23, st169_24, m1, f168', k, e100, gi_seti, gi_setr, gi_setl, gi_setrow, gr_seti, gr_setr, gr_setl, gr_setrow, gl_seti, gl_setr, gl_setl, gl_setrow, tg_seti, tg_setr, tg_setl, tg_setrow, ln_seti, ln_setr, ln_setl, ln_setrow, sz_seti, sz_setr, sz_setl, sz_setrow, sl_seti, sl_setr, sl_setl, sl_setrow, m8, t6, l6, E_ge0 (show e < 1000 by omega), E_n (show e < 1000 by omega), he, n76, aft_some, Option.toList_some, Option.toList_none, List.cons_append, List.nil_append, br0, br1, br2, br3, zr01, zr02, n10, n01, ne_eq, not_true_eq_false, not_false_eq_true, if_true, if_false, true_and, and_true, and_self]
          rfl
        · rw [y2.2.2.2.2 10 (by decide), gi_seti, if_neg (by omega), gi_seti, if_neg (by omega), gi_seti, if_neg (by omega)]
      have cls0 : cl (d + 12) 78 [Sum.inr (Sum.inl (2)), Sum.inl (E e)] μ = rn (d + 12) 78 18 [some (Sum.inr (Sum.inl (2))), some (Sum.inl (E e)), some (Sum.inr (Sum.inl (53 + 2 * e))), some (Sum.inl (0)), some (Sum.inl (ffR (ff (hel (Hs e)) (hsz (Hs e)) (hsz (Hs e) + 1) 0).1)), none, none] [Sum.inl (-4), Sum.inl (ffR (ff (hel (Hs e)) (hsz (Hs e)) (hsz (Hs e) + 1) 0).1)] μ := by
        show rn (d + 12) 78 0 [some (Sum.inr (Sum.inl (2))), some (Sum.inl (E e)), none, none, none, none, none] [] μ = _
        simp only [st78_0, st78_1, st78_2, st78_3, st78_4, st78_5, st78_6, st78_7, st78_8, st78_9, st78_10, st78_11, st78_12, st78_13, st78_14, st78_15, st78_16, st78_17, hc.1, f113 hc, c, E_n (show e < 1000 by omega), e0, f115 he hc hH hC, k, f120 he hc hH hC hk, aft_some, Option.toList_some, Option.toList_none, List.cons_append, List.nil_append, br0, br1, br2, br3, zr01, zr02, n10, n01, ne_eq, not_true_eq_false, not_false_eq_true, if_true, if_false, true_and, and_true, and_self]
      cases hf : (ff (hel (Hs e)) (hsz (Hs e)) (hsz (Hs e) + 1) 0).1 with
      | some p =>
        have hp := ff_p _ _ p (Nat.zero_le _) hf
        obtain ⟨μ2, b1, b2, b3, b4, b5⟩ := pass1 μ hm hM
        rw [hf] at b1 cls0
        refine ⟨-1000 - E p, μ, μ2, A, ?_, b1, ?_, by rw [b2.2.2.2.2.1]; omega, by rw [b2.2.2.2.2.2.1]; omega, K1.rf⟩
        · rw [cls0]
          simp only [st78_18, st78_19, st78_20, st78_21, st78_22, ffR, Em4 (show p < 1000 by omega), aft_some, Option.toList_some, Option.toList_none, List.cons_append, List.nil_append, br0, br1, br2, br3, zr01, zr02, n10, n01, ne_eq, not_true_eq_false, not_false_eq_true, if_true, if_false, true_and, and_true, and_self]
        · exact h.tw (SG.s69 hu b2 (fun c e => by omega) b3) (h.1.rs b2 (fun c e => by unfold Scr; omega) (fun j _ => by rw [b2.2.2.2.2.2.2 70 (by omega)])) (h.2.1.1.sb b2)
      | none =>
        rw [hf] at cls0
        obtain ⟨μa, a1, a2, ⟨a3, a3'⟩, a4⟩ := f66 (d := d + 10) (show 3 ≤ 18 by decide) hw h.2.1.1 ht (Or.inr (by omega)) hu
        have hua := a2.2.2.2.2.2
        have tgA := fun c h1 h2 => (h.2.1.1.tag (c := c) h1 h2).1
        have hca := hc.sg a2 (fun c j q => by omega)
        have hCa := hC.sg he hc a2 (fun c j p => ⟨by omega, by omega, tgA c p.1 p.2⟩) (fun c j p => by omega)
        obtain ⟨μb, b1, b2, ⟨b3, b3'⟩, b4, b5⟩ := f78_lp (d := d + 5) (x1 := E e) (x3 := 0) (x4' := -4) he hH hk (hsz (Hs e) + 1) 0 0 A μa (by omega) (by omega) (Or.inr hf) hca hCa hw a4 (by have := a2.2.2.2.1.1; omega) hua
        have sAB : SG (fun c j => 18 ≤ c ∧ c ≤ 32) (fun c j => c = 20) μ μb := (a2.wk (fun c j e => e) (fun c j e => e)).tr b2
        have hub := sAB.2.2.2.2.2
        have hcb := hc.sg sAB (fun c j q => by omega)
        have hmb := hm.sg sAB (fun j q => by omega)
        have hMb := hM.sg hm sAB (fun c j p => by omega)
        have htb := ht.sg sAB (fun c j p => ⟨by omega, tgA c p.1 p.2⟩) (fun c j q => by omega)
        have sPT : SG PTw QTw μ μb := sAB.wk (fun c j e => by unfold PTw; omega) (fun c j e => by unfold QTw; omega)
        have g70 : gi μb 70 = gi μ 70 := by
          have hm9 := hm
          obtain ⟨m1, m2, m3, m4, m5, m6, m7, m8, m9, m10, m11, m12, m13, m14, ⟨t0, t1, t2, t3, t4, t5, t6, t7, t8, t9, t10, t11, t12⟩, l0, l1, l2, l3, l4, l5, l6, l7, l8, l9, l10, l11, l12⟩ := hm9
          exact funext fun j => sAB.2.1 70 j (by rw [t0]; decide) (fun q => by omega)
        have g69 : gi μb 69 10 = gi μ 69 10 := sAB.2.1 69 10 (by rw [hm.1]; decide) (fun q => by omega)
        -- the class up to its last copy
        have cls1 : cl (d + 12) 78 [Sum.inr (Sum.inl (2)), Sum.inl (E e)] μ = rn (d + 12) 78 32 [some (Sum.inr (Sum.inl (2))), some (Sum.inl (E e)), some (Sum.inr (Sum.inl (53 + 2 * e))), some (Sum.inl (0)), some (Sum.inl (-4)), some (Sum.inl (E 0)), some (Sum.inl (E 0))] [] μa := by
          rw [cls0]
          simp only [st78_18, st78_19, st78_20, st78_21, st78_22, st78_23, st78_24, st78_25, st78_26, st78_27, st78_28, st78_29, st78_30, st78_31, ffR, hc.1, hc.2.1, hc.2.2.1, h.2.1.1.1, a1, aft_some, Option.toList_some, Option.toList_none, List.cons_append, List.nil_append, br0, br1, br2, br3, zr01, zr02, n10, n01, ne_eq, not_true_eq_false, not_false_eq_true, if_true, if_false, true_and, and_true, and_self]
          rfl
        -- the reference's second pass, from a memory behind the class
        have pass2 : ∀ μ1 : SMem, MA μ1 → ShM μ1 e (Hs e) → MRw (gi μ1 70) A → ∃ μ', (rn (d + 12) 169 0 [some (Sum.inr (Sum.inl (69))), some (Sum.inl (E e)), none, none, none, none, none] [] μ1 = match (rS (hel (Hs e)) (hsz (Hs e)) (hsz (Hs e) + 1) 0 A).1 with | some p => some (Sum.inl (some (Sum.inl (-2000 - E p))), μ') | none => some (Sum.inl (some (Sum.inl (E (0 + (ff (hel (Hs e)) (hsz (Hs e)) (hsz (Hs e) + 1) 0).2)))), μ')) ∧ SB (fun c => c = 69 ∨ c = 70 ∨ c = 72 ∨ c = 80) μ1 μ' ∧ gi μ' 69 10 = gi μ1 69 10 ∧ ((rS (hel (Hs e)) (hsz (Hs e)) (hsz (Hs e) + 1) 0 A).1 = none → MRw (gi μ' 70) (rS (hel (Hs e)) (hsz (Hs e)) (hsz (Hs e) + 1) 0 A).2) ∧ (∀ p, (rS (hel (Hs e)) (hsz (Hs e)) (hsz (Hs e) + 1) 0 A).1 = some p → ∀ j, j < 87 → gi μ' 70 j = gi μ1 70 j) := by
          intro μ1 hm1 hM1 hR1
          obtain ⟨μp, p1, p2, p3, p4, p5⟩ := pass1 μ1 hm1 hM1
          rw [hf] at p1
          have hmp := hm1.sb p2
          have hmp' := hmp
          obtain ⟨m1, m2, m3, m4, m5, m6, m7, m8, m9, m10, m11, m12, m13, m14, ⟨t0, t1, t2, t3, t4, t5, t6, t7, t8, t9, t10, t11, t12⟩, l0, l1, l2, l3, l4, l5, l6, l7, l8, l9, l10, l11, l12⟩ := hmp'
          obtain ⟨μq, q1, q2, q3⟩ := f152 (d := d + 11) (a := 70) (c := 72) (by decide) t0 t2 l0 l2
          have hmq := hmp.sb q2
          have sR : SB (fun c => c = 69) μq (seti μq 69 12 0) := SB.se rfl
          have hmr := hmq.sb sR
          have gq : ∀ j, j ≠ 12 → gi (seti μq 69 12 0) 69 j = gi μp 69 j := fun j hj => by rw [gi_seti, if_neg (fun e => hj e.2), q2.2.2.2.2.2.2 69 (by omega)]
          have gO : ∀ c, c ≠ 69 → gi (seti μq 69 12 0) c = gi μq c := fun c hc9 => sR.2.2.2.2.2.2 c hc9
          have g7 : gi (seti μq 69 12 0) 70 = gi μ1 70 := by rw [gO 70 (by omega), q2.2.2.2.2.2.2 70 (by omega), p2.2.2.2.2.2.2 70 (by omega)]
          obtain ⟨μr, u4', u5', u6', r1, r2, r3, r4, r5⟩ := f169_b (d := d + 5) (x1 := E e) (x2 := 0) (x3 := E (0 + (ff (hel (Hs e)) (hsz (Hs e)) (hsz (Hs e) + 1) 0).2)) he hH (hsz (Hs e) + 1) 0 A (seti μq 69 12 0) none none none (by omega) (by omega) (Or.inr hf) hmr (((hM1.sb p2 (fun c e => by omega)).sb q2 (fun c e => by omega)).sb sR (fun c e => by omega)) hw (by rw [g7]; exact hR1) (by rw [gi_seti, if_pos ⟨rfl, rfl⟩]; rfl) (by rw [gq 13 (by decide)]; exact p4) (by rw [gq 14 (by decide)]; exact p5)
          refine ⟨μr, ?_, (p2.wk (fun c e => by omega)).tr ((q2.wk (fun c e => by omega)).tr ((sR.wk (fun c e => by omega)).tr (r2.wk (fun c e => by omega)))), by rw [r3 10 (by decide), gq 10 (by decide), p3], r4, fun p hp j hj => ?_⟩
          · refine p1.trans ?_
            have s47 : rn (d + 12) 169 39 [some (Sum.inr (Sum.inl (69))), some (Sum.inl (E e)), some (Sum.inl (0)), some (Sum.inl (E (0 + (ff (hel (Hs e)) (hsz (Hs e)) (hsz (Hs e) + 1) 0).2))), none, none, none] [] μp = rn (d + 12) 169 47 [some (Sum.inr (Sum.inl (69))), some (Sum.inl (E e)), some (Sum.inl (0)), some (Sum.inl (E (0 + (ff (hel (Hs e)) (hsz (Hs e)) (hsz (Hs e) + 1) 0).2))), none, none, none] [] (seti μq 69 12 0) := by
              simp only [st169_39, st169_40, st169_41, st169_42, st169_43, st169_44, st169_45, st169_46, m1, m2, m4, q1, hmq.1, aft_some, Option.toList_some, Option.toList_none, List.cons_append, List.nil_append, br0, br1, br2, br3, zr01, zr02, n10, n01, ne_eq, not_true_eq_false, not_false_eq_true, if_true, if_false, true_and, and_true, and_self]
            refine s47.trans ?_
            refine Eq.trans r1 ?_
            cases hrs : (rS (hel (Hs e)) (hsz (Hs e)) (hsz (Hs e) + 1) 0 A).1 with
            | some p => rfl
            | none => simp only [st169_75, st169_76]
          · rw [r5 p hp j hj, gO 72 (by omega), q3 j hj, p2.2.2.2.2.2.2 70 (by omega)]
        cases hrs : (rS (hel (Hs e)) (hsz (Hs e)) (hsz (Hs e) + 1) 0 A).1 with
        | some p =>
          rw [hrs] at b1
          obtain ⟨μ2, c1, c2, c3, c4, c5⟩ := pass2 μb hmb hMb (by rw [g70]; exact hr)
          rw [hrs] at c1
          have hBb : Both μb A := ⟨hmb, hcb, hw, htb, by rw [g70]; exact hr⟩
          have hIb := h.tw sPT hBb b5
          refine ⟨-2000 - E p, μb, μ2, A, cls1.trans b1, c1, hIb.tw (SG.s69 hub c2 (fun c e => by omega) c3) (hBb.rs c2 (fun c e => by unfold Scr; omega) (c5 p hrs)) (b5.sb c2), by rw [c2.2.2.2.2.1]; omega, by rw [c2.2.2.2.2.2.1]; omega, K1.sg sPT⟩
        | none =>
          rw [hrs] at b1
          obtain ⟨ht18, hw'⟩ := b4 hrs
          obtain ⟨μc, o1, o2, ⟨o3, o3'⟩, o4⟩ := f66 (d := d + 10) (show 3 ≤ 3 by decide) hw' htb.1 ht18 (Or.inl (by omega)) hub
          have huc := o2.2.2.2.2.2
          have tg3 := fun c h1 h2 => (htb.1.tag (c := c) h1 h2).1
          have hcc := hcb.sg o2 (fun c j q => by omega)
          have hmc := hmb.sg o2 (fun j q => by omega)
          have hMc := hMb.sg hmb o2 (fun c j p => by omega)
          have ht18c := ht18.1.sg o2 (fun c j q => by omega)
          have sPT2 : SG PTw QTw μ μc := sPT.tr (o2.wk (fun c j e => by unfold PTw; omega) (fun c j e => by unfold QTw; omega))
          have g70c : gi μc 70 = gi μ 70 := by
            have hm9 := hmb
            obtain ⟨m1, m2, m3, m4, m5, m6, m7, m8, m9, m10, m11, m12, m13, m14, ⟨t0, t1, t2, t3, t4, t5, t6, t7, t8, t9, t10, t11, t12⟩, l0, l1, l2, l3, l4, l5, l6, l7, l8, l9, l10, l11, l12⟩ := hm9
            rw [← g70]
            exact funext fun j => o2.2.1 70 j (by rw [t0]; decide) (fun q => by omega)
          have g69c : gi μc 69 10 = gi μb 69 10 := o2.2.1 69 10 (by rw [hmb.1]; decide) (fun q => by omega)
          obtain ⟨μ2, c1, c2, c3, c4, c5⟩ := pass2 μc hmc hMc (by rw [g70c]; exact hr)
          rw [hrs] at c1
          have sM : SG PTw QTw μc μ2 := SG.s69 huc c2 (fun c e => by omega) c3
          have tgm : ∀ c, c = 69 ∨ c = 70 ∨ c = 72 ∨ c = 80 → isRd (tg μc c) = false := by
            have hm9 := hmc
            obtain ⟨m1, m2, m3, m4, m5, m6, m7, m8, m9, m10, m11, m12, m13, m14, ⟨t0, t1, t2, t3, t4, t5, t6, t7, t8, t9, t10, t11, t12⟩, l0, l1, l2, l3, l4, l5, l6, l7, l8, l9, l10, l11, l12⟩ := hm9
            intro c hcq
            rcases hcq with q | q | q | q <;> subst q
            · rw [m1]; rfl
            · rw [t0]; rfl
            · rw [t2]; rfl
            · rw [t10]; rfl
          have ecn : cnF (hel (Hs e)) (hsz (Hs e)) (hsz (Hs e) + 1) 0 = (ff (hel (Hs e)) (hsz (Hs e)) (hsz (Hs e) + 1) 0).2 := by
            unfold cnF
            by_cases q : hsz (Hs e) ≤ 0
            · have es : stF (hel (Hs e)) (hsz (Hs e)) 0 = Sum.inl 0 := by unfold stF; rw [if_neg (by omega)]
              rw [ff_l es] at hf
              cases hf
            · rw [if_neg q]
          refine ⟨E (0 + (ff (hel (Hs e)) (hsz (Hs e)) (hsz (Hs e) + 1) 0).2), μc, μ2, (rS (hel (Hs e)) (hsz (Hs e)) (hsz (Hs e) + 1) 0 A).2, ?_, c1, h.tw (sPT2.tr sM) ⟨hmc.sb c2, hcc.sb c2, hw', o4.sb c2 (fun c e => ⟨by omega, tgm c e⟩), c4 hrs⟩ (ht18c.sb c2), by rw [c2.2.2.2.2.1]; omega, by rw [c2.2.2.2.2.2.1]; omega, K1.sg sPT2⟩
          rw [cls1]
          refine Eq.trans b1 ?_
          rw [ecn]
          simp only [st78_54, st78_55, st78_56, st78_57, st78_58, st78_59, st78_60, hcb.1, hcb.2.1, hcb.2.2.1, htb.1.1, o1, aft_some, Option.toList_some, Option.toList_none, List.cons_append, List.nil_append, br0, br1, br2, br3, zr01, zr02, n10, n01, ne_eq, not_true_eq_false, not_false_eq_true, if_true, if_false, true_and, and_true, and_self]
    · refine ⟨rfB (Hs e), μ, μ, A, ?_, ?_, h, by omega, by omega, K1.rf⟩
      · show rn (d + 12) 78 0 [some (Sum.inr (Sum.inl (2))), some (Sum.inl (E e)), none, none, none, none, none] [] μ = _
        simp only [st78_0, st78_1, st78_2, st78_3, st78_4, st78_5, st78_6, st78_7, st78_8, st78_9, st78_10, st78_11, st78_12, st78_13, st78_14, st78_15, st78_16, st78_17, hc.1, f113 hc, c, E_n (show e < 1000 by omega), e0, f115 he hc hH hC, k, aft_some, Option.toList_some, Option.toList_none, List.cons_append, List.nil_append, br0, br1, br2, br3, zr01, zr02, n10, n01, ne_eq, not_true_eq_false, not_false_eq_true, if_true, if_false, true_and, and_true, and_self]
      · show rn (d + 12) 169 0 [some (Sum.inr (Sum.inl (69))), some (Sum.inl (E e)), none, none, none, none, none] [] μ = _
        simp only [st169_0, st169_1, st169_2, st169_3, st169_4, st169_5, st169_6, st169_7, st169_8, st169_9, st169_10, st169_11, st169_12, st169_13, st169_14, st169_15, st169_16, st169_17, st169_18, st169_19, st169_20, st169_21, st169_22, st169_23, st169_24, hm.1, f168b he hm hH hM, k, aft_some, Option.toList_some, Option.toList_none, List.cons_append, List.nil_append, br0, br1, br2, br3, zr01, zr02, n10, n01, ne_eq, not_true_eq_false, not_false_eq_true, if_true, if_false, true_and, and_true, and_self]
  · refine ⟨-1, μ, μ, A, ?_, ?_, h, by omega, by omega, K1.rf⟩
    · show rn (d + 12) 78 0 [some (Sum.inr (Sum.inl (2))), some (Sum.inl (x)), none, none, none, none, none] [] μ = _
      simp only [st78_0, st78_1, st78_2, st78_3, st78_4, st78_5, st78_6, st78_7, st78_8, st78_9, st78_10, st78_11, st78_12, st78_13, st78_14, st78_15, st78_16, st78_17, hc.1, f113 hc, c, f115n, aft_some, Option.toList_some, Option.toList_none, List.cons_append, List.nil_append, br0, br1, br2, br3, zr01, zr02, n10, n01, ne_eq, not_true_eq_false, not_false_eq_true, if_true, if_false, true_and, and_true, and_self]
    · show rn (d + 12) 169 0 [some (Sum.inr (Sum.inl (69))), some (Sum.inl (x)), none, none, none, none, none] [] μ = _
      simp only [st169_0, st169_1, st169_2, st169_3, st169_4, st169_5, st169_6, st169_7, st169_8, st169_9, st169_10, st169_11, st169_12, st169_13, st169_14, st169_15, st169_16, st169_17, st169_18, st169_19, st169_20, st169_21, st169_22, st169_23, st169_24, hm.1, f168n hm c, n1, aft_some, Option.toList_some, Option.toList_none, List.cons_append, List.nil_append, br0, br1, br2, br3, zr01, zr02, n10, n01, ne_eq, not_true_eq_false, not_false_eq_true, if_true, if_false, true_and, and_true, and_self]
