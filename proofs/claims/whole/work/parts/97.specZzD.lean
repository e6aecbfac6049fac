/-! SPECS ZZD: element; the makers -/
theorem SG.setl {P Q : Nat → Nat → Prop} {μ : SMem} {a k : Nat} {x : Int64} (h : ∀ c, sz μ ≤ c → tg μ c = 99) : SG P Q μ (setl μ a k x) := ⟨fun _ _ => ⟨rfl, rfl⟩, fun _ _ _ _ => rfl, fun _ _ _ _ => rfl, ⟨Nat.le_refl _, rfl, rfl⟩, Nat.le_refl _, h⟩
theorem aftH_x1 {L : SL} {μ2 : SMem} {k : Option SV → SMem → Option SRes} {kx : Nat → SL → SMem → Option SRes} : aftH [(1, 9, 4), (0, 12, 4)] L (some (.inr 1, μ2)) k kx = kx 9 (L.set 4 none) μ2 := rfl
theorem aftH_x0 {L : SL} {μ2 : SMem} {k : Option SV → SMem → Option SRes} {kx : Nat → SL → SMem → Option SRes} : aftH [(1, 9, 4), (0, 12, 4)] L (some (.inr 0, μ2)) k kx = kx 12 (L.set 4 none) μ2 := rfl
theorem f108n {d : Nat} {x y : Int32} {μ : SMem} (hc : CAo μ) (hx : ¬ (0 ≤ x ∧ x < 8)) : cl (d + 1) 108 [Sum.inr (Sum.inl (2)), Sum.inl (x), Sum.inl (y)] μ = some (Sum.inr 1, alloc μ 99 0 6) := by
  show rn (d + 1) 108 0 [some (Sum.inr (Sum.inl (2))), some (Sum.inl (x)), some (Sum.inl (y)), none] [] μ = _
  simp only [st108_0, st108_1, st108_2, st108_3, st108_4, st108_5, st108_6, hc.1, f113 hc, hx, aft_some, Option.toList_some, Option.toList_none, List.cons_append, List.nil_append, br0, br1, br2, br3, zr01, zr02, n10, n01, ne_eq, not_true_eq_false, not_false_eq_true, if_true, if_false, true_and, and_true, and_self]
theorem f108x {d e : Nat} {y : Int32} {H : HT} {μ : SMem} (he : e < 8) (hc : CAo μ) (hH : HWF H) (h : ShC μ e H) (hx : ¬ (hkt H = 2 ∧ 0 ≤ y ∧ y < E (hsz H))) : cl (d + 1) 108 [Sum.inr (Sum.inl (2)), Sum.inl (E e), Sum.inl (y)] μ = some (Sum.inr 0, alloc μ 99 0 6) := by
  have e0 : (53 + 2 * e = 0) = False := eq_false (by omega)
  have cc : (0 ≤ E e ∧ E e < 8) = True := eq_true ⟨E_nonneg (by omega), by rw [show (8 : Int32) = E 8 from rfl, E_lt (by omega) (by decide)]; exact he⟩
  have t8 := (hc.2.2.2.2.2.2.2.2.2.2.2 e he).2.1
  show rn (d + 1) 108 0 [some (Sum.inr (Sum.inl (2))), some (Sum.inl (E e)), some (Sum.inl (y)), none] [] μ = _
  by_cases k : hkt H = 2
  · obtain ⟨p1, p2, p3, p4⟩ := h.2.1 k
    by_cases c1 : y < 0
    · simp only [st108_0, st108_1, st108_2, st108_3, st108_4, st108_5, st108_11, st108_12, st108_13, st108_14, st108_15, st108_16, st108_17, st108_18, st108_19, st108_20, hc.1, f113 hc, cc, E_n (show e < 1000 by omega), e0, t8, p2, c1, aft_some, Option.toList_some, Option.toList_none, List.cons_append, List.nil_append, br0, br1, br2, br3, zr01, zr02, n10, n01, ne_eq, not_true_eq_false, not_false_eq_true, if_true, if_false, true_and, and_true, and_self]
    · have c2 : ¬ y < E (hsz H) := fun q => hx ⟨k, Int32.not_lt.mp c1, q⟩
      simp only [st108_0, st108_1, st108_2, st108_3, st108_4, st108_5, st108_11, st108_12, st108_13, st108_14, st108_15, st108_16, st108_17, st108_18, st108_19, st108_20, hc.1, f113 hc, cc, E_n (show e < 1000 by omega), e0, t8, p2, c1, p4, c2, aft_some, Option.toList_some, Option.toList_none, List.cons_append, List.nil_append, br0, br1, br2, br3, zr01, zr02, n10, n01, ne_eq, not_true_eq_false, not_false_eq_true, if_true, if_false, true_and, and_true, and_self]
  · have p2 : gi μ (53 + 2 * e) 1 = 0 := by
      have := hH.1
      by_cases k1 : hkt H = 1
      · exact (h.2.2.1 k1).1
      · exact (h.2.2.2 (by omega)).2
    simp only [st108_0, st108_1, st108_2, st108_3, st108_4, st108_5, st108_11, st108_12, st108_13, st108_14, st108_15, st108_16, st108_17, st108_18, st108_19, st108_20, hc.1, f113 hc, cc, E_n (show e < 1000 by omega), e0, t8, p2, aft_some, Option.toList_some, Option.toList_none, List.cons_append, List.nil_append, br0, br1, br2, br3, zr01, zr02, n10, n01, ne_eq, not_true_eq_false, not_false_eq_true, if_true, if_false, true_and, and_true, and_self]
theorem f108 {d e i : Nat} {H : HT} {μ : SMem} (he : e < 8) (hc : CAo μ) (hH : HWF H) (h : ShC μ e H) (hk : hkt H = 2) (hi : i < hsz H) : cl (d + 1) 108 [Sum.inr (Sum.inl (2)), Sum.inl (E e), Sum.inl (E i)] μ = some (Sum.inl (some (Sum.inr (Sum.inr ((hel H i).toInt64)))), μ) := by
  have hn := hH.2.2.1
  have e0 : (53 + 2 * e = 0) = False := eq_false (by omega)
  have cc : (0 ≤ E e ∧ E e < 8) = True := eq_true ⟨E_nonneg (by omega), by rw [show (8 : Int32) = E 8 from rfl, E_lt (by omega) (by decide)]; exact he⟩
  have ci : (0 ≤ E i ∧ E i < E (hsz H)) = True := eq_true ((inr (by omega) (by omega)).mpr hi)
  have li : (E i < E (hsz H)) = True := by rw [E_ltE (by omega) (by omega)]; exact eq_true hi
  have t8 := (hc.2.2.2.2.2.2.2.2.2.2.2 e he).2.1
  obtain ⟨p1, p2, p3, p4⟩ := h.2.1 hk
  show rn (d + 1) 108 0 [some (Sum.inr (Sum.inl (2))), some (Sum.inl (E e)), some (Sum.inl (E i)), none] [] μ = _
  simp only [st108_0, st108_1, st108_2, st108_3, st108_4, st108_5, st108_11, st108_12, st108_13, st108_14, st108_15, st108_16, st108_17, st108_18, st108_19, st108_20, st108_25, st108_26, st108_27, st108_28, st108_29, hc.1, f113 hc, cc, E_n (show e < 1000 by omega), e0, t8, p2, p4, E_lt0 (show i < 1000 by omega), li, f57 he hc hH h hk, ci, E_ge0 (show i < 1000 by omega), E_n (show i < 1000 by omega), aft_some, Option.toList_some, Option.toList_none, List.cons_append, List.nil_append, br0, br1, br2, br3, zr01, zr02, n10, n01, ne_eq, not_true_eq_false, not_false_eq_true, if_true, if_false, true_and, and_true, and_self]
theorem f218 {d : Nat} {x y : Int32} {A Ai : AT} {im : Nat} {Hs : Nat → HT} {μ : SMem} (h : INVw μ A Ai im Hs) : ∃ w c, cl (d + 12) 218 [Sum.inr (Sum.inl (69)), Sum.inl (x), Sum.inl (y)] μ = some (Sum.inl (some (Sum.inr (Sum.inr (w)))), seti μ 69 11 c) ∧ INVw (seti μ 69 11 c) A Ai im Hs ∧ (¬ (0 ≤ x ∧ x < 8) → c = 1) ∧ (∀ e, e < 8 → x = E e → (¬ (hkt (Hs e) = 2 ∧ 0 ≤ y ∧ y < E (hsz (Hs e))) → c = 2) ∧ (∀ i, y = E i → hkt (Hs e) = 2 → i < hsz (Hs e) → c = 0 ∧ w = (hel (Hs e) i).toInt64)) := by
  have hm := h.1.1
  have inv : ∀ c, INVw (seti μ 69 11 c) A Ai im Hs := fun c => by
    have s1 : SB (fun c => c = 69) μ (seti μ 69 11 c) := SB.se rfl
    exact h.up s1 (fun c e => by unfold Scr; omega) (by rw [gi_seti, if_neg (by omega)]) (h.1.rs s1 (fun c e => by unfold Scr; omega) (fun j _ => by rw [s1.2.2.2.2.2.2 70 (by omega)]))
  have g11 : ∀ c, gi (seti μ 69 11 c) 69 11 = c := fun c => by rw [gi_seti, if_pos ⟨rfl, rfl⟩]
  by_cases c : 0 ≤ x ∧ x < 8
  · obtain ⟨e, he, rfl⟩ := E_of (n := 8) c.1 c.2 (by decide)
    obtain ⟨hH, hC, hM⟩ := h.2.2.2.1 e he
    have hn := hH.2.2.1
    have k74 := hM.1
    have ek := (Ekt (hkt (Hs e)) hH.1).1
    have lm := le_m1 (x := y) (show hsz (Hs e) < 1000 by omega)
    have uq : ∀ e', e' < 8 → (E e : Int32) = E e' → e' = e := fun e' he' q => by rw [E_inj (by omega) (by omega)] at q; omega
    by_cases k : hkt (Hs e) = 2 ∧ 0 ≤ y ∧ y < E (hsz (Hs e))
    · obtain ⟨i, hi, rfl⟩ := E_of k.2.1 k.2.2 (by omega)
      have n76 := (hM.2.1 k.1).2
      refine ⟨(hel (Hs e) i).toInt64, 0, ?_, inv 0, fun q => absurd c q, fun e' he' q => ?_⟩
      · obtain ⟨m1, m2, m3, m4, m5, m6, m7, m8, m9, m10, m11, m12, m13, m14, ⟨t0, t1, t2, t3, t4, t5, t6, t7, t8, t9, t10, t11, t12⟩, l0, l1, l2, l3, l4, l5, l6, l7, l8, l9, l10, l11, l12⟩ := hm
        show rn (d + 12) 218 0 [some (Sum.inr (Sum.inl (69))), some (Sum.inl (E e)), some (Sum.inl (E i))] [] μ = _
        simp only [st218_0, st218_1, st218_2, st218_3, st218_4, st218_5, st218_6, st218_7, st218_8, st218_9, st218_10, st218_11, st218_12, st218_13, st218_14, st218_15, st218_16, st218_17, st218_18, st218_19, st218_20, st218_21, st218_22, st218_23, st218_24, st218_25, st218_26, st218_27, st218_28, st218_29, st218_30, st218_31, st218_32, st218_33, st218_34, st218_35, st218_36, st218_37, st218_38, st218_39, st218_40, st218_41, st218_42, f140, c, m1, m6, m8, m9, t4, t6, t7, l4, l6, l7, E_ge0 (show e < 1000 by omega), E_lt8 he, E_n (show e < 1000 by omega), he, k74, k.1, en22, n76, f139, l_ge0, l_le, lm, k.2, gi_seti, gi_setr, gi_setl, gi_setrow, gr_seti, gr_setr, gr_setl, gr_setrow, gl_seti, gl_setr, gl_setl, gl_setrow, tg_seti, tg_setr, tg_setl, tg_setrow, ln_seti, ln_setr, ln_setl, ln_setrow, sz_seti, sz_setr, sz_setl, sz_setrow, sl_seti, sl_setr, sl_setl, sl_setrow, g11, show ((77 : Nat) = 69) = False from eq_false (by decide), false_and, ix100, E_ge0 (show 100 * e + i < 1000 by omega), E_n (show 100 * e + i < 1000 by omega), show 100 * e + i < 800 by omega, hM.2.2.2 i (by omega), aft_some, Option.toList_some, Option.toList_none, List.cons_append, List.nil_append, br0, br1, br2, br3, zr01, zr02, n10, n01, ne_eq, not_true_eq_false, not_false_eq_true, if_true, if_false, true_and, and_true, and_self]
      · have := uq e' he' q
        subst this
        exact ⟨fun q => absurd k q, fun i' q2 _ hi' => by rw [E_inj (by omega) (by omega)] at q2; subst q2; exact ⟨rfl, rfl⟩⟩
    · refine ⟨0, 2, ?_, inv 2, fun q => absurd c q, fun e' he' q => ?_⟩
      · obtain ⟨m1, m2, m3, m4, m5, m6, m7, m8, m9, m10, m11, m12, m13, m14, ⟨t0, t1, t2, t3, t4, t5, t6, t7, t8, t9, t10, t11, t12⟩, l0, l1, l2, l3, l4, l5, l6, l7, l8, l9, l10, l11, l12⟩ := hm
        show rn (d + 12) 218 0 [some (Sum.inr (Sum.inl (69))), some (Sum.inl (E e)), some (Sum.inl (y))] [] μ = _
        by_cases k2 : hkt (Hs e) = 2
        · have n76 := (hM.2.1 k2).2
          have k3 : ¬ (0 ≤ y ∧ y < E (hsz (Hs e))) := fun q => k ⟨k2, q⟩
          simp only [st218_0, st218_1, st218_2, st218_3, st218_4, st218_5, st218_6, st218_7, st218_8, st218_9, st218_10, st218_11, st218_12, st218_13, st218_14, st218_15, st218_16, st218_17, st218_18, st218_19, st218_20, st218_21, st218_22, st218_23, st218_24, st218_25, st218_26, st218_27, st218_28, st218_29, st218_30, st218_31, st218_32, st218_33, st218_34, st218_35, st218_36, st218_37, st218_38, st218_39, st218_40, st218_41, st218_42, f140, c, m1, m6, m8, t4, t6, l4, l6, E_ge0 (show e < 1000 by omega), E_lt8 he, E_n (show e < 1000 by omega), he, k74, k2, en22, n76, f139, l_ge0, l_le, lm, k3, gi_seti, gi_setr, gi_setl, gi_setrow, gr_seti, gr_setr, gr_setl, gr_setrow, gl_seti, gl_setr, gl_setl, gl_setrow, tg_seti, tg_setr, tg_setl, tg_setrow, ln_seti, ln_setr, ln_setl, ln_setrow, sz_seti, sz_setr, sz_setl, sz_setrow, sl_seti, sl_setr, sl_setl, sl_setrow, g11, show ((2 : Int32) = 0) = False from eq_false (by decide), aft_some, Option.toList_some, Option.toList_none, List.cons_append, List.nil_append, br0, br1, br2, br3, zr01, zr02, n10, n01, ne_eq, not_true_eq_false, not_false_eq_true, if_true, if_false, true_and, and_true, and_self]
        · have k3 : ¬ E (hkt (Hs e)) = (2 : Int32) := fun q => k2 (ek.mp q)
          simp only [st218_0, st218_1, st218_2, st218_3, st218_4, st218_5, st218_6, st218_7, st218_8, st218_9, st218_10, st218_11, st218_12, st218_13, st218_14, st218_15, st218_16, st218_17, st218_18, st218_19, st218_20, st218_21, st218_22, st218_23, st218_24, st218_25, st218_26, st218_27, st218_28, st218_29, st218_30, st218_31, st218_32, st218_33, st218_34, st218_35, st218_36, st218_37, st218_38, st218_39, st218_40, st218_41, st218_42, f140, c, m1, m6, t4, l4, E_ge0 (show e < 1000 by omega), E_lt8 he, E_n (show e < 1000 by omega), he, k74, k3, gi_seti, gi_setr, gi_setl, gi_setrow, gr_seti, gr_setr, gr_setl, gr_setrow, gl_seti, gl_setr, gl_setl, gl_setrow, tg_seti, tg_setr, tg_setl, tg_setrow, ln_seti, ln_setr, ln_setl, ln_setrow, sz_seti, sz_setr, sz_setl, sz_setrow, sl_seti, sl_setr, sl_setl, sl_setrow, g11, show ((2 : Int32) = 0) = False from eq_false (by decide), aft_some, Option.toList_some, Option.toList_none, List.cons_append, List.nil_append, br0, br1, br2, br3, zr01, zr02, n10, n01, ne_eq, not_true_eq_false, not_false_eq_true, if_true, if_false, true_and, and_true, and_self]
      · have := uq e' he' q
        subst this
        exact ⟨fun _ => rfl, fun i' q2 hk2 hi' => absurd ⟨hk2, by rw [q2]; exact E_nonneg (by omega), by rw [q2, E_lt (by omega) (by omega)]; exact hi'⟩ k⟩
  · refine ⟨0, 1, ?_, inv 1, fun _ => rfl, fun e' he' q => absurd (by rw [q]; exact ⟨E_nonneg (by omega), by rw [show (8 : Int32) = E 8 from rfl, E_lt (by omega) (by decide)]; exact he'⟩) c⟩
    show rn (d + 12) 218 0 [some (Sum.inr (Sum.inl (69))), some (Sum.inl (x)), some (Sum.inl (y))] [] μ = _
    simp only [st218_0, st218_1, st218_2, st218_3, st218_4, st218_5, st218_6, st218_7, st218_8, st218_9, st218_10, st218_11, st218_12, st218_13, st218_14, st218_15, st218_16, st218_17, st218_18, st218_19, st218_20, st218_21, st218_22, st218_23, st218_24, st218_25, st218_26, st218_27, st218_28, st218_29, st218_30, st218_31, st218_32, st218_33, st218_34, st218_35, st218_36, st218_37, st218_38, st218_39, st218_40, st218_41, st218_42, f140, c, hm.1, gi_seti, gi_setr, gi_setl, gi_setrow, gr_seti, gr_setr, gr_setl, gr_setrow, gl_seti, gl_setr, gl_setl, gl_setrow, tg_seti, tg_setr, tg_setl, tg_setrow, ln_seti, ln_setr, ln_setl, ln_setrow, sz_seti, sz_setr, sz_setl, sz_setrow, sl_seti, sl_setr, sl_setl, sl_setrow, g11, show ((1 : Int32) = 0) = False from eq_false (by decide), aft_some, Option.toList_some, Option.toList_none, List.cons_append, List.nil_append, br0, br1, br2, br3, zr01, zr02, n10, n01, ne_eq, not_true_eq_false, not_false_eq_true, if_true, if_false, true_and, and_true, and_self]
theorem g227 {d : Nat} {x y : Int32} {A Ai : AT} {im : Nat} {Hs : Nat → HT} {μ : SMem} (h : INVw μ A Ai im Hs) : ∃ c w μ1 μ2, cl (d + 12) 227 [Sum.inr (Sum.inl (2)), Sum.inl (x), Sum.inl (y), Sum.inr (Sum.inl (83))] μ = some (Sum.inl (some (Sum.inl (c))), μ1) ∧ cl (d + 12) 218 [Sum.inr (Sum.inl (69)), Sum.inl (x), Sum.inl (y)] μ1 = some (Sum.inl (some (Sum.inr (Sum.inr (w)))), μ2) ∧ gi μ2 69 11 = c ∧ (c = 0 → gl μ2 83 0 = w) ∧ INVw μ2 A Ai im Hs ∧ sz μ2 ≤ sz μ + 1 ∧ sl μ2 ≤ sl μ + 6 ∧ K1 μ μ1 := by
  have hc := h.1.2.1
  have hu := h.2.2.2.2.2
  have h84 := h.2.2.2.2.1.1
  have t83 := h.2.2.2.2.1.2.2.2.1
  have l83 := h.2.2.2.2.1.2.2.2.2
  have sA : SG NoC NoC μ (alloc μ 99 0 6) := SG.al hu (by omega)
  have hA := h.same sA
  have z1 : sz (alloc μ 99 0 6) = sz μ + 1 := rfl
  have z2 : sl (alloc μ 99 0 6) = sl μ + 6 := rfl
  by_cases c : 0 ≤ x ∧ x < 8
  · obtain ⟨e, he, rfl⟩ := E_of (n := 8) c.1 c.2 (by decide)
    obtain ⟨hH, hC, hM⟩ := h.2.2.2.1 e he
    by_cases k : hkt (Hs e) = 2 ∧ 0 ≤ y ∧ y < E (hsz (Hs e))
    · have hn := hH.2.2.1
      obtain ⟨i, hi, rfl⟩ := E_of k.2.1 k.2.2 (by omega)
      have sL : SG NoC NoC μ (setl μ 83 0 (hel (Hs e) i).toInt64) := SG.setl hu
      have hL := h.same sL
      obtain ⟨w, c2, b1, b2, b3, b4⟩ := f218 (d := d) (x := E e) (y := E i) hL
      obtain ⟨e1, e2⟩ := (b4 e he rfl).2 i rfl k.1 hi
      subst e1
      refine ⟨0, w, _, _, ?_, b1, by rw [gi_seti, if_pos ⟨rfl, rfl⟩], fun _ => ?_, b2, Nat.le_succ _, by show sl μ ≤ _; omega, K1.sg sL⟩
      · show rn (d + 12) 227 0 [some (Sum.inr (Sum.inl (2))), some (Sum.inl (E e)), some (Sum.inl (E i)), some (Sum.inr (Sum.inl (83))), none] [] μ = _
        simp only [st227_0, st227_1, st227_2, st227_3, st227_4, aft_some, Option.toList_some, Option.toList_none, List.cons_append, List.nil_append, br0, br1, br2, br3, zr01, zr02, n10, n01, ne_eq, not_true_eq_false, not_false_eq_true, if_true, if_false, true_and, and_true, and_self]
        refine (st227_5 hc.1).trans ?_
        rw [f108 he hc hH hC k.1 hi, aftH_i]
        simp only [st227_6, st227_7, st227_14, st227_15, t83, l83, z00, zn0, show (0 : Nat) < 1 from by decide, aft_some, Option.toList_some, Option.toList_none, List.cons_append, List.nil_append, br0, br1, br2, br3, zr01, zr02, n10, n01, ne_eq, not_true_eq_false, not_false_eq_true, if_true, if_false, true_and, and_true, and_self]
      · rw [e2]
        show gl (seti (setl μ 83 0 (hel (Hs e) i).toInt64) 69 11 0) 83 0 = _
        rw [gl_seti, gl_setl, if_pos ⟨rfl, rfl⟩]
    · obtain ⟨w, c2, b1, b2, b3, b4⟩ := f218 (d := d) (x := E e) (y := y) hA
      have e1 := (b4 e he rfl).1 k
      subst e1
      refine ⟨2, w, _, _, ?_, b1, by rw [gi_seti, if_pos ⟨rfl, rfl⟩], fun q => absurd q (by decide), b2, by show sz (alloc μ 99 0 6) ≤ _; omega, by show sl (alloc μ 99 0 6) ≤ _; omega, K1.sg sA⟩
      show rn (d + 12) 227 0 [some (Sum.inr (Sum.inl (2))), some (Sum.inl (E e)), some (Sum.inl (y)), some (Sum.inr (Sum.inl (83))), none] [] μ = _
      simp only [st227_0, st227_1, st227_2, st227_3, st227_4, aft_some, Option.toList_some, Option.toList_none, List.cons_append, List.nil_append, br0, br1, br2, br3, zr01, zr02, n10, n01, ne_eq, not_true_eq_false, not_false_eq_true, if_true, if_false, true_and, and_true, and_self]
      refine (st227_5 hc.1).trans ?_
      rw [f108x he hc hH hC k, aftH_x0]
      show rn (d + 12) 227 12 [some (Sum.inr (Sum.inl (2))), some (Sum.inl (E e)), some (Sum.inl (y)), some (Sum.inr (Sum.inl (83))), none] [] _ = _
      simp only [st227_12, st227_13, aft_some, Option.toList_some, Option.toList_none, List.cons_append, List.nil_append, br0, br1, br2, br3, zr01, zr02, n10, n01, ne_eq, not_true_eq_false, not_false_eq_true, if_true, if_false, true_and, and_true, and_self]
  · obtain ⟨w, c2, b1, b2, b3, b4⟩ := f218 (d := d) (x := x) (y := y) hA
    have e1 := b3 c
    subst e1
    refine ⟨1, w, _, _, ?_, b1, by rw [gi_seti, if_pos ⟨rfl, rfl⟩], fun q => absurd q (by decide), b2, by show sz (alloc μ 99 0 6) ≤ _; omega, by show sl (alloc μ 99 0 6) ≤ _; omega, K1.sg sA⟩
    show rn (d + 12) 227 0 [some (Sum.inr (Sum.inl (2))), some (Sum.inl (x)), some (Sum.inl (y)), some (Sum.inr (Sum.inl (83))), none] [] μ = _
    simp only [st227_0, st227_1, st227_2, st227_3, st227_4, aft_some, Option.toList_some, Option.toList_none, List.cons_append, List.nil_append, br0, br1, br2, br3, zr01, zr02, n10, n01, ne_eq, not_true_eq_false, not_false_eq_true, if_true, if_false, true_and, and_true, and_self]
    refine (st227_5 hc.1).trans ?_
    rw [f108n hc c, aftH_x1]
    show rn (d + 12) 227 9 [some (Sum.inr (Sum.inl (2))), some (Sum.inl (x)), some (Sum.inl (y)), some (Sum.inr (Sum.inl (83))), none] [] _ = _
    simp only [st227_9, st227_10, aft_some, Option.toList_some, Option.toList_none, List.cons_append, List.nil_append, br0, br1, br2, br3, zr01, zr02, n10, n01, ne_eq, not_true_eq_false, not_false_eq_true, if_true, if_false, true_and, and_true, and_self]
/-! the makers -/
theorem sz_al {μ : SMem} {t n w : Nat} : sz (alloc μ t n w) = sz μ + 1 := rfl
theorem sl_al {μ : SMem} {t n w : Nat} : sl (alloc μ t n w) = sl μ + w := rfl
theorem tg_alc {μ : SMem} {t n w c : Nat} : tg (alloc μ t n w) c = if c = sz μ then t else tg μ c := rfl
theorem ln_alc {μ : SMem} {t n w c : Nat} : ln (alloc μ t n w) c = if c = sz μ then n else ln μ c := rfl
theorem gi_alc {μ : SMem} {t n w c j : Nat} : gi (alloc μ t n w) c j = if c = sz μ then 0 else gi μ c j := by
  show up1 μ.2.2.2.1 μ.1.1 (fun _ => 0) c j = _
  unfold up1
  by_cases q : c = sz μ
  · rw [if_pos q, if_pos (show c = μ.1.1 from q)]
  · rw [if_neg q, if_neg (show ¬ c = μ.1.1 from q)]; rfl
theorem gr_alc {μ : SMem} {t n w c j : Nat} : gr (alloc μ t n w) c j = if c = sz μ then 0 else gr μ c j := by
  show up1 μ.2.2.2.2.1 μ.1.1 (fun _ => 0) c j = _
  unfold up1
  by_cases q : c = sz μ
  · rw [if_pos q, if_pos (show c = μ.1.1 from q)]
  · rw [if_neg q, if_neg (show ¬ c = μ.1.1 from q)]; rfl
/-- new cells only -/
def NW (O : Nat → Prop) (μ μ' : SMem) : Prop := sz μ ≤ sz μ' ∧ (∀ c, c < sz μ → tg μ' c = tg μ c ∧ ln μ' c = ln μ c) ∧ (∀ c, c < sz μ → ¬ O c → gi μ' c = gi μ c ∧ gr μ' c = gr μ c) ∧ ∀ c, sz μ' ≤ c → tg μ' c = 99
theorem NW.tr {O : Nat → Prop} {μ μ1 μ2 : SMem} (h : NW O μ μ1) (h' : NW O μ1 μ2) : NW O μ μ2 := by
  obtain ⟨a1, a2, a3, a4⟩ := h
  obtain ⟨b1, b2, b3, b4⟩ := h'
  exact ⟨Nat.le_trans a1 b1, fun c hc => ⟨(b2 c (by omega)).1.trans (a2 c hc).1, (b2 c (by omega)).2.trans (a2 c hc).2⟩, fun c hc hn => ⟨(b3 c (by omega) hn).1.trans (a3 c hc hn).1, (b3 c (by omega) hn).2.trans (a3 c hc hn).2⟩, b4⟩
theorem NW.wk {O O' : Nat → Prop} {μ μ1 : SMem} (h : NW O μ μ1) (ho : ∀ c, c < sz μ → O c → O' c) : NW O' μ μ1 := ⟨h.1, h.2.1, fun c hc hn => h.2.2.1 c hc (fun q => hn (ho c hc q)), h.2.2.2⟩
theorem NW.al {O : Nat → Prop} {μ : SMem} {t n w : Nat} (h : ∀ c, sz μ ≤ c → tg μ c = 99) : NW O μ (alloc μ t n w) := by
  refine ⟨Nat.le_succ _, fun c hc => ⟨by rw [tg_alc, if_neg (by omega)], by rw [ln_alc, if_neg (by omega)]⟩, fun c hc _ => ⟨funext fun j => by rw [gi_alc, if_neg (by omega)], funext fun j => by rw [gr_alc, if_neg (by omega)]⟩, fun c hc => ?_⟩
  rw [sz_al] at hc
  rw [tg_alc, if_neg (by omega)]
  exact h c (by omega)
theorem NW.si {O : Nat → Prop} {μ : SMem} {a k : Nat} {x : Int32} (h : ∀ c, sz μ ≤ c → tg μ c = 99) (ha : O a) : NW O μ (seti μ a k x) := ⟨Nat.le_refl _, fun _ _ => ⟨rfl, rfl⟩, fun c _ hn => ⟨funext fun j => by rw [gi_seti, if_neg (fun e => hn (by rw [e.1]; exact ha))], rfl⟩, h⟩
theorem NW.sr {O : Nat → Prop} {μ : SMem} {a k : Nat} {x : Nat} (h : ∀ c, sz μ ≤ c → tg μ c = 99) (ha : O a) : NW O μ (setr μ a k x) := ⟨Nat.le_refl _, fun _ _ => ⟨rfl, rfl⟩, fun c _ hn => ⟨rfl, funext fun j => by rw [gr_setr, if_neg (fun e => hn (by rw [e.1]; exact ha))]⟩, h⟩
theorem f4 {d a : Nat} {μ : SMem} (h2 : 2 ≤ sz μ) (ha : tg μ a = 1) (hs : a + 1 = sz μ) (hu : ∀ c, sz μ ≤ c → tg μ c = 99) : ∃ μ', cl d 4 [Sum.inr (Sum.inl (a))] μ = some (Sum.inl none, μ') ∧ NW (fun c => c = a) μ μ' ∧ sz μ' = sz μ + 2 ∧ sl μ' = sl μ + 16 ∧ BkA μ' a ∧ gi μ' a 2 = 0 ∧ gi μ' a 3 = 0 ∧ ∀ j, gi μ' (a + 1) j = 0 ∧ gi μ' (a + 2) j = 0 := by
  have n1 : NW (fun c => c = a) μ (alloc μ 50 8 8) := NW.al hu
  have n2 : NW (fun c => c = a) (alloc μ 50 8 8) (setr (alloc μ 50 8 8) a 0 (sz μ)) := NW.sr n1.2.2.2 rfl
  have n3 : NW (fun c => c = a) (setr (alloc μ 50 8 8) a 0 (sz μ)) (alloc (setr (alloc μ 50 8 8) a 0 (sz μ)) 50 8 8) := NW.al n2.2.2.2
  have n4 : NW (fun c => c = a) (alloc (setr (alloc μ 50 8 8) a 0 (sz μ)) 50 8 8) (setr (alloc (setr (alloc μ 50 8 8) a 0 (sz μ)) 50 8 8) a 1 (sz μ + 1)) := NW.sr n3.2.2.2 rfl
  have n5 : NW (fun c => c = a) (setr (alloc (setr (alloc μ 50 8 8) a 0 (sz μ)) 50 8 8) a 1 (sz μ + 1)) (seti (setr (alloc (setr (alloc μ 50 8 8) a 0 (sz μ)) 50 8 8) a 1 (sz μ + 1)) a 2 0) := NW.si n4.2.2.2 rfl
  have n6 : NW (fun c => c = a) (seti (setr (alloc (setr (alloc μ 50 8 8) a 0 (sz μ)) 50 8 8) a 1 (sz μ + 1)) a 2 0) (seti (seti (setr (alloc (setr (alloc μ 50 8 8) a 0 (sz μ)) 50 8 8) a 1 (sz μ + 1)) a 2 0) a 3 0) := NW.si n5.2.2.2 rfl
  have c8 : ((0 : Int32) ≤ 8) = True := eq_true (by decide)
  have d8 : ((8 : Nat) ≤ 1000) = True := eq_true (by decide)
  have zn8 : (8 : Int32).toNatClampNeg = 8 := rfl
  have a0 : a ≠ 0 := by omega
  refine ⟨_, ?_, n1.tr (n2.tr (n3.tr (n4.tr (n5.tr n6)))), rfl, rfl, ?_, ?_, ?_, fun j => ⟨?_, ?_⟩⟩
  · show rn d 4 0 [some (Sum.inr (Sum.inl (a)))] [] μ = _
    simp only [st4_0, st4_1, st4_2, st4_3, st4_4, st4_5, st4_6, st4_7, st4_8, st4_9, st4_10, st4_11, st4_12, st4_13, st4_14, st4_15, st4_16, a0, c8, d8, zn8, tg_setr, tg_seti, tg_alc, sz_al, sz_setr, ha, show ¬ a = sz μ by omega, show ¬ a = sz μ + 1 by omega, true_or, aft_some, Option.toList_some, Option.toList_none, List.cons_append, List.nil_append, br0, br1, br2, br3, zr01, zr02, n10, n01, ne_eq, not_true_eq_false, not_false_eq_true, if_true, if_false, true_and, and_true, and_self]
  · have r0 : gr (seti (seti (setr (alloc (setr (alloc μ 50 8 8) a 0 (sz μ)) 50 8 8) a 1 (sz μ + 1)) a 2 0) a 3 0) a 0 = sz μ := by
      rw [gr_seti, gr_seti, gr_setr, if_neg (by omega), gr_alc, sz_setr, sz_al, if_neg (by omega), gr_setr, if_pos ⟨rfl, rfl⟩]
    have r1 : gr (seti (seti (setr (alloc (setr (alloc μ 50 8 8) a 0 (sz μ)) 50 8 8) a 1 (sz μ + 1)) a 2 0) a 3 0) a 1 = sz μ + 1 := by
      rw [gr_seti, gr_seti, gr_setr, if_pos ⟨rfl, rfl⟩]
    refine ⟨?_, by rw [r0]; omega, by rw [r1]; omega, ?_, ?_, ?_, ?_⟩
    · rw [tg_seti, tg_seti, tg_setr, tg_alc, sz_setr, sz_al, if_neg (by omega), tg_setr, tg_alc, if_neg (by omega)]; exact ha
    · rw [tg_seti, tg_seti, tg_setr, tg_alc, sz_setr, sz_al, if_neg (by omega), tg_setr, tg_alc, if_pos (by omega)]
    · rw [ln_seti, ln_seti, ln_setr, ln_alc, sz_setr, sz_al, if_neg (by omega), ln_setr, ln_alc, if_pos (by omega)]
    · rw [tg_seti, tg_seti, tg_setr, tg_alc, sz_setr, sz_al, if_pos (by omega)]
    · rw [ln_seti, ln_seti, ln_setr, ln_alc, sz_setr, sz_al, if_pos (by omega)]
  · rw [gi_seti, if_neg (by omega), gi_seti, if_pos ⟨rfl, rfl⟩]
  · rw [gi_seti, if_pos ⟨rfl, rfl⟩]
  · rw [gi_seti, if_neg (by omega), gi_seti, if_neg (by omega), gi_setr, gi_alc, sz_setr, sz_al, if_neg (by omega), gi_setr, gi_alc, if_pos (by omega)]
  · rw [gi_seti, if_neg (by omega), gi_seti, if_neg (by omega), gi_setr, gi_alc, sz_setr, sz_al, if_pos (by omega)]
def A0 : AT := ((0, 0, 0), fun _ => 0, fun _ => 0, fun _ _ => 0, fun _ _ => 0, fun _ => 0, fun _ => 0)
theorem A0_wf : WF A0 := ⟨by decide, by decide, fun b hb => absurd hb (Nat.not_lt_zero b), fun _ _ => ⟨rfl, rfl⟩, fun r hr => absurd hr (Nat.not_lt_zero r)⟩
def BQ (μ : SMem) (a : Nat) : Prop := BkA μ a ∧ gi μ a 2 = 0 ∧ gi μ a 3 = 0 ∧ ∀ j, gi μ (a + 1) j = 0 ∧ gi μ (a + 2) j = 0
theorem BQ.nw {O : Nat → Prop} {μ μ' : SMem} {a : Nat} (h : BQ μ a) (hn : NW O μ μ') (hs : a + 2 < sz μ) (ho : ¬ O a ∧ ¬ O (a + 1) ∧ ¬ O (a + 2)) : BQ μ' a := by
  obtain ⟨⟨x1, x2, x3, x4, x5, x6, x7⟩, y1, y2, y3⟩ := h
  obtain ⟨a1, a2, a3, a4⟩ := hn
  obtain ⟨b1, b2⟩ := a3 a (by omega) ho.1
  obtain ⟨b3, b4⟩ := a3 (a + 1) (by omega) ho.2.1
  obtain ⟨b5, b6⟩ := a3 (a + 2) (by omega) ho.2.2
  exact ⟨⟨by rw [(a2 a (by omega)).1]; exact x1, by rw [b2]; exact x2, by rw [b2]; exact x3, by rw [(a2 _ (by omega)).1]; exact x4, by rw [(a2 _ (by omega)).2]; exact x5, by rw [(a2 _ (by omega)).1]; exact x6, by rw [(a2 _ (by omega)).2]; exact x7⟩, by rw [b1]; exact y1, by rw [b1]; exact y2, fun j => ⟨by rw [b3]; exact (y3 j).1, by rw [b5]; exact (y3 j).2⟩⟩
theorem f65_lp {d T : Nat} (hT : 2 ≤ T) : ∀ k b (μ : SMem), b + k = 4 → sz μ = T + 3 + 3 * b → (∀ c, sz μ ≤ c → tg μ c = 99) → tg μ T = 10 → gr μ T 0 = T + 1 → tg μ (T + 1) = 53 → ln μ (T + 1) = 4 → (∀ b', b' < b → gr μ (T + 1) b' = T + 3 + 3 * b' ∧ BQ μ (T + 3 + 3 * b')) → ∃ μ', rn (d + 1) 65 21 [some (Sum.inr (Sum.inl (T))), some (Sum.inl (E b))] [] μ = some (Sum.inl none, μ') ∧ NW (fun c => c = T + 1) μ μ' ∧ sz μ' = T + 15 ∧ sl μ' = sl μ + 20 * k ∧ (∀ b', b' < 4 → gr μ' (T + 1) b' = T + 3 + 3 * b' ∧ BQ μ' (T + 3 + 3 * b')) := by
  intro k
  induction k with
  | zero =>
    intro b μ hb hs hu h1 h2 h3 h4 hv
    have : b = 4 := by omega
    subst this
    refine ⟨μ, ?_, ⟨Nat.le_refl _, fun _ _ => ⟨rfl, rfl⟩, fun _ _ _ => ⟨rfl, rfl⟩, hu⟩, by omega, rfl, hv⟩
    rw [st65_21]
    simp only [st65_22, st65_23, st65_24, st65_25, st65_26, st65_27, st65_28, st65_29, st65_30, st65_31, st65_32, st65_33, st65_34, st65_35, h1, h2, h3, h4, alA, alB, alC, alD, alE, and_self, show Int32.ofNat 4 = E 4 from rfl, Int32.le_refl, true_or, or_true, aft_some, Option.toList_some, Option.toList_none, List.cons_append, List.nil_append, br0, br1, br2, br3, zr01, zr02, n10, n01, ne_eq, not_true_eq_false, not_false_eq_true, if_true, if_false, true_and, and_true, and_self]
  | succ k ih =>
    intro b μ hb hs hu h1 h2 h3 h4 hv
    have cx : (E 4 ≤ E b) = False := by rw [E_leE (by decide) (by omega)]; exact eq_false (by omega)
    have n1 : NW (fun c => c = T + 1) μ (alloc μ 1 0 4) := NW.al hu
    obtain ⟨μ1, a1, a2, a3, a4, a5⟩ := f4 (d := d) (a := sz μ) (μ := alloc μ 1 0 4) (by rw [sz_al]; omega) (by rw [tg_alc, if_pos rfl]) (by rw [sz_al]) n1.2.2.2
    have n2 : NW (fun c => c = T + 1) μ μ1 := ⟨by rw [a3, sz_al]; omega, fun c hc => ⟨(a2.2.1 c (by rw [sz_al]; omega)).1.trans (n1.2.1 c hc).1, (a2.2.1 c (by rw [sz_al]; omega)).2.trans (n1.2.1 c hc).2⟩, fun c hc hn => ⟨(a2.2.2.1 c (by rw [sz_al]; omega) (by omega)).1.trans (n1.2.2.1 c hc hn).1, (a2.2.2.1 c (by rw [sz_al]; omega) (by omega)).2.trans (n1.2.2.1 c hc hn).2⟩, a2.2.2.2⟩
    have g1 : ∀ c, c < sz μ → gr μ1 c = gr μ c ∧ gi μ1 c = gi μ c := fun c hc => by
      refine ⟨(a2.2.2.1 c (by rw [sz_al]; omega) (by omega)).2.trans (funext fun j => by rw [gr_alc, if_neg (by omega)]), (a2.2.2.1 c (by rw [sz_al]; omega) (by omega)).1.trans (funext fun j => by rw [gi_alc, if_neg (by omega)])⟩
    have t1 : tg μ1 (T + 1) = 53 := by rw [(n2.2.1 _ (by omega)).1]; exact h3
    have l1 : ln μ1 (T + 1) = 4 := by rw [(n2.2.1 _ (by omega)).2]; exact h4
    have t2 : tg μ1 (sz μ) = 1 := a5.1.1
    have n3 : NW (fun c => c = T + 1) μ1 (setr μ1 (T + 1) b (sz μ)) := NW.sr a2.2.2.2 rfl
    have gr3 : ∀ c j, gr (setr μ1 (T + 1) b (sz μ)) c j = if c = T + 1 ∧ j = b then sz μ else gr μ1 c j := fun c j => by rw [gr_setr]
    have b4 : b < 4 := by omega
    obtain ⟨μ', y1, y2, y3, y4, y5⟩ := ih (b + 1) (setr μ1 (T + 1) b (sz μ)) (by omega) (by rw [sz_setr, a3, sz_al]; omega) n3.2.2.2 (by rw [tg_setr, (n2.2.1 T (by omega)).1]; exact h1) (by rw [gr3, if_neg (by omega), (g1 T (by omega)).1]; exact h2) t1 l1 (fun b' hb' => by
      by_cases q : b' = b
      · subst q
        refine ⟨by rw [gr3, if_pos ⟨rfl, rfl⟩]; omega, ?_⟩
        have h9 : BQ μ1 (sz μ) := a5
        rw [hs] at h9
        exact h9.nw n3 (by rw [a3, sz_al]; omega) ⟨by omega, by omega, by omega⟩
      · obtain ⟨v1, v2⟩ := hv b' (by omega)
        refine ⟨by rw [gr3, if_neg (by omega), (g1 _ (by omega)).1]; exact v1, (v2.nw n2 (by omega) ⟨by omega, by omega, by omega⟩).nw n3 (by rw [a3, sz_al]; omega) ⟨by omega, by omega, by omega⟩⟩)
    refine ⟨μ', ?_, n2.tr (n3.tr y2), y3, by rw [y4, sl_setr, a4, sl_al]; omega, y5⟩
    rw [st65_21]
    simp only [st65_22, st65_23, st65_24, st65_25, st65_26, st65_27, st65_28, st65_29, st65_30, st65_31, st65_32, st65_33, st65_34, h1, h2, h3, h4, alA, alB, alC, alD, alE, and_self, show Int32.ofNat 4 = E 4 from rfl, cx, show (sz μ = 0) = False from eq_false (by omega), a1, t1, l1, t2, E_ge0 (show b < 1000 by omega), E_n (show b < 1000 by omega), b4, or_true, false_or, show (((1 : Nat) == 1) = true) = True from eq_true rfl, show E b + 1 = E (b + 1) from E_add b 1, aft_some, Option.toList_some, Option.toList_none, List.cons_append, List.nil_append, br0, br1, br2, br3, zr01, zr02, n10, n01, ne_eq, not_true_eq_false, not_false_eq_true, if_true, if_false, true_and, and_true, and_self]
    exact y1
theorem f65 {d T : Nat} {μ : SMem} (hT : 2 ≤ T) (h1 : tg μ T = 10) (hs : sz μ = T + 1) (hu : ∀ c, sz μ ≤ c → tg μ c = 99) : ∃ μ', cl (d + 1) 65 [Sum.inr (Sum.inl (T))] μ = some (Sum.inl none, μ') ∧ NW (fun c => c = T) μ μ' ∧ sz μ' = T + 15 ∧ sl μ' = sl μ + 90 ∧ TwC μ' T A0 := by
  have n1 : NW (fun c => c = T) μ (alloc μ 53 4 4) := NW.al hu
  have n2 : NW (fun c => c = T) (alloc μ 53 4 4) (setr (alloc μ 53 4 4) T 0 (sz μ)) := NW.sr n1.2.2.2 rfl
  have n3 : NW (fun c => c = T) (setr (alloc μ 53 4 4) T 0 (sz μ)) (alloc (setr (alloc μ 53 4 4) T 0 (sz μ)) 52 6 6) := NW.al n2.2.2.2
  have n4 : NW (fun c => c = T) (alloc (setr (alloc μ 53 4 4) T 0 (sz μ)) 52 6 6) (setr (alloc (setr (alloc μ 53 4 4) T 0 (sz μ)) 52 6 6) T 1 (sz μ + 1)) := NW.sr n3.2.2.2 rfl
  have n5 : NW (fun c => c = T) (setr (alloc (setr (alloc μ 53 4 4) T 0 (sz μ)) 52 6 6) T 1 (sz μ + 1)) (seti (setr (alloc (setr (alloc μ 53 4 4) T 0 (sz μ)) 52 6 6) T 1 (sz μ + 1)) T 2 0) := NW.si n4.2.2.2 rfl
  have n6 : NW (fun c => c = T) (seti (setr (alloc (setr (alloc μ 53 4 4) T 0 (sz μ)) 52 6 6) T 1 (sz μ + 1)) T 2 0) (seti (seti (setr (alloc (setr (alloc μ 53 4 4) T 0 (sz μ)) 52 6 6) T 1 (sz μ + 1)) T 2 0) T 3 0) := NW.si n5.2.2.2 rfl
  have n7 : NW (fun c => c = T) (seti (seti (setr (alloc (setr (alloc μ 53 4 4) T 0 (sz μ)) 52 6 6) T 1 (sz μ + 1)) T 2 0) T 3 0) (seti (seti (seti (setr (alloc (setr (alloc μ 53 4 4) T 0 (sz μ)) 52 6 6) T 1 (sz μ + 1)) T 2 0) T 3 0) T 4 0) := NW.si n6.2.2.2 rfl
  have c4 : ((0 : Int32) ≤ 4) = True := eq_true (by decide)
  have c6 : ((0 : Int32) ≤ 6) = True := eq_true (by decide)
  have d4 : ((4 : Nat) ≤ 1000) = True := eq_true (by decide)
  have d6 : ((6 : Nat) ≤ 1000) = True := eq_true (by decide)
  have zn4 : (4 : Int32).toNatClampNeg = 4 := rfl
  have zn6 : (6 : Int32).toNatClampNeg = 6 := rfl
  have T0 : T ≠ 0 := by omega
  have nA := n1.tr (n2.tr (n3.tr (n4.tr (n5.tr (n6.tr n7)))))
  have e0 : rn (d + 1) 65 0 [some (Sum.inr (Sum.inl (T))), none] [] μ = rn (d + 1) 65 21 [some (Sum.inr (Sum.inl (T))), some (Sum.inl (E 0))] [] (seti (seti (seti (setr (alloc (setr (alloc μ 53 4 4) T 0 (sz μ)) 52 6 6) T 1 (sz μ + 1)) T 2 0) T 3 0) T 4 0) := by
    simp only [st65_0, st65_1, st65_2, st65_3, st65_4, st65_5, st65_6, st65_7, st65_8, st65_9, st65_10, st65_11, st65_12, st65_13, st65_14, st65_15, st65_16, st65_17, st65_18, st65_19, st65_20, T0, c4, c6, d4, d6, zn4, zn6, tg_setr, tg_seti, tg_alc, sz_al, sz_setr, h1, show ¬ T = sz μ by omega, show ¬ T = sz μ + 1 by omega, true_or, or_true, aft_some, Option.toList_some, Option.toList_none, List.cons_append, List.nil_append, br0, br1, br2, br3, zr01, zr02, n10, n01, ne_eq, not_true_eq_false, not_false_eq_true, if_true, if_false, true_and, and_true, and_self]
    rfl
  have zz : sz (seti (seti (seti (setr (alloc (setr (alloc μ 53 4 4) T 0 (sz μ)) 52 6 6) T 1 (sz μ + 1)) T 2 0) T 3 0) T 4 0) = sz μ + 2 := rfl
  have zl : sl (seti (seti (seti (setr (alloc (setr (alloc μ 53 4 4) T 0 (sz μ)) 52 6 6) T 1 (sz μ + 1)) T 2 0) T 3 0) T 4 0) = sl μ + 10 := rfl
  have r0 : gr (seti (seti (seti (setr (alloc (setr (alloc μ 53 4 4) T 0 (sz μ)) 52 6 6) T 1 (sz μ + 1)) T 2 0) T 3 0) T 4 0) T 0 = T + 1 := by
    rw [gr_seti, gr_seti, gr_seti, gr_setr, if_neg (by omega), gr_alc, sz_setr, sz_al, if_neg (by omega), gr_setr, if_pos ⟨rfl, rfl⟩]; exact hs
  have r1 : gr (seti (seti (seti (setr (alloc (setr (alloc μ 53 4 4) T 0 (sz μ)) 52 6 6) T 1 (sz μ + 1)) T 2 0) T 3 0) T 4 0) T 1 = T + 2 := by
    rw [gr_seti, gr_seti, gr_seti, gr_setr, if_pos ⟨rfl, rfl⟩]; omega
  have tg1 : tg (seti (seti (seti (setr (alloc (setr (alloc μ 53 4 4) T 0 (sz μ)) 52 6 6) T 1 (sz μ + 1)) T 2 0) T 3 0) T 4 0) (T + 1) = 53 := by
    rw [tg_seti, tg_seti, tg_seti, tg_setr, tg_alc, sz_setr, sz_al, if_neg (by omega), tg_setr, tg_alc, if_pos (by omega)]
  have ln1 : ln (seti (seti (seti (setr (alloc (setr (alloc μ 53 4 4) T 0 (sz μ)) 52 6 6) T 1 (sz μ + 1)) T 2 0) T 3 0) T 4 0) (T + 1) = 4 := by
    rw [ln_seti, ln_seti, ln_seti, ln_setr, ln_alc, sz_setr, sz_al, if_neg (by omega), ln_setr, ln_alc, if_pos (by omega)]
  have tg2 : tg (seti (seti (seti (setr (alloc (setr (alloc μ 53 4 4) T 0 (sz μ)) 52 6 6) T 1 (sz μ + 1)) T 2 0) T 3 0) T 4 0) (T + 2) = 52 := by
    rw [tg_seti, tg_seti, tg_seti, tg_setr, tg_alc, sz_setr, sz_al, if_pos (by omega)]
  have ln2 : ln (seti (seti (seti (setr (alloc (setr (alloc μ 53 4 4) T 0 (sz μ)) 52 6 6) T 1 (sz μ + 1)) T 2 0) T 3 0) T 4 0) (T + 2) = 6 := by
    rw [ln_seti, ln_seti, ln_seti, ln_setr, ln_alc, sz_setr, sz_al, if_pos (by omega)]
  have g2 : ∀ j, 2 ≤ j → j ≤ 4 → gi (seti (seti (seti (setr (alloc (setr (alloc μ 53 4 4) T 0 (sz μ)) 52 6 6) T 1 (sz μ + 1)) T 2 0) T 3 0) T 4 0) T j = 0 := fun j hj1 hj2 => by
    rw [gi_seti, gi_seti, gi_seti]
    have : j = 2 ∨ j = 3 ∨ j = 4 := by omega
    rcases this with q | q | q <;> subst q <;> simp
  have rr : ∀ j, gr (seti (seti (seti (setr (alloc (setr (alloc μ 53 4 4) T 0 (sz μ)) 52 6 6) T 1 (sz μ + 1)) T 2 0) T 3 0) T 4 0) (T + 2) j = 0 := fun j => by
    rw [gr_seti, gr_seti, gr_seti, gr_setr, if_neg (by omega), gr_alc, sz_setr, sz_al, if_pos (by omega)]
  have tT := (nA.2.1 T (by omega)).1.trans h1
  generalize seti (seti (seti (setr (alloc (setr (alloc μ 53 4 4) T 0 (sz μ)) 52 6 6) T 1 (sz μ + 1)) T 2 0) T 3 0) T 4 0 = μ1 at *
  obtain ⟨μ', y1, y2, y3, y4, y5⟩ := f65_lp (d := d) hT 4 0 μ1 rfl (by omega) nA.2.2.2 tT r0 tg1 ln1 (fun b' hb' => by omega)
  have fT := y2.2.2.1 T (by omega) (by omega)
  have fR := y2.2.2.1 (T + 2) (by omega) (by omega)
  refine ⟨μ', ?_, ⟨by omega, fun c hc => ⟨(y2.2.1 c (by omega)).1.trans (nA.2.1 c hc).1, (y2.2.1 c (by omega)).2.trans (nA.2.1 c hc).2⟩, fun c hc hn => ⟨(y2.2.2.1 c (by omega) (by omega)).1.trans (nA.2.2.1 c hc hn).1, (y2.2.2.1 c (by omega) (by omega)).2.trans (nA.2.2.1 c hc hn).2⟩, y2.2.2.2⟩, y3, by omega, ⟨⟨by rw [(y2.2.1 T (by omega)).1]; exact tT, by rw [fT.2]; exact r0, by rw [fT.2]; exact r1, by rw [(y2.2.1 _ (by omega)).1]; exact tg1, by rw [(y2.2.1 _ (by omega)).2]; exact ln1, by rw [(y2.2.1 _ (by omega)).1]; exact tg2, by rw [(y2.2.1 _ (by omega)).2]; exact ln2, fun b hb => ⟨(y5 b hb).1, (y5 b hb).2.1⟩, fun r hr => Or.inl (by rw [fR.2]; exact rr r)⟩, by rw [fT.1]; exact g2 2 (by omega) (by omega), by rw [fT.1]; exact g2 3 (by omega) (by omega), by rw [fT.1]; exact g2 4 (by omega) (by omega), fun b hb => ⟨(y5 b hb).2.2.1, (y5 b hb).2.2.2.1, fun p hp => ((y5 b hb).2.2.2.2 p).1, fun p hp => ((y5 b hb).2.2.2.2 p).2⟩, fun r hr => absurd hr (Nat.not_lt_zero r)⟩⟩
  show rn (d + 1) 65 0 [some (Sum.inr (Sum.inl (T))), none] [] μ = _
  rw [e0]
  exact y1
