/-! SPECS ZV: law -/
def cstA (A : AT) (k f : Nat) : AT := ((bcA A, rcA A, dyA A), pgA A, inA A, ndA A, hoA A, fun _ => k, fun _ => f)
theorem cst_wf {A : AT} {k f : Nat} (hw : WF A) (hk : k < 8) (hf : f < 10) : WF (cstA A k f) := ⟨hw.1, hw.2.1, hw.2.2.1, hw.2.2.2.1, fun _ _ => ⟨hk, hf⟩⟩
theorem f124a_lp {d e m n k f : Nat} {A : AT} {H : HT} {but : Int32} {μ0 : SMem} (he : e < 8) (h : Both μ0 A) (hH : HWF H) (hC : ShC μ0 e H) (hk : hkt H = 2) (hm : hsz H = 2 * m) (hok : ∀ i, i < m → ∃ r b, r < rcA A ∧ b < bcA A ∧ hel H (2 * i) = E r ∧ hel H (2 * i + 1) = E b) (hS : SLt A (inA A)) (hn0 : n ≠ 0) (hrd : RdA μ0 n k f) : ∀ q i (μ : SMem) (u6 u7 : Option SV), i + q = m → SB (fun c => c = 49) μ0 μ → MD μ (rnv (cstA A k f) (hel H) but (inA A) i).2 → ∃ μ', rn (d + 6) 124 6 [some (Sum.inr (Sum.inl (2))), some (Sum.inr (Sum.inl (53 + 2 * e))), some (Sum.inr (Sum.inl (n))), some (Sum.inl (but)), some (Sum.inl (E (rnv (cstA A k f) (hel H) but (inA A) i).1)), some (Sum.inl (E (2 * i))), u6, u7] [] μ = some (Sum.inl (some (Sum.inl (E (rnv (cstA A k f) (hel H) but (inA A) m).1))), μ') ∧ SB (fun c => c = 49) μ0 μ' ∧ MD μ' (rnv (cstA A k f) (hel H) but (inA A) m).2 := by
  have hwc := cst_wf h.2.2.1 hrd.2.2.1 hrd.2.2.2
  intro q
  induction q with
  | zero =>
    intro i μ u6 u7 hi hs hM
    have : i = m := by omega
    subst this
    have hB := h.tw hs (fun c e => by omega)
    have hC1 := hC.sb hH hs (fun c e9 => ⟨by omega, by omega, scr_tag h (by unfold Scr; omega)⟩)
    have t8 := (hB.2.1.2.2.2.2.2.2.2.2.2.2.2 e he).2.1
    refine ⟨μ, ?_, hs, hM⟩
    rw [st124_6]
    have hn := hH.2.2.1
    simp only [st124_0, st124_1, st124_2, st124_3, st124_4, st124_5, st124_7, st124_8, st124_9, st124_10, st124_11, st124_12, st124_13, st124_14, st124_15, st124_16, st124_17, st124_18, st124_19, st124_20, st124_21, st124_22, st124_23, st124_24, st124_25, st124_26, st124_27, st124_28, st124_29, st124_30, st124_31, st124_32, st124_33, st124_34, st124_35, st124_36, st124_37, st124_38, st124_39, st124_40, st124_41, st124_42, t8, (hC1.2.1 hk).2.2.2, hm, show E (2 * i) + 1 = E (2 * i + 1) from E_add _ 1, E_leE (show 2 * i < 2147483648 by omega) (show 2 * i + 1 < 2147483648 by omega), show 2 * i ≤ 2 * i + 1 by omega, if_true]
  | succ q ih =>
    intro i μ u6 u7 hi hs hM
    have hB := h.tw hs (fun c e => by omega)
    have hC1 := hC.sb hH hs (fun c e9 => ⟨by omega, by omega, scr_tag h (by unfold Scr; omega)⟩)
    have hrd1 := hrd.sb hs (fun e9 => by
      have h9 := scr_tag h (c := n) (by unfold Scr; omega)
      rw [hrd.rd] at h9
      cases h9)
    have hB0 := hB
    obtain ⟨hm', hc, hw, ht, hr9⟩ := hB
    have t8 := (hc.2.2.2.2.2.2.2.2.2.2.2 e he).2.1
    have hn := hH.2.2.1
    obtain ⟨r, b, hr, hb, e1, e2⟩ := hok i (by omega)
    have r6 : r < 6 := by have := hw.2.1; omega
    have b4 : b < 4 := by have := hw.1; omega
    have x4 := (hC1.2.1 hk).2.2.2
    have cx : ¬ E (hsz H) ≤ E (2 * i + 1) := by rw [E_le (by omega) (by omega)]; omega
    have cc : 0 ≤ E (2 * i) ∧ E (2 * i) < E (hsz H) := (inr (by omega) (by omega)).mpr (by omega)
    have cc1 : 0 ≤ E (2 * i + 1) ∧ E (2 * i + 1) < E (hsz H) := (inr (by omega) (by omega)).mpr (by omega)
    have p1 : E (2 * i) + 1 = E (2 * i + 1) := E_add (2 * i) 1
    have p2 : E (2 * i) + 2 = E (2 * (i + 1)) := E_add (2 * i) 2
    by_cases cb : E r = but
    · have ev : rnv (cstA A k f) (hel H) but (inA A) (i + 1) = rnv (cstA A k f) (hel H) but (inA A) i := by rw [rnv_s i, e1, if_pos cb]
      have ih1 := fun u6 u7 => ih (i + 1) μ u6 u7 (by omega) hs (by rw [ev]; exact hM)
      rw [ev] at ih1
      obtain ⟨μ', y1, y2, y3⟩ := ih1 (some (Sum.inl but)) u7
      refine ⟨μ', ?_, y2, y3⟩
      rw [st124_6]
      simp only [st124_0, st124_1, st124_2, st124_3, st124_4, st124_5, st124_7, st124_8, st124_9, st124_10, st124_11, st124_12, st124_13, st124_14, st124_15, st124_16, st124_17, st124_18, st124_19, st124_20, st124_21, st124_22, st124_23, st124_24, st124_25, st124_26, st124_27, st124_28, st124_29, st124_30, st124_31, st124_32, st124_33, st124_34, st124_35, st124_36, st124_37, st124_38, st124_39, st124_40, st124_41, st124_42, t8, x4, p1, cx, f57 he hc hH hC1 hk, cc, E_n (show 2 * i < 1000 by omega), e1, cb, p2, aft_some, Option.toList_some, Option.toList_none, List.cons_append, List.nil_append, br0, br1, br2, br3, zr01, zr02, n10, n01, ne_eq, not_true_eq_false, not_false_eq_true, if_true, if_false, true_and, and_true, and_self]
      exact y1
    · have ev : rnv (cstA A k f) (hel H) but (inA A) (i + 1) = ((rnv (cstA A k f) (hel H) but (inA A) i).1 + wrS (cstA A k f) (rnv (cstA A k f) (hel H) but (inA A) i).2 r b, rdS (cstA A k f) (rnv (cstA A k f) (hel H) but (inA A) i).2 r b) := by rw [rnv_s i, e1, if_neg cb, e2, E_nn (by omega), E_nn (by omega)]
      have hSl : SLt A (rnv (cstA A k f) (hel H) but (inA A) i).2 := rnv_lt (A := cstA A k f) (but := but) hwc hok hS i (by omega)
      obtain ⟨μ1, z1, z2, z3⟩ := f122 (d := d) hB0 hM hSl hb hn0 hrd1
      have ih1 := fun u6 u7 => ih (i + 1) μ1 u6 u7 (by omega) (hs.tr z2) (by rw [ev]; exact z3)
      rw [ev] at ih1
      obtain ⟨μ', y1, y2, y3⟩ := ih1 (some (Sum.inl (E r))) (some (Sum.inr (Sum.inl n)))
      refine ⟨μ', ?_, y2, y3⟩
      have eW : wor k f (pgA A b) (ndA A b) ((rnv (cstA A k f) (hel H) but (inA A) i).2 b) = wrS (cstA A k f) (rnv (cstA A k f) (hel H) but (inA A) i).2 r b := rfl
      rw [eW] at z1
      rw [st124_6]
      simp only [st124_0, st124_1, st124_2, st124_3, st124_4, st124_5, st124_7, st124_8, st124_9, st124_10, st124_11, st124_12, st124_13, st124_14, st124_15, st124_16, st124_17, st124_18, st124_19, st124_20, st124_21, st124_22, st124_23, st124_24, st124_25, st124_26, st124_27, st124_28, st124_29, st124_30, st124_31, st124_32, st124_33, st124_34, st124_35, st124_36, st124_37, st124_38, st124_39, st124_40, st124_41, st124_42, t8, x4, p1, cx, f57 he hc hH hC1 hk, cc, cc1, E_n (show 2 * i < 1000 by omega), E_n (show 2 * i + 1 < 1000 by omega), e1, e2, cb, hn0, hc.1, z1, E_add, p2, aft_some, Option.toList_some, Option.toList_none, List.cons_append, List.nil_append, br0, br1, br2, br3, zr01, zr02, n10, n01, ne_eq, not_true_eq_false, not_false_eq_true, if_true, if_false, true_and, and_true, and_self]
      exact y1
theorem f196_lp {d k f : Nat} {x1 x4 : Int32} {A : AT} {μ0 : SMem} (hm : MA μ0) (hw : WF A) (hk : k < 8) (hf : f < 10) (hq : MQr (gi μ0 70) A (inA A)) : ∀ q i (μ : SMem), i + q = rcA A → SB (fun c => c = 70) μ0 μ → (∀ j, gi μ 70 j = if 75 ≤ j ∧ j < 75 + 2 * i then (if j % 2 = 1 then E k else E f) else gi μ0 70 j) → ∃ μ', rn d 196 21 [some (Sum.inr (Sum.inl (69))), some (Sum.inl (x1)), some (Sum.inl (E k)), some (Sum.inl (E f)), some (Sum.inl (x4)), some (Sum.inl (E i))] [] μ = rn d 196 49 [some (Sum.inr (Sum.inl (69))), some (Sum.inl (x1)), some (Sum.inl (E k)), some (Sum.inl (E f)), some (Sum.inl (x4)), some (Sum.inl (E (rcA A)))] [] μ' ∧ SB (fun c => c = 70) μ0 μ' ∧ MQr (gi μ' 70) (cstA A k f) (inA A) := by
  have w1 := hw.1
  have w2 := hw.2.1
  intro q
  induction q with
  | zero =>
    intro i μ hi hs hv
    have : i = rcA A := by omega
    subst this
    have hm1 := hm.sb hs
    obtain ⟨q1, q2, q3, q4⟩ := hq
    have g1 : gi μ 70 1 = E (rcA A) := by rw [hv, if_neg (by omega)]; exact q2
    refine ⟨μ, ?_, hs, by rw [hv, if_neg (by omega)]; exact q1, g1, fun b hb => ?_, fun r hr => ?_⟩
    · obtain ⟨m1, m2, m3, m4, m5, m6, m7, m8, m9, m10, m11, m12, m13, m14, ⟨t0, t1, t2, t3, t4, t5, t6, t7, t8, t9, t10, t11, t12⟩, l0, l1, l2, l3, l4, l5, l6, l7, l8, l9, l10, l11, l12⟩ := hm1
      rw [st196_21]
      simp only [st196_22, st196_23, st196_24, st196_25, st196_26, st196_27, st196_28, st196_29, st196_30, st196_31, st196_32, st196_33, st196_34, st196_35, st196_36, st196_37, st196_38, st196_39, st196_40, st196_41, st196_42, st196_43, st196_44, st196_45, st196_46, st196_47, st196_48, m1, m2, t0, l0, z01, zn1, zl1, g1, alA, alB, alC, alD, alE, and_self, Int32.le_refl, if_true]
    · have hb9 : b < bcA A := hb
      obtain ⟨x1, x2, x3, x4⟩ := q3 b hb
      exact ⟨by rw [hv, if_neg (by omega)]; exact x1, by rw [hv, if_neg (by omega)]; exact x2, x3, fun p hp => by rw [hv, if_neg (by omega)]; exact x4 p hp⟩
    · have hr9 : r < rcA A := hr
      exact ⟨by rw [hv, if_pos (by omega), if_pos (by omega)]; rfl, by rw [hv, if_pos (by omega), if_neg (by omega)]; rfl⟩
  | succ q ih =>
    intro i μ hi hs hv
    have hm1 := hm.sb hs
    have g1 : gi μ 70 1 = E (rcA A) := by rw [hv, if_neg (by omega)]; exact hq.2.1
    have cx : ¬ E (rcA A) ≤ E i := by rw [E_le (by omega) (by omega)]; omega
    have e1 : (75 : Int32) + 2 * E i = E (75 + 2 * i) := ix75 _
    have e2 : E (75 + 2 * i) + 1 = E (76 + 2 * i) := by rw [show (1 : Int32) = E 1 from rfl, E_add]; congr 1; omega
    obtain ⟨μ', y1, y2, y3⟩ := ih (i + 1) (seti (seti μ 70 (75 + 2 * i) (E k)) 70 (76 + 2 * i) (E f)) (by omega) (hs.tr SB.se2) (fun j => by
      rw [gi_seti, gi_seti]
      by_cases c1 : j = 76 + 2 * i
      · rw [if_pos ⟨rfl, c1⟩, if_pos (by omega), if_neg (by omega)]
      · rw [if_neg (fun h => c1 h.2)]
        by_cases c2 : j = 75 + 2 * i
        · rw [if_pos ⟨rfl, c2⟩, if_pos (by omega), if_pos (by omega)]
        · rw [if_neg (fun h => c2 h.2), hv]
          by_cases c3 : 75 ≤ j ∧ j < 75 + 2 * i
          · rw [if_pos c3, if_pos (show 75 ≤ j ∧ j < 75 + 2 * (i + 1) by omega)]
          · rw [if_neg c3, if_neg (show ¬ (75 ≤ j ∧ j < 75 + 2 * (i + 1)) by omega)])
    refine ⟨μ', ?_, y2, y3⟩
    obtain ⟨m1, m2, m3, m4, m5, m6, m7, m8, m9, m10, m11, m12, m13, m14, ⟨t0, t1, t2, t3, t4, t5, t6, t7, t8, t9, t10, t11, t12⟩, l0, l1, l2, l3, l4, l5, l6, l7, l8, l9, l10, l11, l12⟩ := hm1
    rw [st196_21]
    simp only [st196_22, st196_23, st196_24, st196_25, st196_26, st196_27, st196_28, st196_29, st196_30, st196_31, st196_32, st196_33, st196_34, st196_35, st196_36, st196_37, st196_38, st196_39, st196_40, st196_41, st196_42, st196_43, st196_44, st196_45, st196_46, st196_47, st196_48, cx, m1, m2, t0, l0, z01, zn1, zl1, g1, alA, alB, alC, alD, alE, and_self, e1, e2, gi_seti, gi_setr, gi_setl, gi_setrow, gr_seti, gr_setr, gr_setl, gr_setrow, gl_seti, gl_setr, gl_setl, gl_setrow, tg_seti, tg_setr, tg_setl, tg_setrow, ln_seti, ln_setr, ln_setl, ln_setrow, sz_seti, sz_setr, sz_setl, sz_setrow, sl_seti, sl_setr, sl_setl, sl_setrow, E_ge0 (show 75 + 2 * i < 1000 by omega), E_n (show 75 + 2 * i < 1000 by omega), show 75 + 2 * i < 87 by omega, E_ge0 (show 76 + 2 * i < 1000 by omega), E_n (show 76 + 2 * i < 1000 by omega), show 76 + 2 * i < 87 by omega, show E i + 1 = E (i + 1) from E_add i 1, aft_some, Option.toList_some, Option.toList_none, List.cons_append, List.nil_append, br0, br1, br2, br3, zr01, zr02, n10, n01, ne_eq, not_true_eq_false, not_false_eq_true, if_true, if_false, true_and, and_true, and_self]
    exact y1
theorem g91 {d : Nat} {x y z : Int32} {A Ai : AT} {im : Nat} {Hs : Nat → HT} {μ : SMem} (h : INVw μ A Ai im Hs) : ∃ v μ1 μ2, cl (d + 12) 91 [Sum.inr (Sum.inl (2)), Sum.inl (x), Sum.inl (y), Sum.inl (z)] μ = some (Sum.inl (some (Sum.inl (v))), μ1) ∧ cl (d + 12) 196 [Sum.inr (Sum.inl (69)), Sum.inl (x), Sum.inl (y), Sum.inl (z)] μ1 = some (Sum.inl (some (Sum.inl (v))), μ2) ∧ INVw μ2 A Ai im Hs ∧ sz μ2 ≤ sz μ + 1 ∧ sl μ2 ≤ sl μ + 1 ∧ K1 μ μ1 := by
  have hc0 := h.1.2.1
  have h84 := h.2.2.2.2.1.1
  have hu0 := h.2.2.2.2.2
  by_cases cc : (0 ≤ y ∧ y ≤ 7) ∧ 0 ≤ z ∧ z ≤ 9
  · obtain ⟨k, hk, rfl⟩ := E_of (x := y) (n := 8) cc.1.1 (by have := Int32.le_iff_toInt_le.mp cc.1.2; exact Int32.lt_iff_toInt_lt.mpr (by have e : (7 : Int32).toInt = 7 := rfl; have e0 : (E 8).toInt = 8 := rfl; omega)) (by decide)
    obtain ⟨f, hf, rfl⟩ := E_of (x := z) (n := 10) cc.2.1 (by have := Int32.le_iff_toInt_le.mp cc.2.2; exact Int32.lt_iff_toInt_lt.mpr (by have e : (9 : Int32).toInt = 9 := rfl; have e0 : (E 10).toInt = 10 := rfl; omega)) (by decide)
    obtain ⟨μa, b1, b2, b3, b4, b5⟩ := f136 (d := d + 8) hk hf (show 2 ≤ sz μ by omega) hu0
    have ha := h.same b2
    have n0 : (sz μ = 0) = False := eq_false (by omega)
    have hB := ha.1
    obtain ⟨hm, hc, hw, ht, hr⟩ := hB
    have hq := hr.mq hw
    by_cases c : 0 ≤ x ∧ x < 8
    · obtain ⟨e, he, rfl⟩ := E_of (n := 8) c.1 c.2 (by decide)
      obtain ⟨hH, hC, hM⟩ := ha.2.2.2.1 e he
      have e0 : (53 + 2 * e = 0) = False := eq_false (by omega)
      by_cases q : rfRd A (Hs e) = 0
      · obtain ⟨k2, q2, _, q3⟩ := rfRd_0 q
        have hok := ok_rd hw q3
        obtain ⟨μb, v1, v2, v3⟩ := f121 (d := d + 9) ha.1
        obtain ⟨μ1, a1, a2, a3⟩ := f124a_lp (d := d + 5) (but := -4) he ha.1 hH hC k2 (show hsz (Hs e) = 2 * (hsz (Hs e) / 2) by omega) hok (fun b _ => hw.in2 b) (show sz μ ≠ 0 by omega) b3 (hsz (Hs e) / 2) 0 μb none none (by omega) v2 v3
        have hB1 := ha.1.tw a2 (fun c e => by omega)
        have hM1 := hM.sb a2 (fun c e => by omega)
        have hq1 := hB1.2.2.2.2.mq hw
        obtain ⟨μc, c1, c2, c3⟩ := f183 (d := d + 10) hB1.1
        have hqc : MQr (gi μc 70) A (inA A) := by rw [c2.2.2.2.2.2.2 70 (by omega)]; exact hq1
        have hmc := hB1.1.sb c2
        have hwc := cst_wf hw hk hf
        obtain ⟨μd, d1, d2, d3⟩ := f196_lp (d := d + 12) (x1 := E e) (x4 := 0) hmc hw hk hf hqc (rcA A) 0 μc (by omega) SB.rf (fun j => by rw [if_neg (by omega)])
        have hmd := hmc.sb d2
        obtain ⟨μe, o1, o2, o3⟩ := f185 (d := d + 6) (A := cstA A k f) (but := -4) he hmd hwc hH ((hM1.sb c2 (fun c e => by omega)).sb d2 (fun c e => by omega)) d3 q
        have hme := hmd.sb o2
        obtain ⟨μf, y1, y2, y3⟩ := f184b (d := d + 10) hB1 c2 c3 (d2.tr o2)
        have hsb : SB Scr μa μf := (a2.wk (fun c e => by unfold Scr; omega)).tr (y2.wk (fun c e => by unfold Scr; omega))
        refine ⟨E (rnv (cstA A k f) (hel (Hs e)) (-4) (inA A) (hsz (Hs e) / 2)).1, μ1, μf, ?_, ?_, ha.up hsb (fun c h => h) ?_ y3, by rw [y2.2.2.2.2.1, a2.2.2.2.2.1]; omega, by rw [y2.2.2.2.2.2.1, a2.2.2.2.2.2.1]; omega, (K1.sg b2).tr (K1.sb a2 (by omega))⟩
        · have a1' : ∀ d' : Nat, d' = d + 11 → cl d' 124 [Sum.inr (Sum.inl (2)), Sum.inr (Sum.inl (53 + 2 * e)), Sum.inr (Sum.inl (sz μ)), Sum.inl (-4)] μa = some (Sum.inl (some (Sum.inl (E (rnv (cstA A k f) (hel (Hs e)) (-4) (inA A) (hsz (Hs e) / 2)).1))), μ1) := fun d' hd => by
            subst hd
            show rn (d + 11) 124 0 [some (Sum.inr (Sum.inl (2))), some (Sum.inr (Sum.inl (53 + 2 * e))), some (Sum.inr (Sum.inl (sz μ))), some (Sum.inl (-4)), none, none, none, none] [] μa = _
            simp only [st124_0, st124_1, st124_2, st124_3, st124_4, st124_5, hc.1, v1, aft_some, Option.toList_some, Option.toList_none, List.cons_append, List.nil_append, br0, br1, br2, br3, zr01, zr02, n10, n01, ne_eq, not_true_eq_false, not_false_eq_true, if_true, if_false, true_and, and_true, and_self]
            exact a1
          show rn (d + 12) 91 0 [some (Sum.inr (Sum.inl (2))), some (Sum.inl (E e)), some (Sum.inl (E k)), some (Sum.inl (E f)), none, none, none] [] μ = _
          simp only [st91_0, st91_1, st91_2, st91_3, st91_4, st91_5, st91_6, st91_7, st91_8, st91_9, st91_10, st91_11, st91_12, st91_13, st91_14, st91_15, st91_16, st91_17, st91_18, st91_19, st91_20, st91_21, st91_22, st91_23, st91_24, st91_25, st91_26, st91_27, hc0.1, f113 hc0, c, E_n (show e < 1000 by omega), e0, b1, n0, hc.1, f118 he hc hH hC hw ht, q, a1' _ rfl, aft_some, Option.toList_some, Option.toList_none, List.cons_append, List.nil_append, br0, br1, br2, br3, zr01, zr02, n10, n01, ne_eq, not_true_eq_false, not_false_eq_true, if_true, if_false, true_and, and_true, and_self]
        · show rn (d + 12) 196 0 [some (Sum.inr (Sum.inl (69))), some (Sum.inl (E e)), some (Sum.inl (E k)), some (Sum.inl (E f)), none, none] [] μ1 = _
          simp only [st196_0, st196_1, st196_2, st196_3, st196_4, st196_5, st196_6, st196_7, st196_8, st196_9, st196_10, st196_11, st196_12, st196_13, st196_14, st196_15, st196_16, st196_17, st196_18, st196_19, st196_20, f140, E_ge0 (show e < 1000 by omega), E_lt8 he, f195, cc, hB1.1.1, f181 he hB1.1 hH hM1 hw hq1, q, c1, aft_some, Option.toList_some, Option.toList_none, List.cons_append, List.nil_append, br0, br1, br2, br3, zr01, zr02, n10, n01, ne_eq, not_true_eq_false, not_false_eq_true, if_true, if_false, true_and, and_true, and_self]
          refine d1.trans ?_
          simp only [st196_49, st196_50, st196_51, st196_52, st196_53, st196_54, st196_55, st196_56, st196_57, hmd.1, o1, hme.1, y1, show inA (cstA A k f) = inA A from rfl, aft_some, Option.toList_some, Option.toList_none, List.cons_append, List.nil_append, br0, br1, br2, br3, zr01, zr02, n10, n01, ne_eq, not_true_eq_false, not_false_eq_true, if_true, if_false, true_and, and_true, and_self]
        · rw [y2.2.2.2.2.2.2 69 (by omega), a2.2.2.2.2.2.2 69 (by omega)]
      · refine ⟨rfRd A (Hs e), μa, μa, ?_, ?_, ha, by omega, by omega, K1.sg b2⟩
        · show rn (d + 12) 91 0 [some (Sum.inr (Sum.inl (2))), some (Sum.inl (E e)), some (Sum.inl (E k)), some (Sum.inl (E f)), none, none, none] [] μ = _
          simp only [st91_0, st91_1, st91_2, st91_3, st91_4, st91_5, st91_6, st91_7, st91_8, st91_9, st91_10, st91_11, st91_12, st91_13, st91_14, st91_15, st91_16, st91_17, st91_18, st91_19, st91_20, st91_21, st91_22, st91_23, st91_24, st91_25, st91_26, st91_27, hc0.1, f113 hc0, c, E_n (show e < 1000 by omega), e0, b1, n0, hc.1, f118 he hc hH hC hw ht, q, aft_some, Option.toList_some, Option.toList_none, List.cons_append, List.nil_append, br0, br1, br2, br3, zr01, zr02, n10, n01, ne_eq, not_true_eq_false, not_false_eq_true, if_true, if_false, true_and, and_true, and_self]
        · show rn (d + 12) 196 0 [some (Sum.inr (Sum.inl (69))), some (Sum.inl (E e)), some (Sum.inl (E k)), some (Sum.inl (E f)), none, none] [] μa = _
          simp only [st196_0, st196_1, st196_2, st196_3, st196_4, st196_5, st196_6, st196_7, st196_8, st196_9, st196_10, st196_11, st196_12, st196_13, st196_14, st196_15, st196_16, st196_17, st196_18, st196_19, st196_20, f140, E_ge0 (show e < 1000 by omega), E_lt8 he, f195, cc, hm.1, f181 he hm hH hM hw hq, q, aft_some, Option.toList_some, Option.toList_none, List.cons_append, List.nil_append, br0, br1, br2, br3, zr01, zr02, n10, n01, ne_eq, not_true_eq_false, not_false_eq_true, if_true, if_false, true_and, and_true, and_self]
    · refine ⟨-1, μa, μa, ?_, ?_, ha, by omega, by omega, K1.sg b2⟩
      · show rn (d + 12) 91 0 [some (Sum.inr (Sum.inl (2))), some (Sum.inl (x)), some (Sum.inl (E k)), some (Sum.inl (E f)), none, none, none] [] μ = _
        simp only [st91_0, st91_1, st91_2, st91_3, st91_4, st91_5, st91_6, st91_7, st91_8, st91_9, st91_10, st91_11, st91_12, st91_13, st91_14, st91_15, st91_16, st91_17, st91_18, st91_19, st91_20, st91_21, st91_22, st91_23, st91_24, st91_25, st91_26, st91_27, hc0.1, f113 hc0, c, b1, aft_some, Option.toList_some, Option.toList_none, List.cons_append, List.nil_append, br0, br1, br2, br3, zr01, zr02, n10, n01, ne_eq, not_true_eq_false, not_false_eq_true, if_true, if_false, true_and, and_true, and_self]
      · show rn (d + 12) 196 0 [some (Sum.inr (Sum.inl (69))), some (Sum.inl (x)), some (Sum.inl (E k)), some (Sum.inl (E f)), none, none] [] μa = _
        simp only [st196_0, st196_1, st196_2, st196_3, st196_4, st196_5, st196_6, st196_7, st196_8, st196_9, st196_10, st196_11, st196_12, st196_13, st196_14, st196_15, st196_16, st196_17, st196_18, st196_19, st196_20, f140, c, show ((-1 : Int32) = 0) = False from eq_false (by decide), aft_some, Option.toList_some, Option.toList_none, List.cons_append, List.nil_append, br0, br1, br2, br3, zr01, zr02, n10, n01, ne_eq, not_true_eq_false, not_false_eq_true, if_true, if_false, true_and, and_true, and_self]
  · have n1 : ((-1 : Int32) = 0) = False := eq_false (by decide)
    refine ⟨-1, μ, μ, ?_, ?_, h, by omega, by omega, K1.rf⟩
    · show rn (d + 12) 91 0 [some (Sum.inr (Sum.inl (2))), some (Sum.inl (x)), some (Sum.inl (y)), some (Sum.inl (z)), none, none, none] [] μ = _
      by_cases c : 0 ≤ x ∧ x < 8
      · obtain ⟨e, he, rfl⟩ := E_of (n := 8) c.1 c.2 (by decide)
        have e0 : (53 + 2 * e = 0) = False := eq_false (by omega)
        simp only [st91_0, st91_1, st91_2, st91_3, st91_4, st91_5, st91_6, st91_7, st91_8, st91_9, st91_10, st91_11, st91_12, st91_13, st91_14, st91_15, st91_16, st91_17, st91_18, st91_19, st91_20, st91_21, st91_22, st91_23, st91_24, st91_25, st91_26, st91_27, hc0.1, f113 hc0, c, E_n (show e < 1000 by omega), e0, f136n cc, aft_some, Option.toList_some, Option.toList_none, List.cons_append, List.nil_append, br0, br1, br2, br3, zr01, zr02, n10, n01, ne_eq, not_true_eq_false, not_false_eq_true, if_true, if_false, true_and, and_true, and_self]
      · simp only [st91_0, st91_1, st91_2, st91_3, st91_4, st91_5, st91_6, st91_7, st91_8, st91_9, st91_10, st91_11, st91_12, st91_13, st91_14, st91_15, st91_16, st91_17, st91_18, st91_19, st91_20, st91_21, st91_22, st91_23, st91_24, st91_25, st91_26, st91_27, hc0.1, f113 hc0, c, f136n cc, aft_some, Option.toList_some, Option.toList_none, List.cons_append, List.nil_append, br0, br1, br2, br3, zr01, zr02, n10, n01, ne_eq, not_true_eq_false, not_false_eq_true, if_true, if_false, true_and, and_true, and_self]
    · show rn (d + 12) 196 0 [some (Sum.inr (Sum.inl (69))), some (Sum.inl (x)), some (Sum.inl (y)), some (Sum.inl (z)), none, none] [] μ = _
      by_cases c : 0 ≤ x ∧ x < 8
      · simp only [st196_0, st196_1, st196_2, st196_3, st196_4, st196_5, st196_6, st196_7, st196_8, st196_9, st196_10, st196_11, st196_12, st196_13, st196_14, st196_15, st196_16, st196_17, st196_18, st196_19, st196_20, f140, c, f195, cc, n1, aft_some, Option.toList_some, Option.toList_none, List.cons_append, List.nil_append, br0, br1, br2, br3, zr01, zr02, n10, n01, ne_eq, not_true_eq_false, not_false_eq_true, if_true, if_false, true_and, and_true, and_self]
      · simp only [st196_0, st196_1, st196_2, st196_3, st196_4, st196_5, st196_6, st196_7, st196_8, st196_9, st196_10, st196_11, st196_12, st196_13, st196_14, st196_15, st196_16, st196_17, st196_18, st196_19, st196_20, f140, c, n1, aft_some, Option.toList_some, Option.toList_none, List.cons_append, List.nil_append, br0, br1, br2, br3, zr01, zr02, n10, n01, ne_eq, not_true_eq_false, not_false_eq_true, if_true, if_false, true_and, and_true, and_self]
