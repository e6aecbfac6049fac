/-! SPECS S: the reference's row put back; without -/
theorem f184b {d : Nat} {A : AT} {μ μa μb : SMem} (h : Both μ A) (ha : SB (fun c => c = 73) μ μa) (h3 : ∀ j, j < 87 → gi μa 73 j = gi μ 70 j) (hb : SB (fun c => c = 70) μa μb) : ∃ μc, cl (d + 1) 184 [Sum.inr (Sum.inl (69))] μb = some (Sum.inl none, μc) ∧ SB (fun c => c = 70 ∨ c = 73) μ μc ∧ Both μc A := by
  have h0 := h
  obtain ⟨hm, hc, hw, ht, hr⟩ := h
  obtain ⟨μc, e1, e2, e3⟩ := f184 (d := d) ((hm.sb ha).sb hb)
  have hs : SB (fun c => c = 70 ∨ c = 73) μ μc := ((ha.wk (fun c e => Or.inr e)).tr (hb.wk (fun c e => Or.inl e))).tr (e2.wk (fun c e => Or.inl e))
  refine ⟨μc, e1, hs, hm.sb hs, hc.sb hs, hw, ht.sb hs (fun c e => ⟨by omega, scr_tag h0 (by unfold Scr; omega)⟩), hr.ext hw (fun j hj => ?_)⟩
  rw [e3 j hj, hb.2.2.2.2.2.2 73 (by omega), h3 j hj]
theorem g92 {d : Nat} {x y : Int32} {A Ai : AT} {im : Nat} {Hs : Nat → HT} {μ : SMem} (h : INVw μ A Ai im Hs) : ∃ v μ1 μ2, cl (d + 12) 92 [Sum.inr (Sum.inl (2)), Sum.inl (x), Sum.inl (y)] μ = some (Sum.inl (some (Sum.inl (v))), μ1) ∧ cl (d + 12) 197 [Sum.inr (Sum.inl (69)), Sum.inl (x), Sum.inl (y)] μ1 = some (Sum.inl (some (Sum.inl (v))), μ2) ∧ INVw μ2 A Ai im Hs ∧ sz μ2 = sz μ ∧ sl μ2 = sl μ ∧ K1 μ μ1 := by
  have hB := h.1
  obtain ⟨hm, hc, hw, ht, hr⟩ := hB
  have hq := hr.mq hw
  by_cases cx : 0 ≤ x ∧ x < E (rcA A)
  · obtain ⟨r, hr1, rfl⟩ := E_of cx.1 cx.2 (by have := hw.2.1; omega)
    have r9 : r < 1000 := by have := hw.2.1; omega
    obtain ⟨r0, hrd⟩ := ht.2.2.2.2.2 r hr1
    by_cases c : 0 ≤ y ∧ y < 8
    · obtain ⟨e, he, rfl⟩ := E_of (n := 8) c.1 c.2 (by decide)
      obtain ⟨hH, hC, hM⟩ := h.2.2.2.1 e he
      have e0 : (53 + 2 * e = 0) = False := eq_false (by omega)
      by_cases k : rfRd A (Hs e) = 0
      · obtain ⟨μ1, a1, a2, a3⟩ := f124 (d := d + 5) (but := E r) he h.1 hH hC k
        have hB1 := h.1.tw a2 (fun c e => by omega)
        have hM1 := hM.sb a2 (fun c e => by omega)
        have hq1 := hB1.2.2.2.2.mq hw
        obtain ⟨μa, b1, b2, b3⟩ := f183 (d := d + 10) hB1.1
        have hqa : MQr (gi μa 70) A (inA A) := by rw [b2.2.2.2.2.2.2 70 (by omega)]; exact hq1
        obtain ⟨μb, c1, c2, c3⟩ := f185 (d := d + 6) (but := E r) he (hB1.1.sb b2) hw hH (hM1.sb b2 (fun c e => by omega)) hqa k
        obtain ⟨μc, d1, d2, d3⟩ := f184b (d := d + 10) hB1 b2 b3 c2
        have hsb : SB Scr μ μc := (a2.wk (fun c e => by unfold Scr; omega)).tr (d2.wk (fun c e => by unfold Scr; omega))
        refine ⟨E (rnv A (hel (Hs e)) (E r) (inA A) (hsz (Hs e) / 2)).1, μ1, μc, ?_, ?_, h.up hsb (fun c h => h) ?_ d3, by rw [d2.2.2.2.2.1, a2.2.2.2.2.1], by rw [d2.2.2.2.2.2.1, a2.2.2.2.2.2.1], K1.sb a2 (by omega)⟩
        · show rn (d + 12) 92 0 [some (Sum.inr (Sum.inl (2))), some (Sum.inl (E r)), some (Sum.inl (E e)), none, none] [] μ = _
          simp only [st92_0, st92_1, st92_2, st92_3, st92_4, st92_5, st92_6, st92_7, st92_8, st92_9, st92_10, st92_11, st92_12, st92_13, st92_14, st92_15, st92_16, st92_17, st92_18, st92_19, st92_20, st92_21, st92_22, st92_23, st92_24, st92_25, st92_26, hc.1, hc.2.1, f113 hc, c, E_n (show e < 1000 by omega), e0, ht.1.1, f68 hw ht, cx, E_n r9, r0, f118 he hc hH hC hw ht, k, a1, aft_some, Option.toList_some, Option.toList_none, List.cons_append, List.nil_append, br0, br1, br2, br3, zr01, zr02, n10, n01, ne_eq, not_true_eq_false, not_false_eq_true, if_true, if_false, true_and, and_true, and_self]
        · show rn (d + 12) 197 0 [some (Sum.inr (Sum.inl (69))), some (Sum.inl (E r)), some (Sum.inl (E e)), none, none] [] μ1 = _
          simp only [st197_0, st197_1, st197_2, st197_3, st197_4, st197_5, st197_6, st197_7, st197_8, st197_9, st197_10, st197_11, st197_12, st197_13, st197_14, st197_15, st197_16, st197_17, st197_18, st197_19, st197_20, st197_21, st197_22, st197_23, st197_24, hB1.1.1, f142 hB1.1 hw hB1.2.2.2.2.2.1, cx, f181 he hB1.1 hH hM1 hw hq1, k, b1, (hB1.1.sb b2).1, c1, ((hB1.1.sb b2).sb c2).1, d1, aft_some, Option.toList_some, Option.toList_none, List.cons_append, List.nil_append, br0, br1, br2, br3, zr01, zr02, n10, n01, ne_eq, not_true_eq_false, not_false_eq_true, if_true, if_false, true_and, and_true, and_self]
        · rw [d2.2.2.2.2.2.2 69 (by omega), a2.2.2.2.2.2.2 69 (by omega)]
      · refine ⟨rfRd A (Hs e), μ, μ, ?_, ?_, h, rfl, rfl, K1.rf⟩
        · show rn (d + 12) 92 0 [some (Sum.inr (Sum.inl (2))), some (Sum.inl (E r)), some (Sum.inl (E e)), none, none] [] μ = _
          simp only [st92_0, st92_1, st92_2, st92_3, st92_4, st92_5, st92_6, st92_7, st92_8, st92_9, st92_10, st92_11, st92_12, st92_13, st92_14, st92_15, st92_16, st92_17, st92_18, st92_19, st92_20, st92_21, st92_22, st92_23, st92_24, st92_25, st92_26, hc.1, hc.2.1, f113 hc, c, E_n (show e < 1000 by omega), e0, ht.1.1, f68 hw ht, cx, E_n r9, r0, f118 he hc hH hC hw ht, k, aft_some, Option.toList_some, Option.toList_none, List.cons_append, List.nil_append, br0, br1, br2, br3, zr01, zr02, n10, n01, ne_eq, not_true_eq_false, not_false_eq_true, if_true, if_false, true_and, and_true, and_self]
        · show rn (d + 12) 197 0 [some (Sum.inr (Sum.inl (69))), some (Sum.inl (E r)), some (Sum.inl (E e)), none, none] [] μ = _
          simp only [st197_0, st197_1, st197_2, st197_3, st197_4, st197_5, st197_6, st197_7, st197_8, st197_9, st197_10, st197_11, st197_12, st197_13, st197_14, st197_15, st197_16, st197_17, st197_18, st197_19, st197_20, st197_21, st197_22, st197_23, st197_24, hm.1, f142 hm hw hr.2.1, cx, f181 he hm hH hM hw hq, k, aft_some, Option.toList_some, Option.toList_none, List.cons_append, List.nil_append, br0, br1, br2, br3, zr01, zr02, n10, n01, ne_eq, not_true_eq_false, not_false_eq_true, if_true, if_false, true_and, and_true, and_self]
    · refine ⟨-1, μ, μ, ?_, ?_, h, rfl, rfl, K1.rf⟩
      · show rn (d + 12) 92 0 [some (Sum.inr (Sum.inl (2))), some (Sum.inl (E r)), some (Sum.inl (y)), none, none] [] μ = _
        simp only [st92_0, st92_1, st92_2, st92_3, st92_4, st92_5, st92_6, st92_7, st92_8, st92_9, st92_10, st92_11, st92_12, st92_13, st92_14, st92_15, st92_16, st92_17, st92_18, st92_19, st92_20, st92_21, st92_22, st92_23, st92_24, st92_25, st92_26, hc.1, hc.2.1, f113 hc, c, aft_some, Option.toList_some, Option.toList_none, List.cons_append, List.nil_append, br0, br1, br2, br3, zr01, zr02, n10, n01, ne_eq, not_true_eq_false, not_false_eq_true, if_true, if_false, true_and, and_true, and_self]
      · show rn (d + 12) 197 0 [some (Sum.inr (Sum.inl (69))), some (Sum.inl (E r)), some (Sum.inl (y)), none, none] [] μ = _
        simp only [st197_0, st197_1, st197_2, st197_3, st197_4, st197_5, st197_6, st197_7, st197_8, st197_9, st197_10, st197_11, st197_12, st197_13, st197_14, st197_15, st197_16, st197_17, st197_18, st197_19, st197_20, st197_21, st197_22, st197_23, st197_24, hm.1, f142 hm hw hr.2.1, cx, f181n hm c, show ((-1 : Int32) = 0) = False from eq_false (by decide), aft_some, Option.toList_some, Option.toList_none, List.cons_append, List.nil_append, br0, br1, br2, br3, zr01, zr02, n10, n01, ne_eq, not_true_eq_false, not_false_eq_true, if_true, if_false, true_and, and_true, and_self]
  · refine ⟨-1, μ, μ, ?_, ?_, h, rfl, rfl, K1.rf⟩
    · show rn (d + 12) 92 0 [some (Sum.inr (Sum.inl (2))), some (Sum.inl (x)), some (Sum.inl (y)), none, none] [] μ = _
      by_cases c : 0 ≤ y ∧ y < 8
      · obtain ⟨e, he, rfl⟩ := E_of (n := 8) c.1 c.2 (by decide)
        have e0 : (53 + 2 * e = 0) = False := eq_false (by omega)
        simp only [st92_0, st92_1, st92_2, st92_3, st92_4, st92_5, st92_6, st92_7, st92_8, st92_9, st92_10, st92_11, st92_12, st92_13, st92_14, st92_15, st92_16, st92_17, st92_18, st92_19, st92_20, st92_21, st92_22, st92_23, st92_24, st92_25, st92_26, hc.1, hc.2.1, f113 hc, c, E_n (show e < 1000 by omega), e0, ht.1.1, f68 hw ht, cx, aft_some, Option.toList_some, Option.toList_none, List.cons_append, List.nil_append, br0, br1, br2, br3, zr01, zr02, n10, n01, ne_eq, not_true_eq_false, not_false_eq_true, if_true, if_false, true_and, and_true, and_self]
      · simp only [st92_0, st92_1, st92_2, st92_3, st92_4, st92_5, st92_6, st92_7, st92_8, st92_9, st92_10, st92_11, st92_12, st92_13, st92_14, st92_15, st92_16, st92_17, st92_18, st92_19, st92_20, st92_21, st92_22, st92_23, st92_24, st92_25, st92_26, hc.1, hc.2.1, f113 hc, c, aft_some, Option.toList_some, Option.toList_none, List.cons_append, List.nil_append, br0, br1, br2, br3, zr01, zr02, n10, n01, ne_eq, not_true_eq_false, not_false_eq_true, if_true, if_false, true_and, and_true, and_self]
    · show rn (d + 12) 197 0 [some (Sum.inr (Sum.inl (69))), some (Sum.inl (x)), some (Sum.inl (y)), none, none] [] μ = _
      simp only [st197_0, st197_1, st197_2, st197_3, st197_4, st197_5, st197_6, st197_7, st197_8, st197_9, st197_10, st197_11, st197_12, st197_13, st197_14, st197_15, st197_16, st197_17, st197_18, st197_19, st197_20, st197_21, st197_22, st197_23, st197_24, hm.1, f142 hm hw hr.2.1, cx, show ((-1 : Int32) = 0) = False from eq_false (by decide), aft_some, Option.toList_some, Option.toList_none, List.cons_append, List.nil_append, br0, br1, br2, br3, zr01, zr02, n10, n01, ne_eq, not_true_eq_false, not_false_eq_true, if_true, if_false, true_and, and_true, and_self]
