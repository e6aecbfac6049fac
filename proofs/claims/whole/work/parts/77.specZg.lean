/-! SPECS ZG: howMany, whether so many copies are enough -/
def sqS (k f pg : Nat) (nd : Nat → Int32) : Nat → Nat
  | 0 => 2 ^ pg - 1
  | c + 1 => lft k f pg nd (sqS k f pg nd c)
theorem sqS_s {k f pg : Nat} {nd : Nat → Int32} (c : Nat) : sqS k f pg nd (c + 1) = lft k f pg nd (sqS k f pg nd c) := rfl
theorem sqS_lt {k f pg : Nat} {nd : Nat → Int32} (hk : k < 8) (hf : f < 10) (h1 : 1 ≤ pg) (hpg : pg < 9) : ∀ c, sqS k f pg nd c < 2 ^ pg := by
  intro c
  induction c with
  | zero => have := Nat.two_pow_pos pg; show 2 ^ pg - 1 < 2 ^ pg; omega
  | succ c ih => exact lft_lt2 ih hk hf h1 hpg
theorem lsc_le {k f pg : Nat} {nd : Nat → Int32} : ∀ N S, lsc k f pg nd S N ≤ N := by
  intro N
  induction N with
  | zero => intro S; exact Nat.le_refl _
  | succ N ih =>
    intro S
    rw [lsc_s]
    split
    · omega
    · have := ih (lft k f pg nd S); omega
theorem lsc_pos {k f pg : Nat} {nd : Nat → Int32} : ∀ N i j, j < lsc k f pg nd (sqS k f pg nd i) N → wor k f pg nd (sqS k f pg nd (i + j)) ≠ 0 := by
  intro N
  induction N with
  | zero => intro i j h; exact absurd h (Nat.not_lt_zero j)
  | succ N ih =>
    intro i j h
    rw [lsc_s] at h
    by_cases c : wor k f pg nd (sqS k f pg nd i) = 0
    · rw [if_pos c] at h; omega
    · rw [if_neg c, ← sqS_s] at h
      cases j with
      | zero => exact c
      | succ j =>
        have := ih (i + 1) j (by omega)
        rw [show i + 1 + j = i + (j + 1) by omega] at this
        exact this
theorem lsc_z {k f pg : Nat} {nd : Nat → Int32} : ∀ N i, lsc k f pg nd (sqS k f pg nd i) N < N → wor k f pg nd (sqS k f pg nd (i + lsc k f pg nd (sqS k f pg nd i) N)) = 0 := by
  intro N
  induction N with
  | zero => intro i h; omega
  | succ N ih =>
    intro i h
    rw [lsc_s] at h ⊢
    by_cases c : wor k f pg nd (sqS k f pg nd i) = 0
    · rw [if_pos c]; exact c
    · rw [if_neg c, ← sqS_s] at h ⊢
      have := ih (i + 1) (by omega)
      rw [show i + 1 + lsc k f pg nd (sqS k f pg nd (i + 1)) N = i + (lsc k f pg nd (sqS k f pg nd (i + 1)) N + 1) by omega] at this
      exact this
theorem smF_le {c : Nat → Nat} {s : Nat} : ∀ n, (∀ i, i < n → c i ≤ s) → smF c n ≤ n * s := by
  intro n
  induction n with
  | zero => intro _; exact Nat.zero_le _
  | succ n ih =>
    intro h
    rw [smF_s, Nat.succ_mul]
    have := ih (fun i hi => h i (by omega))
    have := h n (by omega)
    omega
theorem smF_ge {c : Nat → Nat} {s : Nat} : ∀ n, (∀ i, i < n → s ≤ c i) → n * s ≤ smF c n := by
  intro n
  induction n with
  | zero => intro _; rw [Nat.zero_mul]; exact Nat.zero_le _
  | succ n ih =>
    intro h
    rw [smF_s, Nat.succ_mul]
    have := ih (fun i hi => h i (by omega))
    have := h n (by omega)
    omega
theorem smF_0 : ∀ n, smF (fun _ => 0) n = 0 := by
  intro n
  induction n with
  | zero => rfl
  | succ n ih => rw [smF_s, ih]
theorem smF_cg {c c' : Nat → Nat} : ∀ n, (∀ i, i < n → c' i = c i) → smF c' n = smF c n := by
  intro n
  induction n with
  | zero => intro _; rfl
  | succ n ih => intro h; rw [smF_s, smF_s, ih (fun i hi => h i (by omega)), h n (by omega)]
theorem smF_up {c : Nat → Nat} {m : Nat} : ∀ n, m < n → smF (up1 c m (c m + 1)) n = smF c n + 1 := by
  intro n
  induction n with
  | zero => intro h; omega
  | succ n ih =>
    intro h
    rw [smF_s, smF_s]
    by_cases e : m = n
    · subst e
      rw [smF_cg m (fun i hi => by rw [up1, if_neg (by omega)]), up1, if_pos rfl]
      omega
    · rw [ih (by omega), up1, if_neg (by omega)]
      omega
theorem f205_a {d r b n : Nat} {x3 : Int32} {A : AT} {S : Nat → Nat} {μ0 : SMem} (hm : MA μ0) (hw : WF A) (hM : MQr (gi μ0 70) A S) (hb : b < bcA A) (hn : n < 10) : ∀ k i (μ : SMem), i + k = n → SB (fun c => c = 82) μ0 μ → (∀ j, j < i → gi μ 82 j = E (2 ^ pgA A b - 1)) → ∃ μ', rn (d + 5) 205 2 [some (Sum.inr (Sum.inl (69))), some (Sum.inl (E r)), some (Sum.inl (E b)), some (Sum.inl (x3)), some (Sum.inl (E n)), some (Sum.inl (E i)), none, none, none, none] [] μ = rn (d + 5) 205 18 [some (Sum.inr (Sum.inl (69))), some (Sum.inl (E r)), some (Sum.inl (E b)), some (Sum.inl (x3)), some (Sum.inl (E n)), some (Sum.inl (E n)), none, none, none, none] [] μ' ∧ SB (fun c => c = 82) μ0 μ' ∧ (∀ j, j < n → gi μ' 82 j = E (2 ^ pgA A b - 1)) := by
  have b4 : b < 4 := by have := hw.1; omega
  intro k
  induction k with
  | zero =>
    intro i μ hi hs hj
    have : i = n := by omega
    subst this
    refine ⟨μ, ?_, hs, hj⟩
    rw [st205_2]
    simp only [st205_3, st205_4, st205_5, st205_6, st205_7, st205_8, st205_9, st205_10, st205_11, st205_12, st205_13, st205_14, st205_15, st205_16, st205_17, Int32.le_refl, if_true]
  | succ k ih =>
    intro i μ hi hs hj
    have hm1 := hm.sb hs
    have hm2 := hm1
    have cx : ¬ E n ≤ E i := by rw [E_le (by omega) (by omega)]; omega
    have g3 : gi μ 70 (3 + 18 * b) = E (pgA A b) := by rw [hs.2.2.2.2.2.2 70 (by omega)]; exact (hM.2.2.1 b hb).1
    obtain ⟨μ', y1, y2, y3⟩ := ih (i + 1) (seti μ 82 i (E (2 ^ pgA A b - 1))) (by omega) (hs.tr (SB.se rfl)) (fun j hj9 => by
      rw [gi_seti]
      by_cases e : j = i
      · rw [if_pos ⟨rfl, e⟩]
      · rw [if_neg (fun h => e h.2)]; exact hj j (by omega))
    refine ⟨μ', ?_, y2, y3⟩
    obtain ⟨m1, m2, m3, m4, m5, m6, m7, m8, m9, m10, m11, m12, m13, m14, ⟨t0, t1, t2, t3, t4, t5, t6, t7, t8, t9, t10, t11, t12⟩, l0, l1, l2, l3, l4, l5, l6, l7, l8, l9, l10, l11, l12⟩ := hm1
    rw [st205_2]
    simp only [st205_3, st205_4, st205_5, st205_6, st205_7, st205_8, st205_9, st205_10, st205_11, st205_12, st205_13, st205_14, st205_15, st205_16, st205_17, cx, m1, m14, t12, l12, f143 b4 hm2, g3, E_whole _ (hw.pg9 b), E_ge0 (show i < 1000 by omega), E_n (show i < 1000 by omega), show i < 10 by omega, show E i + 1 = E (i + 1) from E_add i 1, aft_some, Option.toList_some, Option.toList_none, List.cons_append, List.nil_append, br0, br1, br2, br3, zr01, zr02, n10, n01, ne_eq, not_true_eq_false, not_false_eq_true, if_true, if_false, true_and, and_true, and_self]
    exact y1
theorem f205_b {d r b n : Nat} {x3 x5 : Int32} {A : AT} {c : Nat → Nat} {μ0 : SMem} (hm : MA μ0) (hw : WF A) (hr : r < rcA A) (hb : b < bcA A) (hn : n < 10) (hv : ∀ i, i < n → gi μ0 82 i = E (sqS (kdA A r) (fgA A r) (pgA A b) (ndA A b) (c i))) : ∀ k j (μ : SMem) (best v : Int32) (u9 : Option SV), j + k = n → 0 < n → SB (fun c => c = 70) μ0 μ → (∃ S, MQr (gi μ 70) A S) → ((j = 0 ∧ v = -1) ∨ ∃ m, m < j ∧ best = E m ∧ v = E (wor (kdA A r) (fgA A r) (pgA A b) (ndA A b) (sqS (kdA A r) (fgA A r) (pgA A b) (ndA A b) (c m))) ∧ ∀ i, i < j → wor (kdA A r) (fgA A r) (pgA A b) (ndA A b) (sqS (kdA A r) (fgA A r) (pgA A b) (ndA A b) (c i)) ≤ wor (kdA A r) (fgA A r) (pgA A b) (ndA A b) (sqS (kdA A r) (fgA A r) (pgA A b) (ndA A b) (c m))) → ∃ μ' m u9', rn (d + 5) 205 29 [some (Sum.inr (Sum.inl (69))), some (Sum.inl (E r)), some (Sum.inl (E b)), some (Sum.inl (x3)), some (Sum.inl (E n)), some (Sum.inl (x5)), some (Sum.inl (best)), some (Sum.inl (v)), some (Sum.inl (E j)), u9] [] μ = rn (d + 5) 205 54 [some (Sum.inr (Sum.inl (69))), some (Sum.inl (E r)), some (Sum.inl (E b)), some (Sum.inl (x3)), some (Sum.inl (E n)), some (Sum.inl (x5)), some (Sum.inl (E m)), some (Sum.inl (E (wor (kdA A r) (fgA A r) (pgA A b) (ndA A b) (sqS (kdA A r) (fgA A r) (pgA A b) (ndA A b) (c m))))), some (Sum.inl (E n)), u9'] [] μ' ∧ SB (fun c => c = 70) μ0 μ' ∧ (∃ S, MQr (gi μ' 70) A S) ∧ m < n ∧ ∀ i, i < n → wor (kdA A r) (fgA A r) (pgA A b) (ndA A b) (sqS (kdA A r) (fgA A r) (pgA A b) (ndA A b) (c i)) ≤ wor (kdA A r) (fgA A r) (pgA A b) (ndA A b) (sqS (kdA A r) (fgA A r) (pgA A b) (ndA A b) (c m)) := by
  have b4 : b < 4 := by have := hw.1; omega
  obtain ⟨v1, v2, v3, v4, v5, v6⟩ := hw.2.2.1 b hb
  obtain ⟨k1, k2⟩ := hw.2.2.2.2 r hr
  intro k
  induction k with
  | zero =>
    intro j μ best v u9 hj h0 hs hM hc
    have : j = n := by omega
    subst this
    rcases hc with hc | ⟨m, q1, rfl, rfl, q4⟩
    · omega
    · refine ⟨μ, m, u9, ?_, hs, hM, q1, q4⟩
      rw [st205_29]
      simp only [st205_30, st205_31, st205_32, st205_33, st205_34, st205_35, st205_36, st205_37, st205_38, st205_39, st205_40, st205_41, st205_42, st205_43, st205_44, st205_45, st205_46, st205_47, st205_48, st205_49, st205_50, st205_51, st205_52, st205_53, Int32.le_refl, if_true]
  | succ k ih =>
    intro j μ best v u9 hj h0 hs hM hc
    have hm1 := hm.sb hs
    have hm2 := hm1
    have cx : ¬ E n ≤ E j := by rw [E_le (by omega) (by omega)]; omega
    have g82 : gi μ 82 j = E (sqS (kdA A r) (fgA A r) (pgA A b) (ndA A b) (c j)) := by rw [hs.2.2.2.2.2.2 82 (by omega)]; exact hv j (by omega)
    obtain ⟨S, hM⟩ := hM
    have hM2 := hM.st hw hb (sqS_lt (nd := ndA A b) k1 k2 v1 v2 (c j))
    have s1 : SB (fun c => c = 70) μ (seti μ 70 (4 + 18 * b) (E (sqS (kdA A r) (fgA A r) (pgA A b) (ndA A b) (c j)))) := SB.se rfl
    have f1 := fun d => f145 (d := d) (v := E (sqS (kdA A r) (fgA A r) (pgA A b) (ndA A b) (c j))) b4 hm2
    generalize seti μ 70 (4 + 18 * b) (E (sqS (kdA A r) (fgA A r) (pgA A b) (ndA A b) (c j))) = μ1 at *
    have hm3 := hm2.sb s1
    have f2 := fun d => f158 (d := d) hm3 (hM2.rd hw hr) (hM2.bk hw hb)
    have e9 : up1 S b (sqS (kdA A r) (fgA A r) (pgA A b) (ndA A b) (c j)) b = sqS (kdA A r) (fgA A r) (pgA A b) (ndA A b) (c j) := by rw [up1, if_pos rfl]
    simp only [e9] at f2
    have p1 : E j + 1 = E (j + 1) := E_add j 1
    have wl := fun i => wor_lt (k := kdA A r) (f := fgA A r) (pg := pgA A b) (nd := ndA A b) (S := sqS (kdA A r) (fgA A r) (pgA A b) (ndA A b) (c i)) k2
    by_cases cv : v < E (wor (kdA A r) (fgA A r) (pgA A b) (ndA A b) (sqS (kdA A r) (fgA A r) (pgA A b) (ndA A b) (c j)))
    · obtain ⟨μ', m, u9', y1, y2, y3, y4⟩ := ih (j + 1) μ1 (E j) _ (some (Sum.inl (E (wor (kdA A r) (fgA A r) (pgA A b) (ndA A b) (sqS (kdA A r) (fgA A r) (pgA A b) (ndA A b) (c j)))))) (by omega) h0 (hs.tr s1) ⟨_, hM2⟩ (Or.inr ⟨j, by omega, rfl, rfl, fun i hi => by
        by_cases e : i = j
        · rw [e]; exact Nat.le_refl _
        · rcases hc with hc | ⟨m, q1, q2, q3, q4⟩
          · omega
          · have := q4 i (by omega)
            rw [q3, E_lt (by have := wl m; omega) (by have := wl j; omega)] at cv
            omega⟩)
      refine ⟨μ', m, u9', ?_, y2, y3, y4⟩
      obtain ⟨m1, m2, m3, m4, m5, m6, m7, m8, m9, m10, m11, m12, m13, m14, ⟨t0, t1, t2, t3, t4, t5, t6, t7, t8, t9, t10, t11, t12⟩, l0, l1, l2, l3, l4, l5, l6, l7, l8, l9, l10, l11, l12⟩ := hm1
      rw [st205_29]
      simp only [st205_30, st205_31, st205_32, st205_33, st205_34, st205_35, st205_36, st205_37, st205_38, st205_39, st205_40, st205_41, st205_42, st205_43, st205_44, st205_45, st205_46, st205_47, st205_48, st205_49, st205_50, st205_51, st205_52, st205_53, cx, m1, m14, t12, l12, E_ge0 (show j < 1000 by omega), E_n (show j < 1000 by omega), show j < 10 by omega, g82, f1, hm3.1, f2, cv, p1, aft_some, Option.toList_some, Option.toList_none, List.cons_append, List.nil_append, br0, br1, br2, br3, zr01, zr02, n10, n01, ne_eq, not_true_eq_false, not_false_eq_true, if_true, if_false, true_and, and_true, and_self]
      exact y1
    · obtain ⟨μ', m, u9', y1, y2, y3, y4⟩ := ih (j + 1) μ1 best v (some (Sum.inl (E (wor (kdA A r) (fgA A r) (pgA A b) (ndA A b) (sqS (kdA A r) (fgA A r) (pgA A b) (ndA A b) (c j)))))) (by omega) h0 (hs.tr s1) ⟨_, hM2⟩ (by
        rcases hc with hc | ⟨m, q1, q2, q3, q4⟩
        · exfalso
          rw [hc.2] at cv
          have := E_nonneg (a := wor (kdA A r) (fgA A r) (pgA A b) (ndA A b) (sqS (kdA A r) (fgA A r) (pgA A b) (ndA A b) (c j))) (by have := wl j; omega)
          exact cv (Int32.lt_of_lt_of_le (by decide : (-1 : Int32) < 0) this)
        · refine Or.inr ⟨m, by omega, q2, q3, fun i hi => ?_⟩
          by_cases e : i = j
          · rw [q3, E_lt (by have := wl m; omega) (by have := wl j; omega)] at cv
            rw [e]; omega
          · exact q4 i (by omega))
      refine ⟨μ', m, u9', ?_, y2, y3, y4⟩
      obtain ⟨m1, m2, m3, m4, m5, m6, m7, m8, m9, m10, m11, m12, m13, m14, ⟨t0, t1, t2, t3, t4, t5, t6, t7, t8, t9, t10, t11, t12⟩, l0, l1, l2, l3, l4, l5, l6, l7, l8, l9, l10, l11, l12⟩ := hm1
      rw [st205_29]
      simp only [st205_30, st205_31, st205_32, st205_33, st205_34, st205_35, st205_36, st205_37, st205_38, st205_39, st205_40, st205_41, st205_42, st205_43, st205_44, st205_45, st205_46, st205_47, st205_48, st205_49, st205_50, st205_51, st205_52, st205_53, cx, m1, m14, t12, l12, E_ge0 (show j < 1000 by omega), E_n (show j < 1000 by omega), show j < 10 by omega, g82, f1, hm3.1, f2, cv, p1, aft_some, Option.toList_some, Option.toList_none, List.cons_append, List.nil_append, br0, br1, br2, br3, zr01, zr02, n10, n01, ne_eq, not_true_eq_false, not_false_eq_true, if_true, if_false, true_and, and_true, and_self]
      exact y1
theorem f205_c {d r b n x : Nat} {A : AT} {μ0 : SMem} (hm : MA μ0) (hw : WF A) (hr : r < rcA A) (hb : b < bcA A) (hn : n < 10) (h0 : 0 < n) (hx : x < 41) : ∀ k i (μ : SMem) (c : Nat → Nat) (u6 u7 u8 u9 : Option SV), i + k = x → SB (fun c => c = 70 ∨ c = 82) μ0 μ → (∃ S, MQr (gi μ 70) A S) → (∀ i, i < n → gi μ 82 i = E (sqS (kdA A r) (fgA A r) (pgA A b) (ndA A b) (c i))) → smF c n = i → (∀ i, i < n → ∀ j, j < c i → wor (kdA A r) (fgA A r) (pgA A b) (ndA A b) (sqS (kdA A r) (fgA A r) (pgA A b) (ndA A b) j) ≠ 0) → ∃ μ', rn (d + 5) 205 20 [some (Sum.inr (Sum.inl (69))), some (Sum.inl (E r)), some (Sum.inl (E b)), some (Sum.inl (E x)), some (Sum.inl (E n)), some (Sum.inl (E i)), u6, u7, u8, u9] [] μ = some (Sum.inl (some (Sum.inl (if x ≤ n * lsc (kdA A r) (fgA A r) (pgA A b) (ndA A b) (2 ^ pgA A b - 1) x then 1 else 0))), μ') ∧ SB (fun c => c = 70 ∨ c = 82) μ0 μ' := by
  have b4 : b < 4 := by have := hw.1; omega
  obtain ⟨v1, v2, v3, v4, v5, v6⟩ := hw.2.2.1 b hb
  obtain ⟨k1, k2⟩ := hw.2.2.2.2 r hr
  have hle := lsc_le (k := kdA A r) (f := fgA A r) (pg := pgA A b) (nd := ndA A b) x (2 ^ pgA A b - 1)
  have hpos := fun j => lsc_pos (k := kdA A r) (f := fgA A r) (pg := pgA A b) (nd := ndA A b) x 0 j
  have hz := lsc_z (k := kdA A r) (f := fgA A r) (pg := pgA A b) (nd := ndA A b) x 0
  simp only [show sqS (kdA A r) (fgA A r) (pgA A b) (ndA A b) 0 = 2 ^ pgA A b - 1 from rfl, Nat.zero_add] at hpos hz
  generalize lsc (kdA A r) (fgA A r) (pgA A b) (ndA A b) (2 ^ pgA A b - 1) x = s at *
  intro k
  induction k with
  | zero =>
    intro i μ c u6 u7 u8 u9 hi hs hM hv hsum hp
    have : i = x := by omega
    subst this
    have hc : i ≤ n * s := by
      by_cases e : s < i
      · have hz' := hz e
        rw [← hsum]
        refine smF_le n fun a ha => ?_
        by_cases q : s < c a
        · exact absurd hz' (hp a ha s q)
        · omega
      · have : i ≤ s := by omega
        exact Nat.le_trans this (Nat.le_mul_of_pos_left s h0)
    refine ⟨μ, ?_, hs⟩
    rw [st205_20]
    simp only [st205_21, st205_22, st205_23, st205_24, st205_25, st205_26, st205_27, st205_28, st205_29, st205_30, st205_31, st205_32, st205_33, st205_34, st205_35, st205_36, st205_37, st205_38, st205_39, st205_40, st205_41, st205_42, st205_43, st205_44, st205_45, st205_46, st205_47, st205_48, st205_49, st205_50, st205_51, st205_52, st205_53, st205_54, st205_55, st205_56, st205_57, st205_58, st205_59, st205_60, st205_61, st205_62, st205_63, st205_64, st205_65, st205_66, st205_67, st205_68, st205_69, st205_70, st205_71, st205_72, st205_73, st205_74, st205_75, st205_76, st205_77, st205_78, st205_79, st205_80, Int32.le_refl, hc, or_true, aft_some, Option.toList_some, Option.toList_none, List.cons_append, List.nil_append, br0, br1, br2, br3, zr01, zr02, n10, n01, ne_eq, not_true_eq_false, not_false_eq_true, if_true, if_false, true_and, and_true, and_self]
  | succ k ih =>
    intro i μ c u6 u7 u8 u9 hi hs hM hv hsum hp
    have hm1 := hm.sb hs
    obtain ⟨μ1, m, u9', z1, z2, ⟨S, z3⟩, z4, z5⟩ := f205_b (d := d) (x3 := E x) (x5 := E i) hm1 hw hr hb hn hv n 0 μ 0 (-1) u9 (by omega) h0 SB.rf hM (Or.inl ⟨rfl, rfl⟩)
    have cx : ¬ E x ≤ E i := by rw [E_le (by omega) (by omega)]; omega
    have wl := fun j => wor_lt (k := kdA A r) (f := fgA A r) (pg := pgA A b) (nd := ndA A b) (S := sqS (kdA A r) (fgA A r) (pgA A b) (ndA A b) j) k2
    by_cases cw : wor (kdA A r) (fgA A r) (pgA A b) (ndA A b) (sqS (kdA A r) (fgA A r) (pgA A b) (ndA A b) (c m)) = 0
    · have hc : ¬ x ≤ n * s := by
        have : n * s ≤ smF c n := by
          refine smF_ge n fun a ha => ?_
          by_cases q : c a < s
          · have h1 := z5 a ha
            have h2 := hpos (c a) q
            omega
          · omega
        omega
      refine ⟨μ1, ?_, hs.tr (z2.wk (fun c e => Or.inl e))⟩
      rw [st205_20]
      simp only [st205_21, st205_22, st205_23, st205_24, st205_25, st205_26, st205_27, st205_28, cx, if_false]
      refine z1.trans ?_
      simp only [st205_54, st205_55, st205_56, st205_57, cw, hc, show ((0 : Int32) < E 0) = False from eq_false (by decide), true_or, aft_some, Option.toList_some, Option.toList_none, List.cons_append, List.nil_append, br0, br1, br2, br3, zr01, zr02, n10, n01, ne_eq, not_true_eq_false, not_false_eq_true, if_true, if_false, true_and, and_true, and_self]
    · have hm2 := hm1.sb z2
      have hM2 := z3.st hw hb (sqS_lt (nd := ndA A b) k1 k2 v1 v2 (c m))
      have s1 : SB (fun c => c = 70) μ1 (seti μ1 70 (4 + 18 * b) (E (sqS (kdA A r) (fgA A r) (pgA A b) (ndA A b) (c m)))) := SB.se rfl
      have f1 := fun d => f145 (d := d) (v := E (sqS (kdA A r) (fgA A r) (pgA A b) (ndA A b) (c m))) b4 hm2
      have g82 : gi μ1 82 m = E (sqS (kdA A r) (fgA A r) (pgA A b) (ndA A b) (c m)) := by rw [z2.2.2.2.2.2.2 82 (by omega)]; exact hv m z4
      generalize seti μ1 70 (4 + 18 * b) (E (sqS (kdA A r) (fgA A r) (pgA A b) (ndA A b) (c m))) = μ2 at *
      have hm3 := hm2.sb s1
      obtain ⟨μ3, a1, a2, a3⟩ := f162m (d := d) hm3 hw hM2 hr hb
      have hm4 := hm3.sb a2
      have e9 : gi μ3 70 (4 + 18 * b) = E (sqS (kdA A r) (fgA A r) (pgA A b) (ndA A b) (c m + 1)) := by
        rw [(a3.2.2.1 b hb).2.1]
        show E (up1 _ b (lft _ _ _ _ (up1 S b _ b)) b) = _
        rw [up1, if_pos rfl, up1, if_pos rfl, sqS_s]
      have s4 : SB (fun c => c = 82) μ3 (seti μ3 82 m (E (sqS (kdA A r) (fgA A r) (pgA A b) (ndA A b) (c m + 1)))) := SB.se rfl
      have h70 : SB (fun c => c = 70) μ μ3 := z2.tr (s1.tr a2)
      obtain ⟨μ', y1, y2⟩ := ih (i + 1) (seti μ3 82 m (E (sqS (kdA A r) (fgA A r) (pgA A b) (ndA A b) (c m + 1)))) (up1 c m (c m + 1)) (some (Sum.inl (E m))) (some (Sum.inl (E (wor (kdA A r) (fgA A r) (pgA A b) (ndA A b) (sqS (kdA A r) (fgA A r) (pgA A b) (ndA A b) (c m)))))) (some (Sum.inl (E (wrS A (up1 S b (sqS (kdA A r) (fgA A r) (pgA A b) (ndA A b) (c m))) r b)))) u9' (by omega) (hs.tr ((h70.wk (fun c e => Or.inl e)).tr (s4.wk (fun c e => Or.inr e)))) ⟨_, by rw [s4.2.2.2.2.2.2 70 (by omega)]; exact a3⟩ (fun a ha => by
        rw [gi_seti]
        by_cases e : a = m
        · rw [if_pos ⟨rfl, e⟩, up1, if_pos e]
        · rw [if_neg (fun h => e h.2), up1, if_neg e, h70.2.2.2.2.2.2 82 (by omega)]; exact hv a ha) (by rw [smF_up n z4, hsum]) (fun a ha j hj => by
        by_cases e : a = m
        · rw [up1, if_pos e] at hj
          by_cases q : j = c m
          · rw [q]; exact cw
          · exact hp m z4 j (by omega)
        · rw [up1, if_neg e] at hj; exact hp a ha j hj)
      refine ⟨μ', ?_, y2⟩
      rw [st205_20]
      simp only [st205_21, st205_22, st205_23, st205_24, st205_25, st205_26, st205_27, st205_28, cx, if_false]
      refine z1.trans ?_
      have cp := E_pos (wl (c m))
      obtain ⟨q1, _, _, _, _, _, _, _, _, _, _, _, _, q14, ⟨_, _, _, _, _, _, _, _, _, _, _, _, w12⟩, _, _, _, _, _, _, _, _, _, _, _, _, x12⟩ := hm2
      obtain ⟨p1, _, _, _, _, _, _, _, _, _, _, _, _, p14, ⟨_, _, _, _, _, _, _, _, _, _, _, _, y12⟩, _, _, _, _, _, _, _, _, _, _, _, _, z12⟩ := id hm4
      simp only [st205_54, st205_55, st205_56, st205_57, st205_58, st205_59, st205_60, st205_61, st205_62, st205_63, st205_64, st205_65, st205_66, st205_67, st205_68, st205_69, st205_70, st205_71, st205_72, st205_73, st205_74, st205_75, st205_76, st205_77, st205_78, cp, cw, q1, q14, w12, x12, E_ge0 (show m < 1000 by omega), E_n (show m < 1000 by omega), show m < 10 by omega, g82, f1, hm3.1, a1, p1, p14, y12, z12, f144 b4 hm4, e9, show E i + 1 = E (i + 1) from E_add i 1, aft_some, Option.toList_some, Option.toList_none, List.cons_append, List.nil_append, br0, br1, br2, br3, zr01, zr02, n10, n01, ne_eq, not_true_eq_false, not_false_eq_true, if_true, if_false, true_and, and_true, and_self]
      exact y1
theorem f205 {d r b n x : Nat} {A : AT} {S : Nat → Nat} {μ : SMem} (hm : MA μ) (hw : WF A) (hM : MQr (gi μ 70) A S) (hr : r < rcA A) (hb : b < bcA A) (hn : n < 10) (h0 : 0 < n) (hx : x < 41) : ∃ μ', cl (d + 5) 205 [Sum.inr (Sum.inl (69)), Sum.inl (E r), Sum.inl (E b), Sum.inl (E x), Sum.inl (E n)] μ = some (Sum.inl (some (Sum.inl (if x ≤ n * lsc (kdA A r) (fgA A r) (pgA A b) (ndA A b) (2 ^ pgA A b - 1) x then 1 else 0))), μ') ∧ SB (fun c => c = 70 ∨ c = 82) μ μ' := by
  obtain ⟨μ1, a1, a2, a3⟩ := f205_a (d := d) (r := r) (x3 := E x) hm hw hM hb hn n 0 μ (by omega) SB.rf (fun j hj => by omega)
  obtain ⟨μ', b1, b2⟩ := f205_c (d := d) (hm.sb a2) hw hr hb hn h0 hx x 0 μ1 (fun _ => 0) none none none none (by omega) SB.rf ⟨S, by rw [a2.2.2.2.2.2.2 70 (by omega)]; exact hM⟩ (fun i hi => a3 i hi) (smF_0 n) (fun i _ j hj => absurd hj (Nat.not_lt_zero j))
  refine ⟨μ', ?_, (a2.wk (fun c e => Or.inr e)).tr b2⟩
  show rn (d + 5) 205 0 [some (Sum.inr (Sum.inl (69))), some (Sum.inl (E r)), some (Sum.inl (E b)), some (Sum.inl (E x)), some (Sum.inl (E n)), none, none, none, none, none] [] μ = _
  simp only [st205_0, st205_1]
  refine a1.trans ?_
  simp only [st205_18, st205_19]
  exact b1
