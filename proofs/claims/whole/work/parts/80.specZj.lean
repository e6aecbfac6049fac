/-! SPECS ZJ: the best order, the class -/
theorem chk0 : ∀ n, n < 7 → (match dfsL n n [] 0 with | [] => false | l :: _ => (List.range n).all fun j => oL l j == j) = true := by decide +kernel
def stp (A : AT) (b : Nat) (el : Nat → Int32) (n : Nat) (s : Int32 × Nat) (l : List Nat) : Int32 × Nat := if s.1 < E (prF A b el (oL l) n).1 then (E (prF A b el (oL l) n).1, dgF (oL l) n 0) else s
theorem all_r {n : Nat} {f : Nat → Bool} (h : (List.range n).all f = true) : ∀ j, j < n → f j = true := fun j hj => List.all_eq_true.mp h j (List.mem_range.mpr hj)
theorem chk_lt {n : Nat} {l : List Nat} {rest : List (List Nat)} (h : chk n (l :: rest) = true) : ∀ j, j < n → oL l j < n := by
  unfold chk at h
  rw [Bool.and_eq_true] at h
  exact fun j hj => of_decide_eq_true (all_r h.1 j hj)
theorem chk_e {n : Nat} {l : List Nat} (h : chk n [l] = true) : (nxt n (oL l)).1 = 0 := by
  unfold chk at h
  rw [Bool.and_eq_true] at h
  exact eq_of_beq h.2
theorem chk_n {n : Nat} {l l' : List Nat} {rest : List (List Nat)} (h : chk n (l :: l' :: rest) = true) : (nxt n (oL l)).1 ≠ 0 ∧ (∀ j, j < n → (nxt n (oL l)).2 j = oL l' j) ∧ (∀ j, j < (nxt n (oL l)).1 - 1 → oL l' j = oL l j) ∧ chk n (l' :: rest) = true := by
  unfold chk at h
  rw [Bool.and_eq_true] at h
  have h2 := h.2
  simp only [Bool.and_eq_true] at h2
  obtain ⟨⟨⟨a, b⟩, c⟩, e⟩ := h2
  exact ⟨fun q => by rw [q] at a; exact absurd a (by decide), fun j hj => eq_of_beq (all_r b j hj), fun j hj => eq_of_beq (all_r c j hj), e⟩
theorem nxt_le {n : Nat} {o : Nat → Nat} : (nxt n o).1 ≤ n - 1 := by
  unfold nxt
  have := pvt_le (o := o) (n - 1)
  split
  · exact Nat.zero_le _
  · exact this
theorem f128 {d e b n fr : Nat} {A : AT} {H : HT} {o : Nat → Nat} {μ : SMem} (he : e < 8) (h : Both μ A) (hH : HWF H) (hC : ShC μ e H) (hk : hkt H = 2) (hsn : hsz H = n) (hn : n < 7) (hb : b < bcA A) (hok : ∀ i, i < n → ∃ r, r < rcA A ∧ hel H i = E r) (hv : ∀ j, j < n → gi μ 50 j = E (o j)) (ho : ∀ j, j < n → o j < n) (hf : fr ≤ n) (hp : ∀ j, j ≤ fr → gi μ 51 j = E (prF A b (hel H) o j).2 ∧ gi μ 52 j = E (prF A b (hel H) o j).1) : ∃ μ', cl (d + 5) 128 [Sum.inr (Sum.inl (2)), Sum.inl (E fr), Sum.inl (E n), Sum.inr (Sum.inl (53 + 2 * e)), Sum.inr (Sum.inl (3 + 3 + 3 * b))] μ = some (Sum.inl none, μ') ∧ SB (fun c => c = 51 ∨ c = 52) μ μ' ∧ (∀ j, j ≤ n → gi μ' 51 j = E (prF A b (hel H) o j).2 ∧ gi μ' 52 j = E (prF A b (hel H) o j).1) := by
  obtain ⟨μ', y1, y2, y3⟩ := f128_lp (d := d) (x1 := E fr) he h hH hC hk hsn hn hb hok hv ho (n - fr) fr μ none (by omega) SB.rf hp
  refine ⟨μ', ?_, y2, y3⟩
  show rn (d + 5) 128 0 [some (Sum.inr (Sum.inl (2))), some (Sum.inl (E fr)), some (Sum.inl (E n)), some (Sum.inr (Sum.inl (53 + 2 * e))), some (Sum.inr (Sum.inl (3 + 3 + 3 * b))), none, none] [] μ = _
  simp only [st128_0, st128_1, st128_2, st128_3, f225, E_lt0 (show fr < 1000 by omega), aft_some, Option.toList_some, Option.toList_none, List.cons_append, List.nil_append, br0, br1, br2, br3, zr01, zr02, n10, n01, ne_eq, not_true_eq_false, not_false_eq_true, if_true, if_false, true_and, and_true, and_self]
  exact y1
theorem f127_b {d e b n : Nat} {A : AT} {H : HT} {z : Int32} {μ0 : SMem} (he : e < 8) (h : Both μ0 A) (hH : HWF H) (hC : ShC μ0 e H) (hk : hkt H = 2) (hsn : hsz H = n) (hn : n < 7) (hb : b < bcA A) (hok : ∀ i, i < n → ∃ r, r < rcA A ∧ hel H i = E r) : ∀ (rest : List (List Nat)) (l : List Nat) (i : Nat) (μ : SMem) (best : Int32) (dig fr : Nat), i + rest.length < 720 → chk n (l :: rest) = true → fr ≤ n → SB (fun c => c = 50 ∨ c = 51 ∨ c = 52) μ0 μ → (∀ j, j < n → gi μ 50 j = E (oL l j)) → (∀ j, j ≤ fr → gi μ 51 j = E (prF A b (hel H) (oL l) j).2 ∧ gi μ 52 j = E (prF A b (hel H) (oL l) j).1) → ∃ μ', rn (d + 6) 127 36 [some (Sum.inr (Sum.inl (2))), some (Sum.inr (Sum.inl (53 + 2 * e))), some (Sum.inr (Sum.inl (3 + 3 + 3 * b))), some (Sum.inl (z)), some (Sum.inl (E n)), some (Sum.inl (best)), some (Sum.inl (E dig)), some (Sum.inl (E fr)), some (Sum.inl (E i))] [] μ = some (Sum.inl (some (Sum.inl (if z = 0 then ((l :: rest).foldl (stp A b (hel H) n) (best, dig)).1 else E ((l :: rest).foldl (stp A b (hel H) n) (best, dig)).2))), μ') ∧ SB (fun c => c = 50 ∨ c = 51 ∨ c = 52) μ0 μ' := by
  intro rest
  induction rest with
  | nil =>
    intro l i μ best dig fr hi hch hfr hs hv hp
    have hB := h.tw hs (fun c e => by omega)
    have hC1 := hC.sb hH hs (fun c e9 => ⟨by omega, by omega, scr_tag h (by unfold Scr; omega)⟩)
    have ho := chk_lt hch
    obtain ⟨μ1, a1, a2, a3⟩ := f128 (d := d) he hB hH hC1 hk hsn hn hb hok hv ho hfr hp
    have hc1 := hB.2.1.sb a2
    have hv1 : ∀ j, j < n → gi μ1 50 j = E (oL l j) := fun j hj => by rw [a2.2.2.2.2.2.2 50 (by omega)]; exact hv j hj
    obtain ⟨μ2, b1, b2, b3⟩ := f130 (d := d + 4) hc1 hn hv1 ho
    rw [if_pos (chk_e hch)] at b1
    have e129 := fun d => f129 (d := d) hc1 hn hv1
    have hs2 : SB (fun c => c = 50 ∨ c = 51 ∨ c = 52) μ0 μ2 := hs.tr ((a2.wk (fun c e => by omega)).tr (b2.wk (fun c e => by omega)))
    have e52 := (a3 n (Nat.le_refl n)).2
    have cx : ¬ (720 : Int32) ≤ E i := by rw [show (720 : Int32) = E 720 from rfl, E_le (by decide) (by simp at hi; omega)]; simp at hi; omega
    have m4 : ((-4 : Int32) < 0) = True := eq_true (by decide)
    refine ⟨μ2, ?_, hs2⟩
    obtain ⟨c1, c2, c3, c4, c5, c6, c7, c8, c9, ⟨t1, t2, t3, t4, t5⟩, ⟨q1, q2, q3, q4, q5⟩, _⟩ := hc1
    have fin : ∀ (best : Int32) (dig : Nat), rn (d + 6) 127 36 [some (Sum.inr (Sum.inl (2))), some (Sum.inr (Sum.inl (53 + 2 * e))), some (Sum.inr (Sum.inl (3 + 3 + 3 * b))), some (Sum.inl (z)), some (Sum.inl (E n)), some (Sum.inl (best)), some (Sum.inl (E dig)), some (Sum.inl (-4)), some (Sum.inl (E (i + 1)))] [] μ2 = some (Sum.inl (some (Sum.inl (if z = 0 then best else E dig))), μ2) := by
      intro best dig
      rw [st127_36]
      by_cases z0 : z = 0
      · by_cases c : (720 : Int32) ≤ E (i + 1)
        · simp only [st127_37, st127_38, st127_39, st127_40, st127_41, st127_42, st127_43, st127_44, st127_45, st127_46, st127_47, st127_48, st127_49, st127_50, st127_51, st127_52, st127_53, st127_54, st127_55, st127_56, st127_57, st127_58, st127_59, st127_60, st127_61, st127_62, st127_63, st127_64, st127_65, st127_66, st127_67, st127_68, st127_69, st127_70, st127_71, st127_72, st127_73, c, z0, aft_some, Option.toList_some, Option.toList_none, List.cons_append, List.nil_append, br0, br1, br2, br3, zr01, zr02, n10, n01, ne_eq, not_true_eq_false, not_false_eq_true, if_true, if_false, true_and, and_true, and_self]
        · simp only [st127_37, st127_38, st127_39, st127_40, st127_41, st127_42, st127_43, st127_44, st127_45, st127_46, st127_47, st127_48, st127_49, st127_50, st127_51, st127_52, st127_53, st127_54, st127_55, st127_56, st127_57, st127_58, st127_59, st127_60, st127_61, st127_62, st127_63, st127_64, st127_65, st127_66, st127_67, st127_68, st127_69, st127_70, st127_71, st127_72, st127_73, c, m4, z0, aft_some, Option.toList_some, Option.toList_none, List.cons_append, List.nil_append, br0, br1, br2, br3, zr01, zr02, n10, n01, ne_eq, not_true_eq_false, not_false_eq_true, if_true, if_false, true_and, and_true, and_self]
      · by_cases c : (720 : Int32) ≤ E (i + 1)
        · simp only [st127_37, st127_38, st127_39, st127_40, st127_41, st127_42, st127_43, st127_44, st127_45, st127_46, st127_47, st127_48, st127_49, st127_50, st127_51, st127_52, st127_53, st127_54, st127_55, st127_56, st127_57, st127_58, st127_59, st127_60, st127_61, st127_62, st127_63, st127_64, st127_65, st127_66, st127_67, st127_68, st127_69, st127_70, st127_71, st127_72, st127_73, c, z0, aft_some, Option.toList_some, Option.toList_none, List.cons_append, List.nil_append, br0, br1, br2, br3, zr01, zr02, n10, n01, ne_eq, not_true_eq_false, not_false_eq_true, if_true, if_false, true_and, and_true, and_self]
        · simp only [st127_37, st127_38, st127_39, st127_40, st127_41, st127_42, st127_43, st127_44, st127_45, st127_46, st127_47, st127_48, st127_49, st127_50, st127_51, st127_52, st127_53, st127_54, st127_55, st127_56, st127_57, st127_58, st127_59, st127_60, st127_61, st127_62, st127_63, st127_64, st127_65, st127_66, st127_67, st127_68, st127_69, st127_70, st127_71, st127_72, st127_73, c, m4, z0, aft_some, Option.toList_some, Option.toList_none, List.cons_append, List.nil_append, br0, br1, br2, br3, zr01, zr02, n10, n01, ne_eq, not_true_eq_false, not_false_eq_true, if_true, if_false, true_and, and_true, and_self]
    rw [List.foldl_cons, List.foldl_nil]
    unfold stp
    by_cases cb : best < E (prF A b (hel H) (oL l) n).1
    · rw [if_pos cb]
      have cb' : ¬ E (prF A b (hel H) (oL l) n).1 ≤ best := Int32.not_le.mpr cb
      rw [← fin]
      rw [st127_36]
      simp only [st127_37, st127_38, st127_39, st127_40, st127_41, st127_42, st127_43, st127_44, st127_45, st127_46, st127_47, st127_48, st127_49, st127_50, st127_51, st127_52, st127_53, st127_54, st127_55, st127_56, st127_57, st127_58, st127_59, st127_60, st127_61, st127_62, st127_63, st127_64, st127_65, st127_66, st127_67, cx, E_lt0 (show fr < 1000 by omega), hB.2.1.1, a1, c1, c9, t5, q5, alA, alB, alC, alD, alE, and_self, E_ge0 (show n < 1000 by omega), E_n (show n < 1000 by omega), hn, e52, cb', e129, b1, show E i + 1 = E (i + 1) from E_add i 1, aft_some, Option.toList_some, Option.toList_none, List.cons_append, List.nil_append, br0, br1, br2, br3, zr01, zr02, n10, n01, ne_eq, not_true_eq_false, not_false_eq_true, if_true, if_false, true_and, and_true, and_self]
    · rw [if_neg cb]
      have cb' : E (prF A b (hel H) (oL l) n).1 ≤ best := Int32.not_lt.mp cb
      rw [← fin]
      rw [st127_36]
      simp only [st127_37, st127_38, st127_39, st127_40, st127_41, st127_42, st127_43, st127_44, st127_45, st127_46, st127_47, st127_48, st127_49, st127_50, st127_51, st127_52, st127_53, st127_54, st127_55, st127_56, st127_57, st127_58, st127_59, st127_60, st127_61, st127_62, st127_63, st127_64, st127_65, st127_66, st127_67, cx, E_lt0 (show fr < 1000 by omega), hB.2.1.1, a1, c1, c9, t5, q5, alA, alB, alC, alD, alE, and_self, E_ge0 (show n < 1000 by omega), E_n (show n < 1000 by omega), hn, e52, cb', b1, show E i + 1 = E (i + 1) from E_add i 1, aft_some, Option.toList_some, Option.toList_none, List.cons_append, List.nil_append, br0, br1, br2, br3, zr01, zr02, n10, n01, ne_eq, not_true_eq_false, not_false_eq_true, if_true, if_false, true_and, and_true, and_self]
  | cons l' rest ih =>
    intro l i μ best dig fr hi hch hfr hs hv hp
    have hB := h.tw hs (fun c e => by omega)
    have hC1 := hC.sb hH hs (fun c e9 => ⟨by omega, by omega, scr_tag h (by unfold Scr; omega)⟩)
    have ho := chk_lt hch
    obtain ⟨n1, n2, n3, n4⟩ := chk_n hch
    have nle := nxt_le (n := n) (o := oL l)
    obtain ⟨μ1, a1, a2, a3⟩ := f128 (d := d) he hB hH hC1 hk hsn hn hb hok hv ho hfr hp
    have hc1 := hB.2.1.sb a2
    have hv1 : ∀ j, j < n → gi μ1 50 j = E (oL l j) := fun j hj => by rw [a2.2.2.2.2.2.2 50 (by omega)]; exact hv j hj
    obtain ⟨μ2, b1, b2, b3⟩ := f130 (d := d + 4) hc1 hn hv1 ho
    rw [if_neg n1] at b1
    have e129 := fun d => f129 (d := d) hc1 hn hv1
    have hs2 : SB (fun c => c = 50 ∨ c = 51 ∨ c = 52) μ0 μ2 := hs.tr ((a2.wk (fun c e => by omega)).tr (b2.wk (fun c e => by omega)))
    have e52 := (a3 n (Nat.le_refl n)).2
    rw [List.length_cons] at hi
    have cx : ¬ (720 : Int32) ≤ E i := by rw [show (720 : Int32) = E 720 from rfl, E_le (by decide) (by omega)]; omega
    have ihs := fun best dig => ih l' (i + 1) μ2 best dig ((nxt n (oL l)).1 - 1) (by omega) n4 (by omega) hs2 (fun j hj => by rw [b3 j hj, n2 j hj]) (fun j hj => by
      rw [b2.2.2.2.2.2.2 51 (by omega), b2.2.2.2.2.2.2 52 (by omega), prF_cg (o := oL l) (o' := oL l') j (fun j' hj' => n3 j' (by omega))]
      exact a3 j (by omega))
    obtain ⟨c1, c2, c3, c4, c5, c6, c7, c8, c9, ⟨t1, t2, t3, t4, t5⟩, ⟨q1, q2, q3, q4, q5⟩, _⟩ := hc1
    rw [List.foldl_cons]
    by_cases cb : best < E (prF A b (hel H) (oL l) n).1
    · have cb' : ¬ E (prF A b (hel H) (oL l) n).1 ≤ best := Int32.not_le.mpr cb
      have es : stp A b (hel H) n (best, dig) l = (E (prF A b (hel H) (oL l) n).1, dgF (oL l) n 0) := by unfold stp; rw [if_pos cb]
      rw [es]
      obtain ⟨μ', y1, y2⟩ := ihs (E (prF A b (hel H) (oL l) n).1) (dgF (oL l) n 0)
      refine ⟨μ', ?_, y2⟩
      rw [st127_36]
      simp only [st127_37, st127_38, st127_39, st127_40, st127_41, st127_42, st127_43, st127_44, st127_45, st127_46, st127_47, st127_48, st127_49, st127_50, st127_51, st127_52, st127_53, st127_54, st127_55, st127_56, st127_57, st127_58, st127_59, st127_60, st127_61, st127_62, st127_63, st127_64, st127_65, st127_66, st127_67, cx, E_lt0 (show fr < 1000 by omega), hB.2.1.1, a1, c1, c9, t5, q5, alA, alB, alC, alD, alE, and_self, E_ge0 (show n < 1000 by omega), E_n (show n < 1000 by omega), hn, e52, cb', e129, b1, show E i + 1 = E (i + 1) from E_add i 1, aft_some, Option.toList_some, Option.toList_none, List.cons_append, List.nil_append, br0, br1, br2, br3, zr01, zr02, n10, n01, ne_eq, not_true_eq_false, not_false_eq_true, if_true, if_false, true_and, and_true, and_self]
      exact y1
    · have cb' : E (prF A b (hel H) (oL l) n).1 ≤ best := Int32.not_lt.mp cb
      have es : stp A b (hel H) n (best, dig) l = (best, dig) := by unfold stp; rw [if_neg cb]
      rw [es]
      obtain ⟨μ', y1, y2⟩ := ihs best dig
      refine ⟨μ', ?_, y2⟩
      rw [st127_36]
      simp only [st127_37, st127_38, st127_39, st127_40, st127_41, st127_42, st127_43, st127_44, st127_45, st127_46, st127_47, st127_48, st127_49, st127_50, st127_51, st127_52, st127_53, st127_54, st127_55, st127_56, st127_57, st127_58, st127_59, st127_60, st127_61, st127_62, st127_63, st127_64, st127_65, st127_66, st127_67, cx, E_lt0 (show fr < 1000 by omega), hB.2.1.1, a1, c1, c9, t5, q5, alA, alB, alC, alD, alE, and_self, E_ge0 (show n < 1000 by omega), E_n (show n < 1000 by omega), hn, e52, cb', b1, show E i + 1 = E (i + 1) from E_add i 1, aft_some, Option.toList_some, Option.toList_none, List.cons_append, List.nil_append, br0, br1, br2, br3, zr01, zr02, n10, n01, ne_eq, not_true_eq_false, not_false_eq_true, if_true, if_false, true_and, and_true, and_self]
      exact y1
theorem f127_a {d n a s : Nat} {z : Int32} {μ0 : SMem} (hc : CAo μ0) (hn : n < 7) : ∀ k i (μ : SMem), i + k = n → SB (fun c => c = 50) μ0 μ → (∀ j, j < i → gi μ 50 j = E j) → ∃ μ', rn d 127 7 [some (Sum.inr (Sum.inl (2))), some (Sum.inr (Sum.inl (s))), some (Sum.inr (Sum.inl (a))), some (Sum.inl (z)), some (Sum.inl (E n)), some (Sum.inl (E i)), none, none, none] [] μ = rn d 127 17 [some (Sum.inr (Sum.inl (2))), some (Sum.inr (Sum.inl (s))), some (Sum.inr (Sum.inl (a))), some (Sum.inl (z)), some (Sum.inl (E n)), some (Sum.inl (E n)), none, none, none] [] μ' ∧ SB (fun c => c = 50) μ0 μ' ∧ (∀ j, j < n → gi μ' 50 j = E j) := by
  intro k
  induction k with
  | zero =>
    intro i μ hi hs hj
    have : i = n := by omega
    subst this
    refine ⟨μ, ?_, hs, hj⟩
    rw [st127_7]
    simp only [st127_8, st127_9, st127_10, st127_11, st127_12, st127_13, st127_14, st127_15, st127_16, Int32.le_refl, if_true]
  | succ k ih =>
    intro i μ hi hs hj
    have hc1 := hc.sb hs
    have cx : ¬ E n ≤ E i := by rw [E_le (by omega) (by omega)]; omega
    obtain ⟨μ', y1, y2, y3⟩ := ih (i + 1) (seti μ 50 i (E i)) (by omega) (hs.tr (SB.se rfl)) (fun j hj9 => by
      rw [gi_seti]
      by_cases e : j = i
      · rw [if_pos ⟨rfl, e⟩, e]
      · rw [if_neg (fun h => e h.2)]; exact hj j (by omega))
    refine ⟨μ', ?_, y2, y3⟩
    obtain ⟨c1, c2, c3, c4, c5, c6, c7, c8, c9, ⟨t1, t2, t3, t4, t5⟩, ⟨q1, q2, q3, q4, q5⟩, _⟩ := hc1
    rw [st127_7]
    simp only [st127_8, st127_9, st127_10, st127_11, st127_12, st127_13, st127_14, st127_15, st127_16, cx, c1, c7, t3, q3, E_ge0 (show i < 1000 by omega), E_n (show i < 1000 by omega), show i < 6 by omega, show E i + 1 = E (i + 1) from E_add i 1, aft_some, Option.toList_some, Option.toList_none, List.cons_append, List.nil_append, br0, br1, br2, br3, zr01, zr02, n10, n01, ne_eq, not_true_eq_false, not_false_eq_true, if_true, if_false, true_and, and_true, and_self]
    exact y1
def bst (A : AT) (b : Nat) (el : Nat → Int32) (n : Nat) : Int32 × Nat := (dfsL n n [] 0).foldl (stp A b el n) (-1, 0)
theorem f127 {d e b n : Nat} {A : AT} {H : HT} {z : Int32} {μ : SMem} (he : e < 8) (h : Both μ A) (hH : HWF H) (hC : ShC μ e H) (hk : hkt H = 2) (hsn : hsz H = n) (hn : n < 7) (hb : b < bcA A) (hok : ∀ i, i < n → ∃ r, r < rcA A ∧ hel H i = E r) : ∃ μ', cl (d + 6) 127 [Sum.inr (Sum.inl (2)), Sum.inr (Sum.inl (53 + 2 * e)), Sum.inr (Sum.inl (3 + 3 + 3 * b)), Sum.inl (z)] μ = some (Sum.inl (some (Sum.inl (if z = 0 then (bst A b (hel H) n).1 else E (bst A b (hel H) n).2))), μ') ∧ SB (fun c => c = 50 ∨ c = 51 ∨ c = 52) μ μ' := by
  have hc := h.2.1
  have t8 := (hc.2.2.2.2.2.2.2.2.2.2.2 e he).2.1
  have b4 : b < 4 := by have := h.2.2.1.1; omega
  obtain ⟨μ1, a1, a2, a3⟩ := f127_a (d := d + 6) (a := 3 + 3 + 3 * b) (s := 53 + 2 * e) (z := z) hc hn n 0 μ (by omega) SB.rf (fun j hj => by omega)
  have hbk := (h.2.2.2.1.bk b4).1.1
  obtain ⟨u1, u2, u3, u4⟩ := h.2.2.2.1.2.2.2.2.1 b b4
  have g3 : gi μ1 (3 + 3 + 3 * b) 3 = E (inA A b) := by rw [a2.2.2.2.2.2.2 _ (by omega)]; exact u2
  have gt : tg μ1 (3 + 3 + 3 * b) = 1 := by rw [a2.1]; exact hbk
  have hs2 : SB (fun c => c = 50 ∨ c = 51 ∨ c = 52) μ (seti (seti μ1 51 0 (E (inA A b))) 52 0 0) := (a2.wk (fun c e => Or.inl e)).tr ((SB.se (Or.inr (Or.inl rfl))).tr (SB.se (Or.inr (Or.inr rfl))))
  have h0 := chk0 n hn
  have h1 := chk_ok n hn
  unfold bst
  cases hL : dfsL n n [] 0 with
  | nil => rw [hL] at h0; exact absurd (show false = true from h0) (by decide)
  | cons l rest =>
    rw [hL] at h0 h1
    have h0' : (List.range n).all (fun j => oL l j == j) = true := h0
    obtain ⟨μ', y1, y2⟩ := f127_b (d := d) (z := z) he h hH hC hk hsn hn hb hok rest l 0 (seti (seti μ1 51 0 (E (inA A b))) 52 0 0) (-1) 0 0 (by have := h1.2; rw [List.length_cons] at this; omega) h1.1 (Nat.zero_le n) hs2 (fun j hj => by
      rw [gi_seti, if_neg (by omega), gi_seti, if_neg (by omega), a3 j hj]
      congr 1
      exact (eq_of_beq (all_r h0' j hj)).symm) (fun j hj => by
      have : j = 0 := by omega
      subst this
      rw [gi_seti, if_neg (by omega), gi_seti, if_pos ⟨rfl, rfl⟩, gi_seti, if_pos ⟨rfl, rfl⟩]
      exact ⟨rfl, rfl⟩)
    refine ⟨μ', ?_, y2⟩
    have l6 : ((6 : Int32) < E n) = False := by rw [show (6 : Int32) = E 6 from rfl, E_ltE (by omega) (by omega)]; exact eq_false (by omega)
    have hc1 := hc.sb a2
    obtain ⟨c1, c2, c3, c4, c5, c6, c7, c8, c9, ⟨t1, t2, t3, t4, t5⟩, ⟨q1, q2, q3, q4, q5⟩, _⟩ := hc1
    show rn (d + 6) 127 0 [some (Sum.inr (Sum.inl (2))), some (Sum.inr (Sum.inl (53 + 2 * e))), some (Sum.inr (Sum.inl (3 + 3 + 3 * b))), some (Sum.inl (z)), none, none, none, none, none] [] μ = _
    simp only [st127_0, st127_1, st127_2, st127_3, st127_4, st127_5, st127_6, t8, (hC.2.1 hk).2.2.2, hsn, f226, l6, aft_some, Option.toList_some, Option.toList_none, List.cons_append, List.nil_append, br0, br1, br2, br3, zr01, zr02, n10, n01, ne_eq, not_true_eq_false, not_false_eq_true, if_true, if_false, true_and, and_true, and_self]
    refine a1.trans ?_
    simp only [st127_17, st127_18, st127_19, st127_20, st127_21, st127_22, st127_23, st127_24, st127_25, st127_26, st127_27, st127_28, st127_29, st127_30, st127_31, st127_32, st127_33, st127_34, st127_35, c1, c8, c9, t4, t5, q4, q5, gt, g3, gi_seti, gi_setr, gi_setl, gi_setrow, gr_seti, gr_setr, gr_setl, gr_setrow, gl_seti, gl_setr, gl_setl, gl_setrow, tg_seti, tg_setr, tg_setl, tg_setrow, ln_seti, ln_setr, ln_setl, ln_setrow, sz_seti, sz_setr, sz_setl, sz_setrow, sl_seti, sl_setr, sl_setl, sl_setrow, z00, zn0, show (0 : Nat) < 7 from by decide, aft_some, Option.toList_some, Option.toList_none, List.cons_append, List.nil_append, br0, br1, br2, br3, zr01, zr02, n10, n01, ne_eq, not_true_eq_false, not_false_eq_true, if_true, if_false, true_and, and_true, and_self]
    exact y1
