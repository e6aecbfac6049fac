/-! SPECS ZW: what a town's text does, in the mind -/
def adB (A : AT) (pg : Nat) : AT := ((bcA A + 1, rcA A, dyA A), up1 (pgA A) (bcA A) pg, up1 (inA A) (bcA A) (2 ^ pg - 1), up1 (ndA A) (bcA A) (fun _ => -4), up1 (hoA A) (bcA A) (fun _ => -4), kdA A, fgA A)
def ndB (A : AT) (b p q : Nat) : AT := ((bcA A, rcA A, dyA A), pgA A, inA A, up1 (ndA A) b (up1 (ndA A b) p (E q)), hoA A, kdA A, fgA A)
def loB (A : AT) (b p : Nat) : AT := ((bcA A, rcA A, dyA A), pgA A, up1 (inA A) b (clr (inA A b) p), ndA A, up1 (hoA A) b (up1 (hoA A b) p (-4)), kdA A, fgA A)
theorem adB_wf {A : AT} {pg : Nat} (hw : WF A) (hb : bcA A < 4) (h1 : 1 ≤ pg) (h2 : pg < 9) : WF (adB A pg) := by
  obtain ⟨w1, w2, w3, w4, w5⟩ := hw
  refine ⟨by show bcA A + 1 ≤ 4; omega, w2, fun b hb9 => ?_, fun b hb9 => ?_, w5⟩
  · have hb' : b < bcA A + 1 := hb9
    show 1 ≤ up1 (pgA A) (bcA A) pg b ∧ up1 (pgA A) (bcA A) pg b < 9 ∧ up1 (inA A) (bcA A) (2 ^ pg - 1) b < 2 ^ up1 (pgA A) (bcA A) pg b ∧ NdOK (up1 (ndA A) (bcA A) (fun _ => -4) b) ∧ (∀ p, p < 8 → (up1 (inA A) (bcA A) (2 ^ pg - 1) b).testBit p = true → up1 (hoA A) (bcA A) (fun _ => -4) b p = -4) ∧ ∀ p, p < 8 → up1 (hoA A) (bcA A) (fun _ => -4) b p = -4 ∨ ∃ r, r < rcA A ∧ up1 (hoA A) (bcA A) (fun _ => -4) b p = E r
    by_cases q : b = bcA A
    · simp only [up1, if_pos q]
      have := Nat.two_pow_pos pg
      exact ⟨h1, h2, by omega, fun p hp => Or.inl rfl, fun _ _ _ => trivial, fun p _ => Or.inl trivial⟩
    · simp only [up1, if_neg q]
      exact w3 b (by omega)
  · have hb' : bcA A + 1 ≤ b := hb9
    show up1 (pgA A) (bcA A) pg b = 0 ∧ up1 (inA A) (bcA A) (2 ^ pg - 1) b = 0
    simp only [up1, if_neg (show ¬ b = bcA A by omega)]
    exact w4 b (by omega)
theorem ndB_wf {A : AT} {b p q : Nat} (hw : WF A) (hq : q < p) : WF (ndB A b p q) := by
  obtain ⟨w1, w2, w3, w4, w5⟩ := hw
  refine ⟨w1, w2, fun b' hb' => ?_, w4, w5⟩
  obtain ⟨v1, v2, v3, v4, v5, v6⟩ := w3 b' hb'
  refine ⟨v1, v2, v3, ?_, v5, v6⟩
  show NdOK (up1 (ndA A) b (up1 (ndA A b) p (E q)) b')
  by_cases e : b' = b
  · subst e
    rw [up1, if_pos rfl]
    intro p' hp'
    by_cases e2 : p' = p
    · rw [up1, if_pos e2]; exact Or.inr ⟨q, by omega, rfl⟩
    · rw [up1, if_neg e2]; exact v4 p' hp'
  · rw [up1, if_neg e]; exact v4
theorem loB_wf {A : AT} {b p : Nat} (hw : WF A) (hp8 : p < 8) : WF (loB A b p) := by
  have hw0 := hw
  obtain ⟨w1, w2, w3, w4, w5⟩ := hw
  refine ⟨w1, w2, fun b' hb' => ?_, fun b' hb' => ?_, w5⟩
  · obtain ⟨v1, v2, v3, v4, v5, v6⟩ := w3 b' hb'
    show 1 ≤ pgA A b' ∧ pgA A b' < 9 ∧ up1 (inA A) b (clr (inA A b) p) b' < 2 ^ pgA A b' ∧ NdOK (ndA A b') ∧ (∀ p', p' < 8 → (up1 (inA A) b (clr (inA A b) p) b').testBit p' = true → up1 (hoA A) b (up1 (hoA A b) p (-4)) b' p' = -4) ∧ ∀ p', p' < 8 → up1 (hoA A) b (up1 (hoA A b) p (-4)) b' p' = -4 ∨ ∃ r, r < rcA A ∧ up1 (hoA A) b (up1 (hoA A b) p (-4)) b' p' = E r
    by_cases e : b' = b
    · subst e
      simp only [up1, if_pos]
      refine ⟨v1, v2, clr_lt2 _ v2 _ v3 p hp8, v4, fun p' hp' h => ?_, fun p' hp' => ?_⟩
      · split
        · rfl
        · rw [clr_bit _ (hw0.in9 b') p hp8 p' hp', Bool.and_eq_true] at h
          exact v5 p' hp' h.1
      · split
        · exact Or.inl rfl
        · exact v6 p' hp'
    · simp only [up1, if_neg e]
      exact ⟨v1, v2, v3, v4, v5, v6⟩
  · obtain ⟨v1, v2⟩ := w4 b' hb'
    refine ⟨v1, ?_⟩
    show up1 (inA A) b (clr (inA A b) p) b' = 0
    by_cases e : b' = b
    · subst e
      rw [up1, if_pos rfl, v2]
      unfold clr
      rw [Nat.zero_testBit]
      rfl
    · rw [up1, if_neg e]; exact v2
theorem TwC.ub {T b : Nat} {A A' : AT} {μ μ' : SMem} (h : TwC μ T A) (hw : WF A) (hs : SB (fun c => T + 3 + 3 * b ≤ c ∧ c ≤ T + 3 + 3 * b + 2 ∨ c = T) μ μ') (hb : b < 4) (e2 : gi μ' T 2 = E (bcA A')) (e3 : gi μ' T 3 = E (rcA A')) (e4 : gi μ' T 4 = dyA A') (er : rcA A' = rcA A) (ek : kdA A' = kdA A) (ef : fgA A' = fgA A) (eb : ∀ b', b' < 4 → b' ≠ b → pgA A' b' = pgA A b' ∧ inA A' b' = inA A b' ∧ ndA A' b' = ndA A b' ∧ hoA A' b' = hoA A b') (hbk : gi μ' (T + 3 + 3 * b) 2 = E (pgA A' b) ∧ gi μ' (T + 3 + 3 * b) 3 = E (inA A' b) ∧ (∀ p, p < 8 → gi μ' (T + 3 + 3 * b + 1) p = ndA A' b p) ∧ ∀ p, p < 8 → gi μ' (T + 3 + 3 * b + 2) p = hoA A' b p) : TwC μ' T A' := by
  obtain ⟨hS, t2, t3, t4, t5, t6⟩ := h
  refine ⟨hS.sb hs, e2, e3, e4, fun b' hb' => ?_, fun r hr => ?_⟩
  · by_cases q : b' = b
    · subst q; exact hbk
    · obtain ⟨x1, x2, x3, x4⟩ := eb b' hb' q
      obtain ⟨y1, y2, y3, y4⟩ := t5 b' hb'
      rw [x1, x2, x3, x4]
      exact ⟨by rw [hs.2.2.2.2.2.2 _ (by omega)]; exact y1, by rw [hs.2.2.2.2.2.2 _ (by omega)]; exact y2, fun p hp => by rw [hs.2.2.2.2.2.2 _ (by omega)]; exact y3 p hp, fun p hp => by rw [hs.2.2.2.2.2.2 _ (by omega)]; exact y4 p hp⟩
  · rw [er] at hr
    obtain ⟨y1, y2⟩ := t6 r hr
    rw [hs.2.2.1, ek, ef]
    refine ⟨y1, y2.sb hs (fun e => ?_)⟩
    have := (hS.tag (c := gr μ (T + 2) r) (by omega) (by omega)).1
    rw [y2.rd] at this
    cases this
theorem f5_lp {d a : Nat} {x1 : Int32} {μ0 : SMem} (hb : BkA μ0 a) : ∀ k p (μ : SMem), p + k = 8 → SB (fun c => c = a + 1 ∨ c = a + 2) μ0 μ → (∀ j, j < p → gi μ (a + 1) j = -4 ∧ gi μ (a + 2) j = -4) → ∃ μ', rn d 5 9 [some (Sum.inr (Sum.inl (a))), some (Sum.inl (x1)), some (Sum.inl (E p))] [] μ = some (Sum.inl none, μ') ∧ SB (fun c => c = a + 1 ∨ c = a + 2) μ0 μ' ∧ (∀ j, j < 8 → gi μ' (a + 1) j = -4 ∧ gi μ' (a + 2) j = -4) := by
  intro k
  induction k with
  | zero =>
    intro p μ hp hs hj
    have : p = 8 := by omega
    subst this
    refine ⟨μ, ?_, hs, hj⟩
    rw [st5_9]
    simp only [st5_10, st5_11, st5_12, st5_13, st5_14, st5_15, st5_16, st5_17, st5_18, st5_19, st5_20, st5_21, st5_22, st5_23, st5_24, show (8 : Int32) ≤ E 8 from by decide, if_true]
  | succ k ih =>
    intro p μ hp hs hj
    have hb1 := hb.sb hs
    obtain ⟨x1', x2', x3', x4', x5', x6', x7'⟩ := hb1
    have cx : ¬ (8 : Int32) ≤ E p := by rw [show (8 : Int32) = E 8 from rfl, E_le (by decide) (by omega)]; omega
    obtain ⟨μ', y1, y2, y3⟩ := ih (p + 1) (seti (seti μ (a + 1) p (-4)) (a + 2) p (-4)) (by omega) (hs.tr ((SB.se (Or.inl rfl)).tr (SB.se (Or.inr rfl)))) (fun j hj9 => by
      rw [gi_seti, gi_seti, gi_seti, gi_seti]
      by_cases q : j = p
      · rw [if_neg (by omega), if_pos ⟨rfl, q⟩, if_pos ⟨rfl, q⟩]; exact ⟨rfl, rfl⟩
      · rw [if_neg (by omega), if_neg (by omega), if_neg (by omega), if_neg (by omega)]; exact hj j (by omega))
    refine ⟨μ', ?_, y2, y3⟩
    rw [st5_9]
    simp only [st5_10, st5_11, st5_12, st5_13, st5_14, st5_15, st5_16, st5_17, st5_18, st5_19, st5_20, st5_21, st5_22, st5_23, st5_24, cx, x1', x2', x3', x4', x5', x6', x7', gi_seti, gi_setr, gi_setl, gi_setrow, gr_seti, gr_setr, gr_setl, gr_setrow, gl_seti, gl_setr, gl_setl, gl_setrow, tg_seti, tg_setr, tg_setl, tg_setrow, ln_seti, ln_setr, ln_setl, ln_setrow, sz_seti, sz_setr, sz_setl, sz_setrow, sl_seti, sl_setr, sl_setl, sl_setrow, E_ge0 (show p < 1000 by omega), E_n (show p < 1000 by omega), show p < 8 by omega, show E p + 1 = E (p + 1) from E_add p 1, aft_some, Option.toList_some, Option.toList_none, List.cons_append, List.nil_append, br0, br1, br2, br3, zr01, zr02, n10, n01, ne_eq, not_true_eq_false, not_false_eq_true, if_true, if_false, true_and, and_true, and_self]
    exact y1
theorem f5 {d a pg : Nat} {μ : SMem} (hb : BkA μ a) (hpg : pg < 9) : ∃ μ', cl (d + 1) 5 [Sum.inr (Sum.inl (a)), Sum.inl (E pg)] μ = some (Sum.inl none, μ') ∧ SB (fun c => a ≤ c ∧ c ≤ a + 2) μ μ' ∧ gi μ' a 2 = E pg ∧ gi μ' a 3 = E (2 ^ pg - 1) ∧ (∀ j, j < 8 → gi μ' (a + 1) j = -4 ∧ gi μ' (a + 2) j = -4) := by
  have s1 : SB (fun c => c = a) μ (seti μ a 2 (E pg)) := SB.se rfl
  have s2 : SB (fun c => c = a) (seti μ a 2 (E pg)) (seti (seti μ a 2 (E pg)) a 3 (E (2 ^ pg - 1))) := SB.se rfl
  have g2 : gi (seti μ a 2 (E pg)) a 2 = E pg := by rw [gi_seti, if_pos ⟨rfl, rfl⟩]
  have e9 := fun d => f9 (d := d) (μ := seti μ a 2 (E pg)) hpg (by rw [tg_seti]; exact hb.1) g2
  obtain ⟨μ', y1, y2, y3⟩ := f5_lp (d := d + 1) (x1 := E pg) ((hb.sb s1).sb s2) 8 0 _ rfl SB.rf (fun j hj => by omega)
  refine ⟨μ', ?_, (s1.wk (fun c e => by omega)).tr ((s2.wk (fun c e => by omega)).tr (y2.wk (fun c e => by omega))), ?_, ?_, y3⟩
  · show rn (d + 1) 5 0 [some (Sum.inr (Sum.inl (a))), some (Sum.inl (E pg)), none] [] μ = _
    simp only [st5_0, st5_1, st5_2, st5_3, st5_4, st5_5, st5_6, st5_7, st5_8, hb.1, e9, gi_seti, gi_setr, gi_setl, gi_setrow, gr_seti, gr_setr, gr_setl, gr_setrow, gl_seti, gl_setr, gl_setl, gl_setrow, tg_seti, tg_setr, tg_setl, tg_setrow, ln_seti, ln_setr, ln_setl, ln_setrow, sz_seti, sz_setr, sz_setl, sz_setrow, sl_seti, sl_setr, sl_setl, sl_setrow, aft_some, Option.toList_some, Option.toList_none, List.cons_append, List.nil_append, br0, br1, br2, br3, zr01, zr02, n10, n01, ne_eq, not_true_eq_false, not_false_eq_true, if_true, if_false, true_and, and_true, and_self]
    exact y1
  · rw [y2.2.2.2.2.2.2 a (by omega), gi_seti, if_neg (by omega), g2]
  · rw [y2.2.2.2.2.2.2 a (by omega), gi_seti, if_pos ⟨rfl, rfl⟩]
theorem f70n {d T : Nat} {x : Int32} {A : AT} {μ : SMem} (hw : WF A) (ht : TwC μ T A) (hx : ¬ ((1 ≤ x ∧ x ≤ 8) ∧ bcA A < 4)) : cl (d + 2) 70 [Sum.inr (Sum.inl (T)), Sum.inl (x)] μ = some (Sum.inl (some (Sum.inl (0))), μ) := by
  have l1 : (E (bcA A) < 4) = (bcA A < 4) := by rw [show (4 : Int32) = E 4 from rfl]; exact E_ltE (by have := hw.1; omega) (by decide)
  show rn (d + 2) 70 0 [some (Sum.inr (Sum.inl (T))), some (Sum.inl (x))] [] μ = _
  by_cases c1 : x < 1
  · simp only [st70_0, st70_1, st70_2, st70_3, st70_4, st70_5, st70_6, st70_7, st70_8, st70_9, st70_10, st70_11, c1, true_or, aft_some, Option.toList_some, Option.toList_none, List.cons_append, List.nil_append, br0, br1, br2, br3, zr01, zr02, n10, n01, ne_eq, not_true_eq_false, not_false_eq_true, if_true, if_false, true_and, and_true, and_self]
  · by_cases c2 : (8 : Int32) < x
    · simp only [st70_0, st70_1, st70_2, st70_3, st70_4, st70_5, st70_6, st70_7, st70_8, st70_9, st70_10, st70_11, c1, c2, true_or, aft_some, Option.toList_some, Option.toList_none, List.cons_append, List.nil_append, br0, br1, br2, br3, zr01, zr02, n10, n01, ne_eq, not_true_eq_false, not_false_eq_true, if_true, if_false, true_and, and_true, and_self]
    · have c3 : ¬ bcA A < 4 := fun h => hx ⟨⟨Int32.not_lt.mp c1, Int32.not_lt.mp c2⟩, h⟩
      simp only [st70_0, st70_1, st70_2, st70_3, st70_4, st70_5, st70_6, st70_7, st70_8, st70_9, st70_10, st70_11, c1, c2, ht.1.1, ht.2.1, l1, c3, true_or, aft_some, Option.toList_some, Option.toList_none, List.cons_append, List.nil_append, br0, br1, br2, br3, zr01, zr02, n10, n01, ne_eq, not_true_eq_false, not_false_eq_true, if_true, if_false, true_and, and_true, and_self]
theorem f70 {d T pg : Nat} {A : AT} {μ : SMem} (hw : WF A) (ht : TwC μ T A) (h1 : 1 ≤ pg) (h2 : pg < 9) (hb : bcA A < 4) : ∃ μ', cl (d + 2) 70 [Sum.inr (Sum.inl (T)), Sum.inl (E pg)] μ = some (Sum.inl (some (Sum.inl (1))), μ') ∧ SB (fun c => T ≤ c ∧ c ≤ T + 14) μ μ' ∧ TwC μ' T (adB A pg) := by
  have l1 : (E (bcA A) < 4) = True := by rw [show (4 : Int32) = E 4 from rfl, E_ltE (by omega) (by decide)]; exact eq_true hb
  have ht0 := ht
  obtain ⟨⟨s1, s2, s3, s4, s5, s6, s7, s8, s9⟩, t2, t3, t4, t5, t6⟩ := ht
  obtain ⟨μ1, a1, a2, a3, a4, a5⟩ := f5 (d := d) (s8 _ hb).2 h2
  have g2 : gi μ1 T 2 = E (bcA A) := by rw [a2.2.2.2.2.2.2 T (by omega)]; exact t2
  have gT : ∀ j, j ≠ 2 → gi (seti μ1 T 2 (E (bcA A + 1))) T j = gi μ T j := fun j hj => by rw [gi_seti, if_neg (fun e => hj e.2), a2.2.2.2.2.2.2 T (by omega)]
  have gO : ∀ c j, c ≠ T → gi (seti μ1 T 2 (E (bcA A + 1))) c j = gi μ1 c j := fun c j hc => by rw [gi_seti, if_neg (fun e => hc e.1)]
  have sT : SB (fun c => c = T) μ1 (seti μ1 T 2 (E (bcA A + 1))) := SB.se rfl
  have sA : SB (fun c => T + 3 + 3 * bcA A ≤ c ∧ c ≤ T + 3 + 3 * bcA A + 2 ∨ c = T) μ (seti μ1 T 2 (E (bcA A + 1))) := (a2.wk (fun c e => Or.inl e)).tr (sT.wk (fun c e => Or.inr e))
  refine ⟨seti μ1 T 2 (E (bcA A + 1)), ?_, sA.wk (fun c e => by omega), ?_⟩
  · have n1 : (E pg < 1) = False := by rw [show (1 : Int32) = E 1 from rfl, E_ltE (by omega) (by decide)]; exact eq_false (by omega)
    have n8 : ((8 : Int32) < E pg) = False := by rw [show (8 : Int32) = E 8 from rfl, E_ltE (by decide) (by omega)]; exact eq_false (by omega)
    show rn (d + 2) 70 0 [some (Sum.inr (Sum.inl (T))), some (Sum.inl (E pg))] [] μ = _
    simp only [st70_0, st70_1, st70_2, st70_3, st70_4, st70_5, st70_6, st70_7, st70_8, st70_9, st70_10, st70_11, st70_12, st70_13, st70_14, st70_15, st70_16, st70_17, st70_18, st70_19, st70_20, st70_21, st70_22, st70_23, st70_24, st70_25, st70_26, n1, n8, s1, s2, s4, s5, t2, l1, E_ge0 (show bcA A < 1000 by omega), E_n (show bcA A < 1000 by omega), hb, (s8 _ hb).1, (s8 _ hb).2.1, a1, a2.1, g2, show E (bcA A) + 1 = E (bcA A + 1) from E_add _ 1, or_true, aft_some, Option.toList_some, Option.toList_none, List.cons_append, List.nil_append, br0, br1, br2, br3, zr01, zr02, n10, n01, ne_eq, not_true_eq_false, not_false_eq_true, if_true, if_false, true_and, and_true, and_self]
  · refine ht0.ub hw sA hb (by rw [gi_seti, if_pos ⟨rfl, rfl⟩]; rfl) (by rw [gT 3 (by decide)]; exact t3) (by rw [gT 4 (by decide)]; exact t4) rfl rfl rfl (fun b' hb' hne => ?_) ?_
    · show up1 (pgA A) (bcA A) pg b' = _ ∧ up1 (inA A) (bcA A) (2 ^ pg - 1) b' = _ ∧ up1 (ndA A) (bcA A) (fun _ => -4) b' = _ ∧ up1 (hoA A) (bcA A) (fun _ => -4) b' = _
      simp only [up1, if_neg hne, and_self]
    · show gi _ _ 2 = E (up1 (pgA A) (bcA A) pg (bcA A)) ∧ gi _ _ 3 = E (up1 (inA A) (bcA A) (2 ^ pg - 1) (bcA A)) ∧ (∀ p, p < 8 → gi _ _ p = up1 (ndA A) (bcA A) (fun _ => -4) (bcA A) p) ∧ ∀ p, p < 8 → gi _ _ p = up1 (hoA A) (bcA A) (fun _ => -4) (bcA A) p
      rw [gO _ _ (by omega), gO _ _ (by omega)]
      simp only [up1, if_true]
      exact ⟨a3, a4, fun p hp => by rw [gO _ _ (by omega)]; exact (a5 p hp).1, fun p hp => by rw [gO _ _ (by omega)]; exact (a5 p hp).2⟩
/-! SPECS ZX: a statement of a town's text -/
theorem f72u {d T : Nat} {x y : Int32} {A : AT} {μ : SMem} (hw : WF A) (ht : TwC μ T A) (hn : ¬ ((0 ≤ x ∧ x < E (rcA A)) ∧ 0 ≤ y ∧ y < E (bcA A))) : cl (d + 5) 72 [Sum.inr (Sum.inl (T)), Sum.inl (x), Sum.inl (y)] μ = some (Sum.inl (some (Sum.inl (-1))), μ) := by
  show rn (d + 5) 72 0 [some (Sum.inr (Sum.inl (T))), some (Sum.inl (x)), some (Sum.inl (y)), none, none, none, none, none] [] μ = _
  by_cases c1 : 0 ≤ x ∧ x < E (rcA A)
  · have c2 : ¬ (0 ≤ y ∧ y < E (bcA A)) := fun e => hn ⟨c1, e⟩
    obtain ⟨r, hr1, rfl⟩ := E_of c1.1 c1.2 (by have := hw.2.1; omega)
    obtain ⟨r0, hrd⟩ := ht.2.2.2.2.2 r hr1
    simp only [st72_0, st72_1, st72_2, st72_3, st72_4, st72_5, st72_6, st72_7, st72_8, st72_9, st72_10, st72_11, st72_12, st72_13, ht.1.1, f67 hw ht, f68 hw ht, c1, c2, E_n (show r < 1000 by have := hw.2.1; omega), r0, aft_some, Option.toList_some, Option.toList_none, List.cons_append, List.nil_append, br0, br1, br2, br3, zr01, zr02, n10, n01, ne_eq, not_true_eq_false, not_false_eq_true, if_true, if_false, true_and, and_true, and_self]
  · simp only [st72_0, st72_1, st72_2, st72_3, st72_4, st72_5, st72_6, st72_7, st72_8, st72_9, st72_10, st72_11, st72_12, st72_13, ht.1.1, f67 hw ht, f68 hw ht, c1, aft_some, Option.toList_some, Option.toList_none, List.cons_append, List.nil_append, br0, br1, br2, br3, zr01, zr02, n10, n01, ne_eq, not_true_eq_false, not_false_eq_true, if_true, if_false, true_and, and_true, and_self]
theorem ndB_tw {T b p q : Nat} {A : AT} {μ : SMem} (hw : WF A) (ht : TwC μ T A) (hb : b < 4) : SB (fun c => T ≤ c ∧ c ≤ T + 14) μ (seti μ (T + 3 + 3 * b + 1) p (E q)) ∧ TwC (seti μ (T + 3 + 3 * b + 1) p (E q)) T (ndB A b p q) := by
  have s1 : SB (fun c => T + 3 + 3 * b ≤ c ∧ c ≤ T + 3 + 3 * b + 2 ∨ c = T) μ (seti μ (T + 3 + 3 * b + 1) p (E q)) := SB.se (Or.inl ⟨by omega, by omega⟩)
  have gO : ∀ c j, c ≠ T + 3 + 3 * b + 1 → gi (seti μ (T + 3 + 3 * b + 1) p (E q)) c j = gi μ c j := fun c j hc => by rw [gi_seti, if_neg (fun e => hc e.1)]
  obtain ⟨u1, u2, u3, u4⟩ := ht.2.2.2.2.1 b hb
  refine ⟨s1.wk (fun c e => by omega), ht.ub hw s1 hb (by rw [gO _ _ (by omega)]; exact ht.2.1) (by rw [gO _ _ (by omega)]; exact ht.2.2.1) (by rw [gO _ _ (by omega)]; exact ht.2.2.2.1) rfl rfl rfl (fun b' hb' hne => ⟨rfl, rfl, ?_, rfl⟩) ⟨by rw [gO _ _ (by omega)]; exact u1, by rw [gO _ _ (by omega)]; exact u2, fun p' hp' => ?_, fun p' hp' => by rw [gO _ _ (by omega)]; exact u4 p' hp'⟩⟩
  · show up1 (ndA A) b _ b' = _
    rw [up1, if_neg hne]
  · show _ = up1 (ndA A) b (up1 (ndA A b) p (E q)) b p'
    rw [up1, if_pos rfl, gi_seti]
    by_cases e : p' = p
    · rw [if_pos ⟨rfl, e⟩, up1, if_pos e]
    · rw [if_neg (fun h => e h.2), up1, if_neg e]; exact u3 p' hp'
theorem loB_tw {T b p : Nat} {A : AT} {μ : SMem} (hw : WF A) (ht : TwC μ T A) (hb : b < 4) : SB (fun c => T ≤ c ∧ c ≤ T + 14) μ (seti (seti μ (T + 3 + 3 * b) 3 (E (clr (inA A b) p))) (T + 3 + 3 * b + 2) p (-4)) ∧ TwC (seti (seti μ (T + 3 + 3 * b) 3 (E (clr (inA A b) p))) (T + 3 + 3 * b + 2) p (-4)) T (loB A b p) := by
  have s1 : SB (fun c => T + 3 + 3 * b ≤ c ∧ c ≤ T + 3 + 3 * b + 2 ∨ c = T) μ (seti (seti μ (T + 3 + 3 * b) 3 (E (clr (inA A b) p))) (T + 3 + 3 * b + 2) p (-4)) := (SB.se (Or.inl ⟨by omega, by omega⟩)).tr (SB.se (Or.inl ⟨by omega, by omega⟩))
  have gO : ∀ c j, c ≠ T + 3 + 3 * b → c ≠ T + 3 + 3 * b + 2 → gi (seti (seti μ (T + 3 + 3 * b) 3 (E (clr (inA A b) p))) (T + 3 + 3 * b + 2) p (-4)) c j = gi μ c j := fun c j h1 h2 => by rw [gi_seti, if_neg (fun e => h2 e.1), gi_seti, if_neg (fun e => h1 e.1)]
  obtain ⟨u1, u2, u3, u4⟩ := ht.2.2.2.2.1 b hb
  refine ⟨s1.wk (fun c e => by omega), ht.ub hw s1 hb (by rw [gO _ _ (by omega) (by omega)]; exact ht.2.1) (by rw [gO _ _ (by omega) (by omega)]; exact ht.2.2.1) (by rw [gO _ _ (by omega) (by omega)]; exact ht.2.2.2.1) rfl rfl rfl (fun b' hb' hne => ⟨rfl, ?_, rfl, ?_⟩) ⟨by rw [gi_seti, if_neg (by omega), gi_seti, if_neg (by omega)]; exact u1, ?_, fun p' hp' => by rw [gO _ _ (by omega) (by omega)]; exact u3 p' hp', fun p' hp' => ?_⟩⟩
  · show up1 (inA A) b _ b' = _
    rw [up1, if_neg hne]
  · show up1 (hoA A) b _ b' = _
    rw [up1, if_neg hne]
  · rw [gi_seti, if_neg (by omega), gi_seti, if_pos ⟨rfl, rfl⟩]
    show _ = E (up1 (inA A) b (clr (inA A b) p) b)
    rw [up1, if_pos rfl]
  · show _ = up1 (hoA A) b (up1 (hoA A b) p (-4)) b p'
    rw [up1, if_pos rfl, gi_seti]
    by_cases e : p' = p
    · rw [if_pos ⟨rfl, e⟩, up1, if_pos e]
    · rw [if_neg (fun h => e h.2), up1, if_neg e, gi_seti, if_neg (by omega)]; exact u4 p' hp'
/-- a statement: letter, three figures -/
def stD (A : AT) (c x y z : Nat) : Option AT :=
  if c = 98 then (if (1 ≤ x ∧ x < 9) ∧ bcA A < 4 then some (adB A x) else none)
  else if c = 110 then (if (x < bcA A ∧ y < pgA A x) ∧ z < y then some (ndB A x y z) else none)
  else if c = 111 then (if (x < bcA A ∧ y < pgA A x) ∧ (inA A x).testBit y = true then some (loB A x y) else none)
  else if c = 114 then (if x < 8 ∧ rcA A < 6 then some (adR A x y) else none)
  else (if x < rcA A ∧ y < bcA A then some (rdA A x y) else none)
theorem stD_wf {A A' : AT} {c x y z : Nat} (hw : WF A) (hy : y < 10) (h : stD A c x y z = some A') : WF A' := by
  unfold stD at h
  by_cases c1 : c = 98
  · rw [if_pos c1] at h
    by_cases q : (1 ≤ x ∧ x < 9) ∧ bcA A < 4
    · rw [if_pos q] at h; cases h; exact adB_wf hw q.2 q.1.1 q.1.2
    · rw [if_neg q] at h; cases h
  rw [if_neg c1] at h
  by_cases c2 : c = 110
  · rw [if_pos c2] at h
    by_cases q : (x < bcA A ∧ y < pgA A x) ∧ z < y
    · rw [if_pos q] at h; cases h; exact ndB_wf hw q.2
    · rw [if_neg q] at h; cases h
  rw [if_neg c2] at h
  by_cases c3 : c = 111
  · rw [if_pos c3] at h
    by_cases q : (x < bcA A ∧ y < pgA A x) ∧ (inA A x).testBit y = true
    · rw [if_pos q] at h; cases h; exact loB_wf hw (by have := hw.pg9 x; omega)
    · rw [if_neg q] at h; cases h
  rw [if_neg c3] at h
  by_cases c4 : c = 114
  · rw [if_pos c4] at h
    by_cases q : x < 8 ∧ rcA A < 6
    · rw [if_pos q] at h; cases h; exact adR_wf hw q.2 q.1 hy
    · rw [if_neg q] at h; cases h
  rw [if_neg c4] at h
  by_cases q : x < rcA A ∧ y < bcA A
  · rw [if_pos q] at h; cases h; exact rdA_wf hw q.1 q.2
  · rw [if_neg q] at h; cases h
