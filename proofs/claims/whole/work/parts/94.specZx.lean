/-! SPECS ZX: a statement of a town's text -/
theorem f72u {d T : Nat} {x y : Int32} {A : AT} {μ : SMem} (hw : WF A) (ht : TwC μ T A) (hn : ¬ ((0 ≤ x ∧ x < E (rcA A)) ∧ 0 ≤ y ∧ y < E (bcA A))) : cl (d + 5) 72 [Sum.inr (Sum.inl (T)), Sum.inl (x), Sum.inl (y)] μ = some (Sum.inl (some (Sum.inl (-1))), μ) := by
  show rn (d + 5) 72 0 [some (Sum.inr (Sum.inl (T))), some (Sum.inl (x)), some (Sum.inl (y)), none, none, none, none, none] [] μ = _
  by_cases c1 : 0 ≤ x ∧ x < E (rcA A)
  · have c2 : ¬ (0 ≤ y ∧ y < E (bcA A)) := fun e => hn ⟨c1, e⟩
    obtain ⟨r, hr1, rfl⟩ := E_of c1.1 c1.2 (by have := hw.2.1; omega)
    obtain ⟨r0, hrd⟩ := ht.2.2.2.2.2 r hr1
    simp only [st72_0, st72_1, st72_2, st72_3, st72_4, st72_5, st72_6, st72_7, st72_8, st72_9, st72_10, st72_11, st72_12, st72_13, ht.1.1, f67 hw ht, f68 hw ht, c1, c2, E_n (show r < 1000 by have := hw.2.1; omega), r0, aft_some, Option.toList_some, Option.toList_none, List.cons_append, List.nil_append, br0, br1, br2, br3, zr01, zr02, n10, n01, ne_eq, not_true_eq_false, not_false_eq_true, if_true, if_false, true_and, and_true, and_self]
  · simp only [st72_0, st72_1, st72_2, st72_3, st72_4, st72_5, st72_6, st72_7, st72_8, st72_9, st72_10, st72_11, st72_12, st72_13, ht.1.1, f67 hw ht, f68 hw ht, c1, aft_some, Option.toList_some, Option.toList_none, List.cons_append, List.nil_append, br0, br1, br2, br3, zr01, zr02, n10, n01, ne_eq, not_true_eq_false, not_false_eq_true, if_true, if_false, true_and, and_true, and_self]
theorem ndB_tw {T b p q : Nat} {A : AT} {μ : SMem} (hw : WF A) (ht : TwC μ T A) (hb : b < 4) : SB (fun c => T ≤ c ∧ c ≤ T + 14) μ (seti μ (T + 3 + 3 * b + 1) p (E q)) ∧ TwC (seti μ (T + 3 + 3 * b + 1) p (E q)) T (ndB A b p q) := by
  have s1 : SB (fun c => T + 3 + 3 * b ≤ c ∧ c ≤ T + 3 + 3 * b + 2 ∨ c = T) μ (seti μ (T + 3 + 3 * b + 1) p (E q)) := SB.se (Or.inl ⟨by omega, by omega⟩)
  have gO : ∀ c j, c ≠ T + 3 + 3 * b + 1 → gi (seti μ (T + 3 + 3 * b + 1) p (E q)) c j = gi μ c j := fun c j hc => by rw [gi_seti, if_neg (fun e => hc e.1)]
  obtain ⟨u1, u2, u3, u4⟩ := ht.2.2.2.2.1 b hb
  refine ⟨s1.wk (fun c e => by omega), ht.ub hw s1 hb (by rw [gO _ _ (by omega)]; exact ht.2.1) (by rw [gO _ _ (by omega)]; exact ht.2.2.1) (by rw [gO _ _ (by omega)]; exact ht.2.2.2.1) rfl rfl rfl (fun b' hb' hne => ⟨rfl, rfl, ?_, rfl⟩) ⟨by rw [gO _ _ (by omega)]; exact u1, by rw [gO _ _ (by omega)]; exact u2, fun p' hp' => ?_, fun p' hp' => by rw [gO _ _ (by omega)]; exact u4 p' hp'⟩⟩
  · show up1 (ndA A) b _ b' = _
    rw [up1, if_neg hne]
  · show _ = up1 (ndA A) b (up1 (ndA A b) p (E q)) b p'
    rw [up1, if_pos rfl, gi_seti]
    by_cases e : p' = p
    · rw [if_pos ⟨rfl, e⟩, up1, if_pos e]
    · rw [if_neg (fun h => e h.2), up1, if_neg e]; exact u3 p' hp'
theorem loB_tw {T b p : Nat} {A : AT} {μ : SMem} (hw : WF A) (ht : TwC μ T A) (hb : b < 4) : SB (fun c => T ≤ c ∧ c ≤ T + 14) μ (seti (seti μ (T + 3 + 3 * b) 3 (E (clr (inA A b) p))) (T + 3 + 3 * b + 2) p (-4)) ∧ TwC (seti (seti μ (T + 3 + 3 * b) 3 (E (clr (inA A b) p))) (T + 3 + 3 * b + 2) p (-4)) T (loB A b p) := by
  have s1 : SB (fun c => T + 3 + 3 * b ≤ c ∧ c ≤ T + 3 + 3 * b + 2 ∨ c = T) μ (seti (seti μ (T + 3 + 3 * b) 3 (E (clr (inA A b) p))) (T + 3 + 3 * b + 2) p (-4)) := (SB.se (Or.inl ⟨by omega, by omega⟩)).tr (SB.se (Or.inl ⟨by omega, by omega⟩))
  have gO : ∀ c j, c ≠ T + 3 + 3 * b → c ≠ T + 3 + 3 * b + 2 → gi (seti (seti μ (T + 3 + 3 * b) 3 (E (clr (inA A b) p))) (T + 3 + 3 * b + 2) p (-4)) c j = gi μ c j := fun c j h1 h2 => by rw [gi_seti, if_neg (fun e => h2 e.1), gi_seti, if_neg (fun e => h1 e.1)]
  obtain ⟨u1, u2, u3, u4⟩ := ht.2.2.2.2.1 b hb
  refine ⟨s1.wk (fun c e => by omega), ht.ub hw s1 hb (by rw [gO _ _ (by omega) (by omega)]; exact ht.2.1) (by rw [gO _ _ (by omega) (by omega)]; exact ht.2.2.1) (by rw [gO _ _ (by omega) (by omega)]; exact ht.2.2.2.1) rfl rfl rfl (fun b' hb' hne => ⟨rfl, ?_, rfl, ?_⟩) ⟨by rw [gi_seti, if_neg (by omega), gi_seti, if_neg (by omega)]; exact u1, ?_, fun p' hp' => by rw [gO _ _ (by omega) (by omega)]; exact u3 p' hp', fun p' hp' => ?_⟩⟩
  · show up1 (inA A) b _ b' = _
    rw [up1, if_neg hne]
  · show up1 (hoA A) b _ b' = _
    rw [up1, if_neg hne]
  · rw [gi_seti, if_neg (by omega), gi_seti, if_pos ⟨rfl, rfl⟩]
    show _ = E (up1 (inA A) b (clr (inA A b) p) b)
    rw [up1, if_pos rfl]
  · show _ = up1 (hoA A) b (up1 (hoA A b) p (-4)) b p'
    rw [up1, if_pos rfl, gi_seti]
    by_cases e : p' = p
    · rw [if_pos ⟨rfl, e⟩, up1, if_pos e]
    · rw [if_neg (fun h => e h.2), up1, if_neg e, gi_seti, if_neg (by omega)]; exact u4 p' hp'
/-- a statement: letter, three figures -/
def stD (A : AT) (c x y z : Nat) : Option AT :=
  if c = 98 then (if (1 ≤ x ∧ x < 9) ∧ bcA A < 4 then some (adB A x) else none)
  else if c = 110 then (if (x < bcA A ∧ y < pgA A x) ∧ z < y then some (ndB A x y z) else none)
  else if c = 111 then (if (x < bcA A ∧ y < pgA A x) ∧ (inA A x).testBit y = true then some (loB A x y) else none)
  else if c = 114 then (if x < 8 ∧ rcA A < 6 then some (adR A x y) else none)
  else (if x < rcA A ∧ y < bcA A then some (rdA A x y) else none)
theorem stD_wf {A A' : AT} {c x y z : Nat} (hw : WF A) (hy : y < 10) (h : stD A c x y z = some A') : WF A' := by
  unfold stD at h
  by_cases c1 : c = 98
  · rw [if_pos c1] at h
    by_cases q : (1 ≤ x ∧ x < 9) ∧ bcA A < 4
    · rw [if_pos q] at h; cases h; exact adB_wf hw q.2 q.1.1 q.1.2
    · rw [if_neg q] at h; cases h
  rw [if_neg c1] at h
  by_cases c2 : c = 110
  · rw [if_pos c2] at h
    by_cases q : (x < bcA A ∧ y < pgA A x) ∧ z < y
    · rw [if_pos q] at h; cases h; exact ndB_wf hw q.2
    · rw [if_neg q] at h; cases h
  rw [if_neg c2] at h
  by_cases c3 : c = 111
  · rw [if_pos c3] at h
    by_cases q : (x < bcA A ∧ y < pgA A x) ∧ (inA A x).testBit y = true
    · rw [if_pos q] at h; cases h; exact loB_wf hw (by have := hw.pg9 x; omega)
    · rw [if_neg q] at h; cases h
  rw [if_neg c3] at h
  by_cases c4 : c = 114
  · rw [if_pos c4] at h
    by_cases q : x < 8 ∧ rcA A < 6
    · rw [if_pos q] at h; cases h; exact adR_wf hw q.2 q.1 hy
    · rw [if_neg q] at h; cases h
  rw [if_neg c4] at h
  by_cases q : x < rcA A ∧ y < bcA A
  · rw [if_pos q] at h; cases h; exact rdA_wf hw q.1 q.2
  · rw [if_neg q] at h; cases h
