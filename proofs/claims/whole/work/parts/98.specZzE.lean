/-! SPECS ZZE: the law's start -/
theorem NW.sg {O : Nat → Prop} {μ μ' : SMem} (h : NW O μ μ') (hu : ∀ c, sz μ ≤ c → tg μ c = 99) (hl : sl μ ≤ sl μ') (h1 : ¬ O 1) (h2 : 2 ≤ sz μ) : SG (fun c _ => O c) (fun c _ => O c) μ μ' := by
  obtain ⟨a1, a2, a3, a4⟩ := h
  have lt : ∀ c, tg μ c ≠ 99 → c < sz μ := fun c hc => by
    by_cases q : c < sz μ
    · exact q
    · exact absurd (hu c (by omega)) hc
  exact ⟨fun c hc => a2 c (lt c hc), fun c j hc hn => by rw [(a3 c (lt c hc) hn).1], fun c j hc hn => by rw [(a3 c (lt c hc) hn).2], ⟨a1, (a3 1 (by omega) h1).1, (a2 1 (by omega)).2⟩, hl, a4⟩
def SQ (μ : SMem) (e : Nat) : Prop := tg μ (53 + 2 * e) = 8 ∧ gr μ (53 + 2 * e) 0 = 0 ∧ gr μ (53 + 2 * e) 4 = 54 + 2 * e ∧ gi μ (53 + 2 * e) 1 = 0 ∧ tg μ (54 + 2 * e) = 50 ∧ ln μ (54 + 2 * e) = 100 ∧ ∀ j, gi μ (54 + 2 * e) j = 0
theorem SQ.nw {O : Nat → Prop} {μ μ' : SMem} {e : Nat} (h : SQ μ e) (hn : NW O μ μ') (hs : 54 + 2 * e < sz μ) (ho : ¬ O (53 + 2 * e) ∧ ¬ O (54 + 2 * e)) : SQ μ' e := by
  obtain ⟨x1, x2, x3, x4, x5, x6, x7⟩ := h
  obtain ⟨a1, a2, a3, a4⟩ := hn
  obtain ⟨b1, b2⟩ := a3 (53 + 2 * e) (by omega) ho.1
  obtain ⟨b3, b4⟩ := a3 (54 + 2 * e) (by omega) ho.2
  exact ⟨by rw [(a2 _ (by omega)).1]; exact x1, by rw [b2]; exact x2, by rw [b2]; exact x3, by rw [b1]; exact x4, by rw [(a2 _ (by omega)).1]; exact x5, by rw [(a2 _ (by omega)).2]; exact x6, fun j => by rw [b3]; exact x7 j⟩
theorem f53 {d e : Nat} {μ : SMem} (ha : tg μ (53 + 2 * e) = 8) (hs : 54 + 2 * e = sz μ) (hu : ∀ c, sz μ ≤ c → tg μ c = 99) : ∃ μ', cl d 53 [Sum.inr (Sum.inl (53 + 2 * e))] μ = some (Sum.inl none, μ') ∧ NW (fun c => c = 53 + 2 * e) μ μ' ∧ sz μ' = sz μ + 1 ∧ sl μ' = sl μ + 100 ∧ SQ μ' e := by
  have z100 : ((0 : Int32) ≤ 100) = True := eq_true (by decide)
  have d100 : ((100 : Nat) ≤ 1000) = True := eq_true (by decide)
  have zn100 : (100 : Int32).toNatClampNeg = 100 := rfl
  have a0 : 53 + 2 * e ≠ 0 := by omega
  have n1 : NW (fun c => c = 53 + 2 * e) μ (setr μ (53 + 2 * e) 0 0) := NW.sr hu rfl
  have n2 : NW (fun c => c = 53 + 2 * e) (setr μ (53 + 2 * e) 0 0) (seti (setr μ (53 + 2 * e) 0 0) (53 + 2 * e) 1 0) := NW.si hu rfl
  have n3 : NW (fun c => c = 53 + 2 * e) (seti (setr μ (53 + 2 * e) 0 0) (53 + 2 * e) 1 0) (seti (seti (setr μ (53 + 2 * e) 0 0) (53 + 2 * e) 1 0) (53 + 2 * e) 2 0) := NW.si hu rfl
  have n4 : NW (fun c => c = 53 + 2 * e) (seti (seti (setr μ (53 + 2 * e) 0 0) (53 + 2 * e) 1 0) (53 + 2 * e) 2 0) (seti (seti (seti (setr μ (53 + 2 * e) 0 0) (53 + 2 * e) 1 0) (53 + 2 * e) 2 0) (53 + 2 * e) 3 0) := NW.si hu rfl
  have n5 : NW (fun c => c = 53 + 2 * e) (seti (seti (seti (setr μ (53 + 2 * e) 0 0) (53 + 2 * e) 1 0) (53 + 2 * e) 2 0) (53 + 2 * e) 3 0) (alloc (seti (seti (seti (setr μ (53 + 2 * e) 0 0) (53 + 2 * e) 1 0) (53 + 2 * e) 2 0) (53 + 2 * e) 3 0) 50 100 100) := NW.al hu
  have n6 : NW (fun c => c = 53 + 2 * e) (alloc (seti (seti (seti (setr μ (53 + 2 * e) 0 0) (53 + 2 * e) 1 0) (53 + 2 * e) 2 0) (53 + 2 * e) 3 0) 50 100 100) (setr (alloc (seti (seti (seti (setr μ (53 + 2 * e) 0 0) (53 + 2 * e) 1 0) (53 + 2 * e) 2 0) (53 + 2 * e) 3 0) 50 100 100) (53 + 2 * e) 4 (sz μ)) := NW.sr n5.2.2.2 rfl
  refine ⟨setr (alloc (seti (seti (seti (setr μ (53 + 2 * e) 0 0) (53 + 2 * e) 1 0) (53 + 2 * e) 2 0) (53 + 2 * e) 3 0) 50 100 100) (53 + 2 * e) 4 (sz μ), ?_, n1.tr (n2.tr (n3.tr (n4.tr (n5.tr n6)))), rfl, rfl, ?_⟩
  · show rn d 53 0 [some (Sum.inr (Sum.inl (53 + 2 * e)))] [] μ = _
    simp only [st53_0, st53_1, st53_2, st53_3, st53_4, st53_5, st53_6, st53_7, st53_8, st53_9, st53_10, st53_11, st53_12, st53_13, st53_14, st53_15, st53_16, st53_17, st53_18, a0, ha, z100, d100, zn100, tg_setr, tg_seti, tg_alc, sz_al, sz_setr, sz_seti, show ¬ 53 + 2 * e = sz μ by omega, true_or, or_true, aft_some, Option.toList_some, Option.toList_none, List.cons_append, List.nil_append, br0, br1, br2, br3, zr01, zr02, n10, n01, ne_eq, not_true_eq_false, not_false_eq_true, if_true, if_false, true_and, and_true, and_self]
  · refine ⟨?_, ?_, ?_, ?_, ?_, ?_, fun j => ?_⟩
    · rw [tg_setr, tg_alc, sz_seti, sz_seti, sz_seti, sz_setr, if_neg (by omega)]; exact ha
    · rw [gr_setr, if_neg (by omega), gr_alc, sz_seti, sz_seti, sz_seti, sz_setr, if_neg (by omega), gr_seti, gr_seti, gr_seti, gr_setr, if_pos ⟨rfl, rfl⟩]
    · rw [gr_setr, if_pos ⟨rfl, rfl⟩, hs]
    · rw [gi_setr, gi_alc, sz_seti, sz_seti, sz_seti, sz_setr, if_neg (by omega), gi_seti, if_neg (by omega), gi_seti, if_neg (by omega), gi_seti, if_pos ⟨rfl, rfl⟩]
    · rw [tg_setr, tg_alc, sz_seti, sz_seti, sz_seti, sz_setr, if_pos hs]
    · rw [ln_setr, ln_alc, sz_seti, sz_seti, sz_seti, sz_setr, if_pos hs]
    · rw [gi_setr, gi_alc, sz_seti, sz_seti, sz_seti, sz_setr, if_pos hs]
theorem f77_lp {d : Nat} : ∀ k e (μ : SMem), e + k = 8 → sz μ = 53 + 2 * e → (∀ c, sz μ ≤ c → tg μ c = 99) → tg μ 2 = 11 → gr μ 2 4 = 48 → tg μ 48 = 54 → ln μ 48 = 8 → (∀ e', e' < e → gr μ 48 e' = 53 + 2 * e' ∧ SQ μ e') → ∃ μ', rn (d + 1) 77 42 [some (Sum.inr (Sum.inl (2))), some (Sum.inl (E e))] [] μ = some (Sum.inl none, μ') ∧ NW (fun c => c = 48) μ μ' ∧ sz μ' = 69 ∧ sl μ' = sl μ + 105 * k ∧ (∀ e', e' < 8 → gr μ' 48 e' = 53 + 2 * e' ∧ SQ μ' e') := by
  intro k
  induction k with
  | zero =>
    intro e μ he hs hu h1 h2 h3 h4 hv
    have : e = 8 := by omega
    subst this
    refine ⟨μ, ?_, ⟨Nat.le_refl _, fun _ _ => ⟨rfl, rfl⟩, fun _ _ _ => ⟨rfl, rfl⟩, hu⟩, by omega, rfl, hv⟩
    rw [st77_42]
    simp only [st77_43, st77_44, st77_45, st77_46, st77_56, h1, h2, h3, h4, alA, alB, alC, alD, alE, and_self, show Int32.ofNat 8 = E 8 from rfl, Int32.le_refl, true_or, or_true, aft_some, Option.toList_some, Option.toList_none, List.cons_append, List.nil_append, br0, br1, br2, br3, zr01, zr02, n10, n01, ne_eq, not_true_eq_false, not_false_eq_true, if_true, if_false, true_and, and_true, and_self]
  | succ k ih =>
    intro e μ he hs hu h1 h2 h3 h4 hv
    have cx : (E 8 ≤ E e) = False := by rw [E_leE (by decide) (by omega)]; exact eq_false (by omega)
    have n1 : NW (fun c => c = 48) μ (alloc μ 8 0 5) := NW.al hu
    obtain ⟨μ1, a1, a2, a3, a4, a5⟩ := f53 (d := d) (e := e) (μ := alloc μ 8 0 5) (by rw [tg_alc, if_pos (by omega)]) (by rw [sz_al]; omega) n1.2.2.2
    have n2 : NW (fun c => c = 48) μ μ1 := ⟨by rw [a3, sz_al]; omega, fun c hc => ⟨(a2.2.1 c (by rw [sz_al]; omega)).1.trans (n1.2.1 c hc).1, (a2.2.1 c (by rw [sz_al]; omega)).2.trans (n1.2.1 c hc).2⟩, fun c hc hn => ⟨(a2.2.2.1 c (by rw [sz_al]; omega) (by omega)).1.trans (n1.2.2.1 c hc hn).1, (a2.2.2.1 c (by rw [sz_al]; omega) (by omega)).2.trans (n1.2.2.1 c hc hn).2⟩, a2.2.2.2⟩
    have g1 : ∀ c, c < sz μ → gr μ1 c = gr μ c := fun c hc => (a2.2.2.1 c (by rw [sz_al]; omega) (by omega)).2.trans (funext fun j => by rw [gr_alc, if_neg (by omega)])
    have t1 : tg μ1 48 = 54 := by rw [(n2.2.1 _ (by omega)).1]; exact h3
    have l1 : ln μ1 48 = 8 := by rw [(n2.2.1 _ (by omega)).2]; exact h4
    have t2 : tg μ1 (53 + 2 * e) = 8 := a5.1
    have n3 : NW (fun c => c = 48) μ1 (setr μ1 48 e (53 + 2 * e)) := NW.sr a2.2.2.2 rfl
    have gr3 : ∀ c j, gr (setr μ1 48 e (53 + 2 * e)) c j = if c = 48 ∧ j = e then 53 + 2 * e else gr μ1 c j := fun c j => by rw [gr_setr]
    have e8 : e < 8 := by omega
    obtain ⟨μ', y1, y2, y3, y4, y5⟩ := ih (e + 1) (setr μ1 48 e (53 + 2 * e)) (by omega) (by rw [sz_setr, a3, sz_al]; omega) n3.2.2.2 (by rw [tg_setr, (n2.2.1 2 (by omega)).1]; exact h1) (by rw [gr3, if_neg (by omega), g1 2 (by omega)]; exact h2) t1 l1 (fun e' he' => by
      by_cases q : e' = e
      · subst q
        refine ⟨by rw [gr3, if_pos ⟨rfl, rfl⟩], a5.nw n3 (by rw [a3, sz_al]; omega) ⟨by omega, by omega⟩⟩
      · obtain ⟨v1, v2⟩ := hv e' (by omega)
        refine ⟨by rw [gr3, if_neg (by omega), g1 _ (by omega)]; exact v1, (v2.nw n2 (by omega) ⟨by omega, by omega⟩).nw n3 (by rw [a3, sz_al]; omega) ⟨by omega, by omega⟩⟩)
    refine ⟨μ', ?_, n2.tr (n3.tr y2), y3, by rw [y4, sl_setr, a4, sl_al]; omega, y5⟩
    rw [st77_42]
    rw [← hs] at a1 t2 y1
    simp only [st77_43, st77_44, st77_45, st77_46, st77_47, st77_48, st77_49, st77_50, st77_51, st77_52, st77_53, st77_54, st77_55, h1, h2, h3, h4, alA, alB, alC, alD, alE, and_self, show Int32.ofNat 8 = E 8 from rfl, cx, tg_alc, gr_alc, show (sz μ = 0) = False from eq_false (by omega), show ¬ 2 = sz μ by omega, a1, t1, l1, t2, E_ge0 (show e < 1000 by omega), E_n (show e < 1000 by omega), e8, or_true, true_or, false_or, show (((8 : Nat) == 8) = true) = True from eq_true rfl, show E e + 1 = E (e + 1) from E_add e 1, aft_some, Option.toList_some, Option.toList_none, List.cons_append, List.nil_append, br0, br1, br2, br3, zr01, zr02, n10, n01, ne_eq, not_true_eq_false, not_false_eq_true, if_true, if_false, true_and, and_true, and_self]
    exact y1
/-- a town is made -/
theorem f77_t {d : Nat} {μ : SMem} {T : Nat} (hT : 3 ≤ T) (hs : sz μ = T) (hu : ∀ c, sz μ ≤ c → tg μ c = 99) : ∃ μ', cl (d + 1) 65 [Sum.inr (Sum.inl (T))] (alloc μ 10 0 5) = some (Sum.inl none, μ') ∧ NW (fun _ => False) μ μ' ∧ sz μ' = T + 15 ∧ sl μ' = sl μ + 95 ∧ TwC μ' T A0 := by
  have n1 : NW (fun _ => False) μ (alloc μ 10 0 5) := NW.al hu
  obtain ⟨μ', a1, a2, a3, a4, a5⟩ := f65 (d := d) (T := T) (μ := alloc μ 10 0 5) (by omega) (by rw [tg_alc, if_pos hs.symm]) (by rw [sz_al, hs]) n1.2.2.2
  exact ⟨μ', a1, ⟨by rw [a3]; omega, fun c hc => ⟨(a2.2.1 c (by rw [sz_al]; omega)).1.trans (n1.2.1 c hc).1, (a2.2.1 c (by rw [sz_al]; omega)).2.trans (n1.2.1 c hc).2⟩, fun c hc hn => ⟨(a2.2.2.1 c (by rw [sz_al]; omega) (by omega)).1.trans (n1.2.2.1 c hc hn).1, (a2.2.2.1 c (by rw [sz_al]; omega) (by omega)).2.trans (n1.2.2.1 c hc hn).2⟩, a2.2.2.2⟩, a3, by rw [a4, sl_al], a5⟩
theorem TwC.nw {O : Nat → Prop} {μ μ' : SMem} {T : Nat} {A : AT} (h : TwC μ T A) (hn : NW O μ μ') (hu : ∀ c, sz μ ≤ c → tg μ c = 99) (hl : sl μ ≤ sl μ') (h2 : 2 ≤ sz μ) (ho : ∀ c, O c → c ≠ 1 ∧ (c < T ∨ T + 15 ≤ c) ∧ isRd (tg μ c) = false) : TwC μ' T A :=
  h.sg (hn.sg hu hl (fun e => (ho 1 e).1 rfl) h2) (fun c _ p => (ho c p).2) (fun c _ p => (ho c p).2.1)
/-- the class's object is made -/
theorem f77 {d : Nat} {μ : SMem} (h1 : tg μ 2 = 11) (hs : sz μ = 3) (hu : ∀ c, sz μ ≤ c → tg μ c = 99) (hg : ∀ j, gi μ 2 j = 0) : ∃ μ', cl (d + 2) 77 [Sum.inr (Sum.inl (2))] μ = some (Sum.inl none, μ') ∧ NW (fun c => c = 2) μ μ' ∧ sz μ' = 69 ∧ sl μ ≤ sl μ' ∧ sl μ' ≤ sl μ + 2000 ∧ CAo μ' ∧ gi μ' 2 3 = 0 ∧ (TwC μ' 3 A0 ∧ TwC μ' 18 A0 ∧ TwC μ' 33 A0) ∧ (∀ e, e < 8 → SQ μ' e) := by
  have Fk : ∀ {a b : SMem}, NW (fun _ => False) a b → NW (fun c => c = 2) a b := fun h => h.wk (fun c _ e => e.elim)
  obtain ⟨μ1, a1, a2, a3, a4, a5⟩ := f77_t (d := d) (T := 3) (by omega) hs hu
  have t1 : tg μ1 2 = 11 := by rw [(a2.2.1 2 (by omega)).1]; exact h1
  have n1 : NW (fun c => c = 2) μ1 (setr μ1 2 0 3) := NW.sr a2.2.2.2 rfl
  have b5 := a5.nw n1 a2.2.2.2 (Nat.le_refl _) (by omega) (fun c e => ⟨by omega, by omega, by rw [e, t1]; rfl⟩)
  obtain ⟨μ2, c1, c2, c3, c4, c5⟩ := f77_t (d := d) (T := 18) (μ := setr μ1 2 0 3) (by omega) a3 n1.2.2.2
  have t2 : tg μ2 2 = 11 := by rw [(c2.2.1 2 (by show 2 < sz μ1; omega)).1]; exact t1
  have r2 : gr μ2 2 = gr (setr μ1 2 0 3) 2 := (c2.2.2.1 2 (by show 2 < sz μ1; omega) (fun e => e)).2
  have b5' := b5.nw c2 n1.2.2.2 (by show sl μ1 ≤ _; rw [c4]; show sl μ1 ≤ sl μ1 + 95; omega) (by show 2 ≤ sz μ1; omega) (fun c e => e.elim)
  have n2 : NW (fun c => c = 2) μ2 (setr μ2 2 1 18) := NW.sr c2.2.2.2 rfl
  have b6 := b5'.nw n2 c2.2.2.2 (Nat.le_refl _) (by omega) (fun c e => ⟨by omega, by omega, by rw [e, t2]; rfl⟩)
  have b7 := c5.nw n2 c2.2.2.2 (Nat.le_refl _) (by omega) (fun c e => ⟨by omega, by omega, by rw [e, t2]; rfl⟩)
  obtain ⟨μ3, e1, e2, e3, e4, e5⟩ := f77_t (d := d) (T := 33) (μ := setr μ2 2 1 18) (by omega) c3 n2.2.2.2
  have t3 : tg μ3 2 = 11 := by rw [(e2.2.1 2 (by show 2 < sz μ2; omega)).1]; exact t2
  have r3 : gr μ3 2 = gr (setr μ2 2 1 18) 2 := (e2.2.2.1 2 (by show 2 < sz μ2; omega) (fun e => e)).2
  have sl3 : sl μ3 = sl μ + 285 := by rw [e4]; show sl μ2 + 95 = _; rw [c4]; show sl μ1 + 95 + 95 = _; rw [a4]
  have b6' := b6.nw e2 n2.2.2.2 (by show sl μ2 ≤ _; rw [e4]; show sl μ2 ≤ sl μ2 + 95; omega) (by show 2 ≤ sz μ2; omega) (fun c e => e.elim)
  have b7' := b7.nw e2 n2.2.2.2 (by show sl μ2 ≤ _; rw [e4]; show sl μ2 ≤ sl μ2 + 95; omega) (by show 2 ≤ sz μ2; omega) (fun c e => e.elim)
  have nA : NW (fun c => c = 2) μ μ3 := (Fk a2).tr (n1.tr ((Fk c2).tr (n2.tr (Fk e2))))
  have gr0 : ∀ j, gr μ3 2 j = if j = 1 then 18 else if j = 0 then 3 else gr μ1 2 j := fun j => by
    rw [r3, gr_setr]
    by_cases q : j = 1
    · rw [if_pos ⟨rfl, q⟩, if_pos q]
    · rw [if_neg (fun h => q h.2), if_neg q, r2, gr_setr]
      by_cases q2 : j = 0
      · rw [if_pos ⟨rfl, q2⟩, if_pos q2]
      · rw [if_neg (fun h => q2 h.2), if_neg q2]
  -- rows of the class
  have z8 : ((0 : Int32) ≤ 8) = True := eq_true (by decide)
  have z4 : ((0 : Int32) ≤ 4) = True := eq_true (by decide)
  have z6 : ((0 : Int32) ≤ 6) = True := eq_true (by decide)
  have z7 : ((0 : Int32) ≤ 7) = True := eq_true (by decide)
  have k8 : (8 : Int32).toNatClampNeg = 8 := rfl
  have k4 : (4 : Int32).toNatClampNeg = 4 := rfl
  have k6 : (6 : Int32).toNatClampNeg = 6 := rfl
  have k7 : (7 : Int32).toNatClampNeg = 7 := rfl
  have m8 : ((8 : Nat) ≤ 1000) = True := eq_true (by decide)
  have m4 : ((4 : Nat) ≤ 1000) = True := eq_true (by decide)
  have m6 : ((6 : Nat) ≤ 1000) = True := eq_true (by decide)
  have m7 : ((7 : Nat) ≤ 1000) = True := eq_true (by decide)
  have hu3 := e2.2.2.2
  obtain ⟨μ4, q1⟩ : ∃ μ4, μ4 = setr (alloc (setr (alloc (setr (alloc (setr (alloc (setr (alloc (seti (setr μ3 2 2 33) 2 3 0) 54 8 8) 2 4 48) 50 4 4) 2 5 49) 50 6 6) 2 6 50) 50 7 7) 2 7 51) 50 7 7) 2 8 52 := ⟨_, rfl⟩
  have E0 : rn (d + 2) 77 0 [some (Sum.inr (Sum.inl (2))), none] [] μ = rn (d + 2) 77 42 [some (Sum.inr (Sum.inl (2))), some (Sum.inl (E 0))] [] μ4 := by
    rw [q1]
    simp only [st77_0, st77_1, st77_2, st77_3, st77_4, st77_5, hs, show ((2 : Nat) = 0) = False from eq_false (by decide), show ((3 : Nat) = 0) = False from eq_false (by decide), ne_eq, not_false_eq_true, a1, aft_some, Option.toList_some, Option.toList_none, List.cons_append, List.nil_append, br0, br1, br2, br3, zr01, zr02, n10, n01, ne_eq, not_true_eq_false, not_false_eq_true, if_true, if_false, true_and, and_true, and_self]
    simp only [st77_6, st77_7, st77_8, st77_9, st77_10, t1, sz_setr, a3, show ((3 + 15 : Nat)) = 18 from rfl, show ((18 : Nat) = 0) = False from eq_false (by decide), c1, true_or, aft_some, Option.toList_some, Option.toList_none, List.cons_append, List.nil_append, br0, br1, br2, br3, zr01, zr02, n10, n01, ne_eq, not_true_eq_false, not_false_eq_true, if_true, if_false, true_and, and_true, and_self]
    simp only [st77_11, st77_12, st77_13, st77_14, st77_15, t2, sz_setr, c3, show ((18 + 15 : Nat)) = 33 from rfl, show ((33 : Nat) = 0) = False from eq_false (by decide), e1, true_or, aft_some, Option.toList_some, Option.toList_none, List.cons_append, List.nil_append, br0, br1, br2, br3, zr01, zr02, n10, n01, ne_eq, not_true_eq_false, not_false_eq_true, if_true, if_false, true_and, and_true, and_self]
    simp only [st77_16, st77_17, st77_18, st77_19, st77_20, st77_21, st77_22, st77_23, st77_24, st77_25, st77_26, st77_27, st77_28, st77_29, st77_30, st77_31, st77_32, st77_33, st77_34, st77_35, st77_36, st77_37, st77_38, st77_39, st77_40, st77_41, t3, gi_seti, gi_setr, gi_setl, gi_setrow, gr_seti, gr_setr, gr_setl, gr_setrow, gl_seti, gl_setr, gl_setl, gl_setrow, tg_seti, tg_setr, tg_setl, tg_setrow, ln_seti, ln_setr, ln_setl, ln_setrow, sz_seti, sz_setr, sz_setl, sz_setrow, sl_seti, sl_setr, sl_setl, sl_setrow, tg_alc, sz_al, e3, show ((33 + 15 : Nat)) = 48 from rfl, z8, z4, z6, z7, k8, k4, k6, k7, m8, m4, m6, m7, show ((2 : Nat) = 48) = False from eq_false (by decide), show ((2 : Nat) = 48 + 1) = False from eq_false (by decide), show ((2 : Nat) = 48 + 1 + 1) = False from eq_false (by decide), show ((2 : Nat) = 48 + 1 + 1 + 1) = False from eq_false (by decide), show ((2 : Nat) = 48 + 1 + 1 + 1 + 1) = False from eq_false (by decide), true_or, or_true, aft_some, Option.toList_some, Option.toList_none, List.cons_append, List.nil_append, br0, br1, br2, br3, zr01, zr02, n10, n01, ne_eq, not_true_eq_false, not_false_eq_true, if_true, if_false, true_and, and_true, and_self]
    rfl
  have f1 : NW (fun c => c = 2) μ3 (setr μ3 2 2 33) := NW.sr hu3 rfl
  have f2 : NW (fun c => c = 2) (setr μ3 2 2 33) (seti (setr μ3 2 2 33) 2 3 0) := NW.si f1.2.2.2 rfl
  have f3 : NW (fun c => c = 2) (seti (setr μ3 2 2 33) 2 3 0) (alloc (seti (setr μ3 2 2 33) 2 3 0) 54 8 8) := NW.al f2.2.2.2
  have f4' : NW (fun c => c = 2) (alloc (seti (setr μ3 2 2 33) 2 3 0) 54 8 8) (setr (alloc (seti (setr μ3 2 2 33) 2 3 0) 54 8 8) 2 4 48) := NW.sr f3.2.2.2 rfl
  have f5' : NW (fun c => c = 2) (setr (alloc (seti (setr μ3 2 2 33) 2 3 0) 54 8 8) 2 4 48) (alloc (setr (alloc (seti (setr μ3 2 2 33) 2 3 0) 54 8 8) 2 4 48) 50 4 4) := NW.al f4'.2.2.2
  have f6' : NW (fun c => c = 2) (alloc (setr (alloc (seti (setr μ3 2 2 33) 2 3 0) 54 8 8) 2 4 48) 50 4 4) (setr (alloc (setr (alloc (seti (setr μ3 2 2 33) 2 3 0) 54 8 8) 2 4 48) 50 4 4) 2 5 49) := NW.sr f5'.2.2.2 rfl
  have f7' : NW (fun c => c = 2) (setr (alloc (setr (alloc (seti (setr μ3 2 2 33) 2 3 0) 54 8 8) 2 4 48) 50 4 4) 2 5 49) (alloc (setr (alloc (setr (alloc (seti (setr μ3 2 2 33) 2 3 0) 54 8 8) 2 4 48) 50 4 4) 2 5 49) 50 6 6) := NW.al f6'.2.2.2
  have f8' : NW (fun c => c = 2) (alloc (setr (alloc (setr (alloc (seti (setr μ3 2 2 33) 2 3 0) 54 8 8) 2 4 48) 50 4 4) 2 5 49) 50 6 6) (setr (alloc (setr (alloc (setr (alloc (seti (setr μ3 2 2 33) 2 3 0) 54 8 8) 2 4 48) 50 4 4) 2 5 49) 50 6 6) 2 6 50) := NW.sr f7'.2.2.2 rfl
  have f9' : NW (fun c => c = 2) (setr (alloc (setr (alloc (setr (alloc (seti (setr μ3 2 2 33) 2 3 0) 54 8 8) 2 4 48) 50 4 4) 2 5 49) 50 6 6) 2 6 50) (alloc (setr (alloc (setr (alloc (setr (alloc (seti (setr μ3 2 2 33) 2 3 0) 54 8 8) 2 4 48) 50 4 4) 2 5 49) 50 6 6) 2 6 50) 50 7 7) := NW.al f8'.2.2.2
  have f10' : NW (fun c => c = 2) (alloc (setr (alloc (setr (alloc (setr (alloc (seti (setr μ3 2 2 33) 2 3 0) 54 8 8) 2 4 48) 50 4 4) 2 5 49) 50 6 6) 2 6 50) 50 7 7) (setr (alloc (setr (alloc (setr (alloc (setr (alloc (seti (setr μ3 2 2 33) 2 3 0) 54 8 8) 2 4 48) 50 4 4) 2 5 49) 50 6 6) 2 6 50) 50 7 7) 2 7 51) := NW.sr f9'.2.2.2 rfl
  have f11' : NW (fun c => c = 2) (setr (alloc (setr (alloc (setr (alloc (setr (alloc (seti (setr μ3 2 2 33) 2 3 0) 54 8 8) 2 4 48) 50 4 4) 2 5 49) 50 6 6) 2 6 50) 50 7 7) 2 7 51) (alloc (setr (alloc (setr (alloc (setr (alloc (setr (alloc (seti (setr μ3 2 2 33) 2 3 0) 54 8 8) 2 4 48) 50 4 4) 2 5 49) 50 6 6) 2 6 50) 50 7 7) 2 7 51) 50 7 7) := NW.al f10'.2.2.2
  have f12' : NW (fun c => c = 2) (alloc (setr (alloc (setr (alloc (setr (alloc (setr (alloc (seti (setr μ3 2 2 33) 2 3 0) 54 8 8) 2 4 48) 50 4 4) 2 5 49) 50 6 6) 2 6 50) 50 7 7) 2 7 51) 50 7 7) μ4 := by rw [q1]; exact NW.sr f11'.2.2.2 rfl
  have nB : NW (fun c => c = 2) μ3 μ4 := f1.tr (f2.tr (f3.tr (f4'.tr (f5'.tr (f6'.tr (f7'.tr (f8'.tr (f9'.tr (f10'.tr (f11'.tr f12'))))))))))
  have s4 : sz μ4 = 53 := by rw [q1]; show sz μ3 + 1 + 1 + 1 + 1 + 1 = 53; omega
  have l4 : sl μ4 = sl μ3 + 32 := by rw [q1]; rfl
  have T4 : ∀ c, tg μ4 c = if c = 52 then 50 else if c = 51 then 50 else if c = 50 then 50 else if c = 49 then 50 else if c = 48 then 54 else tg μ3 c := fun c => by
    rw [q1]
    simp only [tg_setr, tg_seti, tg_alc, sz_setr, sz_seti, sz_al, e3, Nat.reduceAdd]
  have L4 : ∀ c, ln μ4 c = if c = 52 then 7 else if c = 51 then 7 else if c = 50 then 6 else if c = 49 then 4 else if c = 48 then 8 else ln μ3 c := fun c => by
    rw [q1]
    simp only [ln_setr, ln_seti, ln_alc, sz_setr, sz_seti, sz_al, e3, Nat.reduceAdd]
  have G4 : gi μ4 2 3 = 0 := by
    rw [q1]
    simp only [gi_setr, gi_alc, sz_setr, sz_seti, sz_al, e3, Nat.reduceAdd, Nat.reduceEqDiff, if_false, gi_seti, and_self, if_true]
  have R4 : ∀ j, gr μ4 2 j = if j = 8 then 52 else if j = 7 then 51 else if j = 6 then 50 else if j = 5 then 49 else if j = 4 then 48 else if j = 2 then 33 else gr μ3 2 j := fun j => by
    rw [q1]
    simp only [gr_setr, gr_alc, gr_seti, sz_setr, sz_seti, sz_al, e3, Nat.reduceAdd, Nat.reduceEqDiff, if_false, true_and]
  have hu4 := nB.2.2.2
  obtain ⟨μ5, g1, g2, g3, g4, g5⟩ := f77_lp (d := d + 1) 8 0 μ4 rfl s4 hu4 (by rw [T4]; simp only [Nat.reduceEqDiff, if_false]; exact t3) (by rw [R4]; rfl) (by rw [T4]; rfl) (by rw [L4]; rfl) (fun e' he' => by omega)
  have t4 : tg μ4 2 = 11 := by rw [T4]; simp only [Nat.reduceEqDiff, if_false]; exact t3
  have x3 := (b6'.nw nB hu3 (by omega) (by omega) (fun c e => ⟨by omega, by omega, by rw [e, t3]; rfl⟩)).nw g2 hu4 (by omega) (by omega) (fun c e => ⟨by omega, by omega, by rw [e, T4]; rfl⟩)
  have x18 := (b7'.nw nB hu3 (by omega) (by omega) (fun c e => ⟨by omega, by omega, by rw [e, t3]; rfl⟩)).nw g2 hu4 (by omega) (by omega) (fun c e => ⟨by omega, by omega, by rw [e, T4]; rfl⟩)
  have x33 := (e5.nw nB hu3 (by omega) (by omega) (fun c e => ⟨by omega, by omega, by rw [e, t3]; rfl⟩)).nw g2 hu4 (by omega) (by omega) (fun c e => ⟨by omega, by omega, by rw [e, T4]; rfl⟩)
  have R5 : gr μ5 2 = gr μ4 2 := (g2.2.2.1 2 (by omega) (by omega)).2
  have T5 : ∀ c, c < 53 → tg μ5 c = tg μ4 c ∧ ln μ5 c = ln μ4 c := fun c hc => g2.2.1 c (by omega)
  have hAB := nA.tr nB
  refine ⟨μ5, ?_, ⟨by omega, fun c hc => ⟨(g2.2.1 c (by omega)).1.trans (hAB.2.1 c hc).1, (g2.2.1 c (by omega)).2.trans (hAB.2.1 c hc).2⟩, fun c hc hn => ⟨(g2.2.2.1 c (by omega) (by omega)).1.trans (hAB.2.2.1 c hc hn).1, (g2.2.2.1 c (by omega) (by omega)).2.trans (hAB.2.2.1 c hc hn).2⟩, g2.2.2.2⟩, g3, by omega, by omega, ?_, ?_, ⟨x3, x18, x33⟩, fun e he => (g5 e he).2⟩
  · show rn (d + 2) 77 0 [some (Sum.inr (Sum.inl (2))), none] [] μ = _
    rw [E0]
    exact g1
  · refine ⟨by rw [(T5 2 (by omega)).1]; exact t4, by rw [R5, R4]; simp only [Nat.reduceEqDiff, if_false]; rw [gr0]; rfl, by rw [R5, R4]; simp only [Nat.reduceEqDiff, if_false]; rw [gr0]; rfl, by rw [R5, R4]; rfl, by rw [R5, R4]; rfl, by rw [R5, R4]; rfl, by rw [R5, R4]; rfl, by rw [R5, R4]; rfl, by rw [R5, R4]; rfl, ⟨by rw [(T5 48 (by omega)).1, T4]; rfl, by rw [(T5 49 (by omega)).1, T4]; rfl, by rw [(T5 50 (by omega)).1, T4]; rfl, by rw [(T5 51 (by omega)).1, T4]; rfl, by rw [(T5 52 (by omega)).1, T4]; rfl⟩, ⟨by rw [(T5 48 (by omega)).2, L4]; rfl, by rw [(T5 49 (by omega)).2, L4]; rfl, by rw [(T5 50 (by omega)).2, L4]; rfl, by rw [(T5 51 (by omega)).2, L4]; rfl, by rw [(T5 52 (by omega)).2, L4]; rfl⟩, fun e he => ?_⟩
    obtain ⟨y1, y2, y3, y4, y5, y6, y7, y8⟩ := g5 e he
    exact ⟨y1, y2, y4, y6, y7⟩
  · rw [(g2.2.2.1 2 (by omega) (by omega)).1]; exact G4
/-- the reference's object is made -/
theorem f137 {d : Nat} {μ : SMem} (h1 : tg μ 69 = 12) (hs : sz μ = 70) (hu : ∀ c, sz μ ≤ c → tg μ c = 99) : ∃ μ', cl d 137 [Sum.inr (Sum.inl (69))] μ = some (Sum.inl none, μ') ∧ NW (fun c => c = 69) μ μ' ∧ sz μ' = 83 ∧ sl μ' = sl μ + 1207 ∧ MA μ' ∧ gi μ' 69 = gi μ 69 ∧ (∀ c j, 70 ≤ c → c < 83 → gi μ' c j = 0) := by
  obtain ⟨μ', q1⟩ : ∃ μ', μ' = (setr (alloc (setr (alloc (setr (alloc (setr (alloc (setr (alloc (setr (alloc (setr (alloc (setr (alloc (setr (alloc (setr (alloc (setr (alloc (setr (alloc (setr (alloc μ 50 87 87) 69 0 70) 50 87 87) 69 1 71) 50 87 87) 69 2 72) 50 87 87) 69 3 73) 50 8 8) 69 4 74) 50 8 8) 69 5 75) 50 8 8) 69 6 76) 50 800 800) 69 7 77) 50 8 8) 69 8 78) 50 8 8) 69 9 79) 50 3 3) 69 15 80) 50 6 6) 69 16 81) 50 10 10) 69 19 82) := ⟨_, rfl⟩
  have z3 : ((0 : Int32) ≤ 3) = True := eq_true (by decide)
  have k3 : (3 : Int32).toNatClampNeg = 3 := rfl
  have d3 : ((3 : Nat) ≤ 1000) = True := eq_true (by decide)
  have z6 : ((0 : Int32) ≤ 6) = True := eq_true (by decide)
  have k6 : (6 : Int32).toNatClampNeg = 6 := rfl
  have d6 : ((6 : Nat) ≤ 1000) = True := eq_true (by decide)
  have z8 : ((0 : Int32) ≤ 8) = True := eq_true (by decide)
  have k8 : (8 : Int32).toNatClampNeg = 8 := rfl
  have d8 : ((8 : Nat) ≤ 1000) = True := eq_true (by decide)
  have z10 : ((0 : Int32) ≤ 10) = True := eq_true (by decide)
  have k10 : (10 : Int32).toNatClampNeg = 10 := rfl
  have d10 : ((10 : Nat) ≤ 1000) = True := eq_true (by decide)
  have z87 : ((0 : Int32) ≤ 87) = True := eq_true (by decide)
  have k87 : (87 : Int32).toNatClampNeg = 87 := rfl
  have d87 : ((87 : Nat) ≤ 1000) = True := eq_true (by decide)
  have z800 : ((0 : Int32) ≤ 800) = True := eq_true (by decide)
  have k800 : (800 : Int32).toNatClampNeg = 800 := rfl
  have d800 : ((800 : Nat) ≤ 1000) = True := eq_true (by decide)
  have e0 : cl d 137 [Sum.inr (Sum.inl (69))] μ = some (Sum.inl none, μ') := by
    show rn d 137 0 [some (Sum.inr (Sum.inl (69)))] [] μ = _
    rw [q1]
    simp only [st137_0, st137_1, st137_2, st137_3, st137_4, st137_5, st137_6, st137_7, st137_8, st137_9, st137_10, st137_11, st137_12, st137_13, st137_14, st137_15, st137_16, st137_17, st137_18, st137_19, st137_20, st137_21, st137_22, st137_23, st137_24, st137_25, st137_26, st137_27, st137_28, st137_29, st137_30, st137_31, st137_32, st137_33, st137_34, st137_35, st137_36, st137_37, st137_38, st137_39, st137_40, st137_41, st137_42, st137_43, st137_44, st137_45, st137_46, st137_47, st137_48, st137_49, st137_50, st137_51, st137_52, st137_53, st137_54, show ((69 : Nat) = 0) = False from eq_false (by decide), ne_eq, not_false_eq_true, h1, hs, tg_setr, tg_alc, sz_al, sz_setr, Nat.reduceAdd, Nat.reduceEqDiff, if_false, true_or, or_true, z3, k3, d3, z6, k6, d6, z8, k8, d8, z10, k10, d10, z87, k87, d87, z800, k800, d800, aft_some, Option.toList_some, Option.toList_none, List.cons_append, List.nil_append, br0, br1, br2, br3, zr01, zr02, n10, n01, ne_eq, not_true_eq_false, not_false_eq_true, if_true, if_false, true_and, and_true, and_self]
  have hn : NW (fun c => c = 69) μ μ' := by
    rw [q1]
    have n0 : NW (fun c => c = 69) μ μ := ⟨Nat.le_refl _, fun _ _ => ⟨rfl, rfl⟩, fun _ _ _ => ⟨rfl, rfl⟩, hu⟩
    have n1 := n0.tr (NW.al (O := fun c => c = 69) (t := 50) (n := 87) (w := 87) n0.2.2.2)
    have n2 := n1.tr (NW.sr (O := fun c => c = 69) (a := 69) (k := 0) (x := 70) n1.2.2.2 rfl)
    have n3 := n2.tr (NW.al (O := fun c => c = 69) (t := 50) (n := 87) (w := 87) n2.2.2.2)
    have n4 := n3.tr (NW.sr (O := fun c => c = 69) (a := 69) (k := 1) (x := 71) n3.2.2.2 rfl)
    have n5 := n4.tr (NW.al (O := fun c => c = 69) (t := 50) (n := 87) (w := 87) n4.2.2.2)
    have n6 := n5.tr (NW.sr (O := fun c => c = 69) (a := 69) (k := 2) (x := 72) n5.2.2.2 rfl)
    have n7 := n6.tr (NW.al (O := fun c => c = 69) (t := 50) (n := 87) (w := 87) n6.2.2.2)
    have n8 := n7.tr (NW.sr (O := fun c => c = 69) (a := 69) (k := 3) (x := 73) n7.2.2.2 rfl)
    have n9 := n8.tr (NW.al (O := fun c => c = 69) (t := 50) (n := 8) (w := 8) n8.2.2.2)
    have n10 := n9.tr (NW.sr (O := fun c => c = 69) (a := 69) (k := 4) (x := 74) n9.2.2.2 rfl)
    have n11 := n10.tr (NW.al (O := fun c => c = 69) (t := 50) (n := 8) (w := 8) n10.2.2.2)
    have n12 := n11.tr (NW.sr (O := fun c => c = 69) (a := 69) (k := 5) (x := 75) n11.2.2.2 rfl)
    have n13 := n12.tr (NW.al (O := fun c => c = 69) (t := 50) (n := 8) (w := 8) n12.2.2.2)
    have n14 := n13.tr (NW.sr (O := fun c => c = 69) (a := 69) (k := 6) (x := 76) n13.2.2.2 rfl)
    have n15 := n14.tr (NW.al (O := fun c => c = 69) (t := 50) (n := 800) (w := 800) n14.2.2.2)
    have n16 := n15.tr (NW.sr (O := fun c => c = 69) (a := 69) (k := 7) (x := 77) n15.2.2.2 rfl)
    have n17 := n16.tr (NW.al (O := fun c => c = 69) (t := 50) (n := 8) (w := 8) n16.2.2.2)
    have n18 := n17.tr (NW.sr (O := fun c => c = 69) (a := 69) (k := 8) (x := 78) n17.2.2.2 rfl)
    have n19 := n18.tr (NW.al (O := fun c => c = 69) (t := 50) (n := 8) (w := 8) n18.2.2.2)
    have n20 := n19.tr (NW.sr (O := fun c => c = 69) (a := 69) (k := 9) (x := 79) n19.2.2.2 rfl)
    have n21 := n20.tr (NW.al (O := fun c => c = 69) (t := 50) (n := 3) (w := 3) n20.2.2.2)
    have n22 := n21.tr (NW.sr (O := fun c => c = 69) (a := 69) (k := 15) (x := 80) n21.2.2.2 rfl)
    have n23 := n22.tr (NW.al (O := fun c => c = 69) (t := 50) (n := 6) (w := 6) n22.2.2.2)
    have n24 := n23.tr (NW.sr (O := fun c => c = 69) (a := 69) (k := 16) (x := 81) n23.2.2.2 rfl)
    have n25 := n24.tr (NW.al (O := fun c => c = 69) (t := 50) (n := 10) (w := 10) n24.2.2.2)
    have n26 := n25.tr (NW.sr (O := fun c => c = 69) (a := 69) (k := 19) (x := 82) n25.2.2.2 rfl)
    exact n26
  have T : ∀ c, tg μ' c = if c = 82 then 50 else if c = 81 then 50 else if c = 80 then 50 else if c = 79 then 50 else if c = 78 then 50 else if c = 77 then 50 else if c = 76 then 50 else if c = 75 then 50 else if c = 74 then 50 else if c = 73 then 50 else if c = 72 then 50 else if c = 71 then 50 else if c = 70 then 50 else tg μ c := fun c => by
    rw [q1]
    simp only [tg_setr, tg_alc, sz_setr, sz_al, hs, Nat.reduceAdd]
  have L : ∀ c, ln μ' c = if c = 82 then 10 else if c = 81 then 6 else if c = 80 then 3 else if c = 79 then 8 else if c = 78 then 8 else if c = 77 then 800 else if c = 76 then 8 else if c = 75 then 8 else if c = 74 then 8 else if c = 73 then 87 else if c = 72 then 87 else if c = 71 then 87 else if c = 70 then 87 else ln μ c := fun c => by
    rw [q1]
    simp only [ln_setr, ln_alc, sz_setr, sz_al, hs, Nat.reduceAdd]
  have R : ∀ j, gr μ' 69 j = if j = 19 then 82 else if j = 16 then 81 else if j = 15 then 80 else if j = 9 then 79 else if j = 8 then 78 else if j = 7 then 77 else if j = 6 then 76 else if j = 5 then 75 else if j = 4 then 74 else if j = 3 then 73 else if j = 2 then 72 else if j = 1 then 71 else if j = 0 then 70 else gr μ 69 j := fun j => by
    rw [q1]
    simp only [gr_setr, gr_alc, sz_setr, sz_al, hs, Nat.reduceAdd, Nat.reduceEqDiff, if_false, true_and]
  have G : ∀ c j, gi μ' c j = if c = 82 then 0 else if c = 81 then 0 else if c = 80 then 0 else if c = 79 then 0 else if c = 78 then 0 else if c = 77 then 0 else if c = 76 then 0 else if c = 75 then 0 else if c = 74 then 0 else if c = 73 then 0 else if c = 72 then 0 else if c = 71 then 0 else if c = 70 then 0 else gi μ c j := fun c j => by
    rw [q1]
    simp only [gi_setr, gi_alc, sz_setr, sz_al, hs, Nat.reduceAdd]
  refine ⟨μ', e0, hn, ?_, ?_, ?_, ?_, fun c j hc1 hc2 => ?_⟩
  · rw [q1]; simp only [sz_setr, sz_al, hs, Nat.reduceAdd]
  · rw [q1]; simp only [sl_setr, sl_al]
  · exact ⟨by rw [T]; exact h1, by rw [R]; rfl, by rw [R]; rfl, by rw [R]; rfl, by rw [R]; rfl, by rw [R]; rfl, by rw [R]; rfl, by rw [R]; rfl, by rw [R]; rfl, by rw [R]; rfl, by rw [R]; rfl, by rw [R]; rfl, by rw [R]; rfl, by rw [R]; rfl, ⟨by rw [T]; rfl, by rw [T]; rfl, by rw [T]; rfl, by rw [T]; rfl, by rw [T]; rfl, by rw [T]; rfl, by rw [T]; rfl, by rw [T]; rfl, by rw [T]; rfl, by rw [T]; rfl, by rw [T]; rfl, by rw [T]; rfl, by rw [T]; rfl⟩, by rw [L]; rfl, by rw [L]; rfl, by rw [L]; rfl, by rw [L]; rfl, by rw [L]; rfl, by rw [L]; rfl, by rw [L]; rfl, by rw [L]; rfl, by rw [L]; rfl, by rw [L]; rfl, by rw [L]; rfl, by rw [L]; rfl, by rw [L]; rfl⟩
  · exact funext fun j => by rw [G]; rfl
  · rw [G]
    have : c = 70 ∨ c = 71 ∨ c = 72 ∨ c = 73 ∨ c = 74 ∨ c = 75 ∨ c = 76 ∨ c = 77 ∨ c = 78 ∨ c = 79 ∨ c = 80 ∨ c = 81 ∨ c = 82 := by omega
    rcases this with q | q | q | q | q | q | q | q | q | q | q | q | q <;> subst q <;> rfl
def H0 (L : Nat) (xs : Nat → Int32) : Nat → HT := fun e => if e = 8 then ((0, 0, L, 0, 0), xs) else ((0, 0, 0, 0, 0), fun _ => 0)
theorem H0_8 {L : Nat} {xs : Nat → Int32} : H0 L xs 8 = ((0, 0, L, 0, 0), xs) := rfl
/-- the law's start -/
theorem law_0 {d L : Nat} {xs : Nat → Int32} {μ : SMem} (hs : sz μ = 2) (hu : ∀ c, tg μ c = 99) (hL : ln μ 1 = L) (hx : ∀ j, gi μ 1 j = xs j) : ∃ μ', rn (d + 13) 228 0 [some (Sum.inr (Sum.inl (1))), none, none, none, none, none, none, none] [] μ = rn (d + 13) 228 13 [some (Sum.inr (Sum.inl (1))), some (Sum.inr (Sum.inl (2))), some (Sum.inr (Sum.inl (69))), some (Sum.inr (Sum.inl (83))), some (Sum.inl (E 0)), none, none, none] [] μ' ∧ INVw μ' A0 A0 0 (H0 L xs) ∧ sz μ' = 84 ∧ sl μ' ≤ sl μ + 4000 := by
  have n1 : NW (fun _ => False) μ (alloc μ 11 0 9) := NW.al (fun c _ => hu c)
  obtain ⟨μ1, a1, a2, a3, a4, a4', a5, a6, ⟨a7, a8, a9⟩, a10⟩ := f77 (d := d + 10) (μ := alloc μ 11 0 9) (by rw [tg_alc, if_pos (by omega)]) (by rw [sz_al, hs]) n1.2.2.2 (fun j => by rw [gi_alc, if_pos (by omega)])
  have hu1 := a2.2.2.2
  have n2 : NW (fun _ => False) μ1 (alloc μ1 12 0 21) := NW.al hu1
  obtain ⟨μ2, b1, b2, b3, b4, b5, b6, b7⟩ := f137 (d := d + 12) (μ := alloc μ1 12 0 21) (by rw [tg_alc, if_pos (by omega)]) (by rw [sz_al, a3]) n2.2.2.2
  have hu2 := b2.2.2.2
  have n3 : NW (fun _ => False) μ2 (alloc μ2 51 1 1) := NW.al hu2
  have n23 : NW (fun c => c = 69) μ1 (alloc μ2 51 1 1) := (n2.wk (fun c _ e => e.elim)).tr (b2.tr (n3.wk (fun c _ e => e.elim)))
  have sl23 : sl μ1 ≤ sl (alloc μ2 51 1 1) := by rw [sl_al, b4, sl_al]; omega
  have n23' : NW (fun _ => False) μ1 (alloc μ2 51 1 1) := n23.wk (fun c hc e => by omega)
  have sg23 := n23'.sg hu1 sl23 (fun e => e) (by omega)
  have g2 : ∀ c, c < 69 → gi (alloc μ2 51 1 1) c = gi μ1 c ∧ gr (alloc μ2 51 1 1) c = gr μ1 c := fun c hc => n23'.2.2.1 c (by omega) (fun e => e)
  have n3s := n3.sg hu2 (by rw [sl_al]; omega) (fun e => e) (by omega)
  have hm := b5.sg n3s (fun j q => q)
  have hc := a5.sg sg23 (fun c j q => q.elim)
  have gz : ∀ c j, 70 ≤ c → c < 83 → gi (alloc μ2 51 1 1) c j = 0 := fun c j h1 h2 => by rw [(n3.2.2.1 c (by omega) (fun e => e)).1]; exact b7 c j h1 h2
  have k3 := a7.sg sg23 (fun c j q => q.elim) (fun c j q => q.elim)
  have k18 := a8.sg sg23 (fun c j q => q.elim) (fun c j q => q.elim)
  have k33 := a9.sg sg23 (fun c j q => q.elim) (fun c j q => q.elim)
  have c1 : gi (alloc μ2 51 1 1) 1 = gi μ 1 ∧ ln (alloc μ2 51 1 1) 1 = ln μ 1 := by
    refine ⟨(g2 1 (by omega)).1.trans ((a2.2.2.1 1 (by rw [sz_al]; omega) (by omega)).1.trans (n1.2.2.1 1 (by omega) (fun e => e)).1), (n23'.2.1 1 (by omega)).2.trans ((a2.2.1 1 (by rw [sz_al]; omega)).2.trans (n1.2.1 1 (by omega)).2)⟩
  have hz3 : sz (alloc μ2 51 1 1) = 84 := by rw [sz_al, b3]
  refine ⟨alloc μ2 51 1 1, ?_, ⟨⟨hm, hc, A0_wf, k3, ?_⟩, ⟨k18.1, k33.1⟩, ⟨by decide, ?_, ?_, fun q => absurd q (by decide)⟩, fun e he => ?_, ⟨by omega, ?_⟩, n3.2.2.2⟩, hz3, ?_⟩
  · have z1 : ((0 : Int32) ≤ 1) = True := eq_true (by decide)
    have k1 : (1 : Int32).toNatClampNeg = 1 := rfl
    have d1 : ((1 : Nat) ≤ 1000) = True := eq_true (by decide)
    simp only [st228_0, st228_1, st228_2, hs, show ((2 : Nat) = 0) = False from eq_false (by decide), ne_eq, not_false_eq_true, a1, aft_some, Option.toList_some, Option.toList_none, List.cons_append, List.nil_append, br0, br1, br2, br3, zr01, zr02, n10, n01, ne_eq, not_true_eq_false, not_false_eq_true, if_true, if_false, true_and, and_true, and_self]
    simp only [st228_3, st228_4, st228_5, st228_6, a3, show ((69 : Nat) = 0) = False from eq_false (by decide), ne_eq, not_false_eq_true, b1, aft_some, Option.toList_some, Option.toList_none, List.cons_append, List.nil_append, br0, br1, br2, br3, zr01, zr02, n10, n01, ne_eq, not_true_eq_false, not_false_eq_true, if_true, if_false, true_and, and_true, and_self]
    simp only [st228_7, st228_8, st228_9, st228_10, st228_11, st228_12, b3, z1, k1, d1, aft_some, Option.toList_some, Option.toList_none, List.cons_append, List.nil_append, br0, br1, br2, br3, zr01, zr02, n10, n01, ne_eq, not_true_eq_false, not_false_eq_true, if_true, if_false, true_and, and_true, and_self]
    rfl
  · refine ⟨gz 70 0 (by omega) (by omega), gz 70 1 (by omega) (by omega), gz 70 2 (by omega) (by omega), fun b hb => absurd hb (Nat.not_lt_zero b), fun r hr => absurd hr (Nat.not_lt_zero r)⟩
  · rw [(g2 2 (by omega)).1]; exact a6
  · rw [(n3.2.2.1 69 (by omega) (fun e => e)).1, b6]
    show gi (alloc μ1 12 0 21) 69 10 = _
    rw [gi_alc, if_pos (by omega)]
    rfl
  · have hHe : H0 L xs e = ((0, 0, 0, 0, 0), fun _ => 0) := by unfold H0; rw [if_neg (by omega)]
    rw [hHe]
    obtain ⟨x1, x2, x3, x4, x5, x6, x7⟩ := (a10 e he).nw n23' (by omega) ⟨fun e => e, fun e => e⟩
    refine ⟨⟨(by decide : (0 : Nat) < 3), (by decide : (0 : Nat) < 3), Nat.zero_le _, fun q => absurd (show 0 = 1 from q) (by decide)⟩, ⟨fun i _ => x7 i, fun q => absurd (show 0 = 2 from q) (by decide), fun q => absurd (show 0 = 1 from q) (by decide), fun _ => ⟨x2, x4⟩⟩, ⟨gz 74 e (by omega) (by omega), fun q => absurd (show 0 = 2 from q) (by decide), fun q => absurd (show 0 = 1 from q) (by decide), fun i _ => gz 77 _ (by omega) (by omega)⟩⟩
  · rw [H0_8]
    refine ⟨by rw [c1.2]; exact hL, fun j => by rw [c1.1]; exact hx j, by rw [tg_alc, if_pos (by omega)], by rw [ln_alc, if_pos (by omega)]⟩
  · rw [sl_al, b4, sl_al]
    rw [sl_al] at a4'
    omega
