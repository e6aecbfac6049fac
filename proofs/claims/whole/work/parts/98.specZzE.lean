/-! SPECS ZZE: the law's start -/
theorem NW.sg {O : Nat → Prop} {μ μ' : SMem} (h : NW O μ μ') (hu : ∀ c, sz μ ≤ c → tg μ c = 99) (hl : sl μ ≤ sl μ') (h1 : ¬ O 1) (h2 : 2 ≤ sz μ) : SG (fun c _ => O c) (fun c _ => O c) μ μ' := by
  obtain ⟨a1, a2, a3, a4⟩ := h
  have lt : ∀ c, tg μ c ≠ 99 → c < sz μ := fun c hc => by
    by_cases q : c < sz μ
    · exact q
    · exact absurd (hu c (by omega)) hc
  exact ⟨fun c hc => a2 c (lt c hc), fun c j hc hn => by rw [(a3 c (lt c hc) hn).1], fun c j hc hn => by rw [(a3 c (lt c hc) hn).2], ⟨a1, (a3 1 (by omega) h1).1, (a2 1 (by omega)).2⟩, hl, a4⟩
def SQ (μ : SMem) (e : Nat) : Prop := tg μ (53 + 2 * e) = 8 ∧ gr μ (53 + 2 * e) 0 = 0 ∧ gr μ (53 + 2 * e) 4 = 54 + 2 * e ∧ gi μ (53 + 2 * e) 1 = 0 ∧ tg μ (54 + 2 * e) = 50 ∧ ln μ (54 + 2 * e) = 100 ∧ ∀ j, gi μ (54 + 2 * e) j = 0
theorem SQ.nw {O : Nat → Prop} {μ μ' : SMem} {e : Nat} (h : SQ μ e) (hn : NW O μ μ') (hs : 54 + 2 * e < sz μ) (ho : ¬ O (53 + 2 * e) ∧ ¬ O (54 + 2 * e)) : SQ μ' e := by
  obtain ⟨x1, x2, x3, x4, x5, x6, x7⟩ := h
  obtain ⟨a1, a2, a3, a4⟩ := hn
  obtain ⟨b1, b2⟩ := a3 (53 + 2 * e) (by omega) ho.1
  obtain ⟨b3, b4⟩ := a3 (54 + 2 * e) (by omega) ho.2
  exact ⟨by rw [(a2 _ (by omega)).1]; exact x1, by rw [b2]; exact x2, by rw [b2]; exact x3, by rw [b1]; exact x4, by rw [(a2 _ (by omega)).1]; exact x5, by rw [(a2 _ (by omega)).2]; exact x6, fun j => by rw [b3]; exact x7 j⟩
theorem f53 {d e : Nat} {μ : SMem} (ha : tg μ (53 + 2 * e) = 8) (hs : 54 + 2 * e = sz μ) (hu : ∀ c, sz μ ≤ c → tg μ c = 99) : ∃ μ', cl d 53 [Sum.inr (Sum.inl (53 + 2 * e))] μ = some (Sum.inl none, μ') ∧ NW (fun c => c = 53 + 2 * e) μ μ' ∧ sz μ' = sz μ + 1 ∧ sl μ' = sl μ + 100 ∧ SQ μ' e := by
  have z100 : ((0 : Int32) ≤ 100) = True := eq_true (by decide)
  have d100 : ((100 : Nat) ≤ 1000) = True := eq_true (by decide)
  have zn100 : (100 : Int32).toNatClampNeg = 100 := rfl
  have a0 : 53 + 2 * e ≠ 0 := by omega
  have n1 : NW (fun c => c = 53 + 2 * e) μ (setr μ (53 + 2 * e) 0 0) := NW.sr hu rfl
  have n2 : NW (fun c => c = 53 + 2 * e) (setr μ (53 + 2 * e) 0 0) (seti (setr μ (53 + 2 * e) 0 0) (53 + 2 * e) 1 0) := NW.si hu rfl
  have n3 : NW (fun c => c = 53 + 2 * e) (seti (setr μ (53 + 2 * e) 0 0) (53 + 2 * e) 1 0) (seti (seti (setr μ (53 + 2 * e) 0 0) (53 + 2 * e) 1 0) (53 + 2 * e) 2 0) := NW.si hu rfl
  have n4 : NW (fun c => c = 53 + 2 * e) (seti (seti (setr μ (53 + 2 * e) 0 0) (53 + 2 * e) 1 0) (53 + 2 * e) 2 0) (seti (seti (seti (setr μ (53 + 2 * e) 0 0) (53 + 2 * e) 1 0) (53 + 2 * e) 2 0) (53 + 2 * e) 3 0) := NW.si hu rfl
  have n5 : NW (fun c => c = 53 + 2 * e) (seti (seti (seti (setr μ (53 + 2 * e) 0 0) (53 + 2 * e) 1 0) (53 + 2 * e) 2 0) (53 + 2 * e) 3 0) (alloc (seti (seti (seti (setr μ (53 + 2 * e) 0 0) (53 + 2 * e) 1 0) (53 + 2 * e) 2 0) (53 + 2 * e) 3 0) 50 100 100) := NW.al hu
  have n6 : NW (fun c => c = 53 + 2 * e) (alloc (seti (seti (seti (setr μ (53 + 2 * e) 0 0) (53 + 2 * e) 1 0) (53 + 2 * e) 2 0) (53 + 2 * e) 3 0) 50 100 100) (setr (alloc (seti (seti (seti (setr μ (53 + 2 * e) 0 0) (53 + 2 * e) 1 0) (53 + 2 * e) 2 0) (53 + 2 * e) 3 0) 50 100 100) (53 + 2 * e) 4 (sz μ)) := NW.sr n5.2.2.2 rfl
  refine ⟨setr (alloc (seti (seti (seti (setr μ (53 + 2 * e) 0 0) (53 + 2 * e) 1 0) (53 + 2 * e) 2 0) (53 + 2 * e) 3 0) 50 100 100) (53 + 2 * e) 4 (sz μ), ?_, n1.tr (n2.tr (n3.tr (n4.tr (n5.tr n6)))), rfl, rfl, ?_⟩
  · show rn d 53 0 [some (Sum.inr (Sum.inl (53 + 2 * e)))] [] μ = _
    simp only [st53_0, st53_1, st53_2, st53_3, st53_4, st53_5, st53_6, st53_7, st53_8, st53_9, st53_10, st53_11, st53_12, st53_13, st53_14, st53_15, st53_16, st53_17, st53_18, a0, ha, z100, d100, zn100, tg_setr, tg_seti, tg_alc, sz_al, sz_setr, sz_seti, show ¬ 53 + 2 * e = sz μ by omega, true_or, or_true, aft_some, Option.toList_some, Option.toList_none, List.cons_append, List.nil_append, br0, br1, br2, br3, zr01, zr02, n10, n01, ne_eq, not_true_eq_false, not_false_eq_true, if_true, if_false, true_and, and_true, and_self]
  · refine ⟨?_, ?_, ?_, ?_, ?_, ?_, fun j => ?_⟩
    · rw [tg_setr, tg_alc, sz_seti, sz_seti, sz_seti, sz_setr, if_neg (by omega)]; exact ha
    · rw [gr_setr, if_neg (by omega), gr_alc, sz_seti, sz_seti, sz_seti, sz_setr, if_neg (by omega), gr_seti, gr_seti, gr_seti, gr_setr, if_pos ⟨rfl, rfl⟩]
    · rw [gr_setr, if_pos ⟨rfl, rfl⟩, hs]
    · rw [gi_setr, gi_alc, sz_seti, sz_seti, sz_seti, sz_setr, if_neg (by omega), gi_seti, if_neg (by omega), gi_seti, if_neg (by omega), gi_seti, if_pos ⟨rfl, rfl⟩]
    · rw [tg_setr, tg_alc, sz_seti, sz_seti, sz_seti, sz_setr, if_pos hs]
    · rw [ln_setr, ln_alc, sz_seti, sz_seti, sz_seti, sz_setr, if_pos hs]
    · rw [gi_setr, gi_alc, sz_seti, sz_seti, sz_seti, sz_setr, if_pos hs]
theorem f77_lp {d : Nat} : ∀ k e (μ : SMem), e + k = 8 → sz μ = 53 + 2 * e → (∀ c, sz μ ≤ c → tg μ c = 99) → tg μ 2 = 11 → gr μ 2 4 = 48 → tg μ 48 = 54 → ln μ 48 = 8 → (∀ e', e' < e → gr μ 48 e' = 53 + 2 * e' ∧ SQ μ e') → ∃ μ', rn (d + 1) 77 42 [some (Sum.inr (Sum.inl (2))), some (Sum.inl (E e))] [] μ = some (Sum.inl none, μ') ∧ NW (fun c => c = 48) μ μ' ∧ sz μ' = 69 ∧ sl μ' = sl μ + 105 * k ∧ (∀ e', e' < 8 → gr μ' 48 e' = 53 + 2 * e' ∧ SQ μ' e') := by
  intro k
  induction k with
  | zero =>
    intro e μ he hs hu h1 h2 h3 h4 hv
    have : e = 8 := by omega
    subst this
    refine ⟨μ, ?_, ⟨Nat.le_refl _, fun _ _ => ⟨rfl, rfl⟩, fun _ _ _ => ⟨rfl, rfl⟩, hu⟩, by omega, rfl, hv⟩
    rw [st77_42]
    simp only [st77_43, st77_44, st77_45, st77_46, st77_56, h1, h2, h3, h4, alA, alB, alC, alD, alE, and_self, show Int32.ofNat 8 = E 8 from rfl, Int32.le_refl, true_or, or_true, aft_some, Option.toList_some, Option.toList_none, List.cons_append, List.nil_append, br0, br1, br2, br3, zr01, zr02, n10, n01, ne_eq, not_true_eq_false, not_false_eq_true, if_true, if_false, true_and, and_true, and_self]
  | succ k ih =>
    intro e μ he hs hu h1 h2 h3 h4 hv
    have cx : (E 8 ≤ E e) = False := by rw [E_leE (by decide) (by omega)]; exact eq_false (by omega)
    have n1 : NW (fun c => c = 48) μ (alloc μ 8 0 5) := NW.al hu
    obtain ⟨μ1, a1, a2, a3, a4, a5⟩ := f53 (d := d) (e := e) (μ := alloc μ 8 0 5) (by rw [tg_alc, if_pos (by omega)]) (by rw [sz_al]; omega) n1.2.2.2
    have n2 : NW (fun c => c = 48) μ μ1 := ⟨by rw [a3, sz_al]; omega, fun c hc => ⟨(a2.2.1 c (by rw [sz_al]; omega)).1.trans (n1.2.1 c hc).1, (a2.2.1 c (by rw [sz_al]; omega)).2.trans (n1.2.1 c hc).2⟩, fun c hc hn => ⟨(a2.2.2.1 c (by rw [sz_al]; omega) (by omega)).1.trans (n1.2.2.1 c hc hn).1, (a2.2.2.1 c (by rw [sz_al]; omega) (by omega)).2.trans (n1.2.2.1 c hc hn).2⟩, a2.2.2.2⟩
    have g1 : ∀ c, c < sz μ → gr μ1 c = gr μ c := fun c hc => (a2.2.2.1 c (by rw [sz_al]; omega) (by omega)).2.trans (funext fun j => by rw [gr_alc, if_neg (by omega)])
    have t1 : tg μ1 48 = 54 := by rw [(n2.2.1 _ (by omega)).1]; exact h3
    have l1 : ln μ1 48 = 8 := by rw [(n2.2.1 _ (by omega)).2]; exact h4
    have t2 : tg μ1 (53 + 2 * e) = 8 := a5.1
    have n3 : NW (fun c => c = 48) μ1 (setr μ1 48 e (53 + 2 * e)) := NW.sr a2.2.2.2 rfl
    have gr3 : ∀ c j, gr (setr μ1 48 e (53 + 2 * e)) c j = if c = 48 ∧ j = e then 53 + 2 * e else gr μ1 c j := fun c j => by rw [gr_setr]
    have e8 : e < 8 := by omega
    obtain ⟨μ', y1, y2, y3, y4, y5⟩ := ih (e + 1) (setr μ1 48 e (53 + 2 * e)) (by omega) (by rw [sz_setr, a3, sz_al]; omega) n3.2.2.2 (by rw [tg_setr, (n2.2.1 2 (by omega)).1]; exact h1) (by rw [gr3, if_neg (by omega), g1 2 (by omega)]; exact h2) t1 l1 (fun e' he' => by
      by_cases q : e' = e
      · subst q
        refine ⟨by rw [gr3, if_pos ⟨rfl, rfl⟩], a5.nw n3 (by rw [a3, sz_al]; omega) ⟨by omega, by omega⟩⟩
      · obtain ⟨v1, v2⟩ := hv e' (by omega)
        refine ⟨by rw [gr3, if_neg (by omega), g1 _ (by omega)]; exact v1, (v2.nw n2 (by omega) ⟨by omega, by omega⟩).nw n3 (by rw [a3, sz_al]; omega) ⟨by omega, by omega⟩⟩)
    refine ⟨μ', ?_, n2.tr (n3.tr y2), y3, by rw [y4, sl_setr, a4, sl_al]; omega, y5⟩
    rw [st77_42]
    rw [← hs] at a1 t2 y1
    simp only [st77_43, st77_44, st77_45, st77_46, st77_47, st77_48, st77_49, st77_50, st77_51, st77_52, st77_53, st77_54, st77_55, h1, h2, h3, h4, alA, alB, alC, alD, alE, and_self, show Int32.ofNat 8 = E 8 from rfl, cx, tg_alc, gr_alc, show (sz μ = 0) = False from eq_false (by omega), show ¬ 2 = sz μ by omega, a1, t1, l1, t2, E_ge0 (show e < 1000 by omega), E_n (show e < 1000 by omega), e8, or_true, true_or, false_or, show (((8 : Nat) == 8) = true) = True from eq_true rfl, show E e + 1 = E (e + 1) from E_add e 1, aft_some, Option.toList_some, Option.toList_none, List.cons_append, List.nil_append, br0, br1, br2, br3, zr01, zr02, n10, n01, ne_eq, not_true_eq_false, not_false_eq_true, if_true, if_false, true_and, and_true, and_self]
    exact y1
/-- a town is made -/
theorem f77_t {d : Nat} {μ : SMem} {T : Nat} (hT : 3 ≤ T) (hs : sz μ = T) (hu : ∀ c, sz μ ≤ c → tg μ c = 99) : ∃ μ', cl (d + 1) 65 [Sum.inr (Sum.inl (T))] (alloc μ 10 0 5) = some (Sum.inl none, μ') ∧ NW (fun _ => False) μ μ' ∧ sz μ' = T + 15 ∧ sl μ' = sl μ + 95 ∧ TwC μ' T A0 := by
  have n1 : NW (fun _ => False) μ (alloc μ 10 0 5) := NW.al hu
  obtain ⟨μ', a1, a2, a3, a4, a5⟩ := f65 (d := d) (T := T) (μ := alloc μ 10 0 5) (by omega) (by rw [tg_alc, if_pos hs.symm]) (by rw [sz_al, hs]) n1.2.2.2
  exact ⟨μ', a1, ⟨by rw [a3]; omega, fun c hc => ⟨(a2.2.1 c (by rw [sz_al]; omega)).1.trans (n1.2.1 c hc).1, (a2.2.1 c (by rw [sz_al]; omega)).2.trans (n1.2.1 c hc).2⟩, fun c hc hn => ⟨(a2.2.2.1 c (by rw [sz_al]; omega) (by omega)).1.trans (n1.2.2.1 c hc hn).1, (a2.2.2.1 c (by rw [sz_al]; omega) (by omega)).2.trans (n1.2.2.1 c hc hn).2⟩, a2.2.2.2⟩, a3, by rw [a4, sl_al], a5⟩
theorem TwC.nw {O : Nat → Prop} {μ μ' : SMem} {T : Nat} {A : AT} (h : TwC μ T A) (hn : NW O μ μ') (hu : ∀ c, sz μ ≤ c → tg μ c = 99) (hl : sl μ ≤ sl μ') (h2 : 2 ≤ sz μ) (ho : ∀ c, O c → c ≠ 1 ∧ (c < T ∨ T + 15 ≤ c) ∧ isRd (tg μ c) = false) : TwC μ' T A :=
  h.sg (hn.sg hu hl (fun e => (ho 1 e).1 rfl) h2) (fun c _ p => (ho c p).2) (fun c _ p => (ho c p).2.1)
/-- the class's object is made -/
theorem f77 {d : Nat} {μ : SMem} (h1 : tg μ 2 = 11) (hs : sz μ = 3) (hu : ∀ c, sz μ ≤ c → tg μ c = 99) (hg : ∀ j, gi μ 2 j = 0) : ∃ μ', cl (d + 2) 77 [Sum.inr (Sum.inl (2))] μ = some (Sum.inl none, μ') ∧ NW (fun c => c = 2) μ μ' ∧ sz μ' = 69 ∧ sl μ ≤ sl μ' ∧ sl μ' ≤ sl μ + 2000 ∧ CAo μ' ∧ gi μ' 2 3 = 0 ∧ (TwC μ' 3 A0 ∧ TwC μ' 18 A0 ∧ TwC μ' 33 A0) ∧ (∀ e, e < 8 → SQ μ' e) := by
  have Fk : ∀ {a b : SMem}, NW (fun _ => False) a b → NW (fun c => c = 2) a b := fun h => h.wk (fun c _ e => e.elim)
  obtain ⟨μ1, a1, a2, a3, a4, a5⟩ := f77_t (d := d) (T := 3) (by omega) hs hu
  have t1 : tg μ1 2 = 11 := by rw [(a2.2.1 2 (by omega)).1]; exact h1
  have n1 : NW (fun c => c = 2) μ1 (setr μ1 2 0 3) := NW.sr a2.2.2.2 rfl
  have b5 := a5.nw n1 a2.2.2.2 (Nat.le_refl _) (by omega) (fun c e => ⟨by omega, by omega, by rw [e, t1]; rfl⟩)
  obtain ⟨μ2, c1, c2, c3, c4, c5⟩ := f77_t (d := d) (T := 18) (μ := setr μ1 2 0 3) (by omega) a3 n1.2.2.2
  have t2 : tg μ2 2 = 11 := by rw [(c2.2.1 2 (by show 2 < sz μ1; omega)).1]; exact t1
  have r2 : gr μ2 2 = gr (setr μ1 2 0 3) 2 := (c2.2.2.1 2 (by show 2 < sz μ1; omega) (fun e => e)).2
  have b5' := b5.nw c2 n1.2.2.2 (by show sl μ1 ≤ _; rw [c4]; show sl μ1 ≤ sl μ1 + 95; omega) (by show 2 ≤ sz μ1; omega) (fun c e => e.elim)
  have n2 : NW (fun c => c = 2) μ2 (setr μ2 2 1 18) := NW.sr c2.2.2.2 rfl
  have b6 := b5'.nw n2 c2.2.2.2 (Nat.le_refl _) (by omega) (fun c e => ⟨by omega, by omega, by rw [e, t2]; rfl⟩)
  have b7 := c5.nw n2 c2.2.2.2 (Nat.le_refl _) (by omega) (fun c e => ⟨by omega, by omega, by rw [e, t2]; rfl⟩)
  obtain ⟨μ3, e1, e2, e3, e4, e5⟩ := f77_t (d := d) (T := 33) (μ := setr μ2 2 1 18) (by omega) c3 n2.2.2.2
  have t3 : tg μ3 2 = 11 := by rw [(e2.2.1 2 (by show 2 < sz μ2; omega)).1]; exact t2
  have r3 : gr μ3 2 = gr (setr μ2 2 1 18) 2 := (e2.2.2.1 2 (by show 2 < sz μ2; omega) (fun e => e)).2
  have sl3 : sl μ3 = sl μ + 285 := by rw [e4]; show sl μ2 + 95 = _; rw [c4]; show sl μ1 + 95 + 95 = _; rw [a4]
  have b6' := b6.nw e2 n2.2.2.2 (by show sl μ2 ≤ _; rw [e4]; show sl μ2 ≤ sl μ2 + 95; omega) (by show 2 ≤ sz μ2; omega) (fun c e => e.elim)
  have b7' := b7.nw e2 n2.2.2.2 (by show sl μ2 ≤ _; rw [e4]; show sl μ2 ≤ sl μ2 + 95; omega) (by show 2 ≤ sz μ2; omega) (fun c e => e.elim)
  have nA : NW (fun c => c = 2) μ μ3 := (Fk a2).tr (n1.tr ((Fk c2).tr (n2.tr (Fk e2))))
  have gr0 : ∀ j, gr μ3 2 j = if j = 1 then 18 else if j = 0 then 3 else gr μ1 2 j := fun j => by
    rw [r3, gr_setr]
    by_cases q : j = 1
    · rw [if_pos ⟨rfl, q⟩, if_pos q]
    · rw [if_neg (fun h => q h.2), if_neg q, r2, gr_setr]
      by_cases q2 : j = 0
      · rw [if_pos ⟨rfl, q2⟩, if_pos q2]
      · rw [if_neg (fun h => q2 h.2), if_neg q2]
  -- rows of the class
  have z8 : ((0 : Int32) ≤ 8) = True := eq_true (by decide)
  have z4 : ((0 : Int32) ≤ 4) = True := eq_true (by decide)
  have z6 : ((0 : Int32) ≤ 6) = True := eq_true (by decide)
  have z7 : ((0 : Int32) ≤ 7) = True := eq_true (by decide)
  have k8 : (8 : Int32).toNatClampNeg = 8 := rfl
  have k4 : (4 : Int32).toNatClampNeg = 4 := rfl
  have k6 : (6 : Int32).toNatClampNeg = 6 := rfl
  have k7 : (7 : Int32).toNatClampNeg = 7 := rfl
  have m8 : ((8 : Nat) ≤ 1000) = True := eq_true (by decide)
  have m4 : ((4 : Nat) ≤ 1000) = True := eq_true (by decide)
  have m6 : ((6 : Nat) ≤ 1000) = True := eq_true (by decide)
  have m7 : ((7 : Nat) ≤ 1000) = True := eq_true (by decide)
  have hu3 := e2.2.2.2
  obtain ⟨μ4, q1⟩ : ∃ μ4, μ4 = setr (alloc (setr (alloc (setr (alloc (setr (alloc (setr (alloc (seti (setr μ3 2 2 33) 2 3 0) 54 8 8) 2 4 48) 50 4 4) 2 5 49) 50 6 6) 2 6 50) 50 7 7) 2 7 51) 50 7 7) 2 8 52 := ⟨_, rfl⟩
  have E0 : rn (d + 2) 77 0 [some (Sum.inr (Sum.inl (2))), none] [] μ = rn (d + 2) 77 42 [some (Sum.inr (Sum.inl (2))), some (Sum.inl (E 0))] [] μ4 := by
    rw [q1]
    simp only [st77_0, st77_1, st77_2, st77_3, st77_4, st77_5, hs, show ((2 : Nat) = 0) = False from eq_false (by decide), show ((3 : Nat) = 0) = False from eq_false (by decide), ne_eq, not_false_eq_true, a1, aft_some, Option.toList_some, Option.toList_none, List.cons_append, List.nil_append, br0, br1, br2, br3, zr01, zr02, n10, n01, ne_eq, not_true_eq_false, not_false_eq_true, if_true, if_false, true_and, and_true, and_self]
    simp only [st77_6, st77_7, st77_8, st77_9, st77_10, t1, sz_setr, a3, show ((3 + 15 : Nat)) = 18 from rfl, show ((18 : Nat) = 0) = False from eq_false (by decide), c1, true_or, aft_some, Option.toList_some, Option.toList_none, List.cons_append, List.nil_append, br0, br1, br2, br3, zr01, zr02, n10, n01, ne_eq, not_true_eq_false, not_false_eq_true, if_true, if_false, true_and, and_true, and_self]
    simp only [st77_11, st77_12, st77_13, st77_14, st77_15, t2, sz_setr, c3, show ((18 + 15 : Nat)) = 33 from rfl, show ((33 : Nat) = 0) = False from eq_false (by decide), e1, true_or, aft_some, Option.toList_some, Option.toList_none, List.cons_append, List.nil_append, br0, br1, br2, br3, zr01, zr02, n10, n01, ne_eq, not_true_eq_false, not_false_eq_true, if_true, if_false, true_and, and_true, and_self]
    simp only [st77_16, st77_17, st77_18, st77_19, st77_20, st77_21, st77_22, st77_23, st77_24, st77_25, st77_26, st77_27, st77_28, st77_29, st77_30, st77_31, st77_32, st77_33, st77_34, st77_35, st77_36, st77_37, st77_38, st77_39, st77_40, st77_41, t3, gi_seti, gi_setr, gi_setl, gi_setrow, gr_seti, gr_setr, gr_setl, gr_setrow, gl_seti, gl_setr, gl_setl, gl_setrow, tg_seti, tg_setr, tg_setl, tg_setrow, ln_seti, ln_setr, ln_setl, ln_setrow, sz_seti, sz_setr, sz_setl, sz_setrow, sl_seti, sl_setr, sl_setl, sl_setrow, tg_alc, sz_al, e3, show ((33 + 15 : Nat)) = 48 from rfl, z8, z4, z6, z7, k8, k4, k6, k7, m8, m4, m6, m7, show ((2 : Nat) = 48) = False from eq_false (by decide), show ((2 : Nat) = 48 + 1) = False from eq_false (by decide), show ((2 : Nat) = 48 + 1 + 1) = False from eq_false (by decide), show ((2 : Nat) = 48 + 1 + 1 + 1) = False from eq_false (by decide), show ((2 : Nat) = 48 + 1 + 1 + 1 + 1) = False from eq_false (by decide), true_or, or_true, aft_some, Option.toList_some, Option.toList_none, List.cons_append, List.nil_append, br0, br1, br2, br3, zr01, zr02, n10, n01, ne_eq, not_true_eq_false, not_false_eq_true, if_true, if_false, true_and, and_true, and_self]
    rfl
  have f1 : NW (fun c => c = 2) μ3 (setr μ3 2 2 33) := NW.sr hu3 rfl
  have f2 : NW (fun c => c = 2) (setr μ3 2 2 33) (seti (setr μ3 2 2 33) 2 3 0) := NW.si f1.2.2.2 rfl
  have f3 : NW (fun c => c = 2) (seti (setr μ3 2 2 33) 2 3 0) (alloc (seti (setr μ3 2 2 33) 2 3 0) 54 8 8) := NW.al f2.2.2.2
  have f4' : NW (fun c => c = 2) (alloc (seti (setr μ3 2 2 33) 2 3 0) 54 8 8) (setr (alloc (seti (setr μ3 2 2 33) 2 3 0) 54 8 8) 2 4 48) := NW.sr f3.2.2.2 rfl
  have f5' : NW (fun c => c = 2) (setr (alloc (seti (setr μ3 2 2 33) 2 3 0) 54 8 8) 2 4 48) (alloc (setr (alloc (seti (setr μ3 2 2 33) 2 3 0) 54 8 8) 2 4 48) 50 4 4) := NW.al f4'.2.2.2
  have f6' : NW (fun c => c = 2) (alloc (setr (alloc (seti (setr μ3 2 2 33) 2 3 0) 54 8 8) 2 4 48) 50 4 4) (setr (alloc (setr (alloc (seti (setr μ3 2 2 33) 2 3 0) 54 8 8) 2 4 48) 50 4 4) 2 5 49) := NW.sr f5'.2.2.2 rfl
  have f7' : NW (fun c => c = 2) (setr (alloc (setr (alloc (seti (setr μ3 2 2 33) 2 3 0) 54 8 8) 2 4 48) 50 4 4) 2 5 49) (alloc (setr (alloc (setr (alloc (seti (setr μ3 2 2 33) 2 3 0) 54 8 8) 2 4 48) 50 4 4) 2 5 49) 50 6 6) := NW.al f6'.2.2.2
  have f8' : NW (fun c => c = 2) (alloc (setr (alloc (setr (alloc (seti (setr μ3 2 2 33) 2 3 0) 54 8 8) 2 4 48) 50 4 4) 2 5 49) 50 6 6) (setr (alloc (setr (alloc (setr (alloc (seti (setr μ3 2 2 33) 2 3 0) 54 8 8) 2 4 48) 50 4 4) 2 5 49) 50 6 6) 2 6 50) := NW.sr f7'.2.2.2 rfl
  have f9' : NW (fun c => c = 2) (setr (alloc (setr (alloc (setr (alloc (seti (setr μ3 2 2 33) 2 3 0) 54 8 8) 2 4 48) 50 4 4) 2 5 49) 50 6 6) 2 6 50) (alloc (setr (alloc (setr (alloc (setr (alloc (seti (setr μ3 2 2 33) 2 3 0) 54 8 8) 2 4 48) 50 4 4) 2 5 49) 50 6 6) 2 6 50) 50 7 7) := NW.al f8'.2.2.2
  have f10' : NW (fun c => c = 2) (alloc (setr (alloc (setr (alloc (setr (alloc (seti (setr μ3 2 2 33) 2 3 0) 54 8 8) 2 4 48) 50 4 4) 2 5 49) 50 6 6) 2 6 50) 50 7 7) (setr (alloc (setr (alloc (setr (alloc (setr (alloc (seti (setr μ3 2 2 33) 2 3 0) 54 8 8) 2 4 48) 50 4 4) 2 5 49) 50 6 6) 2 6 50) 50 7 7) 2 7 51) := NW.sr f9'.2.2.2 rfl
  have f11' : NW (fun c => c = 2) (setr (alloc (setr (alloc (setr (alloc (setr (alloc (seti (setr μ3 2 2 33) 2 3 0) 54 8 8) 2 4 48) 50 4 4) 2 5 49) 50 6 6) 2 6 50) 50 7 7) 2 7 51) (alloc (setr (alloc (setr (alloc (setr (alloc (setr (alloc (seti (setr μ3 2 2 33) 2 3 0) 54 8 8) 2 4 48) 50 4 4) 2 5 49) 50 6 6) 2 6 50) 50 7 7) 2 7 51) 50 7 7) := NW.al f10'.2.2.2
  have f12' : NW (fun c => c = 2) (alloc (setr (alloc (setr (alloc (setr (alloc (setr (alloc (seti (setr μ3 2 2 33) 2 3 0) 54 8 8) 2 4 48) 50 4 4) 2 5 49) 50 6 6) 2 6 50) 50 7 7) 2 7 51) 50 7 7) μ4 := by rw [q1]; exact NW.sr f11'.2.2.2 rfl
  have nB : NW (fun c => c = 2) μ3 μ4 := f1.tr (f2.tr (f3.tr (f4'.tr (f5'.tr (f6'.tr (f7'.tr (f8'.tr (f9'.tr (f10'.tr (f11'.tr f12'))))))))))
  have s4 : sz μ4 = 53 := by rw [q1]; show sz μ3 + 1 + 1 + 1 + 1 + 1 = 53; omega
  have l4 : sl μ4 = sl μ3 + 32 := by rw [q1]; rfl
  have T4 : ∀ c, tg μ4 c = if c = 52 then 50 else if c = 51 then 50 else if c = 50 then 50 else if c = 49 then 50 else if c = 48 then 54 else tg μ3 c := fun c => by
    rw [q1]
    simp only [tg_setr, tg_seti, tg_alc, sz_setr, sz_seti, sz_al, e3, Nat.reduceAdd]
  have L4 : ∀ c, ln μ4 c = if c = 52 then 7 else if c = 51 then 7 else if c = 50 then 6 else if c = 49 then 4 else if c = 48 then 8 else ln μ3 c := fun c => by
    rw [q1]
    simp only [ln_setr, ln_seti, ln_alc, sz_setr, sz_seti, sz_al, e3, Nat.reduceAdd]
  have G4 : gi μ4 2 3 = 0 := by
    rw [q1]
    simp only [gi_setr, gi_alc, sz_setr, sz_seti, sz_al, e3, Nat.reduceAdd, Nat.reduceEqDiff, if_false, gi_seti, and_self, if_true]
  have R4 : ∀ j, gr μ4 2 j = if j = 8 then 52 else if j = 7 then 51 else if j = 6 then 50 else if j = 5 then 49 else if j = 4 then 48 else if j = 2 then 33 else gr μ3 2 j := fun j => by
    rw [q1]
    simp only [gr_setr, gr_alc, gr_seti, sz_setr, sz_seti, sz_al, e3, Nat.reduceAdd, Nat.reduceEqDiff, if_false, true_and]
  have hu4 := nB.2.2.2
  obtain ⟨μ5, g1, g2, g3, g4, g5⟩ := f77_lp (d := d + 1) 8 0 μ4 rfl s4 hu4 (by rw [T4]; simp only [Nat.reduceEqDiff, if_false]; exact t3) (by rw [R4]; rfl) (by rw [T4]; rfl) (by rw [L4]; rfl) (fun e' he' => by omega)
  have t4 : tg μ4 2 = 11 := by rw [T4]; simp only [Nat.reduceEqDiff, if_false]; exact t3
  have x3 := (b6'.nw nB hu3 (by omega) (by omega) (fun c e => ⟨by omega, by omega, by rw [e, t3]; rfl⟩)).nw g2 hu4 (by omega) (by omega) (fun c e => ⟨by omega, by omega, by rw [e, T4]; rfl⟩)
  have x18 := (b7'.nw nB hu3 (by omega) (by omega) (fun c e => ⟨by omega, by omega, by rw [e, t3]; rfl⟩)).nw g2 hu4 (by omega) (by omega) (fun c e => ⟨by omega, by omega, by rw [e, T4]; rfl⟩)
  have x33 := (e5.nw nB hu3 (by omega) (by omega) (fun c e => ⟨by omega, by omega, by rw [e, t3]; rfl⟩)).nw g2 hu4 (by omega) (by omega) (fun c e => ⟨by omega, by omega, by rw [e, T4]; rfl⟩)
  have R5 : gr μ5 2 = gr μ4 2 := (g2.2.2.1 2 (by omega) (by omega)).2
  have T5 : ∀ c, c < 53 → tg μ5 c = tg μ4 c ∧ ln μ5 c = ln μ4 c := fun c hc => g2.2.1 c (by omega)
  have hAB := nA.tr nB
  refine ⟨μ5, ?_, ⟨by omega, fun c hc => ⟨(g2.2.1 c (by omega)).1.trans (hAB.2.1 c hc).1, (g2.2.1 c (by omega)).2.trans (hAB.2.1 c hc).2⟩, fun c hc hn => ⟨(g2.2.2.1 c (by omega) (by omega)).1.trans (hAB.2.2.1 c hc hn).1, (g2.2.2.1 c (by omega) (by omega)).2.trans (hAB.2.2.1 c hc hn).2⟩, g2.2.2.2⟩, g3, by omega, by omega, ?_, ?_, ⟨x3, x18, x33⟩, fun e he => (g5 e he).2⟩
  · show rn (d + 2) 77 0 [some (Sum.inr (Sum.inl (2))), none] [] μ = _
    rw [E0]
    exact g1
  · refine ⟨by rw [(T5 2 (by omega)).1]; exact t4, by rw [R5, R4]; simp only [Nat.reduceEqDiff, if_false]; rw [gr0]; rfl, by rw [R5, R4]; simp only [Nat.reduceEqDiff, if_false]; rw [gr0]; rfl, by rw [R5, R4]; rfl, by rw [R5, R4]; rfl, by rw [R5, R4]; rfl, by rw [R5, R4]; rfl, by rw [R5, R4]; rfl, by rw [R5, R4]; rfl, ⟨by rw [(T5 48 (by omega)).1, T4]; rfl, by rw [(T5 49 (by omega)).1, T4]; rfl, by rw [(T5 50 (by omega)).1, T4]; rfl, by rw [(T5 51 (by omega)).1, T4]; rfl, by rw [(T5 52 (by omega)).1, T4]; rfl⟩, ⟨by rw [(T5 48 (by omega)).2, L4]; rfl, by rw [(T5 49 (by omega)).2, L4]; rfl, by rw [(T5 50 (by omega)).2, L4]; rfl, by rw [(T5 51 (by omega)).2, L4]; rfl, by rw [(T5 52 (by omega)).2, L4]; rfl⟩, fun e he => ?_⟩
    obtain ⟨y1, y2, y3, y4, y5, y6, y7, y8⟩ := g5 e he
    exact ⟨y1, y2, y4, y6, y7⟩
  · rw [(g2.2.2.1 2 (by omega) (by omega)).1]; exact G4
/-- the reference's object is made -/
theorem f137 {d : Nat} {μ : SMem} (h1 : tg μ 69 = 12) (hs : sz μ = 70) (hu : ∀ c, sz μ ≤ c → tg μ c = 99) : ∃ μ', cl d 137 [Sum.inr (Sum.inl (69))] μ = some (Sum.inl none, μ') ∧ NW (fun c => c = 69) μ μ' ∧ sz μ' = 83 ∧ sl μ' = sl μ + 1207 ∧ MA μ' ∧ gi μ' 69 = gi μ 69 ∧ (∀ c j, 70 ≤ c → c < 83 → gi μ' c j = 0) := by
  obtain ⟨μ', q1⟩ : ∃ μ', μ' = (setr (alloc (setr (alloc (setr (alloc (setr (alloc (setr (alloc (setr (alloc (setr (alloc (setr (alloc (setr (alloc (setr (alloc (setr (alloc (setr (alloc (setr (alloc μ 50 87 87) 69 0 70) 50 87 87) 69 1 71) 50 87 87) 69 2 72) 50 87 87) 69 3 73) 50 8 8) 69 4 74) 50 8 8) 69 5 75) 50 8 8) 69 6 76) 50 800 800) 69 7 77) 50 8 8) 69 8 78) 50 8 8) 69 9 79) 50 3 3) 69 15 80) 50 6 6) 69 16 81) 50 10 10) 69 19 82) := ⟨_, rfl⟩
  have z3 : ((0 : Int32) ≤ 3) = True := eq_true (by decide)
  have k3 : (3 : Int32).toNatClampNeg = 3 := rfl
  have d3 : ((3 : Nat) ≤ 1000) = True := eq_true (by decide)
  have z6 : ((0 : Int32) ≤ 6) = True := eq_true (by decide)
  have k6 : (6 : Int32).toNatClampNeg = 6 := rfl
  have d6 : ((6 : Nat) ≤ 1000) = True := eq_true (by decide)
  have z8 : ((0 : Int32) ≤ 8) = True := eq_true (by decide)
  have k8 : (8 : Int32).toNatClampNeg = 8 := rfl
  have d8 : ((8 : Nat) ≤ 1000) = True := eq_true (by decide)
  have z10 : ((0 : Int32) ≤ 10) = True := eq_true (by decide)
  have k10 : (10 : Int32).toNatClampNeg = 10 := rfl
  have d10 : ((10 : Nat) ≤ 1000) = True := eq_true (by decide)
  have z87 : ((0 : Int32) ≤ 87) = True := eq_true (by decide)
  have k87 : (87 : Int32).toNatClampNeg = 87 := rfl
  have d87 : ((87 : Nat) ≤ 1000) = True := eq_true (by decide)
  have z800 : ((0 : Int32) ≤ 800) = True := eq_true (by decide)
  have k800 : (800 : Int32).toNatClampNeg = 800 := rfl
  have d800 : ((800 : Nat) ≤ 1000) = True := eq_true (by decide)
  have e0 : cl d 137 [Sum.inr (Sum.inl (69))] μ = some (Sum.inl none, μ') := by
    show rn d 137 0 [some (Sum.inr (Sum.inl (69)))] [] μ = _
    rw [q1]
    simp only [st137_0, st137_1, st137_2, st137_3, st137_4, st137_5, st137_6, st137_7, st137_8, st137_9, st137_10, st137_11, st137_12, st137_13, st137_14, st137_15, st137_16, st137_17, st137_18, st137_19, st137_20, st137_21, st137_22, st137_23, st137_24, st137_25, st137_26, st137_27, st137_28, st137_29, st137_30, st137_31, st137_32, st137_33, st137_34, st137_35, st137_36, st137_37, st137_38, st137_39, st137_40, st137_41, st137_42, st137_43, st137_44, st137_45, st137_46, st137_47, st137_48, st137_49, st137_50, st137_51, st137_52, st137_53, st137_54, show ((69 : Nat) = 0) = False from eq_false (by decide), ne_eq, not_false_eq_true, h1, hs, tg_setr, tg_alc, sz_al, sz_setr, Nat.reduceAdd, Nat.reduceEqDiff, if_false, true_or, or_true, z3, k3, d3, z6, k6, d6, z8, k8, d8, z10, k10, d10, z87, k87, d87, z800, k800, d800, aft_some, Option.toList_some, Option.toList_none, List.cons_append, List.nil_append, br0, br1, br2, br3, zr01, zr02, n10, n01, ne_eq, not_true_eq_false, not_false_eq_true, if_true, if_false, true_and, and_true, and_self]
  have hn : NW (fun c => c = 69) μ μ' := by
    rw [q1]
    have n0 : NW (fun c => c = 69) μ μ := ⟨Nat.le_refl _, fun _ _ => ⟨rfl, rfl⟩, fun _ _ _ => ⟨rfl, rfl⟩, hu⟩
    have n1 := n0.tr (NW.al (O := fun c => c = 69) (t := 50) (n := 87) (w := 87) n0.2.2.2)
    have n2 := n1.tr (NW.sr (O := fun c => c = 69) (a := 69) (k := 0) (x := 70) n1.2.2.2 rfl)
    have n3 := n2.tr (NW.al (O := fun c => c = 69) (t := 50) (n := 87) (w := 87) n2.2.2.2)
    have n4 := n3.tr (NW.sr (O := fun c => c = 69) (a := 69) (k := 1) (x := 71) n3.2.2.2 rfl)
    have n5 := n4.tr (NW.al (O := fun c => c = 69) (t := 50) (n := 87) (w := 87) n4.2.2.2)
    have n6 := n5.tr (NW.sr (O := fun c => c = 69) (a := 69) (k := 2) (x := 72) n5.2.2.2 rfl)
    have n7 := n6.tr (NW.al (O := fun c => c = 69) (t := 50) (n := 87) (w := 87) n6.2.2.2)
    have n8 := n7.tr (NW.sr (O := fun c => c = 69) (a := 69) (k := 3) (x := 73) n7.2.2.2 rfl)
    have n9 := n8.tr (NW.al (O := fun c => c = 69) (t := 50) (n := 8) (w := 8) n8.2.2.2)
    have n10 := n9.tr (NW.sr (O := fun c => c = 69) (a := 69) (k := 4) (x := 74) n9.2.2.2 rfl)
    have n11 := n10.tr (NW.al (O := fun c => c = 69) (t := 50) (n := 8) (w := 8) n10.2.2.2)
    have n12 := n11.tr (NW.sr (O := fun c => c = 69) (a := 69) (k := 5) (x := 75) n11.2.2.2 rfl)
    have n13 := n12.tr (NW.al (O := fun c => c = 69) (t := 50) (n := 8) (w := 8) n12.2.2.2)
    have n14 := n13.tr (NW.sr (O := fun c => c = 69) (a := 69) (k := 6) (x := 76) n13.2.2.2 rfl)
    have n15 := n14.tr (NW.al (O := fun c => c = 69) (t := 50) (n := 800) (w := 800) n14.2.2.2)
    have n16 := n15.tr (NW.sr (O := fun c => c = 69) (a := 69) (k := 7) (x := 77) n15.2.2.2 rfl)
    have n17 := n16.tr (NW.al (O := fun c => c = 69) (t := 50) (n := 8) (w := 8) n16.2.2.2)
    have n18 := n17.tr (NW.sr (O := fun c => c = 69) (a := 69) (k := 8) (x := 78) n17.2.2.2 rfl)
    have n19 := n18.tr (NW.al (O := fun c => c = 69) (t := 50) (n := 8) (w := 8) n18.2.2.2)
    have n20 := n19.tr (NW.sr (O := fun c => c = 69) (a := 69) (k := 9) (x := 79) n19.2.2.2 rfl)
    have n21 := n20.tr (NW.al (O := fun c => c = 69) (t := 50) (n := 3) (w := 3) n20.2.2.2)
    have n22 := n21.tr (NW.sr (O := fun c => c = 69) (a := 69) (k := 15) (x := 80) n21.2.2.2 rfl)
    have n23 := n22.tr (NW.al (O := fun c => c = 69) (t := 50) (n := 6) (w := 6) n22.2.2.2)
    have n24 := n23.tr (NW.sr (O := fun c => c = 69) (a := 69) (k := 16) (x := 81) n23.2.2.2 rfl)
    have n25 := n24.tr (NW.al (O := fun c => c = 69) (t := 50) (n := 10) (w := 10) n24.2.2.2)
    have n26 := n25.tr (NW.sr (O := fun c => c = 69) (a := 69) (k := 19) (x := 82) n25.2.2.2 rfl)
    exact n26
  have T : ∀ c, tg μ' c = if c = 82 then 50 else if c = 81 then 50 else if c = 80 then 50 else if c = 79 then 50 else if c = 78 then 50 else if c = 77 then 50 else if c = 76 then 50 else if c = 75 then 50 else if c = 74 then 50 else if c = 73 then 50 else if c = 72 then 50 else if c = 71 then 50 else if c = 70 then 50 else tg μ c := fun c => by
    rw [q1]
    simp only [tg_setr, tg_alc, sz_setr, sz_al, hs, Nat.reduceAdd]
  have L : ∀ c, ln μ' c = if c = 82 then 10 else if c = 81 then 6 else if c = 80 then 3 else if c = 79 then 8 else if c = 78 then 8 else if c = 77 then 800 else if c = 76 then 8 else if c = 75 then 8 else if c = 74 then 8 else if c = 73 then 87 else if c = 72 then 87 else if c = 71 then 87 else if c = 70 then 87 else ln μ c := fun c => by
    rw [q1]
    simp only [ln_setr, ln_alc, sz_setr, sz_al, hs, Nat.reduceAdd]
  have R : ∀ j, gr μ' 69 j = if j = 19 then 82 else if j = 16 then 81 else if j = 15 then 80 else if j = 9 then 79 else if j = 8 then 78 else if j = 7 then 77 else if j = 6 then 76 else if j = 5 then 75 else if j = 4 then 74 else if j = 3 then 73 else if j = 2 then 72 else if j = 1 then 71 else if j = 0 then 70 else gr μ 69 j := fun j => by
    rw [q1]
    simp only [gr_setr, gr_alc, sz_setr, sz_al, hs, Nat.reduceAdd, Nat.reduceEqDiff, if_false, true_and]
  have G : ∀ c j, gi μ' c j = if c = 82 then 0 else if c = 81 then 0 else if c = 80 then 0 else if c = 79 then 0 else if c = 78 then 0 else if c = 77 then 0 else if c = 76 then 0 else if c = 75 then 0 else if c = 74 then 0 else if c = 73 then 0 else if c = 72 then 0 else if c = 71 then 0 else if c = 70 then 0 else gi μ c j := fun c j => by
    rw [q1]
    simp only [gi_setr, gi_alc, sz_setr, sz_al, hs, Nat.reduceAdd]
  refine ⟨μ', e0, hn, ?_, ?_, ?_, ?_, fun c j hc1 hc2 => ?_⟩
  · rw [q1]; simp only [sz_setr, sz_al, hs, Nat.reduceAdd]
  · rw [q1]; simp only [sl_setr, sl_al]
  · exact ⟨by rw [T]; exact h1, by rw [R]; rfl, by rw [R]; rfl, by rw [R]; rfl, by rw [R]; rfl, by rw [R]; rfl, by rw [R]; rfl, by rw [R]; rfl, by rw [R]; rfl, by rw [R]; rfl, by rw [R]; rfl, by rw [R]; rfl, by rw [R]; rfl, by rw [R]; rfl, ⟨by rw [T]; rfl, by rw [T]; rfl, by rw [T]; rfl, by rw [T]; rfl, by rw [T]; rfl, by rw [T]; rfl, by rw [T]; rfl, by rw [T]; rfl, by rw [T]; rfl, by rw [T]; rfl, by rw [T]; rfl, by rw [T]; rfl, by rw [T]; rfl⟩, by rw [L]; rfl, by rw [L]; rfl, by rw [L]; rfl, by rw [L]; rfl, by rw [L]; rfl, by rw [L]; rfl, by rw [L]; rfl, by rw [L]; rfl, by rw [L]; rfl, by rw [L]; rfl, by rw [L]; rfl, by rw [L]; rfl, by rw [L]; rfl⟩
  · exact funext fun j => by rw [G]; rfl
  · rw [G]
    have : c = 70 ∨ c = 71 ∨ c = 72 ∨ c = 73 ∨ c = 74 ∨ c = 75 ∨ c = 76 ∨ c = 77 ∨ c = 78 ∨ c = 79 ∨ c = 80 ∨ c = 81 ∨ c = 82 := by omega
    rcases this with q | q | q | q | q | q | q | q | q | q | q | q | q <;> subst q <;> rfl
def H0 (L : Nat) (xs : Nat → Int32) : Nat → HT := fun e => if e = 8 then ((0, 0, L, 0, 0), xs) else ((0, 0, 0, 0, 0), fun _ => 0)
theorem H0_8 {L : Nat} {xs : Nat → Int32} : H0 L xs 8 = ((0, 0, L, 0, 0), xs) := rfl
/-- the law's start -/
theorem law_0 {d L : Nat} {xs : Nat → Int32} {μ : SMem} (hs : sz μ = 2) (hu : ∀ c, tg μ c = 99) (hL : ln μ 1 = L) (hx : ∀ j, gi μ 1 j = xs j) : ∃ μ', rn (d + 13) 228 0 [some (Sum.inr (Sum.inl (1))), none, none, none, none, none, none, none] [] μ = rn (d + 13) 228 13 [some (Sum.inr (Sum.inl (1))), some (Sum.inr (Sum.inl (2))), some (Sum.inr (Sum.inl (69))), some (Sum.inr (Sum.inl (83))), some (Sum.inl (E 0)), none, none, none] [] μ' ∧ INVw μ' A0 A0 0 (H0 L xs) ∧ sz μ' = 84 ∧ sl μ' ≤ sl μ + 4000 := by
  have n1 : NW (fun _ => False) μ (alloc μ 11 0 9) := NW.al (fun c _ => hu c)
  obtain ⟨μ1, a1, a2, a3, a4, a4', a5, a6, ⟨a7, a8, a9⟩, a10⟩ := f77 (d := d + 10) (μ := alloc μ 11 0 9) (by rw [tg_alc, if_pos (by omega)]) (by rw [sz_al, hs]) n1.2.2.2 (fun j => by rw [gi_alc, if_pos (by omega)])
  have hu1 := a2.2.2.2
  have n2 : NW (fun _ => False) μ1 (alloc μ1 12 0 21) := NW.al hu1
  obtain ⟨μ2, b1, b2, b3, b4, b5, b6, b7⟩ := f137 (d := d + 12) (μ := alloc μ1 12 0 21) (by rw [tg_alc, if_pos (by omega)]) (by rw [sz_al, a3]) n2.2.2.2
  have hu2 := b2.2.2.2
  have n3 : NW (fun _ => False) μ2 (alloc μ2 51 1 1) := NW.al hu2
  have n23 : NW (fun c => c = 69) μ1 (alloc μ2 51 1 1) := (n2.wk (fun c _ e => e.elim)).tr (b2.tr (n3.wk (fun c _ e => e.elim)))
  have sl23 : sl μ1 ≤ sl (alloc μ2 51 1 1) := by rw [sl_al, b4, sl_al]; omega
  have n23' : NW (fun _ => False) μ1 (alloc μ2 51 1 1) := n23.wk (fun c hc e => by omega)
  have sg23 := n23'.sg hu1 sl23 (fun e => e) (by omega)
  have g2 : ∀ c, c < 69 → gi (alloc μ2 51 1 1) c = gi μ1 c ∧ gr (alloc μ2 51 1 1) c = gr μ1 c := fun c hc => n23'.2.2.1 c (by omega) (fun e => e)
  have n3s := n3.sg hu2 (by rw [sl_al]; omega) (fun e => e) (by omega)
  have hm := b5.sg n3s (fun j q => q)
  have hc := a5.sg sg23 (fun c j q => q.elim)
  have gz : ∀ c j, 70 ≤ c → c < 83 → gi (alloc μ2 51 1 1) c j = 0 := fun c j h1 h2 => by rw [(n3.2.2.1 c (by omega) (fun e => e)).1]; exact b7 c j h1 h2
  have k3 := a7.sg sg23 (fun c j q => q.elim) (fun c j q => q.elim)
  have k18 := a8.sg sg23 (fun c j q => q.elim) (fun c j q => q.elim)
  have k33 := a9.sg sg23 (fun c j q => q.elim) (fun c j q => q.elim)
  have c1 : gi (alloc μ2 51 1 1) 1 = gi μ 1 ∧ ln (alloc μ2 51 1 1) 1 = ln μ 1 := by
    refine ⟨(g2 1 (by omega)).1.trans ((a2.2.2.1 1 (by rw [sz_al]; omega) (by omega)).1.trans (n1.2.2.1 1 (by omega) (fun e => e)).1), (n23'.2.1 1 (by omega)).2.trans ((a2.2.1 1 (by rw [sz_al]; omega)).2.trans (n1.2.1 1 (by omega)).2)⟩
  have hz3 : sz (alloc μ2 51 1 1) = 84 := by rw [sz_al, b3]
  refine ⟨alloc μ2 51 1 1, ?_, ⟨⟨hm, hc, A0_wf, k3, ?_⟩, ⟨k18.1, k33.1⟩, ⟨by decide, ?_, ?_, fun q => absurd q (by decide)⟩, fun e he => ?_, ⟨by omega, ?_⟩, n3.2.2.2⟩, hz3, ?_⟩
  · have z1 : ((0 : Int32) ≤ 1) = True := eq_true (by decide)
    have k1 : (1 : Int32).toNatClampNeg = 1 := rfl
    have d1 : ((1 : Nat) ≤ 1000) = True := eq_true (by decide)
    simp only [st228_0, st228_1, st228_2, hs, show ((2 : Nat) = 0) = False from eq_false (by decide), ne_eq, not_false_eq_true, a1, aft_some, Option.toList_some, Option.toList_none, List.cons_append, List.nil_append, br0, br1, br2, br3, zr01, zr02, n10, n01, ne_eq, not_true_eq_false, not_false_eq_true, if_true, if_false, true_and, and_true, and_self]
    simp only [st228_3, st228_4, st228_5, st228_6, a3, show ((69 : Nat) = 0) = False from eq_false (by decide), ne_eq, not_false_eq_true, b1, aft_some, Option.toList_some, Option.toList_none, List.cons_append, List.nil_append, br0, br1, br2, br3, zr01, zr02, n10, n01, ne_eq, not_true_eq_false, not_false_eq_true, if_true, if_false, true_and, and_true, and_self]
    simp only [st228_7, st228_8, st228_9, st228_10, st228_11, st228_12, b3, z1, k1, d1, aft_some, Option.toList_some, Option.toList_none, List.cons_append, List.nil_append, br0, br1, br2, br3, zr01, zr02, n10, n01, ne_eq, not_true_eq_false, not_false_eq_true, if_true, if_false, true_and, and_true, and_self]
    rfl
  · refine ⟨gz 70 0 (by omega) (by omega), gz 70 1 (by omega) (by omega), gz 70 2 (by omega) (by omega), fun b hb => absurd hb (Nat.not_lt_zero b), fun r hr => absurd hr (Nat.not_lt_zero r)⟩
  · rw [(g2 2 (by omega)).1]; exact a6
  · rw [(n3.2.2.1 69 (by omega) (fun e => e)).1, b6]
    show gi (alloc μ1 12 0 21) 69 10 = _
    rw [gi_alc, if_pos (by omega)]
    rfl
  · have hHe : H0 L xs e = ((0, 0, 0, 0, 0), fun _ => 0) := by unfold H0; rw [if_neg (by omega)]
    rw [hHe]
    obtain ⟨x1, x2, x3, x4, x5, x6, x7⟩ := (a10 e he).nw n23' (by omega) ⟨fun e => e, fun e => e⟩
    refine ⟨⟨(by decide : (0 : Nat) < 3), (by decide : (0 : Nat) < 3), Nat.zero_le _, fun q => absurd (show 0 = 1 from q) (by decide)⟩, ⟨fun i _ => x7 i, fun q => absurd (show 0 = 2 from q) (by decide), fun q => absurd (show 0 = 1 from q) (by decide), fun _ => ⟨x2, x4⟩⟩, ⟨gz 74 e (by omega) (by omega), fun q => absurd (show 0 = 2 from q) (by decide), fun q => absurd (show 0 = 1 from q) (by decide), fun i _ => gz 77 _ (by omega) (by omega)⟩⟩
  · rw [H0_8]
    refine ⟨by rw [c1.2]; exact hL, fun j => by rw [c1.1]; exact hx j, by rw [tg_alc, if_pos (by omega)], by rw [ln_alc, if_pos (by omega)]⟩
  · rw [sl_al, b4, sl_al]
    rw [sl_al] at a4'
    omega
/-! SPECS ZZF: the law's loop -/
def GG (m m' : Nat) (as : List SV) : Prop := ∀ (d : Nat) (A Ai : AT) (im : Nat) (Hs : Nat → HT) (μ : SMem), INVw μ A Ai im Hs → ∃ v μ1 μ2 A' Ai' im' Hs', cl (d + 12) m (Sum.inr (Sum.inl (2)) :: as) μ = some (Sum.inl (some (Sum.inl (v))), μ1) ∧ cl (d + 12) m' (Sum.inr (Sum.inl (69)) :: as) μ1 = some (Sum.inl (some (Sum.inl (v))), μ2) ∧ INVw μ2 A' Ai' im' Hs' ∧ Hs' 8 = Hs 8 ∧ sz μ2 ≤ sz μ + 101 ∧ sl μ2 ≤ sl μ + 101 ∧ K1 μ μ1
theorem E_nL {n : Nat} (h : n < 4000) : (E n).toNatClampNeg = n := E_nn (by omega)
theorem E_gL {n : Nat} (h : n < 4000) : ((0 : Int32) ≤ E n) = True := eq_true (E_nonneg (by omega))
theorem gg78 {x : Int32} : GG 78 169 [Sum.inl (x)] := by
  intro d A Ai im Hs μ h
  obtain ⟨v, μ1, μ2, A', a, b, hI, e1, e2, k⟩ := g78 (d := d) (x := x) h
  exact ⟨v, μ1, μ2, A', Ai, im, Hs, a, b, hI, rfl, by omega, by omega, k⟩
theorem gg79 {x y : Int32} : GG 79 170 [Sum.inl (x), Sum.inl (y)] := by
  intro d A Ai im Hs μ h
  obtain ⟨v, a, b⟩ := g79 (d := d) (x := x) (y := y) h.1
  exact ⟨v, μ, μ, A, Ai, im, Hs, a, b, h, rfl, by omega, by omega, K1.rf⟩
theorem gg80 {x y z : Int32} : GG 80 171 [Sum.inl (x), Sum.inl (y), Sum.inl (z)] := by
  intro d A Ai im Hs μ h
  obtain ⟨v, a, b⟩ := g80 (d := d) (x := x) (y := y) (z := z) h.1
  exact ⟨v, μ, μ, A, Ai, im, Hs, a, b, h, rfl, by omega, by omega, K1.rf⟩
theorem gg81 {x y : Int32} : GG 81 174 [Sum.inl (x), Sum.inl (y)] := by
  intro d A Ai im Hs μ h
  obtain ⟨v, a, b⟩ := g81 (d := d) (x := x) (y := y) h.1
  exact ⟨v, μ, μ, A, Ai, im, Hs, a, b, h, rfl, by omega, by omega, K1.rf⟩
theorem gg82 {x : Int32} : GG 82 175 [Sum.inl (x)] := by
  intro d A Ai im Hs μ h
  obtain ⟨v, a, b⟩ := g82 (d := d) (x := x) h.1
  exact ⟨v, μ, μ, A, Ai, im, Hs, a, b, h, rfl, by omega, by omega, K1.rf⟩
theorem gg83 {x y : Int32} : GG 83 177 [Sum.inl (x), Sum.inl (y)] := by
  intro d A Ai im Hs μ h
  obtain ⟨v, a, b⟩ := g83 (d := d) (x := x) (y := y) h.1
  exact ⟨v, μ, μ, A, Ai, im, Hs, a, b, h, rfl, by omega, by omega, K1.rf⟩
theorem gg84 {x y : Int32} : GG 84 178 [Sum.inl (x), Sum.inl (y)] := by
  intro d A Ai im Hs μ h
  obtain ⟨v, a, b⟩ := g84 (d := d) (x := x) (y := y) h.1
  exact ⟨v, μ, μ, A, Ai, im, Hs, a, b, h, rfl, by omega, by omega, K1.rf⟩
theorem gg85 {x y : Int32} : GG 85 179 [Sum.inl (x), Sum.inl (y)] := by
  intro d A Ai im Hs μ h
  obtain ⟨v, μ1, μ2, A', a, b, hI, e1, e2, k⟩ := g85 (d := d) (x := x) (y := y) h
  exact ⟨v, μ1, μ2, A', Ai, im, Hs, a, b, hI, rfl, by omega, by omega, k⟩
theorem gg86 {x : Int32} : GG 86 180 [Sum.inl (x)] := by
  intro d A Ai im Hs μ h
  obtain ⟨v, μ1, μ2, A', a, b, hI, e1, e2, k⟩ := g86 (d := d) (x := x) h
  exact ⟨v, μ1, μ2, A', Ai, im, Hs, a, b, hI, rfl, by omega, by omega, k⟩
theorem gg87 {x y : Int32} : GG 87 188 [Sum.inl (x), Sum.inl (y)] := by
  intro d A Ai im Hs μ h
  obtain ⟨v, μ1, μ2, a, b, hI, e1, e2, k⟩ := g87 (d := d) (x := x) (y := y) h
  exact ⟨v, μ1, μ2, A, Ai, im, Hs, a, b, hI, rfl, by omega, by omega, k⟩
theorem gg88 {x y z : Int32} : GG 88 191 [Sum.inl (x), Sum.inl (y), Sum.inl (z)] := by
  intro d A Ai im Hs μ h
  obtain ⟨v, μ1, μ2, a, b, hI, e1, e2, k⟩ := g88 (d := d) (x := x) (y := y) (z := z) h
  exact ⟨v, μ1, μ2, A, Ai, im, Hs, a, b, hI, rfl, by omega, by omega, k⟩
theorem gg89 {x y z : Int32} : GG 89 193 [Sum.inl (x), Sum.inl (y), Sum.inl (z)] := by
  intro d A Ai im Hs μ h
  obtain ⟨v, μ2, a, b, hI, e1, e2⟩ := g89 (d := d) (x := x) (y := y) (z := z) h
  exact ⟨v, μ, μ2, A, Ai, im, Hs, a, b, hI, rfl, by omega, by omega, K1.rf⟩
theorem gg90 {x y : Int32} : GG 90 194 [Sum.inl (x), Sum.inl (y)] := by
  intro d A Ai im Hs μ h
  obtain ⟨v, μ2, a, b, hI, e1, e2⟩ := g90 (d := d) (x := x) (y := y) h
  exact ⟨v, μ, μ2, A, Ai, im, Hs, a, b, hI, rfl, by omega, by omega, K1.rf⟩
theorem gg91 {x y z : Int32} : GG 91 196 [Sum.inl (x), Sum.inl (y), Sum.inl (z)] := by
  intro d A Ai im Hs μ h
  obtain ⟨v, μ1, μ2, a, b, hI, e1, e2, k⟩ := g91 (d := d) (x := x) (y := y) (z := z) h
  exact ⟨v, μ1, μ2, A, Ai, im, Hs, a, b, hI, rfl, by omega, by omega, k⟩
theorem gg92 {x y : Int32} : GG 92 197 [Sum.inl (x), Sum.inl (y)] := by
  intro d A Ai im Hs μ h
  obtain ⟨v, μ1, μ2, a, b, hI, e1, e2, k⟩ := g92 (d := d) (x := x) (y := y) h
  exact ⟨v, μ1, μ2, A, Ai, im, Hs, a, b, hI, rfl, by omega, by omega, k⟩
theorem gg93 {x y : Int32} : GG 93 198 [Sum.inl (x), Sum.inl (y)] := by
  intro d A Ai im Hs μ h
  obtain ⟨v, a, b⟩ := g93 (d := d) (x := x) (y := y) h.1
  exact ⟨v, μ, μ, A, Ai, im, Hs, a, b, h, rfl, by omega, by omega, K1.rf⟩
theorem gg94 {x : Int32} : GG 94 199 [Sum.inl (x)] := by
  intro d A Ai im Hs μ h
  obtain ⟨v, a, b⟩ := g94 (d := d) (x := x) h.1
  exact ⟨v, μ, μ, A, Ai, im, Hs, a, b, h, rfl, by omega, by omega, K1.rf⟩
theorem gg95 {x y : Int32} : GG 95 200 [Sum.inl (x), Sum.inl (y)] := by
  intro d A Ai im Hs μ h
  obtain ⟨v, a, b⟩ := g95 (d := d) (x := x) (y := y) h.1
  exact ⟨v, μ, μ, A, Ai, im, Hs, a, b, h, rfl, by omega, by omega, K1.rf⟩
theorem gg96 {x y z : Int32} : GG 96 202 [Sum.inl (x), Sum.inl (y), Sum.inl (z)] := by
  intro d A Ai im Hs μ h
  obtain ⟨v, μ2, a, b, hI, e1, e2⟩ := g96 (d := d) (x := x) (y := y) (z := z) h
  exact ⟨v, μ, μ2, A, Ai, im, Hs, a, b, hI, rfl, by omega, by omega, K1.rf⟩
theorem gg97 {x y z : Int32} : GG 97 203 [Sum.inl (x), Sum.inl (y), Sum.inl (z)] := by
  intro d A Ai im Hs μ h
  obtain ⟨v, μ2, a, b, hI, e1, e2⟩ := g97 (d := d) (x := x) (y := y) (z := z) h
  exact ⟨v, μ, μ2, A, Ai, im, Hs, a, b, hI, rfl, by omega, by omega, K1.rf⟩
theorem gg98 {x y z : Int32} : GG 98 204 [Sum.inl (x), Sum.inl (y), Sum.inl (z)] := by
  intro d A Ai im Hs μ h
  obtain ⟨v, μ2, a, b, hI, e1, e2⟩ := g98 (d := d) (x := x) (y := y) (z := z) h
  exact ⟨v, μ, μ2, A, Ai, im, Hs, a, b, hI, rfl, by omega, by omega, K1.rf⟩
theorem gg99 {x y z : Int32} : GG 99 206 [Sum.inl (x), Sum.inl (y), Sum.inl (z)] := by
  intro d A Ai im Hs μ h
  obtain ⟨v, μ2, a, b, hI, e1, e2⟩ := g99 (d := d) (x := x) (y := y) (z := z) h
  exact ⟨v, μ, μ2, A, Ai, im, Hs, a, b, hI, rfl, by omega, by omega, K1.rf⟩
theorem gg100 {x y : Int32} : GG 100 208 [Sum.inl (x), Sum.inl (y)] := by
  intro d A Ai im Hs μ h
  obtain ⟨v, μ1, μ2, a, b, hI, e1, e2, k⟩ := g100 (d := d) (x := x) (y := y) h
  exact ⟨v, μ1, μ2, A, Ai, im, Hs, a, b, hI, rfl, by omega, by omega, k⟩
theorem gg101 {x : Int32} : GG 101 210 [Sum.inl (x)] := by
  intro d A Ai im Hs μ h
  obtain ⟨v, μ1, μ2, a, b, hI, e1, e2, k⟩ := g101 (d := d) (x := x) h
  exact ⟨v, μ1, μ2, A, Ai, im, Hs, a, b, hI, rfl, by omega, by omega, k⟩
theorem gg102 : GG 102 211 [] := by
  intro d A Ai im Hs μ h
  obtain ⟨v, μ1, μ2, Ai', im', a, b, hI, e1, e2, k⟩ := g102 (d := d) h
  exact ⟨v, μ1, μ2, A, Ai', im', Hs, a, b, hI, rfl, by omega, by omega, k⟩
theorem gg103 : GG 103 212 [] := by
  intro d A Ai im Hs μ h
  obtain ⟨v, μ1, μ2, A', a, b, hI, e1, e2, k⟩ := g103 (d := d) h
  exact ⟨v, μ1, μ2, A', Ai, im, Hs, a, b, hI, rfl, by omega, by omega, k⟩
theorem gg104 {x : Int32} : GG 104 213 [Sum.inl (x)] := by
  intro d A Ai im Hs μ h
  obtain ⟨v, a, b⟩ := g104 (d := d) (x := x) h.1
  exact ⟨v, μ, μ, A, Ai, im, Hs, a, b, h, rfl, by omega, by omega, K1.rf⟩
theorem gg105 {x y z w : Int32} : GG 105 215 [Sum.inl (x), Sum.inl (y), Sum.inl (z), Sum.inl (w)] := by
  intro d A Ai im Hs μ h
  obtain ⟨v, μ1, μ2, Hs', a, b, hI, h8, e1, e2, k⟩ := g105 (d := d) (x := x) (y := y) (z := z) (w := w) h
  exact ⟨v, μ1, μ2, A, Ai, im, Hs', a, b, hI, h8, by omega, by omega, k⟩
theorem gg106 {x y z : Int32} : GG 106 216 [Sum.inl (x), Sum.inl (y), Sum.inl (z)] := by
  intro d A Ai im Hs μ h
  obtain ⟨v, μ1, μ2, Hs', a, b, hI, h8, e1, e2, k⟩ := g106 (d := d) (x := x) (y := y) (z := z) h
  exact ⟨v, μ1, μ2, A, Ai, im, Hs', a, b, hI, h8, by omega, by omega, k⟩
theorem gg107 {x y z : Int32} : GG 107 217 [Sum.inl (x), Sum.inl (y), Sum.inl (z)] := by
  intro d A Ai im Hs μ h
  obtain ⟨v, μ1, μ2, Hs', a, b, hI, h8, e1, e2, k⟩ := g107 (d := d) (x := x) (y := y) (z := z) h
  exact ⟨v, μ1, μ2, A, Ai, im, Hs', a, b, hI, h8, by omega, by omega, k⟩
theorem gg109 {x y z w t : Int32} : GG 109 219 [Sum.inl (x), Sum.inl (y), Sum.inl (z), Sum.inl (w), Sum.inl (t)] := by
  intro d A Ai im Hs μ h
  obtain ⟨v, μ1, μ2, Hs', a, b, hI, h8, e1, e2, k⟩ := g109 (d := d) (x := x) (y := y) (z := z) (w := w) (t := t) h
  exact ⟨v, μ1, μ2, A, Ai, im, Hs', a, b, hI, h8, by omega, by omega, k⟩
theorem gg110 {x : Int32} : GG 110 221 [Sum.inl (x)] := by
  intro d A Ai im Hs μ h
  obtain ⟨v, μ1, μ2, A', a, b, hI, e1, e2, k⟩ := g110 (d := d) (x := x) h
  exact ⟨v, μ1, μ2, A', Ai, im, Hs, a, b, hI, rfl, by omega, by omega, k⟩
theorem gg111 {x : Int32} : GG 111 222 [Sum.inl (x)] := by
  intro d A Ai im Hs μ h
  obtain ⟨v, a, b⟩ := g111 (d := d) (x := x) h
  exact ⟨v, μ, μ, A, Ai, im, Hs, a, b, h, rfl, by omega, by omega, K1.rf⟩
theorem gg112 {x : Int32} : GG 112 223 [Sum.inl (x)] := by
  intro d A Ai im Hs μ h
  obtain ⟨v, μ1, μ2, a, b, hI, e1, e2, k⟩ := g112 (d := d) (x := x) h
  exact ⟨v, μ1, μ2, A, Ai, im, Hs, a, b, hI, rfl, by omega, by omega, k⟩
theorem lw0 {d L i : Nat} {A Ai : AT} {im : Nat} {Hs : Nat → HT} {u5 u6 u7 : Option SV} {μ : SMem} (h : INVw μ A Ai im Hs) (hL : hsz (Hs 8) = L) (hi : i + 6 ≤ L) (hL9 : L ≤ 3072) : ∃ A' Ai' im' Hs' μ' u5' u6' u7', rn (d + 13) 228 25 [some (Sum.inr (Sum.inl (1))), some (Sum.inr (Sum.inl (2))), some (Sum.inr (Sum.inl (69))), some (Sum.inr (Sum.inl (83))), some (Sum.inl (E i)), u5, u6, u7] [] μ = rn (d + 13) 228 13 [some (Sum.inr (Sum.inl (1))), some (Sum.inr (Sum.inl (2))), some (Sum.inr (Sum.inl (69))), some (Sum.inr (Sum.inl (83))), some (Sum.inl (E (i + 6))), u5', u6', u7'] [] μ' ∧ INVw μ' A' Ai' im' Hs' ∧ Hs' 8 = Hs 8 ∧ sz μ' ≤ sz μ + 101 ∧ sl μ' ≤ sl μ + 101 := by
  obtain ⟨v, μ1, μ2, A', Ai', im', Hs', a, b, hI, h8, e1, e2, k1, k2, k3⟩ := gg78 (x := hel (Hs 8) (i + 1)) d A Ai im Hs μ h
  have t11 := h.1.2.1.1
  have t12 : tg μ1 69 = 12 := by rw [k3 (by rw [h.1.1.1]; decide)]; exact h.1.1.1
  have l1 : ln μ 1 = L := h.2.2.2.2.1.2.1.trans hL
  have l1' : ln μ1 1 = L := k2.trans l1
  have e6 : E i + 6 = E (i + 6) := E_add i 6
  have p1 : E i + 1 = E (i + 1) := E_add i 1
  have x1 : gi μ 1 (i + 1) = hel (Hs 8) (i + 1) := h.2.2.2.2.1.2.2.1 _
  refine ⟨A', Ai', im', Hs', μ2, u5, u6, u7, ?_, hI, h8, e1, e2⟩
  simp only [st228_25, st228_26, st228_27, st228_28, st228_29, st228_30, st228_31, st228_32, st228_33, st228_34, st228_35, st228_36, st228_37, st228_38, st228_39, st228_1007, st228_1008, t11, t12, l1, l1', e6, k1, p1, x1, E_gL (show i + 1 < 4000 by omega), E_nL (show i + 1 < 4000 by omega), show i + 1 < L by omega, a, b, eq_self, aft_some, Option.toList_some, Option.toList_none, List.cons_append, List.nil_append, br0, br1, br2, br3, zr01, zr02, n10, n01, ne_eq, not_true_eq_false, not_false_eq_true, if_true, if_false, true_and, and_true, and_self]
theorem lw1 {d L i : Nat} {A Ai : AT} {im : Nat} {Hs : Nat → HT} {u5 u6 u7 : Option SV} {μ : SMem} (h : INVw μ A Ai im Hs) (hL : hsz (Hs 8) = L) (hi : i + 6 ≤ L) (hL9 : L ≤ 3072) : ∃ A' Ai' im' Hs' μ' u5' u6' u7', rn (d + 13) 228 42 [some (Sum.inr (Sum.inl (1))), some (Sum.inr (Sum.inl (2))), some (Sum.inr (Sum.inl (69))), some (Sum.inr (Sum.inl (83))), some (Sum.inl (E i)), u5, u6, u7] [] μ = rn (d + 13) 228 13 [some (Sum.inr (Sum.inl (1))), some (Sum.inr (Sum.inl (2))), some (Sum.inr (Sum.inl (69))), some (Sum.inr (Sum.inl (83))), some (Sum.inl (E (i + 6))), u5', u6', u7'] [] μ' ∧ INVw μ' A' Ai' im' Hs' ∧ Hs' 8 = Hs 8 ∧ sz μ' ≤ sz μ + 101 ∧ sl μ' ≤ sl μ + 101 := by
  obtain ⟨v, μ1, μ2, A', Ai', im', Hs', a, b, hI, h8, e1, e2, k1, k2, k3⟩ := gg79 (x := hel (Hs 8) (i + 1)) (y := hel (Hs 8) (i + 2)) d A Ai im Hs μ h
  have t11 := h.1.2.1.1
  have t12 : tg μ1 69 = 12 := by rw [k3 (by rw [h.1.1.1]; decide)]; exact h.1.1.1
  have l1 : ln μ 1 = L := h.2.2.2.2.1.2.1.trans hL
  have l1' : ln μ1 1 = L := k2.trans l1
  have e6 : E i + 6 = E (i + 6) := E_add i 6
  have p1 : E i + 1 = E (i + 1) := E_add i 1
  have x1 : gi μ 1 (i + 1) = hel (Hs 8) (i + 1) := h.2.2.2.2.1.2.2.1 _
  have p2 : E i + 2 = E (i + 2) := E_add i 2
  have x2 : gi μ 1 (i + 2) = hel (Hs 8) (i + 2) := h.2.2.2.2.1.2.2.1 _
  refine ⟨A', Ai', im', Hs', μ2, u5, u6, u7, ?_, hI, h8, e1, e2⟩
  simp only [st228_42, st228_43, st228_44, st228_45, st228_46, st228_47, st228_48, st228_49, st228_50, st228_51, st228_52, st228_53, st228_54, st228_55, st228_56, st228_57, st228_58, st228_59, st228_60, st228_61, st228_62, st228_63, st228_64, st228_65, st228_66, st228_1007, st228_1008, t11, t12, l1, l1', e6, k1, p1, x1, E_gL (show i + 1 < 4000 by omega), E_nL (show i + 1 < 4000 by omega), show i + 1 < L by omega, p2, x2, E_gL (show i + 2 < 4000 by omega), E_nL (show i + 2 < 4000 by omega), show i + 2 < L by omega, a, b, eq_self, aft_some, Option.toList_some, Option.toList_none, List.cons_append, List.nil_append, br0, br1, br2, br3, zr01, zr02, n10, n01, ne_eq, not_true_eq_false, not_false_eq_true, if_true, if_false, true_and, and_true, and_self]
theorem lw2 {d L i : Nat} {A Ai : AT} {im : Nat} {Hs : Nat → HT} {u5 u6 u7 : Option SV} {μ : SMem} (h : INVw μ A Ai im Hs) (hL : hsz (Hs 8) = L) (hi : i + 6 ≤ L) (hL9 : L ≤ 3072) : ∃ A' Ai' im' Hs' μ' u5' u6' u7', rn (d + 13) 228 69 [some (Sum.inr (Sum.inl (1))), some (Sum.inr (Sum.inl (2))), some (Sum.inr (Sum.inl (69))), some (Sum.inr (Sum.inl (83))), some (Sum.inl (E i)), u5, u6, u7] [] μ = rn (d + 13) 228 13 [some (Sum.inr (Sum.inl (1))), some (Sum.inr (Sum.inl (2))), some (Sum.inr (Sum.inl (69))), some (Sum.inr (Sum.inl (83))), some (Sum.inl (E (i + 6))), u5', u6', u7'] [] μ' ∧ INVw μ' A' Ai' im' Hs' ∧ Hs' 8 = Hs 8 ∧ sz μ' ≤ sz μ + 101 ∧ sl μ' ≤ sl μ + 101 := by
  obtain ⟨v, μ1, μ2, A', Ai', im', Hs', a, b, hI, h8, e1, e2, k1, k2, k3⟩ := gg80 (x := hel (Hs 8) (i + 1)) (y := hel (Hs 8) (i + 2)) (z := hel (Hs 8) (i + 3)) d A Ai im Hs μ h
  have t11 := h.1.2.1.1
  have t12 : tg μ1 69 = 12 := by rw [k3 (by rw [h.1.1.1]; decide)]; exact h.1.1.1
  have l1 : ln μ 1 = L := h.2.2.2.2.1.2.1.trans hL
  have l1' : ln μ1 1 = L := k2.trans l1
  have e6 : E i + 6 = E (i + 6) := E_add i 6
  have p1 : E i + 1 = E (i + 1) := E_add i 1
  have x1 : gi μ 1 (i + 1) = hel (Hs 8) (i + 1) := h.2.2.2.2.1.2.2.1 _
  have p2 : E i + 2 = E (i + 2) := E_add i 2
  have x2 : gi μ 1 (i + 2) = hel (Hs 8) (i + 2) := h.2.2.2.2.1.2.2.1 _
  have p3 : E i + 3 = E (i + 3) := E_add i 3
  have x3 : gi μ 1 (i + 3) = hel (Hs 8) (i + 3) := h.2.2.2.2.1.2.2.1 _
  refine ⟨A', Ai', im', Hs', μ2, u5, u6, u7, ?_, hI, h8, e1, e2⟩
  simp only [st228_69, st228_70, st228_71, st228_72, st228_73, st228_74, st228_75, st228_76, st228_77, st228_78, st228_79, st228_80, st228_81, st228_82, st228_83, st228_84, st228_85, st228_86, st228_87, st228_88, st228_89, st228_90, st228_91, st228_92, st228_93, st228_94, st228_95, st228_96, st228_97, st228_98, st228_99, st228_100, st228_101, st228_102, st228_103, st228_1007, st228_1008, t11, t12, l1, l1', e6, k1, p1, x1, E_gL (show i + 1 < 4000 by omega), E_nL (show i + 1 < 4000 by omega), show i + 1 < L by omega, p2, x2, E_gL (show i + 2 < 4000 by omega), E_nL (show i + 2 < 4000 by omega), show i + 2 < L by omega, p3, x3, E_gL (show i + 3 < 4000 by omega), E_nL (show i + 3 < 4000 by omega), show i + 3 < L by omega, a, b, eq_self, aft_some, Option.toList_some, Option.toList_none, List.cons_append, List.nil_append, br0, br1, br2, br3, zr01, zr02, n10, n01, ne_eq, not_true_eq_false, not_false_eq_true, if_true, if_false, true_and, and_true, and_self]
theorem lw3 {d L i : Nat} {A Ai : AT} {im : Nat} {Hs : Nat → HT} {u5 u6 u7 : Option SV} {μ : SMem} (h : INVw μ A Ai im Hs) (hL : hsz (Hs 8) = L) (hi : i + 6 ≤ L) (hL9 : L ≤ 3072) : ∃ A' Ai' im' Hs' μ' u5' u6' u7', rn (d + 13) 228 106 [some (Sum.inr (Sum.inl (1))), some (Sum.inr (Sum.inl (2))), some (Sum.inr (Sum.inl (69))), some (Sum.inr (Sum.inl (83))), some (Sum.inl (E i)), u5, u6, u7] [] μ = rn (d + 13) 228 13 [some (Sum.inr (Sum.inl (1))), some (Sum.inr (Sum.inl (2))), some (Sum.inr (Sum.inl (69))), some (Sum.inr (Sum.inl (83))), some (Sum.inl (E (i + 6))), u5', u6', u7'] [] μ' ∧ INVw μ' A' Ai' im' Hs' ∧ Hs' 8 = Hs 8 ∧ sz μ' ≤ sz μ + 101 ∧ sl μ' ≤ sl μ + 101 := by
  obtain ⟨v, μ1, μ2, A', Ai', im', Hs', a, b, hI, h8, e1, e2, k1, k2, k3⟩ := gg81 (x := hel (Hs 8) (i + 1)) (y := hel (Hs 8) (i + 2)) d A Ai im Hs μ h
  have t11 := h.1.2.1.1
  have t12 : tg μ1 69 = 12 := by rw [k3 (by rw [h.1.1.1]; decide)]; exact h.1.1.1
  have l1 : ln μ 1 = L := h.2.2.2.2.1.2.1.trans hL
  have l1' : ln μ1 1 = L := k2.trans l1
  have e6 : E i + 6 = E (i + 6) := E_add i 6
  have p1 : E i + 1 = E (i + 1) := E_add i 1
  have x1 : gi μ 1 (i + 1) = hel (Hs 8) (i + 1) := h.2.2.2.2.1.2.2.1 _
  have p2 : E i + 2 = E (i + 2) := E_add i 2
  have x2 : gi μ 1 (i + 2) = hel (Hs 8) (i + 2) := h.2.2.2.2.1.2.2.1 _
  refine ⟨A', Ai', im', Hs', μ2, u5, u6, u7, ?_, hI, h8, e1, e2⟩
  simp only [st228_106, st228_107, st228_108, st228_109, st228_110, st228_111, st228_112, st228_113, st228_114, st228_115, st228_116, st228_117, st228_118, st228_119, st228_120, st228_121, st228_122, st228_123, st228_124, st228_125, st228_126, st228_127, st228_128, st228_129, st228_130, st228_1007, st228_1008, t11, t12, l1, l1', e6, k1, p1, x1, E_gL (show i + 1 < 4000 by omega), E_nL (show i + 1 < 4000 by omega), show i + 1 < L by omega, p2, x2, E_gL (show i + 2 < 4000 by omega), E_nL (show i + 2 < 4000 by omega), show i + 2 < L by omega, a, b, eq_self, aft_some, Option.toList_some, Option.toList_none, List.cons_append, List.nil_append, br0, br1, br2, br3, zr01, zr02, n10, n01, ne_eq, not_true_eq_false, not_false_eq_true, if_true, if_false, true_and, and_true, and_self]
theorem lw4 {d L i : Nat} {A Ai : AT} {im : Nat} {Hs : Nat → HT} {u5 u6 u7 : Option SV} {μ : SMem} (h : INVw μ A Ai im Hs) (hL : hsz (Hs 8) = L) (hi : i + 6 ≤ L) (hL9 : L ≤ 3072) : ∃ A' Ai' im' Hs' μ' u5' u6' u7', rn (d + 13) 228 133 [some (Sum.inr (Sum.inl (1))), some (Sum.inr (Sum.inl (2))), some (Sum.inr (Sum.inl (69))), some (Sum.inr (Sum.inl (83))), some (Sum.inl (E i)), u5, u6, u7] [] μ = rn (d + 13) 228 13 [some (Sum.inr (Sum.inl (1))), some (Sum.inr (Sum.inl (2))), some (Sum.inr (Sum.inl (69))), some (Sum.inr (Sum.inl (83))), some (Sum.inl (E (i + 6))), u5', u6', u7'] [] μ' ∧ INVw μ' A' Ai' im' Hs' ∧ Hs' 8 = Hs 8 ∧ sz μ' ≤ sz μ + 101 ∧ sl μ' ≤ sl μ + 101 := by
  obtain ⟨v, μ1, μ2, A', Ai', im', Hs', a, b, hI, h8, e1, e2, k1, k2, k3⟩ := gg82 (x := hel (Hs 8) (i + 1)) d A Ai im Hs μ h
  have t11 := h.1.2.1.1
  have t12 : tg μ1 69 = 12 := by rw [k3 (by rw [h.1.1.1]; decide)]; exact h.1.1.1
  have l1 : ln μ 1 = L := h.2.2.2.2.1.2.1.trans hL
  have l1' : ln μ1 1 = L := k2.trans l1
  have e6 : E i + 6 = E (i + 6) := E_add i 6
  have p1 : E i + 1 = E (i + 1) := E_add i 1
  have x1 : gi μ 1 (i + 1) = hel (Hs 8) (i + 1) := h.2.2.2.2.1.2.2.1 _
  refine ⟨A', Ai', im', Hs', μ2, u5, u6, u7, ?_, hI, h8, e1, e2⟩
  simp only [st228_133, st228_134, st228_135, st228_136, st228_137, st228_138, st228_139, st228_140, st228_141, st228_142, st228_143, st228_144, st228_145, st228_146, st228_147, st228_1007, st228_1008, t11, t12, l1, l1', e6, k1, p1, x1, E_gL (show i + 1 < 4000 by omega), E_nL (show i + 1 < 4000 by omega), show i + 1 < L by omega, a, b, eq_self, aft_some, Option.toList_some, Option.toList_none, List.cons_append, List.nil_append, br0, br1, br2, br3, zr01, zr02, n10, n01, ne_eq, not_true_eq_false, not_false_eq_true, if_true, if_false, true_and, and_true, and_self]
theorem lw5 {d L i : Nat} {A Ai : AT} {im : Nat} {Hs : Nat → HT} {u5 u6 u7 : Option SV} {μ : SMem} (h : INVw μ A Ai im Hs) (hL : hsz (Hs 8) = L) (hi : i + 6 ≤ L) (hL9 : L ≤ 3072) : ∃ A' Ai' im' Hs' μ' u5' u6' u7', rn (d + 13) 228 150 [some (Sum.inr (Sum.inl (1))), some (Sum.inr (Sum.inl (2))), some (Sum.inr (Sum.inl (69))), some (Sum.inr (Sum.inl (83))), some (Sum.inl (E i)), u5, u6, u7] [] μ = rn (d + 13) 228 13 [some (Sum.inr (Sum.inl (1))), some (Sum.inr (Sum.inl (2))), some (Sum.inr (Sum.inl (69))), some (Sum.inr (Sum.inl (83))), some (Sum.inl (E (i + 6))), u5', u6', u7'] [] μ' ∧ INVw μ' A' Ai' im' Hs' ∧ Hs' 8 = Hs 8 ∧ sz μ' ≤ sz μ + 101 ∧ sl μ' ≤ sl μ + 101 := by
  obtain ⟨v, μ1, μ2, A', Ai', im', Hs', a, b, hI, h8, e1, e2, k1, k2, k3⟩ := gg83 (x := hel (Hs 8) (i + 1)) (y := hel (Hs 8) (i + 2)) d A Ai im Hs μ h
  have t11 := h.1.2.1.1
  have t12 : tg μ1 69 = 12 := by rw [k3 (by rw [h.1.1.1]; decide)]; exact h.1.1.1
  have l1 : ln μ 1 = L := h.2.2.2.2.1.2.1.trans hL
  have l1' : ln μ1 1 = L := k2.trans l1
  have e6 : E i + 6 = E (i + 6) := E_add i 6
  have p1 : E i + 1 = E (i + 1) := E_add i 1
  have x1 : gi μ 1 (i + 1) = hel (Hs 8) (i + 1) := h.2.2.2.2.1.2.2.1 _
  have p2 : E i + 2 = E (i + 2) := E_add i 2
  have x2 : gi μ 1 (i + 2) = hel (Hs 8) (i + 2) := h.2.2.2.2.1.2.2.1 _
  refine ⟨A', Ai', im', Hs', μ2, u5, u6, u7, ?_, hI, h8, e1, e2⟩
  simp only [st228_150, st228_151, st228_152, st228_153, st228_154, st228_155, st228_156, st228_157, st228_158, st228_159, st228_160, st228_161, st228_162, st228_163, st228_164, st228_165, st228_166, st228_167, st228_168, st228_169, st228_170, st228_171, st228_172, st228_173, st228_174, st228_1007, st228_1008, t11, t12, l1, l1', e6, k1, p1, x1, E_gL (show i + 1 < 4000 by omega), E_nL (show i + 1 < 4000 by omega), show i + 1 < L by omega, p2, x2, E_gL (show i + 2 < 4000 by omega), E_nL (show i + 2 < 4000 by omega), show i + 2 < L by omega, a, b, eq_self, aft_some, Option.toList_some, Option.toList_none, List.cons_append, List.nil_append, br0, br1, br2, br3, zr01, zr02, n10, n01, ne_eq, not_true_eq_false, not_false_eq_true, if_true, if_false, true_and, and_true, and_self]
theorem lw6 {d L i : Nat} {A Ai : AT} {im : Nat} {Hs : Nat → HT} {u5 u6 u7 : Option SV} {μ : SMem} (h : INVw μ A Ai im Hs) (hL : hsz (Hs 8) = L) (hi : i + 6 ≤ L) (hL9 : L ≤ 3072) : ∃ A' Ai' im' Hs' μ' u5' u6' u7', rn (d + 13) 228 177 [some (Sum.inr (Sum.inl (1))), some (Sum.inr (Sum.inl (2))), some (Sum.inr (Sum.inl (69))), some (Sum.inr (Sum.inl (83))), some (Sum.inl (E i)), u5, u6, u7] [] μ = rn (d + 13) 228 13 [some (Sum.inr (Sum.inl (1))), some (Sum.inr (Sum.inl (2))), some (Sum.inr (Sum.inl (69))), some (Sum.inr (Sum.inl (83))), some (Sum.inl (E (i + 6))), u5', u6', u7'] [] μ' ∧ INVw μ' A' Ai' im' Hs' ∧ Hs' 8 = Hs 8 ∧ sz μ' ≤ sz μ + 101 ∧ sl μ' ≤ sl μ + 101 := by
  obtain ⟨v, μ1, μ2, A', Ai', im', Hs', a, b, hI, h8, e1, e2, k1, k2, k3⟩ := gg84 (x := hel (Hs 8) (i + 1)) (y := hel (Hs 8) (i + 2)) d A Ai im Hs μ h
  have t11 := h.1.2.1.1
  have t12 : tg μ1 69 = 12 := by rw [k3 (by rw [h.1.1.1]; decide)]; exact h.1.1.1
  have l1 : ln μ 1 = L := h.2.2.2.2.1.2.1.trans hL
  have l1' : ln μ1 1 = L := k2.trans l1
  have e6 : E i + 6 = E (i + 6) := E_add i 6
  have p1 : E i + 1 = E (i + 1) := E_add i 1
  have x1 : gi μ 1 (i + 1) = hel (Hs 8) (i + 1) := h.2.2.2.2.1.2.2.1 _
  have p2 : E i + 2 = E (i + 2) := E_add i 2
  have x2 : gi μ 1 (i + 2) = hel (Hs 8) (i + 2) := h.2.2.2.2.1.2.2.1 _
  refine ⟨A', Ai', im', Hs', μ2, u5, u6, u7, ?_, hI, h8, e1, e2⟩
  simp only [st228_177, st228_178, st228_179, st228_180, st228_181, st228_182, st228_183, st228_184, st228_185, st228_186, st228_187, st228_188, st228_189, st228_190, st228_191, st228_192, st228_193, st228_194, st228_195, st228_196, st228_197, st228_198, st228_199, st228_200, st228_201, st228_1007, st228_1008, t11, t12, l1, l1', e6, k1, p1, x1, E_gL (show i + 1 < 4000 by omega), E_nL (show i + 1 < 4000 by omega), show i + 1 < L by omega, p2, x2, E_gL (show i + 2 < 4000 by omega), E_nL (show i + 2 < 4000 by omega), show i + 2 < L by omega, a, b, eq_self, aft_some, Option.toList_some, Option.toList_none, List.cons_append, List.nil_append, br0, br1, br2, br3, zr01, zr02, n10, n01, ne_eq, not_true_eq_false, not_false_eq_true, if_true, if_false, true_and, and_true, and_self]
theorem lw7 {d L i : Nat} {A Ai : AT} {im : Nat} {Hs : Nat → HT} {u5 u6 u7 : Option SV} {μ : SMem} (h : INVw μ A Ai im Hs) (hL : hsz (Hs 8) = L) (hi : i + 6 ≤ L) (hL9 : L ≤ 3072) : ∃ A' Ai' im' Hs' μ' u5' u6' u7', rn (d + 13) 228 204 [some (Sum.inr (Sum.inl (1))), some (Sum.inr (Sum.inl (2))), some (Sum.inr (Sum.inl (69))), some (Sum.inr (Sum.inl (83))), some (Sum.inl (E i)), u5, u6, u7] [] μ = rn (d + 13) 228 13 [some (Sum.inr (Sum.inl (1))), some (Sum.inr (Sum.inl (2))), some (Sum.inr (Sum.inl (69))), some (Sum.inr (Sum.inl (83))), some (Sum.inl (E (i + 6))), u5', u6', u7'] [] μ' ∧ INVw μ' A' Ai' im' Hs' ∧ Hs' 8 = Hs 8 ∧ sz μ' ≤ sz μ + 101 ∧ sl μ' ≤ sl μ + 101 := by
  obtain ⟨v, μ1, μ2, A', Ai', im', Hs', a, b, hI, h8, e1, e2, k1, k2, k3⟩ := gg85 (x := hel (Hs 8) (i + 1)) (y := hel (Hs 8) (i + 2)) d A Ai im Hs μ h
  have t11 := h.1.2.1.1
  have t12 : tg μ1 69 = 12 := by rw [k3 (by rw [h.1.1.1]; decide)]; exact h.1.1.1
  have l1 : ln μ 1 = L := h.2.2.2.2.1.2.1.trans hL
  have l1' : ln μ1 1 = L := k2.trans l1
  have e6 : E i + 6 = E (i + 6) := E_add i 6
  have p1 : E i + 1 = E (i + 1) := E_add i 1
  have x1 : gi μ 1 (i + 1) = hel (Hs 8) (i + 1) := h.2.2.2.2.1.2.2.1 _
  have p2 : E i + 2 = E (i + 2) := E_add i 2
  have x2 : gi μ 1 (i + 2) = hel (Hs 8) (i + 2) := h.2.2.2.2.1.2.2.1 _
  refine ⟨A', Ai', im', Hs', μ2, u5, u6, u7, ?_, hI, h8, e1, e2⟩
  simp only [st228_204, st228_205, st228_206, st228_207, st228_208, st228_209, st228_210, st228_211, st228_212, st228_213, st228_214, st228_215, st228_216, st228_217, st228_218, st228_219, st228_220, st228_221, st228_222, st228_223, st228_224, st228_225, st228_226, st228_227, st228_228, st228_1007, st228_1008, t11, t12, l1, l1', e6, k1, p1, x1, E_gL (show i + 1 < 4000 by omega), E_nL (show i + 1 < 4000 by omega), show i + 1 < L by omega, p2, x2, E_gL (show i + 2 < 4000 by omega), E_nL (show i + 2 < 4000 by omega), show i + 2 < L by omega, a, b, eq_self, aft_some, Option.toList_some, Option.toList_none, List.cons_append, List.nil_append, br0, br1, br2, br3, zr01, zr02, n10, n01, ne_eq, not_true_eq_false, not_false_eq_true, if_true, if_false, true_and, and_true, and_self]
theorem lw8 {d L i : Nat} {A Ai : AT} {im : Nat} {Hs : Nat → HT} {u5 u6 u7 : Option SV} {μ : SMem} (h : INVw μ A Ai im Hs) (hL : hsz (Hs 8) = L) (hi : i + 6 ≤ L) (hL9 : L ≤ 3072) : ∃ A' Ai' im' Hs' μ' u5' u6' u7', rn (d + 13) 228 231 [some (Sum.inr (Sum.inl (1))), some (Sum.inr (Sum.inl (2))), some (Sum.inr (Sum.inl (69))), some (Sum.inr (Sum.inl (83))), some (Sum.inl (E i)), u5, u6, u7] [] μ = rn (d + 13) 228 13 [some (Sum.inr (Sum.inl (1))), some (Sum.inr (Sum.inl (2))), some (Sum.inr (Sum.inl (69))), some (Sum.inr (Sum.inl (83))), some (Sum.inl (E (i + 6))), u5', u6', u7'] [] μ' ∧ INVw μ' A' Ai' im' Hs' ∧ Hs' 8 = Hs 8 ∧ sz μ' ≤ sz μ + 101 ∧ sl μ' ≤ sl μ + 101 := by
  obtain ⟨v, μ1, μ2, A', Ai', im', Hs', a, b, hI, h8, e1, e2, k1, k2, k3⟩ := gg86 (x := hel (Hs 8) (i + 1)) d A Ai im Hs μ h
  have t11 := h.1.2.1.1
  have t12 : tg μ1 69 = 12 := by rw [k3 (by rw [h.1.1.1]; decide)]; exact h.1.1.1
  have l1 : ln μ 1 = L := h.2.2.2.2.1.2.1.trans hL
  have l1' : ln μ1 1 = L := k2.trans l1
  have e6 : E i + 6 = E (i + 6) := E_add i 6
  have p1 : E i + 1 = E (i + 1) := E_add i 1
  have x1 : gi μ 1 (i + 1) = hel (Hs 8) (i + 1) := h.2.2.2.2.1.2.2.1 _
  refine ⟨A', Ai', im', Hs', μ2, u5, u6, u7, ?_, hI, h8, e1, e2⟩
  simp only [st228_231, st228_232, st228_233, st228_234, st228_235, st228_236, st228_237, st228_238, st228_239, st228_240, st228_241, st228_242, st228_243, st228_244, st228_245, st228_1007, st228_1008, t11, t12, l1, l1', e6, k1, p1, x1, E_gL (show i + 1 < 4000 by omega), E_nL (show i + 1 < 4000 by omega), show i + 1 < L by omega, a, b, eq_self, aft_some, Option.toList_some, Option.toList_none, List.cons_append, List.nil_append, br0, br1, br2, br3, zr01, zr02, n10, n01, ne_eq, not_true_eq_false, not_false_eq_true, if_true, if_false, true_and, and_true, and_self]
theorem lw9 {d L i : Nat} {A Ai : AT} {im : Nat} {Hs : Nat → HT} {u5 u6 u7 : Option SV} {μ : SMem} (h : INVw μ A Ai im Hs) (hL : hsz (Hs 8) = L) (hi : i + 6 ≤ L) (hL9 : L ≤ 3072) : ∃ A' Ai' im' Hs' μ' u5' u6' u7', rn (d + 13) 228 248 [some (Sum.inr (Sum.inl (1))), some (Sum.inr (Sum.inl (2))), some (Sum.inr (Sum.inl (69))), some (Sum.inr (Sum.inl (83))), some (Sum.inl (E i)), u5, u6, u7] [] μ = rn (d + 13) 228 13 [some (Sum.inr (Sum.inl (1))), some (Sum.inr (Sum.inl (2))), some (Sum.inr (Sum.inl (69))), some (Sum.inr (Sum.inl (83))), some (Sum.inl (E (i + 6))), u5', u6', u7'] [] μ' ∧ INVw μ' A' Ai' im' Hs' ∧ Hs' 8 = Hs 8 ∧ sz μ' ≤ sz μ + 101 ∧ sl μ' ≤ sl μ + 101 := by
  obtain ⟨v, μ1, μ2, A', Ai', im', Hs', a, b, hI, h8, e1, e2, k1, k2, k3⟩ := gg87 (x := hel (Hs 8) (i + 1)) (y := hel (Hs 8) (i + 2)) d A Ai im Hs μ h
  have t11 := h.1.2.1.1
  have t12 : tg μ1 69 = 12 := by rw [k3 (by rw [h.1.1.1]; decide)]; exact h.1.1.1
  have l1 : ln μ 1 = L := h.2.2.2.2.1.2.1.trans hL
  have l1' : ln μ1 1 = L := k2.trans l1
  have e6 : E i + 6 = E (i + 6) := E_add i 6
  have p1 : E i + 1 = E (i + 1) := E_add i 1
  have x1 : gi μ 1 (i + 1) = hel (Hs 8) (i + 1) := h.2.2.2.2.1.2.2.1 _
  have p2 : E i + 2 = E (i + 2) := E_add i 2
  have x2 : gi μ 1 (i + 2) = hel (Hs 8) (i + 2) := h.2.2.2.2.1.2.2.1 _
  refine ⟨A', Ai', im', Hs', μ2, u5, u6, u7, ?_, hI, h8, e1, e2⟩
  simp only [st228_248, st228_249, st228_250, st228_251, st228_252, st228_253, st228_254, st228_255, st228_256, st228_257, st228_258, st228_259, st228_260, st228_261, st228_262, st228_263, st228_264, st228_265, st228_266, st228_267, st228_268, st228_269, st228_270, st228_271, st228_272, st228_1007, st228_1008, t11, t12, l1, l1', e6, k1, p1, x1, E_gL (show i + 1 < 4000 by omega), E_nL (show i + 1 < 4000 by omega), show i + 1 < L by omega, p2, x2, E_gL (show i + 2 < 4000 by omega), E_nL (show i + 2 < 4000 by omega), show i + 2 < L by omega, a, b, eq_self, aft_some, Option.toList_some, Option.toList_none, List.cons_append, List.nil_append, br0, br1, br2, br3, zr01, zr02, n10, n01, ne_eq, not_true_eq_false, not_false_eq_true, if_true, if_false, true_and, and_true, and_self]
theorem lw10 {d L i : Nat} {A Ai : AT} {im : Nat} {Hs : Nat → HT} {u5 u6 u7 : Option SV} {μ : SMem} (h : INVw μ A Ai im Hs) (hL : hsz (Hs 8) = L) (hi : i + 6 ≤ L) (hL9 : L ≤ 3072) : ∃ A' Ai' im' Hs' μ' u5' u6' u7', rn (d + 13) 228 275 [some (Sum.inr (Sum.inl (1))), some (Sum.inr (Sum.inl (2))), some (Sum.inr (Sum.inl (69))), some (Sum.inr (Sum.inl (83))), some (Sum.inl (E i)), u5, u6, u7] [] μ = rn (d + 13) 228 13 [some (Sum.inr (Sum.inl (1))), some (Sum.inr (Sum.inl (2))), some (Sum.inr (Sum.inl (69))), some (Sum.inr (Sum.inl (83))), some (Sum.inl (E (i + 6))), u5', u6', u7'] [] μ' ∧ INVw μ' A' Ai' im' Hs' ∧ Hs' 8 = Hs 8 ∧ sz μ' ≤ sz μ + 101 ∧ sl μ' ≤ sl μ + 101 := by
  obtain ⟨v, μ1, μ2, A', Ai', im', Hs', a, b, hI, h8, e1, e2, k1, k2, k3⟩ := gg88 (x := hel (Hs 8) (i + 1)) (y := hel (Hs 8) (i + 2)) (z := hel (Hs 8) (i + 3)) d A Ai im Hs μ h
  have t11 := h.1.2.1.1
  have t12 : tg μ1 69 = 12 := by rw [k3 (by rw [h.1.1.1]; decide)]; exact h.1.1.1
  have l1 : ln μ 1 = L := h.2.2.2.2.1.2.1.trans hL
  have l1' : ln μ1 1 = L := k2.trans l1
  have e6 : E i + 6 = E (i + 6) := E_add i 6
  have p1 : E i + 1 = E (i + 1) := E_add i 1
  have x1 : gi μ 1 (i + 1) = hel (Hs 8) (i + 1) := h.2.2.2.2.1.2.2.1 _
  have p2 : E i + 2 = E (i + 2) := E_add i 2
  have x2 : gi μ 1 (i + 2) = hel (Hs 8) (i + 2) := h.2.2.2.2.1.2.2.1 _
  have p3 : E i + 3 = E (i + 3) := E_add i 3
  have x3 : gi μ 1 (i + 3) = hel (Hs 8) (i + 3) := h.2.2.2.2.1.2.2.1 _
  refine ⟨A', Ai', im', Hs', μ2, u5, u6, u7, ?_, hI, h8, e1, e2⟩
  simp only [st228_275, st228_276, st228_277, st228_278, st228_279, st228_280, st228_281, st228_282, st228_283, st228_284, st228_285, st228_286, st228_287, st228_288, st228_289, st228_290, st228_291, st228_292, st228_293, st228_294, st228_295, st228_296, st228_297, st228_298, st228_299, st228_300, st228_301, st228_302, st228_303, st228_304, st228_305, st228_306, st228_307, st228_308, st228_309, st228_1007, st228_1008, t11, t12, l1, l1', e6, k1, p1, x1, E_gL (show i + 1 < 4000 by omega), E_nL (show i + 1 < 4000 by omega), show i + 1 < L by omega, p2, x2, E_gL (show i + 2 < 4000 by omega), E_nL (show i + 2 < 4000 by omega), show i + 2 < L by omega, p3, x3, E_gL (show i + 3 < 4000 by omega), E_nL (show i + 3 < 4000 by omega), show i + 3 < L by omega, a, b, eq_self, aft_some, Option.toList_some, Option.toList_none, List.cons_append, List.nil_append, br0, br1, br2, br3, zr01, zr02, n10, n01, ne_eq, not_true_eq_false, not_false_eq_true, if_true, if_false, true_and, and_true, and_self]
theorem lw11 {d L i : Nat} {A Ai : AT} {im : Nat} {Hs : Nat → HT} {u5 u6 u7 : Option SV} {μ : SMem} (h : INVw μ A Ai im Hs) (hL : hsz (Hs 8) = L) (hi : i + 6 ≤ L) (hL9 : L ≤ 3072) : ∃ A' Ai' im' Hs' μ' u5' u6' u7', rn (d + 13) 228 312 [some (Sum.inr (Sum.inl (1))), some (Sum.inr (Sum.inl (2))), some (Sum.inr (Sum.inl (69))), some (Sum.inr (Sum.inl (83))), some (Sum.inl (E i)), u5, u6, u7] [] μ = rn (d + 13) 228 13 [some (Sum.inr (Sum.inl (1))), some (Sum.inr (Sum.inl (2))), some (Sum.inr (Sum.inl (69))), some (Sum.inr (Sum.inl (83))), some (Sum.inl (E (i + 6))), u5', u6', u7'] [] μ' ∧ INVw μ' A' Ai' im' Hs' ∧ Hs' 8 = Hs 8 ∧ sz μ' ≤ sz μ + 101 ∧ sl μ' ≤ sl μ + 101 := by
  obtain ⟨v, μ1, μ2, A', Ai', im', Hs', a, b, hI, h8, e1, e2, k1, k2, k3⟩ := gg89 (x := hel (Hs 8) (i + 1)) (y := hel (Hs 8) (i + 2)) (z := hel (Hs 8) (i + 3)) d A Ai im Hs μ h
  have t11 := h.1.2.1.1
  have t12 : tg μ1 69 = 12 := by rw [k3 (by rw [h.1.1.1]; decide)]; exact h.1.1.1
  have l1 : ln μ 1 = L := h.2.2.2.2.1.2.1.trans hL
  have l1' : ln μ1 1 = L := k2.trans l1
  have e6 : E i + 6 = E (i + 6) := E_add i 6
  have p1 : E i + 1 = E (i + 1) := E_add i 1
  have x1 : gi μ 1 (i + 1) = hel (Hs 8) (i + 1) := h.2.2.2.2.1.2.2.1 _
  have p2 : E i + 2 = E (i + 2) := E_add i 2
  have x2 : gi μ 1 (i + 2) = hel (Hs 8) (i + 2) := h.2.2.2.2.1.2.2.1 _
  have p3 : E i + 3 = E (i + 3) := E_add i 3
  have x3 : gi μ 1 (i + 3) = hel (Hs 8) (i + 3) := h.2.2.2.2.1.2.2.1 _
  refine ⟨A', Ai', im', Hs', μ2, u5, u6, u7, ?_, hI, h8, e1, e2⟩
  simp only [st228_312, st228_313, st228_314, st228_315, st228_316, st228_317, st228_318, st228_319, st228_320, st228_321, st228_322, st228_323, st228_324, st228_325, st228_326, st228_327, st228_328, st228_329, st228_330, st228_331, st228_332, st228_333, st228_334, st228_335, st228_336, st228_337, st228_338, st228_339, st228_340, st228_341, st228_342, st228_343, st228_344, st228_345, st228_346, st228_1007, st228_1008, t11, t12, l1, l1', e6, k1, p1, x1, E_gL (show i + 1 < 4000 by omega), E_nL (show i + 1 < 4000 by omega), show i + 1 < L by omega, p2, x2, E_gL (show i + 2 < 4000 by omega), E_nL (show i + 2 < 4000 by omega), show i + 2 < L by omega, p3, x3, E_gL (show i + 3 < 4000 by omega), E_nL (show i + 3 < 4000 by omega), show i + 3 < L by omega, a, b, eq_self, aft_some, Option.toList_some, Option.toList_none, List.cons_append, List.nil_append, br0, br1, br2, br3, zr01, zr02, n10, n01, ne_eq, not_true_eq_false, not_false_eq_true, if_true, if_false, true_and, and_true, and_self]
theorem lw12 {d L i : Nat} {A Ai : AT} {im : Nat} {Hs : Nat → HT} {u5 u6 u7 : Option SV} {μ : SMem} (h : INVw μ A Ai im Hs) (hL : hsz (Hs 8) = L) (hi : i + 6 ≤ L) (hL9 : L ≤ 3072) : ∃ A' Ai' im' Hs' μ' u5' u6' u7', rn (d + 13) 228 349 [some (Sum.inr (Sum.inl (1))), some (Sum.inr (Sum.inl (2))), some (Sum.inr (Sum.inl (69))), some (Sum.inr (Sum.inl (83))), some (Sum.inl (E i)), u5, u6, u7] [] μ = rn (d + 13) 228 13 [some (Sum.inr (Sum.inl (1))), some (Sum.inr (Sum.inl (2))), some (Sum.inr (Sum.inl (69))), some (Sum.inr (Sum.inl (83))), some (Sum.inl (E (i + 6))), u5', u6', u7'] [] μ' ∧ INVw μ' A' Ai' im' Hs' ∧ Hs' 8 = Hs 8 ∧ sz μ' ≤ sz μ + 101 ∧ sl μ' ≤ sl μ + 101 := by
  obtain ⟨v, μ1, μ2, A', Ai', im', Hs', a, b, hI, h8, e1, e2, k1, k2, k3⟩ := gg90 (x := hel (Hs 8) (i + 1)) (y := hel (Hs 8) (i + 2)) d A Ai im Hs μ h
  have t11 := h.1.2.1.1
  have t12 : tg μ1 69 = 12 := by rw [k3 (by rw [h.1.1.1]; decide)]; exact h.1.1.1
  have l1 : ln μ 1 = L := h.2.2.2.2.1.2.1.trans hL
  have l1' : ln μ1 1 = L := k2.trans l1
  have e6 : E i + 6 = E (i + 6) := E_add i 6
  have p1 : E i + 1 = E (i + 1) := E_add i 1
  have x1 : gi μ 1 (i + 1) = hel (Hs 8) (i + 1) := h.2.2.2.2.1.2.2.1 _
  have p2 : E i + 2 = E (i + 2) := E_add i 2
  have x2 : gi μ 1 (i + 2) = hel (Hs 8) (i + 2) := h.2.2.2.2.1.2.2.1 _
  refine ⟨A', Ai', im', Hs', μ2, u5, u6, u7, ?_, hI, h8, e1, e2⟩
  simp only [st228_349, st228_350, st228_351, st228_352, st228_353, st228_354, st228_355, st228_356, st228_357, st228_358, st228_359, st228_360, st228_361, st228_362, st228_363, st228_364, st228_365, st228_366, st228_367, st228_368, st228_369, st228_370, st228_371, st228_372, st228_373, st228_1007, st228_1008, t11, t12, l1, l1', e6, k1, p1, x1, E_gL (show i + 1 < 4000 by omega), E_nL (show i + 1 < 4000 by omega), show i + 1 < L by omega, p2, x2, E_gL (show i + 2 < 4000 by omega), E_nL (show i + 2 < 4000 by omega), show i + 2 < L by omega, a, b, eq_self, aft_some, Option.toList_some, Option.toList_none, List.cons_append, List.nil_append, br0, br1, br2, br3, zr01, zr02, n10, n01, ne_eq, not_true_eq_false, not_false_eq_true, if_true, if_false, true_and, and_true, and_self]
theorem lw13 {d L i : Nat} {A Ai : AT} {im : Nat} {Hs : Nat → HT} {u5 u6 u7 : Option SV} {μ : SMem} (h : INVw μ A Ai im Hs) (hL : hsz (Hs 8) = L) (hi : i + 6 ≤ L) (hL9 : L ≤ 3072) : ∃ A' Ai' im' Hs' μ' u5' u6' u7', rn (d + 13) 228 376 [some (Sum.inr (Sum.inl (1))), some (Sum.inr (Sum.inl (2))), some (Sum.inr (Sum.inl (69))), some (Sum.inr (Sum.inl (83))), some (Sum.inl (E i)), u5, u6, u7] [] μ = rn (d + 13) 228 13 [some (Sum.inr (Sum.inl (1))), some (Sum.inr (Sum.inl (2))), some (Sum.inr (Sum.inl (69))), some (Sum.inr (Sum.inl (83))), some (Sum.inl (E (i + 6))), u5', u6', u7'] [] μ' ∧ INVw μ' A' Ai' im' Hs' ∧ Hs' 8 = Hs 8 ∧ sz μ' ≤ sz μ + 101 ∧ sl μ' ≤ sl μ + 101 := by
  obtain ⟨v, μ1, μ2, A', Ai', im', Hs', a, b, hI, h8, e1, e2, k1, k2, k3⟩ := gg91 (x := hel (Hs 8) (i + 1)) (y := hel (Hs 8) (i + 2)) (z := hel (Hs 8) (i + 3)) d A Ai im Hs μ h
  have t11 := h.1.2.1.1
  have t12 : tg μ1 69 = 12 := by rw [k3 (by rw [h.1.1.1]; decide)]; exact h.1.1.1
  have l1 : ln μ 1 = L := h.2.2.2.2.1.2.1.trans hL
  have l1' : ln μ1 1 = L := k2.trans l1
  have e6 : E i + 6 = E (i + 6) := E_add i 6
  have p1 : E i + 1 = E (i + 1) := E_add i 1
  have x1 : gi μ 1 (i + 1) = hel (Hs 8) (i + 1) := h.2.2.2.2.1.2.2.1 _
  have p2 : E i + 2 = E (i + 2) := E_add i 2
  have x2 : gi μ 1 (i + 2) = hel (Hs 8) (i + 2) := h.2.2.2.2.1.2.2.1 _
  have p3 : E i + 3 = E (i + 3) := E_add i 3
  have x3 : gi μ 1 (i + 3) = hel (Hs 8) (i + 3) := h.2.2.2.2.1.2.2.1 _
  refine ⟨A', Ai', im', Hs', μ2, u5, u6, u7, ?_, hI, h8, e1, e2⟩
  simp only [st228_376, st228_377, st228_378, st228_379, st228_380, st228_381, st228_382, st228_383, st228_384, st228_385, st228_386, st228_387, st228_388, st228_389, st228_390, st228_391, st228_392, st228_393, st228_394, st228_395, st228_396, st228_397, st228_398, st228_399, st228_400, st228_401, st228_402, st228_403, st228_404, st228_405, st228_406, st228_407, st228_408, st228_409, st228_410, st228_1007, st228_1008, t11, t12, l1, l1', e6, k1, p1, x1, E_gL (show i + 1 < 4000 by omega), E_nL (show i + 1 < 4000 by omega), show i + 1 < L by omega, p2, x2, E_gL (show i + 2 < 4000 by omega), E_nL (show i + 2 < 4000 by omega), show i + 2 < L by omega, p3, x3, E_gL (show i + 3 < 4000 by omega), E_nL (show i + 3 < 4000 by omega), show i + 3 < L by omega, a, b, eq_self, aft_some, Option.toList_some, Option.toList_none, List.cons_append, List.nil_append, br0, br1, br2, br3, zr01, zr02, n10, n01, ne_eq, not_true_eq_false, not_false_eq_true, if_true, if_false, true_and, and_true, and_self]
theorem lw14 {d L i : Nat} {A Ai : AT} {im : Nat} {Hs : Nat → HT} {u5 u6 u7 : Option SV} {μ : SMem} (h : INVw μ A Ai im Hs) (hL : hsz (Hs 8) = L) (hi : i + 6 ≤ L) (hL9 : L ≤ 3072) : ∃ A' Ai' im' Hs' μ' u5' u6' u7', rn (d + 13) 228 413 [some (Sum.inr (Sum.inl (1))), some (Sum.inr (Sum.inl (2))), some (Sum.inr (Sum.inl (69))), some (Sum.inr (Sum.inl (83))), some (Sum.inl (E i)), u5, u6, u7] [] μ = rn (d + 13) 228 13 [some (Sum.inr (Sum.inl (1))), some (Sum.inr (Sum.inl (2))), some (Sum.inr (Sum.inl (69))), some (Sum.inr (Sum.inl (83))), some (Sum.inl (E (i + 6))), u5', u6', u7'] [] μ' ∧ INVw μ' A' Ai' im' Hs' ∧ Hs' 8 = Hs 8 ∧ sz μ' ≤ sz μ + 101 ∧ sl μ' ≤ sl μ + 101 := by
  obtain ⟨v, μ1, μ2, A', Ai', im', Hs', a, b, hI, h8, e1, e2, k1, k2, k3⟩ := gg92 (x := hel (Hs 8) (i + 1)) (y := hel (Hs 8) (i + 2)) d A Ai im Hs μ h
  have t11 := h.1.2.1.1
  have t12 : tg μ1 69 = 12 := by rw [k3 (by rw [h.1.1.1]; decide)]; exact h.1.1.1
  have l1 : ln μ 1 = L := h.2.2.2.2.1.2.1.trans hL
  have l1' : ln μ1 1 = L := k2.trans l1
  have e6 : E i + 6 = E (i + 6) := E_add i 6
  have p1 : E i + 1 = E (i + 1) := E_add i 1
  have x1 : gi μ 1 (i + 1) = hel (Hs 8) (i + 1) := h.2.2.2.2.1.2.2.1 _
  have p2 : E i + 2 = E (i + 2) := E_add i 2
  have x2 : gi μ 1 (i + 2) = hel (Hs 8) (i + 2) := h.2.2.2.2.1.2.2.1 _
  refine ⟨A', Ai', im', Hs', μ2, u5, u6, u7, ?_, hI, h8, e1, e2⟩
  simp only [st228_413, st228_414, st228_415, st228_416, st228_417, st228_418, st228_419, st228_420, st228_421, st228_422, st228_423, st228_424, st228_425, st228_426, st228_427, st228_428, st228_429, st228_430, st228_431, st228_432, st228_433, st228_434, st228_435, st228_436, st228_437, st228_1007, st228_1008, t11, t12, l1, l1', e6, k1, p1, x1, E_gL (show i + 1 < 4000 by omega), E_nL (show i + 1 < 4000 by omega), show i + 1 < L by omega, p2, x2, E_gL (show i + 2 < 4000 by omega), E_nL (show i + 2 < 4000 by omega), show i + 2 < L by omega, a, b, eq_self, aft_some, Option.toList_some, Option.toList_none, List.cons_append, List.nil_append, br0, br1, br2, br3, zr01, zr02, n10, n01, ne_eq, not_true_eq_false, not_false_eq_true, if_true, if_false, true_and, and_true, and_self]
theorem lw15 {d L i : Nat} {A Ai : AT} {im : Nat} {Hs : Nat → HT} {u5 u6 u7 : Option SV} {μ : SMem} (h : INVw μ A Ai im Hs) (hL : hsz (Hs 8) = L) (hi : i + 6 ≤ L) (hL9 : L ≤ 3072) : ∃ A' Ai' im' Hs' μ' u5' u6' u7', rn (d + 13) 228 440 [some (Sum.inr (Sum.inl (1))), some (Sum.inr (Sum.inl (2))), some (Sum.inr (Sum.inl (69))), some (Sum.inr (Sum.inl (83))), some (Sum.inl (E i)), u5, u6, u7] [] μ = rn (d + 13) 228 13 [some (Sum.inr (Sum.inl (1))), some (Sum.inr (Sum.inl (2))), some (Sum.inr (Sum.inl (69))), some (Sum.inr (Sum.inl (83))), some (Sum.inl (E (i + 6))), u5', u6', u7'] [] μ' ∧ INVw μ' A' Ai' im' Hs' ∧ Hs' 8 = Hs 8 ∧ sz μ' ≤ sz μ + 101 ∧ sl μ' ≤ sl μ + 101 := by
  obtain ⟨v, μ1, μ2, A', Ai', im', Hs', a, b, hI, h8, e1, e2, k1, k2, k3⟩ := gg93 (x := hel (Hs 8) (i + 1)) (y := hel (Hs 8) (i + 2)) d A Ai im Hs μ h
  have t11 := h.1.2.1.1
  have t12 : tg μ1 69 = 12 := by rw [k3 (by rw [h.1.1.1]; decide)]; exact h.1.1.1
  have l1 : ln μ 1 = L := h.2.2.2.2.1.2.1.trans hL
  have l1' : ln μ1 1 = L := k2.trans l1
  have e6 : E i + 6 = E (i + 6) := E_add i 6
  have p1 : E i + 1 = E (i + 1) := E_add i 1
  have x1 : gi μ 1 (i + 1) = hel (Hs 8) (i + 1) := h.2.2.2.2.1.2.2.1 _
  have p2 : E i + 2 = E (i + 2) := E_add i 2
  have x2 : gi μ 1 (i + 2) = hel (Hs 8) (i + 2) := h.2.2.2.2.1.2.2.1 _
  refine ⟨A', Ai', im', Hs', μ2, u5, u6, u7, ?_, hI, h8, e1, e2⟩
  simp only [st228_440, st228_441, st228_442, st228_443, st228_444, st228_445, st228_446, st228_447, st228_448, st228_449, st228_450, st228_451, st228_452, st228_453, st228_454, st228_455, st228_456, st228_457, st228_458, st228_459, st228_460, st228_461, st228_462, st228_463, st228_464, st228_1007, st228_1008, t11, t12, l1, l1', e6, k1, p1, x1, E_gL (show i + 1 < 4000 by omega), E_nL (show i + 1 < 4000 by omega), show i + 1 < L by omega, p2, x2, E_gL (show i + 2 < 4000 by omega), E_nL (show i + 2 < 4000 by omega), show i + 2 < L by omega, a, b, eq_self, aft_some, Option.toList_some, Option.toList_none, List.cons_append, List.nil_append, br0, br1, br2, br3, zr01, zr02, n10, n01, ne_eq, not_true_eq_false, not_false_eq_true, if_true, if_false, true_and, and_true, and_self]
theorem lw16 {d L i : Nat} {A Ai : AT} {im : Nat} {Hs : Nat → HT} {u5 u6 u7 : Option SV} {μ : SMem} (h : INVw μ A Ai im Hs) (hL : hsz (Hs 8) = L) (hi : i + 6 ≤ L) (hL9 : L ≤ 3072) : ∃ A' Ai' im' Hs' μ' u5' u6' u7', rn (d + 13) 228 467 [some (Sum.inr (Sum.inl (1))), some (Sum.inr (Sum.inl (2))), some (Sum.inr (Sum.inl (69))), some (Sum.inr (Sum.inl (83))), some (Sum.inl (E i)), u5, u6, u7] [] μ = rn (d + 13) 228 13 [some (Sum.inr (Sum.inl (1))), some (Sum.inr (Sum.inl (2))), some (Sum.inr (Sum.inl (69))), some (Sum.inr (Sum.inl (83))), some (Sum.inl (E (i + 6))), u5', u6', u7'] [] μ' ∧ INVw μ' A' Ai' im' Hs' ∧ Hs' 8 = Hs 8 ∧ sz μ' ≤ sz μ + 101 ∧ sl μ' ≤ sl μ + 101 := by
  obtain ⟨v, μ1, μ2, A', Ai', im', Hs', a, b, hI, h8, e1, e2, k1, k2, k3⟩ := gg94 (x := hel (Hs 8) (i + 1)) d A Ai im Hs μ h
  have t11 := h.1.2.1.1
  have t12 : tg μ1 69 = 12 := by rw [k3 (by rw [h.1.1.1]; decide)]; exact h.1.1.1
  have l1 : ln μ 1 = L := h.2.2.2.2.1.2.1.trans hL
  have l1' : ln μ1 1 = L := k2.trans l1
  have e6 : E i + 6 = E (i + 6) := E_add i 6
  have p1 : E i + 1 = E (i + 1) := E_add i 1
  have x1 : gi μ 1 (i + 1) = hel (Hs 8) (i + 1) := h.2.2.2.2.1.2.2.1 _
  refine ⟨A', Ai', im', Hs', μ2, u5, u6, u7, ?_, hI, h8, e1, e2⟩
  simp only [st228_467, st228_468, st228_469, st228_470, st228_471, st228_472, st228_473, st228_474, st228_475, st228_476, st228_477, st228_478, st228_479, st228_480, st228_481, st228_1007, st228_1008, t11, t12, l1, l1', e6, k1, p1, x1, E_gL (show i + 1 < 4000 by omega), E_nL (show i + 1 < 4000 by omega), show i + 1 < L by omega, a, b, eq_self, aft_some, Option.toList_some, Option.toList_none, List.cons_append, List.nil_append, br0, br1, br2, br3, zr01, zr02, n10, n01, ne_eq, not_true_eq_false, not_false_eq_true, if_true, if_false, true_and, and_true, and_self]
theorem lw17 {d L i : Nat} {A Ai : AT} {im : Nat} {Hs : Nat → HT} {u5 u6 u7 : Option SV} {μ : SMem} (h : INVw μ A Ai im Hs) (hL : hsz (Hs 8) = L) (hi : i + 6 ≤ L) (hL9 : L ≤ 3072) : ∃ A' Ai' im' Hs' μ' u5' u6' u7', rn (d + 13) 228 484 [some (Sum.inr (Sum.inl (1))), some (Sum.inr (Sum.inl (2))), some (Sum.inr (Sum.inl (69))), some (Sum.inr (Sum.inl (83))), some (Sum.inl (E i)), u5, u6, u7] [] μ = rn (d + 13) 228 13 [some (Sum.inr (Sum.inl (1))), some (Sum.inr (Sum.inl (2))), some (Sum.inr (Sum.inl (69))), some (Sum.inr (Sum.inl (83))), some (Sum.inl (E (i + 6))), u5', u6', u7'] [] μ' ∧ INVw μ' A' Ai' im' Hs' ∧ Hs' 8 = Hs 8 ∧ sz μ' ≤ sz μ + 101 ∧ sl μ' ≤ sl μ + 101 := by
  obtain ⟨v, μ1, μ2, A', Ai', im', Hs', a, b, hI, h8, e1, e2, k1, k2, k3⟩ := gg95 (x := hel (Hs 8) (i + 1)) (y := hel (Hs 8) (i + 2)) d A Ai im Hs μ h
  have t11 := h.1.2.1.1
  have t12 : tg μ1 69 = 12 := by rw [k3 (by rw [h.1.1.1]; decide)]; exact h.1.1.1
  have l1 : ln μ 1 = L := h.2.2.2.2.1.2.1.trans hL
  have l1' : ln μ1 1 = L := k2.trans l1
  have e6 : E i + 6 = E (i + 6) := E_add i 6
  have p1 : E i + 1 = E (i + 1) := E_add i 1
  have x1 : gi μ 1 (i + 1) = hel (Hs 8) (i + 1) := h.2.2.2.2.1.2.2.1 _
  have p2 : E i + 2 = E (i + 2) := E_add i 2
  have x2 : gi μ 1 (i + 2) = hel (Hs 8) (i + 2) := h.2.2.2.2.1.2.2.1 _
  refine ⟨A', Ai', im', Hs', μ2, u5, u6, u7, ?_, hI, h8, e1, e2⟩
  simp only [st228_484, st228_485, st228_486, st228_487, st228_488, st228_489, st228_490, st228_491, st228_492, st228_493, st228_494, st228_495, st228_496, st228_497, st228_498, st228_499, st228_500, st228_501, st228_502, st228_503, st228_504, st228_505, st228_506, st228_507, st228_508, st228_1007, st228_1008, t11, t12, l1, l1', e6, k1, p1, x1, E_gL (show i + 1 < 4000 by omega), E_nL (show i + 1 < 4000 by omega), show i + 1 < L by omega, p2, x2, E_gL (show i + 2 < 4000 by omega), E_nL (show i + 2 < 4000 by omega), show i + 2 < L by omega, a, b, eq_self, aft_some, Option.toList_some, Option.toList_none, List.cons_append, List.nil_append, br0, br1, br2, br3, zr01, zr02, n10, n01, ne_eq, not_true_eq_false, not_false_eq_true, if_true, if_false, true_and, and_true, and_self]
theorem lw18 {d L i : Nat} {A Ai : AT} {im : Nat} {Hs : Nat → HT} {u5 u6 u7 : Option SV} {μ : SMem} (h : INVw μ A Ai im Hs) (hL : hsz (Hs 8) = L) (hi : i + 6 ≤ L) (hL9 : L ≤ 3072) : ∃ A' Ai' im' Hs' μ' u5' u6' u7', rn (d + 13) 228 511 [some (Sum.inr (Sum.inl (1))), some (Sum.inr (Sum.inl (2))), some (Sum.inr (Sum.inl (69))), some (Sum.inr (Sum.inl (83))), some (Sum.inl (E i)), u5, u6, u7] [] μ = rn (d + 13) 228 13 [some (Sum.inr (Sum.inl (1))), some (Sum.inr (Sum.inl (2))), some (Sum.inr (Sum.inl (69))), some (Sum.inr (Sum.inl (83))), some (Sum.inl (E (i + 6))), u5', u6', u7'] [] μ' ∧ INVw μ' A' Ai' im' Hs' ∧ Hs' 8 = Hs 8 ∧ sz μ' ≤ sz μ + 101 ∧ sl μ' ≤ sl μ + 101 := by
  obtain ⟨v, μ1, μ2, A', Ai', im', Hs', a, b, hI, h8, e1, e2, k1, k2, k3⟩ := gg96 (x := hel (Hs 8) (i + 1)) (y := hel (Hs 8) (i + 2)) (z := hel (Hs 8) (i + 3)) d A Ai im Hs μ h
  have t11 := h.1.2.1.1
  have t12 : tg μ1 69 = 12 := by rw [k3 (by rw [h.1.1.1]; decide)]; exact h.1.1.1
  have l1 : ln μ 1 = L := h.2.2.2.2.1.2.1.trans hL
  have l1' : ln μ1 1 = L := k2.trans l1
  have e6 : E i + 6 = E (i + 6) := E_add i 6
  have p1 : E i + 1 = E (i + 1) := E_add i 1
  have x1 : gi μ 1 (i + 1) = hel (Hs 8) (i + 1) := h.2.2.2.2.1.2.2.1 _
  have p2 : E i + 2 = E (i + 2) := E_add i 2
  have x2 : gi μ 1 (i + 2) = hel (Hs 8) (i + 2) := h.2.2.2.2.1.2.2.1 _
  have p3 : E i + 3 = E (i + 3) := E_add i 3
  have x3 : gi μ 1 (i + 3) = hel (Hs 8) (i + 3) := h.2.2.2.2.1.2.2.1 _
  refine ⟨A', Ai', im', Hs', μ2, u5, u6, u7, ?_, hI, h8, e1, e2⟩
  simp only [st228_511, st228_512, st228_513, st228_514, st228_515, st228_516, st228_517, st228_518, st228_519, st228_520, st228_521, st228_522, st228_523, st228_524, st228_525, st228_526, st228_527, st228_528, st228_529, st228_530, st228_531, st228_532, st228_533, st228_534, st228_535, st228_536, st228_537, st228_538, st228_539, st228_540, st228_541, st228_542, st228_543, st228_544, st228_545, st228_1007, st228_1008, t11, t12, l1, l1', e6, k1, p1, x1, E_gL (show i + 1 < 4000 by omega), E_nL (show i + 1 < 4000 by omega), show i + 1 < L by omega, p2, x2, E_gL (show i + 2 < 4000 by omega), E_nL (show i + 2 < 4000 by omega), show i + 2 < L by omega, p3, x3, E_gL (show i + 3 < 4000 by omega), E_nL (show i + 3 < 4000 by omega), show i + 3 < L by omega, a, b, eq_self, aft_some, Option.toList_some, Option.toList_none, List.cons_append, List.nil_append, br0, br1, br2, br3, zr01, zr02, n10, n01, ne_eq, not_true_eq_false, not_false_eq_true, if_true, if_false, true_and, and_true, and_self]
theorem lw19 {d L i : Nat} {A Ai : AT} {im : Nat} {Hs : Nat → HT} {u5 u6 u7 : Option SV} {μ : SMem} (h : INVw μ A Ai im Hs) (hL : hsz (Hs 8) = L) (hi : i + 6 ≤ L) (hL9 : L ≤ 3072) : ∃ A' Ai' im' Hs' μ' u5' u6' u7', rn (d + 13) 228 548 [some (Sum.inr (Sum.inl (1))), some (Sum.inr (Sum.inl (2))), some (Sum.inr (Sum.inl (69))), some (Sum.inr (Sum.inl (83))), some (Sum.inl (E i)), u5, u6, u7] [] μ = rn (d + 13) 228 13 [some (Sum.inr (Sum.inl (1))), some (Sum.inr (Sum.inl (2))), some (Sum.inr (Sum.inl (69))), some (Sum.inr (Sum.inl (83))), some (Sum.inl (E (i + 6))), u5', u6', u7'] [] μ' ∧ INVw μ' A' Ai' im' Hs' ∧ Hs' 8 = Hs 8 ∧ sz μ' ≤ sz μ + 101 ∧ sl μ' ≤ sl μ + 101 := by
  obtain ⟨v, μ1, μ2, A', Ai', im', Hs', a, b, hI, h8, e1, e2, k1, k2, k3⟩ := gg97 (x := hel (Hs 8) (i + 1)) (y := hel (Hs 8) (i + 2)) (z := hel (Hs 8) (i + 3)) d A Ai im Hs μ h
  have t11 := h.1.2.1.1
  have t12 : tg μ1 69 = 12 := by rw [k3 (by rw [h.1.1.1]; decide)]; exact h.1.1.1
  have l1 : ln μ 1 = L := h.2.2.2.2.1.2.1.trans hL
  have l1' : ln μ1 1 = L := k2.trans l1
  have e6 : E i + 6 = E (i + 6) := E_add i 6
  have p1 : E i + 1 = E (i + 1) := E_add i 1
  have x1 : gi μ 1 (i + 1) = hel (Hs 8) (i + 1) := h.2.2.2.2.1.2.2.1 _
  have p2 : E i + 2 = E (i + 2) := E_add i 2
  have x2 : gi μ 1 (i + 2) = hel (Hs 8) (i + 2) := h.2.2.2.2.1.2.2.1 _
  have p3 : E i + 3 = E (i + 3) := E_add i 3
  have x3 : gi μ 1 (i + 3) = hel (Hs 8) (i + 3) := h.2.2.2.2.1.2.2.1 _
  refine ⟨A', Ai', im', Hs', μ2, u5, u6, u7, ?_, hI, h8, e1, e2⟩
  simp only [st228_548, st228_549, st228_550, st228_551, st228_552, st228_553, st228_554, st228_555, st228_556, st228_557, st228_558, st228_559, st228_560, st228_561, st228_562, st228_563, st228_564, st228_565, st228_566, st228_567, st228_568, st228_569, st228_570, st228_571, st228_572, st228_573, st228_574, st228_575, st228_576, st228_577, st228_578, st228_579, st228_580, st228_581, st228_582, st228_1007, st228_1008, t11, t12, l1, l1', e6, k1, p1, x1, E_gL (show i + 1 < 4000 by omega), E_nL (show i + 1 < 4000 by omega), show i + 1 < L by omega, p2, x2, E_gL (show i + 2 < 4000 by omega), E_nL (show i + 2 < 4000 by omega), show i + 2 < L by omega, p3, x3, E_gL (show i + 3 < 4000 by omega), E_nL (show i + 3 < 4000 by omega), show i + 3 < L by omega, a, b, eq_self, aft_some, Option.toList_some, Option.toList_none, List.cons_append, List.nil_append, br0, br1, br2, br3, zr01, zr02, n10, n01, ne_eq, not_true_eq_false, not_false_eq_true, if_true, if_false, true_and, and_true, and_self]
theorem lw20 {d L i : Nat} {A Ai : AT} {im : Nat} {Hs : Nat → HT} {u5 u6 u7 : Option SV} {μ : SMem} (h : INVw μ A Ai im Hs) (hL : hsz (Hs 8) = L) (hi : i + 6 ≤ L) (hL9 : L ≤ 3072) : ∃ A' Ai' im' Hs' μ' u5' u6' u7', rn (d + 13) 228 585 [some (Sum.inr (Sum.inl (1))), some (Sum.inr (Sum.inl (2))), some (Sum.inr (Sum.inl (69))), some (Sum.inr (Sum.inl (83))), some (Sum.inl (E i)), u5, u6, u7] [] μ = rn (d + 13) 228 13 [some (Sum.inr (Sum.inl (1))), some (Sum.inr (Sum.inl (2))), some (Sum.inr (Sum.inl (69))), some (Sum.inr (Sum.inl (83))), some (Sum.inl (E (i + 6))), u5', u6', u7'] [] μ' ∧ INVw μ' A' Ai' im' Hs' ∧ Hs' 8 = Hs 8 ∧ sz μ' ≤ sz μ + 101 ∧ sl μ' ≤ sl μ + 101 := by
  obtain ⟨v, μ1, μ2, A', Ai', im', Hs', a, b, hI, h8, e1, e2, k1, k2, k3⟩ := gg98 (x := hel (Hs 8) (i + 1)) (y := hel (Hs 8) (i + 2)) (z := hel (Hs 8) (i + 3)) d A Ai im Hs μ h
  have t11 := h.1.2.1.1
  have t12 : tg μ1 69 = 12 := by rw [k3 (by rw [h.1.1.1]; decide)]; exact h.1.1.1
  have l1 : ln μ 1 = L := h.2.2.2.2.1.2.1.trans hL
  have l1' : ln μ1 1 = L := k2.trans l1
  have e6 : E i + 6 = E (i + 6) := E_add i 6
  have p1 : E i + 1 = E (i + 1) := E_add i 1
  have x1 : gi μ 1 (i + 1) = hel (Hs 8) (i + 1) := h.2.2.2.2.1.2.2.1 _
  have p2 : E i + 2 = E (i + 2) := E_add i 2
  have x2 : gi μ 1 (i + 2) = hel (Hs 8) (i + 2) := h.2.2.2.2.1.2.2.1 _
  have p3 : E i + 3 = E (i + 3) := E_add i 3
  have x3 : gi μ 1 (i + 3) = hel (Hs 8) (i + 3) := h.2.2.2.2.1.2.2.1 _
  refine ⟨A', Ai', im', Hs', μ2, u5, u6, u7, ?_, hI, h8, e1, e2⟩
  simp only [st228_585, st228_586, st228_587, st228_588, st228_589, st228_590, st228_591, st228_592, st228_593, st228_594, st228_595, st228_596, st228_597, st228_598, st228_599, st228_600, st228_601, st228_602, st228_603, st228_604, st228_605, st228_606, st228_607, st228_608, st228_609, st228_610, st228_611, st228_612, st228_613, st228_614, st228_615, st228_616, st228_617, st228_618, st228_619, st228_1007, st228_1008, t11, t12, l1, l1', e6, k1, p1, x1, E_gL (show i + 1 < 4000 by omega), E_nL (show i + 1 < 4000 by omega), show i + 1 < L by omega, p2, x2, E_gL (show i + 2 < 4000 by omega), E_nL (show i + 2 < 4000 by omega), show i + 2 < L by omega, p3, x3, E_gL (show i + 3 < 4000 by omega), E_nL (show i + 3 < 4000 by omega), show i + 3 < L by omega, a, b, eq_self, aft_some, Option.toList_some, Option.toList_none, List.cons_append, List.nil_append, br0, br1, br2, br3, zr01, zr02, n10, n01, ne_eq, not_true_eq_false, not_false_eq_true, if_true, if_false, true_and, and_true, and_self]
theorem lw21 {d L i : Nat} {A Ai : AT} {im : Nat} {Hs : Nat → HT} {u5 u6 u7 : Option SV} {μ : SMem} (h : INVw μ A Ai im Hs) (hL : hsz (Hs 8) = L) (hi : i + 6 ≤ L) (hL9 : L ≤ 3072) : ∃ A' Ai' im' Hs' μ' u5' u6' u7', rn (d + 13) 228 622 [some (Sum.inr (Sum.inl (1))), some (Sum.inr (Sum.inl (2))), some (Sum.inr (Sum.inl (69))), some (Sum.inr (Sum.inl (83))), some (Sum.inl (E i)), u5, u6, u7] [] μ = rn (d + 13) 228 13 [some (Sum.inr (Sum.inl (1))), some (Sum.inr (Sum.inl (2))), some (Sum.inr (Sum.inl (69))), some (Sum.inr (Sum.inl (83))), some (Sum.inl (E (i + 6))), u5', u6', u7'] [] μ' ∧ INVw μ' A' Ai' im' Hs' ∧ Hs' 8 = Hs 8 ∧ sz μ' ≤ sz μ + 101 ∧ sl μ' ≤ sl μ + 101 := by
  obtain ⟨v, μ1, μ2, A', Ai', im', Hs', a, b, hI, h8, e1, e2, k1, k2, k3⟩ := gg99 (x := hel (Hs 8) (i + 1)) (y := hel (Hs 8) (i + 2)) (z := hel (Hs 8) (i + 3)) d A Ai im Hs μ h
  have t11 := h.1.2.1.1
  have t12 : tg μ1 69 = 12 := by rw [k3 (by rw [h.1.1.1]; decide)]; exact h.1.1.1
  have l1 : ln μ 1 = L := h.2.2.2.2.1.2.1.trans hL
  have l1' : ln μ1 1 = L := k2.trans l1
  have e6 : E i + 6 = E (i + 6) := E_add i 6
  have p1 : E i + 1 = E (i + 1) := E_add i 1
  have x1 : gi μ 1 (i + 1) = hel (Hs 8) (i + 1) := h.2.2.2.2.1.2.2.1 _
  have p2 : E i + 2 = E (i + 2) := E_add i 2
  have x2 : gi μ 1 (i + 2) = hel (Hs 8) (i + 2) := h.2.2.2.2.1.2.2.1 _
  have p3 : E i + 3 = E (i + 3) := E_add i 3
  have x3 : gi μ 1 (i + 3) = hel (Hs 8) (i + 3) := h.2.2.2.2.1.2.2.1 _
  refine ⟨A', Ai', im', Hs', μ2, u5, u6, u7, ?_, hI, h8, e1, e2⟩
  simp only [st228_622, st228_623, st228_624, st228_625, st228_626, st228_627, st228_628, st228_629, st228_630, st228_631, st228_632, st228_633, st228_634, st228_635, st228_636, st228_637, st228_638, st228_639, st228_640, st228_641, st228_642, st228_643, st228_644, st228_645, st228_646, st228_647, st228_648, st228_649, st228_650, st228_651, st228_652, st228_653, st228_654, st228_655, st228_656, st228_1007, st228_1008, t11, t12, l1, l1', e6, k1, p1, x1, E_gL (show i + 1 < 4000 by omega), E_nL (show i + 1 < 4000 by omega), show i + 1 < L by omega, p2, x2, E_gL (show i + 2 < 4000 by omega), E_nL (show i + 2 < 4000 by omega), show i + 2 < L by omega, p3, x3, E_gL (show i + 3 < 4000 by omega), E_nL (show i + 3 < 4000 by omega), show i + 3 < L by omega, a, b, eq_self, aft_some, Option.toList_some, Option.toList_none, List.cons_append, List.nil_append, br0, br1, br2, br3, zr01, zr02, n10, n01, ne_eq, not_true_eq_false, not_false_eq_true, if_true, if_false, true_and, and_true, and_self]
theorem lw22 {d L i : Nat} {A Ai : AT} {im : Nat} {Hs : Nat → HT} {u5 u6 u7 : Option SV} {μ : SMem} (h : INVw μ A Ai im Hs) (hL : hsz (Hs 8) = L) (hi : i + 6 ≤ L) (hL9 : L ≤ 3072) : ∃ A' Ai' im' Hs' μ' u5' u6' u7', rn (d + 13) 228 659 [some (Sum.inr (Sum.inl (1))), some (Sum.inr (Sum.inl (2))), some (Sum.inr (Sum.inl (69))), some (Sum.inr (Sum.inl (83))), some (Sum.inl (E i)), u5, u6, u7] [] μ = rn (d + 13) 228 13 [some (Sum.inr (Sum.inl (1))), some (Sum.inr (Sum.inl (2))), some (Sum.inr (Sum.inl (69))), some (Sum.inr (Sum.inl (83))), some (Sum.inl (E (i + 6))), u5', u6', u7'] [] μ' ∧ INVw μ' A' Ai' im' Hs' ∧ Hs' 8 = Hs 8 ∧ sz μ' ≤ sz μ + 101 ∧ sl μ' ≤ sl μ + 101 := by
  obtain ⟨v, μ1, μ2, A', Ai', im', Hs', a, b, hI, h8, e1, e2, k1, k2, k3⟩ := gg100 (x := hel (Hs 8) (i + 1)) (y := hel (Hs 8) (i + 2)) d A Ai im Hs μ h
  have t11 := h.1.2.1.1
  have t12 : tg μ1 69 = 12 := by rw [k3 (by rw [h.1.1.1]; decide)]; exact h.1.1.1
  have l1 : ln μ 1 = L := h.2.2.2.2.1.2.1.trans hL
  have l1' : ln μ1 1 = L := k2.trans l1
  have e6 : E i + 6 = E (i + 6) := E_add i 6
  have p1 : E i + 1 = E (i + 1) := E_add i 1
  have x1 : gi μ 1 (i + 1) = hel (Hs 8) (i + 1) := h.2.2.2.2.1.2.2.1 _
  have p2 : E i + 2 = E (i + 2) := E_add i 2
  have x2 : gi μ 1 (i + 2) = hel (Hs 8) (i + 2) := h.2.2.2.2.1.2.2.1 _
  refine ⟨A', Ai', im', Hs', μ2, u5, u6, u7, ?_, hI, h8, e1, e2⟩
  simp only [st228_659, st228_660, st228_661, st228_662, st228_663, st228_664, st228_665, st228_666, st228_667, st228_668, st228_669, st228_670, st228_671, st228_672, st228_673, st228_674, st228_675, st228_676, st228_677, st228_678, st228_679, st228_680, st228_681, st228_682, st228_683, st228_1007, st228_1008, t11, t12, l1, l1', e6, k1, p1, x1, E_gL (show i + 1 < 4000 by omega), E_nL (show i + 1 < 4000 by omega), show i + 1 < L by omega, p2, x2, E_gL (show i + 2 < 4000 by omega), E_nL (show i + 2 < 4000 by omega), show i + 2 < L by omega, a, b, eq_self, aft_some, Option.toList_some, Option.toList_none, List.cons_append, List.nil_append, br0, br1, br2, br3, zr01, zr02, n10, n01, ne_eq, not_true_eq_false, not_false_eq_true, if_true, if_false, true_and, and_true, and_self]
theorem lw23 {d L i : Nat} {A Ai : AT} {im : Nat} {Hs : Nat → HT} {u5 u6 u7 : Option SV} {μ : SMem} (h : INVw μ A Ai im Hs) (hL : hsz (Hs 8) = L) (hi : i + 6 ≤ L) (hL9 : L ≤ 3072) : ∃ A' Ai' im' Hs' μ' u5' u6' u7', rn (d + 13) 228 686 [some (Sum.inr (Sum.inl (1))), some (Sum.inr (Sum.inl (2))), some (Sum.inr (Sum.inl (69))), some (Sum.inr (Sum.inl (83))), some (Sum.inl (E i)), u5, u6, u7] [] μ = rn (d + 13) 228 13 [some (Sum.inr (Sum.inl (1))), some (Sum.inr (Sum.inl (2))), some (Sum.inr (Sum.inl (69))), some (Sum.inr (Sum.inl (83))), some (Sum.inl (E (i + 6))), u5', u6', u7'] [] μ' ∧ INVw μ' A' Ai' im' Hs' ∧ Hs' 8 = Hs 8 ∧ sz μ' ≤ sz μ + 101 ∧ sl μ' ≤ sl μ + 101 := by
  obtain ⟨v, μ1, μ2, A', Ai', im', Hs', a, b, hI, h8, e1, e2, k1, k2, k3⟩ := gg101 (x := hel (Hs 8) (i + 1)) d A Ai im Hs μ h
  have t11 := h.1.2.1.1
  have t12 : tg μ1 69 = 12 := by rw [k3 (by rw [h.1.1.1]; decide)]; exact h.1.1.1
  have l1 : ln μ 1 = L := h.2.2.2.2.1.2.1.trans hL
  have l1' : ln μ1 1 = L := k2.trans l1
  have e6 : E i + 6 = E (i + 6) := E_add i 6
  have p1 : E i + 1 = E (i + 1) := E_add i 1
  have x1 : gi μ 1 (i + 1) = hel (Hs 8) (i + 1) := h.2.2.2.2.1.2.2.1 _
  refine ⟨A', Ai', im', Hs', μ2, u5, u6, u7, ?_, hI, h8, e1, e2⟩
  simp only [st228_686, st228_687, st228_688, st228_689, st228_690, st228_691, st228_692, st228_693, st228_694, st228_695, st228_696, st228_697, st228_698, st228_699, st228_700, st228_1007, st228_1008, t11, t12, l1, l1', e6, k1, p1, x1, E_gL (show i + 1 < 4000 by omega), E_nL (show i + 1 < 4000 by omega), show i + 1 < L by omega, a, b, eq_self, aft_some, Option.toList_some, Option.toList_none, List.cons_append, List.nil_append, br0, br1, br2, br3, zr01, zr02, n10, n01, ne_eq, not_true_eq_false, not_false_eq_true, if_true, if_false, true_and, and_true, and_self]
theorem lw24 {d L i : Nat} {A Ai : AT} {im : Nat} {Hs : Nat → HT} {u5 u6 u7 : Option SV} {μ : SMem} (h : INVw μ A Ai im Hs) (hL : hsz (Hs 8) = L) (hi : i + 6 ≤ L) (hL9 : L ≤ 3072) : ∃ A' Ai' im' Hs' μ' u5' u6' u7', rn (d + 13) 228 703 [some (Sum.inr (Sum.inl (1))), some (Sum.inr (Sum.inl (2))), some (Sum.inr (Sum.inl (69))), some (Sum.inr (Sum.inl (83))), some (Sum.inl (E i)), u5, u6, u7] [] μ = rn (d + 13) 228 13 [some (Sum.inr (Sum.inl (1))), some (Sum.inr (Sum.inl (2))), some (Sum.inr (Sum.inl (69))), some (Sum.inr (Sum.inl (83))), some (Sum.inl (E (i + 6))), u5', u6', u7'] [] μ' ∧ INVw μ' A' Ai' im' Hs' ∧ Hs' 8 = Hs 8 ∧ sz μ' ≤ sz μ + 101 ∧ sl μ' ≤ sl μ + 101 := by
  obtain ⟨v, μ1, μ2, A', Ai', im', Hs', a, b, hI, h8, e1, e2, k1, k2, k3⟩ := gg102 d A Ai im Hs μ h
  have t11 := h.1.2.1.1
  have t12 : tg μ1 69 = 12 := by rw [k3 (by rw [h.1.1.1]; decide)]; exact h.1.1.1
  have l1 : ln μ 1 = L := h.2.2.2.2.1.2.1.trans hL
  have l1' : ln μ1 1 = L := k2.trans l1
  have e6 : E i + 6 = E (i + 6) := E_add i 6
  refine ⟨A', Ai', im', Hs', μ2, u5, u6, u7, ?_, hI, h8, e1, e2⟩
  simp only [st228_703, st228_704, st228_705, st228_706, st228_707, st228_1007, st228_1008, t11, t12, l1, l1', e6, k1, a, b, eq_self, aft_some, Option.toList_some, Option.toList_none, List.cons_append, List.nil_append, br0, br1, br2, br3, zr01, zr02, n10, n01, ne_eq, not_true_eq_false, not_false_eq_true, if_true, if_false, true_and, and_true, and_self]
theorem lw25 {d L i : Nat} {A Ai : AT} {im : Nat} {Hs : Nat → HT} {u5 u6 u7 : Option SV} {μ : SMem} (h : INVw μ A Ai im Hs) (hL : hsz (Hs 8) = L) (hi : i + 6 ≤ L) (hL9 : L ≤ 3072) : ∃ A' Ai' im' Hs' μ' u5' u6' u7', rn (d + 13) 228 710 [some (Sum.inr (Sum.inl (1))), some (Sum.inr (Sum.inl (2))), some (Sum.inr (Sum.inl (69))), some (Sum.inr (Sum.inl (83))), some (Sum.inl (E i)), u5, u6, u7] [] μ = rn (d + 13) 228 13 [some (Sum.inr (Sum.inl (1))), some (Sum.inr (Sum.inl (2))), some (Sum.inr (Sum.inl (69))), some (Sum.inr (Sum.inl (83))), some (Sum.inl (E (i + 6))), u5', u6', u7'] [] μ' ∧ INVw μ' A' Ai' im' Hs' ∧ Hs' 8 = Hs 8 ∧ sz μ' ≤ sz μ + 101 ∧ sl μ' ≤ sl μ + 101 := by
  obtain ⟨v, μ1, μ2, A', Ai', im', Hs', a, b, hI, h8, e1, e2, k1, k2, k3⟩ := gg103 d A Ai im Hs μ h
  have t11 := h.1.2.1.1
  have t12 : tg μ1 69 = 12 := by rw [k3 (by rw [h.1.1.1]; decide)]; exact h.1.1.1
  have l1 : ln μ 1 = L := h.2.2.2.2.1.2.1.trans hL
  have l1' : ln μ1 1 = L := k2.trans l1
  have e6 : E i + 6 = E (i + 6) := E_add i 6
  refine ⟨A', Ai', im', Hs', μ2, u5, u6, u7, ?_, hI, h8, e1, e2⟩
  simp only [st228_710, st228_711, st228_712, st228_713, st228_714, st228_1007, st228_1008, t11, t12, l1, l1', e6, k1, a, b, eq_self, aft_some, Option.toList_some, Option.toList_none, List.cons_append, List.nil_append, br0, br1, br2, br3, zr01, zr02, n10, n01, ne_eq, not_true_eq_false, not_false_eq_true, if_true, if_false, true_and, and_true, and_self]
theorem lw26 {d L i : Nat} {A Ai : AT} {im : Nat} {Hs : Nat → HT} {u5 u6 u7 : Option SV} {μ : SMem} (h : INVw μ A Ai im Hs) (hL : hsz (Hs 8) = L) (hi : i + 6 ≤ L) (hL9 : L ≤ 3072) : ∃ A' Ai' im' Hs' μ' u5' u6' u7', rn (d + 13) 228 717 [some (Sum.inr (Sum.inl (1))), some (Sum.inr (Sum.inl (2))), some (Sum.inr (Sum.inl (69))), some (Sum.inr (Sum.inl (83))), some (Sum.inl (E i)), u5, u6, u7] [] μ = rn (d + 13) 228 13 [some (Sum.inr (Sum.inl (1))), some (Sum.inr (Sum.inl (2))), some (Sum.inr (Sum.inl (69))), some (Sum.inr (Sum.inl (83))), some (Sum.inl (E (i + 6))), u5', u6', u7'] [] μ' ∧ INVw μ' A' Ai' im' Hs' ∧ Hs' 8 = Hs 8 ∧ sz μ' ≤ sz μ + 101 ∧ sl μ' ≤ sl μ + 101 := by
  obtain ⟨v, μ1, μ2, A', Ai', im', Hs', a, b, hI, h8, e1, e2, k1, k2, k3⟩ := gg104 (x := hel (Hs 8) (i + 1)) d A Ai im Hs μ h
  have t11 := h.1.2.1.1
  have t12 : tg μ1 69 = 12 := by rw [k3 (by rw [h.1.1.1]; decide)]; exact h.1.1.1
  have l1 : ln μ 1 = L := h.2.2.2.2.1.2.1.trans hL
  have l1' : ln μ1 1 = L := k2.trans l1
  have e6 : E i + 6 = E (i + 6) := E_add i 6
  have p1 : E i + 1 = E (i + 1) := E_add i 1
  have x1 : gi μ 1 (i + 1) = hel (Hs 8) (i + 1) := h.2.2.2.2.1.2.2.1 _
  refine ⟨A', Ai', im', Hs', μ2, u5, u6, u7, ?_, hI, h8, e1, e2⟩
  simp only [st228_717, st228_718, st228_719, st228_720, st228_721, st228_722, st228_723, st228_724, st228_725, st228_726, st228_727, st228_728, st228_729, st228_730, st228_731, st228_1007, st228_1008, t11, t12, l1, l1', e6, k1, p1, x1, E_gL (show i + 1 < 4000 by omega), E_nL (show i + 1 < 4000 by omega), show i + 1 < L by omega, a, b, eq_self, aft_some, Option.toList_some, Option.toList_none, List.cons_append, List.nil_append, br0, br1, br2, br3, zr01, zr02, n10, n01, ne_eq, not_true_eq_false, not_false_eq_true, if_true, if_false, true_and, and_true, and_self]
theorem lw27 {d L i : Nat} {A Ai : AT} {im : Nat} {Hs : Nat → HT} {u5 u6 u7 : Option SV} {μ : SMem} (h : INVw μ A Ai im Hs) (hL : hsz (Hs 8) = L) (hi : i + 6 ≤ L) (hL9 : L ≤ 3072) : ∃ A' Ai' im' Hs' μ' u5' u6' u7', rn (d + 13) 228 734 [some (Sum.inr (Sum.inl (1))), some (Sum.inr (Sum.inl (2))), some (Sum.inr (Sum.inl (69))), some (Sum.inr (Sum.inl (83))), some (Sum.inl (E i)), u5, u6, u7] [] μ = rn (d + 13) 228 13 [some (Sum.inr (Sum.inl (1))), some (Sum.inr (Sum.inl (2))), some (Sum.inr (Sum.inl (69))), some (Sum.inr (Sum.inl (83))), some (Sum.inl (E (i + 6))), u5', u6', u7'] [] μ' ∧ INVw μ' A' Ai' im' Hs' ∧ Hs' 8 = Hs 8 ∧ sz μ' ≤ sz μ + 101 ∧ sl μ' ≤ sl μ + 101 := by
  obtain ⟨v, μ1, μ2, A', Ai', im', Hs', a, b, hI, h8, e1, e2, k1, k2, k3⟩ := gg105 (x := hel (Hs 8) (i + 1)) (y := hel (Hs 8) (i + 2)) (z := hel (Hs 8) (i + 3)) (w := hel (Hs 8) (i + 4)) d A Ai im Hs μ h
  have t11 := h.1.2.1.1
  have t12 : tg μ1 69 = 12 := by rw [k3 (by rw [h.1.1.1]; decide)]; exact h.1.1.1
  have l1 : ln μ 1 = L := h.2.2.2.2.1.2.1.trans hL
  have l1' : ln μ1 1 = L := k2.trans l1
  have e6 : E i + 6 = E (i + 6) := E_add i 6
  have p1 : E i + 1 = E (i + 1) := E_add i 1
  have x1 : gi μ 1 (i + 1) = hel (Hs 8) (i + 1) := h.2.2.2.2.1.2.2.1 _
  have p2 : E i + 2 = E (i + 2) := E_add i 2
  have x2 : gi μ 1 (i + 2) = hel (Hs 8) (i + 2) := h.2.2.2.2.1.2.2.1 _
  have p3 : E i + 3 = E (i + 3) := E_add i 3
  have x3 : gi μ 1 (i + 3) = hel (Hs 8) (i + 3) := h.2.2.2.2.1.2.2.1 _
  have p4 : E i + 4 = E (i + 4) := E_add i 4
  have x4 : gi μ 1 (i + 4) = hel (Hs 8) (i + 4) := h.2.2.2.2.1.2.2.1 _
  refine ⟨A', Ai', im', Hs', μ2, u5, u6, u7, ?_, hI, h8, e1, e2⟩
  simp only [st228_734, st228_735, st228_736, st228_737, st228_738, st228_739, st228_740, st228_741, st228_742, st228_743, st228_744, st228_745, st228_746, st228_747, st228_748, st228_749, st228_750, st228_751, st228_752, st228_753, st228_754, st228_755, st228_756, st228_757, st228_758, st228_759, st228_760, st228_761, st228_762, st228_763, st228_764, st228_765, st228_766, st228_767, st228_768, st228_769, st228_770, st228_771, st228_772, st228_773, st228_774, st228_775, st228_776, st228_777, st228_778, st228_1007, st228_1008, t11, t12, l1, l1', e6, k1, p1, x1, E_gL (show i + 1 < 4000 by omega), E_nL (show i + 1 < 4000 by omega), show i + 1 < L by omega, p2, x2, E_gL (show i + 2 < 4000 by omega), E_nL (show i + 2 < 4000 by omega), show i + 2 < L by omega, p3, x3, E_gL (show i + 3 < 4000 by omega), E_nL (show i + 3 < 4000 by omega), show i + 3 < L by omega, p4, x4, E_gL (show i + 4 < 4000 by omega), E_nL (show i + 4 < 4000 by omega), show i + 4 < L by omega, a, b, eq_self, aft_some, Option.toList_some, Option.toList_none, List.cons_append, List.nil_append, br0, br1, br2, br3, zr01, zr02, n10, n01, ne_eq, not_true_eq_false, not_false_eq_true, if_true, if_false, true_and, and_true, and_self]
theorem lw28 {d L i : Nat} {A Ai : AT} {im : Nat} {Hs : Nat → HT} {u5 u6 u7 : Option SV} {μ : SMem} (h : INVw μ A Ai im Hs) (hL : hsz (Hs 8) = L) (hi : i + 6 ≤ L) (hL9 : L ≤ 3072) : ∃ A' Ai' im' Hs' μ' u5' u6' u7', rn (d + 13) 228 781 [some (Sum.inr (Sum.inl (1))), some (Sum.inr (Sum.inl (2))), some (Sum.inr (Sum.inl (69))), some (Sum.inr (Sum.inl (83))), some (Sum.inl (E i)), u5, u6, u7] [] μ = rn (d + 13) 228 13 [some (Sum.inr (Sum.inl (1))), some (Sum.inr (Sum.inl (2))), some (Sum.inr (Sum.inl (69))), some (Sum.inr (Sum.inl (83))), some (Sum.inl (E (i + 6))), u5', u6', u7'] [] μ' ∧ INVw μ' A' Ai' im' Hs' ∧ Hs' 8 = Hs 8 ∧ sz μ' ≤ sz μ + 101 ∧ sl μ' ≤ sl μ + 101 := by
  obtain ⟨v, μ1, μ2, A', Ai', im', Hs', a, b, hI, h8, e1, e2, k1, k2, k3⟩ := gg106 (x := hel (Hs 8) (i + 1)) (y := hel (Hs 8) (i + 2)) (z := hel (Hs 8) (i + 3)) d A Ai im Hs μ h
  have t11 := h.1.2.1.1
  have t12 : tg μ1 69 = 12 := by rw [k3 (by rw [h.1.1.1]; decide)]; exact h.1.1.1
  have l1 : ln μ 1 = L := h.2.2.2.2.1.2.1.trans hL
  have l1' : ln μ1 1 = L := k2.trans l1
  have e6 : E i + 6 = E (i + 6) := E_add i 6
  have p1 : E i + 1 = E (i + 1) := E_add i 1
  have x1 : gi μ 1 (i + 1) = hel (Hs 8) (i + 1) := h.2.2.2.2.1.2.2.1 _
  have p2 : E i + 2 = E (i + 2) := E_add i 2
  have x2 : gi μ 1 (i + 2) = hel (Hs 8) (i + 2) := h.2.2.2.2.1.2.2.1 _
  have p3 : E i + 3 = E (i + 3) := E_add i 3
  have x3 : gi μ 1 (i + 3) = hel (Hs 8) (i + 3) := h.2.2.2.2.1.2.2.1 _
  refine ⟨A', Ai', im', Hs', μ2, u5, u6, u7, ?_, hI, h8, e1, e2⟩
  simp only [st228_781, st228_782, st228_783, st228_784, st228_785, st228_786, st228_787, st228_788, st228_789, st228_790, st228_791, st228_792, st228_793, st228_794, st228_795, st228_796, st228_797, st228_798, st228_799, st228_800, st228_801, st228_802, st228_803, st228_804, st228_805, st228_806, st228_807, st228_808, st228_809, st228_810, st228_811, st228_812, st228_813, st228_814, st228_815, st228_1007, st228_1008, t11, t12, l1, l1', e6, k1, p1, x1, E_gL (show i + 1 < 4000 by omega), E_nL (show i + 1 < 4000 by omega), show i + 1 < L by omega, p2, x2, E_gL (show i + 2 < 4000 by omega), E_nL (show i + 2 < 4000 by omega), show i + 2 < L by omega, p3, x3, E_gL (show i + 3 < 4000 by omega), E_nL (show i + 3 < 4000 by omega), show i + 3 < L by omega, a, b, eq_self, aft_some, Option.toList_some, Option.toList_none, List.cons_append, List.nil_append, br0, br1, br2, br3, zr01, zr02, n10, n01, ne_eq, not_true_eq_false, not_false_eq_true, if_true, if_false, true_and, and_true, and_self]
theorem lw29 {d L i : Nat} {A Ai : AT} {im : Nat} {Hs : Nat → HT} {u5 u6 u7 : Option SV} {μ : SMem} (h : INVw μ A Ai im Hs) (hL : hsz (Hs 8) = L) (hi : i + 6 ≤ L) (hL9 : L ≤ 3072) : ∃ A' Ai' im' Hs' μ' u5' u6' u7', rn (d + 13) 228 818 [some (Sum.inr (Sum.inl (1))), some (Sum.inr (Sum.inl (2))), some (Sum.inr (Sum.inl (69))), some (Sum.inr (Sum.inl (83))), some (Sum.inl (E i)), u5, u6, u7] [] μ = rn (d + 13) 228 13 [some (Sum.inr (Sum.inl (1))), some (Sum.inr (Sum.inl (2))), some (Sum.inr (Sum.inl (69))), some (Sum.inr (Sum.inl (83))), some (Sum.inl (E (i + 6))), u5', u6', u7'] [] μ' ∧ INVw μ' A' Ai' im' Hs' ∧ Hs' 8 = Hs 8 ∧ sz μ' ≤ sz μ + 101 ∧ sl μ' ≤ sl μ + 101 := by
  obtain ⟨v, μ1, μ2, A', Ai', im', Hs', a, b, hI, h8, e1, e2, k1, k2, k3⟩ := gg107 (x := hel (Hs 8) (i + 1)) (y := hel (Hs 8) (i + 2)) (z := hel (Hs 8) (i + 3)) d A Ai im Hs μ h
  have t11 := h.1.2.1.1
  have t12 : tg μ1 69 = 12 := by rw [k3 (by rw [h.1.1.1]; decide)]; exact h.1.1.1
  have l1 : ln μ 1 = L := h.2.2.2.2.1.2.1.trans hL
  have l1' : ln μ1 1 = L := k2.trans l1
  have e6 : E i + 6 = E (i + 6) := E_add i 6
  have p1 : E i + 1 = E (i + 1) := E_add i 1
  have x1 : gi μ 1 (i + 1) = hel (Hs 8) (i + 1) := h.2.2.2.2.1.2.2.1 _
  have p2 : E i + 2 = E (i + 2) := E_add i 2
  have x2 : gi μ 1 (i + 2) = hel (Hs 8) (i + 2) := h.2.2.2.2.1.2.2.1 _
  have p3 : E i + 3 = E (i + 3) := E_add i 3
  have x3 : gi μ 1 (i + 3) = hel (Hs 8) (i + 3) := h.2.2.2.2.1.2.2.1 _
  refine ⟨A', Ai', im', Hs', μ2, u5, u6, u7, ?_, hI, h8, e1, e2⟩
  simp only [st228_818, st228_819, st228_820, st228_821, st228_822, st228_823, st228_824, st228_825, st228_826, st228_827, st228_828, st228_829, st228_830, st228_831, st228_832, st228_833, st228_834, st228_835, st228_836, st228_837, st228_838, st228_839, st228_840, st228_841, st228_842, st228_843, st228_844, st228_845, st228_846, st228_847, st228_848, st228_849, st228_850, st228_851, st228_852, st228_1007, st228_1008, t11, t12, l1, l1', e6, k1, p1, x1, E_gL (show i + 1 < 4000 by omega), E_nL (show i + 1 < 4000 by omega), show i + 1 < L by omega, p2, x2, E_gL (show i + 2 < 4000 by omega), E_nL (show i + 2 < 4000 by omega), show i + 2 < L by omega, p3, x3, E_gL (show i + 3 < 4000 by omega), E_nL (show i + 3 < 4000 by omega), show i + 3 < L by omega, a, b, eq_self, aft_some, Option.toList_some, Option.toList_none, List.cons_append, List.nil_append, br0, br1, br2, br3, zr01, zr02, n10, n01, ne_eq, not_true_eq_false, not_false_eq_true, if_true, if_false, true_and, and_true, and_self]
theorem lw31 {d L i : Nat} {A Ai : AT} {im : Nat} {Hs : Nat → HT} {u5 u6 u7 : Option SV} {μ : SMem} (h : INVw μ A Ai im Hs) (hL : hsz (Hs 8) = L) (hi : i + 6 ≤ L) (hL9 : L ≤ 3072) : ∃ A' Ai' im' Hs' μ' u5' u6' u7', rn (d + 13) 228 899 [some (Sum.inr (Sum.inl (1))), some (Sum.inr (Sum.inl (2))), some (Sum.inr (Sum.inl (69))), some (Sum.inr (Sum.inl (83))), some (Sum.inl (E i)), u5, u6, u7] [] μ = rn (d + 13) 228 13 [some (Sum.inr (Sum.inl (1))), some (Sum.inr (Sum.inl (2))), some (Sum.inr (Sum.inl (69))), some (Sum.inr (Sum.inl (83))), some (Sum.inl (E (i + 6))), u5', u6', u7'] [] μ' ∧ INVw μ' A' Ai' im' Hs' ∧ Hs' 8 = Hs 8 ∧ sz μ' ≤ sz μ + 101 ∧ sl μ' ≤ sl μ + 101 := by
  obtain ⟨v, μ1, μ2, A', Ai', im', Hs', a, b, hI, h8, e1, e2, k1, k2, k3⟩ := gg109 (x := hel (Hs 8) (i + 1)) (y := hel (Hs 8) (i + 2)) (z := hel (Hs 8) (i + 3)) (w := hel (Hs 8) (i + 4)) (t := hel (Hs 8) (i + 5)) d A Ai im Hs μ h
  have t11 := h.1.2.1.1
  have t12 : tg μ1 69 = 12 := by rw [k3 (by rw [h.1.1.1]; decide)]; exact h.1.1.1
  have l1 : ln μ 1 = L := h.2.2.2.2.1.2.1.trans hL
  have l1' : ln μ1 1 = L := k2.trans l1
  have e6 : E i + 6 = E (i + 6) := E_add i 6
  have p1 : E i + 1 = E (i + 1) := E_add i 1
  have x1 : gi μ 1 (i + 1) = hel (Hs 8) (i + 1) := h.2.2.2.2.1.2.2.1 _
  have p2 : E i + 2 = E (i + 2) := E_add i 2
  have x2 : gi μ 1 (i + 2) = hel (Hs 8) (i + 2) := h.2.2.2.2.1.2.2.1 _
  have p3 : E i + 3 = E (i + 3) := E_add i 3
  have x3 : gi μ 1 (i + 3) = hel (Hs 8) (i + 3) := h.2.2.2.2.1.2.2.1 _
  have p4 : E i + 4 = E (i + 4) := E_add i 4
  have x4 : gi μ 1 (i + 4) = hel (Hs 8) (i + 4) := h.2.2.2.2.1.2.2.1 _
  have p5 : E i + 5 = E (i + 5) := E_add i 5
  have x5 : gi μ 1 (i + 5) = hel (Hs 8) (i + 5) := h.2.2.2.2.1.2.2.1 _
  refine ⟨A', Ai', im', Hs', μ2, u5, u6, u7, ?_, hI, h8, e1, e2⟩
  simp only [st228_899, st228_900, st228_901, st228_902, st228_903, st228_904, st228_905, st228_906, st228_907, st228_908, st228_909, st228_910, st228_911, st228_912, st228_913, st228_914, st228_915, st228_916, st228_917, st228_918, st228_919, st228_920, st228_921, st228_922, st228_923, st228_924, st228_925, st228_926, st228_927, st228_928, st228_929, st228_930, st228_931, st228_932, st228_933, st228_934, st228_935, st228_936, st228_937, st228_938, st228_939, st228_940, st228_941, st228_942, st228_943, st228_944, st228_945, st228_946, st228_947, st228_948, st228_949, st228_950, st228_951, st228_952, st228_953, st228_1007, st228_1008, t11, t12, l1, l1', e6, k1, p1, x1, E_gL (show i + 1 < 4000 by omega), E_nL (show i + 1 < 4000 by omega), show i + 1 < L by omega, p2, x2, E_gL (show i + 2 < 4000 by omega), E_nL (show i + 2 < 4000 by omega), show i + 2 < L by omega, p3, x3, E_gL (show i + 3 < 4000 by omega), E_nL (show i + 3 < 4000 by omega), show i + 3 < L by omega, p4, x4, E_gL (show i + 4 < 4000 by omega), E_nL (show i + 4 < 4000 by omega), show i + 4 < L by omega, p5, x5, E_gL (show i + 5 < 4000 by omega), E_nL (show i + 5 < 4000 by omega), show i + 5 < L by omega, a, b, eq_self, aft_some, Option.toList_some, Option.toList_none, List.cons_append, List.nil_append, br0, br1, br2, br3, zr01, zr02, n10, n01, ne_eq, not_true_eq_false, not_false_eq_true, if_true, if_false, true_and, and_true, and_self]
theorem lw32 {d L i : Nat} {A Ai : AT} {im : Nat} {Hs : Nat → HT} {u5 u6 u7 : Option SV} {μ : SMem} (h : INVw μ A Ai im Hs) (hL : hsz (Hs 8) = L) (hi : i + 6 ≤ L) (hL9 : L ≤ 3072) : ∃ A' Ai' im' Hs' μ' u5' u6' u7', rn (d + 13) 228 956 [some (Sum.inr (Sum.inl (1))), some (Sum.inr (Sum.inl (2))), some (Sum.inr (Sum.inl (69))), some (Sum.inr (Sum.inl (83))), some (Sum.inl (E i)), u5, u6, u7] [] μ = rn (d + 13) 228 13 [some (Sum.inr (Sum.inl (1))), some (Sum.inr (Sum.inl (2))), some (Sum.inr (Sum.inl (69))), some (Sum.inr (Sum.inl (83))), some (Sum.inl (E (i + 6))), u5', u6', u7'] [] μ' ∧ INVw μ' A' Ai' im' Hs' ∧ Hs' 8 = Hs 8 ∧ sz μ' ≤ sz μ + 101 ∧ sl μ' ≤ sl μ + 101 := by
  obtain ⟨v, μ1, μ2, A', Ai', im', Hs', a, b, hI, h8, e1, e2, k1, k2, k3⟩ := gg110 (x := hel (Hs 8) (i + 1)) d A Ai im Hs μ h
  have t11 := h.1.2.1.1
  have t12 : tg μ1 69 = 12 := by rw [k3 (by rw [h.1.1.1]; decide)]; exact h.1.1.1
  have l1 : ln μ 1 = L := h.2.2.2.2.1.2.1.trans hL
  have l1' : ln μ1 1 = L := k2.trans l1
  have e6 : E i + 6 = E (i + 6) := E_add i 6
  have p1 : E i + 1 = E (i + 1) := E_add i 1
  have x1 : gi μ 1 (i + 1) = hel (Hs 8) (i + 1) := h.2.2.2.2.1.2.2.1 _
  refine ⟨A', Ai', im', Hs', μ2, u5, u6, u7, ?_, hI, h8, e1, e2⟩
  simp only [st228_956, st228_957, st228_958, st228_959, st228_960, st228_961, st228_962, st228_963, st228_964, st228_965, st228_966, st228_967, st228_968, st228_969, st228_970, st228_1007, st228_1008, t11, t12, l1, l1', e6, k1, p1, x1, E_gL (show i + 1 < 4000 by omega), E_nL (show i + 1 < 4000 by omega), show i + 1 < L by omega, a, b, eq_self, aft_some, Option.toList_some, Option.toList_none, List.cons_append, List.nil_append, br0, br1, br2, br3, zr01, zr02, n10, n01, ne_eq, not_true_eq_false, not_false_eq_true, if_true, if_false, true_and, and_true, and_self]
theorem lw33 {d L i : Nat} {A Ai : AT} {im : Nat} {Hs : Nat → HT} {u5 u6 u7 : Option SV} {μ : SMem} (h : INVw μ A Ai im Hs) (hL : hsz (Hs 8) = L) (hi : i + 6 ≤ L) (hL9 : L ≤ 3072) : ∃ A' Ai' im' Hs' μ' u5' u6' u7', rn (d + 13) 228 973 [some (Sum.inr (Sum.inl (1))), some (Sum.inr (Sum.inl (2))), some (Sum.inr (Sum.inl (69))), some (Sum.inr (Sum.inl (83))), some (Sum.inl (E i)), u5, u6, u7] [] μ = rn (d + 13) 228 13 [some (Sum.inr (Sum.inl (1))), some (Sum.inr (Sum.inl (2))), some (Sum.inr (Sum.inl (69))), some (Sum.inr (Sum.inl (83))), some (Sum.inl (E (i + 6))), u5', u6', u7'] [] μ' ∧ INVw μ' A' Ai' im' Hs' ∧ Hs' 8 = Hs 8 ∧ sz μ' ≤ sz μ + 101 ∧ sl μ' ≤ sl μ + 101 := by
  obtain ⟨v, μ1, μ2, A', Ai', im', Hs', a, b, hI, h8, e1, e2, k1, k2, k3⟩ := gg111 (x := hel (Hs 8) (i + 1)) d A Ai im Hs μ h
  have t11 := h.1.2.1.1
  have t12 : tg μ1 69 = 12 := by rw [k3 (by rw [h.1.1.1]; decide)]; exact h.1.1.1
  have l1 : ln μ 1 = L := h.2.2.2.2.1.2.1.trans hL
  have l1' : ln μ1 1 = L := k2.trans l1
  have e6 : E i + 6 = E (i + 6) := E_add i 6
  have p1 : E i + 1 = E (i + 1) := E_add i 1
  have x1 : gi μ 1 (i + 1) = hel (Hs 8) (i + 1) := h.2.2.2.2.1.2.2.1 _
  refine ⟨A', Ai', im', Hs', μ2, u5, u6, u7, ?_, hI, h8, e1, e2⟩
  simp only [st228_973, st228_974, st228_975, st228_976, st228_977, st228_978, st228_979, st228_980, st228_981, st228_982, st228_983, st228_984, st228_985, st228_986, st228_987, st228_1007, st228_1008, t11, t12, l1, l1', e6, k1, p1, x1, E_gL (show i + 1 < 4000 by omega), E_nL (show i + 1 < 4000 by omega), show i + 1 < L by omega, a, b, eq_self, aft_some, Option.toList_some, Option.toList_none, List.cons_append, List.nil_append, br0, br1, br2, br3, zr01, zr02, n10, n01, ne_eq, not_true_eq_false, not_false_eq_true, if_true, if_false, true_and, and_true, and_self]
theorem lw34 {d L i : Nat} {A Ai : AT} {im : Nat} {Hs : Nat → HT} {u5 u6 u7 : Option SV} {μ : SMem} (h : INVw μ A Ai im Hs) (hL : hsz (Hs 8) = L) (hi : i + 6 ≤ L) (hL9 : L ≤ 3072) : ∃ A' Ai' im' Hs' μ' u5' u6' u7', rn (d + 13) 228 990 [some (Sum.inr (Sum.inl (1))), some (Sum.inr (Sum.inl (2))), some (Sum.inr (Sum.inl (69))), some (Sum.inr (Sum.inl (83))), some (Sum.inl (E i)), u5, u6, u7] [] μ = rn (d + 13) 228 13 [some (Sum.inr (Sum.inl (1))), some (Sum.inr (Sum.inl (2))), some (Sum.inr (Sum.inl (69))), some (Sum.inr (Sum.inl (83))), some (Sum.inl (E (i + 6))), u5', u6', u7'] [] μ' ∧ INVw μ' A' Ai' im' Hs' ∧ Hs' 8 = Hs 8 ∧ sz μ' ≤ sz μ + 101 ∧ sl μ' ≤ sl μ + 101 := by
  obtain ⟨v, μ1, μ2, A', Ai', im', Hs', a, b, hI, h8, e1, e2, k1, k2, k3⟩ := gg112 (x := hel (Hs 8) (i + 1)) d A Ai im Hs μ h
  have t11 := h.1.2.1.1
  have t12 : tg μ1 69 = 12 := by rw [k3 (by rw [h.1.1.1]; decide)]; exact h.1.1.1
  have l1 : ln μ 1 = L := h.2.2.2.2.1.2.1.trans hL
  have l1' : ln μ1 1 = L := k2.trans l1
  have e6 : E i + 6 = E (i + 6) := E_add i 6
  have p1 : E i + 1 = E (i + 1) := E_add i 1
  have x1 : gi μ 1 (i + 1) = hel (Hs 8) (i + 1) := h.2.2.2.2.1.2.2.1 _
  refine ⟨A', Ai', im', Hs', μ2, u5, u6, u7, ?_, hI, h8, e1, e2⟩
  simp only [st228_990, st228_991, st228_992, st228_993, st228_994, st228_995, st228_996, st228_997, st228_998, st228_999, st228_1000, st228_1001, st228_1002, st228_1003, st228_1004, st228_1007, st228_1008, t11, t12, l1, l1', e6, k1, p1, x1, E_gL (show i + 1 < 4000 by omega), E_nL (show i + 1 < 4000 by omega), show i + 1 < L by omega, a, b, eq_self, aft_some, Option.toList_some, Option.toList_none, List.cons_append, List.nil_append, br0, br1, br2, br3, zr01, zr02, n10, n01, ne_eq, not_true_eq_false, not_false_eq_true, if_true, if_false, true_and, and_true, and_self]
theorem lw30 {d L i : Nat} {A Ai : AT} {im : Nat} {Hs : Nat → HT} {u5 u6 u7 : Option SV} {μ : SMem} (h : INVw μ A Ai im Hs) (hL : hsz (Hs 8) = L) (hi : i + 6 ≤ L) (hL9 : L ≤ 3072) : ∃ A' Ai' im' Hs' μ' u5' u6' u7', rn (d + 13) 228 855 [some (Sum.inr (Sum.inl (1))), some (Sum.inr (Sum.inl (2))), some (Sum.inr (Sum.inl (69))), some (Sum.inr (Sum.inl (83))), some (Sum.inl (E i)), u5, u6, u7] [] μ = rn (d + 13) 228 13 [some (Sum.inr (Sum.inl (1))), some (Sum.inr (Sum.inl (2))), some (Sum.inr (Sum.inl (69))), some (Sum.inr (Sum.inl (83))), some (Sum.inl (E (i + 6))), u5', u6', u7'] [] μ' ∧ INVw μ' A' Ai' im' Hs' ∧ Hs' 8 = Hs 8 ∧ sz μ' ≤ sz μ + 101 ∧ sl μ' ≤ sl μ + 101 := by
  obtain ⟨cc, w, μ1, μ2, a, b, g11, gw, hI, e1, e2, k1, k2, k3⟩ := g227 (d := d) (x := hel (Hs 8) (i + 1)) (y := hel (Hs 8) (i + 2)) h
  have t11 := h.1.2.1.1
  have t12 : tg μ1 69 = 12 := by rw [k3 (by rw [h.1.1.1]; decide)]; exact h.1.1.1
  have l1 : ln μ 1 = L := h.2.2.2.2.1.2.1.trans hL
  have l1' : ln μ1 1 = L := k2.trans l1
  have e6 : E i + 6 = E (i + 6) := E_add i 6
  have p1 : E i + 1 = E (i + 1) := E_add i 1
  have x1 : gi μ 1 (i + 1) = hel (Hs 8) (i + 1) := h.2.2.2.2.1.2.2.1 _
  have p2 : E i + 2 = E (i + 2) := E_add i 2
  have x2 : gi μ 1 (i + 2) = hel (Hs 8) (i + 2) := h.2.2.2.2.1.2.2.1 _
  have t2 := hI.1.1.1
  have t83 := hI.2.2.2.2.1.2.2.2.1
  have l83 := hI.2.2.2.2.1.2.2.2.2
  have e138 : ∀ d, cl d 138 [Sum.inr (Sum.inl (69))] μ2 = some (Sum.inl (some (Sum.inl (cc))), μ2) := fun d => by
    show rn d 138 0 [some (Sum.inr (Sum.inl (69)))] [] μ2 = _
    simp only [st138_0, st138_1, st138_2, t2, g11]
  have z0 : ((0 : Int32) ≤ 0) = True := eq_true (by decide)
  have lc : lg_cmp w w = 0 := by unfold lg_cmp; simp
  by_cases c0 : cc = 0
  · refine ⟨A, Ai, im, Hs, μ2, some (Sum.inl cc), some (Sum.inr (Sum.inr w)), none, ?_, hI, rfl, by omega, by omega⟩
    have gw' := gw c0
    simp only [st228_855, st228_856, st228_857, st228_858, st228_859, st228_860, st228_861, st228_862, st228_863, st228_864, st228_865, st228_866, st228_867, st228_868, st228_869, st228_870, st228_871, st228_872, st228_873, st228_874, st228_875, st228_876, st228_877, st228_878, st228_879, st228_880, st228_881, st228_882, st228_883, st228_884, st228_885, st228_886, st228_887, st228_888, st228_889, st228_890, st228_891, st228_892, st228_893, st228_894, st228_895, st228_896, st228_897, st228_898, st228_1007, st228_1008, t11, t12, l1, l1', e6, k1, p1, x1, E_gL (show i + 1 < 4000 by omega), E_nL (show i + 1 < 4000 by omega), show i + 1 < L by omega, p2, x2, E_gL (show i + 2 < 4000 by omega), E_nL (show i + 2 < 4000 by omega), show i + 2 < L by omega, a, b, e138, eq_self, c0, t2, t83, l83, z00, zn0, show (0 : Nat) < 1 from by decide, gw', lc, aft_some, Option.toList_some, Option.toList_none, List.cons_append, List.nil_append, br0, br1, br2, br3, zr01, zr02, n10, n01, ne_eq, not_true_eq_false, not_false_eq_true, if_true, if_false, true_and, and_true, and_self]
  · refine ⟨A, Ai, im, Hs, μ2, some (Sum.inl cc), some (Sum.inr (Sum.inr w)), none, ?_, hI, rfl, by omega, by omega⟩
    simp only [st228_855, st228_856, st228_857, st228_858, st228_859, st228_860, st228_861, st228_862, st228_863, st228_864, st228_865, st228_866, st228_867, st228_868, st228_869, st228_870, st228_871, st228_872, st228_873, st228_874, st228_875, st228_876, st228_877, st228_878, st228_879, st228_880, st228_881, st228_882, st228_883, st228_884, st228_885, st228_886, st228_887, st228_888, st228_889, st228_890, st228_891, st228_892, st228_893, st228_894, st228_895, st228_896, st228_897, st228_898, st228_1007, st228_1008, t11, t12, l1, l1', e6, k1, p1, x1, E_gL (show i + 1 < 4000 by omega), E_nL (show i + 1 < 4000 by omega), show i + 1 < L by omega, p2, x2, E_gL (show i + 2 < 4000 by omega), E_nL (show i + 2 < 4000 by omega), show i + 2 < L by omega, a, b, e138, eq_self, c0, t2, aft_some, Option.toList_some, Option.toList_none, List.cons_append, List.nil_append, br0, br1, br2, br3, zr01, zr02, n10, n01, ne_eq, not_true_eq_false, not_false_eq_true, if_true, if_false, true_and, and_true, and_self]
theorem len_cmp {i L : Nat} (hi : i < 4000) (hL : L ≤ 3072) : (E L - 6 < E i) = ¬ (i + 6 ≤ L) := by
  rw [eq_iff_iff, Int32.lt_iff_toInt_lt, Int32.toInt_sub, E_toInt (by omega), E_toInt (by omega), show (6 : Int32).toInt = 6 from rfl, Int.bmod_eq_of_le (by omega) (by omega)]
  omega
theorem law_step {d L i : Nat} {A Ai : AT} {im : Nat} {Hs : Nat → HT} {u5 u6 u7 : Option SV} {μ : SMem} (h : INVw μ A Ai im Hs) (hL : hsz (Hs 8) = L) (hi : i + 6 ≤ L) (hL9 : L ≤ 3072) : ∃ A' Ai' im' Hs' μ' u5' u6' u7', rn (d + 13) 228 13 [some (Sum.inr (Sum.inl (1))), some (Sum.inr (Sum.inl (2))), some (Sum.inr (Sum.inl (69))), some (Sum.inr (Sum.inl (83))), some (Sum.inl (E i)), u5, u6, u7] [] μ = rn (d + 13) 228 13 [some (Sum.inr (Sum.inl (1))), some (Sum.inr (Sum.inl (2))), some (Sum.inr (Sum.inl (69))), some (Sum.inr (Sum.inl (83))), some (Sum.inl (E (i + 6))), u5', u6', u7'] [] μ' ∧ INVw μ' A' Ai' im' Hs' ∧ Hs' 8 = Hs 8 ∧ sz μ' ≤ sz μ + 101 ∧ sl μ' ≤ sl μ + 101 := by
  have l1 : ln μ 1 = L := h.2.2.2.2.1.2.1.trans hL
  have x0 : gi μ 1 i = hel (Hs 8) i := h.2.2.2.2.1.2.2.1 _
  have e6 : E i + 6 = E (i + 6) := E_add i 6
  have hd : rn (d + 13) 228 13 [some (Sum.inr (Sum.inl (1))), some (Sum.inr (Sum.inl (2))), some (Sum.inr (Sum.inl (69))), some (Sum.inr (Sum.inl (83))), some (Sum.inl (E i)), u5, u6, u7] [] μ = rn (d + 13) 228 24 [some (Sum.inr (Sum.inl (1))), some (Sum.inr (Sum.inl (2))), some (Sum.inr (Sum.inl (69))), some (Sum.inr (Sum.inl (83))), some (Sum.inl (E i)), u5, u6, u7] [Sum.inl (hel (Hs 8) i &&& 63)] μ := by
    simp only [st228_13, st228_14, st228_15, st228_16, st228_17, st228_18, st228_19, st228_20, st228_21, st228_22, st228_23, l1, show Int32.ofNat L = E L from rfl, len_cmp (show i < 4000 by omega) hL9, hi, not_true_eq_false, E_gL (show i < 4000 by omega), E_nL (show i < 4000 by omega), show i < L by omega, x0, aft_some, Option.toList_some, Option.toList_none, List.cons_append, List.nil_append, br0, br1, br2, br3, zr01, zr02, n10, n01, ne_eq, not_true_eq_false, not_false_eq_true, if_true, if_false, true_and, and_true, and_self]
  rw [hd]
  generalize hel (Hs 8) i &&& 63 = k
  by_cases h0 : k = 0
  · subst h0
    have e : rn (d + 13) 228 24 [some (Sum.inr (Sum.inl (1))), some (Sum.inr (Sum.inl (2))), some (Sum.inr (Sum.inl (69))), some (Sum.inr (Sum.inl (83))), some (Sum.inl (E i)), u5, u6, u7] [Sum.inl (0)] μ = rn (d + 13) 228 25 [some (Sum.inr (Sum.inl (1))), some (Sum.inr (Sum.inl (2))), some (Sum.inr (Sum.inl (69))), some (Sum.inr (Sum.inl (83))), some (Sum.inl (E i)), u5, u6, u7] [] μ := by rw [st228_24]; rfl
    rw [e]
    exact lw0 h hL hi hL9
  by_cases h1 : k = 1
  · subst h1
    have e : rn (d + 13) 228 24 [some (Sum.inr (Sum.inl (1))), some (Sum.inr (Sum.inl (2))), some (Sum.inr (Sum.inl (69))), some (Sum.inr (Sum.inl (83))), some (Sum.inl (E i)), u5, u6, u7] [Sum.inl (1)] μ = rn (d + 13) 228 42 [some (Sum.inr (Sum.inl (1))), some (Sum.inr (Sum.inl (2))), some (Sum.inr (Sum.inl (69))), some (Sum.inr (Sum.inl (83))), some (Sum.inl (E i)), u5, u6, u7] [] μ := by rw [st228_24]; rfl
    rw [e]
    exact lw1 h hL hi hL9
  by_cases h2 : k = 2
  · subst h2
    have e : rn (d + 13) 228 24 [some (Sum.inr (Sum.inl (1))), some (Sum.inr (Sum.inl (2))), some (Sum.inr (Sum.inl (69))), some (Sum.inr (Sum.inl (83))), some (Sum.inl (E i)), u5, u6, u7] [Sum.inl (2)] μ = rn (d + 13) 228 69 [some (Sum.inr (Sum.inl (1))), some (Sum.inr (Sum.inl (2))), some (Sum.inr (Sum.inl (69))), some (Sum.inr (Sum.inl (83))), some (Sum.inl (E i)), u5, u6, u7] [] μ := by rw [st228_24]; rfl
    rw [e]
    exact lw2 h hL hi hL9
  by_cases h3 : k = 3
  · subst h3
    have e : rn (d + 13) 228 24 [some (Sum.inr (Sum.inl (1))), some (Sum.inr (Sum.inl (2))), some (Sum.inr (Sum.inl (69))), some (Sum.inr (Sum.inl (83))), some (Sum.inl (E i)), u5, u6, u7] [Sum.inl (3)] μ = rn (d + 13) 228 106 [some (Sum.inr (Sum.inl (1))), some (Sum.inr (Sum.inl (2))), some (Sum.inr (Sum.inl (69))), some (Sum.inr (Sum.inl (83))), some (Sum.inl (E i)), u5, u6, u7] [] μ := by rw [st228_24]; rfl
    rw [e]
    exact lw3 h hL hi hL9
  by_cases h4 : k = 4
  · subst h4
    have e : rn (d + 13) 228 24 [some (Sum.inr (Sum.inl (1))), some (Sum.inr (Sum.inl (2))), some (Sum.inr (Sum.inl (69))), some (Sum.inr (Sum.inl (83))), some (Sum.inl (E i)), u5, u6, u7] [Sum.inl (4)] μ = rn (d + 13) 228 133 [some (Sum.inr (Sum.inl (1))), some (Sum.inr (Sum.inl (2))), some (Sum.inr (Sum.inl (69))), some (Sum.inr (Sum.inl (83))), some (Sum.inl (E i)), u5, u6, u7] [] μ := by rw [st228_24]; rfl
    rw [e]
    exact lw4 h hL hi hL9
  by_cases h5 : k = 5
  · subst h5
    have e : rn (d + 13) 228 24 [some (Sum.inr (Sum.inl (1))), some (Sum.inr (Sum.inl (2))), some (Sum.inr (Sum.inl (69))), some (Sum.inr (Sum.inl (83))), some (Sum.inl (E i)), u5, u6, u7] [Sum.inl (5)] μ = rn (d + 13) 228 150 [some (Sum.inr (Sum.inl (1))), some (Sum.inr (Sum.inl (2))), some (Sum.inr (Sum.inl (69))), some (Sum.inr (Sum.inl (83))), some (Sum.inl (E i)), u5, u6, u7] [] μ := by rw [st228_24]; rfl
    rw [e]
    exact lw5 h hL hi hL9
  by_cases h6 : k = 6
  · subst h6
    have e : rn (d + 13) 228 24 [some (Sum.inr (Sum.inl (1))), some (Sum.inr (Sum.inl (2))), some (Sum.inr (Sum.inl (69))), some (Sum.inr (Sum.inl (83))), some (Sum.inl (E i)), u5, u6, u7] [Sum.inl (6)] μ = rn (d + 13) 228 177 [some (Sum.inr (Sum.inl (1))), some (Sum.inr (Sum.inl (2))), some (Sum.inr (Sum.inl (69))), some (Sum.inr (Sum.inl (83))), some (Sum.inl (E i)), u5, u6, u7] [] μ := by rw [st228_24]; rfl
    rw [e]
    exact lw6 h hL hi hL9
  by_cases h7 : k = 7
  · subst h7
    have e : rn (d + 13) 228 24 [some (Sum.inr (Sum.inl (1))), some (Sum.inr (Sum.inl (2))), some (Sum.inr (Sum.inl (69))), some (Sum.inr (Sum.inl (83))), some (Sum.inl (E i)), u5, u6, u7] [Sum.inl (7)] μ = rn (d + 13) 228 204 [some (Sum.inr (Sum.inl (1))), some (Sum.inr (Sum.inl (2))), some (Sum.inr (Sum.inl (69))), some (Sum.inr (Sum.inl (83))), some (Sum.inl (E i)), u5, u6, u7] [] μ := by rw [st228_24]; rfl
    rw [e]
    exact lw7 h hL hi hL9
  by_cases h8 : k = 8
  · subst h8
    have e : rn (d + 13) 228 24 [some (Sum.inr (Sum.inl (1))), some (Sum.inr (Sum.inl (2))), some (Sum.inr (Sum.inl (69))), some (Sum.inr (Sum.inl (83))), some (Sum.inl (E i)), u5, u6, u7] [Sum.inl (8)] μ = rn (d + 13) 228 231 [some (Sum.inr (Sum.inl (1))), some (Sum.inr (Sum.inl (2))), some (Sum.inr (Sum.inl (69))), some (Sum.inr (Sum.inl (83))), some (Sum.inl (E i)), u5, u6, u7] [] μ := by rw [st228_24]; rfl
    rw [e]
    exact lw8 h hL hi hL9
  by_cases h9 : k = 9
  · subst h9
    have e : rn (d + 13) 228 24 [some (Sum.inr (Sum.inl (1))), some (Sum.inr (Sum.inl (2))), some (Sum.inr (Sum.inl (69))), some (Sum.inr (Sum.inl (83))), some (Sum.inl (E i)), u5, u6, u7] [Sum.inl (9)] μ = rn (d + 13) 228 248 [some (Sum.inr (Sum.inl (1))), some (Sum.inr (Sum.inl (2))), some (Sum.inr (Sum.inl (69))), some (Sum.inr (Sum.inl (83))), some (Sum.inl (E i)), u5, u6, u7] [] μ := by rw [st228_24]; rfl
    rw [e]
    exact lw9 h hL hi hL9
  by_cases h10 : k = 10
  · subst h10
    have e : rn (d + 13) 228 24 [some (Sum.inr (Sum.inl (1))), some (Sum.inr (Sum.inl (2))), some (Sum.inr (Sum.inl (69))), some (Sum.inr (Sum.inl (83))), some (Sum.inl (E i)), u5, u6, u7] [Sum.inl (10)] μ = rn (d + 13) 228 275 [some (Sum.inr (Sum.inl (1))), some (Sum.inr (Sum.inl (2))), some (Sum.inr (Sum.inl (69))), some (Sum.inr (Sum.inl (83))), some (Sum.inl (E i)), u5, u6, u7] [] μ := by rw [st228_24]; rfl
    rw [e]
    exact lw10 h hL hi hL9
  by_cases h11 : k = 11
  · subst h11
    have e : rn (d + 13) 228 24 [some (Sum.inr (Sum.inl (1))), some (Sum.inr (Sum.inl (2))), some (Sum.inr (Sum.inl (69))), some (Sum.inr (Sum.inl (83))), some (Sum.inl (E i)), u5, u6, u7] [Sum.inl (11)] μ = rn (d + 13) 228 312 [some (Sum.inr (Sum.inl (1))), some (Sum.inr (Sum.inl (2))), some (Sum.inr (Sum.inl (69))), some (Sum.inr (Sum.inl (83))), some (Sum.inl (E i)), u5, u6, u7] [] μ := by rw [st228_24]; rfl
    rw [e]
    exact lw11 h hL hi hL9
  by_cases h12 : k = 12
  · subst h12
    have e : rn (d + 13) 228 24 [some (Sum.inr (Sum.inl (1))), some (Sum.inr (Sum.inl (2))), some (Sum.inr (Sum.inl (69))), some (Sum.inr (Sum.inl (83))), some (Sum.inl (E i)), u5, u6, u7] [Sum.inl (12)] μ = rn (d + 13) 228 349 [some (Sum.inr (Sum.inl (1))), some (Sum.inr (Sum.inl (2))), some (Sum.inr (Sum.inl (69))), some (Sum.inr (Sum.inl (83))), some (Sum.inl (E i)), u5, u6, u7] [] μ := by rw [st228_24]; rfl
    rw [e]
    exact lw12 h hL hi hL9
  by_cases h13 : k = 13
  · subst h13
    have e : rn (d + 13) 228 24 [some (Sum.inr (Sum.inl (1))), some (Sum.inr (Sum.inl (2))), some (Sum.inr (Sum.inl (69))), some (Sum.inr (Sum.inl (83))), some (Sum.inl (E i)), u5, u6, u7] [Sum.inl (13)] μ = rn (d + 13) 228 376 [some (Sum.inr (Sum.inl (1))), some (Sum.inr (Sum.inl (2))), some (Sum.inr (Sum.inl (69))), some (Sum.inr (Sum.inl (83))), some (Sum.inl (E i)), u5, u6, u7] [] μ := by rw [st228_24]; rfl
    rw [e]
    exact lw13 h hL hi hL9
  by_cases h14 : k = 14
  · subst h14
    have e : rn (d + 13) 228 24 [some (Sum.inr (Sum.inl (1))), some (Sum.inr (Sum.inl (2))), some (Sum.inr (Sum.inl (69))), some (Sum.inr (Sum.inl (83))), some (Sum.inl (E i)), u5, u6, u7] [Sum.inl (14)] μ = rn (d + 13) 228 413 [some (Sum.inr (Sum.inl (1))), some (Sum.inr (Sum.inl (2))), some (Sum.inr (Sum.inl (69))), some (Sum.inr (Sum.inl (83))), some (Sum.inl (E i)), u5, u6, u7] [] μ := by rw [st228_24]; rfl
    rw [e]
    exact lw14 h hL hi hL9
  by_cases h15 : k = 15
  · subst h15
    have e : rn (d + 13) 228 24 [some (Sum.inr (Sum.inl (1))), some (Sum.inr (Sum.inl (2))), some (Sum.inr (Sum.inl (69))), some (Sum.inr (Sum.inl (83))), some (Sum.inl (E i)), u5, u6, u7] [Sum.inl (15)] μ = rn (d + 13) 228 440 [some (Sum.inr (Sum.inl (1))), some (Sum.inr (Sum.inl (2))), some (Sum.inr (Sum.inl (69))), some (Sum.inr (Sum.inl (83))), some (Sum.inl (E i)), u5, u6, u7] [] μ := by rw [st228_24]; rfl
    rw [e]
    exact lw15 h hL hi hL9
  by_cases h16 : k = 16
  · subst h16
    have e : rn (d + 13) 228 24 [some (Sum.inr (Sum.inl (1))), some (Sum.inr (Sum.inl (2))), some (Sum.inr (Sum.inl (69))), some (Sum.inr (Sum.inl (83))), some (Sum.inl (E i)), u5, u6, u7] [Sum.inl (16)] μ = rn (d + 13) 228 467 [some (Sum.inr (Sum.inl (1))), some (Sum.inr (Sum.inl (2))), some (Sum.inr (Sum.inl (69))), some (Sum.inr (Sum.inl (83))), some (Sum.inl (E i)), u5, u6, u7] [] μ := by rw [st228_24]; rfl
    rw [e]
    exact lw16 h hL hi hL9
  by_cases h17 : k = 17
  · subst h17
    have e : rn (d + 13) 228 24 [some (Sum.inr (Sum.inl (1))), some (Sum.inr (Sum.inl (2))), some (Sum.inr (Sum.inl (69))), some (Sum.inr (Sum.inl (83))), some (Sum.inl (E i)), u5, u6, u7] [Sum.inl (17)] μ = rn (d + 13) 228 484 [some (Sum.inr (Sum.inl (1))), some (Sum.inr (Sum.inl (2))), some (Sum.inr (Sum.inl (69))), some (Sum.inr (Sum.inl (83))), some (Sum.inl (E i)), u5, u6, u7] [] μ := by rw [st228_24]; rfl
    rw [e]
    exact lw17 h hL hi hL9
  by_cases h18 : k = 18
  · subst h18
    have e : rn (d + 13) 228 24 [some (Sum.inr (Sum.inl (1))), some (Sum.inr (Sum.inl (2))), some (Sum.inr (Sum.inl (69))), some (Sum.inr (Sum.inl (83))), some (Sum.inl (E i)), u5, u6, u7] [Sum.inl (18)] μ = rn (d + 13) 228 511 [some (Sum.inr (Sum.inl (1))), some (Sum.inr (Sum.inl (2))), some (Sum.inr (Sum.inl (69))), some (Sum.inr (Sum.inl (83))), some (Sum.inl (E i)), u5, u6, u7] [] μ := by rw [st228_24]; rfl
    rw [e]
    exact lw18 h hL hi hL9
  by_cases h19 : k = 19
  · subst h19
    have e : rn (d + 13) 228 24 [some (Sum.inr (Sum.inl (1))), some (Sum.inr (Sum.inl (2))), some (Sum.inr (Sum.inl (69))), some (Sum.inr (Sum.inl (83))), some (Sum.inl (E i)), u5, u6, u7] [Sum.inl (19)] μ = rn (d + 13) 228 548 [some (Sum.inr (Sum.inl (1))), some (Sum.inr (Sum.inl (2))), some (Sum.inr (Sum.inl (69))), some (Sum.inr (Sum.inl (83))), some (Sum.inl (E i)), u5, u6, u7] [] μ := by rw [st228_24]; rfl
    rw [e]
    exact lw19 h hL hi hL9
  by_cases h20 : k = 20
  · subst h20
    have e : rn (d + 13) 228 24 [some (Sum.inr (Sum.inl (1))), some (Sum.inr (Sum.inl (2))), some (Sum.inr (Sum.inl (69))), some (Sum.inr (Sum.inl (83))), some (Sum.inl (E i)), u5, u6, u7] [Sum.inl (20)] μ = rn (d + 13) 228 585 [some (Sum.inr (Sum.inl (1))), some (Sum.inr (Sum.inl (2))), some (Sum.inr (Sum.inl (69))), some (Sum.inr (Sum.inl (83))), some (Sum.inl (E i)), u5, u6, u7] [] μ := by rw [st228_24]; rfl
    rw [e]
    exact lw20 h hL hi hL9
  by_cases h21 : k = 21
  · subst h21
    have e : rn (d + 13) 228 24 [some (Sum.inr (Sum.inl (1))), some (Sum.inr (Sum.inl (2))), some (Sum.inr (Sum.inl (69))), some (Sum.inr (Sum.inl (83))), some (Sum.inl (E i)), u5, u6, u7] [Sum.inl (21)] μ = rn (d + 13) 228 622 [some (Sum.inr (Sum.inl (1))), some (Sum.inr (Sum.inl (2))), some (Sum.inr (Sum.inl (69))), some (Sum.inr (Sum.inl (83))), some (Sum.inl (E i)), u5, u6, u7] [] μ := by rw [st228_24]; rfl
    rw [e]
    exact lw21 h hL hi hL9
  by_cases h22 : k = 22
  · subst h22
    have e : rn (d + 13) 228 24 [some (Sum.inr (Sum.inl (1))), some (Sum.inr (Sum.inl (2))), some (Sum.inr (Sum.inl (69))), some (Sum.inr (Sum.inl (83))), some (Sum.inl (E i)), u5, u6, u7] [Sum.inl (22)] μ = rn (d + 13) 228 659 [some (Sum.inr (Sum.inl (1))), some (Sum.inr (Sum.inl (2))), some (Sum.inr (Sum.inl (69))), some (Sum.inr (Sum.inl (83))), some (Sum.inl (E i)), u5, u6, u7] [] μ := by rw [st228_24]; rfl
    rw [e]
    exact lw22 h hL hi hL9
  by_cases h23 : k = 23
  · subst h23
    have e : rn (d + 13) 228 24 [some (Sum.inr (Sum.inl (1))), some (Sum.inr (Sum.inl (2))), some (Sum.inr (Sum.inl (69))), some (Sum.inr (Sum.inl (83))), some (Sum.inl (E i)), u5, u6, u7] [Sum.inl (23)] μ = rn (d + 13) 228 686 [some (Sum.inr (Sum.inl (1))), some (Sum.inr (Sum.inl (2))), some (Sum.inr (Sum.inl (69))), some (Sum.inr (Sum.inl (83))), some (Sum.inl (E i)), u5, u6, u7] [] μ := by rw [st228_24]; rfl
    rw [e]
    exact lw23 h hL hi hL9
  by_cases h24 : k = 24
  · subst h24
    have e : rn (d + 13) 228 24 [some (Sum.inr (Sum.inl (1))), some (Sum.inr (Sum.inl (2))), some (Sum.inr (Sum.inl (69))), some (Sum.inr (Sum.inl (83))), some (Sum.inl (E i)), u5, u6, u7] [Sum.inl (24)] μ = rn (d + 13) 228 703 [some (Sum.inr (Sum.inl (1))), some (Sum.inr (Sum.inl (2))), some (Sum.inr (Sum.inl (69))), some (Sum.inr (Sum.inl (83))), some (Sum.inl (E i)), u5, u6, u7] [] μ := by rw [st228_24]; rfl
    rw [e]
    exact lw24 h hL hi hL9
  by_cases h25 : k = 25
  · subst h25
    have e : rn (d + 13) 228 24 [some (Sum.inr (Sum.inl (1))), some (Sum.inr (Sum.inl (2))), some (Sum.inr (Sum.inl (69))), some (Sum.inr (Sum.inl (83))), some (Sum.inl (E i)), u5, u6, u7] [Sum.inl (25)] μ = rn (d + 13) 228 710 [some (Sum.inr (Sum.inl (1))), some (Sum.inr (Sum.inl (2))), some (Sum.inr (Sum.inl (69))), some (Sum.inr (Sum.inl (83))), some (Sum.inl (E i)), u5, u6, u7] [] μ := by rw [st228_24]; rfl
    rw [e]
    exact lw25 h hL hi hL9
  by_cases h26 : k = 26
  · subst h26
    have e : rn (d + 13) 228 24 [some (Sum.inr (Sum.inl (1))), some (Sum.inr (Sum.inl (2))), some (Sum.inr (Sum.inl (69))), some (Sum.inr (Sum.inl (83))), some (Sum.inl (E i)), u5, u6, u7] [Sum.inl (26)] μ = rn (d + 13) 228 717 [some (Sum.inr (Sum.inl (1))), some (Sum.inr (Sum.inl (2))), some (Sum.inr (Sum.inl (69))), some (Sum.inr (Sum.inl (83))), some (Sum.inl (E i)), u5, u6, u7] [] μ := by rw [st228_24]; rfl
    rw [e]
    exact lw26 h hL hi hL9
  by_cases h27 : k = 27
  · subst h27
    have e : rn (d + 13) 228 24 [some (Sum.inr (Sum.inl (1))), some (Sum.inr (Sum.inl (2))), some (Sum.inr (Sum.inl (69))), some (Sum.inr (Sum.inl (83))), some (Sum.inl (E i)), u5, u6, u7] [Sum.inl (27)] μ = rn (d + 13) 228 734 [some (Sum.inr (Sum.inl (1))), some (Sum.inr (Sum.inl (2))), some (Sum.inr (Sum.inl (69))), some (Sum.inr (Sum.inl (83))), some (Sum.inl (E i)), u5, u6, u7] [] μ := by rw [st228_24]; rfl
    rw [e]
    exact lw27 h hL hi hL9
  by_cases h28 : k = 28
  · subst h28
    have e : rn (d + 13) 228 24 [some (Sum.inr (Sum.inl (1))), some (Sum.inr (Sum.inl (2))), some (Sum.inr (Sum.inl (69))), some (Sum.inr (Sum.inl (83))), some (Sum.inl (E i)), u5, u6, u7] [Sum.inl (28)] μ = rn (d + 13) 228 781 [some (Sum.inr (Sum.inl (1))), some (Sum.inr (Sum.inl (2))), some (Sum.inr (Sum.inl (69))), some (Sum.inr (Sum.inl (83))), some (Sum.inl (E i)), u5, u6, u7] [] μ := by rw [st228_24]; rfl
    rw [e]
    exact lw28 h hL hi hL9
  by_cases h29 : k = 29
  · subst h29
    have e : rn (d + 13) 228 24 [some (Sum.inr (Sum.inl (1))), some (Sum.inr (Sum.inl (2))), some (Sum.inr (Sum.inl (69))), some (Sum.inr (Sum.inl (83))), some (Sum.inl (E i)), u5, u6, u7] [Sum.inl (29)] μ = rn (d + 13) 228 818 [some (Sum.inr (Sum.inl (1))), some (Sum.inr (Sum.inl (2))), some (Sum.inr (Sum.inl (69))), some (Sum.inr (Sum.inl (83))), some (Sum.inl (E i)), u5, u6, u7] [] μ := by rw [st228_24]; rfl
    rw [e]
    exact lw29 h hL hi hL9
  by_cases h30 : k = 30
  · subst h30
    have e : rn (d + 13) 228 24 [some (Sum.inr (Sum.inl (1))), some (Sum.inr (Sum.inl (2))), some (Sum.inr (Sum.inl (69))), some (Sum.inr (Sum.inl (83))), some (Sum.inl (E i)), u5, u6, u7] [Sum.inl (30)] μ = rn (d + 13) 228 855 [some (Sum.inr (Sum.inl (1))), some (Sum.inr (Sum.inl (2))), some (Sum.inr (Sum.inl (69))), some (Sum.inr (Sum.inl (83))), some (Sum.inl (E i)), u5, u6, u7] [] μ := by rw [st228_24]; rfl
    rw [e]
    exact lw30 h hL hi hL9
  by_cases h31 : k = 31
  · subst h31
    have e : rn (d + 13) 228 24 [some (Sum.inr (Sum.inl (1))), some (Sum.inr (Sum.inl (2))), some (Sum.inr (Sum.inl (69))), some (Sum.inr (Sum.inl (83))), some (Sum.inl (E i)), u5, u6, u7] [Sum.inl (31)] μ = rn (d + 13) 228 899 [some (Sum.inr (Sum.inl (1))), some (Sum.inr (Sum.inl (2))), some (Sum.inr (Sum.inl (69))), some (Sum.inr (Sum.inl (83))), some (Sum.inl (E i)), u5, u6, u7] [] μ := by rw [st228_24]; rfl
    rw [e]
    exact lw31 h hL hi hL9
  by_cases h32 : k = 32
  · subst h32
    have e : rn (d + 13) 228 24 [some (Sum.inr (Sum.inl (1))), some (Sum.inr (Sum.inl (2))), some (Sum.inr (Sum.inl (69))), some (Sum.inr (Sum.inl (83))), some (Sum.inl (E i)), u5, u6, u7] [Sum.inl (32)] μ = rn (d + 13) 228 956 [some (Sum.inr (Sum.inl (1))), some (Sum.inr (Sum.inl (2))), some (Sum.inr (Sum.inl (69))), some (Sum.inr (Sum.inl (83))), some (Sum.inl (E i)), u5, u6, u7] [] μ := by rw [st228_24]; rfl
    rw [e]
    exact lw32 h hL hi hL9
  by_cases h33 : k = 33
  · subst h33
    have e : rn (d + 13) 228 24 [some (Sum.inr (Sum.inl (1))), some (Sum.inr (Sum.inl (2))), some (Sum.inr (Sum.inl (69))), some (Sum.inr (Sum.inl (83))), some (Sum.inl (E i)), u5, u6, u7] [Sum.inl (33)] μ = rn (d + 13) 228 973 [some (Sum.inr (Sum.inl (1))), some (Sum.inr (Sum.inl (2))), some (Sum.inr (Sum.inl (69))), some (Sum.inr (Sum.inl (83))), some (Sum.inl (E i)), u5, u6, u7] [] μ := by rw [st228_24]; rfl
    rw [e]
    exact lw33 h hL hi hL9
  by_cases h34 : k = 34
  · subst h34
    have e : rn (d + 13) 228 24 [some (Sum.inr (Sum.inl (1))), some (Sum.inr (Sum.inl (2))), some (Sum.inr (Sum.inl (69))), some (Sum.inr (Sum.inl (83))), some (Sum.inl (E i)), u5, u6, u7] [Sum.inl (34)] μ = rn (d + 13) 228 990 [some (Sum.inr (Sum.inl (1))), some (Sum.inr (Sum.inl (2))), some (Sum.inr (Sum.inl (69))), some (Sum.inr (Sum.inl (83))), some (Sum.inl (E i)), u5, u6, u7] [] μ := by rw [st228_24]; rfl
    rw [e]
    exact lw34 h hL hi hL9
  refine ⟨A, Ai, im, Hs, μ, u5, u6, u7, ?_, h, rfl, by omega, by omega⟩
  simp only [st228_24, h0, h1, h2, h3, h4, h5, h6, h7, h8, h9, h10, h11, h12, h13, h14, h15, h16, h17, h18, h19, h20, h21, h22, h23, h24, h25, h26, h27, h28, h29, h30, h31, h32, h33, h34, st228_1007, st228_1008, e6, aft_some, Option.toList_some, Option.toList_none, List.cons_append, List.nil_append, br0, br1, br2, br3, zr01, zr02, n10, n01, ne_eq, not_true_eq_false, not_false_eq_true, if_true, if_false, true_and, and_true, and_self]
theorem law_all {d L : Nat} (hL9 : L ≤ 3072) : ∀ q i (A Ai : AT) (im : Nat) (Hs : Nat → HT) (u5 u6 u7 : Option SV) (μ : SMem), L < i + 6 * q + 6 → i ≤ L + 6 → hsz (Hs 8) = L → INVw μ A Ai im Hs → ∃ μ', rn (d + 13) 228 13 [some (Sum.inr (Sum.inl (1))), some (Sum.inr (Sum.inl (2))), some (Sum.inr (Sum.inl (69))), some (Sum.inr (Sum.inl (83))), some (Sum.inl (E i)), u5, u6, u7] [] μ = some (Sum.inl (some (Sum.inl (1))), μ') ∧ sz μ' ≤ sz μ + 101 * q ∧ sl μ' ≤ sl μ + 101 * q := by
  intro q
  induction q with
  | zero =>
    intro i A Ai im Hs u5 u6 u7 μ hq hi hL h
    have l1 : ln μ 1 = L := h.2.2.2.2.1.2.1.trans hL
    refine ⟨μ, ?_, by omega, by omega⟩
    simp only [st228_13, st228_14, st228_15, st228_16, st228_17, st228_18, st228_1009, st228_1010, l1, show Int32.ofNat L = E L from rfl, len_cmp (show i < 4000 by omega) hL9, show ¬ i + 6 ≤ L by omega, not_false_eq_true, or_true, aft_some, Option.toList_some, Option.toList_none, List.cons_append, List.nil_append, br0, br1, br2, br3, zr01, zr02, n10, n01, ne_eq, not_true_eq_false, not_false_eq_true, if_true, if_false, true_and, and_true, and_self]
  | succ q ih =>
    intro i A Ai im Hs u5 u6 u7 μ hq hi hL h
    by_cases c : i + 6 ≤ L
    · obtain ⟨A', Ai', im', Hs', μ1, u5', u6', u7', a, hI, h8, e1, e2⟩ := law_step (d := d) (u5 := u5) (u6 := u6) (u7 := u7) h hL c hL9
      obtain ⟨μ', b1, b2, b3⟩ := ih (i + 6) A' Ai' im' Hs' u5' u6' u7' μ1 (by omega) (by omega) (by rw [h8]; exact hL) hI
      exact ⟨μ', a.trans b1, by omega, by omega⟩
    · have l1 : ln μ 1 = L := h.2.2.2.2.1.2.1.trans hL
      refine ⟨μ, ?_, by omega, by omega⟩
      simp only [st228_13, st228_14, st228_15, st228_16, st228_17, st228_18, st228_1009, st228_1010, l1, show Int32.ofNat L = E L from rfl, len_cmp (show i < 4000 by omega) hL9, c, not_false_eq_true, or_true, aft_some, Option.toList_some, Option.toList_none, List.cons_append, List.nil_append, br0, br1, br2, br3, zr01, zr02, n10, n01, ne_eq, not_true_eq_false, not_false_eq_true, if_true, if_false, true_and, and_true, and_self]
/-- THE LAW of every script says yes, with few cells -/
theorem law_run {d L : Nat} {xs : Nat → Int32} {μ : SMem} (hL9 : L ≤ 3072) (hs : sz μ = 2) (hu : ∀ c, tg μ c = 99) (hL : ln μ 1 = L) (hx : ∀ j, gi μ 1 j = xs j) : ∃ μ', cl (d + 13) 228 [Sum.inr (Sum.inl (1))] μ = some (Sum.inl (some (Sum.inl (1))), μ') ∧ sz μ' ≤ 60000 ∧ sl μ' ≤ sl μ + 60000 := by
  obtain ⟨μ1, a1, a2, a3, a4⟩ := law_0 (d := d) hs hu hL hx
  obtain ⟨μ', b1, b2, b3⟩ := law_all (d := d) hL9 512 0 A0 A0 0 (H0 L xs) none none none μ1 (by omega) (by omega) (by rw [H0_8]; rfl) a2
  refine ⟨μ', ?_, by omega, by omega⟩
  show rn (d + 13) 228 0 [some (Sum.inr (Sum.inl (1))), none, none, none, none, none, none, none] [] μ = _
  rw [a1]
  exact b1
