/-! SPECS ZB: seeded -/
theorem E_div {a b : Nat} (ha : a < 2147483648) (hb : b < 2147483648) : E a / E b = E (a / b) := by
  have hq : a / b < 2147483648 := Nat.lt_of_le_of_lt (Nat.div_le_self a b) ha
  apply Int32.toInt_inj.mp
  rw [Int32.toInt_div, E_toInt ha, E_toInt hb, E_toInt hq, ← Int.ofNat_tdiv]
  generalize a / b = q at hq
  exact Int.bmod_eq_of_le (by omega) (by omega)
theorem msk_E (s : Int32) : ∃ n, n < 2147483648 ∧ s &&& 2147483647 = E n := by
  refine ⟨s.toBitVec.toNat &&& 2147483647, Nat.lt_of_le_of_lt Nat.and_le_right (by decide), ?_⟩
  apply Int32.toBitVec_inj.mp
  apply BitVec.eq_of_toNat_eq
  rw [Int32.toBitVec_and, BitVec.toNat_and]
  unfold E
  rw [Int32.toBitVec_ofNat', BitVec.toNat_ofNat]
  have := Nat.and_le_right (n := s.toBitVec.toNat) (m := 2147483647)
  rw [Nat.mod_eq_of_lt (by omega)]
  rfl
theorem E_remN {a b : Nat} (ha : a < 2147483648) (hb : b < 2147483648) : g_irem (E a) (E b) = E (a % b) := by
  show E a - E a / E b * E b = _
  rw [E_div ha hb, E_mul, E_sub (Nat.div_mul_le_self a b)]
  congr 1
  have := Nat.div_add_mod' a b
  omega
theorem draw_E (s : Int32) {n : Nat} (h1 : 0 < n) (hn : n < 1000) : ∃ k, k < n ∧ g_irem (g_idiv (s &&& 2147483647) 65536) (E n) = E k := by
  obtain ⟨m, hm, em⟩ := msk_E s
  refine ⟨m / 65536 % n, Nat.mod_lt _ h1, ?_⟩
  rw [em]
  show g_irem (E m / E 65536) (E n) = _
  rw [E_div hm (by decide), E_remN (Nat.lt_of_le_of_lt (Nat.div_le_self _ _) hm) (by omega)]
def nxs (s : Int32) : Int32 := s * 1103515245 + 12345
def drN (s : Int32) (n : Nat) : Nat := (g_irem (g_idiv (s &&& 2147483647) 65536) (E n)).toNatClampNeg
theorem drN_lt {s : Int32} {n : Nat} (h1 : 0 < n) (hn : n < 1000) : drN s n < n := by
  obtain ⟨k, hk, e⟩ := draw_E s h1 hn
  unfold drN
  rw [e, E_nn (by omega)]
  exact hk
theorem drN_E {s : Int32} {n : Nat} (h1 : 0 < n) (hn : n < 1000) : g_irem (g_idiv (s &&& 2147483647) 65536) (E n) = E (drN s n) := by
  obtain ⟨k, hk, e⟩ := draw_E s h1 hn
  unfold drN
  rw [e, E_nn (by omega)]
theorem drN_E' {s : Int32} {n : Nat} (h1 : 0 < n) (hn : n < 1000) : g_irem ((s &&& 2147483647) / 65536) (E n) = E (drN s n) := drN_E h1 hn
theorem E_z {n : Nat} (h : n < 1000) : (E n = (0 : Int32)) = (n = 0) := by rw [E_0, eq_iff_iff, E_inj (by omega) (by decide)]
theorem E_1le {n : Nat} (h : n < 1000) : ((1 : Int32) ≤ E n) = (1 ≤ n) := by rw [E_1]; exact E_leE (by decide) (by omega)
theorem f133 {d n : Nat} {s : Int32} (h1 : 0 < n) (hn : n < 1000) {μ : SMem} : cl d 133 [Sum.inl (E n), Sum.inl (s)] μ = some (Sum.inl (some (Sum.inl (E (drN s n)))), μ) := by
  have hz : ¬ n = 0 := by omega
  have h1' : 1 ≤ n := h1
  show rn d 133 0 [some (Sum.inl (E n)), some (Sum.inl (s))] [] μ = _
  simp only [st133_0, st133_1, st133_2, st133_3, st133_4, st133_5, st133_6, st133_7, st133_8, st133_9, st133_10, st133_11, st133_12, E_1le hn, h1', E_z hn, hz, drN_E' h1 hn, show ((65536 : Int32) = 0) = False from eq_false (by decide), aft_some, Option.toList_some, Option.toList_none, List.cons_append, List.nil_append, br0, br1, br2, br3, zr01, zr02, n10, n01, ne_eq, not_true_eq_false, not_false_eq_true, if_true, if_false, true_and, and_true, and_self]
theorem f132 {d : Nat} {s : Int32} {μ : SMem} : cl d 132 [Sum.inl (s)] μ = some (Sum.inl (some (Sum.inl (nxs s))), μ) := by
  show rn d 132 0 [some (Sum.inl (s))] [] μ = _
  simp only [st132_0, st132_1, st132_2, st132_3, st132_4, st132_5, nxs]
theorem f207 {d n : Nat} {s : Int32} (h1 : 0 < n) (hn : n < 1000) {μ : SMem} (hm : MA μ) (hs : gi μ 69 20 = s) : ∃ μ', cl d 207 [Sum.inr (Sum.inl (69)), Sum.inl (E n)] μ = some (Sum.inl (some (Sum.inl (E (drN (nxs s) n)))), μ') ∧ SB (fun c => c = 69) μ μ' ∧ gi μ' 69 20 = nxs s ∧ ∀ j, j ≠ 20 → gi μ' 69 j = gi μ 69 j := by
  have hz : ¬ n = 0 := by omega
  refine ⟨seti μ 69 20 (nxs s), ?_, SB.se rfl, ?_, fun j hj => ?_⟩
  · have e := drN_E' (s := nxs s) h1 hn
    unfold nxs at e
    show rn d 207 0 [some (Sum.inr (Sum.inl (69))), some (Sum.inl (E n))] [] μ = _
    simp only [st207_0, st207_1, st207_2, st207_3, st207_4, st207_5, st207_6, st207_7, st207_8, st207_9, st207_10, st207_11, st207_12, st207_13, st207_14, st207_15, st207_16, hm.1, hs, gi_seti, gi_setr, gi_setl, gi_setrow, gr_seti, gr_setr, gr_setl, gr_setrow, gl_seti, gl_setr, gl_setl, gl_setrow, tg_seti, tg_setr, tg_setl, tg_setrow, ln_seti, ln_setr, ln_setl, ln_setrow, sz_seti, sz_setr, sz_setl, sz_setrow, sl_seti, sl_setr, sl_setl, sl_setrow, E_z hn, hz, e, nxs, show ((65536 : Int32) = 0) = False from eq_false (by decide), aft_some, Option.toList_some, Option.toList_none, List.cons_append, List.nil_append, br0, br1, br2, br3, zr01, zr02, n10, n01, ne_eq, not_true_eq_false, not_false_eq_true, if_true, if_false, true_and, and_true, and_self]
  · simp only [gi_seti, gi_setr, gi_setl, gi_setrow, gr_seti, gr_setr, gr_setl, gr_setrow, gl_seti, gl_setr, gl_setl, gl_setrow, tg_seti, tg_setr, tg_setl, tg_setrow, ln_seti, ln_setr, ln_setl, ln_setrow, sz_seti, sz_setr, sz_setl, sz_setrow, sl_seti, sl_setr, sl_setl, sl_setrow, and_self, if_true]
  · simp only [gi_seti, gi_setr, gi_setl, gi_setrow, gr_seti, gr_setr, gr_setl, gr_setrow, gl_seti, gl_setr, gl_setl, gl_setrow, tg_seti, tg_setr, tg_setl, tg_setrow, ln_seti, ln_setr, ln_setl, ln_setrow, sz_seti, sz_setr, sz_setl, sz_setrow, sl_seti, sl_setr, sl_setl, sl_setrow, hj, and_false, if_false]
def sdd (A : AT) : Nat → (Nat → Nat) → Int32 → Int32 → Int32
  | 0, _, _, acc => acc
  | m + 1, S, s, acc => sdd A m (rdS A S (drN (nxs s) (rcA A)) (drN (nxs (nxs s)) (bcA A))) (nxs (nxs s)) (acc + E (wrS A S (drN (nxs s) (rcA A)) (drN (nxs (nxs s)) (bcA A))))
theorem sdd_s {A : AT} (m : Nat) (S : Nat → Nat) (s acc : Int32) : sdd A (m + 1) S s acc = sdd A m (rdS A S (drN (nxs s) (rcA A)) (drN (nxs (nxs s)) (bcA A))) (nxs (nxs s)) (acc + E (wrS A S (drN (nxs s) (rcA A)) (drN (nxs (nxs s)) (bcA A)))) := rfl
theorem f100_lp {d N : Nat} {A : AT} {x2 : Int32} {μ0 : SMem} (h : Both μ0 A) (hN : N < 41) (hr0 : 0 < rcA A) (hb0 : 0 < bcA A) : ∀ m i (μ : SMem) (S : Nat → Nat) (s acc : Int32) (u6 u7 : Option SV), i + m = N → SB (fun c => c = 49) μ0 μ → MD μ S → SLt A S → ∃ μ', rn (d + 6) 100 26 [some (Sum.inr (Sum.inl (2))), some (Sum.inl (E N)), some (Sum.inl (x2)), some (Sum.inl (acc)), some (Sum.inl (s)), some (Sum.inl (E i)), u6, u7] [] μ = some (Sum.inl (some (Sum.inl (sdd A m S s acc))), μ') ∧ SB (fun c => c = 49) μ0 μ' := by
  have hw0 := h.2.2.1
  have r9 : rcA A < 1000 := by have := hw0.2.1; omega
  have b9 : bcA A < 1000 := by have := hw0.1; omega
  intro m
  induction m with
  | zero =>
    intro i μ S s acc u6 u7 hi hs hM hS
    have : i = N := by omega
    subst this
    refine ⟨μ, ?_, hs⟩
    rw [st100_26]
    simp only [st100_27, st100_28, st100_29, st100_30, st100_31, st100_32, st100_33, st100_34, st100_35, st100_36, st100_37, st100_38, st100_39, st100_40, st100_41, st100_42, st100_43, st100_44, st100_45, st100_46, st100_47, st100_48, st100_49, st100_50, st100_51, st100_52, st100_53, st100_54, st100_55, st100_56, st100_57, st100_58, st100_59, st100_60, Int32.le_refl, if_true, sdd]
  | succ m ih =>
    intro i μ S s acc u6 u7 hi hs hM hS
    have hB := h.tw hs (fun c e => by omega)
    have hB0 := hB
    obtain ⟨hm', hc, hw, ht, hr9⟩ := hB
    have hr := drN_lt (s := nxs s) hr0 r9
    have hb := drN_lt (s := nxs (nxs s)) hb0 b9
    have ra := drN_lt (s := nxs s) hr0 r9
    obtain ⟨r0, hrd⟩ := ht.2.2.2.2.2 _ hr
    obtain ⟨μ1, z1, z2, z3⟩ := f122 (d := d) hB0 hM hS hb r0 hrd
    have cR : 0 ≤ E (drN (nxs s) (rcA A)) ∧ E (drN (nxs s) (rcA A)) < E (rcA A) := (inr (by omega) (by omega)).mpr hr
    have cN : ¬ E N ≤ E i := by rw [E_le (by omega) (by omega)]; omega
    rw [sdd_s m S s acc]
    obtain ⟨μ', y1, y2⟩ := ih (i + 1) μ1 (rdS A S (drN (nxs s) (rcA A)) (drN (nxs (nxs s)) (bcA A))) (nxs (nxs s)) (acc + E (wrS A S (drN (nxs s) (rcA A)) (drN (nxs (nxs s)) (bcA A)))) (some (Sum.inl (E (drN (nxs s) (rcA A))))) (some (Sum.inl (E (drN (nxs (nxs s)) (bcA A))))) (by omega) (hs.tr z2) z3 (rdS_lt hw hS hr hb)
    refine ⟨μ', ?_, y2⟩
    have eW : wor (kdA A (drN (nxs s) (rcA A))) (fgA A (drN (nxs s) (rcA A))) (pgA A (drN (nxs (nxs s)) (bcA A))) (ndA A (drN (nxs (nxs s)) (bcA A))) (S (drN (nxs (nxs s)) (bcA A))) = wrS A S (drN (nxs s) (rcA A)) (drN (nxs (nxs s)) (bcA A)) := rfl
    rw [st100_26]
    simp only [st100_27, st100_28, st100_29, st100_30, st100_31, st100_32, st100_33, st100_34, st100_35, st100_36, st100_37, st100_38, st100_39, st100_40, st100_41, st100_42, st100_43, st100_44, st100_45, st100_46, st100_47, st100_48, st100_49, st100_50, st100_51, st100_52, st100_53, st100_54, st100_55, st100_56, st100_57, st100_58, st100_59, st100_60, cN, f132, hc.1, hc.2.1, ht.1.1, ht.2.1, ht.2.2.1, f133 hr0 r9, f133 hb0 b9, f68 hw ht, cR, E_n (show drN (nxs s) (rcA A) < 1000 by omega), z1, eW, show E i + 1 = E (i + 1) from E_add i 1, aft_some, Option.toList_some, Option.toList_none, List.cons_append, List.nil_append, br0, br1, br2, br3, zr01, zr02, n10, n01, ne_eq, not_true_eq_false, not_false_eq_true, if_true, if_false, true_and, and_true, and_self]
    exact y1
theorem f208_lp {d N : Nat} {A : AT} {x2 : Int32} {μ0 : SMem} (hm : MA μ0) (hw : WF A) (hN : N < 41) (hr0 : 0 < rcA A) (hb0 : 0 < bcA A) : ∀ m i (μ : SMem) (S : Nat → Nat) (s acc : Int32) (u5 : Option SV), i + m = N → SB (fun c => c = 69 ∨ c = 70) μ0 μ → gi μ 69 20 = s → (∀ j, j ≠ 20 → gi μ 69 j = gi μ0 69 j) → MQr (gi μ 70) A S → ∃ μ' x5, rn (d + 5) 208 29 [some (Sum.inr (Sum.inl (69))), some (Sum.inl (E N)), some (Sum.inl (x2)), some (Sum.inl (acc)), some (Sum.inl (E i)), u5] [] μ = rn (d + 5) 208 53 [some (Sum.inr (Sum.inl (69))), some (Sum.inl (E N)), some (Sum.inl (x2)), some (Sum.inl (sdd A m S s acc)), some (Sum.inl (E N)), x5] [] μ' ∧ SB (fun c => c = 69 ∨ c = 70) μ0 μ' ∧ (∀ j, j ≠ 20 → gi μ' 69 j = gi μ0 69 j) := by
  have r9 : rcA A < 1000 := by have := hw.2.1; omega
  have b9 : bcA A < 1000 := by have := hw.1; omega
  intro m
  induction m with
  | zero =>
    intro i μ S s acc u5 hi hs hv hk hM
    have : i = N := by omega
    subst this
    refine ⟨μ, u5, ?_, hs, hk⟩
    rw [st208_29]
    simp only [st208_30, st208_31, Int32.le_refl, if_true, sdd]
  | succ m ih =>
    intro i μ S s acc u5 hi hs hv hk hM
    have hm1 := hm.sb hs
    have hr := drN_lt (s := nxs s) hr0 r9
    have hb := drN_lt (s := nxs (nxs s)) hb0 b9
    have cN : ¬ E N ≤ E i := by rw [E_le (by omega) (by omega)]; omega
    obtain ⟨μ1, a1, a2, a3, a4⟩ := f207 (d := d + 4) hr0 r9 hm1 hv
    have hm2 := hm1.sb a2
    have g1 : gi μ1 70 = gi μ 70 := a2.2.2.2.2.2.2 70 (by omega)
    obtain ⟨μ2, b1, b2, b3, b4⟩ := f207 (d := d + 4) hb0 b9 hm2 a3
    have hm3 := hm2.sb b2
    have g2 : gi μ2 70 = gi μ 70 := by rw [b2.2.2.2.2.2.2 70 (by omega), g1]
    obtain ⟨μ3, z1, z2, z3⟩ := f162m (d := d) hm3 hw (g2 ▸ hM) hr hb
    have g3 : gi μ3 69 = gi μ2 69 := z2.2.2.2.2.2.2 69 (by omega)
    rw [sdd_s m S s acc]
    obtain ⟨μ', x5, y1, y2, y3⟩ := ih (i + 1) μ3 (rdS A S (drN (nxs s) (rcA A)) (drN (nxs (nxs s)) (bcA A))) (nxs (nxs s)) (acc + E (wrS A S (drN (nxs s) (rcA A)) (drN (nxs (nxs s)) (bcA A)))) (some (Sum.inl (E (drN (nxs s) (rcA A))))) (by omega) (hs.tr ((a2.wk (fun c e => Or.inl e)).tr ((b2.wk (fun c e => Or.inl e)).tr (z2.wk (fun c e => Or.inr e))))) (by rw [g3]; exact b3) (fun j hj => by rw [g3, b4 j hj, a4 j hj, hk j hj]) z3
    refine ⟨μ', x5, ?_, y2, y3⟩
    have t0 := hm1.1
    have t1 := hm2.1
    have e0 := hm1.2.1
    have e1 := hm2.2.1
    have v1 : tg μ 70 = 50 ∧ ln μ 70 = 87 := by
      obtain ⟨m1, m2, m3, m4, m5, m6, m7, m8, m9, m10, m11, m12, m13, m14, ⟨t0, t1, t2, t3, t4, t5, t6, t7, t8, t9, t10, t11, t12⟩, l0, l1, l2, l3, l4, l5, l6, l7, l8, l9, l10, l11, l12⟩ := hm1
      exact ⟨t0, l0⟩
    have v2 : tg μ1 70 = 50 ∧ ln μ1 70 = 87 := by
      obtain ⟨m1, m2, m3, m4, m5, m6, m7, m8, m9, m10, m11, m12, m13, m14, ⟨t0, t1, t2, t3, t4, t5, t6, t7, t8, t9, t10, t11, t12⟩, l0, l1, l2, l3, l4, l5, l6, l7, l8, l9, l10, l11, l12⟩ := hm2
      exact ⟨t0, l0⟩
    rw [st208_29]
    simp only [st208_30, st208_31, st208_32, st208_33, st208_34, st208_35, st208_36, st208_37, st208_38, st208_39, st208_40, st208_41, st208_42, st208_43, st208_44, st208_45, st208_46, st208_47, st208_48, st208_49, st208_50, st208_51, st208_52, cN, t0, t1, hm3.1, e0, e1, v1, v2, g1, hM.1, hM.2.1, a1, b1, z1, alA, alB, alC, alD, alE, and_self, zn0, zn1, zl0, zl1, z00, z01, show E i + 1 = E (i + 1) from E_add i 1, aft_some, Option.toList_some, Option.toList_none, List.cons_append, List.nil_append, br0, br1, br2, br3, zr01, zr02, n10, n01, ne_eq, not_true_eq_false, not_false_eq_true, if_true, if_false, true_and, and_true, and_self]
    exact y1
theorem f184c {d : Nat} {A : AT} {μ μa μb : SMem} (h : Both μ A) (ha : SB (fun c => c = 73) μ μa) (h3 : ∀ j, j < 87 → gi μa 73 j = gi μ 70 j) (hb : SB (fun c => c = 69 ∨ c = 70) μa μb) : ∃ μc, cl (d + 1) 184 [Sum.inr (Sum.inl (69))] μb = some (Sum.inl none, μc) ∧ SB (fun c => c = 69 ∨ c = 70 ∨ c = 73) μ μc ∧ Both μc A ∧ gi μc 69 = gi μb 69 := by
  have h0 := h
  obtain ⟨hm, hc, hw, ht, hr⟩ := h
  obtain ⟨μc, e1, e2, e3⟩ := f184 (d := d) ((hm.sb ha).sb hb)
  have hs : SB (fun c => c = 69 ∨ c = 70 ∨ c = 73) μ μc := ((ha.wk (fun c e => by omega)).tr (hb.wk (fun c e => by omega))).tr (e2.wk (fun c e => by omega))
  refine ⟨μc, e1, hs, ⟨hm.sb hs, hc.sb hs, hw, ht.sb hs (fun c e => ⟨by omega, scr_tag h0 (by unfold Scr; omega)⟩), hr.ext hw (fun j hj => ?_)⟩, e2.2.2.2.2.2.2 69 (by omega)⟩
  rw [e3 j hj, hb.2.2.2.2.2.2 73 (by omega), h3 j hj]
theorem l_le1 (x : Int32) : ((1 : Int64) ≤ x.toInt64) = (1 ≤ x) := l_le 1 x
theorem l_le40 (x : Int32) : (x.toInt64 ≤ (40 : Int64)) = (x ≤ 40) := l_le x 40
theorem g100 {d : Nat} {x y : Int32} {A Ai : AT} {im : Nat} {Hs : Nat → HT} {μ : SMem} (h : INVw μ A Ai im Hs) : ∃ v μ1 μ2, cl (d + 12) 100 [Sum.inr (Sum.inl (2)), Sum.inl (x), Sum.inl (y)] μ = some (Sum.inl (some (Sum.inl (v))), μ1) ∧ cl (d + 12) 208 [Sum.inr (Sum.inl (69)), Sum.inl (x), Sum.inl (y)] μ1 = some (Sum.inl (some (Sum.inl (v))), μ2) ∧ INVw μ2 A Ai im Hs ∧ sz μ2 = sz μ ∧ sl μ2 = sl μ ∧ K1 μ μ1 := by
  have hB := h.1
  obtain ⟨hm, hc, hw, ht, hr⟩ := hB
  have r9 : rcA A < 1000 := by have := hw.2.1; omega
  have b9 : bcA A < 1000 := by have := hw.1; omega
  have n1 : ((-1 : Int32) = 0) = False := eq_false (by decide)
  by_cases c : 1 ≤ x ∧ x ≤ 40
  · obtain ⟨N, hN, rfl⟩ := E_of (x := x) (n := 41) (by have := Int32.le_iff_toInt_le.mp c.1; exact Int32.le_iff_toInt_le.mpr (by have e : (1 : Int32).toInt = 1 := rfl; have e0 : (0 : Int32).toInt = 0 := rfl; omega)) (by have := Int32.le_iff_toInt_le.mp c.2; exact Int32.lt_iff_toInt_lt.mpr (by have e : (40 : Int32).toInt = 40 := rfl; have e0 : (E 41).toInt = 41 := rfl; omega)) (by decide)
    have c1 : ¬ E N < 1 := Int32.not_lt.mpr c.1
    by_cases k : rcA A = 0 ∨ bcA A = 0
    · refine ⟨-3, μ, μ, ?_, ?_, h, rfl, rfl, K1.rf⟩
      · show rn (d + 12) 100 0 [some (Sum.inr (Sum.inl (2))), some (Sum.inl (E N)), some (Sum.inl (y)), none, none, none, none, none] [] μ = _
        by_cases k1 : rcA A = 0
        · simp only [st100_0, st100_1, st100_2, st100_3, st100_4, st100_5, st100_6, st100_7, st100_8, st100_9, st100_10, st100_11, st100_12, st100_13, st100_14, st100_15, st100_16, st100_17, st100_18, st100_19, st100_20, st100_21, st100_22, st100_23, st100_24, st100_25, c, c1, hc.1, hc.2.1, ht.1.1, ht.2.1, ht.2.2.1, k1, show (E 0 = (0 : Int32)) = True from eq_true rfl, aft_some, Option.toList_some, Option.toList_none, List.cons_append, List.nil_append, br0, br1, br2, br3, zr01, zr02, n10, n01, ne_eq, not_true_eq_false, not_false_eq_true, if_true, if_false, true_and, and_true, and_self]
        · have k2 : bcA A = 0 := by omega
          simp only [st100_0, st100_1, st100_2, st100_3, st100_4, st100_5, st100_6, st100_7, st100_8, st100_9, st100_10, st100_11, st100_12, st100_13, st100_14, st100_15, st100_16, st100_17, st100_18, st100_19, st100_20, st100_21, st100_22, st100_23, st100_24, st100_25, c, c1, hc.1, hc.2.1, ht.1.1, ht.2.1, ht.2.2.1, E_z r9, k1, k2, show (E 0 = (0 : Int32)) = True from eq_true rfl, aft_some, Option.toList_some, Option.toList_none, List.cons_append, List.nil_append, br0, br1, br2, br3, zr01, zr02, n10, n01, ne_eq, not_true_eq_false, not_false_eq_true, if_true, if_false, true_and, and_true, and_self]
      · obtain ⟨m1, m2, m3, m4, m5, m6, m7, m8, m9, m10, m11, m12, m13, m14, ⟨t0, t1, t2, t3, t4, t5, t6, t7, t8, t9, t10, t11, t12⟩, l0, l1, l2, l3, l4, l5, l6, l7, l8, l9, l10, l11, l12⟩ := hm
        show rn (d + 12) 208 0 [some (Sum.inr (Sum.inl (69))), some (Sum.inl (E N)), some (Sum.inl (y)), none, none, none] [] μ = _
        by_cases k1 : rcA A = 0
        · simp only [st208_0, st208_1, st208_2, st208_3, st208_4, st208_5, st208_6, st208_7, st208_8, st208_9, st208_10, st208_11, st208_12, st208_13, st208_14, st208_15, st208_16, st208_17, st208_18, st208_19, st208_20, st208_21, st208_22, st208_23, st208_24, st208_25, st208_26, st208_27, st208_28, f139, l_le1, l_le40, c, m1, m2, t0, l0, alA, alB, alC, alD, alE, and_self, zn0, zn1, zl0, zl1, z00, z01, hr.1, hr.2.1, k1, show (E 0 = (0 : Int32)) = True from eq_true rfl, aft_some, Option.toList_some, Option.toList_none, List.cons_append, List.nil_append, br0, br1, br2, br3, zr01, zr02, n10, n01, ne_eq, not_true_eq_false, not_false_eq_true, if_true, if_false, true_and, and_true, and_self]
        · have k2 : bcA A = 0 := by omega
          simp only [st208_0, st208_1, st208_2, st208_3, st208_4, st208_5, st208_6, st208_7, st208_8, st208_9, st208_10, st208_11, st208_12, st208_13, st208_14, st208_15, st208_16, st208_17, st208_18, st208_19, st208_20, st208_21, st208_22, st208_23, st208_24, st208_25, st208_26, st208_27, st208_28, f139, l_le1, l_le40, c, m1, m2, t0, l0, alA, alB, alC, alD, alE, and_self, zn0, zn1, zl0, zl1, z00, z01, hr.1, hr.2.1, E_z r9, k1, k2, show (E 0 = (0 : Int32)) = True from eq_true rfl, aft_some, Option.toList_some, Option.toList_none, List.cons_append, List.nil_append, br0, br1, br2, br3, zr01, zr02, n10, n01, ne_eq, not_true_eq_false, not_false_eq_true, if_true, if_false, true_and, and_true, and_self]
    · have k1 : ¬ rcA A = 0 := by omega
      have k2 : ¬ bcA A = 0 := by omega
      obtain ⟨μx, a1, a2, a3⟩ := f121 (d := d + 10) h.1
      have hSl : SLt A (inA A) := fun b _ => hw.in2 b
      obtain ⟨μ1, b1, b2⟩ := f100_lp (d := d + 6) (x2 := y) h.1 hN (by omega) (by omega) N 0 μx (inA A) y 0 none none (by omega) a2 a3 hSl
      have hB1 := h.1.tw b2 (fun c e => by omega)
      have hr1 := hB1.2.2.2.2
      have hq1 := hr1.mq hw
      obtain ⟨μa, c1', c2, c3⟩ := f183 (d := d + 10) hB1.1
      have hqa : MQr (gi μa 70) A (inA A) := by rw [c2.2.2.2.2.2.2 70 (by omega)]; exact hq1
      have hma := hB1.1.sb c2
      have hms : MA (seti μa 69 20 y) := hma.sb (SB.se (A := fun c => c = 69) rfl)
      obtain ⟨μb, x5, d1, d2, d3⟩ := f208_lp (d := d + 7) (x2 := y) hms hw hN (by omega) (by omega) N 0 (seti μa 69 20 y) (inA A) y 0 none (by omega) SB.rf (by simp only [gi_seti, gi_setr, gi_setl, gi_setrow, gr_seti, gr_setr, gr_setl, gr_setrow, gl_seti, gl_setr, gl_setl, gl_setrow, tg_seti, tg_setr, tg_setl, tg_setrow, ln_seti, ln_setr, ln_setl, ln_setrow, sz_seti, sz_setr, sz_setl, sz_setrow, sl_seti, sl_setr, sl_setl, sl_setrow, and_self, if_true]) (fun j hj => rfl) (by rw [(SB.se (A := fun c => c = 69) (μ := μa) (a := 69) (k := 20) (x := y) rfl).2.2.2.2.2.2 70 (by omega)]; exact hqa)
      obtain ⟨μc, y1, y2, y3, y4⟩ := f184c (d := d + 10) hB1 c2 c3 ((SB.se (A := fun c => c = 69 ∨ c = 70) (μ := μa) (a := 69) (k := 20) (x := y) (Or.inl rfl)).tr d2)
      have hsb : SB Scr μ μc := (b2.wk (fun c e => by unfold Scr; omega)).tr (y2.wk (fun c e => by unfold Scr; omega))
      refine ⟨sdd A N (inA A) y 0, μ1, μc, ?_, ?_, h.up hsb (fun c h => h) ?_ y3, by rw [y2.2.2.2.2.1, b2.2.2.2.2.1], by rw [y2.2.2.2.2.2.1, b2.2.2.2.2.2.1], K1.sb b2 (by omega)⟩
      · show rn (d + 12) 100 0 [some (Sum.inr (Sum.inl (2))), some (Sum.inl (E N)), some (Sum.inl (y)), none, none, none, none, none] [] μ = _
        simp only [st100_0, st100_1, st100_2, st100_3, st100_4, st100_5, st100_6, st100_7, st100_8, st100_9, st100_10, st100_11, st100_12, st100_13, st100_14, st100_15, st100_16, st100_17, st100_18, st100_19, st100_20, st100_21, st100_22, st100_23, st100_24, st100_25, c, c1, hc.1, hc.2.1, ht.1.1, ht.2.1, ht.2.2.1, E_z r9, E_z b9, k1, k2, a1, aft_some, Option.toList_some, Option.toList_none, List.cons_append, List.nil_append, br0, br1, br2, br3, zr01, zr02, n10, n01, ne_eq, not_true_eq_false, not_false_eq_true, if_true, if_false, true_and, and_true, and_self]
        exact b1
      · obtain ⟨m1, m2, m3, m4, m5, m6, m7, m8, m9, m10, m11, m12, m13, m14, ⟨t0, t1, t2, t3, t4, t5, t6, t7, t8, t9, t10, t11, t12⟩, l0, l1, l2, l3, l4, l5, l6, l7, l8, l9, l10, l11, l12⟩ := hB1.1
        show rn (d + 12) 208 0 [some (Sum.inr (Sum.inl (69))), some (Sum.inl (E N)), some (Sum.inl (y)), none, none, none] [] μ1 = _
        simp only [st208_0, st208_1, st208_2, st208_3, st208_4, st208_5, st208_6, st208_7, st208_8, st208_9, st208_10, st208_11, st208_12, st208_13, st208_14, st208_15, st208_16, st208_17, st208_18, st208_19, st208_20, st208_21, st208_22, st208_23, st208_24, st208_25, st208_26, st208_27, st208_28, f139, l_le1, l_le40, c, m1, m2, t0, l0, alA, alB, alC, alD, alE, and_self, zn0, zn1, zl0, zl1, z00, z01, hr1.1, hr1.2.1, E_z r9, E_z b9, k1, k2, c1', hma.1, aft_some, Option.toList_some, Option.toList_none, List.cons_append, List.nil_append, br0, br1, br2, br3, zr01, zr02, n10, n01, ne_eq, not_true_eq_false, not_false_eq_true, if_true, if_false, true_and, and_true, and_self]
        refine d1.trans ?_
        simp only [st208_53, st208_54, st208_55, st208_56, (hms.sb d2).1, y1, aft_some, Option.toList_some, Option.toList_none, List.cons_append, List.nil_append, br0, br1, br2, br3, zr01, zr02, n10, n01, ne_eq, not_true_eq_false, not_false_eq_true, if_true, if_false, true_and, and_true, and_self]
      · rw [y4, d3 10 (by decide)]
        simp only [gi_seti, gi_setr, gi_setl, gi_setrow, gr_seti, gr_setr, gr_setl, gr_setrow, gl_seti, gl_setr, gl_setl, gl_setrow, tg_seti, tg_setr, tg_setl, tg_setrow, ln_seti, ln_setr, ln_setl, ln_setrow, sz_seti, sz_setr, sz_setl, sz_setrow, sl_seti, sl_setr, sl_setl, sl_setrow, show (10 = 20) = False from eq_false (by decide), and_false, if_false]
        rw [c2.2.2.2.2.2.2 69 (by omega), b2.2.2.2.2.2.2 69 (by omega)]
  · refine ⟨-1, μ, μ, ?_, ?_, h, rfl, rfl, K1.rf⟩
    · show rn (d + 12) 100 0 [some (Sum.inr (Sum.inl (2))), some (Sum.inl (x)), some (Sum.inl (y)), none, none, none, none, none] [] μ = _
      by_cases c0 : x < 1
      · simp only [st100_0, st100_1, st100_2, st100_3, st100_4, st100_5, st100_6, st100_7, st100_8, st100_9, st100_10, st100_11, st100_12, st100_13, st100_14, st100_15, st100_16, st100_17, st100_18, st100_19, st100_20, st100_21, st100_22, st100_23, st100_24, st100_25, c0, aft_some, Option.toList_some, Option.toList_none, List.cons_append, List.nil_append, br0, br1, br2, br3, zr01, zr02, n10, n01, ne_eq, not_true_eq_false, not_false_eq_true, if_true, if_false, true_and, and_true, and_self]
      · have c2 : ¬ x ≤ 40 := fun e => c ⟨Int32.not_lt.mp c0, e⟩
        simp only [st100_0, st100_1, st100_2, st100_3, st100_4, st100_5, st100_6, st100_7, st100_8, st100_9, st100_10, st100_11, st100_12, st100_13, st100_14, st100_15, st100_16, st100_17, st100_18, st100_19, st100_20, st100_21, st100_22, st100_23, st100_24, st100_25, c0, c2, aft_some, Option.toList_some, Option.toList_none, List.cons_append, List.nil_append, br0, br1, br2, br3, zr01, zr02, n10, n01, ne_eq, not_true_eq_false, not_false_eq_true, if_true, if_false, true_and, and_true, and_self]
    · show rn (d + 12) 208 0 [some (Sum.inr (Sum.inl (69))), some (Sum.inl (x)), some (Sum.inl (y)), none, none, none] [] μ = _
      simp only [st208_0, st208_1, st208_2, st208_3, st208_4, st208_5, st208_6, st208_7, st208_8, st208_9, st208_10, st208_11, st208_12, st208_13, st208_14, st208_15, st208_16, st208_17, st208_18, st208_19, st208_20, st208_21, st208_22, st208_23, st208_24, st208_25, st208_26, st208_27, st208_28, f139, l_le1, l_le40, c, aft_some, Option.toList_some, Option.toList_none, List.cons_append, List.nil_append, br0, br1, br2, br3, zr01, zr02, n10, n01, ne_eq, not_true_eq_false, not_false_eq_true, if_true, if_false, true_and, and_true, and_self]
