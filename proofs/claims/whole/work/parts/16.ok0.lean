/-! EACH STEP IS RIGHT -/
def sm_XX (S b Lx : Nat) (xs : Nat → Int32) : Nat → State → Prop := fun m s => m = 228 → sm_X S b Lx xs s
theorem hXX {S b Lx : Nat} {xs : Nat → Int32} (y : Nat) (h : y ≠ 228) : ∀ s, sm_XX S b Lx xs y s := fun _ e => absurd e h
def OKp (l : Launch) (S b Lx : Nat) (xs : Nat → Int32) (dC : Nat → ClassId) (dI : Nat → Nat → Nat) (cA : Nat → ClassId) (m i : Nat) (f : SIns) : Prop := sm_OK l S b Lx xs dC dI cA sm_M (sm_XX S b Lx xs) m (sm_pc m) i f
def sm_all (P : Nat → SIns → Prop) : Nat → List SIns → Prop
  | _, [] => True
  | k, f :: fs => P k f ∧ sm_all P (k + 1) fs
theorem sm_all_of {P : Nat → SIns → Prop} : ∀ (fs : List SIns) (k : Nat), sm_all P k fs → ∀ i f, fs[i]? = some f → P (k + i) f := by
  intro fs
  induction fs with
  | nil => intro k _ i f h; simp at h
  | cons g gs ih =>
    intro k h i f hi
    cases i with
    | zero => simp at hi; subst hi; exact h.1
    | succ i =>
      rw [show k + (i + 1) = (k + 1) + i by omega]
      exact ih (k + 1) h.2 i f (by simpa using hi)
theorem sm_all_app {P : Nat → SIns → Prop} : ∀ (as bs : List SIns) (k : Nat), sm_all P k as → sm_all P (k + as.length) bs → sm_all P k (as ++ bs) := by
  intro as
  induction as with
  | nil => intro bs k _ h; exact h
  | cons a as ih =>
    intro bs k h1 h2
    exact ⟨h1.1, ih bs (k + 1) h1.2 (by rw [show k + 1 + as.length = k + (a :: as).length by simp; omega]; exact h2)⟩
section SMOKS
variable {l : Launch} {S b Lx : Nat} {xs : Nat → Int32} {dC : Nat → ClassId} {dI : Nat → Nat → Nat} {cA : Nat → ClassId}
theorem ok_stuck {M : Nat → SMeth} {X : Nat → State → Prop} {m : Nat} {pcs : Nat → Nat} {i : Nat} : sm_OK l S b Lx xs dC dI cA M X m pcs i s_stuck := fun _ _ _ _ h => nomatch h
theorem dv1_ok {own : String} {idx n t y ml : Nat} {X : Nat → State → Prop} (h : sm_vc sm_M own idx n t y) (h1 : ml = (sm_M y).2.2.1) (h2 : ml ≤ 100) (h3 : ∀ s, X y s) : ∀ t9 y9 ml9, dv1 t y ml t9 = some (y9, ml9) → sm_vc sm_M own idx n t9 y9 ∧ ml9 = (sm_M y9).2.2.1 ∧ ml9 ≤ 100 ∧ ∀ s, X y9 s := by
  intro t9 y9 ml9 h9
  unfold dv1 at h9
  split at h9
  · next e => cases h9; subst e; exact ⟨h, h1, h2, h3⟩
  · cases h9
end SMOKS
section SMOKS
variable {l : Launch} {S b Lx : Nat} {xs : Nat → Int32} {dC : Nat → ClassId} {dI : Nat → Nat → Nat} {cA : Nat → ClassId}
theorem ok_putIFR {M : Nat → SMeth} {X : Nat → State → Prop} {m : Nat} {pcs : Nat → Nat} {i k idx : Nat} {ref : String} (hd : decode (M m).2.1 (pcs i) = .ok (.putfield idx, 3)) (hp : pcs (i + 1) = pcs i + 3) (hin : (M m).1.name = "<init>") (hfd : ∀ t, isRd t = true → sm_fdp (M m).1.cls idx ref t k true .int ∧ sm_fr t k = false) : sm_OK l S b Lx xs dC dI cA M X m pcs i (s_putIR k) := by
  intro L st μ cmd h hL
  unfold s_putIR at h
  split at h
  · next x a st9 =>
    split at h
    · next hc9 =>
      have h2 : s_putI (tg μ a) k i L (.inl x :: .inr (.inl a) :: st9) μ = some cmd := by
        show (if tg μ a = tg μ a then some (Sum.inl (i + 1, L, st9, seti μ a k x)) else none) = some cmd
        rw [if_pos rfl]
        exact h
      exact ok_putIF (t := tg μ a) hd hp hin (hfd _ hc9).1 (hfd _ hc9).2 L _ μ cmd h2 hL
    · cases h
  · cases h
theorem o0_0 : OKp l S b Lx xs dC dI cA 0 0 (s_aload 0) := ok_aload_n (k9 := 0) (by decide +kernel) rfl rfl
theorem o0_1 : OKp l S b Lx xs dC dI cA 0 1 (s_iload 1) := ok_iload_n (k9 := 1) (by decide +kernel) rfl rfl
theorem o0_2 : OKp l S b Lx xs dC dI cA 0 2 (s_invI 23 1 2) := ok_invI rfl rfl (by decide) (hXX 23 (by decide)) w_323 w_297 w_65 c_23 rfl rfl (by decide +kernel) (by decide +kernel) rfl
theorem o0_3 : OKp l S b Lx xs dC dI cA 0 3 (s_vret) := ok_vret (by decide +kernel) rfl
theorem a0 (hl9 : l.stackTraces = false) : sm_all (OKp l S b Lx xs dC dI cA 0) 0 sc_0 := ⟨o0_0, o0_1, o0_2, o0_3, trivial⟩
theorem o1_0 : OKp l S b Lx xs dC dI cA 1 0 (s_const (5)) := ok_iconst (n := 5) (by decide +kernel) (by decide) rfl
theorem o1_1 : OKp l S b Lx xs dC dI cA 1 1 (s_ret) := ok_ret (by decide +kernel) rfl
theorem a1 (hl9 : l.stackTraces = false) : sm_all (OKp l S b Lx xs dC dI cA 1) 0 sc_1 := ⟨o1_0, o1_1, trivial⟩
theorem o2_0 : OKp l S b Lx xs dC dI cA 2 0 (s_iload 1) := ok_iload_n (k9 := 1) (by decide +kernel) rfl rfl
theorem o2_1 : OKp l S b Lx xs dC dI cA 2 1 (s_iload 2) := ok_iload_n (k9 := 2) (by decide +kernel) rfl rfl
theorem o2_2 : OKp l S b Lx xs dC dI cA 2 2 (s_icmp (fun x y => x < y) 5) := ok_icmp_lt (off := 7) (by decide +kernel) (by decide +kernel) rfl
theorem o2_3 : OKp l S b Lx xs dC dI cA 2 3 (s_const (1)) := ok_iconst (n := 1) (by decide +kernel) (by decide) rfl
theorem o2_4 : OKp l S b Lx xs dC dI cA 2 4 (s_goto 6) := ok_goto (off := 4) (by decide +kernel) (by decide +kernel)
theorem o2_5 : OKp l S b Lx xs dC dI cA 2 5 (s_const (0)) := ok_iconst (n := 0) (by decide +kernel) (by decide) rfl
theorem o2_6 : OKp l S b Lx xs dC dI cA 2 6 (s_zret) := ok_zret (by decide +kernel) rfl
theorem a2 (hl9 : l.stackTraces = false) : sm_all (OKp l S b Lx xs dC dI cA 2) 0 sc_2 := ⟨o2_0, o2_1, o2_2, o2_3, o2_4, o2_5, o2_6, trivial⟩
theorem o3_0 : OKp l S b Lx xs dC dI cA 3 0 (s_aload 0) := ok_aload_n (k9 := 0) (by decide +kernel) rfl rfl
theorem o3_1 : OKp l S b Lx xs dC dI cA 3 1 (s_invU isRd 28 0 1) := ok_invU (x := ⟨"TakesAPage$KindReader", "feeOf", "()I"⟩) (owner := "TakesAPage$KindReader") isRd_lt rfl rfl rfl (by decide) (hXX 28 (by decide)) w_767 w_1346 w_325 (Or.inl rfl) w_768 w_65 c_28 (by decide) (by decide +kernel) (by decide +kernel) rfl
theorem o3_2 : OKp l S b Lx xs dC dI cA 3 2 (s_const (6)) := ok_bipush (n := 6) (by decide +kernel) (by decide) rfl
theorem o3_3 : OKp l S b Lx xs dC dI cA 3 3 (s_bin g_iadd) := ok_iadd (by decide +kernel) rfl
theorem o3_4 : OKp l S b Lx xs dC dI cA 3 4 (s_ret) := ok_ret (by decide +kernel) rfl
theorem a3 (hl9 : l.stackTraces = false) : sm_all (OKp l S b Lx xs dC dI cA 3) 0 sc_3 := ⟨o3_0, o3_1, o3_2, o3_3, o3_4, trivial⟩
theorem o4_0 : OKp l S b Lx xs dC dI cA 4 0 (s_aload 0) := ok_aload_n (k9 := 0) (by decide +kernel) rfl rfl
theorem o4_1 : OKp l S b Lx xs dC dI cA 4 1 (s_objInit) := ok_objInit w_100 w_84 wobj (by decide +kernel) rfl
theorem o4_2 : OKp l S b Lx xs dC dI cA 4 2 (s_aload 0) := ok_aload_n (k9 := 0) (by decide +kernel) rfl rfl
theorem o4_3 : OKp l S b Lx xs dC dI cA 4 3 (s_const (8)) := ok_bipush (n := 8) (by decide +kernel) (by decide) rfl
theorem o4_4 : OKp l S b Lx xs dC dI cA 4 4 (s_newarr 50) := ok_newarr_i w_118 (by decide +kernel) rfl
theorem o4_5 : OKp l S b Lx xs dC dI cA 4 5 (s_putR 1 0) := ok_putRF (ty := (.array .int)) (fun v => by cases v <;> exact ⟨rfl, rfl⟩) (by decide +kernel) rfl rfl fp_RX1_9 rfl
theorem o4_6 : OKp l S b Lx xs dC dI cA 4 6 (s_aload 0) := ok_aload_n (k9 := 0) (by decide +kernel) rfl rfl
theorem o4_7 : OKp l S b Lx xs dC dI cA 4 7 (s_const (8)) := ok_bipush (n := 8) (by decide +kernel) (by decide) rfl
theorem o4_8 : OKp l S b Lx xs dC dI cA 4 8 (s_newarr 50) := ok_newarr_i w_118 (by decide +kernel) rfl
theorem o4_9 : OKp l S b Lx xs dC dI cA 4 9 (s_putR 1 1) := ok_putRF (ty := (.array .int)) (fun v => by cases v <;> exact ⟨rfl, rfl⟩) (by decide +kernel) rfl rfl fp_RX1_15 rfl
theorem o4_10 : OKp l S b Lx xs dC dI cA 4 10 (s_aload 0) := ok_aload_n (k9 := 0) (by decide +kernel) rfl rfl
theorem o4_11 : OKp l S b Lx xs dC dI cA 4 11 (s_const (0)) := ok_iconst (n := 0) (by decide +kernel) (by decide) rfl
theorem o4_12 : OKp l S b Lx xs dC dI cA 4 12 (s_putI 1 2) := ok_putI (by decide +kernel) rfl fp_RX1_18 rfl
theorem o4_13 : OKp l S b Lx xs dC dI cA 4 13 (s_aload 0) := ok_aload_n (k9 := 0) (by decide +kernel) rfl rfl
theorem o4_14 : OKp l S b Lx xs dC dI cA 4 14 (s_const (0)) := ok_iconst (n := 0) (by decide +kernel) (by decide) rfl
theorem o4_15 : OKp l S b Lx xs dC dI cA 4 15 (s_putI 1 3) := ok_putI (by decide +kernel) rfl fp_RX1_22 rfl
theorem o4_16 : OKp l S b Lx xs dC dI cA 4 16 (s_vret) := ok_vret (by decide +kernel) rfl
theorem a4 (hl9 : l.stackTraces = false) : sm_all (OKp l S b Lx xs dC dI cA 4) 0 sc_4 := ⟨o4_0, o4_1, o4_2, o4_3, o4_4, o4_5, o4_6, o4_7, o4_8, o4_9, o4_10, o4_11, o4_12, o4_13, o4_14, o4_15, o4_16, trivial⟩
theorem o5_0 : OKp l S b Lx xs dC dI cA 5 0 (s_aload 0) := ok_aload_n (k9 := 0) (by decide +kernel) rfl rfl
theorem o5_1 : OKp l S b Lx xs dC dI cA 5 1 (s_iload 1) := ok_iload_n (k9 := 1) (by decide +kernel) rfl rfl
theorem o5_2 : OKp l S b Lx xs dC dI cA 5 2 (s_putI 1 2) := ok_putI (by decide +kernel) rfl fp_RX1_18 rfl
theorem o5_3 : OKp l S b Lx xs dC dI cA 5 3 (s_aload 0) := ok_aload_n (k9 := 0) (by decide +kernel) rfl rfl
theorem o5_4 : OKp l S b Lx xs dC dI cA 5 4 (s_aload 0) := ok_aload_n (k9 := 0) (by decide +kernel) rfl rfl
theorem o5_5 : OKp l S b Lx xs dC dI cA 5 5 (s_invV (dv1 1 9 1) [] 0) := ok_invV (dv1_ok vc_RX1_25_1 rfl (by decide) (hXX 9 (by decide))) (by decide +kernel) rfl
theorem o5_6 : OKp l S b Lx xs dC dI cA 5 6 (s_putI 1 3) := ok_putI (by decide +kernel) rfl fp_RX1_22 rfl
theorem o5_7 : OKp l S b Lx xs dC dI cA 5 7 (s_const (0)) := ok_iconst (n := 0) (by decide +kernel) (by decide) rfl
theorem o5_8 : OKp l S b Lx xs dC dI cA 5 8 (s_istore 2) := ok_istore_n (k9 := 2) (by decide +kernel) rfl rfl
theorem o5_9 : OKp l S b Lx xs dC dI cA 5 9 (s_iload 2) := ok_iload_n (k9 := 2) (by decide +kernel) rfl rfl
theorem o5_10 : OKp l S b Lx xs dC dI cA 5 10 (s_const (8)) := ok_bipush (n := 8) (by decide +kernel) (by decide) rfl
theorem o5_11 : OKp l S b Lx xs dC dI cA 5 11 (s_icmp (fun x y => y ≤ x) 24) := ok_icmp_ge (off := 25) (by decide +kernel) (by decide +kernel) rfl
theorem o5_12 : OKp l S b Lx xs dC dI cA 5 12 (s_aload 0) := ok_aload_n (k9 := 0) (by decide +kernel) rfl rfl
theorem o5_13 : OKp l S b Lx xs dC dI cA 5 13 (s_getR (fun t => t == 1) 0) := ok_getR (by decide +kernel) rfl fd_RX1_9
theorem o5_14 : OKp l S b Lx xs dC dI cA 5 14 (s_iload 2) := ok_iload_n (k9 := 2) (by decide +kernel) rfl rfl
theorem o5_15 : OKp l S b Lx xs dC dI cA 5 15 (s_const (-4)) := ok_bipush (n := -4) (by decide +kernel) (by decide) rfl
theorem o5_16 : OKp l S b Lx xs dC dI cA 5 16 (s_iast) := ok_iast (by decide +kernel) rfl
theorem o5_17 : OKp l S b Lx xs dC dI cA 5 17 (s_aload 0) := ok_aload_n (k9 := 0) (by decide +kernel) rfl rfl
theorem o5_18 : OKp l S b Lx xs dC dI cA 5 18 (s_getR (fun t => t == 1) 1) := ok_getR (by decide +kernel) rfl fd_RX1_15
theorem o5_19 : OKp l S b Lx xs dC dI cA 5 19 (s_iload 2) := ok_iload_n (k9 := 2) (by decide +kernel) rfl rfl
theorem o5_20 : OKp l S b Lx xs dC dI cA 5 20 (s_const (-4)) := ok_bipush (n := -4) (by decide +kernel) (by decide) rfl
theorem o5_21 : OKp l S b Lx xs dC dI cA 5 21 (s_iast) := ok_iast (by decide +kernel) rfl
theorem o5_22 : OKp l S b Lx xs dC dI cA 5 22 (s_iinc 2 (1)) := ok_iinc (n := 1) (by decide +kernel) (by decide) rfl
theorem o5_23 : OKp l S b Lx xs dC dI cA 5 23 (s_goto 9) := ok_goto (off := -25) (by decide +kernel) (by decide +kernel)
theorem o5_24 : OKp l S b Lx xs dC dI cA 5 24 (s_vret) := ok_vret (by decide +kernel) rfl
theorem a5 (hl9 : l.stackTraces = false) : sm_all (OKp l S b Lx xs dC dI cA 5) 0 sc_5 := ⟨o5_0, o5_1, o5_2, o5_3, o5_4, o5_5, o5_6, o5_7, o5_8, o5_9, o5_10, o5_11, o5_12, o5_13, o5_14, o5_15, o5_16, o5_17, o5_18, o5_19, o5_20, o5_21, o5_22, o5_23, o5_24, trivial⟩
theorem o6_0 : OKp l S b Lx xs dC dI cA 6 0 (s_aload 0) := ok_aload_n (k9 := 0) (by decide +kernel) rfl rfl
theorem o6_1 : OKp l S b Lx xs dC dI cA 6 1 (s_aload 1) := ok_aload_n (k9 := 1) (by decide +kernel) rfl rfl
theorem o6_2 : OKp l S b Lx xs dC dI cA 6 2 (s_getI (fun t => t == 1) 2) := ok_getI (by decide +kernel) rfl fd_RX1_18
theorem o6_3 : OKp l S b Lx xs dC dI cA 6 3 (s_putI 1 2) := ok_putI (by decide +kernel) rfl fp_RX1_18 rfl
theorem o6_4 : OKp l S b Lx xs dC dI cA 6 4 (s_aload 0) := ok_aload_n (k9 := 0) (by decide +kernel) rfl rfl
theorem o6_5 : OKp l S b Lx xs dC dI cA 6 5 (s_aload 1) := ok_aload_n (k9 := 1) (by decide +kernel) rfl rfl
theorem o6_6 : OKp l S b Lx xs dC dI cA 6 6 (s_getI (fun t => t == 1) 3) := ok_getI (by decide +kernel) rfl fd_RX1_22
theorem o6_7 : OKp l S b Lx xs dC dI cA 6 7 (s_putI 1 3) := ok_putI (by decide +kernel) rfl fp_RX1_22 rfl
theorem o6_8 : OKp l S b Lx xs dC dI cA 6 8 (s_aload 1) := ok_aload_n (k9 := 1) (by decide +kernel) rfl rfl
theorem o6_9 : OKp l S b Lx xs dC dI cA 6 9 (s_getR (fun t => t == 1) 0) := ok_getR (by decide +kernel) rfl fd_RX1_9
theorem o6_10 : OKp l S b Lx xs dC dI cA 6 10 (s_const (0)) := ok_iconst (n := 0) (by decide +kernel) (by decide) rfl
theorem o6_11 : OKp l S b Lx xs dC dI cA 6 11 (s_aload 0) := ok_aload_n (k9 := 0) (by decide +kernel) rfl rfl
theorem o6_12 : OKp l S b Lx xs dC dI cA 6 12 (s_getR (fun t => t == 1) 0) := ok_getR (by decide +kernel) rfl fd_RX1_9
theorem o6_13 : OKp l S b Lx xs dC dI cA 6 13 (s_const (0)) := ok_iconst (n := 0) (by decide +kernel) (by decide) rfl
theorem o6_14 : OKp l S b Lx xs dC dI cA 6 14 (s_const (8)) := ok_bipush (n := 8) (by decide +kernel) (by decide) rfl
theorem o6_15 : OKp l S b Lx xs dC dI cA 6 15 (s_acopy) := ok_acopy w_230 w_232 w_231 w_62 (by decide +kernel) rfl
theorem o6_16 : OKp l S b Lx xs dC dI cA 6 16 (s_aload 1) := ok_aload_n (k9 := 1) (by decide +kernel) rfl rfl
theorem o6_17 : OKp l S b Lx xs dC dI cA 6 17 (s_getR (fun t => t == 1) 1) := ok_getR (by decide +kernel) rfl fd_RX1_15
theorem o6_18 : OKp l S b Lx xs dC dI cA 6 18 (s_const (0)) := ok_iconst (n := 0) (by decide +kernel) (by decide) rfl
theorem o6_19 : OKp l S b Lx xs dC dI cA 6 19 (s_aload 0) := ok_aload_n (k9 := 0) (by decide +kernel) rfl rfl
theorem o6_20 : OKp l S b Lx xs dC dI cA 6 20 (s_getR (fun t => t == 1) 1) := ok_getR (by decide +kernel) rfl fd_RX1_15
theorem o6_21 : OKp l S b Lx xs dC dI cA 6 21 (s_const (0)) := ok_iconst (n := 0) (by decide +kernel) (by decide) rfl
theorem o6_22 : OKp l S b Lx xs dC dI cA 6 22 (s_const (8)) := ok_bipush (n := 8) (by decide +kernel) (by decide) rfl
theorem o6_23 : OKp l S b Lx xs dC dI cA 6 23 (s_acopy) := ok_acopy w_230 w_232 w_231 w_62 (by decide +kernel) rfl
theorem o6_24 : OKp l S b Lx xs dC dI cA 6 24 (s_vret) := ok_vret (by decide +kernel) rfl
theorem a6 (hl9 : l.stackTraces = false) : sm_all (OKp l S b Lx xs dC dI cA 6) 0 sc_6 := ⟨o6_0, o6_1, o6_2, o6_3, o6_4, o6_5, o6_6, o6_7, o6_8, o6_9, o6_10, o6_11, o6_12, o6_13, o6_14, o6_15, o6_16, o6_17, o6_18, o6_19, o6_20, o6_21, o6_22, o6_23, o6_24, trivial⟩
theorem o7_0 : OKp l S b Lx xs dC dI cA 7 0 (s_iload 1) := ok_iload_n (k9 := 1) (by decide +kernel) rfl rfl
theorem o7_1 : OKp l S b Lx xs dC dI cA 7 1 (s_if (fun x => x < 0) 11) := ok_if_lt (off := 21) (by decide +kernel) (by decide +kernel) rfl
theorem o7_2 : OKp l S b Lx xs dC dI cA 7 2 (s_iload 1) := ok_iload_n (k9 := 1) (by decide +kernel) rfl rfl
theorem o7_3 : OKp l S b Lx xs dC dI cA 7 3 (s_aload 0) := ok_aload_n (k9 := 0) (by decide +kernel) rfl rfl
theorem o7_4 : OKp l S b Lx xs dC dI cA 7 4 (s_getI (fun t => t == 1) 2) := ok_getI (by decide +kernel) rfl fd_RX1_18
theorem o7_5 : OKp l S b Lx xs dC dI cA 7 5 (s_icmp (fun x y => y ≤ x) 11) := ok_icmp_ge (off := 13) (by decide +kernel) (by decide +kernel) rfl
theorem o7_6 : OKp l S b Lx xs dC dI cA 7 6 (s_iload 1) := ok_iload_n (k9 := 1) (by decide +kernel) rfl rfl
theorem o7_7 : OKp l S b Lx xs dC dI cA 7 7 (s_const (8)) := ok_bipush (n := 8) (by decide +kernel) (by decide) rfl
theorem o7_8 : OKp l S b Lx xs dC dI cA 7 8 (s_icmp (fun x y => y ≤ x) 11) := ok_icmp_ge (off := 7) (by decide +kernel) (by decide +kernel) rfl
theorem o7_9 : OKp l S b Lx xs dC dI cA 7 9 (s_const (1)) := ok_iconst (n := 1) (by decide +kernel) (by decide) rfl
theorem o7_10 : OKp l S b Lx xs dC dI cA 7 10 (s_goto 12) := ok_goto (off := 4) (by decide +kernel) (by decide +kernel)
theorem o7_11 : OKp l S b Lx xs dC dI cA 7 11 (s_const (0)) := ok_iconst (n := 0) (by decide +kernel) (by decide) rfl
theorem o7_12 : OKp l S b Lx xs dC dI cA 7 12 (s_zret) := ok_zret (by decide +kernel) rfl
theorem a7 (hl9 : l.stackTraces = false) : sm_all (OKp l S b Lx xs dC dI cA 7) 0 sc_7 := ⟨o7_0, o7_1, o7_2, o7_3, o7_4, o7_5, o7_6, o7_7, o7_8, o7_9, o7_10, o7_11, o7_12, trivial⟩
theorem o8_0 : OKp l S b Lx xs dC dI cA 8 0 (s_aload 0) := ok_aload_n (k9 := 0) (by decide +kernel) rfl rfl
theorem o8_1 : OKp l S b Lx xs dC dI cA 8 1 (s_iload 1) := ok_iload_n (k9 := 1) (by decide +kernel) rfl rfl
theorem o8_2 : OKp l S b Lx xs dC dI cA 8 2 (s_invV (dv1 1 7 2) [] 1) := ok_invV (dv1_ok vc_RX1_35_1 rfl (by decide) (hXX 7 (by decide))) (by decide +kernel) rfl
theorem o8_3 : OKp l S b Lx xs dC dI cA 8 3 (s_if (fun x => x = 0) 13) := ok_if_eq (off := 18) (by decide +kernel) (by decide +kernel) rfl
theorem o8_4 : OKp l S b Lx xs dC dI cA 8 4 (s_aload 0) := ok_aload_n (k9 := 0) (by decide +kernel) rfl rfl
theorem o8_5 : OKp l S b Lx xs dC dI cA 8 5 (s_getI (fun t => t == 1) 3) := ok_getI (by decide +kernel) rfl fd_RX1_22
theorem o8_6 : OKp l S b Lx xs dC dI cA 8 6 (s_iload 1) := ok_iload_n (k9 := 1) (by decide +kernel) rfl rfl
theorem o8_7 : OKp l S b Lx xs dC dI cA 8 7 (s_bin g_ishr) := ok_ishr (by decide +kernel) rfl
theorem o8_8 : OKp l S b Lx xs dC dI cA 8 8 (s_const (1)) := ok_iconst (n := 1) (by decide +kernel) (by decide) rfl
theorem o8_9 : OKp l S b Lx xs dC dI cA 8 9 (s_bin g_iand) := ok_iand (by decide +kernel) rfl
theorem o8_10 : OKp l S b Lx xs dC dI cA 8 10 (s_if (fun x => x = 0) 13) := ok_if_eq (off := 7) (by decide +kernel) (by decide +kernel) rfl
theorem o8_11 : OKp l S b Lx xs dC dI cA 8 11 (s_const (1)) := ok_iconst (n := 1) (by decide +kernel) (by decide) rfl
theorem o8_12 : OKp l S b Lx xs dC dI cA 8 12 (s_goto 14) := ok_goto (off := 4) (by decide +kernel) (by decide +kernel)
theorem o8_13 : OKp l S b Lx xs dC dI cA 8 13 (s_const (0)) := ok_iconst (n := 0) (by decide +kernel) (by decide) rfl
theorem o8_14 : OKp l S b Lx xs dC dI cA 8 14 (s_zret) := ok_zret (by decide +kernel) rfl
theorem a8 (hl9 : l.stackTraces = false) : sm_all (OKp l S b Lx xs dC dI cA 8) 0 sc_8 := ⟨o8_0, o8_1, o8_2, o8_3, o8_4, o8_5, o8_6, o8_7, o8_8, o8_9, o8_10, o8_11, o8_12, o8_13, o8_14, trivial⟩
theorem o9_0 : OKp l S b Lx xs dC dI cA 9 0 (s_const (1)) := ok_iconst (n := 1) (by decide +kernel) (by decide) rfl
theorem o9_1 : OKp l S b Lx xs dC dI cA 9 1 (s_aload 0) := ok_aload_n (k9 := 0) (by decide +kernel) rfl rfl
theorem o9_2 : OKp l S b Lx xs dC dI cA 9 2 (s_getI (fun t => t == 1) 2) := ok_getI (by decide +kernel) rfl fd_RX1_18
theorem o9_3 : OKp l S b Lx xs dC dI cA 9 3 (s_bin g_ishl) := ok_ishl (by decide +kernel) rfl
theorem o9_4 : OKp l S b Lx xs dC dI cA 9 4 (s_const (1)) := ok_iconst (n := 1) (by decide +kernel) (by decide) rfl
theorem o9_5 : OKp l S b Lx xs dC dI cA 9 5 (s_bin g_isub) := ok_isub (by decide +kernel) rfl
theorem o9_6 : OKp l S b Lx xs dC dI cA 9 6 (s_ret) := ok_ret (by decide +kernel) rfl
theorem a9 (hl9 : l.stackTraces = false) : sm_all (OKp l S b Lx xs dC dI cA 9) 0 sc_9 := ⟨o9_0, o9_1, o9_2, o9_3, o9_4, o9_5, o9_6, trivial⟩
theorem o10_0 : OKp l S b Lx xs dC dI cA 10 0 (s_aload 0) := ok_aload_n (k9 := 0) (by decide +kernel) rfl rfl
theorem o10_1 : OKp l S b Lx xs dC dI cA 10 1 (s_iload 1) := ok_iload_n (k9 := 1) (by decide +kernel) rfl rfl
theorem o10_2 : OKp l S b Lx xs dC dI cA 10 2 (s_invV (dv1 1 7 2) [] 1) := ok_invV (dv1_ok vc_RX1_35_1 rfl (by decide) (hXX 7 (by decide))) (by decide +kernel) rfl
theorem o10_3 : OKp l S b Lx xs dC dI cA 10 3 (s_if (fun x => x = 0) 9) := ok_if_eq (off := 12) (by decide +kernel) (by decide +kernel) rfl
theorem o10_4 : OKp l S b Lx xs dC dI cA 10 4 (s_aload 0) := ok_aload_n (k9 := 0) (by decide +kernel) rfl rfl
theorem o10_5 : OKp l S b Lx xs dC dI cA 10 5 (s_getR (fun t => t == 1) 0) := ok_getR (by decide +kernel) rfl fd_RX1_9
theorem o10_6 : OKp l S b Lx xs dC dI cA 10 6 (s_iload 1) := ok_iload_n (k9 := 1) (by decide +kernel) rfl rfl
theorem o10_7 : OKp l S b Lx xs dC dI cA 10 7 (s_iald) := ok_iald (by decide +kernel) rfl
theorem o10_8 : OKp l S b Lx xs dC dI cA 10 8 (s_goto 10) := ok_goto (off := 5) (by decide +kernel) (by decide +kernel)
theorem o10_9 : OKp l S b Lx xs dC dI cA 10 9 (s_const (-4)) := ok_bipush (n := -4) (by decide +kernel) (by decide) rfl
theorem o10_10 : OKp l S b Lx xs dC dI cA 10 10 (s_ret) := ok_ret (by decide +kernel) rfl
theorem a10 (hl9 : l.stackTraces = false) : sm_all (OKp l S b Lx xs dC dI cA 10) 0 sc_10 := ⟨o10_0, o10_1, o10_2, o10_3, o10_4, o10_5, o10_6, o10_7, o10_8, o10_9, o10_10, trivial⟩
theorem o11_0 : OKp l S b Lx xs dC dI cA 11 0 (s_aload 0) := ok_aload_n (k9 := 0) (by decide +kernel) rfl rfl
theorem o11_1 : OKp l S b Lx xs dC dI cA 11 1 (s_iload 1) := ok_iload_n (k9 := 1) (by decide +kernel) rfl rfl
theorem o11_2 : OKp l S b Lx xs dC dI cA 11 2 (s_invV (dv1 1 7 2) [] 1) := ok_invV (dv1_ok vc_RX1_35_1 rfl (by decide) (hXX 7 (by decide))) (by decide +kernel) rfl
theorem o11_3 : OKp l S b Lx xs dC dI cA 11 3 (s_if (fun x => x = 0) 9) := ok_if_eq (off := 12) (by decide +kernel) (by decide +kernel) rfl
theorem o11_4 : OKp l S b Lx xs dC dI cA 11 4 (s_aload 0) := ok_aload_n (k9 := 0) (by decide +kernel) rfl rfl
theorem o11_5 : OKp l S b Lx xs dC dI cA 11 5 (s_getR (fun t => t == 1) 1) := ok_getR (by decide +kernel) rfl fd_RX1_15
theorem o11_6 : OKp l S b Lx xs dC dI cA 11 6 (s_iload 1) := ok_iload_n (k9 := 1) (by decide +kernel) rfl rfl
theorem o11_7 : OKp l S b Lx xs dC dI cA 11 7 (s_iald) := ok_iald (by decide +kernel) rfl
theorem o11_8 : OKp l S b Lx xs dC dI cA 11 8 (s_goto 10) := ok_goto (off := 5) (by decide +kernel) (by decide +kernel)
theorem o11_9 : OKp l S b Lx xs dC dI cA 11 9 (s_const (-4)) := ok_bipush (n := -4) (by decide +kernel) (by decide) rfl
theorem o11_10 : OKp l S b Lx xs dC dI cA 11 10 (s_ret) := ok_ret (by decide +kernel) rfl
theorem a11 (hl9 : l.stackTraces = false) : sm_all (OKp l S b Lx xs dC dI cA 11) 0 sc_11 := ⟨o11_0, o11_1, o11_2, o11_3, o11_4, o11_5, o11_6, o11_7, o11_8, o11_9, o11_10, trivial⟩
theorem o12_0 : OKp l S b Lx xs dC dI cA 12 0 (s_aload 0) := ok_aload_n (k9 := 0) (by decide +kernel) rfl rfl
theorem o12_1 : OKp l S b Lx xs dC dI cA 12 1 (s_iload 1) := ok_iload_n (k9 := 1) (by decide +kernel) rfl rfl
theorem o12_2 : OKp l S b Lx xs dC dI cA 12 2 (s_invV (dv1 1 7 2) [] 1) := ok_invV (dv1_ok vc_RX1_35_1 rfl (by decide) (hXX 7 (by decide))) (by decide +kernel) rfl
theorem o12_3 : OKp l S b Lx xs dC dI cA 12 3 (s_if (fun x => x = 0) 9) := ok_if_eq (off := 12) (by decide +kernel) (by decide +kernel) rfl
theorem o12_4 : OKp l S b Lx xs dC dI cA 12 4 (s_iload 2) := ok_iload_n (k9 := 2) (by decide +kernel) rfl rfl
theorem o12_5 : OKp l S b Lx xs dC dI cA 12 5 (s_if (fun x => x < 0) 9) := ok_if_lt (off := 8) (by decide +kernel) (by decide +kernel) rfl
theorem o12_6 : OKp l S b Lx xs dC dI cA 12 6 (s_iload 2) := ok_iload_n (k9 := 2) (by decide +kernel) rfl rfl
theorem o12_7 : OKp l S b Lx xs dC dI cA 12 7 (s_iload 1) := ok_iload_n (k9 := 1) (by decide +kernel) rfl rfl
theorem o12_8 : OKp l S b Lx xs dC dI cA 12 8 (s_icmp (fun x y => x < y) 11) := ok_icmp_lt (off := 5) (by decide +kernel) (by decide +kernel) rfl
theorem o12_9 : OKp l S b Lx xs dC dI cA 12 9 (s_const (0)) := ok_iconst (n := 0) (by decide +kernel) (by decide) rfl
theorem o12_10 : OKp l S b Lx xs dC dI cA 12 10 (s_zret) := ok_zret (by decide +kernel) rfl
theorem o12_11 : OKp l S b Lx xs dC dI cA 12 11 (s_aload 0) := ok_aload_n (k9 := 0) (by decide +kernel) rfl rfl
theorem o12_12 : OKp l S b Lx xs dC dI cA 12 12 (s_getR (fun t => t == 1) 0) := ok_getR (by decide +kernel) rfl fd_RX1_9
theorem o12_13 : OKp l S b Lx xs dC dI cA 12 13 (s_iload 1) := ok_iload_n (k9 := 1) (by decide +kernel) rfl rfl
theorem o12_14 : OKp l S b Lx xs dC dI cA 12 14 (s_iload 2) := ok_iload_n (k9 := 2) (by decide +kernel) rfl rfl
theorem o12_15 : OKp l S b Lx xs dC dI cA 12 15 (s_iast) := ok_iast (by decide +kernel) rfl
theorem o12_16 : OKp l S b Lx xs dC dI cA 12 16 (s_const (1)) := ok_iconst (n := 1) (by decide +kernel) (by decide) rfl
theorem o12_17 : OKp l S b Lx xs dC dI cA 12 17 (s_zret) := ok_zret (by decide +kernel) rfl
theorem a12 (hl9 : l.stackTraces = false) : sm_all (OKp l S b Lx xs dC dI cA 12) 0 sc_12 := ⟨o12_0, o12_1, o12_2, o12_3, o12_4, o12_5, o12_6, o12_7, o12_8, o12_9, o12_10, o12_11, o12_12, o12_13, o12_14, o12_15, o12_16, o12_17, trivial⟩
theorem o13_0 : OKp l S b Lx xs dC dI cA 13 0 (s_aload 0) := ok_aload_n (k9 := 0) (by decide +kernel) rfl rfl
theorem o13_1 : OKp l S b Lx xs dC dI cA 13 1 (s_iload 1) := ok_iload_n (k9 := 1) (by decide +kernel) rfl rfl
theorem o13_2 : OKp l S b Lx xs dC dI cA 13 2 (s_invV (dv1 1 8 2) [] 1) := ok_invV (dv1_ok vc_RX1_39_1 rfl (by decide) (hXX 8 (by decide))) (by decide +kernel) rfl
theorem o13_3 : OKp l S b Lx xs dC dI cA 13 3 (s_if (fun x => x ≠ 0) 6) := ok_if_ne (off := 5) (by decide +kernel) (by decide +kernel) rfl
theorem o13_4 : OKp l S b Lx xs dC dI cA 13 4 (s_const (0)) := ok_iconst (n := 0) (by decide +kernel) (by decide) rfl
theorem o13_5 : OKp l S b Lx xs dC dI cA 13 5 (s_zret) := ok_zret (by decide +kernel) rfl
theorem o13_6 : OKp l S b Lx xs dC dI cA 13 6 (s_aload 0) := ok_aload_n (k9 := 0) (by decide +kernel) rfl rfl
theorem o13_7 : OKp l S b Lx xs dC dI cA 13 7 (s_dup) := ok_dup (by decide +kernel) rfl
theorem o13_8 : OKp l S b Lx xs dC dI cA 13 8 (s_getI (fun t => t == 1) 3) := ok_getI (by decide +kernel) rfl fd_RX1_22
theorem o13_9 : OKp l S b Lx xs dC dI cA 13 9 (s_const (1)) := ok_iconst (n := 1) (by decide +kernel) (by decide) rfl
theorem o13_10 : OKp l S b Lx xs dC dI cA 13 10 (s_iload 1) := ok_iload_n (k9 := 1) (by decide +kernel) rfl rfl
theorem o13_11 : OKp l S b Lx xs dC dI cA 13 11 (s_bin g_ishl) := ok_ishl (by decide +kernel) rfl
theorem o13_12 : OKp l S b Lx xs dC dI cA 13 12 (s_const (-1)) := ok_iconst (n := -1) (by decide +kernel) (by decide) rfl
theorem o13_13 : OKp l S b Lx xs dC dI cA 13 13 (s_bin g_ixor) := ok_ixor (by decide +kernel) rfl
theorem o13_14 : OKp l S b Lx xs dC dI cA 13 14 (s_bin g_iand) := ok_iand (by decide +kernel) rfl
theorem o13_15 : OKp l S b Lx xs dC dI cA 13 15 (s_putI 1 3) := ok_putI (by decide +kernel) rfl fp_RX1_22 rfl
theorem o13_16 : OKp l S b Lx xs dC dI cA 13 16 (s_aload 0) := ok_aload_n (k9 := 0) (by decide +kernel) rfl rfl
theorem o13_17 : OKp l S b Lx xs dC dI cA 13 17 (s_getR (fun t => t == 1) 1) := ok_getR (by decide +kernel) rfl fd_RX1_15
theorem o13_18 : OKp l S b Lx xs dC dI cA 13 18 (s_iload 1) := ok_iload_n (k9 := 1) (by decide +kernel) rfl rfl
theorem o13_19 : OKp l S b Lx xs dC dI cA 13 19 (s_iload 2) := ok_iload_n (k9 := 2) (by decide +kernel) rfl rfl
theorem o13_20 : OKp l S b Lx xs dC dI cA 13 20 (s_iast) := ok_iast (by decide +kernel) rfl
theorem o13_21 : OKp l S b Lx xs dC dI cA 13 21 (s_const (1)) := ok_iconst (n := 1) (by decide +kernel) (by decide) rfl
theorem o13_22 : OKp l S b Lx xs dC dI cA 13 22 (s_zret) := ok_zret (by decide +kernel) rfl
theorem a13 (hl9 : l.stackTraces = false) : sm_all (OKp l S b Lx xs dC dI cA 13) 0 sc_13 := ⟨o13_0, o13_1, o13_2, o13_3, o13_4, o13_5, o13_6, o13_7, o13_8, o13_9, o13_10, o13_11, o13_12, o13_13, o13_14, o13_15, o13_16, o13_17, o13_18, o13_19, o13_20, o13_21, o13_22, trivial⟩
theorem o14_0 : OKp l S b Lx xs dC dI cA 14 0 (s_const (0)) := ok_iconst (n := 0) (by decide +kernel) (by decide) rfl
theorem o14_1 : OKp l S b Lx xs dC dI cA 14 1 (s_istore 2) := ok_istore_n (k9 := 2) (by decide +kernel) rfl rfl
theorem o14_2 : OKp l S b Lx xs dC dI cA 14 2 (s_const (0)) := ok_iconst (n := 0) (by decide +kernel) (by decide) rfl
theorem o14_3 : OKp l S b Lx xs dC dI cA 14 3 (s_istore 3) := ok_istore_n (k9 := 3) (by decide +kernel) rfl rfl
theorem o14_4 : OKp l S b Lx xs dC dI cA 14 4 (s_iload 3) := ok_iload_n (k9 := 3) (by decide +kernel) rfl rfl
theorem o14_5 : OKp l S b Lx xs dC dI cA 14 5 (s_const (8)) := ok_bipush (n := 8) (by decide +kernel) (by decide) rfl
theorem o14_6 : OKp l S b Lx xs dC dI cA 14 6 (s_icmp (fun x y => y ≤ x) 20) := ok_icmp_ge (off := 24) (by decide +kernel) (by decide +kernel) rfl
theorem o14_7 : OKp l S b Lx xs dC dI cA 14 7 (s_aload 0) := ok_aload_n (k9 := 0) (by decide +kernel) rfl rfl
theorem o14_8 : OKp l S b Lx xs dC dI cA 14 8 (s_iload 3) := ok_iload_n (k9 := 3) (by decide +kernel) rfl rfl
theorem o14_9 : OKp l S b Lx xs dC dI cA 14 9 (s_invV (dv1 1 11 2) [] 1) := ok_invV (dv1_ok vc_RX1_42_1 rfl (by decide) (hXX 11 (by decide))) (by decide +kernel) rfl
theorem o14_10 : OKp l S b Lx xs dC dI cA 14 10 (s_iload 1) := ok_iload_n (k9 := 1) (by decide +kernel) rfl rfl
theorem o14_11 : OKp l S b Lx xs dC dI cA 14 11 (s_icmp (fun x y => x ≠ y) 18) := ok_icmp_ne (off := 9) (by decide +kernel) (by decide +kernel) rfl
theorem o14_12 : OKp l S b Lx xs dC dI cA 14 12 (s_iload 2) := ok_iload_n (k9 := 2) (by decide +kernel) rfl rfl
theorem o14_13 : OKp l S b Lx xs dC dI cA 14 13 (s_const (1)) := ok_iconst (n := 1) (by decide +kernel) (by decide) rfl
theorem o14_14 : OKp l S b Lx xs dC dI cA 14 14 (s_iload 3) := ok_iload_n (k9 := 3) (by decide +kernel) rfl rfl
theorem o14_15 : OKp l S b Lx xs dC dI cA 14 15 (s_bin g_ishl) := ok_ishl (by decide +kernel) rfl
theorem o14_16 : OKp l S b Lx xs dC dI cA 14 16 (s_bin g_ior) := ok_ior (by decide +kernel) rfl
theorem o14_17 : OKp l S b Lx xs dC dI cA 14 17 (s_istore 2) := ok_istore_n (k9 := 2) (by decide +kernel) rfl rfl
theorem o14_18 : OKp l S b Lx xs dC dI cA 14 18 (s_iinc 3 (1)) := ok_iinc (n := 1) (by decide +kernel) (by decide) rfl
theorem o14_19 : OKp l S b Lx xs dC dI cA 14 19 (s_goto 4) := ok_goto (off := -24) (by decide +kernel) (by decide +kernel)
theorem o14_20 : OKp l S b Lx xs dC dI cA 14 20 (s_iload 2) := ok_iload_n (k9 := 2) (by decide +kernel) rfl rfl
theorem o14_21 : OKp l S b Lx xs dC dI cA 14 21 (s_ret) := ok_ret (by decide +kernel) rfl
theorem a14 (hl9 : l.stackTraces = false) : sm_all (OKp l S b Lx xs dC dI cA 14) 0 sc_14 := ⟨o14_0, o14_1, o14_2, o14_3, o14_4, o14_5, o14_6, o14_7, o14_8, o14_9, o14_10, o14_11, o14_12, o14_13, o14_14, o14_15, o14_16, o14_17, o14_18, o14_19, o14_20, o14_21, trivial⟩
theorem o15_0 : OKp l S b Lx xs dC dI cA 15 0 (s_const (0)) := ok_iconst (n := 0) (by decide +kernel) (by decide) rfl
theorem o15_1 : OKp l S b Lx xs dC dI cA 15 1 (s_istore 2) := ok_istore_n (k9 := 2) (by decide +kernel) rfl rfl
theorem o15_2 : OKp l S b Lx xs dC dI cA 15 2 (s_iload 2) := ok_iload_n (k9 := 2) (by decide +kernel) rfl rfl
theorem o15_3 : OKp l S b Lx xs dC dI cA 15 3 (s_const (8)) := ok_bipush (n := 8) (by decide +kernel) (by decide) rfl
theorem o15_4 : OKp l S b Lx xs dC dI cA 15 4 (s_icmp (fun x y => y ≤ x) 30) := ok_icmp_ge (off := 45) (by decide +kernel) (by decide +kernel) rfl
theorem o15_5 : OKp l S b Lx xs dC dI cA 15 5 (s_aload 0) := ok_aload_n (k9 := 0) (by decide +kernel) rfl rfl
theorem o15_6 : OKp l S b Lx xs dC dI cA 15 6 (s_iload 2) := ok_iload_n (k9 := 2) (by decide +kernel) rfl rfl
theorem o15_7 : OKp l S b Lx xs dC dI cA 15 7 (s_invV (dv1 1 7 2) [] 1) := ok_invV (dv1_ok vc_RX1_35_1 rfl (by decide) (hXX 7 (by decide))) (by decide +kernel) rfl
theorem o15_8 : OKp l S b Lx xs dC dI cA 15 8 (s_if (fun x => x = 0) 28) := ok_if_eq (off := 31) (by decide +kernel) (by decide +kernel) rfl
theorem o15_9 : OKp l S b Lx xs dC dI cA 15 9 (s_iload 1) := ok_iload_n (k9 := 1) (by decide +kernel) rfl rfl
theorem o15_10 : OKp l S b Lx xs dC dI cA 15 10 (s_iload 2) := ok_iload_n (k9 := 2) (by decide +kernel) rfl rfl
theorem o15_11 : OKp l S b Lx xs dC dI cA 15 11 (s_bin g_ishr) := ok_ishr (by decide +kernel) rfl
theorem o15_12 : OKp l S b Lx xs dC dI cA 15 12 (s_const (1)) := ok_iconst (n := 1) (by decide +kernel) (by decide) rfl
theorem o15_13 : OKp l S b Lx xs dC dI cA 15 13 (s_bin g_iand) := ok_iand (by decide +kernel) rfl
theorem o15_14 : OKp l S b Lx xs dC dI cA 15 14 (s_if (fun x => x = 0) 28) := ok_if_eq (off := 23) (by decide +kernel) (by decide +kernel) rfl
theorem o15_15 : OKp l S b Lx xs dC dI cA 15 15 (s_aload 0) := ok_aload_n (k9 := 0) (by decide +kernel) rfl rfl
theorem o15_16 : OKp l S b Lx xs dC dI cA 15 16 (s_dup) := ok_dup (by decide +kernel) rfl
theorem o15_17 : OKp l S b Lx xs dC dI cA 15 17 (s_getI (fun t => t == 1) 3) := ok_getI (by decide +kernel) rfl fd_RX1_22
theorem o15_18 : OKp l S b Lx xs dC dI cA 15 18 (s_const (1)) := ok_iconst (n := 1) (by decide +kernel) (by decide) rfl
theorem o15_19 : OKp l S b Lx xs dC dI cA 15 19 (s_iload 2) := ok_iload_n (k9 := 2) (by decide +kernel) rfl rfl
theorem o15_20 : OKp l S b Lx xs dC dI cA 15 20 (s_bin g_ishl) := ok_ishl (by decide +kernel) rfl
theorem o15_21 : OKp l S b Lx xs dC dI cA 15 21 (s_bin g_ior) := ok_ior (by decide +kernel) rfl
theorem o15_22 : OKp l S b Lx xs dC dI cA 15 22 (s_putI 1 3) := ok_putI (by decide +kernel) rfl fp_RX1_22 rfl
theorem o15_23 : OKp l S b Lx xs dC dI cA 15 23 (s_aload 0) := ok_aload_n (k9 := 0) (by decide +kernel) rfl rfl
theorem o15_24 : OKp l S b Lx xs dC dI cA 15 24 (s_getR (fun t => t == 1) 1) := ok_getR (by decide +kernel) rfl fd_RX1_15
theorem o15_25 : OKp l S b Lx xs dC dI cA 15 25 (s_iload 2) := ok_iload_n (k9 := 2) (by decide +kernel) rfl rfl
theorem o15_26 : OKp l S b Lx xs dC dI cA 15 26 (s_const (-4)) := ok_bipush (n := -4) (by decide +kernel) (by decide) rfl
theorem o15_27 : OKp l S b Lx xs dC dI cA 15 27 (s_iast) := ok_iast (by decide +kernel) rfl
theorem o15_28 : OKp l S b Lx xs dC dI cA 15 28 (s_iinc 2 (1)) := ok_iinc (n := 1) (by decide +kernel) (by decide) rfl
theorem o15_29 : OKp l S b Lx xs dC dI cA 15 29 (s_goto 2) := ok_goto (off := -45) (by decide +kernel) (by decide +kernel)
theorem o15_30 : OKp l S b Lx xs dC dI cA 15 30 (s_vret) := ok_vret (by decide +kernel) rfl
theorem a15 (hl9 : l.stackTraces = false) : sm_all (OKp l S b Lx xs dC dI cA 15) 0 sc_15 := ⟨o15_0, o15_1, o15_2, o15_3, o15_4, o15_5, o15_6, o15_7, o15_8, o15_9, o15_10, o15_11, o15_12, o15_13, o15_14, o15_15, o15_16, o15_17, o15_18, o15_19, o15_20, o15_21, o15_22, o15_23, o15_24, o15_25, o15_26, o15_27, o15_28, o15_29, o15_30, trivial⟩
theorem o16_0 : OKp l S b Lx xs dC dI cA 16 0 (s_const (0)) := ok_iconst (n := 0) (by decide +kernel) (by decide) rfl
theorem o16_1 : OKp l S b Lx xs dC dI cA 16 1 (s_istore 2) := ok_istore_n (k9 := 2) (by decide +kernel) rfl rfl
theorem o16_2 : OKp l S b Lx xs dC dI cA 16 2 (s_const (0)) := ok_iconst (n := 0) (by decide +kernel) (by decide) rfl
theorem o16_3 : OKp l S b Lx xs dC dI cA 16 3 (s_istore 3) := ok_istore_n (k9 := 3) (by decide +kernel) rfl rfl
theorem o16_4 : OKp l S b Lx xs dC dI cA 16 4 (s_iload 3) := ok_iload_n (k9 := 3) (by decide +kernel) rfl rfl
theorem o16_5 : OKp l S b Lx xs dC dI cA 16 5 (s_const (8)) := ok_bipush (n := 8) (by decide +kernel) (by decide) rfl
theorem o16_6 : OKp l S b Lx xs dC dI cA 16 6 (s_icmp (fun x y => y ≤ x) 38) := ok_icmp_ge (off := 51) (by decide +kernel) (by decide +kernel) rfl
theorem o16_7 : OKp l S b Lx xs dC dI cA 16 7 (s_iload 1) := ok_iload_n (k9 := 1) (by decide +kernel) rfl rfl
theorem o16_8 : OKp l S b Lx xs dC dI cA 16 8 (s_iload 3) := ok_iload_n (k9 := 3) (by decide +kernel) rfl rfl
theorem o16_9 : OKp l S b Lx xs dC dI cA 16 9 (s_bin g_ishr) := ok_ishr (by decide +kernel) rfl
theorem o16_10 : OKp l S b Lx xs dC dI cA 16 10 (s_if (fun x => x = 0) 38) := ok_if_eq (off := 45) (by decide +kernel) (by decide +kernel) rfl
theorem o16_11 : OKp l S b Lx xs dC dI cA 16 11 (s_aload 0) := ok_aload_n (k9 := 0) (by decide +kernel) rfl rfl
theorem o16_12 : OKp l S b Lx xs dC dI cA 16 12 (s_getR (fun t => t == 1) 0) := ok_getR (by decide +kernel) rfl fd_RX1_9
theorem o16_13 : OKp l S b Lx xs dC dI cA 16 13 (s_iload 3) := ok_iload_n (k9 := 3) (by decide +kernel) rfl rfl
theorem o16_14 : OKp l S b Lx xs dC dI cA 16 14 (s_iald) := ok_iald (by decide +kernel) rfl
theorem o16_15 : OKp l S b Lx xs dC dI cA 16 15 (s_istore 4) := ok_istore (by decide +kernel) rfl
theorem o16_16 : OKp l S b Lx xs dC dI cA 16 16 (s_iload 1) := ok_iload_n (k9 := 1) (by decide +kernel) rfl rfl
theorem o16_17 : OKp l S b Lx xs dC dI cA 16 17 (s_iload 3) := ok_iload_n (k9 := 3) (by decide +kernel) rfl rfl
theorem o16_18 : OKp l S b Lx xs dC dI cA 16 18 (s_bin g_ishr) := ok_ishr (by decide +kernel) rfl
theorem o16_19 : OKp l S b Lx xs dC dI cA 16 19 (s_const (1)) := ok_iconst (n := 1) (by decide +kernel) (by decide) rfl
theorem o16_20 : OKp l S b Lx xs dC dI cA 16 20 (s_bin g_iand) := ok_iand (by decide +kernel) rfl
theorem o16_21 : OKp l S b Lx xs dC dI cA 16 21 (s_if (fun x => x = 0) 36) := ok_if_eq (off := 23) (by decide +kernel) (by decide +kernel) rfl
theorem o16_22 : OKp l S b Lx xs dC dI cA 16 22 (s_iload 4) := ok_iload (by decide +kernel) rfl
theorem o16_23 : OKp l S b Lx xs dC dI cA 16 23 (s_if (fun x => x < 0) 30) := ok_if_lt (off := 12) (by decide +kernel) (by decide +kernel) rfl
theorem o16_24 : OKp l S b Lx xs dC dI cA 16 24 (s_iload 2) := ok_iload_n (k9 := 2) (by decide +kernel) rfl rfl
theorem o16_25 : OKp l S b Lx xs dC dI cA 16 25 (s_iload 4) := ok_iload (by decide +kernel) rfl
theorem o16_26 : OKp l S b Lx xs dC dI cA 16 26 (s_bin g_ishr) := ok_ishr (by decide +kernel) rfl
theorem o16_27 : OKp l S b Lx xs dC dI cA 16 27 (s_const (1)) := ok_iconst (n := 1) (by decide +kernel) (by decide) rfl
theorem o16_28 : OKp l S b Lx xs dC dI cA 16 28 (s_bin g_iand) := ok_iand (by decide +kernel) rfl
theorem o16_29 : OKp l S b Lx xs dC dI cA 16 29 (s_if (fun x => x = 0) 36) := ok_if_eq (off := 9) (by decide +kernel) (by decide +kernel) rfl
theorem o16_30 : OKp l S b Lx xs dC dI cA 16 30 (s_iload 2) := ok_iload_n (k9 := 2) (by decide +kernel) rfl rfl
theorem o16_31 : OKp l S b Lx xs dC dI cA 16 31 (s_const (1)) := ok_iconst (n := 1) (by decide +kernel) (by decide) rfl
theorem o16_32 : OKp l S b Lx xs dC dI cA 16 32 (s_iload 3) := ok_iload_n (k9 := 3) (by decide +kernel) rfl rfl
theorem o16_33 : OKp l S b Lx xs dC dI cA 16 33 (s_bin g_ishl) := ok_ishl (by decide +kernel) rfl
theorem o16_34 : OKp l S b Lx xs dC dI cA 16 34 (s_bin g_ior) := ok_ior (by decide +kernel) rfl
theorem o16_35 : OKp l S b Lx xs dC dI cA 16 35 (s_istore 2) := ok_istore_n (k9 := 2) (by decide +kernel) rfl rfl
theorem o16_36 : OKp l S b Lx xs dC dI cA 16 36 (s_iinc 3 (1)) := ok_iinc (n := 1) (by decide +kernel) (by decide) rfl
theorem o16_37 : OKp l S b Lx xs dC dI cA 16 37 (s_goto 4) := ok_goto (off := -51) (by decide +kernel) (by decide +kernel)
theorem o16_38 : OKp l S b Lx xs dC dI cA 16 38 (s_iload 2) := ok_iload_n (k9 := 2) (by decide +kernel) rfl rfl
theorem o16_39 : OKp l S b Lx xs dC dI cA 16 39 (s_ret) := ok_ret (by decide +kernel) rfl
theorem a16 (hl9 : l.stackTraces = false) : sm_all (OKp l S b Lx xs dC dI cA 16) 0 sc_16 := ⟨o16_0, o16_1, o16_2, o16_3, o16_4, o16_5, o16_6, o16_7, o16_8, o16_9, o16_10, o16_11, o16_12, o16_13, o16_14, o16_15, o16_16, o16_17, o16_18, o16_19, o16_20, o16_21, o16_22, o16_23, o16_24, o16_25, o16_26, o16_27, o16_28, o16_29, o16_30, o16_31, o16_32, o16_33, o16_34, o16_35, o16_36, o16_37, o16_38, o16_39, trivial⟩
theorem o17_0 : OKp l S b Lx xs dC dI cA 17 0 (s_aload 0) := ok_aload_n (k9 := 0) (by decide +kernel) rfl rfl
theorem o17_1 : OKp l S b Lx xs dC dI cA 17 1 (s_getI (fun t => t == 1) 2) := ok_getI (by decide +kernel) rfl fd_RX1_18
theorem o17_2 : OKp l S b Lx xs dC dI cA 17 2 (s_const (1)) := ok_iconst (n := 1) (by decide +kernel) (by decide) rfl
theorem o17_3 : OKp l S b Lx xs dC dI cA 17 3 (s_icmp (fun x y => y ≤ x) 6) := ok_icmp_ge (off := 8) (by decide +kernel) (by decide +kernel) rfl
theorem o17_4 : OKp l S b Lx xs dC dI cA 17 4 (s_const (-4)) := ok_bipush (n := -4) (by decide +kernel) (by decide) rfl
theorem o17_5 : OKp l S b Lx xs dC dI cA 17 5 (s_goto 10) := ok_goto (off := 9) (by decide +kernel) (by decide +kernel)
theorem o17_6 : OKp l S b Lx xs dC dI cA 17 6 (s_iload 1) := ok_iload_n (k9 := 1) (by decide +kernel) rfl rfl
theorem o17_7 : OKp l S b Lx xs dC dI cA 17 7 (s_aload 0) := ok_aload_n (k9 := 0) (by decide +kernel) rfl rfl
theorem o17_8 : OKp l S b Lx xs dC dI cA 17 8 (s_getI (fun t => t == 1) 2) := ok_getI (by decide +kernel) rfl fd_RX1_18
theorem o17_9 : OKp l S b Lx xs dC dI cA 17 9 (s_dvr g_irem) := ok_irem (by decide +kernel) rfl
theorem o17_10 : OKp l S b Lx xs dC dI cA 17 10 (s_ret) := ok_ret (by decide +kernel) rfl
theorem a17 (hl9 : l.stackTraces = false) : sm_all (OKp l S b Lx xs dC dI cA 17) 0 sc_17 := ⟨o17_0, o17_1, o17_2, o17_3, o17_4, o17_5, o17_6, o17_7, o17_8, o17_9, o17_10, trivial⟩
theorem o18_0 : OKp l S b Lx xs dC dI cA 18 0 (s_aload 0) := ok_aload_n (k9 := 0) (by decide +kernel) rfl rfl
theorem o18_1 : OKp l S b Lx xs dC dI cA 18 1 (s_iload 1) := ok_iload_n (k9 := 1) (by decide +kernel) rfl rfl
theorem o18_2 : OKp l S b Lx xs dC dI cA 18 2 (s_invI 44 1 2) := ok_invI rfl rfl (by decide) (hXX 44 (by decide)) w_315 w_268 w_63 c_44 rfl rfl (by decide +kernel) (by decide +kernel) rfl
theorem o18_3 : OKp l S b Lx xs dC dI cA 18 3 (s_vret) := ok_vret (by decide +kernel) rfl
theorem a18 (hl9 : l.stackTraces = false) : sm_all (OKp l S b Lx xs dC dI cA 18) 0 sc_18 := ⟨o18_0, o18_1, o18_2, o18_3, trivial⟩
theorem o19_0 : OKp l S b Lx xs dC dI cA 19 0 (s_const (4)) := ok_iconst (n := 4) (by decide +kernel) (by decide) rfl
theorem o19_1 : OKp l S b Lx xs dC dI cA 19 1 (s_ret) := ok_ret (by decide +kernel) rfl
theorem a19 (hl9 : l.stackTraces = false) : sm_all (OKp l S b Lx xs dC dI cA 19) 0 sc_19 := ⟨o19_0, o19_1, trivial⟩
theorem o20_0 : OKp l S b Lx xs dC dI cA 20 0 (s_const (2)) := ok_iconst (n := 2) (by decide +kernel) (by decide) rfl
theorem o20_1 : OKp l S b Lx xs dC dI cA 20 1 (s_aload 0) := ok_aload_n (k9 := 0) (by decide +kernel) rfl rfl
theorem o20_2 : OKp l S b Lx xs dC dI cA 20 2 (s_invU isRd 46 0 1) := ok_invU (x := ⟨"TakesAPage$Reader", "times", "()I"⟩) (owner := "TakesAPage$Reader") isRd_lt rfl rfl rfl (by decide) (hXX 46 (by decide)) w_408 w_400 w_317 (Or.inl rfl) w_398 w_63 c_46 (by decide) (by decide +kernel) (by decide +kernel) rfl
theorem o20_3 : OKp l S b Lx xs dC dI cA 20 3 (s_bin g_imul) := ok_imul (by decide +kernel) rfl
theorem o20_4 : OKp l S b Lx xs dC dI cA 20 4 (s_ret) := ok_ret (by decide +kernel) rfl
theorem a20 (hl9 : l.stackTraces = false) : sm_all (OKp l S b Lx xs dC dI cA 20) 0 sc_20 := ⟨o20_0, o20_1, o20_2, o20_3, o20_4, trivial⟩
theorem o21_0 : OKp l S b Lx xs dC dI cA 21 0 (s_aload 0) := ok_aload_n (k9 := 0) (by decide +kernel) rfl rfl
theorem o21_1 : OKp l S b Lx xs dC dI cA 21 1 (s_aload 1) := ok_aload_n (k9 := 1) (by decide +kernel) rfl rfl
theorem o21_2 : OKp l S b Lx xs dC dI cA 21 2 (s_iload 2) := ok_iload_n (k9 := 2) (by decide +kernel) rfl rfl
theorem o21_3 : OKp l S b Lx xs dC dI cA 21 3 (s_invU isRd 49 2 4) := ok_invU (x := ⟨"TakesAPage$Reader", "tornPages", "(LTakesAPage$Book;I)I"⟩) (owner := "TakesAPage$Reader") isRd_lt rfl rfl rfl (by decide) (hXX 49 (by decide)) w_423 w_418 w_317 (Or.inl rfl) w_416 w_63 c_49 (by decide) (by decide +kernel) (by decide +kernel) rfl
theorem o21_4 : OKp l S b Lx xs dC dI cA 21 4 (s_istore 3) := ok_istore_n (k9 := 3) (by decide +kernel) rfl rfl
theorem o21_5 : OKp l S b Lx xs dC dI cA 21 5 (s_iload 3) := ok_iload_n (k9 := 3) (by decide +kernel) rfl rfl
theorem o21_6 : OKp l S b Lx xs dC dI cA 21 6 (s_aload 0) := ok_aload_n (k9 := 0) (by decide +kernel) rfl rfl
theorem o21_7 : OKp l S b Lx xs dC dI cA 21 7 (s_aload 1) := ok_aload_n (k9 := 1) (by decide +kernel) rfl rfl
theorem o21_8 : OKp l S b Lx xs dC dI cA 21 8 (s_iload 2) := ok_iload_n (k9 := 2) (by decide +kernel) rfl rfl
theorem o21_9 : OKp l S b Lx xs dC dI cA 21 9 (s_iload 3) := ok_iload_n (k9 := 3) (by decide +kernel) rfl rfl
theorem o21_10 : OKp l S b Lx xs dC dI cA 21 10 (s_const (-1)) := ok_iconst (n := -1) (by decide +kernel) (by decide) rfl
theorem o21_11 : OKp l S b Lx xs dC dI cA 21 11 (s_bin g_ixor) := ok_ixor (by decide +kernel) rfl
theorem o21_12 : OKp l S b Lx xs dC dI cA 21 12 (s_bin g_iand) := ok_iand (by decide +kernel) rfl
theorem o21_13 : OKp l S b Lx xs dC dI cA 21 13 (s_invU isRd 49 2 4) := ok_invU (x := ⟨"TakesAPage$Reader", "tornPages", "(LTakesAPage$Book;I)I"⟩) (owner := "TakesAPage$Reader") isRd_lt rfl rfl rfl (by decide) (hXX 49 (by decide)) w_423 w_418 w_317 (Or.inl rfl) w_416 w_63 c_49 (by decide) (by decide +kernel) (by decide +kernel) rfl
theorem o21_14 : OKp l S b Lx xs dC dI cA 21 14 (s_bin g_ior) := ok_ior (by decide +kernel) rfl
theorem o21_15 : OKp l S b Lx xs dC dI cA 21 15 (s_ret) := ok_ret (by decide +kernel) rfl
theorem a21 (hl9 : l.stackTraces = false) : sm_all (OKp l S b Lx xs dC dI cA 21) 0 sc_21 := ⟨o21_0, o21_1, o21_2, o21_3, o21_4, o21_5, o21_6, o21_7, o21_8, o21_9, o21_10, o21_11, o21_12, o21_13, o21_14, o21_15, trivial⟩
theorem o22_0 : OKp l S b Lx xs dC dI cA 22 0 (s_aload 0) := ok_aload_n (k9 := 0) (by decide +kernel) rfl rfl
theorem o22_1 : OKp l S b Lx xs dC dI cA 22 1 (s_invU isRd 50 0 1) := ok_invU (x := ⟨"TakesAPage$Reader", "feeOf", "()I"⟩) (owner := "TakesAPage$Reader") isRd_lt rfl rfl rfl (by decide) (hXX 50 (by decide)) w_774 w_763 w_317 (Or.inl rfl) w_761 w_63 c_50 (by decide) (by decide +kernel) (by decide +kernel) rfl
theorem o22_2 : OKp l S b Lx xs dC dI cA 22 2 (s_aload 0) := ok_aload_n (k9 := 0) (by decide +kernel) rfl rfl
theorem o22_3 : OKp l S b Lx xs dC dI cA 22 3 (s_getI isRd 0) := ok_getI (by decide +kernel) rfl fd_RX2_18
theorem o22_4 : OKp l S b Lx xs dC dI cA 22 4 (s_const (1)) := ok_iconst (n := 1) (by decide +kernel) (by decide) rfl
theorem o22_5 : OKp l S b Lx xs dC dI cA 22 5 (s_bin g_iadd) := ok_iadd (by decide +kernel) rfl
theorem o22_6 : OKp l S b Lx xs dC dI cA 22 6 (s_bin g_imul) := ok_imul (by decide +kernel) rfl
theorem o22_7 : OKp l S b Lx xs dC dI cA 22 7 (s_ret) := ok_ret (by decide +kernel) rfl
theorem a22 (hl9 : l.stackTraces = false) : sm_all (OKp l S b Lx xs dC dI cA 22) 0 sc_22 := ⟨o22_0, o22_1, o22_2, o22_3, o22_4, o22_5, o22_6, o22_7, trivial⟩
theorem o23_0 : OKp l S b Lx xs dC dI cA 23 0 (s_aload 0) := ok_aload_n (k9 := 0) (by decide +kernel) rfl rfl
theorem o23_1 : OKp l S b Lx xs dC dI cA 23 1 (s_iload 1) := ok_iload_n (k9 := 1) (by decide +kernel) rfl rfl
theorem o23_2 : OKp l S b Lx xs dC dI cA 23 2 (s_invI 44 1 2) := ok_invI rfl rfl (by decide) (hXX 44 (by decide)) w_299 w_268 w_63 c_44 rfl rfl (by decide +kernel) (by decide +kernel) rfl
theorem o23_3 : OKp l S b Lx xs dC dI cA 23 3 (s_vret) := ok_vret (by decide +kernel) rfl
theorem a23 (hl9 : l.stackTraces = false) : sm_all (OKp l S b Lx xs dC dI cA 23) 0 sc_23 := ⟨o23_0, o23_1, o23_2, o23_3, trivial⟩
theorem o24_0 : OKp l S b Lx xs dC dI cA 24 0 (s_const (2)) := ok_iconst (n := 2) (by decide +kernel) (by decide) rfl
theorem o24_1 : OKp l S b Lx xs dC dI cA 24 1 (s_ret) := ok_ret (by decide +kernel) rfl
theorem a24 (hl9 : l.stackTraces = false) : sm_all (OKp l S b Lx xs dC dI cA 24) 0 sc_24 := ⟨o24_0, o24_1, trivial⟩
theorem o25_0 : OKp l S b Lx xs dC dI cA 25 0 (s_aload 0) := ok_aload_n (k9 := 0) (by decide +kernel) rfl rfl
theorem o25_1 : OKp l S b Lx xs dC dI cA 25 1 (s_invU isRd 46 0 1) := ok_invU (x := ⟨"TakesAPage$Reader", "times", "()I"⟩) (owner := "TakesAPage$Reader") isRd_lt rfl rfl rfl (by decide) (hXX 46 (by decide)) w_404 w_400 w_301 (Or.inl rfl) w_398 w_63 c_46 (by decide) (by decide +kernel) (by decide +kernel) rfl
theorem o25_2 : OKp l S b Lx xs dC dI cA 25 2 (s_const (1)) := ok_iconst (n := 1) (by decide +kernel) (by decide) rfl
theorem o25_3 : OKp l S b Lx xs dC dI cA 25 3 (s_bin g_iadd) := ok_iadd (by decide +kernel) rfl
theorem o25_4 : OKp l S b Lx xs dC dI cA 25 4 (s_ret) := ok_ret (by decide +kernel) rfl
theorem a25 (hl9 : l.stackTraces = false) : sm_all (OKp l S b Lx xs dC dI cA 25) 0 sc_25 := ⟨o25_0, o25_1, o25_2, o25_3, o25_4, trivial⟩
theorem o26_0 : OKp l S b Lx xs dC dI cA 26 0 (s_const (-4)) := ok_bipush (n := -4) (by decide +kernel) (by decide) rfl
theorem o26_1 : OKp l S b Lx xs dC dI cA 26 1 (s_istore 3) := ok_istore_n (k9 := 3) (by decide +kernel) rfl rfl
theorem o26_2 : OKp l S b Lx xs dC dI cA 26 2 (s_const (-1)) := ok_iconst (n := -1) (by decide +kernel) (by decide) rfl
theorem o26_3 : OKp l S b Lx xs dC dI cA 26 3 (s_istore 4) := ok_istore (by decide +kernel) rfl
theorem o26_4 : OKp l S b Lx xs dC dI cA 26 4 (s_const (0)) := ok_iconst (n := 0) (by decide +kernel) (by decide) rfl
theorem o26_5 : OKp l S b Lx xs dC dI cA 26 5 (s_istore 5) := ok_istore (by decide +kernel) rfl
theorem o26_6 : OKp l S b Lx xs dC dI cA 26 6 (s_iload 5) := ok_iload (by decide +kernel) rfl
theorem o26_7 : OKp l S b Lx xs dC dI cA 26 7 (s_const (8)) := ok_bipush (n := 8) (by decide +kernel) (by decide) rfl
theorem o26_8 : OKp l S b Lx xs dC dI cA 26 8 (s_icmp (fun x y => y ≤ x) 37) := ok_icmp_ge (off := 53) (by decide +kernel) (by decide +kernel) rfl
theorem o26_9 : OKp l S b Lx xs dC dI cA 26 9 (s_iload 2) := ok_iload_n (k9 := 2) (by decide +kernel) rfl rfl
theorem o26_10 : OKp l S b Lx xs dC dI cA 26 10 (s_iload 5) := ok_iload (by decide +kernel) rfl
theorem o26_11 : OKp l S b Lx xs dC dI cA 26 11 (s_bin g_ishr) := ok_ishr (by decide +kernel) rfl
theorem o26_12 : OKp l S b Lx xs dC dI cA 26 12 (s_const (1)) := ok_iconst (n := 1) (by decide +kernel) (by decide) rfl
theorem o26_13 : OKp l S b Lx xs dC dI cA 26 13 (s_bin g_iand) := ok_iand (by decide +kernel) rfl
theorem o26_14 : OKp l S b Lx xs dC dI cA 26 14 (s_if (fun x => x = 0) 35) := ok_if_eq (off := 38) (by decide +kernel) (by decide +kernel) rfl
theorem o26_15 : OKp l S b Lx xs dC dI cA 26 15 (s_aload 1) := ok_aload_n (k9 := 1) (by decide +kernel) rfl rfl
theorem o26_16 : OKp l S b Lx xs dC dI cA 26 16 (s_iload 2) := ok_iload_n (k9 := 2) (by decide +kernel) rfl rfl
theorem o26_17 : OKp l S b Lx xs dC dI cA 26 17 (s_const (1)) := ok_iconst (n := 1) (by decide +kernel) (by decide) rfl
theorem o26_18 : OKp l S b Lx xs dC dI cA 26 18 (s_iload 5) := ok_iload (by decide +kernel) rfl
theorem o26_19 : OKp l S b Lx xs dC dI cA 26 19 (s_bin g_ishl) := ok_ishl (by decide +kernel) rfl
theorem o26_20 : OKp l S b Lx xs dC dI cA 26 20 (s_const (-1)) := ok_iconst (n := -1) (by decide +kernel) (by decide) rfl
theorem o26_21 : OKp l S b Lx xs dC dI cA 26 21 (s_bin g_ixor) := ok_ixor (by decide +kernel) rfl
theorem o26_22 : OKp l S b Lx xs dC dI cA 26 22 (s_bin g_iand) := ok_iand (by decide +kernel) rfl
theorem o26_23 : OKp l S b Lx xs dC dI cA 26 23 (s_invV (dv1 1 16 5) [] 1) := ok_invV (dv1_ok vc_RX3_13_1 rfl (by decide) (hXX 16 (by decide))) (by decide +kernel) rfl
theorem o26_24 : OKp l S b Lx xs dC dI cA 26 24 (s_invS 224 1 1) := ok_invS rfl rfl (by decide) (hXX 224 (by decide)) w_438 w_392 w_71 c_224 (by decide +kernel) (by decide +kernel) rfl
theorem o26_25 : OKp l S b Lx xs dC dI cA 26 25 (s_istore 6) := ok_istore (by decide +kernel) rfl
theorem o26_26 : OKp l S b Lx xs dC dI cA 26 26 (s_aload 0) := ok_aload_n (k9 := 0) (by decide +kernel) rfl rfl
theorem o26_27 : OKp l S b Lx xs dC dI cA 26 27 (s_iload 6) := ok_iload (by decide +kernel) rfl
theorem o26_28 : OKp l S b Lx xs dC dI cA 26 28 (s_iload 4) := ok_iload (by decide +kernel) rfl
theorem o26_29 : OKp l S b Lx xs dC dI cA 26 29 (s_invV dv_0 [] 2) := ok_invV (by intro t y ml h; unfold dv_0 at h; by_cases h0 : t = 0; (subst h0; simp at h; obtain ⟨rfl, rfl⟩ := h; exact ⟨vc_RX3_24_0, rfl, by decide, hXX 2 (by decide)⟩); by_cases h3 : t = 3; (subst h3; simp at h; obtain ⟨rfl, rfl⟩ := h; exact ⟨vc_RX3_24_3, rfl, by decide, hXX 27 (by decide)⟩); by_cases h5 : t = 5; (subst h5; simp at h; obtain ⟨rfl, rfl⟩ := h; exact ⟨vc_RX3_24_5, rfl, by decide, hXX 27 (by decide)⟩); simp [h0, h3, h5] at h) (by decide +kernel) rfl
theorem o26_30 : OKp l S b Lx xs dC dI cA 26 30 (s_if (fun x => x = 0) 35) := ok_if_eq (off := 10) (by decide +kernel) (by decide +kernel) rfl
theorem o26_31 : OKp l S b Lx xs dC dI cA 26 31 (s_iload 6) := ok_iload (by decide +kernel) rfl
theorem o26_32 : OKp l S b Lx xs dC dI cA 26 32 (s_istore 4) := ok_istore (by decide +kernel) rfl
theorem o26_33 : OKp l S b Lx xs dC dI cA 26 33 (s_iload 5) := ok_iload (by decide +kernel) rfl
theorem o26_34 : OKp l S b Lx xs dC dI cA 26 34 (s_istore 3) := ok_istore_n (k9 := 3) (by decide +kernel) rfl rfl
theorem o26_35 : OKp l S b Lx xs dC dI cA 26 35 (s_iinc 5 (1)) := ok_iinc (n := 1) (by decide +kernel) (by decide) rfl
theorem o26_36 : OKp l S b Lx xs dC dI cA 26 36 (s_goto 6) := ok_goto (off := -54) (by decide +kernel) (by decide +kernel)
theorem o26_37 : OKp l S b Lx xs dC dI cA 26 37 (s_iload 3) := ok_iload_n (k9 := 3) (by decide +kernel) rfl rfl
theorem o26_38 : OKp l S b Lx xs dC dI cA 26 38 (s_ret) := ok_ret (by decide +kernel) rfl
theorem a26 (hl9 : l.stackTraces = false) : sm_all (OKp l S b Lx xs dC dI cA 26) 0 sc_26 := ⟨o26_0, o26_1, o26_2, o26_3, o26_4, o26_5, o26_6, o26_7, o26_8, o26_9, o26_10, o26_11, o26_12, o26_13, o26_14, o26_15, o26_16, o26_17, o26_18, o26_19, o26_20, o26_21, o26_22, o26_23, o26_24, o26_25, o26_26, o26_27, o26_28, o26_29, o26_30, o26_31, o26_32, o26_33, o26_34, o26_35, o26_36, o26_37, o26_38, trivial⟩
theorem o27_0 : OKp l S b Lx xs dC dI cA 27 0 (s_iload 1) := ok_iload_n (k9 := 1) (by decide +kernel) rfl rfl
theorem o27_1 : OKp l S b Lx xs dC dI cA 27 1 (s_iload 2) := ok_iload_n (k9 := 2) (by decide +kernel) rfl rfl
theorem o27_2 : OKp l S b Lx xs dC dI cA 27 2 (s_icmp (fun x y => x ≤ y) 5) := ok_icmp_le (off := 7) (by decide +kernel) (by decide +kernel) rfl
theorem o27_3 : OKp l S b Lx xs dC dI cA 27 3 (s_const (1)) := ok_iconst (n := 1) (by decide +kernel) (by decide) rfl
theorem o27_4 : OKp l S b Lx xs dC dI cA 27 4 (s_goto 6) := ok_goto (off := 4) (by decide +kernel) (by decide +kernel)
theorem o27_5 : OKp l S b Lx xs dC dI cA 27 5 (s_const (0)) := ok_iconst (n := 0) (by decide +kernel) (by decide) rfl
theorem o27_6 : OKp l S b Lx xs dC dI cA 27 6 (s_zret) := ok_zret (by decide +kernel) rfl
theorem a27 (hl9 : l.stackTraces = false) : sm_all (OKp l S b Lx xs dC dI cA 27) 0 sc_27 := ⟨o27_0, o27_1, o27_2, o27_3, o27_4, o27_5, o27_6, trivial⟩
theorem o28_0 : OKp l S b Lx xs dC dI cA 28 0 (s_aload 0) := ok_aload_n (k9 := 0) (by decide +kernel) rfl rfl
theorem o28_1 : OKp l S b Lx xs dC dI cA 28 1 (s_invU isRd 50 0 1) := ok_invU (x := ⟨"TakesAPage$Reader", "feeOf", "()I"⟩) (owner := "TakesAPage$Reader") isRd_lt rfl rfl rfl (by decide) (hXX 50 (by decide)) w_770 w_763 w_301 (Or.inl rfl) w_761 w_63 c_50 (by decide) (by decide +kernel) (by decide +kernel) rfl
theorem o28_2 : OKp l S b Lx xs dC dI cA 28 2 (s_const (1)) := ok_iconst (n := 1) (by decide +kernel) (by decide) rfl
theorem o28_3 : OKp l S b Lx xs dC dI cA 28 3 (s_bin g_isub) := ok_isub (by decide +kernel) rfl
theorem o28_4 : OKp l S b Lx xs dC dI cA 28 4 (s_ret) := ok_ret (by decide +kernel) rfl
theorem a28 (hl9 : l.stackTraces = false) : sm_all (OKp l S b Lx xs dC dI cA 28) 0 sc_28 := ⟨o28_0, o28_1, o28_2, o28_3, o28_4, trivial⟩
theorem o29_0 : OKp l S b Lx xs dC dI cA 29 0 (s_aload 0) := ok_aload_n (k9 := 0) (by decide +kernel) rfl rfl
theorem o29_1 : OKp l S b Lx xs dC dI cA 29 1 (s_iload 1) := ok_iload_n (k9 := 1) (by decide +kernel) rfl rfl
theorem o29_2 : OKp l S b Lx xs dC dI cA 29 2 (s_invI 44 1 2) := ok_invI rfl rfl (by decide) (hXX 44 (by decide)) w_291 w_268 w_63 c_44 rfl rfl (by decide +kernel) (by decide +kernel) rfl
theorem o29_3 : OKp l S b Lx xs dC dI cA 29 3 (s_vret) := ok_vret (by decide +kernel) rfl
theorem a29 (hl9 : l.stackTraces = false) : sm_all (OKp l S b Lx xs dC dI cA 29) 0 sc_29 := ⟨o29_0, o29_1, o29_2, o29_3, trivial⟩
theorem o30_0 : OKp l S b Lx xs dC dI cA 30 0 (s_const (1)) := ok_iconst (n := 1) (by decide +kernel) (by decide) rfl
theorem o30_1 : OKp l S b Lx xs dC dI cA 30 1 (s_ret) := ok_ret (by decide +kernel) rfl
theorem a30 (hl9 : l.stackTraces = false) : sm_all (OKp l S b Lx xs dC dI cA 30) 0 sc_30 := ⟨o30_0, o30_1, trivial⟩
theorem o31_0 : OKp l S b Lx xs dC dI cA 31 0 (s_iload 2) := ok_iload_n (k9 := 2) (by decide +kernel) rfl rfl
theorem o31_1 : OKp l S b Lx xs dC dI cA 31 1 (s_invS 135 1 2) := ok_invSN rfl rfl (by decide) (hXX 135 (by decide)) w_453 w_454 w_57 c_135 (by decide +kernel) (by decide +kernel) rfl
theorem o31_2 : OKp l S b Lx xs dC dI cA 31 2 (s_ret) := ok_ret (by decide +kernel) rfl
theorem a31 (hl9 : l.stackTraces = false) : sm_all (OKp l S b Lx xs dC dI cA 31) 0 sc_31 := ⟨o31_0, o31_1, o31_2, trivial⟩
theorem o32_0 : OKp l S b Lx xs dC dI cA 32 0 (s_aload 0) := ok_aload_n (k9 := 0) (by decide +kernel) rfl rfl
theorem o32_1 : OKp l S b Lx xs dC dI cA 32 1 (s_invU isRd 50 0 1) := ok_invU (x := ⟨"TakesAPage$Reader", "feeOf", "()I"⟩) (owner := "TakesAPage$Reader") isRd_lt rfl rfl rfl (by decide) (hXX 50 (by decide)) w_779 w_763 w_293 (Or.inl rfl) w_761 w_63 c_50 (by decide) (by decide +kernel) (by decide +kernel) rfl
theorem o32_2 : OKp l S b Lx xs dC dI cA 32 2 (s_aload 0) := ok_aload_n (k9 := 0) (by decide +kernel) rfl rfl
theorem o32_3 : OKp l S b Lx xs dC dI cA 32 3 (s_getI isRd 0) := ok_getI (by decide +kernel) rfl fd_RX4_17
theorem o32_4 : OKp l S b Lx xs dC dI cA 32 4 (s_bin g_iadd) := ok_iadd (by decide +kernel) rfl
theorem o32_5 : OKp l S b Lx xs dC dI cA 32 5 (s_ret) := ok_ret (by decide +kernel) rfl
theorem a32 (hl9 : l.stackTraces = false) : sm_all (OKp l S b Lx xs dC dI cA 32) 0 sc_32 := ⟨o32_0, o32_1, o32_2, o32_3, o32_4, o32_5, trivial⟩
theorem o33_0 : OKp l S b Lx xs dC dI cA 33 0 (s_aload 0) := ok_aload_n (k9 := 0) (by decide +kernel) rfl rfl
theorem o33_1 : OKp l S b Lx xs dC dI cA 33 1 (s_iload 1) := ok_iload_n (k9 := 1) (by decide +kernel) rfl rfl
theorem o33_2 : OKp l S b Lx xs dC dI cA 33 2 (s_invI 23 1 2) := ok_invI rfl rfl (by decide) (hXX 23 (by decide)) w_339 w_297 w_65 c_23 rfl rfl (by decide +kernel) (by decide +kernel) rfl
theorem o33_3 : OKp l S b Lx xs dC dI cA 33 3 (s_vret) := ok_vret (by decide +kernel) rfl
theorem a33 (hl9 : l.stackTraces = false) : sm_all (OKp l S b Lx xs dC dI cA 33) 0 sc_33 := ⟨o33_0, o33_1, o33_2, o33_3, trivial⟩
theorem o34_0 : OKp l S b Lx xs dC dI cA 34 0 (s_const (7)) := ok_bipush (n := 7) (by decide +kernel) (by decide) rfl
theorem o34_1 : OKp l S b Lx xs dC dI cA 34 1 (s_ret) := ok_ret (by decide +kernel) rfl
theorem a34 (hl9 : l.stackTraces = false) : sm_all (OKp l S b Lx xs dC dI cA 34) 0 sc_34 := ⟨o34_0, o34_1, trivial⟩
theorem o35_0 : OKp l S b Lx xs dC dI cA 35 0 (s_iload 2) := ok_iload_n (k9 := 2) (by decide +kernel) rfl rfl
theorem o35_1 : OKp l S b Lx xs dC dI cA 35 1 (s_invS 224 1 1) := ok_invS rfl rfl (by decide) (hXX 224 (by decide)) w_459 w_392 w_71 c_224 (by decide +kernel) (by decide +kernel) rfl
theorem o35_2 : OKp l S b Lx xs dC dI cA 35 2 (s_aload 0) := ok_aload_n (k9 := 0) (by decide +kernel) rfl rfl
theorem o35_3 : OKp l S b Lx xs dC dI cA 35 3 (s_getI isRd 0) := ok_getI (by decide +kernel) rfl fd_RX5_15
theorem o35_4 : OKp l S b Lx xs dC dI cA 35 4 (s_icmp (fun x y => y < x) 7) := ok_icmp_gt (off := 8) (by decide +kernel) (by decide +kernel) rfl
theorem o35_5 : OKp l S b Lx xs dC dI cA 35 5 (s_const (-4)) := ok_bipush (n := -4) (by decide +kernel) (by decide) rfl
theorem o35_6 : OKp l S b Lx xs dC dI cA 35 6 (s_goto 11) := ok_goto (off := 9) (by decide +kernel) (by decide +kernel)
theorem o35_7 : OKp l S b Lx xs dC dI cA 35 7 (s_aload 0) := ok_aload_n (k9 := 0) (by decide +kernel) rfl rfl
theorem o35_8 : OKp l S b Lx xs dC dI cA 35 8 (s_aload 1) := ok_aload_n (k9 := 1) (by decide +kernel) rfl rfl
theorem o35_9 : OKp l S b Lx xs dC dI cA 35 9 (s_iload 2) := ok_iload_n (k9 := 2) (by decide +kernel) rfl rfl
theorem o35_10 : OKp l S b Lx xs dC dI cA 35 10 (s_invU isRd 26 2 7) := ok_invU (x := ⟨"TakesAPage$KindReader", "firstPage", "(LTakesAPage$Book;I)I"⟩) (owner := "TakesAPage$KindReader") isRd_lt rfl rfl rfl (by decide) (hXX 26 (by decide)) w_460 w_1344 w_341 (Or.inl rfl) w_435 w_65 c_26 (by decide) (by decide +kernel) (by decide +kernel) rfl
theorem o35_11 : OKp l S b Lx xs dC dI cA 35 11 (s_ret) := ok_ret (by decide +kernel) rfl
theorem a35 (hl9 : l.stackTraces = false) : sm_all (OKp l S b Lx xs dC dI cA 35) 0 sc_35 := ⟨o35_0, o35_1, o35_2, o35_3, o35_4, o35_5, o35_6, o35_7, o35_8, o35_9, o35_10, o35_11, trivial⟩
theorem o36_0 : OKp l S b Lx xs dC dI cA 36 0 (s_const (3)) := ok_iconst (n := 3) (by decide +kernel) (by decide) rfl
theorem o36_1 : OKp l S b Lx xs dC dI cA 36 1 (s_aload 0) := ok_aload_n (k9 := 0) (by decide +kernel) rfl rfl
theorem o36_2 : OKp l S b Lx xs dC dI cA 36 2 (s_invU isRd 28 0 1) := ok_invU (x := ⟨"TakesAPage$KindReader", "feeOf", "()I"⟩) (owner := "TakesAPage$KindReader") isRd_lt rfl rfl rfl (by decide) (hXX 28 (by decide)) w_783 w_1346 w_341 (Or.inl rfl) w_768 w_65 c_28 (by decide) (by decide +kernel) (by decide +kernel) rfl
theorem o36_3 : OKp l S b Lx xs dC dI cA 36 3 (s_bin g_imul) := ok_imul (by decide +kernel) rfl
theorem o36_4 : OKp l S b Lx xs dC dI cA 36 4 (s_ret) := ok_ret (by decide +kernel) rfl
theorem a36 (hl9 : l.stackTraces = false) : sm_all (OKp l S b Lx xs dC dI cA 36) 0 sc_36 := ⟨o36_0, o36_1, o36_2, o36_3, o36_4, trivial⟩
theorem o37_0 : OKp l S b Lx xs dC dI cA 37 0 (s_const (200)) := ok_sipush (n := 200) (by decide +kernel) (by decide) rfl
theorem o37_1 : OKp l S b Lx xs dC dI cA 37 1 (s_aload 0) := ok_aload_n (k9 := 0) (by decide +kernel) rfl rfl
theorem o37_2 : OKp l S b Lx xs dC dI cA 37 2 (s_invV (dv1 5 36 1) [] 0) := ok_invV (dv1_ok vc_RX5_29_5 rfl (by decide) (hXX 36 (by decide))) (by decide +kernel) rfl
theorem o37_3 : OKp l S b Lx xs dC dI cA 37 3 (s_bin g_iadd) := ok_iadd (by decide +kernel) rfl
theorem o37_4 : OKp l S b Lx xs dC dI cA 37 4 (s_ret) := ok_ret (by decide +kernel) rfl
theorem a37 (hl9 : l.stackTraces = false) : sm_all (OKp l S b Lx xs dC dI cA 37) 0 sc_37 := ⟨o37_0, o37_1, o37_2, o37_3, o37_4, trivial⟩
theorem o38_0 : OKp l S b Lx xs dC dI cA 38 0 (s_aload 0) := ok_aload_n (k9 := 0) (by decide +kernel) rfl rfl
theorem o38_1 : OKp l S b Lx xs dC dI cA 38 1 (s_iload 1) := ok_iload_n (k9 := 1) (by decide +kernel) rfl rfl
theorem o38_2 : OKp l S b Lx xs dC dI cA 38 2 (s_invI 29 1 2) := ok_invI rfl rfl (by decide) (hXX 29 (by decide)) w_307 w_289 w_64 c_29 rfl rfl (by decide +kernel) (by decide +kernel) rfl
theorem o38_3 : OKp l S b Lx xs dC dI cA 38 3 (s_vret) := ok_vret (by decide +kernel) rfl
theorem a38 (hl9 : l.stackTraces = false) : sm_all (OKp l S b Lx xs dC dI cA 38) 0 sc_38 := ⟨o38_0, o38_1, o38_2, o38_3, trivial⟩
theorem o39_0 : OKp l S b Lx xs dC dI cA 39 0 (s_const (3)) := ok_iconst (n := 3) (by decide +kernel) (by decide) rfl
theorem o39_1 : OKp l S b Lx xs dC dI cA 39 1 (s_ret) := ok_ret (by decide +kernel) rfl
theorem a39 (hl9 : l.stackTraces = false) : sm_all (OKp l S b Lx xs dC dI cA 39) 0 sc_39 := ⟨o39_0, o39_1, trivial⟩
theorem o40_0 : OKp l S b Lx xs dC dI cA 40 0 (s_aload 1) := ok_aload_n (k9 := 1) (by decide +kernel) rfl rfl
theorem o40_1 : OKp l S b Lx xs dC dI cA 40 1 (s_aload 0) := ok_aload_n (k9 := 0) (by decide +kernel) rfl rfl
theorem o40_2 : OKp l S b Lx xs dC dI cA 40 2 (s_getI isRd 0) := ok_getI (by decide +kernel) rfl fd_RX6_7
theorem o40_3 : OKp l S b Lx xs dC dI cA 40 3 (s_invV (dv1 1 17 2) [] 1) := ok_invV (dv1_ok vc_RX6_13_1 rfl (by decide) (hXX 17 (by decide))) (by decide +kernel) rfl
theorem o40_4 : OKp l S b Lx xs dC dI cA 40 4 (s_istore 3) := ok_istore_n (k9 := 3) (by decide +kernel) rfl rfl
theorem o40_5 : OKp l S b Lx xs dC dI cA 40 5 (s_iload 3) := ok_iload_n (k9 := 3) (by decide +kernel) rfl rfl
theorem o40_6 : OKp l S b Lx xs dC dI cA 40 6 (s_if (fun x => x < 0) 17) := ok_if_lt (off := 19) (by decide +kernel) (by decide +kernel) rfl
theorem o40_7 : OKp l S b Lx xs dC dI cA 40 7 (s_aload 1) := ok_aload_n (k9 := 1) (by decide +kernel) rfl rfl
theorem o40_8 : OKp l S b Lx xs dC dI cA 40 8 (s_iload 2) := ok_iload_n (k9 := 2) (by decide +kernel) rfl rfl
theorem o40_9 : OKp l S b Lx xs dC dI cA 40 9 (s_invV (dv1 1 16 5) [] 1) := ok_invV (dv1_ok vc_RX6_19_1 rfl (by decide) (hXX 16 (by decide))) (by decide +kernel) rfl
theorem o40_10 : OKp l S b Lx xs dC dI cA 40 10 (s_iload 3) := ok_iload_n (k9 := 3) (by decide +kernel) rfl rfl
theorem o40_11 : OKp l S b Lx xs dC dI cA 40 11 (s_bin g_ishr) := ok_ishr (by decide +kernel) rfl
theorem o40_12 : OKp l S b Lx xs dC dI cA 40 12 (s_const (1)) := ok_iconst (n := 1) (by decide +kernel) (by decide) rfl
theorem o40_13 : OKp l S b Lx xs dC dI cA 40 13 (s_bin g_iand) := ok_iand (by decide +kernel) rfl
theorem o40_14 : OKp l S b Lx xs dC dI cA 40 14 (s_if (fun x => x = 0) 17) := ok_if_eq (off := 7) (by decide +kernel) (by decide +kernel) rfl
theorem o40_15 : OKp l S b Lx xs dC dI cA 40 15 (s_const (1)) := ok_iconst (n := 1) (by decide +kernel) (by decide) rfl
theorem o40_16 : OKp l S b Lx xs dC dI cA 40 16 (s_goto 18) := ok_goto (off := 4) (by decide +kernel) (by decide +kernel)
theorem o40_17 : OKp l S b Lx xs dC dI cA 40 17 (s_const (0)) := ok_iconst (n := 0) (by decide +kernel) (by decide) rfl
theorem o40_18 : OKp l S b Lx xs dC dI cA 40 18 (s_istore 4) := ok_istore (by decide +kernel) rfl
theorem o40_19 : OKp l S b Lx xs dC dI cA 40 19 (s_aload 0) := ok_aload_n (k9 := 0) (by decide +kernel) rfl rfl
theorem o40_20 : OKp l S b Lx xs dC dI cA 40 20 (s_aload 1) := ok_aload_n (k9 := 1) (by decide +kernel) rfl rfl
theorem o40_21 : OKp l S b Lx xs dC dI cA 40 21 (s_iload 2) := ok_iload_n (k9 := 2) (by decide +kernel) rfl rfl
theorem o40_22 : OKp l S b Lx xs dC dI cA 40 22 (s_invU isRd 47 2 3) := ok_invU (x := ⟨"TakesAPage$LastReader", "worthOf", "(LTakesAPage$Book;I)I"⟩) (owner := "TakesAPage$Reader") isRd_lt rfl rfl rfl (by decide) (hXX 47 (by decide)) w_382 w_383 w_309 (Or.inr w_293) w_363 w_63 c_47 (by decide) (by decide +kernel) (by decide +kernel) rfl
theorem o40_23 : OKp l S b Lx xs dC dI cA 40 23 (s_iload 4) := ok_iload (by decide +kernel) rfl
theorem o40_24 : OKp l S b Lx xs dC dI cA 40 24 (s_if (fun x => x = 0) 28) := ok_if_eq (off := 10) (by decide +kernel) (by decide +kernel) rfl
theorem o40_25 : OKp l S b Lx xs dC dI cA 40 25 (s_aload 0) := ok_aload_n (k9 := 0) (by decide +kernel) rfl rfl
theorem o40_26 : OKp l S b Lx xs dC dI cA 40 26 (s_getI isRd 0) := ok_getI (by decide +kernel) rfl fd_RX6_7
theorem o40_27 : OKp l S b Lx xs dC dI cA 40 27 (s_goto 29) := ok_goto (off := 4) (by decide +kernel) (by decide +kernel)
theorem o40_28 : OKp l S b Lx xs dC dI cA 40 28 (s_const (0)) := ok_iconst (n := 0) (by decide +kernel) (by decide) rfl
theorem o40_29 : OKp l S b Lx xs dC dI cA 40 29 (s_bin g_iadd) := ok_iadd (by decide +kernel) rfl
theorem o40_30 : OKp l S b Lx xs dC dI cA 40 30 (s_ret) := ok_ret (by decide +kernel) rfl
theorem a40 (hl9 : l.stackTraces = false) : sm_all (OKp l S b Lx xs dC dI cA 40) 0 sc_40 := ⟨o40_0, o40_1, o40_2, o40_3, o40_4, o40_5, o40_6, o40_7, o40_8, o40_9, o40_10, o40_11, o40_12, o40_13, o40_14, o40_15, o40_16, o40_17, o40_18, o40_19, o40_20, o40_21, o40_22, o40_23, o40_24, o40_25, o40_26, o40_27, o40_28, o40_29, o40_30, trivial⟩
theorem o41_0 : OKp l S b Lx xs dC dI cA 41 0 (s_aload 1) := ok_aload_n (k9 := 1) (by decide +kernel) rfl rfl
theorem o41_1 : OKp l S b Lx xs dC dI cA 41 1 (s_aload 0) := ok_aload_n (k9 := 0) (by decide +kernel) rfl rfl
theorem o41_2 : OKp l S b Lx xs dC dI cA 41 2 (s_getI isRd 0) := ok_getI (by decide +kernel) rfl fd_RX6_7
theorem o41_3 : OKp l S b Lx xs dC dI cA 41 3 (s_invV (dv1 1 17 2) [] 1) := ok_invV (dv1_ok vc_RX6_13_1 rfl (by decide) (hXX 17 (by decide))) (by decide +kernel) rfl
theorem o41_4 : OKp l S b Lx xs dC dI cA 41 4 (s_istore 3) := ok_istore_n (k9 := 3) (by decide +kernel) rfl rfl
theorem o41_5 : OKp l S b Lx xs dC dI cA 41 5 (s_iload 3) := ok_iload_n (k9 := 3) (by decide +kernel) rfl rfl
theorem o41_6 : OKp l S b Lx xs dC dI cA 41 6 (s_if (fun x => x < 0) 15) := ok_if_lt (off := 15) (by decide +kernel) (by decide +kernel) rfl
theorem o41_7 : OKp l S b Lx xs dC dI cA 41 7 (s_iload 2) := ok_iload_n (k9 := 2) (by decide +kernel) rfl rfl
theorem o41_8 : OKp l S b Lx xs dC dI cA 41 8 (s_iload 3) := ok_iload_n (k9 := 3) (by decide +kernel) rfl rfl
theorem o41_9 : OKp l S b Lx xs dC dI cA 41 9 (s_bin g_ishr) := ok_ishr (by decide +kernel) rfl
theorem o41_10 : OKp l S b Lx xs dC dI cA 41 10 (s_const (1)) := ok_iconst (n := 1) (by decide +kernel) (by decide) rfl
theorem o41_11 : OKp l S b Lx xs dC dI cA 41 11 (s_bin g_iand) := ok_iand (by decide +kernel) rfl
theorem o41_12 : OKp l S b Lx xs dC dI cA 41 12 (s_if (fun x => x = 0) 15) := ok_if_eq (off := 7) (by decide +kernel) (by decide +kernel) rfl
theorem o41_13 : OKp l S b Lx xs dC dI cA 41 13 (s_iload 3) := ok_iload_n (k9 := 3) (by decide +kernel) rfl rfl
theorem o41_14 : OKp l S b Lx xs dC dI cA 41 14 (s_goto 19) := ok_goto (off := 9) (by decide +kernel) (by decide +kernel)
theorem o41_15 : OKp l S b Lx xs dC dI cA 41 15 (s_aload 0) := ok_aload_n (k9 := 0) (by decide +kernel) rfl rfl
theorem o41_16 : OKp l S b Lx xs dC dI cA 41 16 (s_aload 1) := ok_aload_n (k9 := 1) (by decide +kernel) rfl rfl
theorem o41_17 : OKp l S b Lx xs dC dI cA 41 17 (s_iload 2) := ok_iload_n (k9 := 2) (by decide +kernel) rfl rfl
theorem o41_18 : OKp l S b Lx xs dC dI cA 41 18 (s_invU isRd 31 2 3) := ok_invU (x := ⟨"TakesAPage$LastReader", "firstPage", "(LTakesAPage$Book;I)I"⟩) (owner := "TakesAPage$LastReader") isRd_lt rfl rfl rfl (by decide) (hXX 31 (by decide)) w_464 w_1345 w_309 (Or.inl rfl) w_451 w_64 c_31 (by decide) (by decide +kernel) (by decide +kernel) rfl
theorem o41_19 : OKp l S b Lx xs dC dI cA 41 19 (s_ret) := ok_ret (by decide +kernel) rfl
theorem a41 (hl9 : l.stackTraces = false) : sm_all (OKp l S b Lx xs dC dI cA 41) 0 sc_41 := ⟨o41_0, o41_1, o41_2, o41_3, o41_4, o41_5, o41_6, o41_7, o41_8, o41_9, o41_10, o41_11, o41_12, o41_13, o41_14, o41_15, o41_16, o41_17, o41_18, o41_19, trivial⟩
theorem o42_0 : OKp l S b Lx xs dC dI cA 42 0 (s_const (2)) := ok_iconst (n := 2) (by decide +kernel) (by decide) rfl
theorem o42_1 : OKp l S b Lx xs dC dI cA 42 1 (s_aload 0) := ok_aload_n (k9 := 0) (by decide +kernel) rfl rfl
theorem o42_2 : OKp l S b Lx xs dC dI cA 42 2 (s_invU isRd 32 0 1) := ok_invU (x := ⟨"TakesAPage$LastReader", "feeOf", "()I"⟩) (owner := "TakesAPage$LastReader") isRd_lt rfl rfl rfl (by decide) (hXX 32 (by decide)) w_787 w_1347 w_309 (Or.inl rfl) w_777 w_64 c_32 (by decide) (by decide +kernel) (by decide +kernel) rfl
theorem o42_3 : OKp l S b Lx xs dC dI cA 42 3 (s_bin g_imul) := ok_imul (by decide +kernel) rfl
theorem o42_4 : OKp l S b Lx xs dC dI cA 42 4 (s_ret) := ok_ret (by decide +kernel) rfl
theorem a42 (hl9 : l.stackTraces = false) : sm_all (OKp l S b Lx xs dC dI cA 42) 0 sc_42 := ⟨o42_0, o42_1, o42_2, o42_3, o42_4, trivial⟩
theorem o43_0 : OKp l S b Lx xs dC dI cA 43 0 (s_aload 0) := ok_aload_n (k9 := 0) (by decide +kernel) rfl rfl
theorem o43_1 : OKp l S b Lx xs dC dI cA 43 1 (s_invU isRd 52 0 1) := ok_invU (x := ⟨"TakesAPage$LastReader", "failureNumber", "()I"⟩) (owner := "TakesAPage$Reader") isRd_lt rfl rfl rfl (by decide) (hXX 52 (by decide)) w_894 w_895 w_309 (Or.inr w_293) w_880 w_63 c_52 (by decide) (by decide +kernel) (by decide +kernel) rfl
theorem o43_2 : OKp l S b Lx xs dC dI cA 43 2 (s_const (100)) := ok_bipush (n := 100) (by decide +kernel) (by decide) rfl
theorem o43_3 : OKp l S b Lx xs dC dI cA 43 3 (s_bin g_iadd) := ok_iadd (by decide +kernel) rfl
theorem o43_4 : OKp l S b Lx xs dC dI cA 43 4 (s_ret) := ok_ret (by decide +kernel) rfl
theorem a43 (hl9 : l.stackTraces = false) : sm_all (OKp l S b Lx xs dC dI cA 43) 0 sc_43 := ⟨o43_0, o43_1, o43_2, o43_3, o43_4, trivial⟩
theorem o44_0 : OKp l S b Lx xs dC dI cA 44 0 (s_aload 0) := ok_aload_n (k9 := 0) (by decide +kernel) rfl rfl
theorem o44_1 : OKp l S b Lx xs dC dI cA 44 1 (s_objInit) := ok_objInit w_270 w_84 wobj (by decide +kernel) rfl
theorem o44_2 : OKp l S b Lx xs dC dI cA 44 2 (s_aload 0) := ok_aload_n (k9 := 0) (by decide +kernel) rfl rfl
theorem o44_3 : OKp l S b Lx xs dC dI cA 44 3 (s_iload 1) := ok_iload_n (k9 := 1) (by decide +kernel) rfl rfl
theorem o44_4 : OKp l S b Lx xs dC dI cA 44 4 (s_putIR 0) := ok_putIFR (by decide +kernel) rfl rfl fp_RX7_7R
theorem o44_5 : OKp l S b Lx xs dC dI cA 44 5 (s_vret) := ok_vret (by decide +kernel) rfl
theorem a44 (hl9 : l.stackTraces = false) : sm_all (OKp l S b Lx xs dC dI cA 44) 0 sc_44 := ⟨o44_0, o44_1, o44_2, o44_3, o44_4, o44_5, trivial⟩
theorem o45_0 : OKp l S b Lx xs dC dI cA 45 0 (s_const (0)) := ok_iconst (n := 0) (by decide +kernel) (by decide) rfl
theorem o45_1 : OKp l S b Lx xs dC dI cA 45 1 (s_ret) := ok_ret (by decide +kernel) rfl
theorem a45 (hl9 : l.stackTraces = false) : sm_all (OKp l S b Lx xs dC dI cA 45) 0 sc_45 := ⟨o45_0, o45_1, trivial⟩
theorem o46_0 : OKp l S b Lx xs dC dI cA 46 0 (s_const (1)) := ok_iconst (n := 1) (by decide +kernel) (by decide) rfl
theorem o46_1 : OKp l S b Lx xs dC dI cA 46 1 (s_ret) := ok_ret (by decide +kernel) rfl
theorem a46 (hl9 : l.stackTraces = false) : sm_all (OKp l S b Lx xs dC dI cA 46) 0 sc_46 := ⟨o46_0, o46_1, trivial⟩
theorem o47_0 : OKp l S b Lx xs dC dI cA 47 0 (s_aload 1) := ok_aload_n (k9 := 1) (by decide +kernel) rfl rfl
theorem o47_1 : OKp l S b Lx xs dC dI cA 47 1 (s_iload 2) := ok_iload_n (k9 := 2) (by decide +kernel) rfl rfl
theorem o47_2 : OKp l S b Lx xs dC dI cA 47 2 (s_invV (dv1 1 16 5) [] 1) := ok_invV (dv1_ok vc_RX7_13_1 rfl (by decide) (hXX 16 (by decide))) (by decide +kernel) rfl
theorem o47_3 : OKp l S b Lx xs dC dI cA 47 3 (s_invS 224 1 1) := ok_invS rfl rfl (by decide) (hXX 224 (by decide)) w_391 w_392 w_71 c_224 (by decide +kernel) (by decide +kernel) rfl
theorem o47_4 : OKp l S b Lx xs dC dI cA 47 4 (s_aload 0) := ok_aload_n (k9 := 0) (by decide +kernel) rfl rfl
theorem o47_5 : OKp l S b Lx xs dC dI cA 47 5 (s_invV dv_1 [] 0) := ok_invV (by intro t y ml h; unfold dv_1 at h; by_cases h0 : t = 0; (subst h0; simp at h; obtain ⟨rfl, rfl⟩ := h; exact ⟨vc_RX7_24_0, rfl, by decide, hXX 25 (by decide)⟩); by_cases h2 : t = 2; (subst h2; simp at h; obtain ⟨rfl, rfl⟩ := h; exact ⟨vc_RX7_24_2, rfl, by decide, hXX 20 (by decide)⟩); by_cases h3 : t = 3; (subst h3; simp at h; obtain ⟨rfl, rfl⟩ := h; exact ⟨vc_RX7_24_3, rfl, by decide, hXX 25 (by decide)⟩); by_cases h4 : t = 4; (subst h4; simp at h; obtain ⟨rfl, rfl⟩ := h; exact ⟨vc_RX7_24_4, rfl, by decide, hXX 46 (by decide)⟩); by_cases h5 : t = 5; (subst h5; simp at h; obtain ⟨rfl, rfl⟩ := h; exact ⟨vc_RX7_24_5, rfl, by decide, hXX 25 (by decide)⟩); by_cases h6 : t = 6; (subst h6; simp at h; obtain ⟨rfl, rfl⟩ := h; exact ⟨vc_RX7_24_6, rfl, by decide, hXX 46 (by decide)⟩); by_cases h7 : t = 7; (subst h7; simp at h; obtain ⟨rfl, rfl⟩ := h; exact ⟨vc_RX7_24_7, rfl, by decide, hXX 46 (by decide)⟩); by_cases h9 : t = 9; (subst h9; simp at h; obtain ⟨rfl, rfl⟩ := h; exact ⟨vc_RX7_24_9, rfl, by decide, hXX 46 (by decide)⟩); simp [h0, h2, h3, h4, h5, h6, h7, h9] at h) (by decide +kernel) rfl
theorem o47_6 : OKp l S b Lx xs dC dI cA 47 6 (s_bin g_imul) := ok_imul (by decide +kernel) rfl
theorem o47_7 : OKp l S b Lx xs dC dI cA 47 7 (s_ret) := ok_ret (by decide +kernel) rfl
theorem a47 (hl9 : l.stackTraces = false) : sm_all (OKp l S b Lx xs dC dI cA 47) 0 sc_47 := ⟨o47_0, o47_1, o47_2, o47_3, o47_4, o47_5, o47_6, o47_7, trivial⟩
theorem o48_0 : OKp l S b Lx xs dC dI cA 48 0 (s_iload 2) := ok_iload_n (k9 := 2) (by decide +kernel) rfl rfl
theorem o48_1 : OKp l S b Lx xs dC dI cA 48 1 (s_invS 134 1 2) := ok_invSN rfl rfl (by decide) (hXX 134 (by decide)) w_470 w_471 w_57 c_134 (by decide +kernel) (by decide +kernel) rfl
theorem o48_2 : OKp l S b Lx xs dC dI cA 48 2 (s_ret) := ok_ret (by decide +kernel) rfl
theorem a48 (hl9 : l.stackTraces = false) : sm_all (OKp l S b Lx xs dC dI cA 48) 0 sc_48 := ⟨o48_0, o48_1, o48_2, trivial⟩
theorem o49_0 : OKp l S b Lx xs dC dI cA 49 0 (s_aload 0) := ok_aload_n (k9 := 0) (by decide +kernel) rfl rfl
theorem o49_1 : OKp l S b Lx xs dC dI cA 49 1 (s_aload 1) := ok_aload_n (k9 := 1) (by decide +kernel) rfl rfl
theorem o49_2 : OKp l S b Lx xs dC dI cA 49 2 (s_iload 2) := ok_iload_n (k9 := 2) (by decide +kernel) rfl rfl
theorem o49_3 : OKp l S b Lx xs dC dI cA 49 3 (s_invV dv_2 [] 2) := ok_invV (by intro t y ml h; unfold dv_2 at h; by_cases h0 : t = 0; (subst h0; simp at h; obtain ⟨rfl, rfl⟩ := h; exact ⟨vc_RX7_33_0, rfl, by decide, hXX 26 (by decide)⟩); by_cases h2 : t = 2; (subst h2; simp at h; obtain ⟨rfl, rfl⟩ := h; exact ⟨vc_RX7_33_2, rfl, by decide, hXX 48 (by decide)⟩); by_cases h3 : t = 3; (subst h3; simp at h; obtain ⟨rfl, rfl⟩ := h; exact ⟨vc_RX7_33_3, rfl, by decide, hXX 26 (by decide)⟩); by_cases h4 : t = 4; (subst h4; simp at h; obtain ⟨rfl, rfl⟩ := h; exact ⟨vc_RX7_33_4, rfl, by decide, hXX 31 (by decide)⟩); by_cases h5 : t = 5; (subst h5; simp at h; obtain ⟨rfl, rfl⟩ := h; exact ⟨vc_RX7_33_5, rfl, by decide, hXX 35 (by decide)⟩); by_cases h6 : t = 6; (subst h6; simp at h; obtain ⟨rfl, rfl⟩ := h; exact ⟨vc_RX7_33_6, rfl, by decide, hXX 41 (by decide)⟩); by_cases h7 : t = 7; (subst h7; simp at h; obtain ⟨rfl, rfl⟩ := h; exact ⟨vc_RX7_33_7, rfl, by decide, hXX 48 (by decide)⟩); by_cases h9 : t = 9; (subst h9; simp at h; obtain ⟨rfl, rfl⟩ := h; exact ⟨vc_RX7_33_9, rfl, by decide, hXX 62 (by decide)⟩); simp [h0, h2, h3, h4, h5, h6, h7, h9] at h) (by decide +kernel) rfl
theorem o49_4 : OKp l S b Lx xs dC dI cA 49 4 (s_istore 3) := ok_istore_n (k9 := 3) (by decide +kernel) rfl rfl
theorem o49_5 : OKp l S b Lx xs dC dI cA 49 5 (s_iload 3) := ok_iload_n (k9 := 3) (by decide +kernel) rfl rfl
theorem o49_6 : OKp l S b Lx xs dC dI cA 49 6 (s_if (fun x => 0 ≤ x) 9) := ok_if_ge (off := 7) (by decide +kernel) (by decide +kernel) rfl
theorem o49_7 : OKp l S b Lx xs dC dI cA 49 7 (s_const (0)) := ok_iconst (n := 0) (by decide +kernel) (by decide) rfl
theorem o49_8 : OKp l S b Lx xs dC dI cA 49 8 (s_goto 12) := ok_goto (off := 6) (by decide +kernel) (by decide +kernel)
theorem o49_9 : OKp l S b Lx xs dC dI cA 49 9 (s_const (1)) := ok_iconst (n := 1) (by decide +kernel) (by decide) rfl
theorem o49_10 : OKp l S b Lx xs dC dI cA 49 10 (s_iload 3) := ok_iload_n (k9 := 3) (by decide +kernel) rfl rfl
theorem o49_11 : OKp l S b Lx xs dC dI cA 49 11 (s_bin g_ishl) := ok_ishl (by decide +kernel) rfl
theorem o49_12 : OKp l S b Lx xs dC dI cA 49 12 (s_ret) := ok_ret (by decide +kernel) rfl
theorem a49 (hl9 : l.stackTraces = false) : sm_all (OKp l S b Lx xs dC dI cA 49) 0 sc_49 := ⟨o49_0, o49_1, o49_2, o49_3, o49_4, o49_5, o49_6, o49_7, o49_8, o49_9, o49_10, o49_11, o49_12, trivial⟩
theorem o50_0 : OKp l S b Lx xs dC dI cA 50 0 (s_const (3)) := ok_iconst (n := 3) (by decide +kernel) (by decide) rfl
theorem o50_1 : OKp l S b Lx xs dC dI cA 50 1 (s_ret) := ok_ret (by decide +kernel) rfl
theorem a50 (hl9 : l.stackTraces = false) : sm_all (OKp l S b Lx xs dC dI cA 50) 0 sc_50 := ⟨o50_0, o50_1, trivial⟩
theorem o51_0 : OKp l S b Lx xs dC dI cA 51 0 (s_aload 0) := ok_aload_n (k9 := 0) (by decide +kernel) rfl rfl
theorem o51_1 : OKp l S b Lx xs dC dI cA 51 1 (s_getI isRd 0) := ok_getI (by decide +kernel) rfl fd_RX7_7
theorem o51_2 : OKp l S b Lx xs dC dI cA 51 2 (s_if (fun x => x = 0) 8) := ok_if_eq (off := 13) (by decide +kernel) (by decide +kernel) rfl
theorem o51_3 (hl9 : l.stackTraces = false) : OKp l S b Lx xs dC dI cA 51 3 (s_throw 0) := ok_throw (names := ["java/lang/RuntimeException", "java/lang/Exception"]) (ik := 37) (is := 39) (ic := 41) hl9 (fun s hZ => hZ.2.2.1) (by decide +kernel) (by decide +kernel) (by decide) rfl (by decide) w_812 w_77 at_RX7_41 (by decide +kernel) (by decide +kernel) (by decide +kernel) (by decide +kernel) (by decide +kernel) (by decide +kernel)
theorem o51_4 : OKp l S b Lx xs dC dI cA 51 4 (s_stuck) := ok_stuck
theorem o51_5 : OKp l S b Lx xs dC dI cA 51 5 (s_stuck) := ok_stuck
theorem o51_6 : OKp l S b Lx xs dC dI cA 51 6 (s_stuck) := ok_stuck
theorem o51_7 : OKp l S b Lx xs dC dI cA 51 7 (s_stuck) := ok_stuck
theorem o51_8 : OKp l S b Lx xs dC dI cA 51 8 (s_vret) := ok_vret (by decide +kernel) rfl
theorem a51 (hl9 : l.stackTraces = false) : sm_all (OKp l S b Lx xs dC dI cA 51) 0 sc_51 := ⟨o51_0, o51_1, o51_2, o51_3 hl9, o51_4, o51_5, o51_6, o51_7, o51_8, trivial⟩
theorem o52_0 : OKp l S b Lx xs dC dI cA 52 0 (s_aload 0) := ok_aload_n (k9 := 0) (by decide +kernel) rfl rfl
theorem o52_1 : OKp l S b Lx xs dC dI cA 52 1 (s_getI isRd 0) := ok_getI (by decide +kernel) rfl fd_RX7_7
theorem o52_2 : OKp l S b Lx xs dC dI cA 52 2 (s_ret) := ok_ret (by decide +kernel) rfl
theorem a52 (hl9 : l.stackTraces = false) : sm_all (OKp l S b Lx xs dC dI cA 52) 0 sc_52 := ⟨o52_0, o52_1, o52_2, trivial⟩
theorem o53_0 : OKp l S b Lx xs dC dI cA 53 0 (s_aload 0) := ok_aload_n (k9 := 0) (by decide +kernel) rfl rfl
theorem o53_1 : OKp l S b Lx xs dC dI cA 53 1 (s_objInit) := ok_objInit w_144 w_84 wobj (by decide +kernel) rfl
theorem o53_2 : OKp l S b Lx xs dC dI cA 53 2 (s_aload 0) := ok_aload_n (k9 := 0) (by decide +kernel) rfl rfl
theorem o53_3 : OKp l S b Lx xs dC dI cA 53 3 (s_null) := ok_null (by decide +kernel) rfl
theorem o53_4 : OKp l S b Lx xs dC dI cA 53 4 (s_putR 8 0) := ok_putR (ty := (.object "TakesAPage$Reader")) (fun v => by cases v <;> exact ⟨rfl, rfl⟩) (by decide +kernel) rfl fp_RX8_9 rfl
theorem o53_5 : OKp l S b Lx xs dC dI cA 53 5 (s_aload 0) := ok_aload_n (k9 := 0) (by decide +kernel) rfl rfl
theorem o53_6 : OKp l S b Lx xs dC dI cA 53 6 (s_const (0)) := ok_iconst (n := 0) (by decide +kernel) (by decide) rfl
theorem o53_7 : OKp l S b Lx xs dC dI cA 53 7 (s_putZ 8 1) := ok_putZ (by decide +kernel) rfl fp_RX8_15 rfl
theorem o53_8 : OKp l S b Lx xs dC dI cA 53 8 (s_aload 0) := ok_aload_n (k9 := 0) (by decide +kernel) rfl rfl
theorem o53_9 : OKp l S b Lx xs dC dI cA 53 9 (s_const (0)) := ok_iconst (n := 0) (by decide +kernel) (by decide) rfl
theorem o53_10 : OKp l S b Lx xs dC dI cA 53 10 (s_putI 8 2) := ok_putI (by decide +kernel) rfl fp_RX8_19 rfl
theorem o53_11 : OKp l S b Lx xs dC dI cA 53 11 (s_aload 0) := ok_aload_n (k9 := 0) (by decide +kernel) rfl rfl
theorem o53_12 : OKp l S b Lx xs dC dI cA 53 12 (s_const (0)) := ok_iconst (n := 0) (by decide +kernel) (by decide) rfl
theorem o53_13 : OKp l S b Lx xs dC dI cA 53 13 (s_putI 8 3) := ok_putI (by decide +kernel) rfl fp_RX8_23 rfl
theorem o53_14 : OKp l S b Lx xs dC dI cA 53 14 (s_aload 0) := ok_aload_n (k9 := 0) (by decide +kernel) rfl rfl
theorem o53_15 : OKp l S b Lx xs dC dI cA 53 15 (s_const (100)) := ok_bipush (n := 100) (by decide +kernel) (by decide) rfl
theorem o53_16 : OKp l S b Lx xs dC dI cA 53 16 (s_newarr 50) := ok_newarr_i w_118 (by decide +kernel) rfl
theorem o53_17 : OKp l S b Lx xs dC dI cA 53 17 (s_putR 8 4) := ok_putRF (ty := (.array .int)) (fun v => by cases v <;> exact ⟨rfl, rfl⟩) (by decide +kernel) rfl rfl fp_RX8_26 rfl
theorem o53_18 : OKp l S b Lx xs dC dI cA 53 18 (s_vret) := ok_vret (by decide +kernel) rfl
theorem a53 (hl9 : l.stackTraces = false) : sm_all (OKp l S b Lx xs dC dI cA 53) 0 sc_53 := ⟨o53_0, o53_1, o53_2, o53_3, o53_4, o53_5, o53_6, o53_7, o53_8, o53_9, o53_10, o53_11, o53_12, o53_13, o53_14, o53_15, o53_16, o53_17, o53_18, trivial⟩
theorem o54_0 : OKp l S b Lx xs dC dI cA 54 0 (s_aload 0) := ok_aload_n (k9 := 0) (by decide +kernel) rfl rfl
theorem o54_1 : OKp l S b Lx xs dC dI cA 54 1 (s_getI (fun t => t == 8) 1) := ok_getI (by decide +kernel) rfl fd_RX8_15
theorem o54_2 : OKp l S b Lx xs dC dI cA 54 2 (s_if (fun x => x ≠ 0) 8) := ok_if_ne (off := 14) (by decide +kernel) (by decide +kernel) rfl
theorem o54_3 : OKp l S b Lx xs dC dI cA 54 3 (s_aload 0) := ok_aload_n (k9 := 0) (by decide +kernel) rfl rfl
theorem o54_4 : OKp l S b Lx xs dC dI cA 54 4 (s_getR (fun t => t == 8) 0) := ok_getR (by decide +kernel) rfl fd_RX8_9
theorem o54_5 : OKp l S b Lx xs dC dI cA 54 5 (s_ifnonnull 8) := ok_ifnonnull (off := 7) (by decide +kernel) (by decide +kernel) rfl
theorem o54_6 : OKp l S b Lx xs dC dI cA 54 6 (s_const (1)) := ok_iconst (n := 1) (by decide +kernel) (by decide) rfl
theorem o54_7 : OKp l S b Lx xs dC dI cA 54 7 (s_goto 9) := ok_goto (off := 4) (by decide +kernel) (by decide +kernel)
theorem o54_8 : OKp l S b Lx xs dC dI cA 54 8 (s_const (0)) := ok_iconst (n := 0) (by decide +kernel) (by decide) rfl
theorem o54_9 : OKp l S b Lx xs dC dI cA 54 9 (s_zret) := ok_zret (by decide +kernel) rfl
theorem a54 (hl9 : l.stackTraces = false) : sm_all (OKp l S b Lx xs dC dI cA 54) 0 sc_54 := ⟨o54_0, o54_1, o54_2, o54_3, o54_4, o54_5, o54_6, o54_7, o54_8, o54_9, trivial⟩
theorem o55_0 : OKp l S b Lx xs dC dI cA 55 0 (s_aload 0) := ok_aload_n (k9 := 0) (by decide +kernel) rfl rfl
theorem o55_1 : OKp l S b Lx xs dC dI cA 55 1 (s_aload 1) := ok_aload_n (k9 := 1) (by decide +kernel) rfl rfl
theorem o55_2 : OKp l S b Lx xs dC dI cA 55 2 (s_putR 8 0) := ok_putR (ty := (.object "TakesAPage$Reader")) (fun v => by cases v <;> exact ⟨rfl, rfl⟩) (by decide +kernel) rfl fp_RX8_9 rfl
theorem o55_3 : OKp l S b Lx xs dC dI cA 55 3 (s_aload 0) := ok_aload_n (k9 := 0) (by decide +kernel) rfl rfl
theorem o55_4 : OKp l S b Lx xs dC dI cA 55 4 (s_const (0)) := ok_iconst (n := 0) (by decide +kernel) (by decide) rfl
theorem o55_5 : OKp l S b Lx xs dC dI cA 55 5 (s_putZ 8 1) := ok_putZ (by decide +kernel) rfl fp_RX8_15 rfl
theorem o55_6 : OKp l S b Lx xs dC dI cA 55 6 (s_aload 0) := ok_aload_n (k9 := 0) (by decide +kernel) rfl rfl
theorem o55_7 : OKp l S b Lx xs dC dI cA 55 7 (s_const (0)) := ok_iconst (n := 0) (by decide +kernel) (by decide) rfl
theorem o55_8 : OKp l S b Lx xs dC dI cA 55 8 (s_putI 8 3) := ok_putI (by decide +kernel) rfl fp_RX8_23 rfl
theorem o55_9 : OKp l S b Lx xs dC dI cA 55 9 (s_vret) := ok_vret (by decide +kernel) rfl
theorem a55 (hl9 : l.stackTraces = false) : sm_all (OKp l S b Lx xs dC dI cA 55) 0 sc_55 := ⟨o55_0, o55_1, o55_2, o55_3, o55_4, o55_5, o55_6, o55_7, o55_8, o55_9, trivial⟩
theorem o56_0 : OKp l S b Lx xs dC dI cA 56 0 (s_aload 0) := ok_aload_n (k9 := 0) (by decide +kernel) rfl rfl
theorem o56_1 : OKp l S b Lx xs dC dI cA 56 1 (s_null) := ok_null (by decide +kernel) rfl
theorem o56_2 : OKp l S b Lx xs dC dI cA 56 2 (s_putR 8 0) := ok_putR (ty := (.object "TakesAPage$Reader")) (fun v => by cases v <;> exact ⟨rfl, rfl⟩) (by decide +kernel) rfl fp_RX8_9 rfl
theorem o56_3 : OKp l S b Lx xs dC dI cA 56 3 (s_aload 0) := ok_aload_n (k9 := 0) (by decide +kernel) rfl rfl
theorem o56_4 : OKp l S b Lx xs dC dI cA 56 4 (s_const (1)) := ok_iconst (n := 1) (by decide +kernel) (by decide) rfl
theorem o56_5 : OKp l S b Lx xs dC dI cA 56 5 (s_putZ 8 1) := ok_putZ (by decide +kernel) rfl fp_RX8_15 rfl
theorem o56_6 : OKp l S b Lx xs dC dI cA 56 6 (s_aload 0) := ok_aload_n (k9 := 0) (by decide +kernel) rfl rfl
theorem o56_7 : OKp l S b Lx xs dC dI cA 56 7 (s_iload 1) := ok_iload_n (k9 := 1) (by decide +kernel) rfl rfl
theorem o56_8 : OKp l S b Lx xs dC dI cA 56 8 (s_putI 8 2) := ok_putI (by decide +kernel) rfl fp_RX8_19 rfl
theorem o56_9 : OKp l S b Lx xs dC dI cA 56 9 (s_aload 0) := ok_aload_n (k9 := 0) (by decide +kernel) rfl rfl
theorem o56_10 : OKp l S b Lx xs dC dI cA 56 10 (s_iload 2) := ok_iload_n (k9 := 2) (by decide +kernel) rfl rfl
theorem o56_11 : OKp l S b Lx xs dC dI cA 56 11 (s_const (100)) := ok_bipush (n := 100) (by decide +kernel) (by decide) rfl
theorem o56_12 : OKp l S b Lx xs dC dI cA 56 12 (s_invS 226 2 2) := ok_invS rfl rfl (by decide) (hXX 226 (by decide)) w_734 w_608 w_72 c_226 (by decide +kernel) (by decide +kernel) rfl
theorem o56_13 : OKp l S b Lx xs dC dI cA 56 13 (s_putI 8 3) := ok_putI (by decide +kernel) rfl fp_RX8_23 rfl
theorem o56_14 : OKp l S b Lx xs dC dI cA 56 14 (s_const (0)) := ok_iconst (n := 0) (by decide +kernel) (by decide) rfl
theorem o56_15 : OKp l S b Lx xs dC dI cA 56 15 (s_istore 3) := ok_istore_n (k9 := 3) (by decide +kernel) rfl rfl
theorem o56_16 : OKp l S b Lx xs dC dI cA 56 16 (s_iload 3) := ok_iload_n (k9 := 3) (by decide +kernel) rfl rfl
theorem o56_17 : OKp l S b Lx xs dC dI cA 56 17 (s_const (100)) := ok_bipush (n := 100) (by decide +kernel) (by decide) rfl
theorem o56_18 : OKp l S b Lx xs dC dI cA 56 18 (s_icmp (fun x y => y ≤ x) 26) := ok_icmp_ge (off := 16) (by decide +kernel) (by decide +kernel) rfl
theorem o56_19 : OKp l S b Lx xs dC dI cA 56 19 (s_aload 0) := ok_aload_n (k9 := 0) (by decide +kernel) rfl rfl
theorem o56_20 : OKp l S b Lx xs dC dI cA 56 20 (s_getR (fun t => t == 8) 4) := ok_getR (by decide +kernel) rfl fd_RX8_26
theorem o56_21 : OKp l S b Lx xs dC dI cA 56 21 (s_iload 3) := ok_iload_n (k9 := 3) (by decide +kernel) rfl rfl
theorem o56_22 : OKp l S b Lx xs dC dI cA 56 22 (s_const (0)) := ok_iconst (n := 0) (by decide +kernel) (by decide) rfl
theorem o56_23 : OKp l S b Lx xs dC dI cA 56 23 (s_iast) := ok_iast (by decide +kernel) rfl
theorem o56_24 : OKp l S b Lx xs dC dI cA 56 24 (s_iinc 3 (1)) := ok_iinc (n := 1) (by decide +kernel) (by decide) rfl
theorem o56_25 : OKp l S b Lx xs dC dI cA 56 25 (s_goto 16) := ok_goto (off := -16) (by decide +kernel) (by decide +kernel)
theorem o56_26 : OKp l S b Lx xs dC dI cA 56 26 (s_vret) := ok_vret (by decide +kernel) rfl
theorem a56 (hl9 : l.stackTraces = false) : sm_all (OKp l S b Lx xs dC dI cA 56) 0 sc_56 := ⟨o56_0, o56_1, o56_2, o56_3, o56_4, o56_5, o56_6, o56_7, o56_8, o56_9, o56_10, o56_11, o56_12, o56_13, o56_14, o56_15, o56_16, o56_17, o56_18, o56_19, o56_20, o56_21, o56_22, o56_23, o56_24, o56_25, o56_26, trivial⟩
theorem o57_0 : OKp l S b Lx xs dC dI cA 57 0 (s_iload 1) := ok_iload_n (k9 := 1) (by decide +kernel) rfl rfl
theorem o57_1 : OKp l S b Lx xs dC dI cA 57 1 (s_if (fun x => x < 0) 14) := ok_if_lt (off := 26) (by decide +kernel) (by decide +kernel) rfl
theorem o57_2 : OKp l S b Lx xs dC dI cA 57 2 (s_iload 1) := ok_iload_n (k9 := 1) (by decide +kernel) rfl rfl
theorem o57_3 : OKp l S b Lx xs dC dI cA 57 3 (s_aload 0) := ok_aload_n (k9 := 0) (by decide +kernel) rfl rfl
theorem o57_4 : OKp l S b Lx xs dC dI cA 57 4 (s_getI (fun t => t == 8) 3) := ok_getI (by decide +kernel) rfl fd_RX8_23
theorem o57_5 : OKp l S b Lx xs dC dI cA 57 5 (s_icmp (fun x y => y ≤ x) 14) := ok_icmp_ge (off := 18) (by decide +kernel) (by decide +kernel) rfl
theorem o57_6 : OKp l S b Lx xs dC dI cA 57 6 (s_iload 1) := ok_iload_n (k9 := 1) (by decide +kernel) rfl rfl
theorem o57_7 : OKp l S b Lx xs dC dI cA 57 7 (s_const (100)) := ok_bipush (n := 100) (by decide +kernel) (by decide) rfl
theorem o57_8 : OKp l S b Lx xs dC dI cA 57 8 (s_icmp (fun x y => y ≤ x) 14) := ok_icmp_ge (off := 12) (by decide +kernel) (by decide +kernel) rfl
theorem o57_9 : OKp l S b Lx xs dC dI cA 57 9 (s_aload 0) := ok_aload_n (k9 := 0) (by decide +kernel) rfl rfl
theorem o57_10 : OKp l S b Lx xs dC dI cA 57 10 (s_getR (fun t => t == 8) 4) := ok_getR (by decide +kernel) rfl fd_RX8_26
theorem o57_11 : OKp l S b Lx xs dC dI cA 57 11 (s_iload 1) := ok_iload_n (k9 := 1) (by decide +kernel) rfl rfl
theorem o57_12 : OKp l S b Lx xs dC dI cA 57 12 (s_iald) := ok_iald (by decide +kernel) rfl
theorem o57_13 : OKp l S b Lx xs dC dI cA 57 13 (s_goto 15) := ok_goto (off := 4) (by decide +kernel) (by decide +kernel)
theorem o57_14 : OKp l S b Lx xs dC dI cA 57 14 (s_const (0)) := ok_iconst (n := 0) (by decide +kernel) (by decide) rfl
theorem o57_15 : OKp l S b Lx xs dC dI cA 57 15 (s_ret) := ok_ret (by decide +kernel) rfl
theorem a57 (hl9 : l.stackTraces = false) : sm_all (OKp l S b Lx xs dC dI cA 57) 0 sc_57 := ⟨o57_0, o57_1, o57_2, o57_3, o57_4, o57_5, o57_6, o57_7, o57_8, o57_9, o57_10, o57_11, o57_12, o57_13, o57_14, o57_15, trivial⟩
theorem o58_0 : OKp l S b Lx xs dC dI cA 58 0 (s_iload 1) := ok_iload_n (k9 := 1) (by decide +kernel) rfl rfl
theorem o58_1 : OKp l S b Lx xs dC dI cA 58 1 (s_if (fun x => x < 0) 9) := ok_if_lt (off := 17) (by decide +kernel) (by decide +kernel) rfl
theorem o58_2 : OKp l S b Lx xs dC dI cA 58 2 (s_iload 1) := ok_iload_n (k9 := 1) (by decide +kernel) rfl rfl
theorem o58_3 : OKp l S b Lx xs dC dI cA 58 3 (s_aload 0) := ok_aload_n (k9 := 0) (by decide +kernel) rfl rfl
theorem o58_4 : OKp l S b Lx xs dC dI cA 58 4 (s_getI (fun t => t == 8) 3) := ok_getI (by decide +kernel) rfl fd_RX8_23
theorem o58_5 : OKp l S b Lx xs dC dI cA 58 5 (s_icmp (fun x y => y ≤ x) 9) := ok_icmp_ge (off := 9) (by decide +kernel) (by decide +kernel) rfl
theorem o58_6 : OKp l S b Lx xs dC dI cA 58 6 (s_iload 1) := ok_iload_n (k9 := 1) (by decide +kernel) rfl rfl
theorem o58_7 : OKp l S b Lx xs dC dI cA 58 7 (s_const (100)) := ok_bipush (n := 100) (by decide +kernel) (by decide) rfl
theorem o58_8 : OKp l S b Lx xs dC dI cA 58 8 (s_icmp (fun x y => x < y) 11) := ok_icmp_lt (off := 5) (by decide +kernel) (by decide +kernel) rfl
theorem o58_9 : OKp l S b Lx xs dC dI cA 58 9 (s_const (0)) := ok_iconst (n := 0) (by decide +kernel) (by decide) rfl
theorem o58_10 : OKp l S b Lx xs dC dI cA 58 10 (s_zret) := ok_zret (by decide +kernel) rfl
theorem o58_11 : OKp l S b Lx xs dC dI cA 58 11 (s_aload 0) := ok_aload_n (k9 := 0) (by decide +kernel) rfl rfl
theorem o58_12 : OKp l S b Lx xs dC dI cA 58 12 (s_getI (fun t => t == 8) 2) := ok_getI (by decide +kernel) rfl fd_RX8_19
theorem o58_13 : OKp l S b Lx xs dC dI cA 58 13 (s_sw [(0, 14), (1, 21)] 28) := ok_lookup (dflt := 50) (ps := #[(0, 28), (1, 39)]) (len := 28) (by decide +kernel) (by decide +kernel) (by decide +kernel) (by decide +kernel)
theorem o58_14 : OKp l S b Lx xs dC dI cA 58 14 (s_aload 0) := ok_aload_n (k9 := 0) (by decide +kernel) rfl rfl
theorem o58_15 : OKp l S b Lx xs dC dI cA 58 15 (s_getR (fun t => t == 8) 4) := ok_getR (by decide +kernel) rfl fd_RX8_26
theorem o58_16 : OKp l S b Lx xs dC dI cA 58 16 (s_iload 1) := ok_iload_n (k9 := 1) (by decide +kernel) rfl rfl
theorem o58_17 : OKp l S b Lx xs dC dI cA 58 17 (s_iload 2) := ok_iload_n (k9 := 2) (by decide +kernel) rfl rfl
theorem o58_18 : OKp l S b Lx xs dC dI cA 58 18 (s_un g_i2b) := ok_i2b (by decide +kernel) rfl
theorem o58_19 : OKp l S b Lx xs dC dI cA 58 19 (s_iast) := ok_iast (by decide +kernel) rfl
theorem o58_20 : OKp l S b Lx xs dC dI cA 58 20 (s_goto 33) := ok_goto (off := 21) (by decide +kernel) (by decide +kernel)
theorem o58_21 : OKp l S b Lx xs dC dI cA 58 21 (s_aload 0) := ok_aload_n (k9 := 0) (by decide +kernel) rfl rfl
theorem o58_22 : OKp l S b Lx xs dC dI cA 58 22 (s_getR (fun t => t == 8) 4) := ok_getR (by decide +kernel) rfl fd_RX8_26
theorem o58_23 : OKp l S b Lx xs dC dI cA 58 23 (s_iload 1) := ok_iload_n (k9 := 1) (by decide +kernel) rfl rfl
theorem o58_24 : OKp l S b Lx xs dC dI cA 58 24 (s_iload 2) := ok_iload_n (k9 := 2) (by decide +kernel) rfl rfl
theorem o58_25 : OKp l S b Lx xs dC dI cA 58 25 (s_un g_i2s) := ok_i2s (by decide +kernel) rfl
theorem o58_26 : OKp l S b Lx xs dC dI cA 58 26 (s_iast) := ok_iast (by decide +kernel) rfl
theorem o58_27 : OKp l S b Lx xs dC dI cA 58 27 (s_goto 33) := ok_goto (off := 10) (by decide +kernel) (by decide +kernel)
theorem o58_28 : OKp l S b Lx xs dC dI cA 58 28 (s_aload 0) := ok_aload_n (k9 := 0) (by decide +kernel) rfl rfl
theorem o58_29 : OKp l S b Lx xs dC dI cA 58 29 (s_getR (fun t => t == 8) 4) := ok_getR (by decide +kernel) rfl fd_RX8_26
theorem o58_30 : OKp l S b Lx xs dC dI cA 58 30 (s_iload 1) := ok_iload_n (k9 := 1) (by decide +kernel) rfl rfl
theorem o58_31 : OKp l S b Lx xs dC dI cA 58 31 (s_iload 2) := ok_iload_n (k9 := 2) (by decide +kernel) rfl rfl
theorem o58_32 : OKp l S b Lx xs dC dI cA 58 32 (s_iast) := ok_iast (by decide +kernel) rfl
theorem o58_33 : OKp l S b Lx xs dC dI cA 58 33 (s_const (1)) := ok_iconst (n := 1) (by decide +kernel) (by decide) rfl
theorem o58_34 : OKp l S b Lx xs dC dI cA 58 34 (s_zret) := ok_zret (by decide +kernel) rfl
theorem a58 (hl9 : l.stackTraces = false) : sm_all (OKp l S b Lx xs dC dI cA 58) 0 sc_58 := ⟨o58_0, o58_1, o58_2, o58_3, o58_4, o58_5, o58_6, o58_7, o58_8, o58_9, o58_10, o58_11, o58_12, o58_13, o58_14, o58_15, o58_16, o58_17, o58_18, o58_19, o58_20, o58_21, o58_22, o58_23, o58_24, o58_25, o58_26, o58_27, o58_28, o58_29, o58_30, o58_31, o58_32, o58_33, o58_34, trivial⟩
theorem o59_0 : OKp l S b Lx xs dC dI cA 59 0 (s_aload 0) := ok_aload_n (k9 := 0) (by decide +kernel) rfl rfl
theorem o59_1 : OKp l S b Lx xs dC dI cA 59 1 (s_iload 1) := ok_iload_n (k9 := 1) (by decide +kernel) rfl rfl
theorem o59_2 : OKp l S b Lx xs dC dI cA 59 2 (s_invI 44 1 2) := ok_invI rfl rfl (by decide) (hXX 44 (by decide)) w_331 w_268 w_63 c_44 rfl rfl (by decide +kernel) (by decide +kernel) rfl
theorem o59_3 : OKp l S b Lx xs dC dI cA 59 3 (s_vret) := ok_vret (by decide +kernel) rfl
theorem a59 (hl9 : l.stackTraces = false) : sm_all (OKp l S b Lx xs dC dI cA 59) 0 sc_59 := ⟨o59_0, o59_1, o59_2, o59_3, trivial⟩
theorem o60_0 : OKp l S b Lx xs dC dI cA 60 0 (s_const (6)) := ok_bipush (n := 6) (by decide +kernel) (by decide) rfl
theorem o60_1 : OKp l S b Lx xs dC dI cA 60 1 (s_ret) := ok_ret (by decide +kernel) rfl
theorem a60 (hl9 : l.stackTraces = false) : sm_all (OKp l S b Lx xs dC dI cA 60) 0 sc_60 := ⟨o60_0, o60_1, trivial⟩
theorem o61_0 : OKp l S b Lx xs dC dI cA 61 0 (s_aload 0) := ok_aload_n (k9 := 0) (by decide +kernel) rfl rfl
theorem o61_1 : OKp l S b Lx xs dC dI cA 61 1 (s_aload 1) := ok_aload_n (k9 := 1) (by decide +kernel) rfl rfl
theorem o61_2 : OKp l S b Lx xs dC dI cA 61 2 (s_iload 2) := ok_iload_n (k9 := 2) (by decide +kernel) rfl rfl
theorem o61_3 : OKp l S b Lx xs dC dI cA 61 3 (s_invU isRd 47 2 3) := ok_invU (x := ⟨"TakesAPage$Reader", "worthOf", "(LTakesAPage$Book;I)I"⟩) (owner := "TakesAPage$Reader") isRd_lt rfl rfl rfl (by decide) (hXX 47 (by decide)) w_388 w_365 w_333 (Or.inl rfl) w_363 w_63 c_47 (by decide) (by decide +kernel) (by decide +kernel) rfl
theorem o61_4 : OKp l S b Lx xs dC dI cA 61 4 (s_aload 0) := ok_aload_n (k9 := 0) (by decide +kernel) rfl rfl
theorem o61_5 : OKp l S b Lx xs dC dI cA 61 5 (s_getI isRd 0) := ok_getI (by decide +kernel) rfl fd_RX9_11
theorem o61_6 : OKp l S b Lx xs dC dI cA 61 6 (s_bin g_iadd) := ok_iadd (by decide +kernel) rfl
theorem o61_7 : OKp l S b Lx xs dC dI cA 61 7 (s_ret) := ok_ret (by decide +kernel) rfl
theorem a61 (hl9 : l.stackTraces = false) : sm_all (OKp l S b Lx xs dC dI cA 61) 0 sc_61 := ⟨o61_0, o61_1, o61_2, o61_3, o61_4, o61_5, o61_6, o61_7, trivial⟩
theorem o62_0 : OKp l S b Lx xs dC dI cA 62 0 (s_iload 2) := ok_iload_n (k9 := 2) (by decide +kernel) rfl rfl
theorem o62_1 : OKp l S b Lx xs dC dI cA 62 1 (s_aload 0) := ok_aload_n (k9 := 0) (by decide +kernel) rfl rfl
theorem o62_2 : OKp l S b Lx xs dC dI cA 62 2 (s_getI isRd 0) := ok_getI (by decide +kernel) rfl fd_RX9_11
theorem o62_3 : OKp l S b Lx xs dC dI cA 62 3 (s_bin g_ishr) := ok_ishr (by decide +kernel) rfl
theorem o62_4 : OKp l S b Lx xs dC dI cA 62 4 (s_const (1)) := ok_iconst (n := 1) (by decide +kernel) (by decide) rfl
theorem o62_5 : OKp l S b Lx xs dC dI cA 62 5 (s_bin g_iand) := ok_iand (by decide +kernel) rfl
theorem o62_6 : OKp l S b Lx xs dC dI cA 62 6 (s_if (fun x => x = 0) 10) := ok_if_eq (off := 10) (by decide +kernel) (by decide +kernel) rfl
theorem o62_7 : OKp l S b Lx xs dC dI cA 62 7 (s_aload 0) := ok_aload_n (k9 := 0) (by decide +kernel) rfl rfl
theorem o62_8 : OKp l S b Lx xs dC dI cA 62 8 (s_getI isRd 0) := ok_getI (by decide +kernel) rfl fd_RX9_11
theorem o62_9 : OKp l S b Lx xs dC dI cA 62 9 (s_goto 14) := ok_goto (off := 9) (by decide +kernel) (by decide +kernel)
theorem o62_10 : OKp l S b Lx xs dC dI cA 62 10 (s_aload 0) := ok_aload_n (k9 := 0) (by decide +kernel) rfl rfl
theorem o62_11 : OKp l S b Lx xs dC dI cA 62 11 (s_aload 1) := ok_aload_n (k9 := 1) (by decide +kernel) rfl rfl
theorem o62_12 : OKp l S b Lx xs dC dI cA 62 12 (s_iload 2) := ok_iload_n (k9 := 2) (by decide +kernel) rfl rfl
theorem o62_13 : OKp l S b Lx xs dC dI cA 62 13 (s_invU isRd 48 2 3) := ok_invU (x := ⟨"TakesAPage$Reader", "firstPage", "(LTakesAPage$Book;I)I"⟩) (owner := "TakesAPage$Reader") isRd_lt rfl rfl rfl (by decide) (hXX 48 (by decide)) w_468 w_433 w_333 (Or.inl rfl) w_431 w_63 c_48 (by decide) (by decide +kernel) (by decide +kernel) rfl
theorem o62_14 : OKp l S b Lx xs dC dI cA 62 14 (s_ret) := ok_ret (by decide +kernel) rfl
theorem a62 (hl9 : l.stackTraces = false) : sm_all (OKp l S b Lx xs dC dI cA 62) 0 sc_62 := ⟨o62_0, o62_1, o62_2, o62_3, o62_4, o62_5, o62_6, o62_7, o62_8, o62_9, o62_10, o62_11, o62_12, o62_13, o62_14, trivial⟩
theorem o63_0 : OKp l S b Lx xs dC dI cA 63 0 (s_aload 0) := ok_aload_n (k9 := 0) (by decide +kernel) rfl rfl
theorem o63_1 : OKp l S b Lx xs dC dI cA 63 1 (s_invU isRd 50 0 1) := ok_invU (x := ⟨"TakesAPage$Reader", "feeOf", "()I"⟩) (owner := "TakesAPage$Reader") isRd_lt rfl rfl rfl (by decide) (hXX 50 (by decide)) w_791 w_763 w_333 (Or.inl rfl) w_761 w_63 c_50 (by decide) (by decide +kernel) (by decide +kernel) rfl
theorem o63_2 : OKp l S b Lx xs dC dI cA 63 2 (s_aload 0) := ok_aload_n (k9 := 0) (by decide +kernel) rfl rfl
theorem o63_3 : OKp l S b Lx xs dC dI cA 63 3 (s_getI isRd 0) := ok_getI (by decide +kernel) rfl fd_RX9_11
theorem o63_4 : OKp l S b Lx xs dC dI cA 63 4 (s_bin g_isub) := ok_isub (by decide +kernel) rfl
theorem o63_5 : OKp l S b Lx xs dC dI cA 63 5 (s_ret) := ok_ret (by decide +kernel) rfl
theorem a63 (hl9 : l.stackTraces = false) : sm_all (OKp l S b Lx xs dC dI cA 63) 0 sc_63 := ⟨o63_0, o63_1, o63_2, o63_3, o63_4, o63_5, trivial⟩
theorem o64_0 : OKp l S b Lx xs dC dI cA 64 0 (s_vret) := ok_vret (by decide +kernel) rfl
theorem a64 (hl9 : l.stackTraces = false) : sm_all (OKp l S b Lx xs dC dI cA 64) 0 sc_64 := ⟨o64_0, trivial⟩
theorem o65_0 : OKp l S b Lx xs dC dI cA 65 0 (s_aload 0) := ok_aload_n (k9 := 0) (by decide +kernel) rfl rfl
theorem o65_1 : OKp l S b Lx xs dC dI cA 65 1 (s_objInit) := ok_objInit w_91 w_84 wobj (by decide +kernel) rfl
theorem o65_2 : OKp l S b Lx xs dC dI cA 65 2 (s_aload 0) := ok_aload_n (k9 := 0) (by decide +kernel) rfl rfl
theorem o65_3 : OKp l S b Lx xs dC dI cA 65 3 (s_const (4)) := ok_iconst (n := 4) (by decide +kernel) (by decide) rfl
theorem o65_4 : OKp l S b Lx xs dC dI cA 65 4 (s_newarr 53) := ok_anew (by decide) (by decide) (fun _ => rfl) w_92 w_93 (by decide +kernel) rfl
theorem o65_5 : OKp l S b Lx xs dC dI cA 65 5 (s_putR 10 0) := ok_putRF (ty := (.array (.object "TakesAPage$Book"))) (fun v => by cases v <;> exact ⟨rfl, rfl⟩) (by decide +kernel) rfl rfl fp_RX10_11 rfl
theorem o65_6 : OKp l S b Lx xs dC dI cA 65 6 (s_aload 0) := ok_aload_n (k9 := 0) (by decide +kernel) rfl rfl
theorem o65_7 : OKp l S b Lx xs dC dI cA 65 7 (s_const (6)) := ok_bipush (n := 6) (by decide +kernel) (by decide) rfl
theorem o65_8 : OKp l S b Lx xs dC dI cA 65 8 (s_newarr 52) := ok_anew (by decide) (by decide) (fun _ => rfl) w_94 w_95 (by decide +kernel) rfl
theorem o65_9 : OKp l S b Lx xs dC dI cA 65 9 (s_putR 10 1) := ok_putRF (ty := (.array (.object "TakesAPage$Reader"))) (fun v => by cases v <;> exact ⟨rfl, rfl⟩) (by decide +kernel) rfl rfl fp_RX10_19 rfl
theorem o65_10 : OKp l S b Lx xs dC dI cA 65 10 (s_aload 0) := ok_aload_n (k9 := 0) (by decide +kernel) rfl rfl
theorem o65_11 : OKp l S b Lx xs dC dI cA 65 11 (s_const (0)) := ok_iconst (n := 0) (by decide +kernel) (by decide) rfl
theorem o65_12 : OKp l S b Lx xs dC dI cA 65 12 (s_putI 10 2) := ok_putI (by decide +kernel) rfl fp_RX10_23 rfl
theorem o65_13 : OKp l S b Lx xs dC dI cA 65 13 (s_aload 0) := ok_aload_n (k9 := 0) (by decide +kernel) rfl rfl
theorem o65_14 : OKp l S b Lx xs dC dI cA 65 14 (s_const (0)) := ok_iconst (n := 0) (by decide +kernel) (by decide) rfl
theorem o65_15 : OKp l S b Lx xs dC dI cA 65 15 (s_putI 10 3) := ok_putI (by decide +kernel) rfl fp_RX10_27 rfl
theorem o65_16 : OKp l S b Lx xs dC dI cA 65 16 (s_aload 0) := ok_aload_n (k9 := 0) (by decide +kernel) rfl rfl
theorem o65_17 : OKp l S b Lx xs dC dI cA 65 17 (s_const (0)) := ok_iconst (n := 0) (by decide +kernel) (by decide) rfl
theorem o65_18 : OKp l S b Lx xs dC dI cA 65 18 (s_putI 10 4) := ok_putI (by decide +kernel) rfl fp_RX10_30 rfl
theorem o65_19 : OKp l S b Lx xs dC dI cA 65 19 (s_const (0)) := ok_iconst (n := 0) (by decide +kernel) (by decide) rfl
theorem o65_20 : OKp l S b Lx xs dC dI cA 65 20 (s_istore 1) := ok_istore_n (k9 := 1) (by decide +kernel) rfl rfl
theorem o65_21 : OKp l S b Lx xs dC dI cA 65 21 (s_iload 1) := ok_iload_n (k9 := 1) (by decide +kernel) rfl rfl
theorem o65_22 : OKp l S b Lx xs dC dI cA 65 22 (s_aload 0) := ok_aload_n (k9 := 0) (by decide +kernel) rfl rfl
theorem o65_23 : OKp l S b Lx xs dC dI cA 65 23 (s_getR (fun t => t == 10) 0) := ok_getR (by decide +kernel) rfl fd_RX10_11
theorem o65_24 : OKp l S b Lx xs dC dI cA 65 24 (s_alen) := ok_alen (by decide +kernel) rfl
theorem o65_25 : OKp l S b Lx xs dC dI cA 65 25 (s_icmp (fun x y => y ≤ x) 35) := ok_icmp_ge (off := 22) (by decide +kernel) (by decide +kernel) rfl
theorem o65_26 : OKp l S b Lx xs dC dI cA 65 26 (s_aload 0) := ok_aload_n (k9 := 0) (by decide +kernel) rfl rfl
theorem o65_27 : OKp l S b Lx xs dC dI cA 65 27 (s_getR (fun t => t == 10) 0) := ok_getR (by decide +kernel) rfl fd_RX10_11
theorem o65_28 : OKp l S b Lx xs dC dI cA 65 28 (s_iload 1) := ok_iload_n (k9 := 1) (by decide +kernel) rfl rfl
theorem o65_29 : OKp l S b Lx xs dC dI cA 65 29 (s_new 1 4) := ok_new (C := RX1) (T := TX1) (ty := tyX1) rfl inX1 tyX1_ok w_92 w_96 w_59 df_1 (by decide +kernel) rfl
theorem o65_30 : OKp l S b Lx xs dC dI cA 65 30 (s_dup) := ok_dup (by decide +kernel) rfl
theorem o65_31 : OKp l S b Lx xs dC dI cA 65 31 (s_invI 4 0 1) := ok_invIN rfl rfl (by decide) (hXX 4 (by decide)) w_97 w_98 w_59 c_4 rfl rfl (by decide +kernel) (by decide +kernel) rfl
theorem o65_32 : OKp l S b Lx xs dC dI cA 65 32 (s_aast 53 (fun t => t == 1)) := ok_aast (t := 53) (by decide) (fun _ => rfl) (by decide) casB (by decide +kernel) rfl
theorem o65_33 : OKp l S b Lx xs dC dI cA 65 33 (s_iinc 1 (1)) := ok_iinc (n := 1) (by decide +kernel) (by decide) rfl
theorem o65_34 : OKp l S b Lx xs dC dI cA 65 34 (s_goto 21) := ok_goto (off := -25) (by decide +kernel) (by decide +kernel)
theorem o65_35 : OKp l S b Lx xs dC dI cA 65 35 (s_vret) := ok_vret (by decide +kernel) rfl
theorem a65 (hl9 : l.stackTraces = false) : sm_all (OKp l S b Lx xs dC dI cA 65) 0 sc_65 := ⟨o65_0, o65_1, o65_2, o65_3, o65_4, o65_5, o65_6, o65_7, o65_8, o65_9, o65_10, o65_11, o65_12, o65_13, o65_14, o65_15, o65_16, o65_17, o65_18, o65_19, o65_20, o65_21, o65_22, o65_23, o65_24, o65_25, o65_26, o65_27, o65_28, o65_29, o65_30, o65_31, o65_32, o65_33, o65_34, o65_35, trivial⟩
theorem o66_0 : OKp l S b Lx xs dC dI cA 66 0 (s_aload 0) := ok_aload_n (k9 := 0) (by decide +kernel) rfl rfl
theorem o66_1 : OKp l S b Lx xs dC dI cA 66 1 (s_aload 1) := ok_aload_n (k9 := 1) (by decide +kernel) rfl rfl
theorem o66_2 : OKp l S b Lx xs dC dI cA 66 2 (s_getI (fun t => t == 10) 2) := ok_getI (by decide +kernel) rfl fd_RX10_23
theorem o66_3 : OKp l S b Lx xs dC dI cA 66 3 (s_putI 10 2) := ok_putI (by decide +kernel) rfl fp_RX10_23 rfl
theorem o66_4 : OKp l S b Lx xs dC dI cA 66 4 (s_aload 0) := ok_aload_n (k9 := 0) (by decide +kernel) rfl rfl
theorem o66_5 : OKp l S b Lx xs dC dI cA 66 5 (s_aload 1) := ok_aload_n (k9 := 1) (by decide +kernel) rfl rfl
theorem o66_6 : OKp l S b Lx xs dC dI cA 66 6 (s_getI (fun t => t == 10) 3) := ok_getI (by decide +kernel) rfl fd_RX10_27
theorem o66_7 : OKp l S b Lx xs dC dI cA 66 7 (s_putI 10 3) := ok_putI (by decide +kernel) rfl fp_RX10_27 rfl
theorem o66_8 : OKp l S b Lx xs dC dI cA 66 8 (s_aload 0) := ok_aload_n (k9 := 0) (by decide +kernel) rfl rfl
theorem o66_9 : OKp l S b Lx xs dC dI cA 66 9 (s_aload 1) := ok_aload_n (k9 := 1) (by decide +kernel) rfl rfl
theorem o66_10 : OKp l S b Lx xs dC dI cA 66 10 (s_getI (fun t => t == 10) 4) := ok_getI (by decide +kernel) rfl fd_RX10_30
theorem o66_11 : OKp l S b Lx xs dC dI cA 66 11 (s_putI 10 4) := ok_putI (by decide +kernel) rfl fp_RX10_30 rfl
theorem o66_12 : OKp l S b Lx xs dC dI cA 66 12 (s_const (0)) := ok_iconst (n := 0) (by decide +kernel) (by decide) rfl
theorem o66_13 : OKp l S b Lx xs dC dI cA 66 13 (s_istore 2) := ok_istore_n (k9 := 2) (by decide +kernel) rfl rfl
theorem o66_14 : OKp l S b Lx xs dC dI cA 66 14 (s_iload 2) := ok_iload_n (k9 := 2) (by decide +kernel) rfl rfl
theorem o66_15 : OKp l S b Lx xs dC dI cA 66 15 (s_const (4)) := ok_iconst (n := 4) (by decide +kernel) (by decide) rfl
theorem o66_16 : OKp l S b Lx xs dC dI cA 66 16 (s_icmp (fun x y => y ≤ x) 28) := ok_icmp_ge (off := 24) (by decide +kernel) (by decide +kernel) rfl
theorem o66_17 : OKp l S b Lx xs dC dI cA 66 17 (s_aload 0) := ok_aload_n (k9 := 0) (by decide +kernel) rfl rfl
theorem o66_18 : OKp l S b Lx xs dC dI cA 66 18 (s_getR (fun t => t == 10) 0) := ok_getR (by decide +kernel) rfl fd_RX10_11
theorem o66_19 : OKp l S b Lx xs dC dI cA 66 19 (s_iload 2) := ok_iload_n (k9 := 2) (by decide +kernel) rfl rfl
theorem o66_20 : OKp l S b Lx xs dC dI cA 66 20 (s_aald 53) := ok_aald (t := 53) (by decide) (fun _ => rfl) (by decide) (by decide +kernel) rfl
theorem o66_21 : OKp l S b Lx xs dC dI cA 66 21 (s_aload 1) := ok_aload_n (k9 := 1) (by decide +kernel) rfl rfl
theorem o66_22 : OKp l S b Lx xs dC dI cA 66 22 (s_getR (fun t => t == 10) 0) := ok_getR (by decide +kernel) rfl fd_RX10_11
theorem o66_23 : OKp l S b Lx xs dC dI cA 66 23 (s_iload 2) := ok_iload_n (k9 := 2) (by decide +kernel) rfl rfl
theorem o66_24 : OKp l S b Lx xs dC dI cA 66 24 (s_aald 53) := ok_aald (t := 53) (by decide) (fun _ => rfl) (by decide) (by decide +kernel) rfl
theorem o66_25 : OKp l S b Lx xs dC dI cA 66 25 (s_invV (dv1 1 6 2) [] 1) := ok_invV (dv1_ok vc_RX10_34_1 rfl (by decide) (hXX 6 (by decide))) (by decide +kernel) rfl
theorem o66_26 : OKp l S b Lx xs dC dI cA 66 26 (s_iinc 2 (1)) := ok_iinc (n := 1) (by decide +kernel) (by decide) rfl
theorem o66_27 : OKp l S b Lx xs dC dI cA 66 27 (s_goto 14) := ok_goto (off := -23) (by decide +kernel) (by decide +kernel)
theorem o66_28 : OKp l S b Lx xs dC dI cA 66 28 (s_const (0)) := ok_iconst (n := 0) (by decide +kernel) (by decide) rfl
theorem o66_29 : OKp l S b Lx xs dC dI cA 66 29 (s_istore 2) := ok_istore_n (k9 := 2) (by decide +kernel) rfl rfl
theorem o66_30 : OKp l S b Lx xs dC dI cA 66 30 (s_iload 2) := ok_iload_n (k9 := 2) (by decide +kernel) rfl rfl
theorem o66_31 : OKp l S b Lx xs dC dI cA 66 31 (s_const (6)) := ok_bipush (n := 6) (by decide +kernel) (by decide) rfl
theorem o66_32 : OKp l S b Lx xs dC dI cA 66 32 (s_icmp (fun x y => y ≤ x) 43) := ok_icmp_ge (off := 21) (by decide +kernel) (by decide +kernel) rfl
theorem o66_33 : OKp l S b Lx xs dC dI cA 66 33 (s_aload 0) := ok_aload_n (k9 := 0) (by decide +kernel) rfl rfl
theorem o66_34 : OKp l S b Lx xs dC dI cA 66 34 (s_getR (fun t => t == 10) 1) := ok_getR (by decide +kernel) rfl fd_RX10_19
theorem o66_35 : OKp l S b Lx xs dC dI cA 66 35 (s_iload 2) := ok_iload_n (k9 := 2) (by decide +kernel) rfl rfl
theorem o66_36 : OKp l S b Lx xs dC dI cA 66 36 (s_aload 1) := ok_aload_n (k9 := 1) (by decide +kernel) rfl rfl
theorem o66_37 : OKp l S b Lx xs dC dI cA 66 37 (s_getR (fun t => t == 10) 1) := ok_getR (by decide +kernel) rfl fd_RX10_19
theorem o66_38 : OKp l S b Lx xs dC dI cA 66 38 (s_iload 2) := ok_iload_n (k9 := 2) (by decide +kernel) rfl rfl
theorem o66_39 : OKp l S b Lx xs dC dI cA 66 39 (s_aald 52) := ok_aald (t := 52) (by decide) (fun _ => rfl) (by decide) (by decide +kernel) rfl
theorem o66_40 : OKp l S b Lx xs dC dI cA 66 40 (s_aast 52 isRd) := ok_aast (t := 52) (by decide) (fun _ => rfl) (by decide) casR (by decide +kernel) rfl
theorem o66_41 : OKp l S b Lx xs dC dI cA 66 41 (s_iinc 2 (1)) := ok_iinc (n := 1) (by decide +kernel) (by decide) rfl
theorem o66_42 : OKp l S b Lx xs dC dI cA 66 42 (s_goto 30) := ok_goto (off := -21) (by decide +kernel) (by decide +kernel)
theorem o66_43 : OKp l S b Lx xs dC dI cA 66 43 (s_vret) := ok_vret (by decide +kernel) rfl
theorem a66 (hl9 : l.stackTraces = false) : sm_all (OKp l S b Lx xs dC dI cA 66) 0 sc_66 := ⟨o66_0, o66_1, o66_2, o66_3, o66_4, o66_5, o66_6, o66_7, o66_8, o66_9, o66_10, o66_11, o66_12, o66_13, o66_14, o66_15, o66_16, o66_17, o66_18, o66_19, o66_20, o66_21, o66_22, o66_23, o66_24, o66_25, o66_26, o66_27, o66_28, o66_29, o66_30, o66_31, o66_32, o66_33, o66_34, o66_35, o66_36, o66_37, o66_38, o66_39, o66_40, o66_41, o66_42, o66_43, trivial⟩
theorem o67_0 : OKp l S b Lx xs dC dI cA 67 0 (s_iload 1) := ok_iload_n (k9 := 1) (by decide +kernel) rfl rfl
theorem o67_1 : OKp l S b Lx xs dC dI cA 67 1 (s_if (fun x => x < 0) 14) := ok_if_lt (off := 25) (by decide +kernel) (by decide +kernel) rfl
theorem o67_2 : OKp l S b Lx xs dC dI cA 67 2 (s_iload 1) := ok_iload_n (k9 := 1) (by decide +kernel) rfl rfl
theorem o67_3 : OKp l S b Lx xs dC dI cA 67 3 (s_aload 0) := ok_aload_n (k9 := 0) (by decide +kernel) rfl rfl
theorem o67_4 : OKp l S b Lx xs dC dI cA 67 4 (s_getI (fun t => t == 10) 2) := ok_getI (by decide +kernel) rfl fd_RX10_23
theorem o67_5 : OKp l S b Lx xs dC dI cA 67 5 (s_icmp (fun x y => y ≤ x) 14) := ok_icmp_ge (off := 17) (by decide +kernel) (by decide +kernel) rfl
theorem o67_6 : OKp l S b Lx xs dC dI cA 67 6 (s_iload 1) := ok_iload_n (k9 := 1) (by decide +kernel) rfl rfl
theorem o67_7 : OKp l S b Lx xs dC dI cA 67 7 (s_const (4)) := ok_iconst (n := 4) (by decide +kernel) (by decide) rfl
theorem o67_8 : OKp l S b Lx xs dC dI cA 67 8 (s_icmp (fun x y => y ≤ x) 14) := ok_icmp_ge (off := 12) (by decide +kernel) (by decide +kernel) rfl
theorem o67_9 : OKp l S b Lx xs dC dI cA 67 9 (s_aload 0) := ok_aload_n (k9 := 0) (by decide +kernel) rfl rfl
theorem o67_10 : OKp l S b Lx xs dC dI cA 67 10 (s_getR (fun t => t == 10) 0) := ok_getR (by decide +kernel) rfl fd_RX10_11
theorem o67_11 : OKp l S b Lx xs dC dI cA 67 11 (s_iload 1) := ok_iload_n (k9 := 1) (by decide +kernel) rfl rfl
theorem o67_12 : OKp l S b Lx xs dC dI cA 67 12 (s_aald 53) := ok_aald (t := 53) (by decide) (fun _ => rfl) (by decide) (by decide +kernel) rfl
theorem o67_13 : OKp l S b Lx xs dC dI cA 67 13 (s_goto 15) := ok_goto (off := 4) (by decide +kernel) (by decide +kernel)
theorem o67_14 : OKp l S b Lx xs dC dI cA 67 14 (s_null) := ok_null (by decide +kernel) rfl
theorem o67_15 : OKp l S b Lx xs dC dI cA 67 15 (s_aret) := ok_aret (by decide +kernel) rfl
theorem a67 (hl9 : l.stackTraces = false) : sm_all (OKp l S b Lx xs dC dI cA 67) 0 sc_67 := ⟨o67_0, o67_1, o67_2, o67_3, o67_4, o67_5, o67_6, o67_7, o67_8, o67_9, o67_10, o67_11, o67_12, o67_13, o67_14, o67_15, trivial⟩
theorem o68_0 : OKp l S b Lx xs dC dI cA 68 0 (s_iload 1) := ok_iload_n (k9 := 1) (by decide +kernel) rfl rfl
theorem o68_1 : OKp l S b Lx xs dC dI cA 68 1 (s_if (fun x => x < 0) 14) := ok_if_lt (off := 26) (by decide +kernel) (by decide +kernel) rfl
theorem o68_2 : OKp l S b Lx xs dC dI cA 68 2 (s_iload 1) := ok_iload_n (k9 := 1) (by decide +kernel) rfl rfl
theorem o68_3 : OKp l S b Lx xs dC dI cA 68 3 (s_aload 0) := ok_aload_n (k9 := 0) (by decide +kernel) rfl rfl
theorem o68_4 : OKp l S b Lx xs dC dI cA 68 4 (s_getI (fun t => t == 10) 3) := ok_getI (by decide +kernel) rfl fd_RX10_27
theorem o68_5 : OKp l S b Lx xs dC dI cA 68 5 (s_icmp (fun x y => y ≤ x) 14) := ok_icmp_ge (off := 18) (by decide +kernel) (by decide +kernel) rfl
theorem o68_6 : OKp l S b Lx xs dC dI cA 68 6 (s_iload 1) := ok_iload_n (k9 := 1) (by decide +kernel) rfl rfl
theorem o68_7 : OKp l S b Lx xs dC dI cA 68 7 (s_const (6)) := ok_bipush (n := 6) (by decide +kernel) (by decide) rfl
theorem o68_8 : OKp l S b Lx xs dC dI cA 68 8 (s_icmp (fun x y => y ≤ x) 14) := ok_icmp_ge (off := 12) (by decide +kernel) (by decide +kernel) rfl
theorem o68_9 : OKp l S b Lx xs dC dI cA 68 9 (s_aload 0) := ok_aload_n (k9 := 0) (by decide +kernel) rfl rfl
theorem o68_10 : OKp l S b Lx xs dC dI cA 68 10 (s_getR (fun t => t == 10) 1) := ok_getR (by decide +kernel) rfl fd_RX10_19
theorem o68_11 : OKp l S b Lx xs dC dI cA 68 11 (s_iload 1) := ok_iload_n (k9 := 1) (by decide +kernel) rfl rfl
theorem o68_12 : OKp l S b Lx xs dC dI cA 68 12 (s_aald 52) := ok_aald (t := 52) (by decide) (fun _ => rfl) (by decide) (by decide +kernel) rfl
theorem o68_13 : OKp l S b Lx xs dC dI cA 68 13 (s_goto 15) := ok_goto (off := 4) (by decide +kernel) (by decide +kernel)
theorem o68_14 : OKp l S b Lx xs dC dI cA 68 14 (s_null) := ok_null (by decide +kernel) rfl
theorem o68_15 : OKp l S b Lx xs dC dI cA 68 15 (s_aret) := ok_aret (by decide +kernel) rfl
theorem a68 (hl9 : l.stackTraces = false) : sm_all (OKp l S b Lx xs dC dI cA 68) 0 sc_68 := ⟨o68_0, o68_1, o68_2, o68_3, o68_4, o68_5, o68_6, o68_7, o68_8, o68_9, o68_10, o68_11, o68_12, o68_13, o68_14, o68_15, trivial⟩
theorem o69_0 : OKp l S b Lx xs dC dI cA 69 0 (s_aload 1) := ok_aload_n (k9 := 1) (by decide +kernel) rfl rfl
theorem o69_1 : OKp l S b Lx xs dC dI cA 69 1 (s_iload 2) := ok_iload_n (k9 := 2) (by decide +kernel) rfl rfl
theorem o69_2 : OKp l S b Lx xs dC dI cA 69 2 (s_const (1)) := ok_iconst (n := 1) (by decide +kernel) (by decide) rfl
theorem o69_3 : OKp l S b Lx xs dC dI cA 69 3 (s_bin g_iadd) := ok_iadd (by decide +kernel) rfl
theorem o69_4 : OKp l S b Lx xs dC dI cA 69 4 (s_invV (dv1 8 57 2) [] 1) := ok_invV (dv1_ok vc_RX10_38_8 rfl (by decide) (hXX 57 (by decide))) (by decide +kernel) rfl
theorem o69_5 : OKp l S b Lx xs dC dI cA 69 5 (s_const (48)) := ok_bipush (n := 48) (by decide +kernel) (by decide) rfl
theorem o69_6 : OKp l S b Lx xs dC dI cA 69 6 (s_bin g_isub) := ok_isub (by decide +kernel) rfl
theorem o69_7 : OKp l S b Lx xs dC dI cA 69 7 (s_istore 3) := ok_istore_n (k9 := 3) (by decide +kernel) rfl rfl
theorem o69_8 : OKp l S b Lx xs dC dI cA 69 8 (s_aload 1) := ok_aload_n (k9 := 1) (by decide +kernel) rfl rfl
theorem o69_9 : OKp l S b Lx xs dC dI cA 69 9 (s_iload 2) := ok_iload_n (k9 := 2) (by decide +kernel) rfl rfl
theorem o69_10 : OKp l S b Lx xs dC dI cA 69 10 (s_const (2)) := ok_iconst (n := 2) (by decide +kernel) (by decide) rfl
theorem o69_11 : OKp l S b Lx xs dC dI cA 69 11 (s_bin g_iadd) := ok_iadd (by decide +kernel) rfl
theorem o69_12 : OKp l S b Lx xs dC dI cA 69 12 (s_invV (dv1 8 57 2) [] 1) := ok_invV (dv1_ok vc_RX10_38_8 rfl (by decide) (hXX 57 (by decide))) (by decide +kernel) rfl
theorem o69_13 : OKp l S b Lx xs dC dI cA 69 13 (s_const (48)) := ok_bipush (n := 48) (by decide +kernel) (by decide) rfl
theorem o69_14 : OKp l S b Lx xs dC dI cA 69 14 (s_bin g_isub) := ok_isub (by decide +kernel) rfl
theorem o69_15 : OKp l S b Lx xs dC dI cA 69 15 (s_istore 4) := ok_istore (by decide +kernel) rfl
theorem o69_16 : OKp l S b Lx xs dC dI cA 69 16 (s_aload 0) := ok_aload_n (k9 := 0) (by decide +kernel) rfl rfl
theorem o69_17 : OKp l S b Lx xs dC dI cA 69 17 (s_iload 3) := ok_iload_n (k9 := 3) (by decide +kernel) rfl rfl
theorem o69_18 : OKp l S b Lx xs dC dI cA 69 18 (s_invV (dv1 10 67 2) [] 1) := ok_invV (dv1_ok vc_RX10_44_10 rfl (by decide) (hXX 67 (by decide))) (by decide +kernel) rfl
theorem o69_19 : OKp l S b Lx xs dC dI cA 69 19 (s_astore 5) := ok_astore (by decide +kernel) rfl
theorem o69_20 : OKp l S b Lx xs dC dI cA 69 20 (s_aload 1) := ok_aload_n (k9 := 1) (by decide +kernel) rfl rfl
theorem o69_21 : OKp l S b Lx xs dC dI cA 69 21 (s_iload 2) := ok_iload_n (k9 := 2) (by decide +kernel) rfl rfl
theorem o69_22 : OKp l S b Lx xs dC dI cA 69 22 (s_invV (dv1 8 57 2) [] 1) := ok_invV (dv1_ok vc_RX10_38_8 rfl (by decide) (hXX 57 (by decide))) (by decide +kernel) rfl
theorem o69_23 : OKp l S b Lx xs dC dI cA 69 23 (s_sw [(98, 24), (110, 28), (111, 51), (114, 45), (120, 62)] 71) := ok_lookup (dflt := 136) (ps := #[(98, 49), (110, 55), (111, 97), (114, 86), (120, 120)]) (len := 49) (by decide +kernel) (by decide +kernel) (by decide +kernel) (by decide +kernel)
theorem o69_24 : OKp l S b Lx xs dC dI cA 69 24 (s_aload 0) := ok_aload_n (k9 := 0) (by decide +kernel) rfl rfl
theorem o69_25 : OKp l S b Lx xs dC dI cA 69 25 (s_iload 3) := ok_iload_n (k9 := 3) (by decide +kernel) rfl rfl
theorem o69_26 : OKp l S b Lx xs dC dI cA 69 26 (s_invV (dv1 10 70 2) [] 1) := ok_invV (dv1_ok vc_RX10_48_10 rfl (by decide) (hXX 70 (by decide))) (by decide +kernel) rfl
theorem o69_27 : OKp l S b Lx xs dC dI cA 69 27 (s_zret) := ok_zret (by decide +kernel) rfl
theorem o69_28 : OKp l S b Lx xs dC dI cA 69 28 (s_aload 5) := ok_aload (by decide +kernel) rfl
theorem o69_29 : OKp l S b Lx xs dC dI cA 69 29 (s_ifnull 43) := ok_ifnull (off := 27) (by decide +kernel) (by decide +kernel) rfl
theorem o69_30 : OKp l S b Lx xs dC dI cA 69 30 (s_aload 5) := ok_aload (by decide +kernel) rfl
theorem o69_31 : OKp l S b Lx xs dC dI cA 69 31 (s_iload 4) := ok_iload (by decide +kernel) rfl
theorem o69_32 : OKp l S b Lx xs dC dI cA 69 32 (s_aload 1) := ok_aload_n (k9 := 1) (by decide +kernel) rfl rfl
theorem o69_33 : OKp l S b Lx xs dC dI cA 69 33 (s_iload 2) := ok_iload_n (k9 := 2) (by decide +kernel) rfl rfl
theorem o69_34 : OKp l S b Lx xs dC dI cA 69 34 (s_const (3)) := ok_iconst (n := 3) (by decide +kernel) (by decide) rfl
theorem o69_35 : OKp l S b Lx xs dC dI cA 69 35 (s_bin g_iadd) := ok_iadd (by decide +kernel) rfl
theorem o69_36 : OKp l S b Lx xs dC dI cA 69 36 (s_invV (dv1 8 57 2) [] 1) := ok_invV (dv1_ok vc_RX10_38_8 rfl (by decide) (hXX 57 (by decide))) (by decide +kernel) rfl
theorem o69_37 : OKp l S b Lx xs dC dI cA 69 37 (s_const (48)) := ok_bipush (n := 48) (by decide +kernel) (by decide) rfl
theorem o69_38 : OKp l S b Lx xs dC dI cA 69 38 (s_bin g_isub) := ok_isub (by decide +kernel) rfl
theorem o69_39 : OKp l S b Lx xs dC dI cA 69 39 (s_invV (dv1 1 12 3) [] 2) := ok_invV (dv1_ok vc_RX10_52_1 rfl (by decide) (hXX 12 (by decide))) (by decide +kernel) rfl
theorem o69_40 : OKp l S b Lx xs dC dI cA 69 40 (s_if (fun x => x = 0) 43) := ok_if_eq (off := 7) (by decide +kernel) (by decide +kernel) rfl
theorem o69_41 : OKp l S b Lx xs dC dI cA 69 41 (s_const (1)) := ok_iconst (n := 1) (by decide +kernel) (by decide) rfl
theorem o69_42 : OKp l S b Lx xs dC dI cA 69 42 (s_goto 44) := ok_goto (off := 4) (by decide +kernel) (by decide +kernel)
theorem o69_43 : OKp l S b Lx xs dC dI cA 69 43 (s_const (0)) := ok_iconst (n := 0) (by decide +kernel) (by decide) rfl
theorem o69_44 : OKp l S b Lx xs dC dI cA 69 44 (s_zret) := ok_zret (by decide +kernel) rfl
theorem o69_45 : OKp l S b Lx xs dC dI cA 69 45 (s_aload 0) := ok_aload_n (k9 := 0) (by decide +kernel) rfl rfl
theorem o69_46 : OKp l S b Lx xs dC dI cA 69 46 (s_iload 3) := ok_iload_n (k9 := 3) (by decide +kernel) rfl rfl
theorem o69_47 : OKp l S b Lx xs dC dI cA 69 47 (s_iload 4) := ok_iload (by decide +kernel) rfl
theorem o69_48 : OKp l S b Lx xs dC dI cA 69 48 (s_invS 136 2 2) := ok_invSN rfl rfl (by decide) (hXX 136 (by decide)) w_262 w_263 w_57 c_136 (by decide +kernel) (by decide +kernel) rfl
theorem o69_49 : OKp l S b Lx xs dC dI cA 69 49 (s_invV (dv1 10 71 2) [] 1) := ok_invV (dv1_ok vc_RX10_60_10 rfl (by decide) (hXX 71 (by decide))) (by decide +kernel) rfl
theorem o69_50 : OKp l S b Lx xs dC dI cA 69 50 (s_zret) := ok_zret (by decide +kernel) rfl
theorem o69_51 : OKp l S b Lx xs dC dI cA 69 51 (s_aload 5) := ok_aload (by decide +kernel) rfl
theorem o69_52 : OKp l S b Lx xs dC dI cA 69 52 (s_ifnull 60) := ok_ifnull (off := 19) (by decide +kernel) (by decide +kernel) rfl
theorem o69_53 : OKp l S b Lx xs dC dI cA 69 53 (s_aload 5) := ok_aload (by decide +kernel) rfl
theorem o69_54 : OKp l S b Lx xs dC dI cA 69 54 (s_iload 4) := ok_iload (by decide +kernel) rfl
theorem o69_55 : OKp l S b Lx xs dC dI cA 69 55 (s_const (-4)) := ok_bipush (n := -4) (by decide +kernel) (by decide) rfl
theorem o69_56 : OKp l S b Lx xs dC dI cA 69 56 (s_invV (dv1 1 13 3) [] 2) := ok_invV (dv1_ok vc_RX10_64_1 rfl (by decide) (hXX 13 (by decide))) (by decide +kernel) rfl
theorem o69_57 : OKp l S b Lx xs dC dI cA 69 57 (s_if (fun x => x = 0) 60) := ok_if_eq (off := 7) (by decide +kernel) (by decide +kernel) rfl
theorem o69_58 : OKp l S b Lx xs dC dI cA 69 58 (s_const (1)) := ok_iconst (n := 1) (by decide +kernel) (by decide) rfl
theorem o69_59 : OKp l S b Lx xs dC dI cA 69 59 (s_goto 61) := ok_goto (off := 4) (by decide +kernel) (by decide +kernel)
theorem o69_60 : OKp l S b Lx xs dC dI cA 69 60 (s_const (0)) := ok_iconst (n := 0) (by decide +kernel) (by decide) rfl
theorem o69_61 : OKp l S b Lx xs dC dI cA 69 61 (s_zret) := ok_zret (by decide +kernel) rfl
theorem o69_62 : OKp l S b Lx xs dC dI cA 69 62 (s_aload 0) := ok_aload_n (k9 := 0) (by decide +kernel) rfl rfl
theorem o69_63 : OKp l S b Lx xs dC dI cA 69 63 (s_iload 3) := ok_iload_n (k9 := 3) (by decide +kernel) rfl rfl
theorem o69_64 : OKp l S b Lx xs dC dI cA 69 64 (s_iload 4) := ok_iload (by decide +kernel) rfl
theorem o69_65 : OKp l S b Lx xs dC dI cA 69 65 (s_invV (dv1 10 72 8) [] 2) := ok_invV (dv1_ok vc_RX10_67_10 rfl (by decide) (hXX 72 (by decide))) (by decide +kernel) rfl
theorem o69_66 : OKp l S b Lx xs dC dI cA 69 66 (s_if (fun x => x < 0) 69) := ok_if_lt (off := 7) (by decide +kernel) (by decide +kernel) rfl
theorem o69_67 : OKp l S b Lx xs dC dI cA 69 67 (s_const (1)) := ok_iconst (n := 1) (by decide +kernel) (by decide) rfl
theorem o69_68 : OKp l S b Lx xs dC dI cA 69 68 (s_goto 70) := ok_goto (off := 4) (by decide +kernel) (by decide +kernel)
theorem o69_69 : OKp l S b Lx xs dC dI cA 69 69 (s_const (0)) := ok_iconst (n := 0) (by decide +kernel) (by decide) rfl
theorem o69_70 : OKp l S b Lx xs dC dI cA 69 70 (s_zret) := ok_zret (by decide +kernel) rfl
theorem o69_71 : OKp l S b Lx xs dC dI cA 69 71 (s_const (0)) := ok_iconst (n := 0) (by decide +kernel) (by decide) rfl
theorem o69_72 : OKp l S b Lx xs dC dI cA 69 72 (s_zret) := ok_zret (by decide +kernel) rfl
theorem a69_0 (hl9 : l.stackTraces = false) : sm_all (OKp l S b Lx xs dC dI cA 69) 0 sc_69_0 := ⟨o69_0, o69_1, o69_2, o69_3, o69_4, o69_5, o69_6, o69_7, o69_8, o69_9, o69_10, o69_11, o69_12, o69_13, o69_14, o69_15, o69_16, o69_17, o69_18, o69_19, o69_20, o69_21, o69_22, o69_23, o69_24, o69_25, o69_26, o69_27, o69_28, o69_29, o69_30, o69_31, o69_32, o69_33, o69_34, o69_35, o69_36, o69_37, o69_38, o69_39, o69_40, o69_41, o69_42, o69_43, o69_44, o69_45, o69_46, o69_47, o69_48, o69_49, o69_50, o69_51, o69_52, o69_53, o69_54, o69_55, o69_56, o69_57, o69_58, o69_59, trivial⟩
theorem a69_1 (hl9 : l.stackTraces = false) : sm_all (OKp l S b Lx xs dC dI cA 69) 60 sc_69_1 := ⟨o69_60, o69_61, o69_62, o69_63, o69_64, o69_65, o69_66, o69_67, o69_68, o69_69, o69_70, o69_71, o69_72, trivial⟩
theorem a69 (hl9 : l.stackTraces = false) : sm_all (OKp l S b Lx xs dC dI cA 69) 0 sc_69 := sm_all_app _ _ _ (a69_0 hl9) (a69_1 hl9)
theorem o70_0 : OKp l S b Lx xs dC dI cA 70 0 (s_iload 1) := ok_iload_n (k9 := 1) (by decide +kernel) rfl rfl
theorem o70_1 : OKp l S b Lx xs dC dI cA 70 1 (s_const (1)) := ok_iconst (n := 1) (by decide +kernel) (by decide) rfl
theorem o70_2 : OKp l S b Lx xs dC dI cA 70 2 (s_icmp (fun x y => x < y) 10) := ok_icmp_lt (off := 17) (by decide +kernel) (by decide +kernel) rfl
theorem o70_3 : OKp l S b Lx xs dC dI cA 70 3 (s_iload 1) := ok_iload_n (k9 := 1) (by decide +kernel) rfl rfl
theorem o70_4 : OKp l S b Lx xs dC dI cA 70 4 (s_const (8)) := ok_bipush (n := 8) (by decide +kernel) (by decide) rfl
theorem o70_5 : OKp l S b Lx xs dC dI cA 70 5 (s_icmp (fun x y => y < x) 10) := ok_icmp_gt (off := 11) (by decide +kernel) (by decide +kernel) rfl
theorem o70_6 : OKp l S b Lx xs dC dI cA 70 6 (s_aload 0) := ok_aload_n (k9 := 0) (by decide +kernel) rfl rfl
theorem o70_7 : OKp l S b Lx xs dC dI cA 70 7 (s_getI (fun t => t == 10) 2) := ok_getI (by decide +kernel) rfl fd_RX10_23
theorem o70_8 : OKp l S b Lx xs dC dI cA 70 8 (s_const (4)) := ok_iconst (n := 4) (by decide +kernel) (by decide) rfl
theorem o70_9 : OKp l S b Lx xs dC dI cA 70 9 (s_icmp (fun x y => x < y) 12) := ok_icmp_lt (off := 5) (by decide +kernel) (by decide +kernel) rfl
theorem o70_10 : OKp l S b Lx xs dC dI cA 70 10 (s_const (0)) := ok_iconst (n := 0) (by decide +kernel) (by decide) rfl
theorem o70_11 : OKp l S b Lx xs dC dI cA 70 11 (s_zret) := ok_zret (by decide +kernel) rfl
theorem o70_12 : OKp l S b Lx xs dC dI cA 70 12 (s_aload 0) := ok_aload_n (k9 := 0) (by decide +kernel) rfl rfl
theorem o70_13 : OKp l S b Lx xs dC dI cA 70 13 (s_getR (fun t => t == 10) 0) := ok_getR (by decide +kernel) rfl fd_RX10_11
theorem o70_14 : OKp l S b Lx xs dC dI cA 70 14 (s_aload 0) := ok_aload_n (k9 := 0) (by decide +kernel) rfl rfl
theorem o70_15 : OKp l S b Lx xs dC dI cA 70 15 (s_getI (fun t => t == 10) 2) := ok_getI (by decide +kernel) rfl fd_RX10_23
theorem o70_16 : OKp l S b Lx xs dC dI cA 70 16 (s_aald 53) := ok_aald (t := 53) (by decide) (fun _ => rfl) (by decide) (by decide +kernel) rfl
theorem o70_17 : OKp l S b Lx xs dC dI cA 70 17 (s_iload 1) := ok_iload_n (k9 := 1) (by decide +kernel) rfl rfl
theorem o70_18 : OKp l S b Lx xs dC dI cA 70 18 (s_invV (dv1 1 5 3) [] 1) := ok_invV (dv1_ok vc_RX10_71_1 rfl (by decide) (hXX 5 (by decide))) (by decide +kernel) rfl
theorem o70_19 : OKp l S b Lx xs dC dI cA 70 19 (s_aload 0) := ok_aload_n (k9 := 0) (by decide +kernel) rfl rfl
theorem o70_20 : OKp l S b Lx xs dC dI cA 70 20 (s_dup) := ok_dup (by decide +kernel) rfl
theorem o70_21 : OKp l S b Lx xs dC dI cA 70 21 (s_getI (fun t => t == 10) 2) := ok_getI (by decide +kernel) rfl fd_RX10_23
theorem o70_22 : OKp l S b Lx xs dC dI cA 70 22 (s_const (1)) := ok_iconst (n := 1) (by decide +kernel) (by decide) rfl
theorem o70_23 : OKp l S b Lx xs dC dI cA 70 23 (s_bin g_iadd) := ok_iadd (by decide +kernel) rfl
theorem o70_24 : OKp l S b Lx xs dC dI cA 70 24 (s_putI 10 2) := ok_putI (by decide +kernel) rfl fp_RX10_23 rfl
theorem o70_25 : OKp l S b Lx xs dC dI cA 70 25 (s_const (1)) := ok_iconst (n := 1) (by decide +kernel) (by decide) rfl
theorem o70_26 : OKp l S b Lx xs dC dI cA 70 26 (s_zret) := ok_zret (by decide +kernel) rfl
theorem a70 (hl9 : l.stackTraces = false) : sm_all (OKp l S b Lx xs dC dI cA 70) 0 sc_70 := ⟨o70_0, o70_1, o70_2, o70_3, o70_4, o70_5, o70_6, o70_7, o70_8, o70_9, o70_10, o70_11, o70_12, o70_13, o70_14, o70_15, o70_16, o70_17, o70_18, o70_19, o70_20, o70_21, o70_22, o70_23, o70_24, o70_25, o70_26, trivial⟩
theorem o71_0 : OKp l S b Lx xs dC dI cA 71 0 (s_aload 1) := ok_aload_n (k9 := 1) (by decide +kernel) rfl rfl
theorem o71_1 : OKp l S b Lx xs dC dI cA 71 1 (s_ifnull 6) := ok_ifnull (off := 12) (by decide +kernel) (by decide +kernel) rfl
theorem o71_2 : OKp l S b Lx xs dC dI cA 71 2 (s_aload 0) := ok_aload_n (k9 := 0) (by decide +kernel) rfl rfl
theorem o71_3 : OKp l S b Lx xs dC dI cA 71 3 (s_getI (fun t => t == 10) 3) := ok_getI (by decide +kernel) rfl fd_RX10_27
theorem o71_4 : OKp l S b Lx xs dC dI cA 71 4 (s_const (6)) := ok_bipush (n := 6) (by decide +kernel) (by decide) rfl
theorem o71_5 : OKp l S b Lx xs dC dI cA 71 5 (s_icmp (fun x y => x < y) 8) := ok_icmp_lt (off := 5) (by decide +kernel) (by decide +kernel) rfl
theorem o71_6 : OKp l S b Lx xs dC dI cA 71 6 (s_const (0)) := ok_iconst (n := 0) (by decide +kernel) (by decide) rfl
theorem o71_7 : OKp l S b Lx xs dC dI cA 71 7 (s_zret) := ok_zret (by decide +kernel) rfl
theorem o71_8 : OKp l S b Lx xs dC dI cA 71 8 (s_aload 0) := ok_aload_n (k9 := 0) (by decide +kernel) rfl rfl
theorem o71_9 : OKp l S b Lx xs dC dI cA 71 9 (s_getR (fun t => t == 10) 1) := ok_getR (by decide +kernel) rfl fd_RX10_19
theorem o71_10 : OKp l S b Lx xs dC dI cA 71 10 (s_aload 0) := ok_aload_n (k9 := 0) (by decide +kernel) rfl rfl
theorem o71_11 : OKp l S b Lx xs dC dI cA 71 11 (s_getI (fun t => t == 10) 3) := ok_getI (by decide +kernel) rfl fd_RX10_27
theorem o71_12 : OKp l S b Lx xs dC dI cA 71 12 (s_aload 1) := ok_aload_n (k9 := 1) (by decide +kernel) rfl rfl
theorem o71_13 : OKp l S b Lx xs dC dI cA 71 13 (s_aast 52 isRd) := ok_aast (t := 52) (by decide) (fun _ => rfl) (by decide) casR (by decide +kernel) rfl
theorem o71_14 : OKp l S b Lx xs dC dI cA 71 14 (s_aload 0) := ok_aload_n (k9 := 0) (by decide +kernel) rfl rfl
theorem o71_15 : OKp l S b Lx xs dC dI cA 71 15 (s_dup) := ok_dup (by decide +kernel) rfl
theorem o71_16 : OKp l S b Lx xs dC dI cA 71 16 (s_getI (fun t => t == 10) 3) := ok_getI (by decide +kernel) rfl fd_RX10_27
theorem o71_17 : OKp l S b Lx xs dC dI cA 71 17 (s_const (1)) := ok_iconst (n := 1) (by decide +kernel) (by decide) rfl
theorem o71_18 : OKp l S b Lx xs dC dI cA 71 18 (s_bin g_iadd) := ok_iadd (by decide +kernel) rfl
theorem o71_19 : OKp l S b Lx xs dC dI cA 71 19 (s_putI 10 3) := ok_putI (by decide +kernel) rfl fp_RX10_27 rfl
theorem o71_20 : OKp l S b Lx xs dC dI cA 71 20 (s_const (1)) := ok_iconst (n := 1) (by decide +kernel) (by decide) rfl
theorem o71_21 : OKp l S b Lx xs dC dI cA 71 21 (s_zret) := ok_zret (by decide +kernel) rfl
theorem a71 (hl9 : l.stackTraces = false) : sm_all (OKp l S b Lx xs dC dI cA 71) 0 sc_71 := ⟨o71_0, o71_1, o71_2, o71_3, o71_4, o71_5, o71_6, o71_7, o71_8, o71_9, o71_10, o71_11, o71_12, o71_13, o71_14, o71_15, o71_16, o71_17, o71_18, o71_19, o71_20, o71_21, trivial⟩
theorem o72_0 : OKp l S b Lx xs dC dI cA 72 0 (s_aload 0) := ok_aload_n (k9 := 0) (by decide +kernel) rfl rfl
theorem o72_1 : OKp l S b Lx xs dC dI cA 72 1 (s_iload 1) := ok_iload_n (k9 := 1) (by decide +kernel) rfl rfl
theorem o72_2 : OKp l S b Lx xs dC dI cA 72 2 (s_invV (dv1 10 68 2) [] 1) := ok_invV (dv1_ok vc_RX10_75_10 rfl (by decide) (hXX 68 (by decide))) (by decide +kernel) rfl
theorem o72_3 : OKp l S b Lx xs dC dI cA 72 3 (s_astore 3) := ok_astore_n (k9 := 3) (by decide +kernel) rfl rfl
theorem o72_4 : OKp l S b Lx xs dC dI cA 72 4 (s_aload 0) := ok_aload_n (k9 := 0) (by decide +kernel) rfl rfl
theorem o72_5 : OKp l S b Lx xs dC dI cA 72 5 (s_iload 2) := ok_iload_n (k9 := 2) (by decide +kernel) rfl rfl
theorem o72_6 : OKp l S b Lx xs dC dI cA 72 6 (s_invV (dv1 10 67 2) [] 1) := ok_invV (dv1_ok vc_RX10_44_10 rfl (by decide) (hXX 67 (by decide))) (by decide +kernel) rfl
theorem o72_7 : OKp l S b Lx xs dC dI cA 72 7 (s_astore 4) := ok_astore (by decide +kernel) rfl
theorem o72_8 : OKp l S b Lx xs dC dI cA 72 8 (s_aload 3) := ok_aload_n (k9 := 3) (by decide +kernel) rfl rfl
theorem o72_9 : OKp l S b Lx xs dC dI cA 72 9 (s_ifnull 12) := ok_ifnull (off := 8) (by decide +kernel) (by decide +kernel) rfl
theorem o72_10 : OKp l S b Lx xs dC dI cA 72 10 (s_aload 4) := ok_aload (by decide +kernel) rfl
theorem o72_11 : OKp l S b Lx xs dC dI cA 72 11 (s_ifnonnull 14) := ok_ifnonnull (off := 5) (by decide +kernel) (by decide +kernel) rfl
theorem o72_12 : OKp l S b Lx xs dC dI cA 72 12 (s_const (-1)) := ok_iconst (n := -1) (by decide +kernel) (by decide) rfl
theorem o72_13 : OKp l S b Lx xs dC dI cA 72 13 (s_ret) := ok_ret (by decide +kernel) rfl
theorem o72_14 : OKp l S b Lx xs dC dI cA 72 14 (s_aload 3) := ok_aload_n (k9 := 3) (by decide +kernel) rfl rfl
theorem o72_15 : OKp l S b Lx xs dC dI cA 72 15 (s_aload 4) := ok_aload (by decide +kernel) rfl
theorem o72_16 : OKp l S b Lx xs dC dI cA 72 16 (s_aload 4) := ok_aload (by decide +kernel) rfl
theorem o72_17 : OKp l S b Lx xs dC dI cA 72 17 (s_getI (fun t => t == 1) 3) := ok_getI (by decide +kernel) rfl fd_RX10_79
theorem o72_18 : OKp l S b Lx xs dC dI cA 72 18 (s_invV dv_3 [] 2) := ok_invV (by intro t y ml h; unfold dv_3 at h; by_cases h0 : t = 0; (subst h0; simp at h; obtain ⟨rfl, rfl⟩ := h; exact ⟨vc_RX10_82_0, rfl, by decide, hXX 47 (by decide)⟩); by_cases h2 : t = 2; (subst h2; simp at h; obtain ⟨rfl, rfl⟩ := h; exact ⟨vc_RX10_82_2, rfl, by decide, hXX 47 (by decide)⟩); by_cases h3 : t = 3; (subst h3; simp at h; obtain ⟨rfl, rfl⟩ := h; exact ⟨vc_RX10_82_3, rfl, by decide, hXX 47 (by decide)⟩); by_cases h4 : t = 4; (subst h4; simp at h; obtain ⟨rfl, rfl⟩ := h; exact ⟨vc_RX10_82_4, rfl, by decide, hXX 47 (by decide)⟩); by_cases h5 : t = 5; (subst h5; simp at h; obtain ⟨rfl, rfl⟩ := h; exact ⟨vc_RX10_82_5, rfl, by decide, hXX 47 (by decide)⟩); by_cases h6 : t = 6; (subst h6; simp at h; obtain ⟨rfl, rfl⟩ := h; exact ⟨vc_RX10_82_6, rfl, by decide, hXX 40 (by decide)⟩); by_cases h7 : t = 7; (subst h7; simp at h; obtain ⟨rfl, rfl⟩ := h; exact ⟨vc_RX10_82_7, rfl, by decide, hXX 47 (by decide)⟩); by_cases h9 : t = 9; (subst h9; simp at h; obtain ⟨rfl, rfl⟩ := h; exact ⟨vc_RX10_82_9, rfl, by decide, hXX 61 (by decide)⟩); simp [h0, h2, h3, h4, h5, h6, h7, h9] at h) (by decide +kernel) rfl
theorem o72_19 : OKp l S b Lx xs dC dI cA 72 19 (s_istore 5) := ok_istore (by decide +kernel) rfl
theorem o72_20 : OKp l S b Lx xs dC dI cA 72 20 (s_aload 3) := ok_aload_n (k9 := 3) (by decide +kernel) rfl rfl
theorem o72_21 : OKp l S b Lx xs dC dI cA 72 21 (s_aload 4) := ok_aload (by decide +kernel) rfl
theorem o72_22 : OKp l S b Lx xs dC dI cA 72 22 (s_aload 4) := ok_aload (by decide +kernel) rfl
theorem o72_23 : OKp l S b Lx xs dC dI cA 72 23 (s_getI (fun t => t == 1) 3) := ok_getI (by decide +kernel) rfl fd_RX10_79
theorem o72_24 : OKp l S b Lx xs dC dI cA 72 24 (s_invV dv_4 [] 2) := ok_invV (by intro t y ml h; unfold dv_4 at h; by_cases h0 : t = 0; (subst h0; simp at h; obtain ⟨rfl, rfl⟩ := h; exact ⟨vc_RX10_86_0, rfl, by decide, hXX 49 (by decide)⟩); by_cases h2 : t = 2; (subst h2; simp at h; obtain ⟨rfl, rfl⟩ := h; exact ⟨vc_RX10_86_2, rfl, by decide, hXX 21 (by decide)⟩); by_cases h3 : t = 3; (subst h3; simp at h; obtain ⟨rfl, rfl⟩ := h; exact ⟨vc_RX10_86_3, rfl, by decide, hXX 49 (by decide)⟩); by_cases h4 : t = 4; (subst h4; simp at h; obtain ⟨rfl, rfl⟩ := h; exact ⟨vc_RX10_86_4, rfl, by decide, hXX 49 (by decide)⟩); by_cases h5 : t = 5; (subst h5; simp at h; obtain ⟨rfl, rfl⟩ := h; exact ⟨vc_RX10_86_5, rfl, by decide, hXX 49 (by decide)⟩); by_cases h6 : t = 6; (subst h6; simp at h; obtain ⟨rfl, rfl⟩ := h; exact ⟨vc_RX10_86_6, rfl, by decide, hXX 49 (by decide)⟩); by_cases h7 : t = 7; (subst h7; simp at h; obtain ⟨rfl, rfl⟩ := h; exact ⟨vc_RX10_86_7, rfl, by decide, hXX 49 (by decide)⟩); by_cases h9 : t = 9; (subst h9; simp at h; obtain ⟨rfl, rfl⟩ := h; exact ⟨vc_RX10_86_9, rfl, by decide, hXX 49 (by decide)⟩); simp [h0, h2, h3, h4, h5, h6, h7, h9] at h) (by decide +kernel) rfl
theorem o72_25 : OKp l S b Lx xs dC dI cA 72 25 (s_istore 6) := ok_istore (by decide +kernel) rfl
theorem o72_26 : OKp l S b Lx xs dC dI cA 72 26 (s_const (0)) := ok_iconst (n := 0) (by decide +kernel) (by decide) rfl
theorem o72_27 : OKp l S b Lx xs dC dI cA 72 27 (s_istore 7) := ok_istore (by decide +kernel) rfl
theorem o72_28 : OKp l S b Lx xs dC dI cA 72 28 (s_iload 7) := ok_iload (by decide +kernel) rfl
theorem o72_29 : OKp l S b Lx xs dC dI cA 72 29 (s_const (8)) := ok_bipush (n := 8) (by decide +kernel) (by decide) rfl
theorem o72_30 : OKp l S b Lx xs dC dI cA 72 30 (s_icmp (fun x y => y ≤ x) 44) := ok_icmp_ge (off := 28) (by decide +kernel) (by decide +kernel) rfl
theorem o72_31 : OKp l S b Lx xs dC dI cA 72 31 (s_iload 6) := ok_iload (by decide +kernel) rfl
theorem o72_32 : OKp l S b Lx xs dC dI cA 72 32 (s_iload 7) := ok_iload (by decide +kernel) rfl
theorem o72_33 : OKp l S b Lx xs dC dI cA 72 33 (s_bin g_ishr) := ok_ishr (by decide +kernel) rfl
theorem o72_34 : OKp l S b Lx xs dC dI cA 72 34 (s_const (1)) := ok_iconst (n := 1) (by decide +kernel) (by decide) rfl
theorem o72_35 : OKp l S b Lx xs dC dI cA 72 35 (s_bin g_iand) := ok_iand (by decide +kernel) rfl
theorem o72_36 : OKp l S b Lx xs dC dI cA 72 36 (s_if (fun x => x = 0) 42) := ok_if_eq (off := 12) (by decide +kernel) (by decide +kernel) rfl
theorem o72_37 : OKp l S b Lx xs dC dI cA 72 37 (s_aload 4) := ok_aload (by decide +kernel) rfl
theorem o72_38 : OKp l S b Lx xs dC dI cA 72 38 (s_iload 7) := ok_iload (by decide +kernel) rfl
theorem o72_39 : OKp l S b Lx xs dC dI cA 72 39 (s_iload 1) := ok_iload_n (k9 := 1) (by decide +kernel) rfl rfl
theorem o72_40 : OKp l S b Lx xs dC dI cA 72 40 (s_invV (dv1 1 13 3) [] 2) := ok_invV (dv1_ok vc_RX10_64_1 rfl (by decide) (hXX 13 (by decide))) (by decide +kernel) rfl
theorem o72_41 : OKp l S b Lx xs dC dI cA 72 41 (s_pop) := ok_pop (by decide +kernel) rfl
theorem o72_42 : OKp l S b Lx xs dC dI cA 72 42 (s_iinc 7 (1)) := ok_iinc (n := 1) (by decide +kernel) (by decide) rfl
theorem o72_43 : OKp l S b Lx xs dC dI cA 72 43 (s_goto 28) := ok_goto (off := -29) (by decide +kernel) (by decide +kernel)
theorem o72_44 : OKp l S b Lx xs dC dI cA 72 44 (s_aload 0) := ok_aload_n (k9 := 0) (by decide +kernel) rfl rfl
theorem o72_45 : OKp l S b Lx xs dC dI cA 72 45 (s_dup) := ok_dup (by decide +kernel) rfl
theorem o72_46 : OKp l S b Lx xs dC dI cA 72 46 (s_getI (fun t => t == 10) 4) := ok_getI (by decide +kernel) rfl fd_RX10_30
theorem o72_47 : OKp l S b Lx xs dC dI cA 72 47 (s_const (1)) := ok_iconst (n := 1) (by decide +kernel) (by decide) rfl
theorem o72_48 : OKp l S b Lx xs dC dI cA 72 48 (s_bin g_iadd) := ok_iadd (by decide +kernel) rfl
theorem o72_49 : OKp l S b Lx xs dC dI cA 72 49 (s_putI 10 4) := ok_putI (by decide +kernel) rfl fp_RX10_30 rfl
theorem o72_50 : OKp l S b Lx xs dC dI cA 72 50 (s_iload 5) := ok_iload (by decide +kernel) rfl
theorem o72_51 : OKp l S b Lx xs dC dI cA 72 51 (s_ret) := ok_ret (by decide +kernel) rfl
theorem a72 (hl9 : l.stackTraces = false) : sm_all (OKp l S b Lx xs dC dI cA 72) 0 sc_72 := ⟨o72_0, o72_1, o72_2, o72_3, o72_4, o72_5, o72_6, o72_7, o72_8, o72_9, o72_10, o72_11, o72_12, o72_13, o72_14, o72_15, o72_16, o72_17, o72_18, o72_19, o72_20, o72_21, o72_22, o72_23, o72_24, o72_25, o72_26, o72_27, o72_28, o72_29, o72_30, o72_31, o72_32, o72_33, o72_34, o72_35, o72_36, o72_37, o72_38, o72_39, o72_40, o72_41, o72_42, o72_43, o72_44, o72_45, o72_46, o72_47, o72_48, o72_49, o72_50, o72_51, trivial⟩
theorem o73_0 : OKp l S b Lx xs dC dI cA 73 0 (s_const (0)) := ok_iconst (n := 0) (by decide +kernel) (by decide) rfl
theorem o73_1 : OKp l S b Lx xs dC dI cA 73 1 (s_istore 2) := ok_istore_n (k9 := 2) (by decide +kernel) rfl rfl
theorem o73_2 : OKp l S b Lx xs dC dI cA 73 2 (s_aload 0) := ok_aload_n (k9 := 0) (by decide +kernel) rfl rfl
theorem o73_3 : OKp l S b Lx xs dC dI cA 73 3 (s_getR (fun t => t == 10) 0) := ok_getR (by decide +kernel) rfl fd_RX10_11
theorem o73_4 : OKp l S b Lx xs dC dI cA 73 4 (s_astore 3) := ok_astore_n (k9 := 3) (by decide +kernel) rfl rfl
theorem o73_5 : OKp l S b Lx xs dC dI cA 73 5 (s_aload 3) := ok_aload_n (k9 := 3) (by decide +kernel) rfl rfl
theorem o73_6 : OKp l S b Lx xs dC dI cA 73 6 (s_alen) := ok_alen (by decide +kernel) rfl
theorem o73_7 : OKp l S b Lx xs dC dI cA 73 7 (s_istore 4) := ok_istore (by decide +kernel) rfl
theorem o73_8 : OKp l S b Lx xs dC dI cA 73 8 (s_const (0)) := ok_iconst (n := 0) (by decide +kernel) (by decide) rfl
theorem o73_9 : OKp l S b Lx xs dC dI cA 73 9 (s_istore 5) := ok_istore (by decide +kernel) rfl
theorem o73_10 : OKp l S b Lx xs dC dI cA 73 10 (s_iload 5) := ok_iload (by decide +kernel) rfl
theorem o73_11 : OKp l S b Lx xs dC dI cA 73 11 (s_iload 4) := ok_iload (by decide +kernel) rfl
theorem o73_12 : OKp l S b Lx xs dC dI cA 73 12 (s_icmp (fun x y => y ≤ x) 31) := ok_icmp_ge (off := 38) (by decide +kernel) (by decide +kernel) rfl
theorem o73_13 : OKp l S b Lx xs dC dI cA 73 13 (s_aload 3) := ok_aload_n (k9 := 3) (by decide +kernel) rfl rfl
theorem o73_14 : OKp l S b Lx xs dC dI cA 73 14 (s_iload 5) := ok_iload (by decide +kernel) rfl
theorem o73_15 : OKp l S b Lx xs dC dI cA 73 15 (s_aald 53) := ok_aald (t := 53) (by decide) (fun _ => rfl) (by decide) (by decide +kernel) rfl
theorem o73_16 : OKp l S b Lx xs dC dI cA 73 16 (s_astore 6) := ok_astore (by decide +kernel) rfl
theorem o73_17 : OKp l S b Lx xs dC dI cA 73 17 (s_aload 6) := ok_aload (by decide +kernel) rfl
theorem o73_18 : OKp l S b Lx xs dC dI cA 73 18 (s_iload 1) := ok_iload_n (k9 := 1) (by decide +kernel) rfl rfl
theorem o73_19 : OKp l S b Lx xs dC dI cA 73 19 (s_invV (dv1 1 14 4) [] 1) := ok_invV (dv1_ok vc_RX10_89_1 rfl (by decide) (hXX 14 (by decide))) (by decide +kernel) rfl
theorem o73_20 : OKp l S b Lx xs dC dI cA 73 20 (s_istore 7) := ok_istore (by decide +kernel) rfl
theorem o73_21 : OKp l S b Lx xs dC dI cA 73 21 (s_aload 6) := ok_aload (by decide +kernel) rfl
theorem o73_22 : OKp l S b Lx xs dC dI cA 73 22 (s_iload 7) := ok_iload (by decide +kernel) rfl
theorem o73_23 : OKp l S b Lx xs dC dI cA 73 23 (s_invV (dv1 1 15 3) [] 1) := ok_invV (dv1_ok vc_RX10_92_1 rfl (by decide) (hXX 15 (by decide))) (by decide +kernel) rfl
theorem o73_24 : OKp l S b Lx xs dC dI cA 73 24 (s_iload 2) := ok_iload_n (k9 := 2) (by decide +kernel) rfl rfl
theorem o73_25 : OKp l S b Lx xs dC dI cA 73 25 (s_iload 7) := ok_iload (by decide +kernel) rfl
theorem o73_26 : OKp l S b Lx xs dC dI cA 73 26 (s_invS 224 1 1) := ok_invS rfl rfl (by decide) (hXX 224 (by decide)) w_533 w_392 w_71 c_224 (by decide +kernel) (by decide +kernel) rfl
theorem o73_27 : OKp l S b Lx xs dC dI cA 73 27 (s_bin g_iadd) := ok_iadd (by decide +kernel) rfl
theorem o73_28 : OKp l S b Lx xs dC dI cA 73 28 (s_istore 2) := ok_istore_n (k9 := 2) (by decide +kernel) rfl rfl
theorem o73_29 : OKp l S b Lx xs dC dI cA 73 29 (s_iinc 5 (1)) := ok_iinc (n := 1) (by decide +kernel) (by decide) rfl
theorem o73_30 : OKp l S b Lx xs dC dI cA 73 30 (s_goto 10) := ok_goto (off := -39) (by decide +kernel) (by decide +kernel)
theorem o73_31 : OKp l S b Lx xs dC dI cA 73 31 (s_iload 2) := ok_iload_n (k9 := 2) (by decide +kernel) rfl rfl
theorem o73_32 : OKp l S b Lx xs dC dI cA 73 32 (s_ret) := ok_ret (by decide +kernel) rfl
theorem a73 (hl9 : l.stackTraces = false) : sm_all (OKp l S b Lx xs dC dI cA 73) 0 sc_73 := ⟨o73_0, o73_1, o73_2, o73_3, o73_4, o73_5, o73_6, o73_7, o73_8, o73_9, o73_10, o73_11, o73_12, o73_13, o73_14, o73_15, o73_16, o73_17, o73_18, o73_19, o73_20, o73_21, o73_22, o73_23, o73_24, o73_25, o73_26, o73_27, o73_28, o73_29, o73_30, o73_31, o73_32, trivial⟩
theorem o74_0 : OKp l S b Lx xs dC dI cA 74 0 (s_const (0)) := ok_iconst (n := 0) (by decide +kernel) (by decide) rfl
theorem o74_1 : OKp l S b Lx xs dC dI cA 74 1 (s_istore 2) := ok_istore_n (k9 := 2) (by decide +kernel) rfl rfl
theorem o74_2 : OKp l S b Lx xs dC dI cA 74 2 (s_aload 0) := ok_aload_n (k9 := 0) (by decide +kernel) rfl rfl
theorem o74_3 : OKp l S b Lx xs dC dI cA 74 3 (s_getR (fun t => t == 10) 0) := ok_getR (by decide +kernel) rfl fd_RX10_11
theorem o74_4 : OKp l S b Lx xs dC dI cA 74 4 (s_astore 3) := ok_astore_n (k9 := 3) (by decide +kernel) rfl rfl
theorem o74_5 : OKp l S b Lx xs dC dI cA 74 5 (s_aload 3) := ok_aload_n (k9 := 3) (by decide +kernel) rfl rfl
theorem o74_6 : OKp l S b Lx xs dC dI cA 74 6 (s_alen) := ok_alen (by decide +kernel) rfl
theorem o74_7 : OKp l S b Lx xs dC dI cA 74 7 (s_istore 4) := ok_istore (by decide +kernel) rfl
theorem o74_8 : OKp l S b Lx xs dC dI cA 74 8 (s_const (0)) := ok_iconst (n := 0) (by decide +kernel) (by decide) rfl
theorem o74_9 : OKp l S b Lx xs dC dI cA 74 9 (s_istore 5) := ok_istore (by decide +kernel) rfl
theorem o74_10 : OKp l S b Lx xs dC dI cA 74 10 (s_iload 5) := ok_iload (by decide +kernel) rfl
theorem o74_11 : OKp l S b Lx xs dC dI cA 74 11 (s_iload 4) := ok_iload (by decide +kernel) rfl
theorem o74_12 : OKp l S b Lx xs dC dI cA 74 12 (s_icmp (fun x y => y ≤ x) 26) := ok_icmp_ge (off := 27) (by decide +kernel) (by decide +kernel) rfl
theorem o74_13 : OKp l S b Lx xs dC dI cA 74 13 (s_aload 3) := ok_aload_n (k9 := 3) (by decide +kernel) rfl rfl
theorem o74_14 : OKp l S b Lx xs dC dI cA 74 14 (s_iload 5) := ok_iload (by decide +kernel) rfl
theorem o74_15 : OKp l S b Lx xs dC dI cA 74 15 (s_aald 53) := ok_aald (t := 53) (by decide) (fun _ => rfl) (by decide) (by decide +kernel) rfl
theorem o74_16 : OKp l S b Lx xs dC dI cA 74 16 (s_astore 6) := ok_astore (by decide +kernel) rfl
theorem o74_17 : OKp l S b Lx xs dC dI cA 74 17 (s_iload 2) := ok_iload_n (k9 := 2) (by decide +kernel) rfl rfl
theorem o74_18 : OKp l S b Lx xs dC dI cA 74 18 (s_aload 6) := ok_aload (by decide +kernel) rfl
theorem o74_19 : OKp l S b Lx xs dC dI cA 74 19 (s_iload 1) := ok_iload_n (k9 := 1) (by decide +kernel) rfl rfl
theorem o74_20 : OKp l S b Lx xs dC dI cA 74 20 (s_invV (dv1 1 14 4) [] 1) := ok_invV (dv1_ok vc_RX10_89_1 rfl (by decide) (hXX 14 (by decide))) (by decide +kernel) rfl
theorem o74_21 : OKp l S b Lx xs dC dI cA 74 21 (s_invS 224 1 1) := ok_invS rfl rfl (by decide) (hXX 224 (by decide)) w_533 w_392 w_71 c_224 (by decide +kernel) (by decide +kernel) rfl
theorem o74_22 : OKp l S b Lx xs dC dI cA 74 22 (s_bin g_iadd) := ok_iadd (by decide +kernel) rfl
theorem o74_23 : OKp l S b Lx xs dC dI cA 74 23 (s_istore 2) := ok_istore_n (k9 := 2) (by decide +kernel) rfl rfl
theorem o74_24 : OKp l S b Lx xs dC dI cA 74 24 (s_iinc 5 (1)) := ok_iinc (n := 1) (by decide +kernel) (by decide) rfl
theorem o74_25 : OKp l S b Lx xs dC dI cA 74 25 (s_goto 10) := ok_goto (off := -28) (by decide +kernel) (by decide +kernel)
theorem o74_26 : OKp l S b Lx xs dC dI cA 74 26 (s_iload 2) := ok_iload_n (k9 := 2) (by decide +kernel) rfl rfl
theorem o74_27 : OKp l S b Lx xs dC dI cA 74 27 (s_ret) := ok_ret (by decide +kernel) rfl
theorem a74 (hl9 : l.stackTraces = false) : sm_all (OKp l S b Lx xs dC dI cA 74) 0 sc_74 := ⟨o74_0, o74_1, o74_2, o74_3, o74_4, o74_5, o74_6, o74_7, o74_8, o74_9, o74_10, o74_11, o74_12, o74_13, o74_14, o74_15, o74_16, o74_17, o74_18, o74_19, o74_20, o74_21, o74_22, o74_23, o74_24, o74_25, o74_26, o74_27, trivial⟩
theorem o75_0 : OKp l S b Lx xs dC dI cA 75 0 (s_const (0)) := ok_iconst (n := 0) (by decide +kernel) (by decide) rfl
theorem o75_1 : OKp l S b Lx xs dC dI cA 75 1 (s_istore 1) := ok_istore_n (k9 := 1) (by decide +kernel) rfl rfl
theorem o75_2 : OKp l S b Lx xs dC dI cA 75 2 (s_aload 0) := ok_aload_n (k9 := 0) (by decide +kernel) rfl rfl
theorem o75_3 : OKp l S b Lx xs dC dI cA 75 3 (s_getR (fun t => t == 10) 0) := ok_getR (by decide +kernel) rfl fd_RX10_11
theorem o75_4 : OKp l S b Lx xs dC dI cA 75 4 (s_astore 2) := ok_astore_n (k9 := 2) (by decide +kernel) rfl rfl
theorem o75_5 : OKp l S b Lx xs dC dI cA 75 5 (s_aload 2) := ok_aload_n (k9 := 2) (by decide +kernel) rfl rfl
theorem o75_6 : OKp l S b Lx xs dC dI cA 75 6 (s_alen) := ok_alen (by decide +kernel) rfl
theorem o75_7 : OKp l S b Lx xs dC dI cA 75 7 (s_istore 3) := ok_istore_n (k9 := 3) (by decide +kernel) rfl rfl
theorem o75_8 : OKp l S b Lx xs dC dI cA 75 8 (s_const (0)) := ok_iconst (n := 0) (by decide +kernel) (by decide) rfl
theorem o75_9 : OKp l S b Lx xs dC dI cA 75 9 (s_istore 4) := ok_istore (by decide +kernel) rfl
theorem o75_10 : OKp l S b Lx xs dC dI cA 75 10 (s_iload 4) := ok_iload (by decide +kernel) rfl
theorem o75_11 : OKp l S b Lx xs dC dI cA 75 11 (s_iload 3) := ok_iload_n (k9 := 3) (by decide +kernel) rfl rfl
theorem o75_12 : OKp l S b Lx xs dC dI cA 75 12 (s_icmp (fun x y => y ≤ x) 25) := ok_icmp_ge (off := 26) (by decide +kernel) (by decide +kernel) rfl
theorem o75_13 : OKp l S b Lx xs dC dI cA 75 13 (s_aload 2) := ok_aload_n (k9 := 2) (by decide +kernel) rfl rfl
theorem o75_14 : OKp l S b Lx xs dC dI cA 75 14 (s_iload 4) := ok_iload (by decide +kernel) rfl
theorem o75_15 : OKp l S b Lx xs dC dI cA 75 15 (s_aald 53) := ok_aald (t := 53) (by decide) (fun _ => rfl) (by decide) (by decide +kernel) rfl
theorem o75_16 : OKp l S b Lx xs dC dI cA 75 16 (s_astore 5) := ok_astore (by decide +kernel) rfl
theorem o75_17 : OKp l S b Lx xs dC dI cA 75 17 (s_iload 1) := ok_iload_n (k9 := 1) (by decide +kernel) rfl rfl
theorem o75_18 : OKp l S b Lx xs dC dI cA 75 18 (s_aload 5) := ok_aload (by decide +kernel) rfl
theorem o75_19 : OKp l S b Lx xs dC dI cA 75 19 (s_getI (fun t => t == 1) 3) := ok_getI (by decide +kernel) rfl fd_RX10_79
theorem o75_20 : OKp l S b Lx xs dC dI cA 75 20 (s_invS 224 1 1) := ok_invS rfl rfl (by decide) (hXX 224 (by decide)) w_533 w_392 w_71 c_224 (by decide +kernel) (by decide +kernel) rfl
theorem o75_21 : OKp l S b Lx xs dC dI cA 75 21 (s_bin g_iadd) := ok_iadd (by decide +kernel) rfl
theorem o75_22 : OKp l S b Lx xs dC dI cA 75 22 (s_istore 1) := ok_istore_n (k9 := 1) (by decide +kernel) rfl rfl
theorem o75_23 : OKp l S b Lx xs dC dI cA 75 23 (s_iinc 4 (1)) := ok_iinc (n := 1) (by decide +kernel) (by decide) rfl
theorem o75_24 : OKp l S b Lx xs dC dI cA 75 24 (s_goto 10) := ok_goto (off := -26) (by decide +kernel) (by decide +kernel)
theorem o75_25 : OKp l S b Lx xs dC dI cA 75 25 (s_iload 1) := ok_iload_n (k9 := 1) (by decide +kernel) rfl rfl
theorem o75_26 : OKp l S b Lx xs dC dI cA 75 26 (s_ret) := ok_ret (by decide +kernel) rfl
theorem a75 (hl9 : l.stackTraces = false) : sm_all (OKp l S b Lx xs dC dI cA 75) 0 sc_75 := ⟨o75_0, o75_1, o75_2, o75_3, o75_4, o75_5, o75_6, o75_7, o75_8, o75_9, o75_10, o75_11, o75_12, o75_13, o75_14, o75_15, o75_16, o75_17, o75_18, o75_19, o75_20, o75_21, o75_22, o75_23, o75_24, o75_25, o75_26, trivial⟩
theorem o76_0 : OKp l S b Lx xs dC dI cA 76 0 (s_const (0)) := ok_iconst (n := 0) (by decide +kernel) (by decide) rfl
theorem o76_1 : OKp l S b Lx xs dC dI cA 76 1 (s_istore 1) := ok_istore_n (k9 := 1) (by decide +kernel) rfl rfl
theorem o76_2 : OKp l S b Lx xs dC dI cA 76 2 (s_aload 0) := ok_aload_n (k9 := 0) (by decide +kernel) rfl rfl
theorem o76_3 : OKp l S b Lx xs dC dI cA 76 3 (s_getR (fun t => t == 10) 0) := ok_getR (by decide +kernel) rfl fd_RX10_11
theorem o76_4 : OKp l S b Lx xs dC dI cA 76 4 (s_astore 2) := ok_astore_n (k9 := 2) (by decide +kernel) rfl rfl
theorem o76_5 : OKp l S b Lx xs dC dI cA 76 5 (s_aload 2) := ok_aload_n (k9 := 2) (by decide +kernel) rfl rfl
theorem o76_6 : OKp l S b Lx xs dC dI cA 76 6 (s_alen) := ok_alen (by decide +kernel) rfl
theorem o76_7 : OKp l S b Lx xs dC dI cA 76 7 (s_istore 3) := ok_istore_n (k9 := 3) (by decide +kernel) rfl rfl
theorem o76_8 : OKp l S b Lx xs dC dI cA 76 8 (s_const (0)) := ok_iconst (n := 0) (by decide +kernel) (by decide) rfl
theorem o76_9 : OKp l S b Lx xs dC dI cA 76 9 (s_istore 4) := ok_istore (by decide +kernel) rfl
theorem o76_10 : OKp l S b Lx xs dC dI cA 76 10 (s_iload 4) := ok_iload (by decide +kernel) rfl
theorem o76_11 : OKp l S b Lx xs dC dI cA 76 11 (s_iload 3) := ok_iload_n (k9 := 3) (by decide +kernel) rfl rfl
theorem o76_12 : OKp l S b Lx xs dC dI cA 76 12 (s_icmp (fun x y => y ≤ x) 24) := ok_icmp_ge (off := 23) (by decide +kernel) (by decide +kernel) rfl
theorem o76_13 : OKp l S b Lx xs dC dI cA 76 13 (s_aload 2) := ok_aload_n (k9 := 2) (by decide +kernel) rfl rfl
theorem o76_14 : OKp l S b Lx xs dC dI cA 76 14 (s_iload 4) := ok_iload (by decide +kernel) rfl
theorem o76_15 : OKp l S b Lx xs dC dI cA 76 15 (s_aald 53) := ok_aald (t := 53) (by decide) (fun _ => rfl) (by decide) (by decide +kernel) rfl
theorem o76_16 : OKp l S b Lx xs dC dI cA 76 16 (s_astore 5) := ok_astore (by decide +kernel) rfl
theorem o76_17 : OKp l S b Lx xs dC dI cA 76 17 (s_iload 1) := ok_iload_n (k9 := 1) (by decide +kernel) rfl rfl
theorem o76_18 : OKp l S b Lx xs dC dI cA 76 18 (s_aload 5) := ok_aload (by decide +kernel) rfl
theorem o76_19 : OKp l S b Lx xs dC dI cA 76 19 (s_getI (fun t => t == 1) 2) := ok_getI (by decide +kernel) rfl fd_RX10_100
theorem o76_20 : OKp l S b Lx xs dC dI cA 76 20 (s_bin g_iadd) := ok_iadd (by decide +kernel) rfl
theorem o76_21 : OKp l S b Lx xs dC dI cA 76 21 (s_istore 1) := ok_istore_n (k9 := 1) (by decide +kernel) rfl rfl
theorem o76_22 : OKp l S b Lx xs dC dI cA 76 22 (s_iinc 4 (1)) := ok_iinc (n := 1) (by decide +kernel) (by decide) rfl
theorem o76_23 : OKp l S b Lx xs dC dI cA 76 23 (s_goto 10) := ok_goto (off := -23) (by decide +kernel) (by decide +kernel)
theorem o76_24 : OKp l S b Lx xs dC dI cA 76 24 (s_iload 1) := ok_iload_n (k9 := 1) (by decide +kernel) rfl rfl
theorem o76_25 : OKp l S b Lx xs dC dI cA 76 25 (s_ret) := ok_ret (by decide +kernel) rfl
theorem a76 (hl9 : l.stackTraces = false) : sm_all (OKp l S b Lx xs dC dI cA 76) 0 sc_76 := ⟨o76_0, o76_1, o76_2, o76_3, o76_4, o76_5, o76_6, o76_7, o76_8, o76_9, o76_10, o76_11, o76_12, o76_13, o76_14, o76_15, o76_16, o76_17, o76_18, o76_19, o76_20, o76_21, o76_22, o76_23, o76_24, o76_25, trivial⟩
theorem o77_0 : OKp l S b Lx xs dC dI cA 77 0 (s_aload 0) := ok_aload_n (k9 := 0) (by decide +kernel) rfl rfl
theorem o77_1 : OKp l S b Lx xs dC dI cA 77 1 (s_objInit) := ok_objInit w_83 w_84 wobj (by decide +kernel) rfl
theorem o77_2 : OKp l S b Lx xs dC dI cA 77 2 (s_aload 0) := ok_aload_n (k9 := 0) (by decide +kernel) rfl rfl
theorem o77_3 : OKp l S b Lx xs dC dI cA 77 3 (s_new 10 5) := ok_new (C := RX10) (T := TX10) (ty := tyX10) rfl inX10 tyX10_ok w_86 w_87 w_58 df_10 (by decide +kernel) rfl
theorem o77_4 : OKp l S b Lx xs dC dI cA 77 4 (s_dup) := ok_dup (by decide +kernel) rfl
theorem o77_5 : OKp l S b Lx xs dC dI cA 77 5 (s_invI 65 0 2) := ok_invI rfl rfl (by decide) (hXX 65 (by decide)) w_88 w_89 w_58 c_65 rfl rfl (by decide +kernel) (by decide +kernel) rfl
theorem o77_6 : OKp l S b Lx xs dC dI cA 77 6 (s_putR 11 0) := ok_putRF (ty := (.object "TakesAPage$Town")) (fun v => by cases v <;> exact ⟨rfl, rfl⟩) (by decide +kernel) rfl rfl fp_RX11_10 rfl
theorem o77_7 : OKp l S b Lx xs dC dI cA 77 7 (s_aload 0) := ok_aload_n (k9 := 0) (by decide +kernel) rfl rfl
theorem o77_8 : OKp l S b Lx xs dC dI cA 77 8 (s_new 10 5) := ok_new (C := RX10) (T := TX10) (ty := tyX10) rfl inX10 tyX10_ok w_86 w_87 w_58 df_10 (by decide +kernel) rfl
theorem o77_9 : OKp l S b Lx xs dC dI cA 77 9 (s_dup) := ok_dup (by decide +kernel) rfl
theorem o77_10 : OKp l S b Lx xs dC dI cA 77 10 (s_invI 65 0 2) := ok_invI rfl rfl (by decide) (hXX 65 (by decide)) w_88 w_89 w_58 c_65 rfl rfl (by decide +kernel) (by decide +kernel) rfl
theorem o77_11 : OKp l S b Lx xs dC dI cA 77 11 (s_putR 11 1) := ok_putRF (ty := (.object "TakesAPage$Town")) (fun v => by cases v <;> exact ⟨rfl, rfl⟩) (by decide +kernel) rfl rfl fp_RX11_16 rfl
theorem o77_12 : OKp l S b Lx xs dC dI cA 77 12 (s_aload 0) := ok_aload_n (k9 := 0) (by decide +kernel) rfl rfl
theorem o77_13 : OKp l S b Lx xs dC dI cA 77 13 (s_new 10 5) := ok_new (C := RX10) (T := TX10) (ty := tyX10) rfl inX10 tyX10_ok w_86 w_87 w_58 df_10 (by decide +kernel) rfl
theorem o77_14 : OKp l S b Lx xs dC dI cA 77 14 (s_dup) := ok_dup (by decide +kernel) rfl
theorem o77_15 : OKp l S b Lx xs dC dI cA 77 15 (s_invI 65 0 2) := ok_invI rfl rfl (by decide) (hXX 65 (by decide)) w_88 w_89 w_58 c_65 rfl rfl (by decide +kernel) (by decide +kernel) rfl
theorem o77_16 : OKp l S b Lx xs dC dI cA 77 16 (s_putR 11 2) := ok_putRF (ty := (.object "TakesAPage$Town")) (fun v => by cases v <;> exact ⟨rfl, rfl⟩) (by decide +kernel) rfl rfl fp_RX11_19 rfl
theorem o77_17 : OKp l S b Lx xs dC dI cA 77 17 (s_aload 0) := ok_aload_n (k9 := 0) (by decide +kernel) rfl rfl
theorem o77_18 : OKp l S b Lx xs dC dI cA 77 18 (s_const (0)) := ok_iconst (n := 0) (by decide +kernel) (by decide) rfl
theorem o77_19 : OKp l S b Lx xs dC dI cA 77 19 (s_putZ 11 3) := ok_putZ (by decide +kernel) rfl fp_RX11_22 rfl
theorem o77_20 : OKp l S b Lx xs dC dI cA 77 20 (s_aload 0) := ok_aload_n (k9 := 0) (by decide +kernel) rfl rfl
theorem o77_21 : OKp l S b Lx xs dC dI cA 77 21 (s_const (8)) := ok_bipush (n := 8) (by decide +kernel) (by decide) rfl
theorem o77_22 : OKp l S b Lx xs dC dI cA 77 22 (s_newarr 54) := ok_anew (by decide) (by decide) (fun _ => rfl) w_138 w_139 (by decide +kernel) rfl
theorem o77_23 : OKp l S b Lx xs dC dI cA 77 23 (s_putR 11 4) := ok_putRF (ty := (.array (.object "TakesAPage$Shelf"))) (fun v => by cases v <;> exact ⟨rfl, rfl⟩) (by decide +kernel) rfl rfl fp_RX11_28 rfl
theorem o77_24 : OKp l S b Lx xs dC dI cA 77 24 (s_aload 0) := ok_aload_n (k9 := 0) (by decide +kernel) rfl rfl
theorem o77_25 : OKp l S b Lx xs dC dI cA 77 25 (s_const (4)) := ok_iconst (n := 4) (by decide +kernel) (by decide) rfl
theorem o77_26 : OKp l S b Lx xs dC dI cA 77 26 (s_newarr 50) := ok_newarr_i w_118 (by decide +kernel) rfl
theorem o77_27 : OKp l S b Lx xs dC dI cA 77 27 (s_putR 11 5) := ok_putRF (ty := (.array .int)) (fun v => by cases v <;> exact ⟨rfl, rfl⟩) (by decide +kernel) rfl rfl fp_RX11_32 rfl
theorem o77_28 : OKp l S b Lx xs dC dI cA 77 28 (s_aload 0) := ok_aload_n (k9 := 0) (by decide +kernel) rfl rfl
theorem o77_29 : OKp l S b Lx xs dC dI cA 77 29 (s_const (6)) := ok_bipush (n := 6) (by decide +kernel) (by decide) rfl
theorem o77_30 : OKp l S b Lx xs dC dI cA 77 30 (s_newarr 50) := ok_newarr_i w_118 (by decide +kernel) rfl
theorem o77_31 : OKp l S b Lx xs dC dI cA 77 31 (s_putR 11 6) := ok_putRF (ty := (.array .int)) (fun v => by cases v <;> exact ⟨rfl, rfl⟩) (by decide +kernel) rfl rfl fp_RX11_36 rfl
theorem o77_32 : OKp l S b Lx xs dC dI cA 77 32 (s_aload 0) := ok_aload_n (k9 := 0) (by decide +kernel) rfl rfl
theorem o77_33 : OKp l S b Lx xs dC dI cA 77 33 (s_const (7)) := ok_bipush (n := 7) (by decide +kernel) (by decide) rfl
theorem o77_34 : OKp l S b Lx xs dC dI cA 77 34 (s_newarr 50) := ok_newarr_i w_118 (by decide +kernel) rfl
theorem o77_35 : OKp l S b Lx xs dC dI cA 77 35 (s_putR 11 7) := ok_putRF (ty := (.array .int)) (fun v => by cases v <;> exact ⟨rfl, rfl⟩) (by decide +kernel) rfl rfl fp_RX11_39 rfl
theorem o77_36 : OKp l S b Lx xs dC dI cA 77 36 (s_aload 0) := ok_aload_n (k9 := 0) (by decide +kernel) rfl rfl
theorem o77_37 : OKp l S b Lx xs dC dI cA 77 37 (s_const (7)) := ok_bipush (n := 7) (by decide +kernel) (by decide) rfl
theorem o77_38 : OKp l S b Lx xs dC dI cA 77 38 (s_newarr 50) := ok_newarr_i w_118 (by decide +kernel) rfl
theorem o77_39 : OKp l S b Lx xs dC dI cA 77 39 (s_putR 11 8) := ok_putRF (ty := (.array .int)) (fun v => by cases v <;> exact ⟨rfl, rfl⟩) (by decide +kernel) rfl rfl fp_RX11_42 rfl
theorem o77_40 : OKp l S b Lx xs dC dI cA 77 40 (s_const (0)) := ok_iconst (n := 0) (by decide +kernel) (by decide) rfl
theorem o77_41 : OKp l S b Lx xs dC dI cA 77 41 (s_istore 1) := ok_istore_n (k9 := 1) (by decide +kernel) rfl rfl
theorem o77_42 : OKp l S b Lx xs dC dI cA 77 42 (s_iload 1) := ok_iload_n (k9 := 1) (by decide +kernel) rfl rfl
theorem o77_43 : OKp l S b Lx xs dC dI cA 77 43 (s_aload 0) := ok_aload_n (k9 := 0) (by decide +kernel) rfl rfl
theorem o77_44 : OKp l S b Lx xs dC dI cA 77 44 (s_getR (fun t => t == 11) 4) := ok_getR (by decide +kernel) rfl fd_RX11_28
theorem o77_45 : OKp l S b Lx xs dC dI cA 77 45 (s_alen) := ok_alen (by decide +kernel) rfl
theorem o77_46 : OKp l S b Lx xs dC dI cA 77 46 (s_icmp (fun x y => y ≤ x) 56) := ok_icmp_ge (off := 22) (by decide +kernel) (by decide +kernel) rfl
theorem o77_47 : OKp l S b Lx xs dC dI cA 77 47 (s_aload 0) := ok_aload_n (k9 := 0) (by decide +kernel) rfl rfl
theorem o77_48 : OKp l S b Lx xs dC dI cA 77 48 (s_getR (fun t => t == 11) 4) := ok_getR (by decide +kernel) rfl fd_RX11_28
theorem o77_49 : OKp l S b Lx xs dC dI cA 77 49 (s_iload 1) := ok_iload_n (k9 := 1) (by decide +kernel) rfl rfl
theorem o77_50 : OKp l S b Lx xs dC dI cA 77 50 (s_new 8 5) := ok_new (C := RX8) (T := TX8) (ty := tyX8) rfl inX8 tyX8_ok w_138 w_140 w_60 df_8 (by decide +kernel) rfl
theorem o77_51 : OKp l S b Lx xs dC dI cA 77 51 (s_dup) := ok_dup (by decide +kernel) rfl
theorem o77_52 : OKp l S b Lx xs dC dI cA 77 52 (s_invI 53 0 1) := ok_invIN rfl rfl (by decide) (hXX 53 (by decide)) w_141 w_142 w_60 c_53 rfl rfl (by decide +kernel) (by decide +kernel) rfl
theorem o77_53 : OKp l S b Lx xs dC dI cA 77 53 (s_aast 54 (fun t => t == 8)) := ok_aast (t := 54) (by decide) (fun _ => rfl) (by decide) casS (by decide +kernel) rfl
theorem o77_54 : OKp l S b Lx xs dC dI cA 77 54 (s_iinc 1 (1)) := ok_iinc (n := 1) (by decide +kernel) (by decide) rfl
theorem o77_55 : OKp l S b Lx xs dC dI cA 77 55 (s_goto 42) := ok_goto (off := -25) (by decide +kernel) (by decide +kernel)
theorem o77_56 : OKp l S b Lx xs dC dI cA 77 56 (s_vret) := ok_vret (by decide +kernel) rfl
theorem a77 (hl9 : l.stackTraces = false) : sm_all (OKp l S b Lx xs dC dI cA 77) 0 sc_77 := ⟨o77_0, o77_1, o77_2, o77_3, o77_4, o77_5, o77_6, o77_7, o77_8, o77_9, o77_10, o77_11, o77_12, o77_13, o77_14, o77_15, o77_16, o77_17, o77_18, o77_19, o77_20, o77_21, o77_22, o77_23, o77_24, o77_25, o77_26, o77_27, o77_28, o77_29, o77_30, o77_31, o77_32, o77_33, o77_34, o77_35, o77_36, o77_37, o77_38, o77_39, o77_40, o77_41, o77_42, o77_43, o77_44, o77_45, o77_46, o77_47, o77_48, o77_49, o77_50, o77_51, o77_52, o77_53, o77_54, o77_55, o77_56, trivial⟩
theorem o78_0 : OKp l S b Lx xs dC dI cA 78 0 (s_aload 0) := ok_aload_n (k9 := 0) (by decide +kernel) rfl rfl
theorem o78_1 : OKp l S b Lx xs dC dI cA 78 1 (s_iload 1) := ok_iload_n (k9 := 1) (by decide +kernel) rfl rfl
theorem o78_2 : OKp l S b Lx xs dC dI cA 78 2 (s_invV (dv1 11 113 2) [] 1) := ok_invV (dv1_ok vc_RX11_46_11 rfl (by decide) (hXX 113 (by decide))) (by decide +kernel) rfl
theorem o78_3 : OKp l S b Lx xs dC dI cA 78 3 (s_astore 2) := ok_astore_n (k9 := 2) (by decide +kernel) rfl rfl
theorem o78_4 : OKp l S b Lx xs dC dI cA 78 4 (s_aload 2) := ok_aload_n (k9 := 2) (by decide +kernel) rfl rfl
theorem o78_5 : OKp l S b Lx xs dC dI cA 78 5 (s_invS 115 1 2) := ok_invS rfl rfl (by decide) (hXX 115 (by decide)) w_202 w_203 w_57 c_115 (by decide +kernel) (by decide +kernel) rfl
theorem o78_6 : OKp l S b Lx xs dC dI cA 78 6 (s_istore 3) := ok_istore_n (k9 := 3) (by decide +kernel) rfl rfl
theorem o78_7 : OKp l S b Lx xs dC dI cA 78 7 (s_aload 2) := ok_aload_n (k9 := 2) (by decide +kernel) rfl rfl
theorem o78_8 : OKp l S b Lx xs dC dI cA 78 8 (s_ifnull 11) := ok_ifnull (off := 7) (by decide +kernel) (by decide +kernel) rfl
theorem o78_9 : OKp l S b Lx xs dC dI cA 78 9 (s_iload 3) := ok_iload_n (k9 := 3) (by decide +kernel) rfl rfl
theorem o78_10 : OKp l S b Lx xs dC dI cA 78 10 (s_if (fun x => x = 0) 13) := ok_if_eq (off := 5) (by decide +kernel) (by decide +kernel) rfl
theorem o78_11 : OKp l S b Lx xs dC dI cA 78 11 (s_iload 3) := ok_iload_n (k9 := 3) (by decide +kernel) rfl rfl
theorem o78_12 : OKp l S b Lx xs dC dI cA 78 12 (s_ret) := ok_ret (by decide +kernel) rfl
theorem o78_13 : OKp l S b Lx xs dC dI cA 78 13 (s_aload 2) := ok_aload_n (k9 := 2) (by decide +kernel) rfl rfl
theorem o78_14 : OKp l S b Lx xs dC dI cA 78 14 (s_invS 120 1 5) := ok_invS rfl rfl (by decide) (hXX 120 (by decide)) w_212 w_213 w_57 c_120 (by decide +kernel) (by decide +kernel) rfl
theorem o78_15 : OKp l S b Lx xs dC dI cA 78 15 (s_istore 4) := ok_istore (by decide +kernel) rfl
theorem o78_16 : OKp l S b Lx xs dC dI cA 78 16 (s_iload 4) := ok_iload (by decide +kernel) rfl
theorem o78_17 : OKp l S b Lx xs dC dI cA 78 17 (s_const (-4)) := ok_bipush (n := -4) (by decide +kernel) (by decide) rfl
theorem o78_18 : OKp l S b Lx xs dC dI cA 78 18 (s_icmp (fun x y => x = y) 23) := ok_icmp_eq (off := 10) (by decide +kernel) (by decide +kernel) rfl
theorem o78_19 : OKp l S b Lx xs dC dI cA 78 19 (s_const (-1000)) := ok_sipush (n := -1000) (by decide +kernel) (by decide) rfl
theorem o78_20 : OKp l S b Lx xs dC dI cA 78 20 (s_iload 4) := ok_iload (by decide +kernel) rfl
theorem o78_21 : OKp l S b Lx xs dC dI cA 78 21 (s_bin g_isub) := ok_isub (by decide +kernel) rfl
theorem o78_22 : OKp l S b Lx xs dC dI cA 78 22 (s_ret) := ok_ret (by decide +kernel) rfl
theorem o78_23 : OKp l S b Lx xs dC dI cA 78 23 (s_aload 0) := ok_aload_n (k9 := 0) (by decide +kernel) rfl rfl
theorem o78_24 : OKp l S b Lx xs dC dI cA 78 24 (s_getR (fun t => t == 11) 1) := ok_getR (by decide +kernel) rfl fd_RX11_16
theorem o78_25 : OKp l S b Lx xs dC dI cA 78 25 (s_aload 0) := ok_aload_n (k9 := 0) (by decide +kernel) rfl rfl
theorem o78_26 : OKp l S b Lx xs dC dI cA 78 26 (s_getR (fun t => t == 11) 0) := ok_getR (by decide +kernel) rfl fd_RX11_10
theorem o78_27 : OKp l S b Lx xs dC dI cA 78 27 (s_invV (dv1 10 66 3) [] 1) := ok_invV (dv1_ok vc_RX11_57_10 rfl (by decide) (hXX 66 (by decide))) (by decide +kernel) rfl
theorem o78_28 : OKp l S b Lx xs dC dI cA 78 28 (s_const (0)) := ok_iconst (n := 0) (by decide +kernel) (by decide) rfl
theorem o78_29 : OKp l S b Lx xs dC dI cA 78 29 (s_istore 5) := ok_istore (by decide +kernel) rfl
theorem o78_30 : OKp l S b Lx xs dC dI cA 78 30 (s_const (0)) := ok_iconst (n := 0) (by decide +kernel) (by decide) rfl
theorem o78_31 : OKp l S b Lx xs dC dI cA 78 31 (s_istore 6) := ok_istore (by decide +kernel) rfl
theorem o78_32 : OKp l S b Lx xs dC dI cA 78 32 (s_iload 6) := ok_iload (by decide +kernel) rfl
theorem o78_33 : OKp l S b Lx xs dC dI cA 78 33 (s_aload 2) := ok_aload_n (k9 := 2) (by decide +kernel) rfl rfl
theorem o78_34 : OKp l S b Lx xs dC dI cA 78 34 (s_getI (fun t => t == 8) 3) := ok_getI (by decide +kernel) rfl fd_RX11_61
theorem o78_35 : OKp l S b Lx xs dC dI cA 78 35 (s_icmp (fun x y => y ≤ x) 54) := ok_icmp_ge (off := 44) (by decide +kernel) (by decide +kernel) rfl
theorem o78_36 : OKp l S b Lx xs dC dI cA 78 36 (s_aload 2) := ok_aload_n (k9 := 2) (by decide +kernel) rfl rfl
theorem o78_37 : OKp l S b Lx xs dC dI cA 78 37 (s_iload 6) := ok_iload (by decide +kernel) rfl
theorem o78_38 : OKp l S b Lx xs dC dI cA 78 38 (s_invV (dv1 8 57 2) [] 1) := ok_invV (dv1_ok vc_RX11_65_8 rfl (by decide) (hXX 57 (by decide))) (by decide +kernel) rfl
theorem o78_39 : OKp l S b Lx xs dC dI cA 78 39 (s_invS 119 1 1) := ok_invS rfl rfl (by decide) (hXX 119 (by decide)) w_219 w_220 w_57 c_119 (by decide +kernel) (by decide +kernel) rfl
theorem o78_40 : OKp l S b Lx xs dC dI cA 78 40 (s_if (fun x => x ≤ 0) 52) := ok_if_le (off := 26) (by decide +kernel) (by decide +kernel) rfl
theorem o78_41 : OKp l S b Lx xs dC dI cA 78 41 (s_aload 0) := ok_aload_n (k9 := 0) (by decide +kernel) rfl rfl
theorem o78_42 : OKp l S b Lx xs dC dI cA 78 42 (s_getR (fun t => t == 11) 1) := ok_getR (by decide +kernel) rfl fd_RX11_16
theorem o78_43 : OKp l S b Lx xs dC dI cA 78 43 (s_aload 2) := ok_aload_n (k9 := 2) (by decide +kernel) rfl rfl
theorem o78_44 : OKp l S b Lx xs dC dI cA 78 44 (s_iload 6) := ok_iload (by decide +kernel) rfl
theorem o78_45 : OKp l S b Lx xs dC dI cA 78 45 (s_invV (dv1 10 69 6) [] 2) := ok_invV (dv1_ok vc_RX11_72_10 rfl (by decide) (hXX 69 (by decide))) (by decide +kernel) rfl
theorem o78_46 : OKp l S b Lx xs dC dI cA 78 46 (s_if (fun x => x ≠ 0) 51) := ok_if_ne (off := 10) (by decide +kernel) (by decide +kernel) rfl
theorem o78_47 : OKp l S b Lx xs dC dI cA 78 47 (s_const (-2000)) := ok_sipush (n := -2000) (by decide +kernel) (by decide) rfl
theorem o78_48 : OKp l S b Lx xs dC dI cA 78 48 (s_iload 6) := ok_iload (by decide +kernel) rfl
theorem o78_49 : OKp l S b Lx xs dC dI cA 78 49 (s_bin g_isub) := ok_isub (by decide +kernel) rfl
theorem o78_50 : OKp l S b Lx xs dC dI cA 78 50 (s_ret) := ok_ret (by decide +kernel) rfl
theorem o78_51 : OKp l S b Lx xs dC dI cA 78 51 (s_iinc 5 (1)) := ok_iinc (n := 1) (by decide +kernel) (by decide) rfl
theorem o78_52 : OKp l S b Lx xs dC dI cA 78 52 (s_iinc 6 (1)) := ok_iinc (n := 1) (by decide +kernel) (by decide) rfl
theorem o78_53 : OKp l S b Lx xs dC dI cA 78 53 (s_goto 32) := ok_goto (off := -47) (by decide +kernel) (by decide +kernel)
theorem o78_54 : OKp l S b Lx xs dC dI cA 78 54 (s_aload 0) := ok_aload_n (k9 := 0) (by decide +kernel) rfl rfl
theorem o78_55 : OKp l S b Lx xs dC dI cA 78 55 (s_getR (fun t => t == 11) 0) := ok_getR (by decide +kernel) rfl fd_RX11_10
theorem o78_56 : OKp l S b Lx xs dC dI cA 78 56 (s_aload 0) := ok_aload_n (k9 := 0) (by decide +kernel) rfl rfl
theorem o78_57 : OKp l S b Lx xs dC dI cA 78 57 (s_getR (fun t => t == 11) 1) := ok_getR (by decide +kernel) rfl fd_RX11_16
theorem o78_58 : OKp l S b Lx xs dC dI cA 78 58 (s_invV (dv1 10 66 3) [] 1) := ok_invV (dv1_ok vc_RX11_57_10 rfl (by decide) (hXX 66 (by decide))) (by decide +kernel) rfl
theorem o78_59 : OKp l S b Lx xs dC dI cA 78 59 (s_iload 5) := ok_iload (by decide +kernel) rfl
theorem o78_60 : OKp l S b Lx xs dC dI cA 78 60 (s_ret) := ok_ret (by decide +kernel) rfl
theorem a78_0 (hl9 : l.stackTraces = false) : sm_all (OKp l S b Lx xs dC dI cA 78) 0 sc_78_0 := ⟨o78_0, o78_1, o78_2, o78_3, o78_4, o78_5, o78_6, o78_7, o78_8, o78_9, o78_10, o78_11, o78_12, o78_13, o78_14, o78_15, o78_16, o78_17, o78_18, o78_19, o78_20, o78_21, o78_22, o78_23, o78_24, o78_25, o78_26, o78_27, o78_28, o78_29, o78_30, o78_31, o78_32, o78_33, o78_34, o78_35, o78_36, o78_37, o78_38, o78_39, o78_40, o78_41, o78_42, o78_43, o78_44, o78_45, o78_46, o78_47, o78_48, o78_49, o78_50, o78_51, o78_52, o78_53, o78_54, o78_55, o78_56, o78_57, o78_58, o78_59, trivial⟩
theorem a78_1 (hl9 : l.stackTraces = false) : sm_all (OKp l S b Lx xs dC dI cA 78) 60 sc_78_1 := ⟨o78_60, trivial⟩
theorem a78 (hl9 : l.stackTraces = false) : sm_all (OKp l S b Lx xs dC dI cA 78) 0 sc_78 := sm_all_app _ _ _ (a78_0 hl9) (a78_1 hl9)
theorem o79_0 : OKp l S b Lx xs dC dI cA 79 0 (s_aload 0) := ok_aload_n (k9 := 0) (by decide +kernel) rfl rfl
theorem o79_1 : OKp l S b Lx xs dC dI cA 79 1 (s_getR (fun t => t == 11) 0) := ok_getR (by decide +kernel) rfl fd_RX11_10
theorem o79_2 : OKp l S b Lx xs dC dI cA 79 2 (s_iload 1) := ok_iload_n (k9 := 1) (by decide +kernel) rfl rfl
theorem o79_3 : OKp l S b Lx xs dC dI cA 79 3 (s_invV (dv1 10 67 2) [] 1) := ok_invV (dv1_ok vc_RX11_76_10 rfl (by decide) (hXX 67 (by decide))) (by decide +kernel) rfl
theorem o79_4 : OKp l S b Lx xs dC dI cA 79 4 (s_astore 3) := ok_astore_n (k9 := 3) (by decide +kernel) rfl rfl
theorem o79_5 : OKp l S b Lx xs dC dI cA 79 5 (s_aload 3) := ok_aload_n (k9 := 3) (by decide +kernel) rfl rfl
theorem o79_6 : OKp l S b Lx xs dC dI cA 79 6 (s_ifnonnull 9) := ok_ifnonnull (off := 5) (by decide +kernel) (by decide +kernel) rfl
theorem o79_7 : OKp l S b Lx xs dC dI cA 79 7 (s_const (-1)) := ok_iconst (n := -1) (by decide +kernel) (by decide) rfl
theorem o79_8 : OKp l S b Lx xs dC dI cA 79 8 (s_ret) := ok_ret (by decide +kernel) rfl
theorem o79_9 : OKp l S b Lx xs dC dI cA 79 9 (s_iload 2) := ok_iload_n (k9 := 2) (by decide +kernel) rfl rfl
theorem o79_10 : OKp l S b Lx xs dC dI cA 79 10 (s_sw [(0, 11), (1, 14), (2, 18)] 21) := ok_table (dflt := 46) (lo := 0) (hi := 2) (offs := #[28, 33, 41]) (len := 28) (by decide +kernel) (by decide +kernel) (by decide +kernel) (by decide +kernel) (by decide +kernel)
theorem o79_11 : OKp l S b Lx xs dC dI cA 79 11 (s_aload 3) := ok_aload_n (k9 := 3) (by decide +kernel) rfl rfl
theorem o79_12 : OKp l S b Lx xs dC dI cA 79 12 (s_getI (fun t => t == 1) 2) := ok_getI (by decide +kernel) rfl fd_RX11_80
theorem o79_13 : OKp l S b Lx xs dC dI cA 79 13 (s_ret) := ok_ret (by decide +kernel) rfl
theorem o79_14 : OKp l S b Lx xs dC dI cA 79 14 (s_aload 3) := ok_aload_n (k9 := 3) (by decide +kernel) rfl rfl
theorem o79_15 : OKp l S b Lx xs dC dI cA 79 15 (s_getI (fun t => t == 1) 3) := ok_getI (by decide +kernel) rfl fd_RX11_85
theorem o79_16 : OKp l S b Lx xs dC dI cA 79 16 (s_invS 224 1 1) := ok_invS rfl rfl (by decide) (hXX 224 (by decide)) w_478 w_392 w_71 c_224 (by decide +kernel) (by decide +kernel) rfl
theorem o79_17 : OKp l S b Lx xs dC dI cA 79 17 (s_ret) := ok_ret (by decide +kernel) rfl
theorem o79_18 : OKp l S b Lx xs dC dI cA 79 18 (s_aload 3) := ok_aload_n (k9 := 3) (by decide +kernel) rfl rfl
theorem o79_19 : OKp l S b Lx xs dC dI cA 79 19 (s_getI (fun t => t == 1) 3) := ok_getI (by decide +kernel) rfl fd_RX11_85
theorem o79_20 : OKp l S b Lx xs dC dI cA 79 20 (s_ret) := ok_ret (by decide +kernel) rfl
theorem o79_21 : OKp l S b Lx xs dC dI cA 79 21 (s_const (-1)) := ok_iconst (n := -1) (by decide +kernel) (by decide) rfl
theorem o79_22 : OKp l S b Lx xs dC dI cA 79 22 (s_ret) := ok_ret (by decide +kernel) rfl
theorem a79 (hl9 : l.stackTraces = false) : sm_all (OKp l S b Lx xs dC dI cA 79) 0 sc_79 := ⟨o79_0, o79_1, o79_2, o79_3, o79_4, o79_5, o79_6, o79_7, o79_8, o79_9, o79_10, o79_11, o79_12, o79_13, o79_14, o79_15, o79_16, o79_17, o79_18, o79_19, o79_20, o79_21, o79_22, trivial⟩
theorem o80_0 : OKp l S b Lx xs dC dI cA 80 0 (s_aload 0) := ok_aload_n (k9 := 0) (by decide +kernel) rfl rfl
theorem o80_1 : OKp l S b Lx xs dC dI cA 80 1 (s_getR (fun t => t == 11) 0) := ok_getR (by decide +kernel) rfl fd_RX11_10
theorem o80_2 : OKp l S b Lx xs dC dI cA 80 2 (s_iload 1) := ok_iload_n (k9 := 1) (by decide +kernel) rfl rfl
theorem o80_3 : OKp l S b Lx xs dC dI cA 80 3 (s_invV (dv1 10 67 2) [] 1) := ok_invV (dv1_ok vc_RX11_76_10 rfl (by decide) (hXX 67 (by decide))) (by decide +kernel) rfl
theorem o80_4 : OKp l S b Lx xs dC dI cA 80 4 (s_astore 4) := ok_astore (by decide +kernel) rfl
theorem o80_5 : OKp l S b Lx xs dC dI cA 80 5 (s_aload 4) := ok_aload (by decide +kernel) rfl
theorem o80_6 : OKp l S b Lx xs dC dI cA 80 6 (s_ifnull 11) := ok_ifnull (off := 12) (by decide +kernel) (by decide +kernel) rfl
theorem o80_7 : OKp l S b Lx xs dC dI cA 80 7 (s_aload 4) := ok_aload (by decide +kernel) rfl
theorem o80_8 : OKp l S b Lx xs dC dI cA 80 8 (s_iload 2) := ok_iload_n (k9 := 2) (by decide +kernel) rfl rfl
theorem o80_9 : OKp l S b Lx xs dC dI cA 80 9 (s_invV (dv1 1 7 2) [] 1) := ok_invV (dv1_ok vc_RX11_93_1 rfl (by decide) (hXX 7 (by decide))) (by decide +kernel) rfl
theorem o80_10 : OKp l S b Lx xs dC dI cA 80 10 (s_if (fun x => x ≠ 0) 13) := ok_if_ne (off := 5) (by decide +kernel) (by decide +kernel) rfl
theorem o80_11 : OKp l S b Lx xs dC dI cA 80 11 (s_const (-1)) := ok_iconst (n := -1) (by decide +kernel) (by decide) rfl
theorem o80_12 : OKp l S b Lx xs dC dI cA 80 12 (s_ret) := ok_ret (by decide +kernel) rfl
theorem o80_13 : OKp l S b Lx xs dC dI cA 80 13 (s_iload 3) := ok_iload_n (k9 := 3) (by decide +kernel) rfl rfl
theorem o80_14 : OKp l S b Lx xs dC dI cA 80 14 (s_sw [(0, 15), (1, 23), (2, 27)] 31) := ok_table (dflt := 54) (lo := 0) (hi := 2) (offs := #[25, 40, 47]) (len := 25) (by decide +kernel) (by decide +kernel) (by decide +kernel) (by decide +kernel) (by decide +kernel)
theorem o80_15 : OKp l S b Lx xs dC dI cA 80 15 (s_aload 4) := ok_aload (by decide +kernel) rfl
theorem o80_16 : OKp l S b Lx xs dC dI cA 80 16 (s_iload 2) := ok_iload_n (k9 := 2) (by decide +kernel) rfl rfl
theorem o80_17 : OKp l S b Lx xs dC dI cA 80 17 (s_invV (dv1 1 8 2) [] 1) := ok_invV (dv1_ok vc_RX11_97_1 rfl (by decide) (hXX 8 (by decide))) (by decide +kernel) rfl
theorem o80_18 : OKp l S b Lx xs dC dI cA 80 18 (s_if (fun x => x = 0) 21) := ok_if_eq (off := 7) (by decide +kernel) (by decide +kernel) rfl
theorem o80_19 : OKp l S b Lx xs dC dI cA 80 19 (s_const (1)) := ok_iconst (n := 1) (by decide +kernel) (by decide) rfl
theorem o80_20 : OKp l S b Lx xs dC dI cA 80 20 (s_goto 22) := ok_goto (off := 4) (by decide +kernel) (by decide +kernel)
theorem o80_21 : OKp l S b Lx xs dC dI cA 80 21 (s_const (0)) := ok_iconst (n := 0) (by decide +kernel) (by decide) rfl
theorem o80_22 : OKp l S b Lx xs dC dI cA 80 22 (s_ret) := ok_ret (by decide +kernel) rfl
theorem o80_23 : OKp l S b Lx xs dC dI cA 80 23 (s_aload 4) := ok_aload (by decide +kernel) rfl
theorem o80_24 : OKp l S b Lx xs dC dI cA 80 24 (s_iload 2) := ok_iload_n (k9 := 2) (by decide +kernel) rfl rfl
theorem o80_25 : OKp l S b Lx xs dC dI cA 80 25 (s_invV (dv1 1 10 2) [] 1) := ok_invV (dv1_ok vc_RX11_100_1 rfl (by decide) (hXX 10 (by decide))) (by decide +kernel) rfl
theorem o80_26 : OKp l S b Lx xs dC dI cA 80 26 (s_ret) := ok_ret (by decide +kernel) rfl
theorem o80_27 : OKp l S b Lx xs dC dI cA 80 27 (s_aload 4) := ok_aload (by decide +kernel) rfl
theorem o80_28 : OKp l S b Lx xs dC dI cA 80 28 (s_iload 2) := ok_iload_n (k9 := 2) (by decide +kernel) rfl rfl
theorem o80_29 : OKp l S b Lx xs dC dI cA 80 29 (s_invV (dv1 1 11 2) [] 1) := ok_invV (dv1_ok vc_RX11_103_1 rfl (by decide) (hXX 11 (by decide))) (by decide +kernel) rfl
theorem o80_30 : OKp l S b Lx xs dC dI cA 80 30 (s_ret) := ok_ret (by decide +kernel) rfl
theorem o80_31 : OKp l S b Lx xs dC dI cA 80 31 (s_const (-1)) := ok_iconst (n := -1) (by decide +kernel) (by decide) rfl
theorem o80_32 : OKp l S b Lx xs dC dI cA 80 32 (s_ret) := ok_ret (by decide +kernel) rfl
theorem a80 (hl9 : l.stackTraces = false) : sm_all (OKp l S b Lx xs dC dI cA 80) 0 sc_80 := ⟨o80_0, o80_1, o80_2, o80_3, o80_4, o80_5, o80_6, o80_7, o80_8, o80_9, o80_10, o80_11, o80_12, o80_13, o80_14, o80_15, o80_16, o80_17, o80_18, o80_19, o80_20, o80_21, o80_22, o80_23, o80_24, o80_25, o80_26, o80_27, o80_28, o80_29, o80_30, o80_31, o80_32, trivial⟩
theorem o81_0 : OKp l S b Lx xs dC dI cA 81 0 (s_aload 0) := ok_aload_n (k9 := 0) (by decide +kernel) rfl rfl
theorem o81_1 : OKp l S b Lx xs dC dI cA 81 1 (s_getR (fun t => t == 11) 0) := ok_getR (by decide +kernel) rfl fd_RX11_10
theorem o81_2 : OKp l S b Lx xs dC dI cA 81 2 (s_iload 1) := ok_iload_n (k9 := 1) (by decide +kernel) rfl rfl
theorem o81_3 : OKp l S b Lx xs dC dI cA 81 3 (s_invV (dv1 10 68 2) [] 1) := ok_invV (dv1_ok vc_RX11_106_10 rfl (by decide) (hXX 68 (by decide))) (by decide +kernel) rfl
theorem o81_4 : OKp l S b Lx xs dC dI cA 81 4 (s_astore 3) := ok_astore_n (k9 := 3) (by decide +kernel) rfl rfl
theorem o81_5 : OKp l S b Lx xs dC dI cA 81 5 (s_aload 3) := ok_aload_n (k9 := 3) (by decide +kernel) rfl rfl
theorem o81_6 : OKp l S b Lx xs dC dI cA 81 6 (s_ifnonnull 9) := ok_ifnonnull (off := 5) (by decide +kernel) (by decide +kernel) rfl
theorem o81_7 : OKp l S b Lx xs dC dI cA 81 7 (s_const (-1)) := ok_iconst (n := -1) (by decide +kernel) (by decide) rfl
theorem o81_8 : OKp l S b Lx xs dC dI cA 81 8 (s_ret) := ok_ret (by decide +kernel) rfl
theorem o81_9 : OKp l S b Lx xs dC dI cA 81 9 (s_iload 2) := ok_iload_n (k9 := 2) (by decide +kernel) rfl rfl
theorem o81_10 : OKp l S b Lx xs dC dI cA 81 10 (s_sw [(0, 11), (1, 14), (2, 17)] 22) := ok_table (dflt := 47) (lo := 0) (hi := 2) (offs := #[28, 33, 38]) (len := 28) (by decide +kernel) (by decide +kernel) (by decide +kernel) (by decide +kernel) (by decide +kernel)
theorem o81_11 : OKp l S b Lx xs dC dI cA 81 11 (s_aload 3) := ok_aload_n (k9 := 3) (by decide +kernel) rfl rfl
theorem o81_12 : OKp l S b Lx xs dC dI cA 81 12 (s_invV dv_5 [] 0) := ok_invV (by intro t y ml h; unfold dv_5 at h; by_cases h0 : t = 0; (subst h0; simp at h; obtain ⟨rfl, rfl⟩ := h; exact ⟨vc_RX11_110_0, rfl, by decide, hXX 1 (by decide)⟩); by_cases h2 : t = 2; (subst h2; simp at h; obtain ⟨rfl, rfl⟩ := h; exact ⟨vc_RX11_110_2, rfl, by decide, hXX 19 (by decide)⟩); by_cases h3 : t = 3; (subst h3; simp at h; obtain ⟨rfl, rfl⟩ := h; exact ⟨vc_RX11_110_3, rfl, by decide, hXX 24 (by decide)⟩); by_cases h4 : t = 4; (subst h4; simp at h; obtain ⟨rfl, rfl⟩ := h; exact ⟨vc_RX11_110_4, rfl, by decide, hXX 30 (by decide)⟩); by_cases h5 : t = 5; (subst h5; simp at h; obtain ⟨rfl, rfl⟩ := h; exact ⟨vc_RX11_110_5, rfl, by decide, hXX 34 (by decide)⟩); by_cases h6 : t = 6; (subst h6; simp at h; obtain ⟨rfl, rfl⟩ := h; exact ⟨vc_RX11_110_6, rfl, by decide, hXX 39 (by decide)⟩); by_cases h7 : t = 7; (subst h7; simp at h; obtain ⟨rfl, rfl⟩ := h; exact ⟨vc_RX11_110_7, rfl, by decide, hXX 45 (by decide)⟩); by_cases h9 : t = 9; (subst h9; simp at h; obtain ⟨rfl, rfl⟩ := h; exact ⟨vc_RX11_110_9, rfl, by decide, hXX 60 (by decide)⟩); simp [h0, h2, h3, h4, h5, h6, h7, h9] at h) (by decide +kernel) rfl
theorem o81_13 : OKp l S b Lx xs dC dI cA 81 13 (s_ret) := ok_ret (by decide +kernel) rfl
theorem o81_14 : OKp l S b Lx xs dC dI cA 81 14 (s_aload 3) := ok_aload_n (k9 := 3) (by decide +kernel) rfl rfl
theorem o81_15 : OKp l S b Lx xs dC dI cA 81 15 (s_getI isRd 0) := ok_getI (by decide +kernel) rfl fd_RX11_116
theorem o81_16 : OKp l S b Lx xs dC dI cA 81 16 (s_ret) := ok_ret (by decide +kernel) rfl
theorem o81_17 : OKp l S b Lx xs dC dI cA 81 17 (s_aload 0) := ok_aload_n (k9 := 0) (by decide +kernel) rfl rfl
theorem o81_18 : OKp l S b Lx xs dC dI cA 81 18 (s_getR (fun t => t == 11) 0) := ok_getR (by decide +kernel) rfl fd_RX11_10
theorem o81_19 : OKp l S b Lx xs dC dI cA 81 19 (s_iload 1) := ok_iload_n (k9 := 1) (by decide +kernel) rfl rfl
theorem o81_20 : OKp l S b Lx xs dC dI cA 81 20 (s_invV (dv1 10 74 7) [] 1) := ok_invV (dv1_ok vc_RX11_119_10 rfl (by decide) (hXX 74 (by decide))) (by decide +kernel) rfl
theorem o81_21 : OKp l S b Lx xs dC dI cA 81 21 (s_ret) := ok_ret (by decide +kernel) rfl
theorem o81_22 : OKp l S b Lx xs dC dI cA 81 22 (s_const (-1)) := ok_iconst (n := -1) (by decide +kernel) (by decide) rfl
theorem o81_23 : OKp l S b Lx xs dC dI cA 81 23 (s_ret) := ok_ret (by decide +kernel) rfl
theorem a81 (hl9 : l.stackTraces = false) : sm_all (OKp l S b Lx xs dC dI cA 81) 0 sc_81 := ⟨o81_0, o81_1, o81_2, o81_3, o81_4, o81_5, o81_6, o81_7, o81_8, o81_9, o81_10, o81_11, o81_12, o81_13, o81_14, o81_15, o81_16, o81_17, o81_18, o81_19, o81_20, o81_21, o81_22, o81_23, trivial⟩
theorem o82_0 : OKp l S b Lx xs dC dI cA 82 0 (s_aload 0) := ok_aload_n (k9 := 0) (by decide +kernel) rfl rfl
theorem o82_1 : OKp l S b Lx xs dC dI cA 82 1 (s_getR (fun t => t == 11) 0) := ok_getR (by decide +kernel) rfl fd_RX11_10
theorem o82_2 : OKp l S b Lx xs dC dI cA 82 2 (s_iload 1) := ok_iload_n (k9 := 1) (by decide +kernel) rfl rfl
theorem o82_3 : OKp l S b Lx xs dC dI cA 82 3 (s_invV (dv1 10 67 2) [] 1) := ok_invV (dv1_ok vc_RX11_76_10 rfl (by decide) (hXX 67 (by decide))) (by decide +kernel) rfl
theorem o82_4 : OKp l S b Lx xs dC dI cA 82 4 (s_astore 2) := ok_astore_n (k9 := 2) (by decide +kernel) rfl rfl
theorem o82_5 : OKp l S b Lx xs dC dI cA 82 5 (s_aload 2) := ok_aload_n (k9 := 2) (by decide +kernel) rfl rfl
theorem o82_6 : OKp l S b Lx xs dC dI cA 82 6 (s_ifnonnull 9) := ok_ifnonnull (off := 7) (by decide +kernel) (by decide +kernel) rfl
theorem o82_7 : OKp l S b Lx xs dC dI cA 82 7 (s_const (-1)) := ok_iconst (n := -1) (by decide +kernel) (by decide) rfl
theorem o82_8 : OKp l S b Lx xs dC dI cA 82 8 (s_goto 13) := ok_goto (off := 11) (by decide +kernel) (by decide +kernel)
theorem o82_9 : OKp l S b Lx xs dC dI cA 82 9 (s_aload 2) := ok_aload_n (k9 := 2) (by decide +kernel) rfl rfl
theorem o82_10 : OKp l S b Lx xs dC dI cA 82 10 (s_aload 2) := ok_aload_n (k9 := 2) (by decide +kernel) rfl rfl
theorem o82_11 : OKp l S b Lx xs dC dI cA 82 11 (s_getI (fun t => t == 1) 3) := ok_getI (by decide +kernel) rfl fd_RX11_85
theorem o82_12 : OKp l S b Lx xs dC dI cA 82 12 (s_invV (dv1 1 16 5) [] 1) := ok_invV (dv1_ok vc_RX11_122_1 rfl (by decide) (hXX 16 (by decide))) (by decide +kernel) rfl
theorem o82_13 : OKp l S b Lx xs dC dI cA 82 13 (s_ret) := ok_ret (by decide +kernel) rfl
theorem a82 (hl9 : l.stackTraces = false) : sm_all (OKp l S b Lx xs dC dI cA 82) 0 sc_82 := ⟨o82_0, o82_1, o82_2, o82_3, o82_4, o82_5, o82_6, o82_7, o82_8, o82_9, o82_10, o82_11, o82_12, o82_13, trivial⟩
theorem o83_0 : OKp l S b Lx xs dC dI cA 83 0 (s_aload 0) := ok_aload_n (k9 := 0) (by decide +kernel) rfl rfl
theorem o83_1 : OKp l S b Lx xs dC dI cA 83 1 (s_getR (fun t => t == 11) 0) := ok_getR (by decide +kernel) rfl fd_RX11_10
theorem o83_2 : OKp l S b Lx xs dC dI cA 83 2 (s_iload 1) := ok_iload_n (k9 := 1) (by decide +kernel) rfl rfl
theorem o83_3 : OKp l S b Lx xs dC dI cA 83 3 (s_invV (dv1 10 68 2) [] 1) := ok_invV (dv1_ok vc_RX11_106_10 rfl (by decide) (hXX 68 (by decide))) (by decide +kernel) rfl
theorem o83_4 : OKp l S b Lx xs dC dI cA 83 4 (s_astore 3) := ok_astore_n (k9 := 3) (by decide +kernel) rfl rfl
theorem o83_5 : OKp l S b Lx xs dC dI cA 83 5 (s_aload 0) := ok_aload_n (k9 := 0) (by decide +kernel) rfl rfl
theorem o83_6 : OKp l S b Lx xs dC dI cA 83 6 (s_getR (fun t => t == 11) 0) := ok_getR (by decide +kernel) rfl fd_RX11_10
theorem o83_7 : OKp l S b Lx xs dC dI cA 83 7 (s_iload 2) := ok_iload_n (k9 := 2) (by decide +kernel) rfl rfl
theorem o83_8 : OKp l S b Lx xs dC dI cA 83 8 (s_invV (dv1 10 67 2) [] 1) := ok_invV (dv1_ok vc_RX11_76_10 rfl (by decide) (hXX 67 (by decide))) (by decide +kernel) rfl
theorem o83_9 : OKp l S b Lx xs dC dI cA 83 9 (s_astore 4) := ok_astore (by decide +kernel) rfl
theorem o83_10 : OKp l S b Lx xs dC dI cA 83 10 (s_aload 3) := ok_aload_n (k9 := 3) (by decide +kernel) rfl rfl
theorem o83_11 : OKp l S b Lx xs dC dI cA 83 11 (s_ifnull 14) := ok_ifnull (off := 8) (by decide +kernel) (by decide +kernel) rfl
theorem o83_12 : OKp l S b Lx xs dC dI cA 83 12 (s_aload 4) := ok_aload (by decide +kernel) rfl
theorem o83_13 : OKp l S b Lx xs dC dI cA 83 13 (s_ifnonnull 16) := ok_ifnonnull (off := 7) (by decide +kernel) (by decide +kernel) rfl
theorem o83_14 : OKp l S b Lx xs dC dI cA 83 14 (s_const (-1)) := ok_iconst (n := -1) (by decide +kernel) (by decide) rfl
theorem o83_15 : OKp l S b Lx xs dC dI cA 83 15 (s_goto 21) := ok_goto (off := 14) (by decide +kernel) (by decide +kernel)
theorem o83_16 : OKp l S b Lx xs dC dI cA 83 16 (s_aload 3) := ok_aload_n (k9 := 3) (by decide +kernel) rfl rfl
theorem o83_17 : OKp l S b Lx xs dC dI cA 83 17 (s_aload 4) := ok_aload (by decide +kernel) rfl
theorem o83_18 : OKp l S b Lx xs dC dI cA 83 18 (s_aload 4) := ok_aload (by decide +kernel) rfl
theorem o83_19 : OKp l S b Lx xs dC dI cA 83 19 (s_getI (fun t => t == 1) 3) := ok_getI (by decide +kernel) rfl fd_RX11_85
theorem o83_20 : OKp l S b Lx xs dC dI cA 83 20 (s_invV dv_3 [] 2) := ok_invV (by intro t y ml h; unfold dv_3 at h; by_cases h0 : t = 0; (subst h0; simp at h; obtain ⟨rfl, rfl⟩ := h; exact ⟨vc_RX11_125_0, rfl, by decide, hXX 47 (by decide)⟩); by_cases h2 : t = 2; (subst h2; simp at h; obtain ⟨rfl, rfl⟩ := h; exact ⟨vc_RX11_125_2, rfl, by decide, hXX 47 (by decide)⟩); by_cases h3 : t = 3; (subst h3; simp at h; obtain ⟨rfl, rfl⟩ := h; exact ⟨vc_RX11_125_3, rfl, by decide, hXX 47 (by decide)⟩); by_cases h4 : t = 4; (subst h4; simp at h; obtain ⟨rfl, rfl⟩ := h; exact ⟨vc_RX11_125_4, rfl, by decide, hXX 47 (by decide)⟩); by_cases h5 : t = 5; (subst h5; simp at h; obtain ⟨rfl, rfl⟩ := h; exact ⟨vc_RX11_125_5, rfl, by decide, hXX 47 (by decide)⟩); by_cases h6 : t = 6; (subst h6; simp at h; obtain ⟨rfl, rfl⟩ := h; exact ⟨vc_RX11_125_6, rfl, by decide, hXX 40 (by decide)⟩); by_cases h7 : t = 7; (subst h7; simp at h; obtain ⟨rfl, rfl⟩ := h; exact ⟨vc_RX11_125_7, rfl, by decide, hXX 47 (by decide)⟩); by_cases h9 : t = 9; (subst h9; simp at h; obtain ⟨rfl, rfl⟩ := h; exact ⟨vc_RX11_125_9, rfl, by decide, hXX 61 (by decide)⟩); simp [h0, h2, h3, h4, h5, h6, h7, h9] at h) (by decide +kernel) rfl
theorem o83_21 : OKp l S b Lx xs dC dI cA 83 21 (s_ret) := ok_ret (by decide +kernel) rfl
theorem a83 (hl9 : l.stackTraces = false) : sm_all (OKp l S b Lx xs dC dI cA 83) 0 sc_83 := ⟨o83_0, o83_1, o83_2, o83_3, o83_4, o83_5, o83_6, o83_7, o83_8, o83_9, o83_10, o83_11, o83_12, o83_13, o83_14, o83_15, o83_16, o83_17, o83_18, o83_19, o83_20, o83_21, trivial⟩
theorem o84_0 : OKp l S b Lx xs dC dI cA 84 0 (s_aload 0) := ok_aload_n (k9 := 0) (by decide +kernel) rfl rfl
theorem o84_1 : OKp l S b Lx xs dC dI cA 84 1 (s_getR (fun t => t == 11) 0) := ok_getR (by decide +kernel) rfl fd_RX11_10
theorem o84_2 : OKp l S b Lx xs dC dI cA 84 2 (s_iload 1) := ok_iload_n (k9 := 1) (by decide +kernel) rfl rfl
theorem o84_3 : OKp l S b Lx xs dC dI cA 84 3 (s_invV (dv1 10 68 2) [] 1) := ok_invV (dv1_ok vc_RX11_106_10 rfl (by decide) (hXX 68 (by decide))) (by decide +kernel) rfl
theorem o84_4 : OKp l S b Lx xs dC dI cA 84 4 (s_astore 3) := ok_astore_n (k9 := 3) (by decide +kernel) rfl rfl
theorem o84_5 : OKp l S b Lx xs dC dI cA 84 5 (s_aload 0) := ok_aload_n (k9 := 0) (by decide +kernel) rfl rfl
theorem o84_6 : OKp l S b Lx xs dC dI cA 84 6 (s_getR (fun t => t == 11) 0) := ok_getR (by decide +kernel) rfl fd_RX11_10
theorem o84_7 : OKp l S b Lx xs dC dI cA 84 7 (s_iload 2) := ok_iload_n (k9 := 2) (by decide +kernel) rfl rfl
theorem o84_8 : OKp l S b Lx xs dC dI cA 84 8 (s_invV (dv1 10 67 2) [] 1) := ok_invV (dv1_ok vc_RX11_76_10 rfl (by decide) (hXX 67 (by decide))) (by decide +kernel) rfl
theorem o84_9 : OKp l S b Lx xs dC dI cA 84 9 (s_astore 4) := ok_astore (by decide +kernel) rfl
theorem o84_10 : OKp l S b Lx xs dC dI cA 84 10 (s_aload 3) := ok_aload_n (k9 := 3) (by decide +kernel) rfl rfl
theorem o84_11 : OKp l S b Lx xs dC dI cA 84 11 (s_ifnull 14) := ok_ifnull (off := 8) (by decide +kernel) (by decide +kernel) rfl
theorem o84_12 : OKp l S b Lx xs dC dI cA 84 12 (s_aload 4) := ok_aload (by decide +kernel) rfl
theorem o84_13 : OKp l S b Lx xs dC dI cA 84 13 (s_ifnonnull 16) := ok_ifnonnull (off := 7) (by decide +kernel) (by decide +kernel) rfl
theorem o84_14 : OKp l S b Lx xs dC dI cA 84 14 (s_const (-1)) := ok_iconst (n := -1) (by decide +kernel) (by decide) rfl
theorem o84_15 : OKp l S b Lx xs dC dI cA 84 15 (s_goto 21) := ok_goto (off := 14) (by decide +kernel) (by decide +kernel)
theorem o84_16 : OKp l S b Lx xs dC dI cA 84 16 (s_aload 3) := ok_aload_n (k9 := 3) (by decide +kernel) rfl rfl
theorem o84_17 : OKp l S b Lx xs dC dI cA 84 17 (s_aload 4) := ok_aload (by decide +kernel) rfl
theorem o84_18 : OKp l S b Lx xs dC dI cA 84 18 (s_aload 4) := ok_aload (by decide +kernel) rfl
theorem o84_19 : OKp l S b Lx xs dC dI cA 84 19 (s_getI (fun t => t == 1) 3) := ok_getI (by decide +kernel) rfl fd_RX11_85
theorem o84_20 : OKp l S b Lx xs dC dI cA 84 20 (s_invV dv_2 [] 2) := ok_invV (by intro t y ml h; unfold dv_2 at h; by_cases h0 : t = 0; (subst h0; simp at h; obtain ⟨rfl, rfl⟩ := h; exact ⟨vc_RX11_129_0, rfl, by decide, hXX 26 (by decide)⟩); by_cases h2 : t = 2; (subst h2; simp at h; obtain ⟨rfl, rfl⟩ := h; exact ⟨vc_RX11_129_2, rfl, by decide, hXX 48 (by decide)⟩); by_cases h3 : t = 3; (subst h3; simp at h; obtain ⟨rfl, rfl⟩ := h; exact ⟨vc_RX11_129_3, rfl, by decide, hXX 26 (by decide)⟩); by_cases h4 : t = 4; (subst h4; simp at h; obtain ⟨rfl, rfl⟩ := h; exact ⟨vc_RX11_129_4, rfl, by decide, hXX 31 (by decide)⟩); by_cases h5 : t = 5; (subst h5; simp at h; obtain ⟨rfl, rfl⟩ := h; exact ⟨vc_RX11_129_5, rfl, by decide, hXX 35 (by decide)⟩); by_cases h6 : t = 6; (subst h6; simp at h; obtain ⟨rfl, rfl⟩ := h; exact ⟨vc_RX11_129_6, rfl, by decide, hXX 41 (by decide)⟩); by_cases h7 : t = 7; (subst h7; simp at h; obtain ⟨rfl, rfl⟩ := h; exact ⟨vc_RX11_129_7, rfl, by decide, hXX 48 (by decide)⟩); by_cases h9 : t = 9; (subst h9; simp at h; obtain ⟨rfl, rfl⟩ := h; exact ⟨vc_RX11_129_9, rfl, by decide, hXX 62 (by decide)⟩); simp [h0, h2, h3, h4, h5, h6, h7, h9] at h) (by decide +kernel) rfl
theorem o84_21 : OKp l S b Lx xs dC dI cA 84 21 (s_ret) := ok_ret (by decide +kernel) rfl
theorem a84 (hl9 : l.stackTraces = false) : sm_all (OKp l S b Lx xs dC dI cA 84) 0 sc_84 := ⟨o84_0, o84_1, o84_2, o84_3, o84_4, o84_5, o84_6, o84_7, o84_8, o84_9, o84_10, o84_11, o84_12, o84_13, o84_14, o84_15, o84_16, o84_17, o84_18, o84_19, o84_20, o84_21, trivial⟩
theorem o85_0 : OKp l S b Lx xs dC dI cA 85 0 (s_aload 0) := ok_aload_n (k9 := 0) (by decide +kernel) rfl rfl
theorem o85_1 : OKp l S b Lx xs dC dI cA 85 1 (s_getR (fun t => t == 11) 0) := ok_getR (by decide +kernel) rfl fd_RX11_10
theorem o85_2 : OKp l S b Lx xs dC dI cA 85 2 (s_iload 1) := ok_iload_n (k9 := 1) (by decide +kernel) rfl rfl
theorem o85_3 : OKp l S b Lx xs dC dI cA 85 3 (s_iload 2) := ok_iload_n (k9 := 2) (by decide +kernel) rfl rfl
theorem o85_4 : OKp l S b Lx xs dC dI cA 85 4 (s_invV (dv1 10 72 8) [] 2) := ok_invV (dv1_ok vc_RX11_132_10 rfl (by decide) (hXX 72 (by decide))) (by decide +kernel) rfl
theorem o85_5 : OKp l S b Lx xs dC dI cA 85 5 (s_ret) := ok_ret (by decide +kernel) rfl
theorem a85 (hl9 : l.stackTraces = false) : sm_all (OKp l S b Lx xs dC dI cA 85) 0 sc_85 := ⟨o85_0, o85_1, o85_2, o85_3, o85_4, o85_5, trivial⟩
theorem o86_0 : OKp l S b Lx xs dC dI cA 86 0 (s_aload 0) := ok_aload_n (k9 := 0) (by decide +kernel) rfl rfl
theorem o86_1 : OKp l S b Lx xs dC dI cA 86 1 (s_getR (fun t => t == 11) 0) := ok_getR (by decide +kernel) rfl fd_RX11_10
theorem o86_2 : OKp l S b Lx xs dC dI cA 86 2 (s_iload 1) := ok_iload_n (k9 := 1) (by decide +kernel) rfl rfl
theorem o86_3 : OKp l S b Lx xs dC dI cA 86 3 (s_invV (dv1 10 68 2) [] 1) := ok_invV (dv1_ok vc_RX11_106_10 rfl (by decide) (hXX 68 (by decide))) (by decide +kernel) rfl
theorem o86_4 : OKp l S b Lx xs dC dI cA 86 4 (s_ifnonnull 7) := ok_ifnonnull (off := 7) (by decide +kernel) (by decide +kernel) rfl
theorem o86_5 : OKp l S b Lx xs dC dI cA 86 5 (s_const (-1)) := ok_iconst (n := -1) (by decide +kernel) (by decide) rfl
theorem o86_6 : OKp l S b Lx xs dC dI cA 86 6 (s_goto 11) := ok_goto (off := 11) (by decide +kernel) (by decide +kernel)
theorem o86_7 : OKp l S b Lx xs dC dI cA 86 7 (s_aload 0) := ok_aload_n (k9 := 0) (by decide +kernel) rfl rfl
theorem o86_8 : OKp l S b Lx xs dC dI cA 86 8 (s_getR (fun t => t == 11) 0) := ok_getR (by decide +kernel) rfl fd_RX11_10
theorem o86_9 : OKp l S b Lx xs dC dI cA 86 9 (s_iload 1) := ok_iload_n (k9 := 1) (by decide +kernel) rfl rfl
theorem o86_10 : OKp l S b Lx xs dC dI cA 86 10 (s_invV (dv1 10 73 8) [] 1) := ok_invV (dv1_ok vc_RX11_136_10 rfl (by decide) (hXX 73 (by decide))) (by decide +kernel) rfl
theorem o86_11 : OKp l S b Lx xs dC dI cA 86 11 (s_ret) := ok_ret (by decide +kernel) rfl
theorem a86 (hl9 : l.stackTraces = false) : sm_all (OKp l S b Lx xs dC dI cA 86) 0 sc_86 := ⟨o86_0, o86_1, o86_2, o86_3, o86_4, o86_5, o86_6, o86_7, o86_8, o86_9, o86_10, o86_11, trivial⟩
theorem o87_0 : OKp l S b Lx xs dC dI cA 87 0 (s_aload 0) := ok_aload_n (k9 := 0) (by decide +kernel) rfl rfl
theorem o87_1 : OKp l S b Lx xs dC dI cA 87 1 (s_iload 1) := ok_iload_n (k9 := 1) (by decide +kernel) rfl rfl
theorem o87_2 : OKp l S b Lx xs dC dI cA 87 2 (s_invV (dv1 11 113 2) [] 1) := ok_invV (dv1_ok vc_RX11_46_11 rfl (by decide) (hXX 113 (by decide))) (by decide +kernel) rfl
theorem o87_3 : OKp l S b Lx xs dC dI cA 87 3 (s_astore 3) := ok_astore_n (k9 := 3) (by decide +kernel) rfl rfl
theorem o87_4 : OKp l S b Lx xs dC dI cA 87 4 (s_aload 3) := ok_aload_n (k9 := 3) (by decide +kernel) rfl rfl
theorem o87_5 : OKp l S b Lx xs dC dI cA 87 5 (s_ifnull 11) := ok_ifnull (off := 12) (by decide +kernel) (by decide +kernel) rfl
theorem o87_6 : OKp l S b Lx xs dC dI cA 87 6 (s_iload 2) := ok_iload_n (k9 := 2) (by decide +kernel) rfl rfl
theorem o87_7 : OKp l S b Lx xs dC dI cA 87 7 (s_if (fun x => x < 0) 11) := ok_if_lt (off := 8) (by decide +kernel) (by decide +kernel) rfl
theorem o87_8 : OKp l S b Lx xs dC dI cA 87 8 (s_iload 2) := ok_iload_n (k9 := 2) (by decide +kernel) rfl rfl
theorem o87_9 : OKp l S b Lx xs dC dI cA 87 9 (s_const (1)) := ok_iconst (n := 1) (by decide +kernel) (by decide) rfl
theorem o87_10 : OKp l S b Lx xs dC dI cA 87 10 (s_icmp (fun x y => x ≤ y) 13) := ok_icmp_le (off := 5) (by decide +kernel) (by decide +kernel) rfl
theorem o87_11 : OKp l S b Lx xs dC dI cA 87 11 (s_const (-1)) := ok_iconst (n := -1) (by decide +kernel) (by decide) rfl
theorem o87_12 : OKp l S b Lx xs dC dI cA 87 12 (s_ret) := ok_ret (by decide +kernel) rfl
theorem o87_13 : OKp l S b Lx xs dC dI cA 87 13 (s_aload 0) := ok_aload_n (k9 := 0) (by decide +kernel) rfl rfl
theorem o87_14 : OKp l S b Lx xs dC dI cA 87 14 (s_aload 3) := ok_aload_n (k9 := 3) (by decide +kernel) rfl rfl
theorem o87_15 : OKp l S b Lx xs dC dI cA 87 15 (s_invV (dv1 11 118 4) [] 1) := ok_invV (dv1_ok vc_RX11_139_11 rfl (by decide) (hXX 118 (by decide))) (by decide +kernel) rfl
theorem o87_16 : OKp l S b Lx xs dC dI cA 87 16 (s_istore 4) := ok_istore (by decide +kernel) rfl
theorem o87_17 : OKp l S b Lx xs dC dI cA 87 17 (s_iload 4) := ok_iload (by decide +kernel) rfl
theorem o87_18 : OKp l S b Lx xs dC dI cA 87 18 (s_if (fun x => x = 0) 21) := ok_if_eq (off := 6) (by decide +kernel) (by decide +kernel) rfl
theorem o87_19 : OKp l S b Lx xs dC dI cA 87 19 (s_iload 4) := ok_iload (by decide +kernel) rfl
theorem o87_20 : OKp l S b Lx xs dC dI cA 87 20 (s_ret) := ok_ret (by decide +kernel) rfl
theorem o87_21 : OKp l S b Lx xs dC dI cA 87 21 (s_aload 0) := ok_aload_n (k9 := 0) (by decide +kernel) rfl rfl
theorem o87_22 : OKp l S b Lx xs dC dI cA 87 22 (s_aload 3) := ok_aload_n (k9 := 3) (by decide +kernel) rfl rfl
theorem o87_23 : OKp l S b Lx xs dC dI cA 87 23 (s_null) := ok_null (by decide +kernel) rfl
theorem o87_24 : OKp l S b Lx xs dC dI cA 87 24 (s_const (-4)) := ok_bipush (n := -4) (by decide +kernel) (by decide) rfl
theorem o87_25 : OKp l S b Lx xs dC dI cA 87 25 (s_invV (dv1 11 124 8) [] 3) := ok_invV (dv1_ok vc_RX11_142_11 rfl (by decide) (hXX 124 (by decide))) (by decide +kernel) rfl
theorem o87_26 : OKp l S b Lx xs dC dI cA 87 26 (s_istore 5) := ok_istore (by decide +kernel) rfl
theorem o87_27 : OKp l S b Lx xs dC dI cA 87 27 (s_iload 2) := ok_iload_n (k9 := 2) (by decide +kernel) rfl rfl
theorem o87_28 : OKp l S b Lx xs dC dI cA 87 28 (s_if (fun x => x ≠ 0) 31) := ok_if_ne (off := 8) (by decide +kernel) (by decide +kernel) rfl
theorem o87_29 : OKp l S b Lx xs dC dI cA 87 29 (s_iload 5) := ok_iload (by decide +kernel) rfl
theorem o87_30 : OKp l S b Lx xs dC dI cA 87 30 (s_goto 37) := ok_goto (off := 15) (by decide +kernel) (by decide +kernel)
theorem o87_31 : OKp l S b Lx xs dC dI cA 87 31 (s_aload 0) := ok_aload_n (k9 := 0) (by decide +kernel) rfl rfl
theorem o87_32 : OKp l S b Lx xs dC dI cA 87 32 (s_getR (fun t => t == 11) 0) := ok_getR (by decide +kernel) rfl fd_RX11_10
theorem o87_33 : OKp l S b Lx xs dC dI cA 87 33 (s_invV (dv1 10 76 6) [] 0) := ok_invV (dv1_ok vc_RX11_146_10 rfl (by decide) (hXX 76 (by decide))) (by decide +kernel) rfl
theorem o87_34 : OKp l S b Lx xs dC dI cA 87 34 (s_aload 0) := ok_aload_n (k9 := 0) (by decide +kernel) rfl rfl
theorem o87_35 : OKp l S b Lx xs dC dI cA 87 35 (s_invV (dv1 11 123 3) [] 0) := ok_invV (dv1_ok vc_RX11_149_11 rfl (by decide) (hXX 123 (by decide))) (by decide +kernel) rfl
theorem o87_36 : OKp l S b Lx xs dC dI cA 87 36 (s_bin g_isub) := ok_isub (by decide +kernel) rfl
theorem o87_37 : OKp l S b Lx xs dC dI cA 87 37 (s_ret) := ok_ret (by decide +kernel) rfl
theorem a87 (hl9 : l.stackTraces = false) : sm_all (OKp l S b Lx xs dC dI cA 87) 0 sc_87 := ⟨o87_0, o87_1, o87_2, o87_3, o87_4, o87_5, o87_6, o87_7, o87_8, o87_9, o87_10, o87_11, o87_12, o87_13, o87_14, o87_15, o87_16, o87_17, o87_18, o87_19, o87_20, o87_21, o87_22, o87_23, o87_24, o87_25, o87_26, o87_27, o87_28, o87_29, o87_30, o87_31, o87_32, o87_33, o87_34, o87_35, o87_36, o87_37, trivial⟩
theorem o88_0 : OKp l S b Lx xs dC dI cA 88 0 (s_aload 0) := ok_aload_n (k9 := 0) (by decide +kernel) rfl rfl
theorem o88_1 : OKp l S b Lx xs dC dI cA 88 1 (s_getR (fun t => t == 11) 0) := ok_getR (by decide +kernel) rfl fd_RX11_10
theorem o88_2 : OKp l S b Lx xs dC dI cA 88 2 (s_iload 1) := ok_iload_n (k9 := 1) (by decide +kernel) rfl rfl
theorem o88_3 : OKp l S b Lx xs dC dI cA 88 3 (s_invV (dv1 10 67 2) [] 1) := ok_invV (dv1_ok vc_RX11_76_10 rfl (by decide) (hXX 67 (by decide))) (by decide +kernel) rfl
theorem o88_4 : OKp l S b Lx xs dC dI cA 88 4 (s_astore 4) := ok_astore (by decide +kernel) rfl
theorem o88_5 : OKp l S b Lx xs dC dI cA 88 5 (s_aload 0) := ok_aload_n (k9 := 0) (by decide +kernel) rfl rfl
theorem o88_6 : OKp l S b Lx xs dC dI cA 88 6 (s_iload 2) := ok_iload_n (k9 := 2) (by decide +kernel) rfl rfl
theorem o88_7 : OKp l S b Lx xs dC dI cA 88 7 (s_invV (dv1 11 113 2) [] 1) := ok_invV (dv1_ok vc_RX11_46_11 rfl (by decide) (hXX 113 (by decide))) (by decide +kernel) rfl
theorem o88_8 : OKp l S b Lx xs dC dI cA 88 8 (s_astore 5) := ok_astore (by decide +kernel) rfl
theorem o88_9 : OKp l S b Lx xs dC dI cA 88 9 (s_aload 4) := ok_aload (by decide +kernel) rfl
theorem o88_10 : OKp l S b Lx xs dC dI cA 88 10 (s_ifnull 18) := ok_ifnull (off := 17) (by decide +kernel) (by decide +kernel) rfl
theorem o88_11 : OKp l S b Lx xs dC dI cA 88 11 (s_aload 5) := ok_aload (by decide +kernel) rfl
theorem o88_12 : OKp l S b Lx xs dC dI cA 88 12 (s_ifnull 18) := ok_ifnull (off := 12) (by decide +kernel) (by decide +kernel) rfl
theorem o88_13 : OKp l S b Lx xs dC dI cA 88 13 (s_iload 3) := ok_iload_n (k9 := 3) (by decide +kernel) rfl rfl
theorem o88_14 : OKp l S b Lx xs dC dI cA 88 14 (s_if (fun x => x < 0) 18) := ok_if_lt (off := 8) (by decide +kernel) (by decide +kernel) rfl
theorem o88_15 : OKp l S b Lx xs dC dI cA 88 15 (s_iload 3) := ok_iload_n (k9 := 3) (by decide +kernel) rfl rfl
theorem o88_16 : OKp l S b Lx xs dC dI cA 88 16 (s_const (1)) := ok_iconst (n := 1) (by decide +kernel) (by decide) rfl
theorem o88_17 : OKp l S b Lx xs dC dI cA 88 17 (s_icmp (fun x y => x ≤ y) 20) := ok_icmp_le (off := 5) (by decide +kernel) (by decide +kernel) rfl
theorem o88_18 : OKp l S b Lx xs dC dI cA 88 18 (s_const (-1)) := ok_iconst (n := -1) (by decide +kernel) (by decide) rfl
theorem o88_19 : OKp l S b Lx xs dC dI cA 88 19 (s_ret) := ok_ret (by decide +kernel) rfl
theorem o88_20 : OKp l S b Lx xs dC dI cA 88 20 (s_aload 0) := ok_aload_n (k9 := 0) (by decide +kernel) rfl rfl
theorem o88_21 : OKp l S b Lx xs dC dI cA 88 21 (s_aload 5) := ok_aload (by decide +kernel) rfl
theorem o88_22 : OKp l S b Lx xs dC dI cA 88 22 (s_invV (dv1 11 117 4) [] 1) := ok_invV (dv1_ok vc_RX11_152_11 rfl (by decide) (hXX 117 (by decide))) (by decide +kernel) rfl
theorem o88_23 : OKp l S b Lx xs dC dI cA 88 23 (s_istore 6) := ok_istore (by decide +kernel) rfl
theorem o88_24 : OKp l S b Lx xs dC dI cA 88 24 (s_iload 6) := ok_iload (by decide +kernel) rfl
theorem o88_25 : OKp l S b Lx xs dC dI cA 88 25 (s_if (fun x => x = 0) 28) := ok_if_eq (off := 8) (by decide +kernel) (by decide +kernel) rfl
theorem o88_26 : OKp l S b Lx xs dC dI cA 88 26 (s_iload 6) := ok_iload (by decide +kernel) rfl
theorem o88_27 : OKp l S b Lx xs dC dI cA 88 27 (s_goto 33) := ok_goto (off := 12) (by decide +kernel) (by decide +kernel)
theorem o88_28 : OKp l S b Lx xs dC dI cA 88 28 (s_aload 0) := ok_aload_n (k9 := 0) (by decide +kernel) rfl rfl
theorem o88_29 : OKp l S b Lx xs dC dI cA 88 29 (s_aload 5) := ok_aload (by decide +kernel) rfl
theorem o88_30 : OKp l S b Lx xs dC dI cA 88 30 (s_aload 4) := ok_aload (by decide +kernel) rfl
theorem o88_31 : OKp l S b Lx xs dC dI cA 88 31 (s_iload 3) := ok_iload_n (k9 := 3) (by decide +kernel) rfl rfl
theorem o88_32 : OKp l S b Lx xs dC dI cA 88 32 (s_invV (dv1 11 127 9) [] 3) := ok_invV (dv1_ok vc_RX11_155_11 rfl (by decide) (hXX 127 (by decide))) (by decide +kernel) rfl
theorem o88_33 : OKp l S b Lx xs dC dI cA 88 33 (s_ret) := ok_ret (by decide +kernel) rfl
theorem a88 (hl9 : l.stackTraces = false) : sm_all (OKp l S b Lx xs dC dI cA 88) 0 sc_88 := ⟨o88_0, o88_1, o88_2, o88_3, o88_4, o88_5, o88_6, o88_7, o88_8, o88_9, o88_10, o88_11, o88_12, o88_13, o88_14, o88_15, o88_16, o88_17, o88_18, o88_19, o88_20, o88_21, o88_22, o88_23, o88_24, o88_25, o88_26, o88_27, o88_28, o88_29, o88_30, o88_31, o88_32, o88_33, trivial⟩
theorem o89_0 : OKp l S b Lx xs dC dI cA 89 0 (s_aload 0) := ok_aload_n (k9 := 0) (by decide +kernel) rfl rfl
theorem o89_1 : OKp l S b Lx xs dC dI cA 89 1 (s_getR (fun t => t == 11) 0) := ok_getR (by decide +kernel) rfl fd_RX11_10
theorem o89_2 : OKp l S b Lx xs dC dI cA 89 2 (s_iload 1) := ok_iload_n (k9 := 1) (by decide +kernel) rfl rfl
theorem o89_3 : OKp l S b Lx xs dC dI cA 89 3 (s_invV (dv1 10 67 2) [] 1) := ok_invV (dv1_ok vc_RX11_76_10 rfl (by decide) (hXX 67 (by decide))) (by decide +kernel) rfl
theorem o89_4 : OKp l S b Lx xs dC dI cA 89 4 (s_astore 4) := ok_astore (by decide +kernel) rfl
theorem o89_5 : OKp l S b Lx xs dC dI cA 89 5 (s_aload 0) := ok_aload_n (k9 := 0) (by decide +kernel) rfl rfl
theorem o89_6 : OKp l S b Lx xs dC dI cA 89 6 (s_iload 2) := ok_iload_n (k9 := 2) (by decide +kernel) rfl rfl
theorem o89_7 : OKp l S b Lx xs dC dI cA 89 7 (s_invV (dv1 11 113 2) [] 1) := ok_invV (dv1_ok vc_RX11_46_11 rfl (by decide) (hXX 113 (by decide))) (by decide +kernel) rfl
theorem o89_8 : OKp l S b Lx xs dC dI cA 89 8 (s_astore 5) := ok_astore (by decide +kernel) rfl
theorem o89_9 : OKp l S b Lx xs dC dI cA 89 9 (s_aload 4) := ok_aload (by decide +kernel) rfl
theorem o89_10 : OKp l S b Lx xs dC dI cA 89 10 (s_ifnull 18) := ok_ifnull (off := 17) (by decide +kernel) (by decide +kernel) rfl
theorem o89_11 : OKp l S b Lx xs dC dI cA 89 11 (s_aload 5) := ok_aload (by decide +kernel) rfl
theorem o89_12 : OKp l S b Lx xs dC dI cA 89 12 (s_ifnull 18) := ok_ifnull (off := 12) (by decide +kernel) (by decide +kernel) rfl
theorem o89_13 : OKp l S b Lx xs dC dI cA 89 13 (s_iload 3) := ok_iload_n (k9 := 3) (by decide +kernel) rfl rfl
theorem o89_14 : OKp l S b Lx xs dC dI cA 89 14 (s_if (fun x => x < 0) 18) := ok_if_lt (off := 8) (by decide +kernel) (by decide +kernel) rfl
theorem o89_15 : OKp l S b Lx xs dC dI cA 89 15 (s_iload 3) := ok_iload_n (k9 := 3) (by decide +kernel) rfl rfl
theorem o89_16 : OKp l S b Lx xs dC dI cA 89 16 (s_const (1)) := ok_iconst (n := 1) (by decide +kernel) (by decide) rfl
theorem o89_17 : OKp l S b Lx xs dC dI cA 89 17 (s_icmp (fun x y => x ≤ y) 20) := ok_icmp_le (off := 5) (by decide +kernel) (by decide +kernel) rfl
theorem o89_18 : OKp l S b Lx xs dC dI cA 89 18 (s_const (-1)) := ok_iconst (n := -1) (by decide +kernel) (by decide) rfl
theorem o89_19 : OKp l S b Lx xs dC dI cA 89 19 (s_ret) := ok_ret (by decide +kernel) rfl
theorem o89_20 : OKp l S b Lx xs dC dI cA 89 20 (s_aload 0) := ok_aload_n (k9 := 0) (by decide +kernel) rfl rfl
theorem o89_21 : OKp l S b Lx xs dC dI cA 89 21 (s_aload 5) := ok_aload (by decide +kernel) rfl
theorem o89_22 : OKp l S b Lx xs dC dI cA 89 22 (s_invV (dv1 11 117 4) [] 1) := ok_invV (dv1_ok vc_RX11_152_11 rfl (by decide) (hXX 117 (by decide))) (by decide +kernel) rfl
theorem o89_23 : OKp l S b Lx xs dC dI cA 89 23 (s_istore 6) := ok_istore (by decide +kernel) rfl
theorem o89_24 : OKp l S b Lx xs dC dI cA 89 24 (s_iload 6) := ok_iload (by decide +kernel) rfl
theorem o89_25 : OKp l S b Lx xs dC dI cA 89 25 (s_if (fun x => x = 0) 28) := ok_if_eq (off := 6) (by decide +kernel) (by decide +kernel) rfl
theorem o89_26 : OKp l S b Lx xs dC dI cA 89 26 (s_iload 6) := ok_iload (by decide +kernel) rfl
theorem o89_27 : OKp l S b Lx xs dC dI cA 89 27 (s_ret) := ok_ret (by decide +kernel) rfl
theorem o89_28 : OKp l S b Lx xs dC dI cA 89 28 (s_const (-4)) := ok_bipush (n := -4) (by decide +kernel) (by decide) rfl
theorem o89_29 : OKp l S b Lx xs dC dI cA 89 29 (s_istore 7) := ok_istore (by decide +kernel) rfl
theorem o89_30 : OKp l S b Lx xs dC dI cA 89 30 (s_const (-1)) := ok_iconst (n := -1) (by decide +kernel) (by decide) rfl
theorem o89_31 : OKp l S b Lx xs dC dI cA 89 31 (s_istore 8) := ok_istore (by decide +kernel) rfl
theorem o89_32 : OKp l S b Lx xs dC dI cA 89 32 (s_const (0)) := ok_iconst (n := 0) (by decide +kernel) (by decide) rfl
theorem o89_33 : OKp l S b Lx xs dC dI cA 89 33 (s_istore 9) := ok_istore (by decide +kernel) rfl
theorem o89_34 : OKp l S b Lx xs dC dI cA 89 34 (s_iload 9) := ok_iload (by decide +kernel) rfl
theorem o89_35 : OKp l S b Lx xs dC dI cA 89 35 (s_const (8)) := ok_bipush (n := 8) (by decide +kernel) (by decide) rfl
theorem o89_36 : OKp l S b Lx xs dC dI cA 89 36 (s_icmp (fun x y => y ≤ x) 63) := ok_icmp_ge (off := 56) (by decide +kernel) (by decide +kernel) rfl
theorem o89_37 : OKp l S b Lx xs dC dI cA 89 37 (s_aload 4) := ok_aload (by decide +kernel) rfl
theorem o89_38 : OKp l S b Lx xs dC dI cA 89 38 (s_iload 9) := ok_iload (by decide +kernel) rfl
theorem o89_39 : OKp l S b Lx xs dC dI cA 89 39 (s_invV (dv1 1 8 2) [] 1) := ok_invV (dv1_ok vc_RX11_97_1 rfl (by decide) (hXX 8 (by decide))) (by decide +kernel) rfl
theorem o89_40 : OKp l S b Lx xs dC dI cA 89 40 (s_if (fun x => x = 0) 61) := ok_if_eq (off := 40) (by decide +kernel) (by decide +kernel) rfl
theorem o89_41 : OKp l S b Lx xs dC dI cA 89 41 (s_aload 0) := ok_aload_n (k9 := 0) (by decide +kernel) rfl rfl
theorem o89_42 : OKp l S b Lx xs dC dI cA 89 42 (s_aload 5) := ok_aload (by decide +kernel) rfl
theorem o89_43 : OKp l S b Lx xs dC dI cA 89 43 (s_aload 4) := ok_aload (by decide +kernel) rfl
theorem o89_44 : OKp l S b Lx xs dC dI cA 89 44 (s_aload 4) := ok_aload (by decide +kernel) rfl
theorem o89_45 : OKp l S b Lx xs dC dI cA 89 45 (s_getI (fun t => t == 1) 3) := ok_getI (by decide +kernel) rfl fd_RX11_85
theorem o89_46 : OKp l S b Lx xs dC dI cA 89 46 (s_const (1)) := ok_iconst (n := 1) (by decide +kernel) (by decide) rfl
theorem o89_47 : OKp l S b Lx xs dC dI cA 89 47 (s_iload 9) := ok_iload (by decide +kernel) rfl
theorem o89_48 : OKp l S b Lx xs dC dI cA 89 48 (s_bin g_ishl) := ok_ishl (by decide +kernel) rfl
theorem o89_49 : OKp l S b Lx xs dC dI cA 89 49 (s_const (-1)) := ok_iconst (n := -1) (by decide +kernel) (by decide) rfl
theorem o89_50 : OKp l S b Lx xs dC dI cA 89 50 (s_bin g_ixor) := ok_ixor (by decide +kernel) rfl
theorem o89_51 : OKp l S b Lx xs dC dI cA 89 51 (s_bin g_iand) := ok_iand (by decide +kernel) rfl
theorem o89_52 : OKp l S b Lx xs dC dI cA 89 52 (s_invV (dv1 11 125 8) [] 3) := ok_invV (dv1_ok vc_RX11_159_11 rfl (by decide) (hXX 125 (by decide))) (by decide +kernel) rfl
theorem o89_53 : OKp l S b Lx xs dC dI cA 89 53 (s_istore 10) := ok_istore (by decide +kernel) rfl
theorem o89_54 : OKp l S b Lx xs dC dI cA 89 54 (s_iload 10) := ok_iload (by decide +kernel) rfl
theorem o89_55 : OKp l S b Lx xs dC dI cA 89 55 (s_iload 8) := ok_iload (by decide +kernel) rfl
theorem o89_56 : OKp l S b Lx xs dC dI cA 89 56 (s_icmp (fun x y => x ≤ y) 61) := ok_icmp_le (off := 11) (by decide +kernel) (by decide +kernel) rfl
theorem o89_57 : OKp l S b Lx xs dC dI cA 89 57 (s_iload 10) := ok_iload (by decide +kernel) rfl
theorem o89_58 : OKp l S b Lx xs dC dI cA 89 58 (s_istore 8) := ok_istore (by decide +kernel) rfl
theorem o89_59 : OKp l S b Lx xs dC dI cA 89 59 (s_iload 9) := ok_iload (by decide +kernel) rfl
theorem o89_60 : OKp l S b Lx xs dC dI cA 89 60 (s_istore 7) := ok_istore (by decide +kernel) rfl
theorem o89_61 : OKp l S b Lx xs dC dI cA 89 61 (s_iinc 9 (1)) := ok_iinc (n := 1) (by decide +kernel) (by decide) rfl
theorem o89_62 : OKp l S b Lx xs dC dI cA 89 62 (s_goto 34) := ok_goto (off := -57) (by decide +kernel) (by decide +kernel)
theorem o89_63 : OKp l S b Lx xs dC dI cA 89 63 (s_iload 3) := ok_iload_n (k9 := 3) (by decide +kernel) rfl rfl
theorem o89_64 : OKp l S b Lx xs dC dI cA 89 64 (s_if (fun x => x ≠ 0) 67) := ok_if_ne (off := 6) (by decide +kernel) (by decide +kernel) rfl
theorem o89_65 : OKp l S b Lx xs dC dI cA 89 65 (s_iload 7) := ok_iload (by decide +kernel) rfl
theorem o89_66 : OKp l S b Lx xs dC dI cA 89 66 (s_ret) := ok_ret (by decide +kernel) rfl
theorem o89_67 : OKp l S b Lx xs dC dI cA 89 67 (s_iload 7) := ok_iload (by decide +kernel) rfl
theorem o89_68 : OKp l S b Lx xs dC dI cA 89 68 (s_const (-4)) := ok_bipush (n := -4) (by decide +kernel) (by decide) rfl
theorem o89_69 : OKp l S b Lx xs dC dI cA 89 69 (s_icmp (fun x y => x ≠ y) 77) := ok_icmp_ne (off := 19) (by decide +kernel) (by decide +kernel) rfl
theorem o89_70 : OKp l S b Lx xs dC dI cA 89 70 (s_aload 0) := ok_aload_n (k9 := 0) (by decide +kernel) rfl rfl
theorem o89_71 : OKp l S b Lx xs dC dI cA 89 71 (s_aload 5) := ok_aload (by decide +kernel) rfl
theorem o89_72 : OKp l S b Lx xs dC dI cA 89 72 (s_aload 4) := ok_aload (by decide +kernel) rfl
theorem o89_73 : OKp l S b Lx xs dC dI cA 89 73 (s_aload 4) := ok_aload (by decide +kernel) rfl
theorem o89_74 : OKp l S b Lx xs dC dI cA 89 74 (s_getI (fun t => t == 1) 3) := ok_getI (by decide +kernel) rfl fd_RX11_85
theorem o89_75 : OKp l S b Lx xs dC dI cA 89 75 (s_invV (dv1 11 125 8) [] 3) := ok_invV (dv1_ok vc_RX11_159_11 rfl (by decide) (hXX 125 (by decide))) (by decide +kernel) rfl
theorem o89_76 : OKp l S b Lx xs dC dI cA 89 76 (s_goto 78) := ok_goto (off := 5) (by decide +kernel) (by decide +kernel)
theorem o89_77 : OKp l S b Lx xs dC dI cA 89 77 (s_iload 8) := ok_iload (by decide +kernel) rfl
theorem o89_78 : OKp l S b Lx xs dC dI cA 89 78 (s_ret) := ok_ret (by decide +kernel) rfl
theorem a89_0 (hl9 : l.stackTraces = false) : sm_all (OKp l S b Lx xs dC dI cA 89) 0 sc_89_0 := ⟨o89_0, o89_1, o89_2, o89_3, o89_4, o89_5, o89_6, o89_7, o89_8, o89_9, o89_10, o89_11, o89_12, o89_13, o89_14, o89_15, o89_16, o89_17, o89_18, o89_19, o89_20, o89_21, o89_22, o89_23, o89_24, o89_25, o89_26, o89_27, o89_28, o89_29, o89_30, o89_31, o89_32, o89_33, o89_34, o89_35, o89_36, o89_37, o89_38, o89_39, o89_40, o89_41, o89_42, o89_43, o89_44, o89_45, o89_46, o89_47, o89_48, o89_49, o89_50, o89_51, o89_52, o89_53, o89_54, o89_55, o89_56, o89_57, o89_58, o89_59, trivial⟩
theorem a89_1 (hl9 : l.stackTraces = false) : sm_all (OKp l S b Lx xs dC dI cA 89) 60 sc_89_1 := ⟨o89_60, o89_61, o89_62, o89_63, o89_64, o89_65, o89_66, o89_67, o89_68, o89_69, o89_70, o89_71, o89_72, o89_73, o89_74, o89_75, o89_76, o89_77, o89_78, trivial⟩
theorem a89 (hl9 : l.stackTraces = false) : sm_all (OKp l S b Lx xs dC dI cA 89) 0 sc_89 := sm_all_app _ _ _ (a89_0 hl9) (a89_1 hl9)
end SMOKS
