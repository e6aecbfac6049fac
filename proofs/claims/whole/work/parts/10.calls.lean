/-! CALLS -/
def s_invS (y n ml : Nat) : SIns := fun i L st μ => if n ≤ st.length ∧ (st.drop n).length ≤ 4 ∧ (sinit (st.take n).reverse).length ≤ ml then some (.inr (.inr (y, (st.take n).reverse, i + 1, [], L, st.drop n, μ))) else none
def s_invI (y n ml : Nat) : SIns := fun i L st μ => match st.drop n with
  | .inr (.inl a) :: r => if a ≠ 0 ∧ n ≤ st.length ∧ r.length ≤ 4 ∧ (sinit (.inr (.inl a) :: (st.take n).reverse)).length ≤ ml then some (.inr (.inr (y, .inr (.inl a) :: (st.take n).reverse, i + 1, [], L, r, μ))) else none
  | _ => none
/-- by the receiver's tag: which method, its locals -/
def s_invV (D : Nat → Option (Nat × Nat)) (hs : List (Nat × Nat × Nat)) (n : Nat) : SIns := fun i L st μ => match st.drop n with
  | .inr (.inl a) :: r => match D (tg μ a) with
    | some (y, ml) => if n ≤ st.length ∧ r.length ≤ 4 ∧ (sinit (.inr (.inl a) :: (st.take n).reverse)).length ≤ ml then some (.inr (.inr (y, .inr (.inl a) :: (st.take n).reverse, i + 1, hs, L, r, μ))) else none
    | none => none
  | _ => none
section SMCALL
variable {l : Launch} {S b Lx : Nat} {xs : Nat → Int32} {dC : Nat → ClassId} {dI : Nat → Nat → Nat} {cA : Nat → ClassId} {M : Nat → SMeth} {X : Nat → State → Prop} {m : Nat} {pcs : Nat → Nat} {i : Nat}
theorem sm_good : GoodIn lw_g lw_g := fun _ h => ⟨h, good_of_word (List.mem_filter.mp h).2⟩
theorem sm_goodM {q : SMeth} (h : sm_ws1 q ∈ lw_g) : GoodIn lw_g (sm_wsM q) := fun w hw => (List.mem_cons.mp hw).elim (fun e => by rw [e]; exact sm_good _ h) (fun h => sm_good _ h)
theorem sm_goodC {L ws : List Cond} (h : ∀ w ∈ L, w ∈ lw_g) (h2 : GoodIn lw_g ws) : GoodIn lw_g (L ++ ws) := fun w hw => (List.mem_append.mp hw).elim (fun h9 => sm_good _ (h w h9)) (fun h9 => h2 w h9)
theorem sm_met {q : SMeth} {d : Nat} {as : List SV} {μ μ2 : SMem} {v : Option SV} (h : sm_CT l S b Lx xs dC dI cA q d as μ (.inl v) μ2) :
    Met l q.1 (sm_wsM q) (sm_room d μ μ2) (va_Pc (as.map (sm_v S b)) (fun U => U.heap.size + 2 = S + sz μ ∧ sm_R S b Lx xs dC dI cA μ U.heap ∧ va_K (dC, dI) vwCl (sm_tys cA) U ∧ sm_Z S U U.heap)) (sm_CQ S b Lx xs dC dI cA (.inl v) μ2) (sz μ2 - sz μ) (sl μ2 - sl μ) (sm_A S) := by
  refine MetFree.mono h (fun _ _ h => h) (fun _ _ _ _ _ h => h) (fun a s o s' _ hq => ?_)
  rcases hq with hq | ⟨q, rfl, E, ce, L, ⟨k, hk, -⟩, -⟩
  · exact hq
  · cases hk
theorem sm_goes {p : Program} {e : Env} {R : Room} {s : State} {mm : MethodId} {args : Array Value} {below : List Frame} {meth : Method} {c : Code} {Q : State → Prop} {z0 n0 pc : Nat} {μ μ2 : SMem} {H : Heap} {locs : List Loc} {ls : Array Slot} {L : SL} {st0 rest9 : List Value} {rest : List SV} {v : Option SV} {a9 : Array Value}
    (hr : va_Run p l e R s mm args below meth c H locs (sz μ - z0) (sl μ - n0) (sz μ2 - sz μ) (sl μ2 - sl μ) (F0 mm pc ls st0) rest9 (sm_CQ S b Lx xs dC dI cA (.inl v) μ2 a9) (sm_A S)) (hS : va_S (sm_A S) s.heap H locs) (hl : sm_L S b ls L) (h1 : z0 ≤ sz μ) (h2 : n0 ≤ sl μ) (h3 : sz μ ≤ sz μ2) (h4 : sl μ ≤ sl μ2)
    (hW : sm_W S b Lx xs dC dI cA p l e R s mm args below meth c Q z0 n0 (pc + 3) L (v.toList ++ rest) μ2) (hrest : rest9 = rest.map (sm_v S b)) : W p l e R s mm args below meth c H locs (sz μ - z0) (sl μ - n0) Q (F0 mm pc ls st0) := by
  subst hrest
  intro T hT X
  obtain ⟨v', st₀, t, T', L', h0, X', hL, e1, e2, ⟨v2, hv2, ho, hR2, hF⟩, st⟩ := hr T hT X
  cases hv2
  cases ho
  have hS2 := (vx_keep h0 e1 hS (fun q _ h => h) (fun q h => h) hL hF).2.2
  have hk := hW T'.heap (locs ++ L') ls (by rw [e1]; exact hR2) hS2 hl
  rw [show sz μ - z0 + (sz μ2 - sz μ) = sz μ2 - z0 by omega, show sl μ - n0 + (sl μ2 - sl μ) = sl μ2 - n0 by omega] at X'
  obtain ⟨t2, a1, b1⟩ := hk T' rfl X'
  refine ⟨t2, st t2 ?_, b1⟩
  have e9 : (v.toList ++ rest).map (sm_v S b) = (v.map (sm_v S b)).toList ++ rest.map (sm_v S b) := by cases v <;> rfl
  rw [e9] at a1
  exact a1
theorem sm_pre {s : State} {z0 : Nat} {as : List SV} {μ : SMem} {H : Heap} {locs : List Loc} (hR : sm_R S b Lx xs dC dI cA μ H) (hH : H.size = S + (sz μ - 2)) (hK : va_K (dC, dI) vwCl (sm_tys cA) s) (hZ : sm_Z S s s.heap) (hS : va_S (sm_A S) s.heap H locs) :
    ∀ U : State, U.heap = H → s.WarmedH U.vm → va_Pc (as.map (sm_v S b)) (fun U => U.heap.size + 2 = S + sz μ ∧ sm_R S b Lx xs dC dI cA μ U.heap ∧ va_K (dC, dI) vwCl (sm_tys cA) U ∧ sm_Z S U U.heap) (as.map (sm_v S b)).toArray U :=
  fun U hU hW => ⟨rfl, by rw [hU, hH]; have := hR.2.1; omega, by rw [hU]; exact hR, va_K.moved hW.alike hK, by rw [hU]; exact hZ.go hW hS⟩
theorem sm_stk {n : Nat} {st : List SV} : st.map (sm_v S b) = (((st.take n).reverse.map (sm_v S b)).reverse) ++ (st.drop n).map (sm_v S b) := by
  rw [← List.map_reverse, List.reverse_reverse, ← List.map_append, List.take_append_drop]
theorem ok_invS {y n idx ml : Nat} (hq : (M y).2.2.2.2 = []) (hml : ml = (M y).2.2.1) (hm9 : ml ≤ 100) (hXy : ∀ s, X y s) (h1 : Cond.methodLink (M m).1.cls idx (M y).1 ∈ lw_g) (h2 : Cond.static (M y).1 ∈ lw_g) (h3 : Cond.initialized (M y).1.cls ∈ lw_g) (h4 : sm_ws1 (M y) ∈ lw_g) (hdv : (M y).1.cls ≠ "java/lang/invoke/MethodHandle" ∧ (M y).1.cls ≠ "java/lang/invoke/VarHandle" ∧ (parseMethodDescriptor (M y).1.desc).map (fun d => d.parameters.length) = some n) (hd : decode (M m).2.1 (pcs i) = .ok (.invokestatic idx, 3)) (hp : pcs (i + 1) = pcs i + 3) : sm_OK l S b Lx xs dC dI cA M X m pcs i (s_invS y n ml) := by
  intro L st μ cmd h hL
  unfold s_invS at h
  split at h
  · next hc9 =>
    cases h
    refine ⟨rfl, rfl, by rw [← hml]; exact hc9.2.2, hXy, fun p e R s mm args below meth c Q z0 n0 hF hX hz hn d res μ2 hfr hlo hCT hm1 hm2 hc hs hW H locs ls hR hS hl => ?_⟩
    obtain ⟨hx, hb, hml9, hown, hts, -, -, hK, hs0, -, -, hZ, -, -⟩ := hF
    subst hml
    rcases res with v | k
    · dsimp only at hW
      rw [hp] at hW
      refine sm_size hR hs0 hz fun hH => ?_
      have hws : sm_wsM (M y) = Cond.code (M y).1 (M y).2.1 (M y).2.2.1 (M y).2.2.2.1 :: lw_g := by unfold sm_wsM sm_ws1; rw [if_pos hq]
      have hlo9 : 8 + ((M y).2.2.1 + 11) + (d + 1) * sm_KL ≤ R.locals := by
        have : (d + 2) * sm_KL = (d + 1) * sm_KL + 1400 := by unfold sm_KL; omega
        omega
      have cw := va_cwS (R := R) (rm := sm_room d μ μ2) (mc := sz μ2 - sz μ) (ms := sl μ2 - sl μ) (own := (M m).1.cls) (index := idx) n hts (sm_goodC (by intro w hw; simp only [List.mem_cons, List.not_mem_nil, or_false] at hw; rcases hw with rfl | rfl | rfl <;> assumption) (sm_goodM h4)) hws rfl rfl hdv ⟨hfr, hlo9⟩
      refine sm_goes (va_runS (cc := (M m).2.1) (nL := (M m).2.2.1) (own := (M m).1.cls) (As := (st.take n).reverse.map (sm_v S b)) (rest := (st.drop n).map (sm_v S b)) ⟨hx, hb, hml9, hown, hts⟩ (sm_met hCT) cw ⟨sm_blind, sm_pre (z0 := z0) hR hH hK hZ hS⟩ rfl (by simp; omega) (by rw [← hL]; exact hl.size) sm_stk (lv_room (sm_cat4 hc9.2.1)) hd ⟨by omega, by omega⟩) hS hl hz hn hm1 hm2 hW rfl
    · obtain ⟨j, x, h9, -⟩ := hW
      cases h9
  · cases h
theorem ok_invSN {y n idx ml : Nat} (hq : (M y).2.2.2.2 = []) (hml : ml = (M y).2.2.1) (hm9 : ml ≤ 100) (hXy : ∀ s, X y s) {host : String} (h1 : Cond.methodLinkNest (M m).1.cls idx (M y).1 host ∈ lw_n) (h2 : Cond.static (M y).1 ∈ lw_g) (h3 : Cond.initialized (M y).1.cls ∈ lw_g) (h4 : sm_ws1 (M y) ∈ lw_g) (hdv : (M y).1.cls ≠ "java/lang/invoke/MethodHandle" ∧ (M y).1.cls ≠ "java/lang/invoke/VarHandle" ∧ (parseMethodDescriptor (M y).1.desc).map (fun d => d.parameters.length) = some n) (hd : decode (M m).2.1 (pcs i) = .ok (.invokestatic idx, 3)) (hp : pcs (i + 1) = pcs i + 3) : sm_OK l S b Lx xs dC dI cA M X m pcs i (s_invS y n ml) := by
  intro L st μ cmd h hL
  unfold s_invS at h
  split at h
  · next hc9 =>
    cases h
    refine ⟨rfl, rfl, by rw [← hml]; exact hc9.2.2, hXy, fun p e R s mm args below meth c Q z0 n0 hF hX hz hn d res μ2 hfr hlo hCT hm1 hm2 hc hs hW H locs ls hR hS hl => ?_⟩
    obtain ⟨hx, hb, hml9, hown, hts, -, -, hK, hs0, -, -, hZ, -, -⟩ := hF
    subst hml
    rcases res with v | k
    · dsimp only at hW
      rw [hp] at hW
      refine sm_size hR hs0 hz fun hH => ?_
      have hws : sm_wsM (M y) = Cond.code (M y).1 (M y).2.1 (M y).2.2.1 (M y).2.2.2.1 :: lw_g := by unfold sm_wsM sm_ws1; rw [if_pos hq]
      have hlo9 : 8 + ((M y).2.2.1 + 11) + (d + 1) * sm_KL ≤ R.locals := by
        have : (d + 2) * sm_KL = (d + 1) * sm_KL + 1400 := by unfold sm_KL; omega
        omega
      have cw := va_cnB (R := R) (rm := sm_room d μ μ2) (mc := sz μ2 - sz μ) (ms := sl μ2 - sl μ) (own := (M m).1.cls) (index := idx) (host := host) n hts (sm_goodM h4) hws rfl rfl (hZ.nw h1) (hts _ h3) hdv ⟨hfr, hlo9⟩
      refine sm_goes (va_runSN (cc := (M m).2.1) (nL := (M m).2.2.1) (own := (M m).1.cls) (As := (st.take n).reverse.map (sm_v S b)) (rest := (st.drop n).map (sm_v S b)) ⟨hx, hb, hml9, hown, hts⟩ (sm_met hCT) ⟨cw, hts _ h2, trivial⟩ ⟨sm_blind, sm_pre (z0 := z0) hR hH hK hZ hS⟩ rfl (by simp; omega) (by rw [← hL]; exact hl.size) sm_stk (lv_room (sm_cat4 hc9.2.1)) hd ⟨by omega, by omega⟩) hS hl hz hn hm1 hm2 hW rfl
    · obtain ⟨j, x, h9, -⟩ := hW
      cases h9
  · cases h
theorem ok_invSW {y n idx ml : Nat} (hq : (M y).2.2.2.2 ≠ []) (hml : ml = (M y).2.2.1) (hm9 : ml ≤ 100) (hXy : ∀ s, X y s) (h1 : Cond.methodLink (M m).1.cls idx (M y).1 ∈ lw_g) (h2 : Cond.static (M y).1 ∈ lw_g) (h3 : Cond.initialized (M y).1.cls ∈ lw_g) (h4 : sm_ws1 (M y) ∈ lw_g) (hdv : (M y).1.cls ≠ "java/lang/invoke/MethodHandle" ∧ (M y).1.cls ≠ "java/lang/invoke/VarHandle" ∧ (parseMethodDescriptor (M y).1.desc).map (fun d => d.parameters.length) = some n) (hd : decode (M m).2.1 (pcs i) = .ok (.invokestatic idx, 3)) (hp : pcs (i + 1) = pcs i + 3) : sm_OK l S b Lx xs dC dI cA M X m pcs i (s_invS y n ml) := by
  intro L st μ cmd h hL
  unfold s_invS at h
  split at h
  · next hc9 =>
    cases h
    refine ⟨rfl, rfl, by rw [← hml]; exact hc9.2.2, hXy, fun p e R s mm args below meth c Q z0 n0 hF hX hz hn d res μ2 hfr hlo hCT hm1 hm2 hc hs hW H locs ls hR hS hl => ?_⟩
    obtain ⟨hx, hb, hml9, hown, hts, -, -, hK, hs0, -, -, hZ, -, -⟩ := hF
    subst hml
    rcases res with v | k
    · dsimp only at hW
      rw [hp] at hW
      refine sm_size hR hs0 hz fun hH => ?_
      have hws : sm_wsM (M y) = Cond.codeWith (M y).1 (M y).2.1 (M y).2.2.1 (M y).2.2.2.1 (M y).2.2.2.2 :: lw_g := by unfold sm_wsM sm_ws1; rw [if_neg hq]
      have hlo9 : 8 + ((M y).2.2.1 + 11) + (d + 1) * sm_KL ≤ R.locals := by
        have : (d + 2) * sm_KL = (d + 1) * sm_KL + 1400 := by unfold sm_KL; omega
        omega
      have cw := vx_cwSW (R := R) (rm := sm_room d μ μ2) (mc := sz μ2 - sz μ) (ms := sl μ2 - sl μ) (own := (M m).1.cls) (index := idx) n hts (sm_goodC (by intro w hw; simp only [List.mem_cons, List.not_mem_nil, or_false] at hw; rcases hw with rfl | rfl | rfl <;> assumption) (sm_goodM h4)) hws rfl rfl hdv ⟨hfr, hlo9⟩
      refine sm_goes (vx_runSW (cc := (M m).2.1) (nL := (M m).2.2.1) (own := (M m).1.cls) (As := (st.take n).reverse.map (sm_v S b)) (rest := (st.drop n).map (sm_v S b)) ⟨hx, hb, hml9, hown, hts⟩ (sm_met hCT) cw ⟨sm_blind, sm_pre (z0 := z0) hR hH hK hZ hS⟩ rfl (by simp; omega) (by rw [← hL]; exact hl.size) sm_stk (lv_room (sm_cat4 hc9.2.1)) hd ⟨by omega, by omega⟩) hS hl hz hn hm1 hm2 hW rfl
    · obtain ⟨j, x, h9, -⟩ := hW
      cases h9
  · cases h
theorem ok_invI {y n idx ml : Nat} (hq : (M y).2.2.2.2 = []) (hml : ml = (M y).2.2.1) (hm9 : ml ≤ 100) (hXy : ∀ s, X y s) (h1 : Cond.methodLink (M m).1.cls idx (M y).1 ∈ lw_g) (h2 : Cond.instanceMethod (M y).1 ∈ lw_g) (h3 : Cond.initialized (M y).1.cls ∈ lw_g) (h4 : sm_ws1 (M y) ∈ lw_g) (hnm : (M y).1.name = "<init>") (hrt : (M y).2.2.2.1 = none) (hdv : (M y).1.cls ≠ "java/lang/invoke/MethodHandle" ∧ (M y).1.cls ≠ "java/lang/invoke/VarHandle" ∧ (parseMethodDescriptor (M y).1.desc).map (fun d => d.parameters.length) = some n) (hd : decode (M m).2.1 (pcs i) = .ok (.invokespecial idx, 3)) (hp : pcs (i + 1) = pcs i + 3) : sm_OK l S b Lx xs dC dI cA M X m pcs i (s_invI y n ml) := by
  intro L st μ cmd h hL
  unfold s_invI at h
  split at h
  · next a r hdr =>
    split at h
    · next hc9 =>
      cases h
      refine ⟨rfl, rfl, by rw [← hml]; exact hc9.2.2.2, hXy, fun p e R s mm args below meth c Q z0 n0 hF hX hz hn d res μ2 hfr hlo hCT hm1 hm2 hc hs hW H locs ls hR hS hl => ?_⟩
      obtain ⟨hx, hb, hml9, hown, hts, -, -, hK, hs0, -, -, hZ, -, -⟩ := hF
      subst hml
      rcases res with v | k
      · dsimp only at hW
        rw [hp] at hW
        refine sm_size hR hs0 hz fun hH => ?_
        have hws : sm_wsM (M y) = Cond.code (M y).1 (M y).2.1 (M y).2.2.1 none :: lw_g := by unfold sm_wsM sm_ws1; rw [if_pos hq, hrt]
        have hlo9 : 8 + ((M y).2.2.1 + 11) + (d + 1) * sm_KL ≤ R.locals := by
          have : (d + 2) * sm_KL = (d + 1) * sm_KL + 1400 := by unfold sm_KL; omega
          omega
        have cw := cwI (R := R) (rm := sm_room d μ μ2) (mc := sz μ2 - sz μ) (ms := sl μ2 - sl μ) (own := (M m).1.cls) (index := idx) n hts (sm_goodM h4) hws rfl rfl (hts _ h3) (hts _ h1) (hts _ h2) hnm hdv ⟨hfr, hlo9⟩
        have e9 := sm_stk (S := S) (b := b) (n := n) (st := st)
        rw [hdr, List.map_cons, sm_ref hc9.1] at e9
        have hpre := sm_pre (z0 := z0) (as := .inr (.inl a) :: (st.take n).reverse) hR hH hK hZ hS
        rw [List.map_cons, sm_ref hc9.1] at hpre
        have hM := sm_met hCT
        rw [List.map_cons, sm_ref hc9.1] at hM
        exact sm_goes (va_runI (cc := (M m).2.1) (nL := (M m).2.2.1) (own := (M m).1.cls) (b := sm_adr S b a) (As := (st.take n).reverse.map (sm_v S b)) (rest := r.map (sm_v S b)) ⟨hx, hb, hml9, hown, hts⟩ hM cw ⟨sm_blind, hpre⟩ rfl (by simp; omega) (by rw [← hL]; exact hl.size) e9 (lv_room (sm_cat4 hc9.2.2.1)) hd ⟨by omega, by omega⟩) hS hl hz hn hm1 hm2 hW rfl
      · obtain ⟨j, x, h9, -⟩ := hW
        cases h9
    · cases h
  · cases h
theorem ok_invIN {y n idx ml : Nat} (hq : (M y).2.2.2.2 = []) (hml : ml = (M y).2.2.1) (hm9 : ml ≤ 100) (hXy : ∀ s, X y s) {host : String} (h1 : Cond.methodLinkNest (M m).1.cls idx (M y).1 host ∈ lw_n) (h2 : Cond.instanceMethod (M y).1 ∈ lw_g) (h3 : Cond.initialized (M y).1.cls ∈ lw_g) (h4 : sm_ws1 (M y) ∈ lw_g) (hnm : (M y).1.name = "<init>") (hrt : (M y).2.2.2.1 = none) (hdv : (M y).1.cls ≠ "java/lang/invoke/MethodHandle" ∧ (M y).1.cls ≠ "java/lang/invoke/VarHandle" ∧ (parseMethodDescriptor (M y).1.desc).map (fun d => d.parameters.length) = some n) (hd : decode (M m).2.1 (pcs i) = .ok (.invokespecial idx, 3)) (hp : pcs (i + 1) = pcs i + 3) : sm_OK l S b Lx xs dC dI cA M X m pcs i (s_invI y n ml) := by
  intro L st μ cmd h hL
  unfold s_invI at h
  split at h
  · next a r hdr =>
    split at h
    · next hc9 =>
      cases h
      refine ⟨rfl, rfl, by rw [← hml]; exact hc9.2.2.2, hXy, fun p e R s mm args below meth c Q z0 n0 hF hX hz hn d res μ2 hfr hlo hCT hm1 hm2 hc hs hW H locs ls hR hS hl => ?_⟩
      obtain ⟨hx, hb, hml9, hown, hts, -, -, hK, hs0, -, -, hZ, -, -⟩ := hF
      subst hml
      rcases res with v | k
      · dsimp only at hW
        rw [hp] at hW
        refine sm_size hR hs0 hz fun hH => ?_
        have hws : sm_wsM (M y) = Cond.code (M y).1 (M y).2.1 (M y).2.2.1 none :: lw_g := by unfold sm_wsM sm_ws1; rw [if_pos hq, hrt]
        have hlo9 : 8 + ((M y).2.2.1 + 11) + (d + 1) * sm_KL ≤ R.locals := by
          have : (d + 2) * sm_KL = (d + 1) * sm_KL + 1400 := by unfold sm_KL; omega
          omega
        have cw := va_cnB (R := R) (rm := sm_room d μ μ2) (mc := sz μ2 - sz μ) (ms := sl μ2 - sl μ) (own := (M m).1.cls) (index := idx) (host := host) n hts (sm_goodM h4) hws rfl rfl (hZ.nw h1) (hts _ h3) hdv ⟨hfr, hlo9⟩
        have e9 := sm_stk (S := S) (b := b) (n := n) (st := st)
        rw [hdr, List.map_cons, sm_ref hc9.1] at e9
        have hpre := sm_pre (z0 := z0) (as := .inr (.inl a) :: (st.take n).reverse) hR hH hK hZ hS
        rw [List.map_cons, sm_ref hc9.1] at hpre
        have hM := sm_met hCT
        rw [List.map_cons, sm_ref hc9.1] at hM
        exact sm_goes (va_runIN (cc := (M m).2.1) (nL := (M m).2.2.1) (own := (M m).1.cls) (b := sm_adr S b a) (As := (st.take n).reverse.map (sm_v S b)) (rest := r.map (sm_v S b)) ⟨hx, hb, hml9, hown, hts⟩ hM ⟨cw, hnm, hts _ h2⟩ ⟨sm_blind, hpre⟩ rfl (by simp; omega) (by rw [← hL]; exact hl.size) e9 (lv_room (sm_cat4 hc9.2.2.1)) hd ⟨by omega, by omega⟩) hS hl hz hn hm1 hm2 hW rfl
      · obtain ⟨j, x, h9, -⟩ := hW
        cases h9
    · cases h
  · cases h
/-- a call by a receiver of class t comes to method y: the exact one, an inherited one, one that overrides -/
def sm_vc (M : Nat → SMeth) (own : String) (idx n t y : Nat) : Prop := ∃ (C : String) (T : u_T) (N : Nat), vwCl[t]? = some (C, T, N) ∧ Cond.initialized (M y).1.cls ∈ lw_g ∧ sm_ws1 (M y) ∈ lw_g ∧ Cond.instanceMethod (M y).1 ∈ lw_g ∧ (M y).2.2.2.2 = [] ∧
  (((M y).1.cls = C ∧ Cond.methodLink own idx (M y).1 ∈ lw_g ∧ Cond.selects C (M y).1 (M y).1 ∈ lw_g ∧ (M y).1.cls ≠ "java/lang/invoke/MethodHandle" ∧ (M y).1.cls ≠ "java/lang/invoke/VarHandle" ∧ (parseMethodDescriptor (M y).1.desc).map (fun d => d.parameters.length) = some n) ∨
   ∃ (x : MethodName) (owner : String), Cond.methodLink own idx x ∈ lw_g ∧ Cond.sameMethod x.cls owner x.name x.desc ∈ lw_g ∧ Cond.selects C x (M y).1 ∈ lw_g ∧ owner ≠ "java/lang/invoke/MethodHandle" ∧ owner ≠ "java/lang/invoke/VarHandle" ∧ (parseMethodDescriptor x.desc).map (fun d => d.parameters.length) = some n ∧
     ((M y).1 = ⟨owner, x.name, x.desc⟩ ∨ (Cond.instanceMethod ⟨owner, x.name, x.desc⟩ ∈ lw_g ∧ ∃ b0 m0 r0, Cond.code ⟨owner, x.name, x.desc⟩ b0 m0 r0 ∈ lw_g)))
theorem ok_invV {D : Nat → Option (Nat × Nat)} {n idx : Nat} (hD : ∀ t y ml, D t = some (y, ml) → sm_vc M (M m).1.cls idx n t y ∧ ml = (M y).2.2.1 ∧ ml ≤ 100 ∧ ∀ s, X y s) (hd : decode (M m).2.1 (pcs i) = .ok (.invokevirtual idx, 3)) (hp : pcs (i + 1) = pcs i + 3) : sm_OK l S b Lx xs dC dI cA M X m pcs i (s_invV D [] n) := by
  intro L st μ cmd h hL
  unfold s_invV at h
  split at h
  · next a r hdr =>
    split at h
    · next y ml hD9 =>
      split at h
      · next hc9 =>
        cases h
        obtain ⟨⟨C, T, N, e1, h3, h4, h5, hq, hcs⟩, hml, hm9, hXy⟩ := hD _ _ _ hD9
        refine ⟨rfl, rfl, by rw [← hml]; exact hc9.2.2, hXy, fun p e R s mm args below meth c Q z0 n0 hF hX hz hn d res μ2 hfr hlo hCT hm1 hm2 hc hs hW H locs ls hR hS hl => ?_⟩
        obtain ⟨hx, hb, hml9, hown, hts, -, -, hK, hs0, -, -, hZ, -, -⟩ := hF
        subst hml
        rcases res with v | k
        · dsimp only at hW
          rw [hp] at hW
          refine sm_size hR hs0 hz fun hH => ?_
          obtain ⟨f1, f2⟩ := sm_nf_of e1
          obtain ⟨k1, k2, k3, qv, hqv⟩ := hR.get (a := a) (by omega)
          rw [sm_ent_o rfl f2, f1] at hqv
          have hrec := va_recv hK hR.1 e1 hqv
          have hws : sm_wsM (M y) = Cond.code (M y).1 (M y).2.1 (M y).2.2.1 (M y).2.2.2.1 :: lw_g := by unfold sm_wsM sm_ws1; rw [if_pos hq]
          have hlo9 : 8 + ((M y).2.2.1 + 11) + (d + 1) * sm_KL ≤ R.locals := by
            have : (d + 2) * sm_KL = (d + 1) * sm_KL + 1400 := by unfold sm_KL; omega
            omega
          have e9 := sm_stk (S := S) (b := b) (n := n) (st := st)
          rw [hdr, List.map_cons, sm_ref k3] at e9
          have hpre := sm_pre (z0 := z0) (as := .inr (.inl a) :: (st.take n).reverse) hR hH hK hZ hS
          rw [List.map_cons, sm_ref k3] at hpre
          have hM := sm_met hCT
          rw [List.map_cons, sm_ref k3] at hM
          have hlen : ((st.take n).reverse.map (sm_v S b)).length = n := by simp; omega
          rcases hcs with ⟨j1, j2, j3, j4⟩ | ⟨x, owner, j1, j2, j3, j4, j5, j6, j7⟩
          · have cw := cwV (R := R) (rm := sm_room d μ μ2) (mc := sz μ2 - sz μ) (ms := sl μ2 - sl μ) (own := (M m).1.cls) (index := idx) (C := C) n hts (sm_goodC (by intro w hw; simp only [List.mem_cons, List.not_mem_nil, or_false] at hw; rcases hw with rfl | rfl | rfl | rfl <;> first | assumption | (rw [← j1]; assumption)) (sm_goodM h4)) hws rfl rfl ⟨j1, j4⟩ ⟨hfr, hlo9⟩
            exact sm_goes (va_runV (cc := (M m).2.1) (nL := (M m).2.2.1) (own := (M m).1.cls) (b := sm_adr S b a) (As := (st.take n).reverse.map (sm_v S b)) (rest := r.map (sm_v S b)) ⟨hx, hb, hml9, hown, hts⟩ hM cw ⟨sm_blind, hrec, hpre⟩ rfl hlen (by rw [← hL]; exact hl.size) e9 (lv_room (sm_cat4 hc9.2.1)) hd ⟨by omega, by omega⟩) hS hl hz hn hm1 hm2 hW rfl
          · have cw : va_CU R s args (M m).1.cls C owner idx x (M y).1 (M y).2.1 (M y).2.2.1 (M y).2.2.2.1 (sm_wsM (M y)) (sm_room d μ μ2) (sz μ2 - sz μ) (sl μ2 - sl μ) n := by
              rcases j7 with j7 | ⟨j7, b0, m0, r0, j8⟩
              · exact va_cwU n hts (sm_goodC (by intro w hw; simp only [List.mem_cons, List.not_mem_nil, or_false] at hw; rcases hw with rfl | rfl | rfl | rfl | rfl <;> assumption) (sm_goodM h4)) hws rfl rfl j7 ⟨j4, j5, j6⟩ ⟨hfr, hlo9⟩
              · exact va_cwO n hts (sm_goodC (by intro w hw; simp only [List.mem_cons, List.not_mem_nil, or_false] at hw; rcases hw with rfl | rfl | rfl | rfl | rfl | rfl <;> assumption) (sm_goodM h4)) hws rfl rfl j8 ⟨j4, j5, j6⟩ ⟨hfr, hlo9⟩
            exact sm_goes (va_runU (cc := (M m).2.1) (nL := (M m).2.2.1) (own := (M m).1.cls) (b := sm_adr S b a) (As := (st.take n).reverse.map (sm_v S b)) (rest := r.map (sm_v S b)) ⟨hx, hb, hml9, hown, hts⟩ hM cw ⟨sm_blind, hrec, hpre⟩ rfl hlen (by rw [← hL]; exact hl.size) e9 (lv_room (sm_cat4 hc9.2.1)) hd ⟨by omega, by omega⟩) hS hl hz hn hm1 hm2 hW rfl
        · obtain ⟨j, x, h9, -⟩ := hW
          cases h9
      · cases h
    · cases h
  · cases h
end SMCALL
