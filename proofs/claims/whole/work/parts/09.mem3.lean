/-! STEP FUNCTIONS over memory, second half: rows of references, what is made, copies, the script -/
section SMMEM3
variable {l : Launch} {S b Lx : Nat} {xs : Nat → Int32} {dC : Nat → ClassId} {dI : Nat → Nat → Nat} {cA : Nat → ClassId} {M : Nat → SMeth} {X : Nat → State → Prop} {m : Nat} {pcs : Nat → Nat} {i : Nat}
theorem gi_setrow (μ : SMem) (a : Nat) (f : Nat → Int32) (c : Nat) : gi (setrow μ a f) c = if c = a then f else gi μ c := rfl
theorem sm_rad_up {S b : Nat} {μ : SMem} {a k v : Nat} : (fun j => sm_rad S b (gr (setr μ a k v) a j)) = va_up (fun j => sm_rad S b (gr μ a j)) k (sm_rad S b v) := by
  funext j
  rw [gr_setr]
  unfold va_up
  by_cases hj : j = k
  · simp [hj]
  · simp [hj]
theorem ok_aast {t : Nat} {P : Nat → Bool} {E : String} (ht : 52 ≤ t) (hty : ∀ cA : Nat → ClassId, (sm_tys cA)[t - 50]? = some (cA (t - 50), .object E)) (h9 : t ≠ 99) (hP : ∀ tv, P tv = true → ∃ C T N, vwCl[tv]? = some (C, T, N) ∧ (C = E ∨ Cond.castable C E ∈ lw_n))
    (hd : decode (M m).2.1 (pcs i) = .ok (.aastore, 1)) (hp : pcs (i + 1) = pcs i + 1) : sm_OK l S b Lx xs dC dI cA M X m pcs i (s_aast t P) := by
  intro L st μ cmd h hL
  unfold s_aast at h
  split at h
  · next v j a st9 =>
    split at h
    · next hc9 =>
      cases h
      refine ⟨rfl, Nat.le_refl _, Nat.le_refl _, fun p e R s mm args below meth c Q z0 n0 hF hX hz hn hc hs hW H locs ls hR hS hl => ?_⟩
      obtain ⟨hx, hb, -, hown, hts, -, -, hK, -, -, -, hZ, -⟩ := hF
      have h99 : tg μ a ≠ 99 := by rw [hc9.1]; exact h9
      obtain ⟨g1, g2, g3, q0, hq⟩ := hR.get h99
      have hq' := hq
      rw [sm_ent_r hc9.1 ht] at hq
      rw [List.map_cons, List.map_cons, List.map_cons, sm_ref g3]
      have hv9 : vp_in j (ln μ a) := fun q => q.elim (fun q => absurd q (Int32.not_lt.mpr hc9.2.1)) (fun q => absurd hc9.2.2.1 (Nat.not_lt.mpr q))
      have fin : ∀ (H1 : Heap) (locs1 : List Loc), va_P (dC, dI) vwCl ((sm_ws S b cA μ).set q0 (sm_adr S b a, .inl (cA (t - 50), ln μ a, .inr (.inr (.inr (.inr (va_up (fun k => sm_rad S b (gr μ a k)) j.toNatClampNeg (sm_rad S b v)))))))) H1 → va_S (sm_A S) H H1 locs1 →
          W p l e R s mm args below meth c H1 locs1 (sz μ - z0) (sl μ - n0) Q (F0 mm (pcs i + 1) ls (st9.map (sm_v S b))) := by
        intro H1 locs1 hP1 hS1
        have hR1 : sm_R S b Lx xs dC dI cA (setr μ a j.toNatClampNeg v) H1 := by
          refine hR.wr (locs := locs) h99 hq' hP1 hS1 rfl rfl rfl (fun c hc => ent_setr c hc) ?_ (fun _ => rfl)
          rw [sm_ent_r (μ := setr μ a j.toNatClampNeg v) hc9.1 ht, sm_rad_up]
          rfl
        have hk := hW H1 locs1 ls hR1 (sm_S1 hS hS1) hl
        rwa [hp] at hk
      by_cases hv0 : v = 0
      · subst hv0
        exact va_astqN (C := E) hx hb hK hR.1 sm_D (sm_S0 hS) q0 (t - 50) hq (hty cA) hv9 hd (fun H1 locs1 hP1 _ hS1 => fin H1 locs1 hP1 hS1)
      · rw [sm_ref hv0]
        have hPv := hc9.2.2.2.resolve_left hv0
        obtain ⟨C, T, N, e1, e2⟩ := hP _ hPv
        obtain ⟨f1, f2⟩ := sm_nf_of e1
        obtain ⟨k1, k2, k3, qv, hqv⟩ := hR.get (a := v) (by omega)
        rw [sm_ent_o rfl f2, f1] at hqv
        have hrec := va_recv hK hR.1 e1 hqv
        refine vb_astq (E := E) (C := C) hx hb hK hR.1 sm_D (sm_S0 hS) q0 (t - 50) hq (hty cA) hrec ?_ hv9 hd (fun H1 locs1 hP1 _ hS1 => fin H1 locs1 (by rw [show sm_rad S b v = some (sm_adr S b v) by rw [sm_rad, if_neg hv0]]; exact hP1) hS1)
        rcases e2 with rfl | e2
        · exact vb_asgS
        · exact vb_asgC (hZ.nw e2)
    · cases h
  · cases h
theorem ok_alen (hd : decode (M m).2.1 (pcs i) = .ok (.arraylength, 1)) (hp : pcs (i + 1) = pcs i + 1) : sm_OK l S b Lx xs dC dI cA M X m pcs i s_alen := by
  intro L st μ cmd h hL
  unfold s_alen at h
  split at h
  · next a st9 =>
    split at h
    · next hc9 =>
      cases h
      refine ⟨rfl, Nat.le_refl _, Nat.le_refl _, fun p e R s mm args below meth c Q z0 n0 hF hX hz hn hc hs hW H locs ls hR hS hl => ?_⟩
      obtain ⟨hx, hb, -, hown, hts, -, -, hK, -⟩ := hF
      have hk := hW H locs ls hR hS hl
      rw [hp] at hk
      obtain ⟨g1, g2, g3, q0, hq⟩ := hR.get (a := a) (by omega)
      rw [List.map_cons, sm_ref g3]
      have hcs : tg μ a = 50 ∨ tg μ a = 51 ∨ tg μ a = 52 ∨ tg μ a = 53 ∨ tg μ a = 54 := by omega
      rcases hcs with h0 | h0 | h0 | h0 | h0
      · rw [sm_ent_i h0] at hq
        exact va_alen hx hb hK hR.1 q0 0 hq rfl rfl hd hk
      · rw [sm_ent_l h0] at hq
        exact va_alen hx hb hK hR.1 q0 1 hq rfl rfl hd hk
      · rw [sm_ent_r h0 (by decide)] at hq
        exact va_alen hx hb hK hR.1 q0 2 hq rfl rfl hd hk
      · rw [sm_ent_r h0 (by decide)] at hq
        exact va_alen hx hb hK hR.1 q0 3 hq rfl rfl hd hk
      · rw [sm_ent_r h0 (by decide)] at hq
        exact va_alen hx hb hK hR.1 q0 4 hq rfl rfl hd hk
    · cases h
  · cases h
/-- the heap's size, where something is made -/
theorem sm_size {p : Program} {e : Env} {R : Room} {s : State} {mm : MethodId} {args : Array Value} {below : List Frame} {meth : Method} {c : Code} {Q : State → Prop} {z0 n9 : Nat} {μ : SMem} {H : Heap} {locs : List Loc} {g : JFrame}
    (hR : sm_R S b Lx xs dC dI cA μ H) (hs0 : s.heap.size + 2 = S + z0) (hz : z0 ≤ sz μ) (k : H.size = S + (sz μ - 2) → W p l e R s mm args below meth c H locs (sz μ - z0) n9 Q g) : W p l e R s mm args below meth c H locs (sz μ - z0) n9 Q g := by
  intro T hT X
  have h1 := X.heapSize
  rw [hT] at h1
  have h2 := hR.2.2.1
  have h3 := hR.2.1
  exact k (by omega) T hT X
theorem sz_alloc (μ : SMem) (t n w : Nat) : sz (alloc μ t n w) = sz μ + 1 := rfl
theorem sl_alloc (μ : SMem) (t n w : Nat) : sl (alloc μ t n w) = sl μ + w := rfl
theorem tg_alloc (μ : SMem) (t n w c : Nat) : tg (alloc μ t n w) c = if c = sz μ then t else tg μ c := rfl
theorem ln_alloc (μ : SMem) (t n w c : Nat) : ln (alloc μ t n w) c = if c = sz μ then n else ln μ c := rfl
theorem gi_alloc (μ : SMem) (t n w c : Nat) : gi (alloc μ t n w) c = if c = sz μ then (fun _ => 0) else gi μ c := rfl
theorem gr_alloc (μ : SMem) (t n w c : Nat) : gr (alloc μ t n w) c = if c = sz μ then (fun _ => 0) else gr μ c := rfl
theorem gl_alloc (μ : SMem) (t n w c : Nat) : gl (alloc μ t n w) c = if c = sz μ then (fun _ => 0) else gl μ c := rfl
theorem sm_R.al {μ : SMem} {H H1 : Heap} {t n w : Nat} (h : sm_R S b Lx xs dC dI cA μ H) (hH : H.size = S + (sz μ - 2)) (ht : t ≠ 99) (hz : H1.size = H.size + 1) (ho : ∀ q, q < H.size → H1[q]? = H[q]?) (hat : va_at (dC, dI) vwCl (S + (sz μ - 2), sm_ent S b cA (alloc μ t n w) (sz μ)) H1) : sm_R S b Lx xs dC dI cA (alloc μ t n w) H1 := by
  obtain ⟨q1, q2, q3, q4, q5, q6⟩ := h
  refine ⟨?_, by rw [sz_alloc]; omega, by rw [sz_alloc, hz]; omega, ?_, ?_, ?_⟩
  · rw [sm_ws_push q2 (sz_alloc _ _ _ _) (fun c hc => by rw [tg_alloc, if_neg hc]) (fun c hc => ent_alloc c hc) (by rw [tg_alloc, if_pos rfl]; exact ht)]
    refine (q1.kept fun k q hq => ho _ ?_).app (fun k q hq => ?_)
    · have := sm_ws_ge hq
      omega
    · have hk : k < 1 := (List.getElem?_eq_some_iff.mp hq).1
      rw [show k = 0 by omega] at hq
      cases hq
      exact hat
  · rw [ln_alloc, if_neg (by omega)]; exact q4
  · intro k
    rw [gi_alloc, if_neg (by omega)]; exact q5 k
  · intro a ha
    rw [sz_alloc] at ha
    rw [tg_alloc, if_neg (by omega)]
    exact q6 a (by omega)
theorem sm_S.al {H0 H H1 : Heap} {locs : List Loc} (h : va_S (sm_A S) H0 H locs) (hz : H1.size = H.size + 1) (ho : ∀ q, q < H.size → H1[q]? = H[q]?) : va_S (sm_A S) H0 H1 locs :=
  ⟨by have := h.1; omega, fun q g1 g2 => (ho q (Nat.lt_of_lt_of_le g1 h.1)).trans (h.2.1 q g1 g2), h.2.2⟩
theorem ok_newarr_i (ha : Cond.arrayClass .int ∈ lw_g) (hd : decode (M m).2.1 (pcs i) = .ok (.newarray .int, 2)) (hp : pcs (i + 1) = pcs i + 2) : sm_OK l S b Lx xs dC dI cA M X m pcs i (s_newarr 50) := by
  intro L st μ cmd h hL
  unfold s_newarr at h
  split at h
  · next n st9 =>
    split at h
    · next hc9 =>
      cases h
      refine ⟨rfl, by rw [sz_alloc]; omega, by rw [sl_alloc]; omega, fun p e R s mm args below meth c Q z0 n0 hF hX hz hn hc hs hW H locs ls hR hS hl => ?_⟩
      obtain ⟨hx, hb, -, hown, hts, -, -, hK, hs0, -⟩ := hF
      rw [sz_alloc] at hc
      rw [sl_alloc] at hs
      refine sm_size hR hs0 hz fun hH => ?_
      refine va_newaK (atype := .int) hx hb (hts _ ha) rfl hd rfl (Int32.not_lt.mpr hc9.1) rfl ?_ (by omega) (by omega) rfl fun H1 cB e1 z1 o1 hAr hNm => ?_
      · show n.toNatClampNeg * 4 ≤ 536870912
        omega
      · have hcB : cB = cA 0 := Option.some.inj (hNm.symm.trans (hK.2 0 _ rfl).2)
        have hR1 : sm_R S b Lx xs dC dI cA (alloc μ 50 n.toNatClampNeg n.toNatClampNeg) H1 := by
          refine hR.al hH (by decide) z1 o1 ?_
          rw [sm_ent_i (by rw [tg_alloc, if_pos rfl])]
          show H1[S + (sz μ - 2)]? = _
          rw [← hH, e1, hcB, ln_alloc, if_pos rfl, gi_alloc, if_pos rfl]
          rfl
        have hk := hW H1 locs ls hR1 (sm_S.al hS z1 o1) hl
        rw [hp, sz_alloc, sl_alloc, show sz μ + 1 - z0 = sz μ - z0 + 1 by omega, show sl μ + n.toNatClampNeg - n0 = sl μ - n0 + n.toNatClampNeg by omega, List.map_cons, sm_ref (by have := hR.2.1; omega)] at hk
        have e9 : sm_adr S b (sz μ) = H.size := by rw [hH, sm_adr, if_neg (by have := hR.2.1; omega)]
        rw [e9] at hk
        exact hk
    · cases h
  · cases h
theorem ok_newarr_l (ha : Cond.arrayClass .long ∈ lw_g) (hd : decode (M m).2.1 (pcs i) = .ok (.newarray .long, 2)) (hp : pcs (i + 1) = pcs i + 2) : sm_OK l S b Lx xs dC dI cA M X m pcs i (s_newarr 51) := by
  intro L st μ cmd h hL
  unfold s_newarr at h
  split at h
  · next n st9 =>
    split at h
    · next hc9 =>
      cases h
      refine ⟨rfl, by rw [sz_alloc]; omega, by rw [sl_alloc]; omega, fun p e R s mm args below meth c Q z0 n0 hF hX hz hn hc hs hW H locs ls hR hS hl => ?_⟩
      obtain ⟨hx, hb, -, hown, hts, -, -, hK, hs0, -⟩ := hF
      rw [sz_alloc] at hc
      rw [sl_alloc] at hs
      refine sm_size hR hs0 hz fun hH => ?_
      refine va_newaK (atype := .long) hx hb (hts _ ha) rfl hd rfl (Int32.not_lt.mpr hc9.1) rfl ?_ (by omega) (by omega) rfl fun H1 cB e1 z1 o1 hAr hNm => ?_
      · show n.toNatClampNeg * 8 ≤ 536870912
        omega
      · have hcB : cB = cA 1 := Option.some.inj (hNm.symm.trans (hK.2 1 _ rfl).2)
        have hR1 : sm_R S b Lx xs dC dI cA (alloc μ 51 n.toNatClampNeg n.toNatClampNeg) H1 := by
          refine hR.al hH (by decide) z1 o1 ?_
          rw [sm_ent_l (by rw [tg_alloc, if_pos rfl])]
          show H1[S + (sz μ - 2)]? = _
          rw [← hH, e1, hcB, ln_alloc, if_pos rfl, gl_alloc, if_pos rfl]
          rfl
        have hk := hW H1 locs ls hR1 (sm_S.al hS z1 o1) hl
        rw [hp, sz_alloc, sl_alloc, show sz μ + 1 - z0 = sz μ - z0 + 1 by omega, show sl μ + n.toNatClampNeg - n0 = sl μ - n0 + n.toNatClampNeg by omega, List.map_cons, sm_ref (by have := hR.2.1; omega)] at hk
        have e9 : sm_adr S b (sz μ) = H.size := by rw [hH, sm_adr, if_neg (by have := hR.2.1; omega)]
        rw [e9] at hk
        exact hk
    · cases h
  · cases h
theorem ok_anew {t idx : Nat} {C : String} (ht : 52 ≤ t) (h9 : t ≠ 99) (hty : ∀ cA : Nat → ClassId, (sm_tys cA)[t - 50]? = some (cA (t - 50), .object C)) (hcl : Cond.classLink (M m).1.cls idx C ∈ lw_g) (hov : Cond.arrayOver (.object C) ∈ lw_n) (hd : decode (M m).2.1 (pcs i) = .ok (.anewarray idx, 3)) (hp : pcs (i + 1) = pcs i + 3) : sm_OK l S b Lx xs dC dI cA M X m pcs i (s_newarr t) := by
  intro L st μ cmd h hL
  unfold s_newarr at h
  split at h
  · next n st9 =>
    split at h
    · next hc9 =>
      cases h
      refine ⟨rfl, by rw [sz_alloc]; omega, by rw [sl_alloc]; omega, fun p e R s mm args below meth c Q z0 n0 hF hX hz hn hc hs hW H locs ls hR hS hl => ?_⟩
      obtain ⟨hx, hb, -, hown, hts, -, -, hK, hs0, -, -, hZ, -⟩ := hF
      rw [sz_alloc] at hc
      rw [sl_alloc] at hs
      refine sm_size hR hs0 hz fun hH => ?_
      refine W.anew hx hb hown (hts _ hcl) (hZ.nw hov) rfl hd rfl (Int32.not_lt.mpr hc9.1) (by omega) (by omega) (by omega) fun cB kA comp f1 f2 f3 f4 => ?_
      generalize hH1 : H.push ({ cls := cB, slots := Array.replicate n.toNatClampNeg .null, vm := .none } : Cell) = H1
      have z1 : H1.size = H.size + 1 := by rw [← hH1, Array.size_push]
      have e1 : H1[H.size]? = some (arrV cB n.toNatClampNeg (fun _ => .null)) := by rw [← hH1, Array.getElem?_push_size, ← arrV_new]
      have o1 : ∀ q : Nat, q < H.size → H1[q]? = H[q]? := fun q hq => by rw [← hH1, Array.getElem?_push, if_neg (Nat.ne_of_lt hq)]
      have hra := (hK.2 (t - 50) _ (hty cA)).2
      obtain ⟨kB, cpB, b1, b2, b3, b4⟩ := hra
      have hcB : cB = cA (t - 50) := Option.some.inj (f1.symm.trans b4)
      have hR1 : sm_R S b Lx xs dC dI cA (alloc μ t n.toNatClampNeg n.toNatClampNeg) H1 := by
        refine hR.al hH h9 z1 o1 ?_
        rw [sm_ent_r (t := t) (by rw [tg_alloc, if_pos rfl]) ht]
        show H1[S + (sz μ - 2)]? = _
        rw [← hH, e1, hcB, ln_alloc, if_pos rfl, gr_alloc, if_pos rfl]
        rfl
      have hk := hW H1 locs ls hR1 (sm_S.al hS z1 o1) hl
      rw [hp, sz_alloc, sl_alloc, show sz μ + 1 - z0 = sz μ - z0 + 1 by omega, show sl μ + n.toNatClampNeg - n0 = sl μ - n0 + n.toNatClampNeg by omega, List.map_cons, sm_ref (by have := hR.2.1; omega)] at hk
      have e9 : sm_adr S b (sz μ) = H.size := by rw [hH, sm_adr, if_neg (by have := hR.2.1; omega)]
      rw [e9] at hk
      exact hk
    · cases h
  · cases h
theorem ok_new {t idx N : Nat} {C : String} {T : u_T} {ty : Nat → FieldType} (hcl : vwCl[t]? = some (C, T, N)) (hin : ∀ w ∈ u_ws C T N, w ∈ lw_g) (hty : ∀ k, k < N → parseFieldDescriptor (T k).2.2.1 = some (ty k)) (hlk : Cond.classLink (M m).1.cls idx C ∈ lw_g) (hins : Cond.instantiable C N ∈ lw_g) (hini : Cond.initialized C ∈ lw_g)
    (hdef : ∀ k, k < N → defaultValue (ty k) = if sm_fr t k = true then .null else .int 0) (hd : decode (M m).2.1 (pcs i) = .ok (.new idx, 3)) (hp : pcs (i + 1) = pcs i + 3) : sm_OK l S b Lx xs dC dI cA M X m pcs i (s_new t N) := by
  intro L st μ cmd h hL
  cases h
  refine ⟨rfl, by rw [sz_alloc]; omega, by rw [sl_alloc]; omega, fun p e R s mm args below meth c Q z0 n0 hF hX hz hn hc hs hW H locs ls hR hS hl => ?_⟩
  obtain ⟨hx, hb, -, hown, hts, -, -, hK, hs0, -⟩ := hF
  rw [sz_alloc] at hc
  rw [sl_alloc] at hs
  refine sm_size hR hs0 hz fun hH => ?_
  have hKn := hK.1 t _ hcl
  obtain ⟨f1, f2⟩ := sm_nf_of hcl
  refine W.newcK hx hb hown (hts _ hlk) (hts _ hins) (hts _ hini) rfl hd (by omega) (by omega) hKn.2.1 rfl fun H1 kC hkC e1 z1 o1 => ?_
  have hR1 : sm_R S b Lx xs dC dI cA (alloc μ t 0 N) H1 := by
    refine hR.al hH (by omega) z1 o1 ?_
    rw [sm_ent_o (t := t) (by rw [tg_alloc, if_pos rfl]) f2, f1, ← hH]
    refine ⟨_, hcl, (u_born ty hts hin hKn hkC e1 hty).to fun j hj => ?_⟩
    show defaultValue (ty j) = vp_V _ j
    rw [hdef j hj]
    unfold vp_V
    rw [List.getD_eq_getElem?_getD, sm_get_at hj]
    unfold sm_fv
    rw [gr_alloc, if_pos rfl, gi_alloc, if_pos rfl]
    by_cases hf : sm_fr t j = true
    · rw [if_pos hf, if_pos hf]; rfl
    · rw [if_neg hf, if_neg hf]; rfl
  have hk := hW H1 locs ls hR1 (sm_S.al hS z1 o1) hl
  rw [hp, sz_alloc, sl_alloc, show sz μ + 1 - z0 = sz μ - z0 + 1 by omega, show sl μ + N - n0 = sl μ - n0 + N by omega, List.map_cons, sm_ref (by have := hR.2.1; omega)] at hk
  have e9 : sm_adr S b (sz μ) = H.size := by rw [hH, sm_adr, if_neg (by have := hR.2.1; omega)]
  rw [e9] at hk
  exact hk
theorem sm_cat4 {st : List SV} (h : st.length ≤ 4) : ((st.map (sm_v S b)).map fun v => v.category).sum ≤ 8 := by
  have : ∀ (st : List SV), ((st.map (sm_v S b)).map fun v => v.category).sum ≤ 2 * st.length := by
    intro st
    induction st with
    | nil => exact Nat.le_refl _
    | cons v t ih =>
      simp only [List.map_cons, List.sum_cons, List.length_cons]
      have := sm_v_cat (S := S) (b := b) v
      rcases v with x | n | z <;> simp only at this <;> omega
  have := this st
  omega
theorem ok_objInit {idx : Nat} (h1 : Cond.methodLink (M m).1.cls idx Lib.objectInit ∈ lw_g) (h2 : Cond.instanceMethod Lib.objectInit ∈ lw_g) (h3 : Cond.code Lib.objectInit ⟨#[0xb1]⟩ 1 none ∈ lw_g) (hd : decode (M m).2.1 (pcs i) = .ok (.invokespecial idx, 3)) (hp : pcs (i + 1) = pcs i + 3) : sm_OK l S b Lx xs dC dI cA M X m pcs i s_objInit := by
  intro L st μ cmd h hL
  unfold s_objInit at h
  split at h
  · next a st9 =>
    split at h
    · cases h
    · next hc9 =>
      split at h
      · next hc8 =>
        cases h
        refine ⟨rfl, Nat.le_refl _, Nat.le_refl _, fun p e R s mm args below meth c Q z0 n0 hF hX hz hn hc hs hW H locs ls hR hS hl => ?_⟩
        obtain ⟨hx, hb, hml, hown, hts, -, -, hK, -, -, -, -, hfr, hlo⟩ := hF
        have hk := hW H locs ls hR hS hl
        rw [hp] at hk
        rw [List.map_cons, sm_ref hc9]
        have h4 := sm_cat4 (S := S) (b := b) hc8
        unfold sm_KL at hlo
        exact W.objInit hx hb hown (hts _ h1) (hts _ h2) (hts _ h3) rfl (by rw [hml, ← hL]; exact hl.size) rfl hd (by omega) (by show 2 * 0 + _ + 12 ≤ _; omega) hk
      · cases h
  · cases h
theorem ok_acopy {idx : Nat} (h1 : Cond.methodLink (M m).1.cls idx arraycopyName ∈ lw_g) (h2 : Cond.native arraycopyName ∈ lw_g) (h3 : Cond.static arraycopyName ∈ lw_g) (h4 : Cond.initialized "java/lang/System" ∈ lw_g) (hd : decode (M m).2.1 (pcs i) = .ok (.invokestatic idx, 3)) (hp : pcs (i + 1) = pcs i + 3) : sm_OK l S b Lx xs dC dI cA M X m pcs i s_acopy := by
  intro L st μ cmd h hL
  unfold s_acopy at h
  split at h
  · next n dp a sp a0 st9 =>
    split at h
    · next hc9 =>
      cases h
      obtain ⟨c1, c2, c3, c4, c5, c6, c7, c8⟩ := hc9
      refine ⟨rfl, Nat.le_refl _, Nat.le_refl _, fun p e R s mm args below meth c Q z0 n0 hF hX hz hn hc hs hW H locs ls hR hS hl => ?_⟩
      obtain ⟨hx, hb, hml, hown, hts, -, -, hK, -, -, -, -, hfr, hlo⟩ := hF
      have h99 : tg μ a ≠ 99 := by rw [c2]; decide
      obtain ⟨g1, g2, g3, q1, hq⟩ := hR.get h99
      obtain ⟨k1, k2, k3, q0, hq0⟩ := hR.get (a := a0) (by rw [c1]; decide)
      have hq' := hq
      rw [sm_ent_i c2] at hq
      rw [sm_ent_i c1] at hq0
      have h5 := sm_cat4 (S := S) (b := b) c8
      have e3 : (List.map (sm_v S b) (.inl n :: .inl dp :: .inr (.inl a) :: .inl sp :: .inr (.inl a0) :: st9)) = .int n :: .int dp :: .ref (sm_adr S b a) :: .int sp :: .ref (sm_adr S b a0) :: st9.map (sm_v S b) := by
        simp only [List.map_cons, sm_ref g3, sm_ref k3]
        rfl
      rw [e3]
      unfold sm_KL at hlo
      refine va_copyi (ty := .int) hx hb (by rw [hml, ← hL]; exact hl.size.symm) hown (hts _ h1) (hts _ h2) (hts _ h3) (hts _ h4) hK hR.1 sm_D (sm_S0 hS) q0 q1 0 0 hq0 hq rfl rfl rfl (Int32.not_lt.mpr c3) (Int32.not_lt.mpr c4) (Int32.not_lt.mpr c5) c6 c7 (fun _ _ => rfl) (by omega) ?_ hd (fun H1 locs1 hP1 _ hS1 => ?_)
      · have : nativeFrameWords "java/lang/System" "arraycopy" 5 + 11 ≤ 1000 := by decide
        omega
      · have hR1 : sm_R S b Lx xs dC dI cA (setrow μ a (va_cpy (gi μ a0) (gi μ a) sp.toNatClampNeg dp.toNatClampNeg n.toNatClampNeg)) H1 := by
          refine hR.wr (locs := locs) h99 hq' hP1 hS1 rfl rfl rfl (fun c hc => ent_setrow c hc) ?_ ?_
          · rw [sm_ent_i (μ := setrow μ a (va_cpy (gi μ a0) (gi μ a) sp.toNatClampNeg dp.toNatClampNeg n.toNatClampNeg)) c2]
            have : gi (setrow μ a (va_cpy (gi μ a0) (gi μ a) sp.toNatClampNeg dp.toNatClampNeg n.toNatClampNeg)) a = va_cpy (gi μ a0) (gi μ a) sp.toNatClampNeg dp.toNatClampNeg n.toNatClampNeg := by
              show up1 _ a _ a = _
              unfold up1
              rw [if_pos rfl]
            rw [this]
            rfl
          · intro z
            rw [gi_setrow, if_neg (by omega)]
        have hk := hW H1 locs1 ls hR1 (sm_S1 hS hS1) hl
        rwa [hp] at hk
    · cases h
  · cases h
/-- what the law's own frame knows of the script -/
def sm_X (S b Lx : Nat) (xs : Nat → Int32) (s : State) : Prop := va_X b Lx xs s s.heap ∧ b < s.heap.size ∧ b < S
theorem ok_sld (hX9 : ∀ s, X m s → sm_X S b Lx xs s) (hd : decode (M m).2.1 (pcs i) = .ok (.iaload, 1)) (hp : pcs (i + 1) = pcs i + 1) : sm_OK l S b Lx xs dC dI cA M X m pcs i s_sld := by
  intro L st μ cmd h hL
  unfold s_sld at h
  split at h
  · next j a st9 =>
    split at h
    · next hc9 =>
      cases h
      obtain ⟨rfl, c2, c3⟩ := hc9
      refine ⟨rfl, Nat.le_refl _, Nat.le_refl _, fun p e R s mm args below meth c Q z0 n0 hF hX hz hn hc hs hW H locs ls hR hS hl => ?_⟩
      obtain ⟨hx, hb, -⟩ := hF
      obtain ⟨x1, x2, x3⟩ := hX9 s hX
      have hk := hW H locs ls hR hS hl
      rw [hp, List.map_cons] at hk
      rw [List.map_cons, List.map_cons, sm_ref (by decide), show sm_adr S b 1 = b from rfl]
      have hv9 : vp_in j Lx := fun q => q.elim (fun q => absurd q (Int32.not_lt.mpr c2)) (fun q => by rw [hR.2.2.2.1] at c3; exact absurd c3 (Nat.not_lt.mpr q))
      refine va_sld hx hb x1 x2 (Nat.not_le.mpr x3) hS hv9 hd ?_
      rw [← hR.2.2.2.2.1]
      exact hk
    · cases h
  · cases h
theorem ok_slen (hX9 : ∀ s, X m s → sm_X S b Lx xs s) (hd : decode (M m).2.1 (pcs i) = .ok (.arraylength, 1)) (hp : pcs (i + 1) = pcs i + 1) : sm_OK l S b Lx xs dC dI cA M X m pcs i s_slen := by
  intro L st μ cmd h hL
  unfold s_slen at h
  split at h
  · next a st9 =>
    split at h
    · next hc9 =>
      cases h
      subst hc9
      refine ⟨rfl, Nat.le_refl _, Nat.le_refl _, fun p e R s mm args below meth c Q z0 n0 hF hX hz hn hc hs hW H locs ls hR hS hl => ?_⟩
      obtain ⟨hx, hb, -⟩ := hF
      obtain ⟨x1, x2, x3⟩ := hX9 s hX
      have hk := hW H locs ls hR hS hl
      rw [hp, List.map_cons, hR.2.2.2.1] at hk
      rw [List.map_cons, sm_ref (by decide), show sm_adr S b 1 = b from rfl]
      exact va_slen hx hb x1 x2 (Nat.not_le.mpr x3) hS hd hk
    · cases h
  · cases h
end SMMEM3
