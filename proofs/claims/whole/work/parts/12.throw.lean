/-! WHAT THROWS: sm_throwS is the printed vx_throwS with one word more at its end (the made cell counts) -/
section SMTH
variable {p : Program} {l : Launch} {e : Env} {R : Room} {s : State} {m : MethodId} {args : Array Value} {below : List Frame} {meth : Method} {c : Code} {H : Heap} {locs : List Loc} {cells slots : Nat} {Q : State → Prop}
variable {mc ms : Nat} {free : Addr → Prop} {A0 A1 : Nat → Prop} {H0 : Heap} {a : Array Value} {ls : Array Slot} {st0 rest : List Value}
variable {Qc : Array Value → State → Outcome → State → Prop} {XC : String → State → State → Prop}
theorem sm_throwS {cc : ByteArray} {pc : Nat} (hexec : p.tables.exec = Jvm.exec) (hb : c.code = cc) (hl : l.stackTraces = false) {own cls text : String} {names : List String} {ik is ic mc ms sa : Nat} {A : Nat → Prop}
    (hown : s.vm.findClass own = some m.cls) (hcls : Bundle.fit cls = true) (hnames : ∀ n ∈ names, Bundle.fit n = true)
    (hk : (Cond.classLink own ik cls).before args s = true) (hini : (Cond.initialized cls).before args s = true) (hstr : vk_R own is text sa s) (hat : ∀ w ∈ vx_atS own ic cls names, w.before args s = true)
    (hgood : ∀ w ∈ Cond.classLink own ik cls :: Cond.initialized cls :: vx_atS own ic cls names, vx_ot w = true)
    (hU : vx_Zq Bundle.tN "UNASSIGNED_STACK" Bundle.steD A s s.heap) (hN : vx_Zq Bundle.tN "SUPPRESSED_SENTINEL" Bundle.listD A s s.heap) (hS : va_S A s.heap H locs) (hsize : ls.size = c.maxLocals)
    (d0 : decode cc pc = .ok (.new ik, 3)) (d3 : decode cc (pc + 3) = .ok (.dup, 1)) (d4 : decode cc (pc + 4) = .ok (.ldc is, 2)) (d6 : decode cc (pc + 6) = .ok (.invokespecial ic, 3)) (d9 : decode cc (pc + 9) = .ok (.athrow, 1))
    (hout : ∀ x ∈ c.exceptionTable.toList, covers x (pc + 9) = false)
    (hRframes : names.length + 3 < R.frames) (hRlocals : (rest.map fun v => v.category).sum + (13 * (names.length + 1) + 43) ≤ R.locals) (hRcells : cells + 1 ≤ R.cells) (hRslots : slots + 6 ≤ R.slots) (hlocks : meth.locks = false)
    (hx : ∀ t : State, s.vm.Alike t.vm → H.size + 1 ≤ t.heap.size → (∀ q : Nat, q < H.size → t.heap[q]? = H[q]?) → XC cls s t)
    (hf : ∀ z ∈ locs, free z.base) (hc : cells + 1 ≤ mc) (hs : slots + 6 ≤ ms) :
    W p l e R s m args below meth c H locs cells slots (vx_MQ below Qc XC args s mc ms free) (F0 m pc ls rest) := by
  intro T hT X
  have htr : e.platform.stackTraces = false := (show e.platform.stackTraces = l.stackTraces by rw [X.admits.platform]).trans hl
  have Y := vx_rebase X (R' := { frames := R.frames, locals := R.locals, cells := 1, slots := 6 }) (Nat.le_refl _) (Nat.le_refl _) hRcells hRslots
  obtain ⟨s', hA⟩ : ∃ z, z = (T.setVm s.vm).setFrames (.invoking m args :: below) := ⟨_, rfl⟩
  rw [← hA] at Y
  have hvm : s'.vm = s.vm := by rw [hA]; rfl
  have hhp : s'.heap = H := by rw [hA]; exact hT
  have hW0 : s.WarmedH s'.vm := by rw [hvm]; exact State.WarmedH.refl s
  have hat' : ∀ w ∈ vx_atS own ic cls names, w.before args s' = true := fun w hw => vx_ot_at hW0 hvm.symm (hgood w (List.mem_cons_of_mem _ (List.mem_cons_of_mem _ hw))) (hat w hw)
  have hk' : (Cond.classLink own ik cls).before args s' = true := vx_ot_at hW0 hvm.symm (hgood _ List.mem_cons_self) hk
  have hini' : (Cond.initialized cls).before args s' = true := vx_ot_at hW0 hvm.symm (hgood _ (List.mem_cons_of_mem _ List.mem_cons_self)) hini
  have hU' : vx_Zq Bundle.tN "UNASSIGNED_STACK" Bundle.steD A s' s'.heap := by rw [hhp]; exact vx_Zq.moved hW0.alike (hU.kept hS.2.1)
  have hN' : vx_Zq Bundle.tN "SUPPRESSED_SENTINEL" Bundle.listD A s' s'.heap := by rw [hhp]; exact vx_Zq.moved hW0.alike (hN.kept hS.2.1)
  have h : ∀ w ∈ Bundle.ownAtoms own ic cls names, w.before args s' = true := vx_own hat' (vx_isRefq hU'.1) (vx_isRefq hN'.1) hU'.2.word hN'.2.word
  have hown' : s'.vm.findClass own = some m.cls := by rw [hvm]; exact hown
  have hins : (Cond.instantiable cls 6).before args s' = true := h _ (by simp [Bundle.ownAtoms])
  obtain ⟨vm₁, cX, kX, hfX, hkX, -, -, X₁, st1⟩ := Y.newCold hexec (own := own) (C := cls) (index := ik) (n := 6) hown' hk' hins hini'
    (g := F0 m pc ls rest) rfl (by rw [hb]; exact d0) (Nat.le_refl _) (Nat.le_refl _)
  generalize hT1 : (T.setVm vm₁).pushCell { cls := cX, slots := kX.instanceTypes.map defaultValue, vm := .none } = T1 at X₁ st1
  have hcat : (Value.ref T.heap.size).category = 1 := rfl
  have hcellA : T1.heap[T.heap.size]? = some (freshCell cX kX) := by rw [← hT1]; exact State.heap_pushCell_size _ _
  have d3' : decode c.code (pc + 3) = .ok (.dup, 1) := by rw [hb]; exact d3
  have d4' : decode c.code (pc + 4) = .ok (.ldc is, 2) := by rw [hb]; exact d4
  have hstr' : vk_R own is text sa s' := vk_R.warm hW0 hstr
  obtain ⟨U, hsteps, hrun, hend, hW, hsame, ce, hce, hO⟩ := X₁.ctorThrowS hexec htr (own := own) (cls := cls) (names := names) (ic := ic) hown' hcls hnames h (fun x hx => nomatch hx) hfX hkX hcellA (by rw [hhp, hT]; exact Nat.le_refl _) (msg := .ref sa) rfl
    (g := { method := m, pc := pc + 6, locals := ls, stack := .ref sa :: .ref T.heap.size :: .ref T.heap.size :: rest, locked := none }) rfl hsize rfl rfl (rest := rest) rfl
    (by rw [hb]; exact d6) (by rw [hb]; exact d9) hout hRframes (by simp only [List.map_cons, List.sum_cons, hcat]; omega) hlocks
  obtain ⟨f1, f2⟩ := vx_frame hsame
  rw [hhp] at f1 f2
  have hWs : s.WarmedH U.vm := State.WarmedH.trans hW0 hW
  have hcl : s.vm.findClass cls = some ce.cls := by
    have h9 := hO.cls
    rw [hvm] at h9
    exact h9
  have hall : s.sameButNew ({ U with vm := s.vm } : State) locs mc ms := by
    subst hA
    obtain ⟨e1, e2⟩ := hsame
    rw [State.setFrames_setFrames] at e1
    have h2 : (T.setVm s.vm).sameButNew ({ U with vm := s.vm } : State) [] (0 + 1) (0 + 6) := ⟨e1, e2⟩
    have h3 := X.same.trans h2
    rw [List.append_nil] at h3
    exact h3.mono hc hs
  refine ⟨U, ?_, .threw T.heap.size, hrun, hend, Or.inr ⟨T.heap.size, rfl, cls, ce, locs, hx U hWs.alike (by rw [← hT]; exact (Array.getElem?_eq_some_iff.mp hce).1) (fun q hq => f2 q hq (fun z hz => nomatch hz)), hce, hO.vm, hcl, hWs, hall, hf⟩⟩
  refine st1 _ ?_
  show Steps p.tables e below (T1.setTop { method := m, pc := pc + 3, locals := ls, stack := .ref T.heap.size :: rest, locked := none }) _
  jvm_step X₁.here [X₁.here.top, hexec, d3', Value.category]
  exact X₁.ldcString hexec (own := own) (text := text) (index := is) (a := sa) hown' hstr'.1 hstr'.2
    (g := { method := m, pc := pc + 4, locals := ls, stack := .ref T.heap.size :: .ref T.heap.size :: rest, locked := none }) rfl d4' _ hsteps
end SMTH
def s_throw (k : Nat) : SIns := fun _ _ st μ => if st.length ≤ 4 then some (.inr (.inl (.inr k, alloc μ 99 0 6))) else none
section SMTH2
variable {l : Launch} {S b Lx : Nat} {xs : Nat → Int32} {dC : Nat → ClassId} {dI : Nat → Nat → Nat} {cA : Nat → ClassId} {M : Nat → SMeth} {X : Nat → State → Prop} {m : Nat} {pcs : Nat → Nat} {i : Nat}
theorem sm_R.junk {μ : SMem} {H H1 : Heap} {w : Nat} (h : sm_R S b Lx xs dC dI cA μ H) (hH : H.size = S + (sz μ - 2)) (hz : H.size + 1 ≤ H1.size) (ho : ∀ q, q < H.size → H1[q]? = H[q]?) : sm_R S b Lx xs dC dI cA (alloc μ 99 0 w) H1 := by
  obtain ⟨q1, q2, q3, q4, q5, q6⟩ := h
  refine ⟨?_, by rw [sz_alloc]; omega, by rw [sz_alloc]; omega, ?_, ?_, ?_⟩
  · rw [sm_ws_junk q2 (sz_alloc _ _ _ _) (fun c hc => by rw [tg_alloc, if_neg hc]) (fun c hc => ent_alloc c hc) (by rw [tg_alloc, if_pos rfl])]
    refine q1.kept fun k q hq => ho _ ?_
    have := sm_ws_ge hq
    omega
  · rw [ln_alloc, if_neg (by omega)]; exact q4
  · intro k
    rw [gi_alloc, if_neg (by omega)]; exact q5 k
  · intro a ha
    rw [sz_alloc] at ha
    rw [tg_alloc]
    by_cases h9 : a = sz μ
    · rw [if_pos h9]
    · rw [if_neg h9]
      exact q6 a (by omega)
theorem ok_throw {k ik is ic : Nat} {text : String} {names : List String} (hl9 : l.stackTraces = false) (htx : ∀ s, sm_Z S s s.heap → ∃ a, vk_R (M m).1.cls is text a s) (hcls : Bundle.fit (sm_exn k) = true) (hnames : ∀ n ∈ names, Bundle.fit n = true) (hnl : names.length ≤ 4) (hq : (M m).2.2.2.2 = []) (hnlw : (M m).1.cls ≠ "TakesAPageLaw")
    (hk : Cond.classLink (M m).1.cls ik (sm_exn k) ∈ lw_g) (hini : Cond.initialized (sm_exn k) ∈ lw_g) (hat : ∀ w ∈ vx_atS (M m).1.cls ic (sm_exn k) names, w ∈ lw_g ∨ w ∈ lw_n) (hgood : ∀ w ∈ Cond.classLink (M m).1.cls ik (sm_exn k) :: Cond.initialized (sm_exn k) :: vx_atS (M m).1.cls ic (sm_exn k) names, vx_ot w = true)
    (d0 : decode (M m).2.1 (pcs i) = .ok (.new ik, 3)) (d3 : decode (M m).2.1 (pcs i + 3) = .ok (.dup, 1)) (d4 : decode (M m).2.1 (pcs i + 4) = .ok (.ldc is, 2)) (d6 : decode (M m).2.1 (pcs i + 6) = .ok (.invokespecial ic, 3)) (d9 : decode (M m).2.1 (pcs i + 9) = .ok (.athrow, 1)) : sm_OK l S b Lx xs dC dI cA M X m pcs i (s_throw k) := by
  intro L st μ cmd h hL
  unfold s_throw at h
  split at h
  · next hc9 =>
    cases h
    refine ⟨trivial, by rw [sz_alloc]; omega, by rw [sl_alloc]; omega, fun p e R s mm args below meth c Q z0 n0 hF hX hz hn hc hs hE H locs ls hR hS hl => ?_⟩
    obtain ⟨hx, hb, hml, hown, hts, hlocks, -, hK, hs0, -, htab, hZ, hfr, hlo⟩ := hF
    rw [sz_alloc] at hc
    rw [sl_alloc] at hs
    refine sm_size hR hs0 hz fun hH => ?_
    have hQ : Q = _ := hE
    subst hQ
    obtain ⟨sa, hsa⟩ := htx s hZ
    have h4 := sm_cat4 (S := S) (b := b) hc9
    unfold sm_KL at hlo
    have hnil : c.exceptionTable.toList = [] := by rw [htab (Or.inl hnlw), hq]; rfl
    refine sm_throwS (A := sm_A S) (names := names) hx hb hl9 hown hcls hnames (hts _ hk) (hts _ hini) hsa (fun w hw => (hat w hw).elim (fun h => hts _ h) (fun h => hZ.nw h)) hgood hZ.1 hZ.2.1 hS (by rw [hml, ← hL]; exact hl.size) d0 d3 d4 d6 d9 (fun x hx9 => by rw [hnil] at hx9; cases hx9) (by omega) (by omega) (by omega) (by omega) hlocks (fun t hA hz9 ho => ?_) hS.2.2 (by rw [sz_alloc]; omega) (by rw [sl_alloc]; omega)
    refine ⟨k, rfl, rfl, hR.junk hH hz9 ho, by have := hS.1; omega, fun q g1 g2 => (ho q (Nat.lt_of_lt_of_le g1 hS.1)).trans (hS.2.1 q g1 g2)⟩
  · cases h
end SMTH2
