/-! SPECS ZZG: the claim -/
/-! THE CLAIM OUT OF ONE WALK OF THE LAW'S BODY. Your part is whole_start (and what it stands on); all else here is the same for every law, but numbers. -/
def R_law : String := "TakesAPageLaw"
def lw_P (b : Addr) (xs : List Int32) (args : Array Value) (s : State) : Prop := args = #[.ref b] ∧ s.IntsAt b xs ∧ xs.length ≤ 3072 ∧ (Jvm.Cond.and given_1 narrow_1).before args s = true
def lw_Q (_ : Array Value) (s : State) (o : Outcome) (t : State) : Prop := o = .returned (some (.int 1)) ∧ Framed s o t [] 601024 7293034
def lw_Z (below : List Frame) (a : Array Value) (s : State) : State → Prop := fun t => ∃ o, t.status = .running ∧ Ended t below o ∧ lw_Q a s o t
/-- the law's own end, with 1 on the stack, nothing written that was there before, its room as the claim has it -/
theorem lw_ret {p : Program} {l : Launch} {e : Env} {s : State} {m : MethodId} {below : List Frame} {meth : Method} {c : Code} {b : Nat} (hx : p.tables.exec = Jvm.exec) (hb : c.code = code) (hr : meth.sig.returnType = ret) (hlocks : meth.locks = false) {pc : Nat} {H : Heap} {ls : Array Slot} (hdg : decode code pc = .ok (.ireturn, 1)) : W p l e room_1 s m #[Value.ref b] below meth c H [] 601024 7293034 (lw_Z below #[Value.ref b] s) (F0 m pc ls [.int 1]) := by
  intro T hT X
  obtain ⟨fs, hret, hrun, hended, hW, hframe⟩ := X.leave (v := some (.int 1)) (hlocks := hlocks) (fun h => by rw [hr] at h; cases h)
  have hmeth' : T.vm.method? m = some meth := X.method'
  refine ⟨T.setFrames fs, ?_, .returned (some (.int 1)), hrun, hended, rfl, ⟨_, rfl⟩, hW, hframe⟩
  jvm_step X.here [X.here.top, hx, hb, hdg, hmeth', hr, ret, narrow_b1]
  (try refine ⟨rfl, ?_⟩); (try refine ⟨rfl, ?_⟩)
  first | (intro acts; rw [hret _ acts rfl rfl rfl]) | rw [hret _ _ rfl rfl rfl]
  exact Steps.refl _
/-- what holds at the law's entry: the machine, the code, the tables' words (any of lw_tbl by 'hts w (by decide +kernel)'), the script of L ints xs at the cell b, what the Statement gives of the start (any of its parts by flat_of_before) -/
def lw_At (p : Program) (s : State) (m : MethodId) (meth : Method) (c : Code) (b L : Nat) (xs : Nat → Int32) : Prop :=
  p.tables.exec = Jvm.exec ∧ c.code = code ∧ meth.sig.returnType = ret ∧ c.maxLocals = 8 ∧ s.vm.findClass R_law = some m.cls ∧ (∀ w ∈ lw_tbl, w.before #[Value.ref b] s = true) ∧ va_X b L xs s s.heap ∧ b < s.heap.size ∧ meth.locks = false ∧ (Jvm.Cond.and given_1 narrow_1).before #[Value.ref b] s = true
section FINA
variable {l : Launch}
theorem vx_ofW2 {y : MethodName} {ws ws' : List Cond} {rm : Room} {Pc : Array Value → State → Prop} {Qc : Array Value → State → Outcome → State → Prop} {XC : String → State → State → Prop} {mc ms : Nat} {free : Addr → Prop} {cc : ByteArray} {maxL : Nat} {ret : Option FieldType}
    (hy : plainFor y = true) (hw : ws = Cond.code y cc maxL ret :: ws')
    (body : ∀ p e s m args below meth c s₁, BodyLoose p l y (headSpec ws rm) cc maxL ret e s m args below meth c s₁ → c.maxLocals = maxL → (∀ x ∈ c.exceptionTable.toList, False) → Pc args s →
      W p l e (headSpec ws rm).room s m args below meth c s.heap [] 0 0 (vx_MQ below Qc XC args s mc ms free) (entryFrame m args maxL)) : vx_Met l y ws rm Pc Qc XC mc ms free := by
  refine MetFree.of_bodySF (code := cc) (maxLocals := maxL) (ret := ret) hy ?_ ?_
  · intro args s m h hn
    obtain ⟨meth, c, h1, h2, h3, h4, h5, h6, -, -⟩ := Cond.code_spec hn (atoms_spec (ws := ws) h _ (by rw [hw]; exact List.mem_cons_self))
    exact ⟨meth, c, h1, h2, h3, h4, h5, h6⟩
  · intro p e s m args below meth c s₁ B hml hP _
    have hh0 : s₁.heap = s.heap := by rw [B.state]; rfl
    have ht : ∀ x ∈ c.exceptionTable.toList, False := by
      obtain ⟨meth9, c9, h1, h2, -, -, -, -, h7, -⟩ := Cond.code_spec B.named (atoms_spec (ws := ws) B.pre _ (by rw [hw]; exact List.mem_cons_self))
      cases Option.some.inj (h1.symm.trans B.method)
      cases Option.some.inj (h2.symm.trans (Stand.of_body B).code)
      intro x hx
      rw [Array.isEmpty_iff.mp h7] at hx
      cases hx
    obtain ⟨t, a1, o, b1, b2, b3⟩ := body p e s m args below meth c s₁ B hml ht hP s₁ hh0 (Stand.of_body B)
    exact ⟨t, o, a1, b1, b2, b3⟩
end FINA
section FINS
variable {l : Launch} {S b Lx : Nat} {xs : Nat → Int32} {dC : Nat → ClassId} {dI : Nat → Nat → Nat} {cA : Nat → ClassId}
/-- a method's run gives its contract -/
theorem sm_ct2 {q : SMeth} {d : Nat} {as : List SV} {μ μ2 : SMem} {res : Option SV ⊕ Nat} (hpl : plainFor q.1 = true ∧ (q.2.2.2.2 = [] ∨ plainName q.1.cls = true)) (hsi : (sinit as).length ≤ q.2.2.1) (hrt : sm_rt q.2.2.2.1 res)
    (hrun : ∀ (p : Program) (e : Env) (R : Room) (s : State) (mm : MethodId) (args : Array Value) (below : List Frame) (meth : Method) (c : Code) (Q : State → Prop),
        sm_F S (sz μ) dC dI cA q p R s mm args meth c → d + 8 ≤ R.frames → (d + 1) * sm_KL ≤ R.locals → sz μ2 - sz μ ≤ R.cells → sl μ2 - sl μ ≤ R.slots →
        sm_E S b Lx xs dC dI cA p l e R s mm args below meth c Q (sz μ) (sl μ) res μ2 → sm_W S b Lx xs dC dI cA p l e R s mm args below meth c Q (sz μ) (sl μ) 0 (sfit q.2.2.1 as) [] μ) :
    sm_CT l S b Lx xs dC dI cA q d as μ res μ2 := by
  have body : ∀ (cc : ByteArray) (p : Program) (e : Env) (s : State) (m : MethodId) (args : Array Value) (below : List Frame) (meth : Method) (c : Code) (s₁ : State), BodyLoose p l q.1 (headSpec (sm_wsM q) (sm_room d μ μ2)) q.2.1 q.2.2.1 q.2.2.2.1 e s m args below meth c s₁ → c.maxLocals = q.2.2.1 → c.exceptionTable.toList = tableOf q.2.2.2.2 →
      va_Pc (as.map (sm_v S b)) (fun U => U.heap.size + 2 = S + sz μ ∧ sm_R S b Lx xs dC dI cA μ U.heap ∧ va_K (dC, dI) vwCl (sm_tys cA) U ∧ sm_Z S U U.heap) args s →
      W p l e (headSpec (sm_wsM q) (sm_room d μ μ2)).room s m args below meth c s.heap [] 0 0 (vx_MQ below (sm_CQ S b Lx xs dC dI cA res μ2) (sm_CX S b Lx xs dC dI cA res μ2) args s (sz μ2 - sz μ) (sl μ2 - sl μ) (sm_A S)) (entryFrame m args q.2.2.1) := by
    intro cc p e s m args below meth c s₁ B hml htab hP
    obtain ⟨rfl, hs0, hR, hK, hZ⟩ := hP
    have hts : ∀ w ∈ lw_g, w.before (as.map (sm_v S b)).toArray s = true := fun w hw => atoms_spec (ws := sm_wsM q) B.pre w (List.mem_cons_of_mem _ hw)
    have hF : sm_F S (sz μ) dC dI cA q p (headSpec (sm_wsM q) (sm_room d μ μ2)).room s m (as.map (sm_v S b)).toArray meth c :=
      ⟨B.exec, B.bytes, hml, findClass_of_methodNamed B.named, hts, B.notSynchronized, B.returns, hK, hs0, fun _ => (name_of_methodNamed B.named B.method).1, fun _ => htab, hZ, by show 8 ≤ d + 8; omega, by show sm_KL ≤ (d + 1) * sm_KL; unfold sm_KL; omega⟩
    have hE := sm_ends (l := l) (e := e) (below := below) (n0 := sl μ) (μ2 := μ2) (b := b) (Lx := Lx) (xs := xs) hF hrt
    have hW := hrun p e _ s m _ below meth c _ hF (Nat.le_refl _) (Nat.le_refl _) (Nat.le_refl _) (Nat.le_refl _) hE
    rw [lg_entry_eq]
    have h := hW s.heap [] _ hR va_S.rf (sm_entry hsi)
    rwa [Nat.sub_self, Nat.sub_self] at h
  obtain ⟨y, cc, nL, rt, hh⟩ := q
  by_cases h0 : hh = []
  · subst h0
    refine vx_ofW2 (ws' := lw_g) (cc := cc) (maxL := nL) (ret := rt) hpl.1 (by simp [sm_wsM, sm_ws1]) fun p e s m args below meth c s₁ B hml hex hP => body cc p e s m args below meth c s₁ B hml ?_ hP
    show c.exceptionTable.toList = tableOf []
    have : c.exceptionTable.toList = [] := List.eq_nil_iff_forall_not_mem.mpr hex
    rw [this]
    rfl
  · refine vx_ofWH (ws' := lw_g) (cc := cc) (maxL := nL) (ret := rt) (hh := hh) (hpl.2.resolve_left h0) (by simp [sm_wsM, sm_ws1, h0]) fun p e s m args below meth c s₁ B hml hP => body cc p e s m args below meth c s₁ B hml (vx_table (x := y) B (y := y) (bytes := cc) (maxL' := nL) (ret' := rt) (hh := hh) (atoms_spec (ws := sm_wsM (y, cc, nL, rt, hh)) B.pre _ (by unfold sm_wsM sm_ws1; rw [if_neg (show ¬ (y, cc, nL, rt, hh).2.2.2.2 = [] from h0)]; exact List.mem_cons_self))) hP
theorem sm_sim2 {P : Nat → Nat → Option SIns} {M : Nat → SMeth} {X : Nat → State → Prop} {pcs : Nat → Nat → Nat} (hOK : ∀ m i f, P m i = some f → sm_OK l S b Lx xs dC dI cA M X m (pcs m) i f) (hpl : ∀ m, plainFor (M m).1 = true ∧ ((M m).2.2.2.2 = [] ∨ plainName (M m).1.cls = true)) (h0 : ∀ m, pcs m 0 = 0) :
    ∀ (n d m i : Nat) (L : SL) (st : List SV) (μ : SMem) (res : Option SV ⊕ Nat) (μF : SMem), sx P (fun y => (M y).2.2.1) n d m i L st μ = some (res, μF) → L.length = (M m).2.2.1 →
      sm_rt (M m).2.2.2.1 res ∧ sz μ ≤ sz μF ∧ sl μ ≤ sl μF ∧
      ∀ (p : Program) (e : Env) (R : Room) (s : State) (mm : MethodId) (args : Array Value) (below : List Frame) (meth : Method) (c : Code) (Q : State → Prop) (z0 n0 : Nat),
        sm_F S z0 dC dI cA (M m) p R s mm args meth c → X m s → d + 8 ≤ R.frames → (d + 1) * sm_KL ≤ R.locals → z0 ≤ sz μ → n0 ≤ sl μ → sz μF - z0 ≤ R.cells → sl μF - n0 ≤ R.slots →
        sm_E S b Lx xs dC dI cA p l e R s mm args below meth c Q z0 n0 res μF → sm_W S b Lx xs dC dI cA p l e R s mm args below meth c Q z0 n0 (pcs m i) L st μ := by
  intro n
  induction n with
  | zero => intro d m i L st μ res μF h; cases h
  | succ n ih =>
    intro d m i L st μ res μF h hL
    unfold sx at h
    cases hP : P m i with
    | none => rw [hP] at h; cases h
    | some f =>
      rw [hP] at h
      dsimp only at h
      cases hf : f i L st μ with
      | none => rw [hf] at h; cases h
      | some cmd =>
        rw [hf] at h
        have hok := hOK m i f hP L st μ cmd hf hL
        rcases cmd with ⟨i', L', st', μ'⟩ | r' | ⟨y, as, i', hs, L', st', μ'⟩
        · obtain ⟨g1, g2, g3, g4⟩ := hok
          obtain ⟨k1, k2, k3, k4⟩ := ih _ _ _ _ _ _ _ _ h (g1.trans hL)
          refine ⟨k1, by omega, by omega, fun p e R s mm args below meth c Q z0 n0 hF hX hfr hlo hz hn hc hsl hE => ?_⟩
          exact g4 p e R s mm args below meth c Q z0 n0 hF hX hz hn (by omega) (by omega) (k4 p e R s mm args below meth c Q z0 n0 hF hX hfr hlo (by omega) (by omega) hc hsl hE)
        · cases h
          obtain ⟨g0, g1, g2, g3⟩ := hok
          refine ⟨g0, g1, g2, fun p e R s mm args below meth c Q z0 n0 hF hX hfr hlo hz hn hc hsl hE => ?_⟩
          exact g3 p e R s mm args below meth c Q z0 n0 hF hX hz hn hc hsl hE
        · dsimp only at h
          obtain ⟨rfl, rfl, g1, g2, g3⟩ := hok
          cases d with
          | zero => cases h
          | succ d =>
            dsimp only at h
            cases hc : sx P (fun y => (M y).2.2.1) n d y 0 (sfit (M y).2.2.1 as) [] μ' with
            | none => rw [hc] at h; cases h
            | some r2 =>
              rw [hc] at h
              obtain ⟨res2, μ2⟩ := r2
              obtain ⟨j1, j2, j3, j4⟩ := ih _ _ _ _ _ _ _ _ hc (by simp [sfit]; omega)
              have hCT : sm_CT l S b Lx xs dC dI cA (M y) d as μ' res2 μ2 := sm_ct2 (hpl y) g1 j1 fun p e R s mm args below meth c Q hF hfr hlo hcc hss hE => by
                have := j4 p e R s mm args below meth c Q (sz μ') (sl μ') hF (g2 s) hfr hlo (Nat.le_refl _) (Nat.le_refl _) hcc hss hE
                rwa [h0] at this
              rcases res2 with v | k
              · obtain ⟨k1, k2, k3, k4⟩ := ih _ _ _ _ _ _ _ _ h hL
                refine ⟨k1, by omega, by omega, fun p e R s mm args below meth c Q z0 n0 hF hX hfr hlo hz hn hcc hss hE => ?_⟩
                exact g3 p e R s mm args below meth c Q z0 n0 hF hX hz hn d _ μ2 (by omega) (by omega) hCT j2 j3 (by omega) (by omega) (k4 p e R s mm args below meth c Q z0 n0 hF hX hfr hlo (by omega) (by omega) hcc hss hE)
              · dsimp only at h
                cases hh : shnd hs k with
                | none => rw [hh] at h; cases h
                | some jx =>
                  obtain ⟨j, x⟩ := jx
                  rw [hh] at h
                  obtain ⟨k1, k2, k3, k4⟩ := ih _ _ _ _ _ _ _ _ h (by rw [List.length_set]; exact hL)
                  refine ⟨k1, by omega, by omega, fun p e R s mm args below meth c Q z0 n0 hF hX hfr hlo hz hn hcc hss hE => ?_⟩
                  exact g3 p e R s mm args below meth c Q z0 n0 hF hX hz hn d _ μ2 (by omega) (by omega) hCT j2 j3 (by omega) (by omega) ⟨j, x, hh, k4 p e R s mm args below meth c Q z0 n0 hF hX hfr hlo (by omega) (by omega) hcc hss hE⟩
end FINS
theorem fin_max : plainFor Lib.Math.max.name = true := by
  unfold plainFor
  rw [show (NativeRow.find? Jvm.natives Lib.Math.max.name.cls Lib.Math.max.name.name Lib.Math.max.name.desc).isNone = true from Lib.Math.max.noRow0]
  exact Bool.or_true _
theorem fin_min : plainFor Lib.Math.min.name = true := by
  unfold plainFor
  rw [show (NativeRow.find? Jvm.natives Lib.Math.min.name.cls Lib.Math.min.name.name Lib.Math.min.name.desc).isNone = true from Lib.Math.min.noRow0]
  exact Bool.or_true _
theorem fin_pl : ∀ m, plainFor (sm_M m).1 = true ∧ ((sm_M m).2.2.2.2 = [] ∨ plainName (sm_M m).1.cls = true) := by
  intro m
  unfold sm_M
  cases h : sm_Ml[m]? with
  | none => exact ⟨plainFor_of_name (by decide), Or.inl rfl⟩
  | some q =>
    have h2 := List.all_eq_true.mp (show sm_Ml.all (fun q => (plainName q.1.cls || (q.1 == Lib.Math.max.name || q.1 == Lib.Math.min.name)) && (q.2.2.2.2.isEmpty || plainName q.1.cls)) = true by decide +kernel) q (List.mem_of_getElem? h)
    simp only [Bool.and_eq_true, Bool.or_eq_true, beq_iff_eq, List.isEmpty_iff] at h2
    refine ⟨?_, h2.2⟩
    rcases h2.1 with h3 | h3 | h3
    · exact plainFor_of_name h3
    · show plainFor q.1 = true
      rw [h3]
      exact fin_max
    · show plainFor q.1 = true
      rw [h3]
      exact fin_min
theorem fin_0 : ∀ m, sm_pc m 0 = 0 := by
  intro m
  unfold sm_pc
  cases h : sm_pl[m]? with
  | none => rfl
  | some c =>
    have h2 := List.all_eq_true.mp (show sm_pl.all (fun c => (c[0]?).getD 0 == 0) = true by decide +kernel) c (List.mem_of_getElem? h)
    exact eq_of_beq h2
theorem lw_n_nil {w : Cond} (hw : w ∈ lw_n) {s : State} {A : Array Value} (h : w.before A s = true) : w.before #[] s = true := by
  simp only [lw_n, List.mem_cons, List.not_mem_nil, or_false] at hw
  rcases hw with rfl | rfl | rfl | rfl | rfl | rfl | rfl | rfl | rfl | rfl | rfl | rfl | rfl | rfl | rfl | rfl | rfl | rfl | rfl | rfl <;> first | exact va_tabs rfl rfl h | exact va_AO.of h
theorem lw_n_in : ∀ w ∈ lw_n, w ∈ lw_tbl := by decide +kernel
theorem fin_vk {own : String} {k : Nat} {tx : String} {A : Array Value} {s : State} (h : (Cond.stringRef own k tx).before A s = true) : ∃ a, vk_R own k tx a s := by
  have h0 : (Cond.stringRef own k tx).before #[] s = true := by
    first
      | exact va_tabs rfl rfl h
      | (simp only [Cond.before, Cond.holds, Cond.value] at h ⊢; exact h)
  have hcur : ∃ cur, s.vm.findClass own = some cur := by
    have h1 := h0
    simp only [Cond.before, Cond.holds, Cond.value] at h1
    cases hc : s.vm.findClass own with
    | none => simp [hc] at h1
    | some cur => exact ⟨cur, rfl⟩
  obtain ⟨cur, hcur⟩ := hcur
  obtain ⟨_, _, _, a, _, _, _, _, _, hev⟩ := Cond.stringRef_spec hcur h0
  exact ⟨a, h0, hev⟩
theorem fin_arr {A : Array Value} {s : State} {ty : FieldType} (h : (Cond.arrayClass ty).before A s = true) : ∃ cA : ClassId, ArrOfT s cA ty ∧ s.vm.findClass ("[" ++ ty.toString) = some cA := by
  obtain ⟨cA, kA, comp, h1, h2, h3⟩ := Cond.arrayClass_spec h
  exact ⟨cA, fun n z => ⟨fun k h => (by cases h), kA, h2, comp, h3⟩, h1⟩
theorem fin_arq {A : Array Value} {s : State} {C : String} (h : (Cond.arrayOver (.object C)).before A s = true) : ∃ cA : ClassId, ArrOfT s cA (.object C) ∧ va_RA s cA (.object C) := by
  obtain ⟨comp, cA, kA, h1, h2, h3, h4, h5⟩ := Cond.arrayOver_spec h
  exact ⟨cA, fun n z => ⟨fun k h => (by cases h), kA, h3, comp, h4⟩, kA, comp, h3, h4, h1, h5⟩
/-- the start's classes -/
theorem fin_K {s : State} {A : Array Value} (hg : ∀ w ∈ lw_g, w.before A s = true) (hn : ∀ w ∈ lw_n, w.before A s = true) : ∃ (dC : Nat → ClassId) (dI : Nat → Nat → Nat) (cA : Nat → ClassId), va_K (dC, dI) vwCl (sm_tys cA) s := by
  obtain ⟨c0, i0, k0⟩ := u_known (C := RX0) (T := TX0) (N := 1) (n := 1) hg inX0 (hg _ w_319)
  obtain ⟨c1, i1, k1⟩ := u_known (C := RX1) (T := TX1) (N := 4) (n := 4) hg inX1 (hg _ w_96)
  obtain ⟨c2, i2, k2⟩ := u_known (C := RX2) (T := TX2) (N := 1) (n := 1) hg inX2 (hg _ w_311)
  obtain ⟨c3, i3, k3⟩ := u_known (C := RX3) (T := TX3) (N := 1) (n := 1) hg inX3 (hg _ w_295)
  obtain ⟨c4, i4, k4⟩ := u_known (C := RX4) (T := TX4) (N := 1) (n := 1) hg inX4 (hg _ w_287)
  obtain ⟨c5, i5, k5⟩ := u_known (C := RX5) (T := TX5) (N := 1) (n := 1) hg inX5 (hg _ w_335)
  obtain ⟨c6, i6, k6⟩ := u_known (C := RX6) (T := TX6) (N := 1) (n := 1) hg inX6 (hg _ w_303)
  obtain ⟨c7, i7, k7⟩ := u_known (C := RX7) (T := TX7) (N := 1) (n := 1) hg inX7 (hg _ w_266)
  obtain ⟨c8, i8, k8⟩ := u_known (C := RX8) (T := TX8) (N := 5) (n := 5) hg inX8 (hg _ w_140)
  obtain ⟨c9, i9, k9⟩ := u_known (C := RX9) (T := TX9) (N := 1) (n := 1) hg inX9 (hg _ w_327)
  obtain ⟨c10, i10, k10⟩ := u_known (C := RX10) (T := TX10) (N := 5) (n := 5) hg inX10 (hg _ w_87)
  obtain ⟨c11, i11, k11⟩ := u_known (C := RX11) (T := TX11) (N := 9) (n := 9) hg inX11 (hg _ w_79)
  obtain ⟨c12, i12, k12⟩ := u_known (C := RX12) (T := TX12) (N := 21) (n := 21) hg inX12 (hg _ w_927)
  have hall : ∀ k : Nat, ∃ (cC : ClassId) (iS : Nat → Nat), ∀ q : vw_C, vwCl[k]? = some q → u_Kn s q.1 q.2.1 q.2.2 cC iS := by
    intro k
    match k with
    | 0 => exact ⟨c0, i0, fun q hq => by cases hq; exact k0⟩
    | 1 => exact ⟨c1, i1, fun q hq => by cases hq; exact k1⟩
    | 2 => exact ⟨c2, i2, fun q hq => by cases hq; exact k2⟩
    | 3 => exact ⟨c3, i3, fun q hq => by cases hq; exact k3⟩
    | 4 => exact ⟨c4, i4, fun q hq => by cases hq; exact k4⟩
    | 5 => exact ⟨c5, i5, fun q hq => by cases hq; exact k5⟩
    | 6 => exact ⟨c6, i6, fun q hq => by cases hq; exact k6⟩
    | 7 => exact ⟨c7, i7, fun q hq => by cases hq; exact k7⟩
    | 8 => exact ⟨c8, i8, fun q hq => by cases hq; exact k8⟩
    | 9 => exact ⟨c9, i9, fun q hq => by cases hq; exact k9⟩
    | 10 => exact ⟨c10, i10, fun q hq => by cases hq; exact k10⟩
    | 11 => exact ⟨c11, i11, fun q hq => by cases hq; exact k11⟩
    | 12 => exact ⟨c12, i12, fun q hq => by cases hq; exact k12⟩
    | n + 13 => exact ⟨c0, i0, fun q hq => by simp [vwCl] at hq⟩
  obtain ⟨a0, p0, q0⟩ := fin_arr (hg _ w_118)
  obtain ⟨a1, p1, q1⟩ := fin_arr (hg _ w_1343)
  obtain ⟨a2, p2, q2⟩ := fin_arq (hn (.arrayOver (.object "TakesAPage$Reader")) (by decide))
  obtain ⟨a3, p3, q3⟩ := fin_arq (hn (.arrayOver (.object "TakesAPage$Book")) (by decide))
  obtain ⟨a4, p4, q4⟩ := fin_arq (hn (.arrayOver (.object "TakesAPage$Shelf")) (by decide))
  refine ⟨fun k => Classical.choose (hall k), fun k => Classical.choose (Classical.choose_spec (hall k)), fun k => if k = 0 then a0 else if k = 1 then a1 else if k = 2 then a2 else if k = 3 then a3 else a4, fun k q hq => Classical.choose_spec (Classical.choose_spec (hall k)) q hq, fun k q hq => ?_⟩
  match k, hq with
  | 0, hq => cases hq; exact ⟨p0, q0⟩
  | 1, hq => cases hq; exact ⟨p1, q1⟩
  | 2, hq => cases hq; exact ⟨p2, q2⟩
  | 3, hq => cases hq; exact ⟨p3, q3⟩
  | 4, hq => cases hq; exact ⟨p4, q4⟩
  | n + 5, hq => simp [sm_tys] at hq
/-- what throws need, at the start -/
theorem fin_Z {s : State} {b : Nat} (ht : ∀ w ∈ lw_tbl, w.before #[Value.ref b] s = true) (hgv : (Jvm.Cond.and given_1 narrow_1).before #[Value.ref b] s = true) : sm_Z s.heap.size s s.heap := by
  have hf := flat_of_before _ hgv
  have hA : ∀ a : Nat, a < s.heap.size → ¬ sm_A s.heap.size a := fun a h => Nat.not_le.mpr h
  refine ⟨vx_Zqof (ht (.laysStatic "java/lang/Throwable" "UNASSIGNED_STACK" "[Ljava/lang/StackTraceElement;") (by decide +kernel)) (ht (.initialized "java/lang/Throwable") (by decide +kernel)) (hf (.isRef (.static "java/lang/Throwable" "UNASSIGNED_STACK" "[Ljava/lang/StackTraceElement;")) (by decide +kernel)) hA,
    vx_Zqof (ht (.laysStatic "java/lang/Throwable" "SUPPRESSED_SENTINEL" "Ljava/util/List;") (by decide +kernel)) (ht (.initialized "java/lang/Throwable") (by decide +kernel)) (hf (.isRef (.static "java/lang/Throwable" "SUPPRESSED_SENTINEL" "Ljava/util/List;")) (by decide +kernel)) hA,
    fin_vk (ht (.stringRef "TakesAPage$Reader" 39 "the failure of a reader") (by decide +kernel)), fin_vk (ht (.stringRef "TakesAPage" 223 "no such shelf") (by decide +kernel)), fin_vk (ht (.stringRef "TakesAPage" 233 "no row, or no such place in it") (by decide +kernel)),
    va_Nc.of (hf (.not (.castable "java/lang/IllegalStateException" "java/lang/IllegalArgumentException")) (by decide +kernel)), fun w hw => lw_n_nil hw (ht w (lw_n_in w hw))⟩
/-- the small memory of the start -/
def fin_M (L : Nat) (xs : Nat → Int32) : SMem := ((2, 0), fun _ => 99, fun _ => L, fun _ j => xs j, fun _ _ => 0, fun _ _ => 0)
theorem fin_R {S b L : Nat} {xs : Nat → Int32} {dC : Nat → ClassId} {dI : Nat → Nat → Nat} {cA : Nat → ClassId} {H : Heap} (h : S ≤ H.size) : sm_R S b L xs dC dI cA (fin_M L xs) H :=
  ⟨fun k q hq => by rw [show sm_ws S b cA (fin_M L xs) = [] from rfl] at hq; simp at hq, Nat.le_refl 2, by show S + 0 ≤ H.size; exact h, rfl, fun _ => rfl, fun _ _ => rfl⟩
set_option maxRecDepth 100000 in
set_option maxHeartbeats 4000000 in
/-- YOUR PART: from the entry, for every script of at most 3072 ints, the law comes to its end with true ('hflags': the launch's flags, for a law that throws: no stack traces) -/
theorem whole_start {p : Program} {e : Env} {s : State} {m : MethodId} {below : List Frame} {meth : Method} {c : Code} (l : Launch) (hflags : l.flags = flags0) {b L : Nat} {xs : Nat → Int32} (hL : L ≤ 3072) (C0 : lw_At p s m meth c b L xs) : W p l e room_1 s m #[Value.ref b] below meth c s.heap [] 0 0 (lw_Z below #[Value.ref b] s) (entryFrame m ([Value.ref b] : List Value).toArray 8) := by
  obtain ⟨hx, hb, hr, hml, hown, hts, hX, hbl, hlocks, hgv⟩ := id C0
  have hg : ∀ w ∈ lw_g, w.before #[Value.ref b] s = true := fun w hw => hts w (List.mem_filter.mp hw).1
  obtain ⟨dC, dI, cA, hK⟩ := fin_K hg (fun w hw => hts w (lw_n_in w hw))
  have hZ := fin_Z hts hgv
  have hl9 : l.stackTraces = false := by unfold Launch.stackTraces; rw [hflags]; decide
  obtain ⟨μ', hrun, z1, z2⟩ := law_run (d := 0) (μ := fin_M L xs) hL rfl (fun _ => rfl) rfl (fun _ => rfl)
  obtain ⟨n, hn⟩ := rn_some hrun
  have hM : sm_M 228 = (⟨"TakesAPageLaw", "law", "([I)Z"⟩, code, 8, some .boolean, []) := rfl
  have hlen : (sfit (sm_ML 228) [(Sum.inr (Sum.inl 1) : SV)]).length = (sm_M 228).2.2.1 := by
    unfold sm_ML
    rw [hM]
    rfl
  obtain ⟨g1, g2, g3, g4⟩ := sm_sim2 (l := l) (S := s.heap.size) (b := b) (Lx := L) (xs := xs) (dC := dC) (dI := dI) (cA := cA) (P := sm_P) (M := sm_M) (X := sm_XX s.heap.size b L xs) (pcs := sm_pc) (sm_allOK hl9) fin_pl fin_0 n (0 + 13) 228 0 _ [] (fin_M L xs) _ μ' hn hlen
  have hF : sm_F s.heap.size 2 dC dI cA (sm_M 228) p room_1 s m #[Value.ref b] meth c := by
    rw [hM]
    exact ⟨hx, hb, hml, hown, hg, hlocks, hr, hK, rfl, fun h => absurd h (by decide), fun h => by rcases h with h | h <;> exact absurd rfl h, hZ, by decide, by decide⟩
  have hW := g4 p e room_1 s m #[Value.ref b] below meth c (lw_Z below #[Value.ref b] s) 2 0 hF (fun _ => ⟨hX, hbl, hbl⟩) (by decide) (by decide) (Nat.le_refl 2) (Nat.le_refl 0) (by show sz μ' - 2 ≤ 601024; omega) (by show sl μ' - 0 ≤ 7293034; have : sl (fin_M L xs) = 0 := rfl; omega) (by
    intro H locs ls pc hR hS hdg
    rw [hb] at hdg
    refine va_forget hS.2.2 (W.widen (k := 601024) (n := 7293034) (by omega) (by have : sl (fin_M L xs) = 0 := rfl; omega) ?_)
    exact lw_ret hx hb hr hlocks hdg)
  have h := hW s.heap [] _ (fin_R (Nat.le_refl _)) va_S.rf (sm_entry (as := [(Sum.inr (Sum.inl 1) : SV)]) (n := 8) (Nat.le_of_ble_eq_true rfl))
  rw [lg_entry_eq]
  rw [fin_0] at h
  exact h
set_option maxHeartbeats 4000000 in
theorem lw_walk (l : Launch) (hflags : l.flags = flags0) (b : Addr) (xs : List Int32) : MetFree l x (headSpec (Jvm.Cond.code x code maxLocals ret :: tables_1) room_1) (lw_P b xs) (fun _ _ _ _ _ => True) lw_Q := by
  refine MetFree.of_bodyS (code := code) (maxLocals := maxLocals) (ret := ret) (by decide) ?_ ?_
  · intro args s m h hn
    obtain ⟨meth, c, h1, h2, h3, h4, h5, h6, -, -⟩ := Cond.code_spec hn (atoms_spec (ws := Jvm.Cond.code x code maxLocals ret :: tables_1) h _ List.mem_cons_self)
    exact ⟨meth, c, h1, h2, h3, h4, h5, h6⟩
  · intro p e s m args below meth c s₁ B hml0 hP _
    obtain ⟨rfl, hx, hbd, hgv⟩ := hP
    obtain ⟨scr, harrAt, hlist, hof, hsmall⟩ := hx
    obtain ⟨hcb, hkn, -, -⟩ := State.arrayAt?_spec harrAt
    have hown : s.vm.findClass R_law = some m.cls := findClass_of_methodNamed B.named
    have hts0 : ∀ c ∈ (Jvm.Cond.code x code maxLocals ret :: tables_1), c.before #[Value.ref b] s = true := atoms_spec (ws := Jvm.Cond.code x code maxLocals ret :: tables_1) B.pre
    have hts : ∀ w ∈ lw_tbl, w.before #[Value.ref b] s = true := k2_hts_sels lw_privs (fun w hw => hts0 w (List.mem_cons_of_mem _ hw)) lw_privs_ok
    have hml : c.maxLocals = 8 := B.maxLocals_eq (hts0 _ List.mem_cons_self)
    have X₀ : Stand p l e room_1 s m #[Value.ref b] below meth c s₁ [] 0 0 := Stand.of_body B
    have hh0 : s₁.heap = s.heap := by rw [B.state]; rfl
    have hsz : scr.slots.size = xs.length := by rw [← Array.length_toList, hlist, List.length_map]
    have hval : ∀ j : Nat, j < xs.length → scr.slots[j]? = some (.int (xs.getD j 0)) := fun j hj => by
      rw [← Array.getElem?_toList, hlist]
      simp [hj]
    have hbl : b < s.heap.size := (Array.getElem?_eq_some_iff.mp hcb).1
    have hX : va_X b xs.length (fun j => xs.getD j 0) s s.heap := ⟨scr, hcb, hof, hkn, hsz, hval⟩
    have K : W p l e room_1 s m #[Value.ref b] below meth c s₁.heap [] 0 0 (lw_Z below #[Value.ref b] s) (entryFrame m ([Value.ref b] : List Value).toArray 8) := by
      rw [hh0]
      exact whole_start l hflags hbd ⟨B.exec, B.bytes, B.returns, hml, hown, hts, hX, hbl, B.notSynchronized, hgv⟩
    obtain ⟨t, a1, o, b1, b2, b3⟩ := K s₁ rfl X₀
    exact ⟨t, o, a1, b1, b2, b3⟩
theorem lw_pre_spec {args : Array Value} {s : State} (h : (Jvm.Cond.and given_1 narrow_1).before args s = true) (hr : rest_1_c.before args s = true) : ∃ (b : Addr) (xs : List Int32), lw_P b xs args s := by
  have hs := flat_of_before _ h
  have hq := flat_of_before _ hr
  have hc : (Cond.count 1).before args s = true := hs _ (by decide +kernel)
  have harr : (Cond.arrayOf (.arg 0) .int).before args s = true := hs _ (by decide +kernel)
  have hle : (Cond.le (.length (.arg 0)) (.int 3072)).before args s = true := hs _ (by decide +kernel)
  have hlen : (Cond.isInt (.length (.arg 0))).before args s = true := hq _ (by decide +kernel)
  have hall : (Cond.all (.arg 0) (.isInt (.elem (.arg 0) (.index 0)))).before args s = true := hq _ (by decide +kernel)
  obtain ⟨b, xs, hb, hx⟩ := State.ints_of_pre rfl harr hlen hall
  have hsm : xs.length < 2 ^ 31 := hx.choose_spec.2.2.2
  have hev : (Term.length (.arg 0)).eval args s none [] s = some (.int xs.length.toInt32) := hx.length_eval hb
  have hv := Cond.le_ints hev (show (Term.int 3072).eval args s none [] s = some (.int 3072) from rfl)
  have hd : xs.length.toInt32 ≤ 3072 := by
    simpa [Cond.before, Cond.holds, hv] using hle
  have hN : xs.length ≤ 3072 := (Int32.ofNat_le_ofNat hsm (by decide)).mp (show Int32.ofNat xs.length ≤ Int32.ofNat 3072 from hd)
  exact ⟨b, xs, Cond.one_arg hc (show args[0]? = some (.ref b) from hb), hx, hN, h⟩
theorem lw_comes (l : Launch) (hflags : l.flags = flags0) : Comes l x (Jvm.Cond.code x code maxLocals ret :: tables_1) room_1 (fun tb e args s => Calls_1 tb e args s ∧ rest_1 tb e args s ∧ Pre_1 tb e args s)
    (fun _ _ args s o t => lw_Q args s o t) := by
  intro p e ha hc hk s m args below hf hfit hheap happ hpre
  obtain ⟨b, xs, hP⟩ := lw_pre_spec hpre.2.2 hpre.2.1
  obtain ⟨k, o, h1, h2, h3, hQ⟩ := lw_walk l hflags b xs p e ha hc hk s m args below hf ((Spec.applies_iff_loose hf).mp happ).1 hP trivial
  exact ⟨k, o, h1, h2, h3, hQ⟩
theorem lw_frame {s t : State} {o : Outcome} {args : Array Value} (h : Framed s o t [] 601024 7293034) :
    Framed s o t (fieldLocs frame_1_writes args s ++ arrayLocs frame_1_arrays args s ++ staticLocs frame_1_statics s) 601024 7293034 := h
theorem lw_limb (L : Cond) (hL : ∀ (args : Array Value) (s t : State), L.after args s (.returned (some (.int 1))) t = true) :
    ArmFor flags0 classFile x code maxLocals ret World_1 tables_1 room_1 Calls_1 rest_1 Pre_1
      (fun tb e a s o t => postC L tb e a s o t ∧ Framed s o t (fieldLocs frame_1_writes a s ++ arrayLocs frame_1_arrays a s ++ staticLocs frame_1_statics s) 601024 7293034) := by
  intro l hflags _ _ p e ha hc hk s m args below hf hfit hheap happ hpre
  obtain ⟨k, o, h1, h2, h3, rfl, hF⟩ := lw_comes l hflags p e ha hc hk s m args below hf hfit hheap happ hpre
  exact ⟨k, _, h1, h2, h3, hL args s _, lw_frame hF⟩
theorem i_vc : Claimed_1_1 ∧ Claimed_1_2 := ⟨lw_limb limb_1_1 (fun args s t => by simp [limb_1_1, Cond.after, Cond.holds, Cond.value]), lw_limb limb_1_2 (fun args s t => Cond.after_iff.mpr (by
  first | (rw [show limb_1_2 = Cond.eq .result (.int 1) from rfl, Cond.eq_ints (x := 1) (y := 1) rfl rfl]; simp; done) | (simp [limb_1_2, Cond.value, Term.eval]; done)))⟩
