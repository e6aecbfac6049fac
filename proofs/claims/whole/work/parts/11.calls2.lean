/-! CALLS, second half: of a superclass's method; with handlers; what throws -/
def s_invVH (D : Nat → Option (Nat × Nat)) (hs9 : List (Nat × Nat × Nat)) (n : Nat) : SIns := fun i L st μ => if hs9.all (fun q => snol L q.2.2) = true then s_invV D hs9 n i L st μ else none
section SMCALL2
variable {l : Launch} {S b Lx : Nat} {xs : Nat → Int32} {dC : Nat → ClassId} {dI : Nat → Nat → Nat} {cA : Nat → ClassId} {M : Nat → SMeth} {X : Nat → State → Prop} {m : Nat} {pcs : Nat → Nat} {i : Nat}
/-- super.f(..): x is the name at the call, in the direct superclass; it lies there or one class above -/
theorem sm_runSU {p : Program} {e : Env} {R : Room} {s : State} {mm : MethodId} {args : Array Value} {below : List Frame} {meth : Method} {c : Code} {H : Heap} {locs : List Loc} {cells slots mc ms n index : Nat} {x y : MethodName} {owner own C : String} {bytes cc : ByteArray} {maxL nL : Nat} {ret : Option FieldType} {ws : List Cond} {rm : Room} {Pc : Array Value → State → Prop} {Qc : Array Value → State → Outcome → State → Prop} {free : Addr → Prop} {Ts : List Cond} {b : Addr} {As rest : List Value} {g : JFrame}
    (hyx : y = ⟨owner, x.name, x.desc⟩) (S : CallFix p mm c cc nL s args Ts own) (hM : Met l y ws rm Pc Qc mc ms free)
    (hback : rm.cells = mc ∧ rm.slots = ms ∧ rm.frames + 1 ≤ R.frames ∧ 8 + (maxL + 11) + rm.locals ≤ R.locals ∧ (∀ w ∈ ws, ∀ (a' : Array Value) (U : State), s.WarmedH U.vm → w.before a' U = true) ∧ Cond.code y bytes maxL ret ∈ ws)
    (hl1 : (Cond.methodLink own index x).before args s = true) (hl2 : (Cond.sameMethod x.cls owner x.name x.desc).before args s = true) (hl3 : (Cond.superclass own x.cls).before args s = true) (hl4 : owner = x.cls ∨ (Cond.superclass x.cls owner).before args s = true) (hl5 : (Cond.instanceMethod y).before args s = true) (hini : (Cond.initialized y.cls).before args s = true) (hcode : (Cond.code y bytes maxL ret).before args s = true) (hno : x.name ≠ "<init>") (hlen : ∀ sig, parseMethodDescriptor x.desc = some sig → n = sig.parameters.length)
    (hp : PreV s H C b Pc As) (hkB : ∃ (cC : ClassId) (kB : Class), s.vm.findClass C = some cC ∧ s.vm.classes[cC]? = some kB)
    (hg : g.method = mm) (hn : As.length = n) (hsize : g.locals.size = nL) (hstack : g.stack = As.reverse ++ .ref b :: rest) (hW : 2 * g.monitorRoom + (rest.map fun v => v.category).sum ≤ 8) (hdg : decode cc g.pc = .ok (.invokespecial index, 3)) (hf : cells + mc ≤ R.cells ∧ slots + ms ≤ R.slots) :
    va_Run p l e R s mm args below meth c H locs cells slots mc ms g rest (Qc (Value.ref b :: As).toArray) free := by
  obtain ⟨hrc, hrs, hfr, hlo, hws, hcw⟩ := hback
  have hK : Back l R p e below s args y 3 8 (PreOf R mc ms Pc) (PostOf Qc mc ms free) := back_of (bytes := bytes) (maxL := maxL) (ret := ret) hM hp.1 hrc hrs hfr hlo hws hcw (fun a' U hW => word_at hW (Or.inl (by first | rfl | simp [Cond.onTables, Cond.keeps, Cond.steady])) hini)
  obtain ⟨hx, hb, hml, ho, -⟩ := S
  obtain ⟨-, ⟨cellB, hcB, hoB, hclB⟩, hPc⟩ := hp
  obtain ⟨cC, kB, hfc, hkB⟩ := hkB
  cases hfc.symm.trans hclB
  obtain ⟨mk, methM, hnamed, hmethM, hstM, habM⟩ := Cond.instanceMethod_spec hl5
  obtain ⟨methM', cM, hmethM', -, -, -, -, -, -, hsigM⟩ := Cond.code_spec hnamed hcode
  cases hmethM.symm.trans hmethM'
  obtain ⟨ps, dk, kp, hps, hdk, hkp, hsuper, -, -, hnid⟩ := Cond.superclass_spec ho hl3
  have hn9 : s.methodNamed? ⟨owner, x.name, x.desc⟩ = some mk := by rw [← hyx]; exact hnamed
  have hmc : s.vm.findClass owner = some mk.cls := findClass_of_methodNamed hn9
  have hsub : s.vm.isSubclass ps mk.cls = true := by
    rcases hl4 with rfl | hl4
    · have hpm : ps = mk.cls := Option.some.inj (hps.symm.trans hmc)
      rw [hpm]
      simp [Vm.isSubclass, Vm.isSubclassAux]
    · obtain ⟨p2, k2, kp2, hp2, hk2, -, hs2, -, -, -⟩ := Cond.superclass_spec hps hl4
      have hpm : p2 = mk.cls := Option.some.inj (hp2.symm.trans hmc)
      have hz : ps < s.vm.classes.size := (Array.getElem?_eq_some_iff.mp hk2).1
      obtain ⟨z, hz⟩ : ∃ z, s.vm.classes.size = z + 1 := ⟨s.vm.classes.size - 1, (Nat.sub_add_cancel (Nat.lt_of_le_of_lt (Nat.zero_le _) hz)).symm⟩
      subst hpm
      simp [Vm.isSubclass, Vm.isSubclassAux, hz, hk2, hs2]
  intro T hT X
  obtain ⟨vm₁, X₁, hstep₁⟩ := X.invokespecialUp hx ho hl1 hl2 hn9 hmethM hstM habM hno hdk hnid hps hsuper hsub (a := b) (cell := cellB) (by rw [hT]; exact hcB)
    (fun z h => by rw [h] at hoB; cases hoB) hkB (g := g) hg (argsL := As) (rest := rest) (hn.trans (hlen _ (by rw [hyx] at hsigM; exact hsigM))) hstack (by rw [hb]; exact hdg)
  obtain ⟨v, ⟨U', l2, c2, s2⟩, X', ⟨g', mk9, t, L, e1, e2, hq, h1, hL, h2, h3⟩, hsteps⟩ := hK mm meth c ⟨T.setVm vm₁, locs, cells, slots⟩ { g with stack := rest } (.invokespecial index) mk (Value.ref b :: As).toArray X₁ hg (hsize.trans hml.symm) (by rw [hb]; exact hdg) hW (X₁.named hnamed) ⟨hf.1, hf.2, hPc (T.setVm vm₁) hT X₁.warmed⟩
  dsimp only [Pt.U, Pt.locs, Pt.cells, Pt.slots] at X' e1 e2 h1 h2 h3 hsteps
  subst h1; subst h2; subst h3
  exact ⟨v, (T.setVm vm₁).calling g' mk9 (Value.ref b :: As).toArray, t, U', L, hT, X', hL, e1, e2, hq, fun target h => hstep₁ _ (by rw [doInvoke_state]; exact hsteps.trans h)⟩
/-- the receiver of super.f(..): of some class that the worlds hold -/
def s_invU (P : Nat → Bool) (y n ml : Nat) : SIns := fun i L st μ => match st.drop n with
  | .inr (.inl a) :: r => if P (tg μ a) = true ∧ n ≤ st.length ∧ r.length ≤ 4 ∧ (sinit (.inr (.inl a) :: (st.take n).reverse)).length ≤ ml then some (.inr (.inr (y, .inr (.inl a) :: (st.take n).reverse, i + 1, [], L, r, μ))) else none
  | _ => none
theorem ok_invU {P : Nat → Bool} {y n idx ml : Nat} {x : MethodName} {owner : String} (hP : ∀ t, P t = true → t < 13) (hyx : (M y).1 = ⟨owner, x.name, x.desc⟩) (hq : (M y).2.2.2.2 = []) (hml : ml = (M y).2.2.1) (hm9 : ml ≤ 100) (hXy : ∀ s, X y s) (h1 : Cond.methodLink (M m).1.cls idx x ∈ lw_g) (h2 : Cond.sameMethod x.cls owner x.name x.desc ∈ lw_g) (h3 : Cond.superclass (M m).1.cls x.cls ∈ lw_g) (h5 : owner = x.cls ∨ Cond.superclass x.cls owner ∈ lw_g) (h6 : Cond.instanceMethod (M y).1 ∈ lw_g) (h7 : Cond.initialized (M y).1.cls ∈ lw_g) (h4 : sm_ws1 (M y) ∈ lw_g) (hno : x.name ≠ "<init>") (hdv : (parseMethodDescriptor x.desc).map (fun d => d.parameters.length) = some n) (hd : decode (M m).2.1 (pcs i) = .ok (.invokespecial idx, 3)) (hp : pcs (i + 1) = pcs i + 3) : sm_OK l S b Lx xs dC dI cA M X m pcs i (s_invU P y n ml) := by
  intro L st μ cmd h hL
  unfold s_invU at h
  split at h
  · next a r hdr =>
    split at h
    · next hc9 =>
      cases h
      refine ⟨rfl, rfl, by rw [← hml]; exact hc9.2.2.2, hXy, fun p e R s mm args below meth c Q z0 n0 hF hX hz hn d res μ2 hfr hlo hCT hm1 hm2 hc hs hW H locs ls hR hS hl => ?_⟩
      obtain ⟨hx, hb, hml9, hown, hts, -, -, hK, hs0, -, htab, hZ, -, -⟩ := hF
      subst hml
      rcases res with v | k
      · dsimp only at hW
        rw [hp] at hW
        refine sm_size hR hs0 hz fun hH => ?_
        have ht13 := hP _ hc9.1
        obtain ⟨k1, k2, k3, qv, hqv⟩ := hR.get (a := a) (by omega)
        obtain ⟨⟨C, T, N⟩, e1⟩ : ∃ q, vwCl[tg μ a]? = some q := ⟨_, List.getElem?_eq_getElem ht13⟩
        obtain ⟨f1, f2⟩ := sm_nf_of e1
        rw [sm_ent_o rfl f2, f1] at hqv
        have hrec := va_recv hK hR.1 e1 hqv
        have hws : sm_wsM (M y) = Cond.code (M y).1 (M y).2.1 (M y).2.2.1 (M y).2.2.2.1 :: lw_g := by unfold sm_wsM sm_ws1; rw [if_pos hq]
        have hlo9 : 8 + ((M y).2.2.1 + 11) + (d + 1) * sm_KL ≤ R.locals := by
          have : (d + 2) * sm_KL = (d + 1) * sm_KL + 1400 := by unfold sm_KL; omega
          omega
        have e9 := sm_stk (S := S) (b := b) (n := n) (st := st)
        rw [hdr, List.map_cons, sm_ref k3] at e9
        have hpre := sm_pre (z0 := z0) (as := .inr (.inl a) :: (st.take n).reverse) hR hH hK hZ hS
        rw [List.map_cons, sm_ref k3] at hpre
        have hM := sm_met hCT
        rw [List.map_cons, sm_ref k3] at hM
        have hlen : ((st.take n).reverse.map (sm_v S b)).length = n := by simp; omega
        obtain ⟨hfc, kB, hkB, -⟩ := (hK.1 _ _ e1).2
        have hcin : Cond.code (M y).1 (M y).2.1 (M y).2.2.1 (M y).2.2.2.1 ∈ sm_wsM (M y) := by rw [hws]; exact List.mem_cons_self
        have hpay := pay_in hts (sm_goodM h4)
        refine sm_goes (sm_runSU (C := C) (cc := (M m).2.1) (nL := (M m).2.2.1) (own := (M m).1.cls) (b := sm_adr S b a) (As := (st.take n).reverse.map (sm_v S b)) (rest := r.map (sm_v S b)) (rm := sm_room d μ μ2) hyx ⟨hx, hb, hml9, hown, hts⟩ hM ⟨rfl, rfl, hfr, hlo9, hpay, hcin⟩ (hts _ h1) (hts _ h2) (hts _ h3) (h5.imp id (hts _)) (hts _ h6) (hts _ h7) (hts _ (sm_goodM h4 _ hcin).1) hno (fun sig h => ?_) ⟨sm_blind, hrec, hpre⟩ ⟨_, kB, hfc, hkB⟩ rfl hlen (by rw [← hL]; exact hl.size) e9 (lv_room (sm_cat4 hc9.2.2.1)) hd ⟨by omega, by omega⟩) hS hl hz hn hm1 hm2 hW rfl
        rw [h] at hdv
        exact (Option.some.inj hdv).symm
      · obtain ⟨j, x, h9, -⟩ := hW
        cases h9
    · cases h
  · cases h
theorem ok_invVW {P : Nat → Bool} {y n idx ml t : Nat} {C : String} {T : u_T} {N : Nat} (e1 : vwCl[t]? = some (C, T, N)) (hP : ∀ t9, P t9 = true → t9 = t) (hq : (M y).2.2.2.2 ≠ []) (hml : ml = (M y).2.2.1) (hm9 : ml ≤ 100) (hXy : ∀ s, X y s) (h1 : Cond.methodLink (M m).1.cls idx (M y).1 ∈ lw_g) (h2 : Cond.instanceMethod (M y).1 ∈ lw_g) (h3 : Cond.selects C (M y).1 (M y).1 ∈ lw_g) (h7 : Cond.initialized C ∈ lw_g) (h4 : sm_ws1 (M y) ∈ lw_g) (hdv : (M y).1.cls = C ∧ (M y).1.cls ≠ "java/lang/invoke/MethodHandle" ∧ (M y).1.cls ≠ "java/lang/invoke/VarHandle" ∧ (parseMethodDescriptor (M y).1.desc).map (fun d => d.parameters.length) = some n) (hd : decode (M m).2.1 (pcs i) = .ok (.invokevirtual idx, 3)) (hp : pcs (i + 1) = pcs i + 3) : sm_OK l S b Lx xs dC dI cA M X m pcs i (s_invU P y n ml) := by
  intro L st μ cmd h hL
  unfold s_invU at h
  split at h
  · next a r hdr =>
    split at h
    · next hc9 =>
      cases h
      refine ⟨rfl, rfl, by rw [← hml]; exact hc9.2.2.2, hXy, fun p e R s mm args below meth c Q z0 n0 hF hX hz hn d res μ2 hfr hlo hCT hm1 hm2 hc hs hW H locs ls hR hS hl => ?_⟩
      obtain ⟨hx, hb, hml9, hown, hts, -, -, hK, hs0, -, htab, hZ, -, -⟩ := hF
      subst hml
      rcases res with v | k
      · dsimp only at hW
        rw [hp] at hW
        refine sm_size hR hs0 hz fun hH => ?_
        have ht13 := hP _ hc9.1
        obtain ⟨f1, f2⟩ := sm_nf_of e1
        obtain ⟨k1, k2, k3, qv, hqv⟩ := hR.get (a := a) (by omega)
        rw [sm_ent_o ht13 f2, f1] at hqv
        have hrec := va_recv hK hR.1 e1 hqv
        have hws : sm_wsM (M y) = Cond.codeWith (M y).1 (M y).2.1 (M y).2.2.1 (M y).2.2.2.1 (M y).2.2.2.2 :: lw_g := by unfold sm_wsM sm_ws1; rw [if_neg hq]
        have hlo9 : 8 + ((M y).2.2.1 + 11) + (d + 1) * sm_KL ≤ R.locals := by
          have : (d + 2) * sm_KL = (d + 1) * sm_KL + 1400 := by unfold sm_KL; omega
          omega
        have e9 := sm_stk (S := S) (b := b) (n := n) (st := st)
        rw [hdr, List.map_cons, sm_ref k3] at e9
        have hpre := sm_pre (z0 := z0) (as := .inr (.inl a) :: (st.take n).reverse) hR hH hK hZ hS
        rw [List.map_cons, sm_ref k3] at hpre
        have hM := sm_met hCT
        rw [List.map_cons, sm_ref k3] at hM
        have hlen : ((st.take n).reverse.map (sm_v S b)).length = n := by simp; omega
        have cw := vx_cwVW (R := R) (rm := sm_room d μ μ2) (mc := sz μ2 - sz μ) (ms := sl μ2 - sl μ) (own := (M m).1.cls) (index := idx) (C := C) n hts (sm_goodC (by intro w hw; simp only [List.mem_cons, List.not_mem_nil, or_false] at hw; rcases hw with rfl | rfl | rfl | rfl <;> assumption) (sm_goodM h4)) hws rfl rfl hdv ⟨hfr, hlo9⟩
        exact sm_goes (vx_runVW (cc := (M m).2.1) (nL := (M m).2.2.1) (own := (M m).1.cls) (b := sm_adr S b a) (As := (st.take n).reverse.map (sm_v S b)) (rest := r.map (sm_v S b)) ⟨hx, hb, hml9, hown, hts⟩ hM cw ⟨sm_blind, hrec, hpre⟩ rfl hlen (by rw [← hL]; exact hl.size) e9 (lv_room (sm_cat4 hc9.2.2.1)) hd ⟨by omega, by omega⟩) hS hl hz hn hm1 hm2 hW rfl
      · obtain ⟨j, x, h9, -⟩ := hW
        cases h9
    · cases h
  · cases h
/-- a handler for exception k at the call of byte pc: the row of the table that takes it, the rows ahead that don't, the store behind it into local x, the place j where it goes on -/
def sm_hd (q : SMeth) (pcs : Nat → Nat) (pc k j x : Nat) : Prop := ∃ (pre : List ExceptionTableEntry) (row : ExceptionTableEntry) (suf : List ExceptionTableEntry), tableOf q.2.2.2.2 = pre ++ row :: suf ∧ covers row pc = true ∧ row.catchType ≠ 0 ∧ Cond.classLink q.1.cls row.catchType (sm_exn k) ∈ lw_g ∧ Cond.castable (sm_exn k) (sm_exn k) ∈ lw_n ∧
  (∀ z ∈ pre, z.catchType ≠ 0 ∧ k = 0 ∧ Cond.classLink q.1.cls z.catchType "java/lang/IllegalArgumentException" ∈ lw_g) ∧ ((decode q.2.1 row.handlerPc = .ok (.astore x, 2) ∧ pcs j = row.handlerPc + 2) ∨ (∃ k9 : Fin 4, (k9 : Nat) = x ∧ decode q.2.1 row.handlerPc = .ok (.astore_n k9, 1) ∧ pcs j = row.handlerPc + 1))
theorem sm_L.forget {ls' : Array Slot} {L : SL} {x : Nat} {lv : List (Nat × Value)} (h2 : ∀ i v, L[i]? = some (some v) → (i, sm_v S b v) ∈ lv) (hn : snol L x = true) {v9 : Value}
    (h : lv_has ls' L.length ((x, v9) :: lv.filter (fun q => !(q.1 == x) && !(q.1 + 1 == x && q.2.category == 2)))) : sm_L S b ls' (L.set x none) := by
  refine ⟨_, by rw [List.length_set]; exact h, fun j w hj => ?_⟩
  rw [List.getElem?_set] at hj
  by_cases hij : x = j
  · rw [if_pos hij] at hj
    split at hj <;> cases hj
  · rw [if_neg hij] at hj
    refine List.mem_cons_of_mem _ (List.mem_filter.mpr ⟨h2 j w hj, ?_⟩)
    have h3 : (j == x) = false := by simpa using fun e => hij e.symm
    by_cases hj1 : j + 1 = x
    · have h4 := snol_ne (S := S) (b := b) hn hj hj1
      simp [h3, h4]
    · have h5 : (j + 1 == x) = false := by simpa using hj1
      simp [h3, h5]
theorem sm_catch {p : Program} {e : Env} {R : Room} {s : State} {mm : MethodId} {args : Array Value} {below : List Frame} {meth : Method} {c : Code} {Q : State → Prop} {z0 n0 k j x : Nat} {μ μ2 : SMem} {L : SL} {H : Heap} {locs : List Loc} {ls : Array Slot} {st0 rest9 : List Value} {a9 : Array Value}
    (hx : p.tables.exec = Jvm.exec) (hb : c.code = (M m).2.1) (hown : s.vm.findClass (M m).1.cls = some mm.cls) (hts : ∀ w ∈ lw_g, w.before args s = true) (htab9 : (((M m).1.cls ≠ "TakesAPageLaw" ∨ (M m).1.name ≠ "law") → c.exceptionTable.toList = tableOf (M m).2.2.2.2)) (hnl : (M m).1.cls ≠ "TakesAPageLaw" ∨ (M m).1.name ≠ "law") (hZ : sm_Z S s s.heap)
    (hr : vx_Run p l e R s mm args below meth c H locs (sz μ - z0) (sl μ - n0) (sz μ2 - sz μ) (sl μ2 - sl μ) (F0 mm (pcs i) ls st0) rest9 (sm_CQ S b Lx xs dC dI cA (.inr k) μ2 a9) (sm_CX S b Lx xs dC dI cA (.inr k) μ2) (sm_A S)) (hS : va_S (sm_A S) s.heap H locs) (hl : sm_L S b ls L) (hn9 : snol L x = true) (hxl : x < L.length) (h1 : z0 ≤ sz μ) (h2 : n0 ≤ sl μ) (h3 : sz μ ≤ sz μ2) (h4 : sl μ ≤ sl μ2)
    (hh : sm_hd (M m) pcs (pcs i) k j x) (hW : sm_W S b Lx xs dC dI cA p l e R s mm args below meth c Q z0 n0 (pcs j) (L.set x none) [] μ2) : W p l e R s mm args below meth c H locs (sz μ - z0) (sl μ - n0) Q (F0 mm (pcs i) ls st0) := by
  obtain ⟨pre, row, suf, t1, t2, t3, t4, t5, t6, t7⟩ := hh
  have htab := htab9 hnl
  intro T hT X9
  rcases hr T hT X9 with ⟨v', st₀, t, T', L', h0, X', hL, e1, e2, ⟨v2, hv2, -⟩, st⟩ | ⟨q, st₀, t, T', L', E, ce, h0, X', hL, e1, e2, ⟨k2, hk2, hE, hR2, hF⟩, hce, hcv, hcl, st⟩
  · cases hv2
  · cases hk2
    subst hE
    have hS2 := (vx_keep h0 e1 hS (fun q _ h => h) (fun q h => h) hL hF).2.2
    rw [show sz μ - z0 + (sz μ2 - sz μ) = sz μ2 - z0 by omega, show sl μ - n0 + (sl μ2 - sl μ) = sl μ2 - n0 by omega] at X'
    have hcat : vx_W p l e R s mm args below meth c T'.heap (locs ++ L') (sz μ2 - z0) (sl μ2 - n0) Q (F0 mm (pcs i) ls rest9) q := by
      refine vx_catch (own := (M m).1.cls) (name := sm_exn k) (E := sm_exn k) (ce := ce) hown pre row suf (by rw [htab]; exact t1) (fun z hz => Or.inr ⟨(t6 z hz).1, _, hts _ (t6 z hz).2.2, by rw [(t6 z hz).2.1]; exact hZ.2.2.2.2.2.1⟩) t2 t3 (hts _ t4) (hZ.nw t5) (by rw [e1]; exact hce) hcv hcl ?_
      obtain ⟨lv, hl1, hl2⟩ := hl
      rcases t7 with ⟨d1, d2⟩ | ⟨k9, d0, d1, d2⟩
      · refine lv_astore hx hb d1 hl1 hxl rfl fun ls' hl' => ?_
        have hk := hW T'.heap (locs ++ L') ls' (by rw [e1]; exact hR2) hS2 (sm_L.forget hl2 hn9 hl')
        rwa [d2] at hk
      · refine lv_astore_n hx hb d1 d0 hl1 hxl rfl fun ls' hl' => ?_
        have hk := hW T'.heap (locs ++ L') ls' (by rw [e1]; exact hR2) hS2 (sm_L.forget hl2 hn9 hl')
        rwa [d2] at hk
    obtain ⟨t2, a1, b1⟩ := hcat T' rfl X'
    exact ⟨t2, st.trans a1, b1⟩
/-- an inherited method, that may throw -/
theorem sm_runUX {p : Program} {e : Env} {R : Room} {s : State} {mm : MethodId} {args : Array Value} {below : List Frame} {meth : Method} {c : Code} {H : Heap} {locs : List Loc} {cells slots : Nat} {x y : MethodName} {bytes cc : ByteArray} {maxL nL mc ms n index : Nat} {ret : Option FieldType} {ws : List Cond} {rm : Room} {Pc : Array Value → State → Prop} {Qc : Array Value → State → Outcome → State → Prop} {XC : String → State → State → Prop} {free : Addr → Prop} {Ts : List Cond} {own C owner : String} {b : Addr} {As rest : List Value} {g : JFrame}
    (S : CallFix p mm c cc nL s args Ts own) (hM : vx_Met l y ws rm Pc Qc XC mc ms free) (cw : va_CU R s args own C owner index x y bytes maxL ret ws rm mc ms n) (hp : PreV s H C b Pc As)
    (hg : g.method = mm) (hn : As.length = n) (hsize : g.locals.size = nL) (hstack : g.stack = As.reverse ++ .ref b :: rest) (hW : 2 * g.monitorRoom + (rest.map fun v => v.category).sum ≤ 8) (hdg : decode cc g.pc = .ok (.invokevirtual index, 3)) (hf : cells + mc ≤ R.cells ∧ slots + ms ≤ R.slots) :
    vx_Run p l e R s mm args below meth c H locs cells slots mc ms g rest (Qc (Value.ref b :: As).toArray) XC free := by
  obtain ⟨hrc, hrs, hfr, hlo, hws, hcw⟩ := cw.back
  have hini := cw.init
  have hK : vx_Back l R p e below s args y 3 8 (PreOf R mc ms Pc) (PostOf Qc mc ms free) (vx_Post XC mc ms free) := vx_back (bytes := bytes) (maxL := maxL) (ret := ret) hM hp.1 hrc hrs hfr hlo hws hcw (fun a' U hW => word_at hW (Or.inl (by first | rfl | simp [Cond.onTables, Cond.keeps, Cond.steady])) hini)
  obtain ⟨hx, hb, hml, ho, -⟩ := S
  obtain ⟨-, ⟨cellB, hcB, hoB, hclB⟩, hPc⟩ := hp
  obtain ⟨r0, r, hn9, hrm, hstR, hsigR⟩ := cw.decl
  obtain ⟨cn, ck, r1, hcn, hck, hni, hf9, hn1⟩ := Cond.sameMethod_found cw.same
  cases hn9.symm.trans hn1
  obtain ⟨mk, methM, hnamed, hmethM, -, habM⟩ := Cond.instanceMethod_spec cw.inst
  obtain ⟨c2, r2, m2, q1, q2, q3, q4, kP, hkP, hkPi⟩ := Cond.selects_spec cw.sel
  cases hclB.symm.trans q1
  cases hf9.symm.trans q2
  cases hnamed.symm.trans q3
  intro T hT X
  have hselP : selectMethod e.platform s.vm cellB.cls r0 = .method mk := by rw [Launch.admits_selectMethod X.admits]; exact q4
  obtain ⟨vm₁, X₁, hstep₁⟩ := X.invokevirtualUp hx ho cw.link cw.same cw.notMH hn9 hrm hstR (a := b) (cell := cellB) (by rw [hT]; exact hcB)
    (fun z h => by rw [h] at hoB; cases hoB) hselP hmethM habM hkP hkPi (g := g) hg (argsL := As) (rest := rest) (hn.trans (cw.len _ hsigR)) hstack (by rw [hb]; exact hdg)
  rcases hK mm meth c ⟨T.setVm vm₁, locs, cells, slots⟩ { g with stack := rest } (.invokevirtual index) mk (Value.ref b :: As).toArray X₁ hg (hsize.trans hml.symm) (by rw [hb]; exact hdg) hW (X₁.named hnamed) ⟨hf.1, hf.2, hPc (T.setVm vm₁) hT X₁.warmed⟩ with ⟨v, ⟨U', l2, c2, s2⟩, X', ⟨g', mk9, t, L, e1, e2, hq, h1, hL, h2, h3⟩, hsteps⟩ | ⟨q, ⟨U', l2, c2, s2⟩, X', ⟨g', mk9, t, L, E, ce, e1, e2, hq, hce, hcv, hcl, h1, hL, h2, h3⟩, hsteps⟩
  · dsimp only [Pt.U, Pt.locs, Pt.cells, Pt.slots] at X' e1 e2 h1 h2 h3 hsteps
    subst h1; subst h2; subst h3
    exact Or.inl ⟨v, (T.setVm vm₁).calling g' mk9 (Value.ref b :: As).toArray, t, U', L, hT, X', hL, e1, e2, hq, fun target h => hstep₁ _ fun acts => by rw [doInvoke_state]; exact hsteps.trans h⟩
  · dsimp only [Pt.U, Pt.locs, Pt.cells, Pt.slots] at X' e1 e2 h1 h2 h3 hsteps hcl
    subst h1; subst h2; subst h3
    exact Or.inr ⟨q, (T.setVm vm₁).calling g' mk9 (Value.ref b :: As).toArray, t, U', L, E, ce, hT, X', hL, e1, e2, hq, hce, hcv, vx_cls X₁.warmed hcl, hstep₁ _ fun acts => by rw [doInvoke_state]; exact hsteps⟩
theorem ok_invVH (hnl : (M m).1.cls ≠ "TakesAPageLaw" ∨ (M m).1.name ≠ "law") {D : Nat → Option (Nat × Nat)} {hs9 : List (Nat × Nat × Nat)} {n idx : Nat} (hD : ∀ t y ml, D t = some (y, ml) → sm_vc M (M m).1.cls idx n t y ∧ ml = (M y).2.2.1 ∧ ml ≤ 100 ∧ ∀ s, X y s) (hsl : ∀ L : SL, L.length = (M m).2.2.1 → ∀ k j x, shnd hs9 k = some (j, x) → x < L.length ∧ sm_hd (M m) pcs (pcs i) k j x) (hd : decode (M m).2.1 (pcs i) = .ok (.invokevirtual idx, 3)) (hp : pcs (i + 1) = pcs i + 3) : sm_OK l S b Lx xs dC dI cA M X m pcs i (s_invVH D hs9 n) := by
  intro L st μ cmd h hL
  unfold s_invVH at h
  split at h
  · next hsn =>
    unfold s_invV at h
    split at h
    · next a r hdr =>
      split at h
      · next y ml hD9 =>
        split at h
        · next hc9 =>
          cases h
          obtain ⟨⟨C, T, N, e1, h3, h4, h5, hq, hcs⟩, hml, hm9, hXy⟩ := hD _ _ _ hD9
          refine ⟨rfl, rfl, by rw [← hml]; exact hc9.2.2, hXy, fun p e R s mm args below meth c Q z0 n0 hF hX hz hn d res μ2 hfr hlo hCT hm1 hm2 hc hs hW H locs ls hR hS hl => ?_⟩
          obtain ⟨hx, hb, hml9, hown, hts, -, -, hK, hs0, -, htab, hZ, -, -⟩ := hF
          subst hml
          refine sm_size hR hs0 hz fun hH => ?_
          obtain ⟨f1, f2⟩ := sm_nf_of e1
          obtain ⟨k1, k2, k3, qv, hqv⟩ := hR.get (a := a) (by omega)
          rw [sm_ent_o rfl f2, f1] at hqv
          have hrec := va_recv hK hR.1 e1 hqv
          have hws : sm_wsM (M y) = Cond.code (M y).1 (M y).2.1 (M y).2.2.1 (M y).2.2.2.1 :: lw_g := by unfold sm_wsM sm_ws1; rw [if_pos hq]
          have hlo9 : 8 + ((M y).2.2.1 + 11) + (d + 1) * sm_KL ≤ R.locals := by
            have : (d + 2) * sm_KL = (d + 1) * sm_KL + 1400 := by unfold sm_KL; omega
            omega
          have e9 := sm_stk (S := S) (b := b) (n := n) (st := st)
          rw [hdr, List.map_cons, sm_ref k3] at e9
          have hpre := sm_pre (z0 := z0) (as := .inr (.inl a) :: (st.take n).reverse) hR hH hK hZ hS
          rw [List.map_cons, sm_ref k3] at hpre
          have hlen : ((st.take n).reverse.map (sm_v S b)).length = n := by simp; omega
          have hM : vx_Met l (M y).1 (sm_wsM (M y)) (sm_room d μ μ2) _ _ _ _ _ _ := hCT
          rw [List.map_cons, sm_ref k3] at hM
          have hrun : vx_Run p l e R s mm args below meth c H locs (sz μ - z0) (sl μ - n0) (sz μ2 - sz μ) (sl μ2 - sl μ) (F0 mm (pcs i) ls (st.map (sm_v S b))) (r.map (sm_v S b)) (sm_CQ S b Lx xs dC dI cA res μ2 (Value.ref (sm_adr S b a) :: (st.take n).reverse.map (sm_v S b)).toArray) (sm_CX S b Lx xs dC dI cA res μ2) (sm_A S) := by
            rcases hcs with ⟨j1, j2, j3, j4⟩ | ⟨x, owner, j1, j2, j3, j4, j5, j6, j7⟩
            · have cw := cwV (R := R) (rm := sm_room d μ μ2) (mc := sz μ2 - sz μ) (ms := sl μ2 - sl μ) (own := (M m).1.cls) (index := idx) (C := C) n hts (sm_goodC (by intro w hw; simp only [List.mem_cons, List.not_mem_nil, or_false] at hw; rcases hw with rfl | rfl | rfl | rfl <;> first | assumption | (rw [← j1]; assumption)) (sm_goodM h4)) hws rfl rfl ⟨j1, j4⟩ ⟨hfr, hlo9⟩
              exact vx_runV (cc := (M m).2.1) (nL := (M m).2.2.1) (own := (M m).1.cls) (b := sm_adr S b a) (As := (st.take n).reverse.map (sm_v S b)) (rest := r.map (sm_v S b)) ⟨hx, hb, hml9, hown, hts⟩ hM cw ⟨sm_blind, hrec, hpre⟩ rfl hlen (by rw [← hL]; exact hl.size) e9 (lv_room (sm_cat4 hc9.2.1)) hd ⟨by omega, by omega⟩
            · have cw : va_CU R s args (M m).1.cls C owner idx x (M y).1 (M y).2.1 (M y).2.2.1 (M y).2.2.2.1 (sm_wsM (M y)) (sm_room d μ μ2) (sz μ2 - sz μ) (sl μ2 - sl μ) n := by
                rcases j7 with j7 | ⟨j7, b0, m0, r0, j8⟩
                · exact va_cwU n hts (sm_goodC (by intro w hw; simp only [List.mem_cons, List.not_mem_nil, or_false] at hw; rcases hw with rfl | rfl | rfl | rfl | rfl <;> assumption) (sm_goodM h4)) hws rfl rfl j7 ⟨j4, j5, j6⟩ ⟨hfr, hlo9⟩
                · exact va_cwO n hts (sm_goodC (by intro w hw; simp only [List.mem_cons, List.not_mem_nil, or_false] at hw; rcases hw with rfl | rfl | rfl | rfl | rfl | rfl <;> assumption) (sm_goodM h4)) hws rfl rfl j8 ⟨j4, j5, j6⟩ ⟨hfr, hlo9⟩
              exact sm_runUX (cc := (M m).2.1) (nL := (M m).2.2.1) (own := (M m).1.cls) (b := sm_adr S b a) (As := (st.take n).reverse.map (sm_v S b)) (rest := r.map (sm_v S b)) ⟨hx, hb, hml9, hown, hts⟩ hM cw ⟨sm_blind, hrec, hpre⟩ rfl hlen (by rw [← hL]; exact hl.size) e9 (lv_room (sm_cat4 hc9.2.1)) hd ⟨by omega, by omega⟩
          rcases res with v | k
          · dsimp only at hW
            rw [hp] at hW
            refine sm_goes (a9 := (Value.ref (sm_adr S b a) :: (st.take n).reverse.map (sm_v S b)).toArray) (fun T hT X => ?_) hS hl hz hn hm1 hm2 hW rfl
            rcases hrun T hT X with h9 | ⟨q, st₀, t, T', L', E, ce, h0, X', hL, e1, e2, ⟨k2, hk2, -⟩, -⟩
            · exact h9
            · cases hk2
          · obtain ⟨j, x, h9, hW9⟩ := hW
            obtain ⟨hxl, hhd⟩ := hsl L hL k j x h9
            have hsn9 : snol L x = true := by
              have : ∀ (hs : List (Nat × Nat × Nat)), hs.all (fun q => snol L q.2.2) = true → shnd hs k = some (j, x) → snol L x = true := by
                intro hs
                induction hs with
                | nil => intro _ h; cases h
                | cons q t ih =>
                  obtain ⟨k0, j0, x0⟩ := q
                  intro ha h
                  rw [List.all_cons, Bool.and_eq_true] at ha
                  unfold shnd at h
                  split at h
                  · cases h; exact ha.1
                  · exact ih ha.2 h
              exact this hs9 hsn h9
            exact sm_catch hx hb hown hts htab hnl hZ hrun hS hl hsn9 hxl hz hn hm1 hm2 hhd hW9
        · cases h
      · cases h
    · cases h
  · cases h
end SMCALL2
