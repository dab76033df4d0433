/-! The catch, by a table of one row; the law's helpers of(..) and row(..). -/
theorem th_go {Q : Handler → Pre} {E : CtlPost} {e : Env} {d : Bool} {acts : List Action} {s : State} {f : JFrame} {a : Addr} {x : ExceptionTableEntry} {k : ClassId} {cell : Cell} (hx : covers x f.pc = true) (h0 : x.catchType ≠ 0)
    (hl : s.vm.ClassLinks e.platform f.method.cls x.catchType k) (hcell : s.heap[a]? = some cell) (hobj : ∀ j, cell.vm ≠ .statics j) (h1 : ∃ j, s.vm.classes[cell.cls]? = some j) (h2 : ∃ j, s.vm.classes[k]? = some j) (hfit : s.vm.assignable cell.cls k = true) :
    wp (findHandler.go f a [x]) Q E e d acts s ↔ Q (.found x.handlerPc) d acts (s.setVm (s.vm.noted f.method.cls x.catchType (.cls k))) := by
  obtain ⟨ha, ht⟩ := (resolveClass_links e.toSetting hl).op (op := VmOp.resolveClass f.method.cls x.catchType) rfl
  have hal : s.vm.Alike (s.vm.noted f.method.cls x.catchType (.cls k)) := (Vm.Alike.refl s.vm).noted _ _ _
  obtain ⟨j1, e1⟩ := h1
  obtain ⟨j2, e2⟩ := h2
  obtain ⟨i1, g1, -⟩ := hal.2.2 _ _ e1
  obtain ⟨i2, g2, -⟩ := hal.2.2 _ _ e2
  have hfit' : (s.vm.noted f.method.cls x.catchType (.cls k)).assignable cell.cls k = true := by rw [hal.assignable]; exact hfit
  simp only [covers] at hx
  simp [findHandler.go, hx, h0, ha, ht, hcell, hobj, g1, g2, hfit', VmOp.dirties, VmOp.acts]
theorem th_catch {p : Program} {l : Launch} {e : Env} {R : Room} {s : State} {m : MethodId} {args : Array Value} {below : List Frame} {meth : Method} {c : Code} {H : Heap} {locs : List Loc} {cells slots pc : Nat} {Q : State → Prop} {ls : Array Slot} {rest : List Value} {own name E : String} {ce : Cell} {q : Addr}
    (hown : s.vm.findClass own = some m.cls) (x : ExceptionTableEntry) (htab : c.exceptionTable.toList = [x]) (hx : covers x pc = true) (h0 : x.catchType ≠ 0)
    (hlink : (Cond.classLink own x.catchType name).before args s = true) (hcast : (Cond.castable E name).before args s = true) (hcell : H[q]? = some ce) (hv : ce.vm = .none) (hcl : s.vm.findClass E = some ce.cls)
    (kk : W p l e R s m args below meth c H locs cells slots Q (F0 m x.handlerPc ls [.ref q])) : vx_W p l e R s m args below meth c H locs cells slots Q (F0 m pc ls rest) q := by
  intro T hT X
  have hpl : e.platform.magicAccessors = ({} : Platform).magicAccessors := by rw [X.admits.platform]
  obtain ⟨c3, c4, hc3, hc4, hasg⟩ := Cond.castable_spec hcast
  cases Option.some.inj (hc3.symm.trans hcl)
  obtain ⟨c5, hc5, hcl5⟩ := Cond.classLink_spec hown hlink e.platform hpl
  cases Option.some.inj (hc4.symm.trans hc5)
  have hW := X.warmed
  obtain ⟨k0, hk0, -⟩ := Vm.findClass_spec hcl
  obtain ⟨dk, _, _, kt, hd, _, _, _, _, hkt, _, hopen⟩ := hcl5.here
  obtain ⟨k0', hk0', -⟩ := hW.alike.2.2 _ _ hk0
  obtain ⟨kt', hkt', -⟩ := hW.alike.2.2 _ _ hkt
  have hW' := hW.noted hd hopen (State.rightAt_cls hcl5)
  obtain ⟨vm', hvm'⟩ : ∃ v, v = T.vm.noted m.cls x.catchType (.cls c4) := ⟨_, rfl⟩
  rw [← hvm'] at hW'
  have hcT : T.heap[q]? = some ce := by rw [hT]; exact hcell
  have hfind : ∀ (Q : Handler → Pre) (E : CtlPost) (d : Bool) (acts : List Action), wp (findHandler (F0 m pc ls rest) q) Q E e d acts ((T.setTop (F0 m pc ls rest)).pushFrame (.throwing q)) ↔ Q (.found x.handlerPc) d acts (((T.setTop (F0 m pc ls rest)).pushFrame (.throwing q)).setVm vm') := by
    intro Q E d acts
    have hS : ((T.setTop (F0 m pc ls rest)).pushFrame (.throwing q)).vm = T.vm := throwing_vm T _ q
    have hH : ((T.setTop (F0 m pc ls rest)).pushFrame (.throwing q)).heap = T.heap := throwing_heap T _ q
    rw [W.findHandler_eq (meth := meth) (code := c) (by rw [hS]; exact X.method') X.code, htab]
    have := th_go (Q := Q) (E := E) (e := e) (d := d) (acts := acts) (s := (T.setTop (F0 m pc ls rest)).pushFrame (.throwing q)) (f := F0 m pc ls rest) (a := q) (x := x) (k := c4) (cell := ce) hx h0 (by rw [hS]; exact hW.classLinks hcl5) (by rw [hH]; exact hcT) (VmData.ne_statics_of (by rw [hv]; rfl)) (by rw [hS]; exact ⟨k0', hk0'⟩) (by rw [hS]; exact ⟨kt', hkt'⟩) (by rw [hS, hW.alike.assignable]; exact hasg)
    rw [hS] at this
    rw [hvm']
    exact this
  obtain ⟨t, a1, b1⟩ := kk (T.setVm vm') hT (X.noted hW')
  refine ⟨t, ?_, b1⟩
  obtain ⟨hgo, hw⟩ := X.here.throwing (g := F0 m pc ls rest) q
  refine Steps.head hgo hw ?_
  have hstep : (stepThrowing e ((T.setTop (F0 m pc ls rest)).pushFrame (.throwing q)) q (.java (F0 m pc ls rest) :: below)).Is ((((T.setTop (F0 m pc ls rest)).pushFrame (.throwing q)).setVm vm').setFrames (.java { F0 m pc ls rest with pc := x.handlerPc, stack := [.ref q] } :: below)) [] := by
    simp only [stepThrowing, searchFrame, vmDo]
    generalize hr : Sem.go _ e false [] _ = res
    obtain ⟨as, rfl, ha⟩ := Sem.eq_ok_of hr (a := Handler.found x.handlerPc) (s' := ((T.setTop (F0 m pc ls rest)).pushFrame (.throwing q)).setVm vm') (acts' := []) (by simp [hfind _ _ _ _])
    exact ⟨rfl, ha⟩
  obtain ⟨g₁, hfr⟩ := X.frames_eq
  have hst : ((T.setTop (F0 m pc ls rest)).pushFrame (.throwing q)).frames = .throwing q :: .java (F0 m pc ls rest) :: below := by rw [frames_entered X.here.top, hfr]; rfl
  rw [stepThread_throwing hst, hstep.1]
  have hfr' : (T.setVm vm').frames = .java g₁ :: below := hfr
  rw [State.setTop_of_frames _ hfr'] at a1
  have e2 : ∀ F G : List Frame, ((T.setFrames F).setVm vm').setFrames G = (T.setVm vm').setFrames G := fun F G => by
    rw [show (T.setFrames F).setVm vm' = (T.setVm vm').setFrames F from rfl, State.setFrames_setFrames]
  rw [State.pushFrame, State.setTop_of_frames _ hfr, State.setFrames_setFrames, e2]
  exact a1
def hp_ws (mi : MI) (hh : List (Nat × Nat × Nat × Nat)) : List Cond := Cond.codeWith mi.1 mi.2.1 mi.2.2.1 mi.2.2.2 hh :: lwg
def HX (l : Launch) (D : va_G) (cy : Nat → ClassId) (d : Nat) (sa : Nat → Nat) (mi : MI) (hh : List (Nat × Nat × Nat × Nat)) (args : List Value) (L : List Nat) (Sh : Nat → Shp) (M : Mem) (J : Mej) (Post : PST) : Prop :=
  ∀ sz, Met l mi.1 (hp_ws mi hh) (fr_rm d 1 6) (th_Pc D cy sa args L Sh M J sz) (fr_Q D cy Post (va_A (va_pl L (fr_E cy Sh M J)) sz)) 1 6 (va_A (va_pl L (fr_E cy Sh M J)) sz)
def hp_Xt (sa : Nat → Nat) (A : Nat → Prop) (hh : List (Nat × Nat × Nat × Nat)) : GXt := fun s _ c => c.exceptionTable.toList = tableOf hh ∧ th_K sa s ∧ th_Z A s s.heap
def hp_Qt (D : va_G) (cy : Nat → ClassId) (Post : PST) (A : Nat → Prop) : GQt := fun below args s => MQ below (fr_Q D cy Post A) args s 1 6 A
theorem Met.ofWX {l : Launch} {y : MethodName} {ws ws' : List Cond} {rm : Room} {Pc : Array Value → State → Prop} {Qc : Array Value → State → Outcome → State → Prop} {mc ms : Nat} {free : Addr → Prop} {cc : ByteArray} {maxL : Nat} {ret : Option FieldType} {hh : List (Nat × Nat × Nat × Nat)}
    (hy : plainName y.cls = true) (hw : ws = Cond.codeWith y cc maxL ret hh :: ws')
    (body : ∀ p e s m args below meth c s₁, BodyLoose p l y (headSpec ws rm) cc maxL ret e s m args below meth c s₁ → c.maxLocals = maxL → Pc args s →
      W p l e (headSpec ws rm).room s m args below meth c s.heap [] 0 0 (MQ below Qc args s mc ms free) (entryFrame m args maxL)) : Met l y ws rm Pc Qc mc ms free := by
  refine MetFree.of_bodyS (code := cc) (maxLocals := maxL) (ret := ret) hy ?_ ?_
  · intro args s m h hn
    obtain ⟨m9, meth, c, hn9, h1, h2, h3, h4, -, h5, h6, -⟩ := Cond.codeWith_spec (atoms_spec (ws := ws) h _ (by rw [hw]; exact List.mem_cons_self))
    cases hn.symm.trans hn9
    exact ⟨meth, c, h1, h2, h3, h4, h5, h6⟩
  · intro p e s m args below meth c s₁ B hml hP _
    have hh0 : s₁.heap = s.heap := by rw [B.state]; rfl
    obtain ⟨t, a1, o, b1, b2, b3⟩ := body p e s m args below meth c s₁ B hml hP s₁ hh0 (Stand.of_body B)
    exact ⟨t, o, a1, b1, b2, ⟨b3.1, b3.2⟩⟩
theorem HX.start {l : Launch} {D : va_G} {cy : Nat → ClassId} {d : Nat} {sa : Nat → Nat} {mi : MI} {hh : List (Nat × Nat × Nat × Nat)} {args : List Value} {L : List Nat} {Sh : Nat → Shp} {M : Mem} {J : Mej} {Post : PST} (lv : LV) (hy : plainName mi.1.cls = true) (hlen : (lg_sl args).length ≤ mi.2.2.1) (hlv : lv_args 0 args = lv)
    (k : ∀ A, EG l D cy (fr_rm d 1 6) mi (hp_ws mi hh) (fun _ => A) (hp_Xt sa A hh) (hp_Qt D cy Post A) 0 0 0 lv [] L Sh M J) : HX l D cy d sa mi hh args L Sh M J Post := by
  intro sz
  refine Met.ofWX (cc := mi.2.1) (maxL := mi.2.2.1) (ret := mi.2.2.2) (hh := hh) hy rfl ?_
  intro p e s m args' below meth c s₁ B hml hv
  obtain ⟨⟨rfl, hsz, hP, hK, hD0, hN⟩, hk, hz⟩ := hv
  have hts := atoms_spec (ws := hp_ws mi hh) B.pre
  have hown : s.vm.findClass mi.1.cls = some m.cls := findClass_of_methodNamed B.named
  subst hsz
  have hD := hD0.self (sz := s.heap.size)
  have hl := lv_entry args (n := mi.2.2.1) hlen
  rw [hlv] at hl
  rw [lg_entry_eq]
  exact k _ p e s m args.toArray below meth c s.heap [] _ ⟨⟨B.exec, B.bytes, B.returns, hml, hts, hown, B.notSynchronized, fun w h => List.mem_cons_of_mem _ h, hK, hN, fun q h => Or.inr h⟩, vx_table (x := mi.1) B (hts _ List.mem_cons_self), hk, hz⟩ hP hD va_S.rf hl
section HROWS
variable {l : Launch} {D : va_G} {cy : Nat → ClassId} {R : Room} {mi : MI} {Ts : List Cond} {A : State → Nat → Prop} {Xt : GXt} {Q : GQt} {cells slots pc n : Nat} {lv : LV} {st rest : List Value} {L : List Nat} {Sh : Nat → Shp} {M : Mem} {J : Mej}
theorem H_iret {d : Nat} {A0 : Nat → Prop} {Post : PST} {v : Int32} (hd : decode mi.2.1 pc = .ok (.ireturn, 1)) (hr : mi.2.2.2 = some .int) (hc : cells ≤ 1) (hs : slots ≤ 6) (hp : Post (some (.int v)) L Sh M J) : EG l D cy (fr_rm d 1 6) mi Ts (fun _ => A0) Xt (hp_Qt D cy Post A0) cells slots pc lv [.int v] L Sh M J := by
  intro p e s m args below meth c H locs ls X hP hD hS hl
  exact W.widen hc hs (W.iret X.1.1 X.1.2.1 (X.1.2.2.1.trans hr) (fun t ht hW => ⟨⟨some (.int v), L, Sh, M, J, rfl, hp, by rw [ht]; exact hP, va_K.moved hW.alike X.1.2.2.2.2.2.2.2.2.1, hD⟩, hS.F ht⟩) hS.2.2 hd X.1.2.2.2.2.2.2.1)
/-- a call that throws, caught here -/
theorem G_callX {mj : MI} {b ci idx na d1 : Nat} {sa : Nat → Nat} {rf : Nat → Option Nat} {x : ExceptionTableEntry} (As : List Value) (hd : decode mi.2.1 pc = .ok (.invokevirtual idx, 3)) (hw : fr_mlink mi.1.cls idx mj (fr_RR ci) na) (hci : ci < 5) (hb : fr_at L Sh b (.inl (ci, rf))) (hst : As.reverse ++ .ref b :: rest = st) (hlen : As.length = na) (hroom : (rest.map fun v => v.category).sum ≤ 8)
    (hM : TX l D cy d1 sa mj (.ref b :: As) L Sh M J) (hd1 : d1 + 1 ≤ R.frames) (hlo : 100 * d1 + 99 ≤ R.locals) (hc : cells + 1 ≤ R.cells) (hs : slots + 6 ≤ R.slots)
    (hXt : ∀ s args c, Xt s args c → c.exceptionTable.toList = [x] ∧ th_K sa s ∧ th_Z (A s) s s.heap) (hx : covers x pc = true) (h0 : x.catchType ≠ 0) (hlk : Cond.classLink mi.1.cls x.catchType nse ∈ lwg) (hn : x.handlerPc = n)
    (K : ∀ q9, EG l D cy R mi Ts A Xt Q (cells + 1) (slots + 6) n lv [.ref q9] L Sh M J) : EG l D cy R mi Ts A Xt Q cells slots pc lv st L Sh M J := by
  subst hn
  subst hst
  intro p e s m args below meth c H locs ls X hP hD hS hl
  obtain ⟨htab, hk, hz⟩ := hXt s args c X.2
  obtain ⟨q, hq⟩ := fr_place (cy := cy) (Sh := Sh) (M := M) (J := J) hb.1
  rw [fr_E_obj hb.2] at hq
  have hF := fr_free hD hS X.1.2.2.2.2.2.2.2.2.2.2
  refine vx_calli (vx_runV (As := As) (rest := rest) (Ts := Ts) ⟨X.1.1, X.1.2.1, X.1.2.2.2.1, X.1.2.2.2.2.2.1, X.1.2.2.2.2.1⟩ (hM H.size) (cwV na X.1.2.2.2.2.1 (g_good X.1.2.2.2.2.2.2.2.1 (g_wsV hw)) rfl rfl rfl hw.2.2.2.2.2.1 (g_room hd1 hlo hw.2.2.2.2.2.2)) ⟨th_blind, va_recv X.1.2.2.2.2.2.2.2.2.1 hP (fr_cl hci) hq, fun U hU hW => ⟨⟨rfl, by rw [hU], by rw [hU]; exact hP, va_K.moved hW.alike X.1.2.2.2.2.2.2.2.2.1, hD.weaken (fun _ _ _ _ => trivial), fr_NW.warm hW X.1.2.2.2.2.2.2.2.2.2.1⟩, hk.warm hW, by rw [hU]; exact hz.go hS.2.1 hW.alike hF⟩⟩ rfl hlen hl.1 rfl (lv_room hroom) hd ⟨hc, hs⟩) hS (fun q _ h => hF q h) hF (fun q _ h => hF q h) (fun E ce q9 u t H1 locs1 ht hvm _ hBX hz1 hk1 hS1 hce hcv hcl => ?_) (fun r u t H1 locs1 ht hvm hf _ _ _ _ => hf.elim)
  obtain ⟨rfl, hP1, hK1, hD1⟩ := hBX
  rw [ht] at hP1
  exact th_catch X.1.2.2.2.2.2.1 x htab hx h0 (X.1.2.2.2.2.1 _ (X.1.2.2.2.2.2.2.2.1 _ hlk)) (va_Nw.use rfl (hk.2.2.2 _ th_cb)) hce hcv hcl (K q9 _ _ _ _ _ _ _ _ _ _ _ X hP1 (hD1.weaken (fun k q _ h => hF q.1 h)) hS1 hl)
end HROWS
abbrev mL_of : MI := (yL_of, cL_of, 5, some .int)
abbrev mL_row : MI := (yL_row, cL_row, 4, some .int)
abbrev hh_of : List (Nat × Nat × Nat × Nat) := [(0, 10, 13, 13)]
abbrev hh_row : List (Nat × Nat × Nat × Nat) := [(0, 9, 12, 13)]
abbrev outS : Shp := .inr (.inl (2, 1))
/-- what a helper answers: v in the row and 0, or 1 -/
def PH (L : List Nat) (Sh : Nat → Shp) (qi : Nat → Nat) (N : Mem) (r : Int32) (K1 : Mej) : PST := fun r1 L1 Sh1 M1 J1 => r1 = some (.int r) ∧ L1 = L ∧ Sh1 = Sh ∧ M1 = km qi N ∧ J1 = kj qi K1
set_option maxRecDepth 100000 in
theorem h_of_ret {l : Launch} {D : va_G} {cy : Nat → ClassId} {sa : Nat → Nat} {S : GS} {N : Mem} {K : Mej} (R : RX S N K) (w : WF S) {x y : Int32} (ho : (o_of S x y).2 = false) {L : List Nat} {Sh : Nat → Shp} {q qi : Nat → Nat} (hW : WOK L Sh q qi) (hout : fr_at L Sh (q 99) outS) :
    HX l D cy 20 sa mL_of hh_of [.ref (q 0), .int x, .int y, .ref (q 99)] L Sh (km qi N) (kj qi K) (PH L Sh qi N (nI 0) (sJ K 99 0 (o_of S x y).1.toInt64)) := by
  refine HX.start [(0, .ref (q 0)), (1, .int x), (2, .int y), (3, .ref (q 99))] (by decide +kernel) (Nat.le_of_ble_eq_true rfl) rfl (fun A => ?_)
  refine G_aload_n dL_of_0 rfl rfl ?_
  refine G_iconst (v := nI 0) dL_of_1 (by decide) rfl ?_
  refine G_aload_n dL_of_2 rfl rfl ?_
  refine G_iload_n dL_of_3 rfl rfl ?_
  refine G_iload_n dL_of_4 rfl rfl ?_
  refine G_callK (i := 0) (ci := 3) (d1 := 10) (rest := [.int (nI 0), .ref (q 99)]) [.int x, .int y] dL_of_5 ml_L_7 (by decide) hW rfl rfl rfl rfl (Nat.le_of_ble_eq_true rfl) (c_X3_of (by decide) R w ho) (by decide) (by decide) (Nat.zero_le _) (Nat.zero_le _) rfl ?_
  rintro r N1 K1 ⟨rfl, rfl, rfl⟩
  refine G_st (st' := [.int (o_of S x y).1, .int (nI 0), .ref (q 99)]) rfl rfl ?_
  refine G_i2l dL_of_8 rfl ?_
  refine G_last dL_of_9 hout (by decide) (by decide) rfl ?_
  rw [kj_set hW (by decide)]
  refine G_goto (tgt := 17) dL_of_10 (by decide) ?_
  refine G_iconst (v := nI 0) dL_of_17 (by decide) rfl ?_
  exact H_iret dL_of_18 rfl (Nat.zero_le _) (Nat.zero_le _) ⟨rfl, rfl, rfl, rfl, rfl⟩
set_option maxRecDepth 100000 in
theorem h_of_thr {l : Launch} (htr : l.stackTraces = false) {D : va_G} {cy : Nat → ClassId} {sa : Nat → Nat} {S : GS} {N : Mem} {K : Mej} (R : RX S N K) (w : WF S) {x y : Int32} (ho : (o_of S x y).2 = true) {L : List Nat} {Sh : Nat → Shp} {q qi : Nat → Nat} (hW : WOK L Sh q qi) :
    HX l D cy 20 sa mL_of hh_of [.ref (q 0), .int x, .int y, .ref (q 99)] L Sh (km qi N) (kj qi K) (PH L Sh qi N (nI 1) K) := by
  refine HX.start [(0, .ref (q 0)), (1, .int x), (2, .int y), (3, .ref (q 99))] (by decide +kernel) (Nat.le_of_ble_eq_true rfl) rfl (fun A => ?_)
  refine G_aload_n dL_of_0 rfl rfl ?_
  refine G_iconst (v := nI 0) dL_of_1 (by decide) rfl ?_
  refine G_aload_n dL_of_2 rfl rfl ?_
  refine G_iload_n dL_of_3 rfl rfl ?_
  refine G_iload_n dL_of_4 rfl rfl ?_
  refine G_callX (d1 := 10) (ci := 3) (sa := sa) (x := ⟨0, 10, 13, 13⟩) (rest := [.int (nI 0), .ref (q 99)]) [.int x, .int y] dL_of_5 ml_L_7 (by decide) (hW.2.2 0 _ rfl).2 rfl rfl (Nat.le_of_ble_eq_true rfl) (t_X3_of htr (by decide) R w ho hW) (by decide) (by decide) (Nat.le_refl _) (Nat.le_refl _) (fun s args c h => h) (by decide) (by decide) th_ct rfl (fun q9 => ?_)
  refine G_astore (lv' := [(0, .ref (q 0)), (1, .int x), (2, .int y), (3, .ref (q 99)), (4, .ref q9)]) dL_of_13 (by decide) rfl rfl ?_
  refine G_iconst (v := nI 1) dL_of_15 (by decide) rfl ?_
  exact H_iret dL_of_16 rfl (Nat.le_refl _) (Nat.le_refl _) ⟨rfl, rfl, rfl, rfl, rfl⟩
set_option maxRecDepth 100000 in
theorem h_row_ret {l : Launch} {D : va_G} {cy : Nat → ClassId} {sa : Nat → Nat} {S : GS} {N : Mem} {K : Mej} (R : RX S N K) (w : WF S) {x : Int32} (ho : (o_row S x).2 = false) {L : List Nat} {Sh : Nat → Shp} {q qi : Nat → Nat} (hW : WOK L Sh q qi) (hout : fr_at L Sh (q 99) outS) :
    HX l D cy 20 sa mL_row hh_row [.ref (q 0), .int x, .ref (q 99)] L Sh (km qi N) (kj qi K) (PH L Sh qi N (nI 0) (sJ K 99 0 (o_row S x).1.toInt64)) := by
  refine HX.start [(0, .ref (q 0)), (1, .int x), (2, .ref (q 99))] (by decide +kernel) (Nat.le_of_ble_eq_true rfl) rfl (fun A => ?_)
  refine G_aload_n dL_row_0 rfl rfl ?_
  refine G_iconst (v := nI 0) dL_row_1 (by decide) rfl ?_
  refine G_aload_n dL_row_2 rfl rfl ?_
  refine G_iload_n dL_row_3 rfl rfl ?_
  refine G_callK (i := 0) (ci := 3) (d1 := 10) (rest := [.int (nI 0), .ref (q 99)]) [.int x] dL_row_4 ml_L_15 (by decide) hW rfl rfl rfl rfl (Nat.le_of_ble_eq_true rfl) (c_X3_row R w ho) (by decide) (by decide) (Nat.zero_le _) (Nat.zero_le _) rfl ?_
  rintro r N1 K1 ⟨rfl, rfl, rfl⟩
  refine G_st (st' := [.int (o_row S x).1, .int (nI 0), .ref (q 99)]) rfl rfl ?_
  refine G_i2l dL_row_7 rfl ?_
  refine G_last dL_row_8 hout (by decide) (by decide) rfl ?_
  rw [kj_set hW (by decide)]
  refine G_goto (tgt := 15) dL_row_9 (by decide) ?_
  refine G_iconst (v := nI 0) dL_row_15 (by decide) rfl ?_
  exact H_iret dL_row_16 rfl (Nat.zero_le _) (Nat.zero_le _) ⟨rfl, rfl, rfl, rfl, rfl⟩
set_option maxRecDepth 100000 in
theorem h_row_thr {l : Launch} (htr : l.stackTraces = false) {D : va_G} {cy : Nat → ClassId} {sa : Nat → Nat} {S : GS} {N : Mem} {K : Mej} (R : RX S N K) (w : WF S) {x : Int32} (ho : (o_row S x).2 = true) {L : List Nat} {Sh : Nat → Shp} {q qi : Nat → Nat} (hW : WOK L Sh q qi) :
    HX l D cy 20 sa mL_row hh_row [.ref (q 0), .int x, .ref (q 99)] L Sh (km qi N) (kj qi K) (PH L Sh qi N (nI 1) K) := by
  refine HX.start [(0, .ref (q 0)), (1, .int x), (2, .ref (q 99))] (by decide +kernel) (Nat.le_of_ble_eq_true rfl) rfl (fun A => ?_)
  refine G_aload_n dL_row_0 rfl rfl ?_
  refine G_iconst (v := nI 0) dL_row_1 (by decide) rfl ?_
  refine G_aload_n dL_row_2 rfl rfl ?_
  refine G_iload_n dL_row_3 rfl rfl ?_
  refine G_callX (d1 := 10) (ci := 3) (sa := sa) (x := ⟨0, 9, 12, 13⟩) (rest := [.int (nI 0), .ref (q 99)]) [.int x] dL_row_4 ml_L_15 (by decide) (hW.2.2 0 _ rfl).2 rfl rfl (Nat.le_of_ble_eq_true rfl) (t_X3_row htr (by decide) R w ho hW) (by decide) (by decide) (Nat.le_refl _) (Nat.le_refl _) (fun s args c h => h) (by decide) (by decide) th_ct rfl (fun q9 => ?_)
  refine G_astore_n (lv' := [(0, .ref (q 0)), (1, .int x), (2, .ref (q 99)), (3, .ref q9)]) dL_row_12 (by decide) rfl rfl ?_
  refine G_iconst (v := nI 1) dL_row_13 (by decide) rfl ?_
  exact H_iret dL_row_14 rfl (Nat.le_refl _) (Nat.le_refl _) ⟨rfl, rfl, rfl, rfl, rfl⟩
