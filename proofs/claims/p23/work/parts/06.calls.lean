/-! ===== BEGIN a constructor that throws (launches without stack traces) ===== -/
section VXIA
variable {p : Program} {l : Launch} {e : Env} {R : Room} {s : State} {m : MethodId} {args : Array Value} {below : List Frame} {meth : Method} {c : Code} {T : State} {locs : List Loc} {cells slots : Nat}
theorem vx_callI (X : Stand p l e R s m args below meth c T locs cells slots) (hexec : p.tables.exec = Jvm.exec) {own : String} {index : Nat} {y : MethodName} {bytes : ByteArray} {maxL : Nat}
    (hown : s.vm.findClass own = some m.cls) (hy1 : y.name = "<init>") (hlink : (Cond.methodLink own index y).before args s = true) (hinst : (Cond.instanceMethod y).before args s = true)
    (hcode : (Cond.code y bytes maxL none).before args s = true) (hy : y.cls ≠ "java/lang/invoke/MethodHandle" ∧ y.cls ≠ "java/lang/invoke/VarHandle")
    {W9 : Nat} {Pre : Pt → Array Value → Prop} {Post : Pt → Array Value → Option Value → Pt → Prop} {PostX : Pt → Array Value → Addr → Pt → Prop} (hK : vx_Back l R p e below s args y 3 W9 Pre Post PostX)
    {g : JFrame} (hg : g.method = m) (hsize : g.locals.size = c.maxLocals) {a : Addr} {argsL rest : List Value} (hlen : ∀ sig, parseMethodDescriptor y.desc = some sig → argsL.length = sig.parameters.length)
    (hstack : g.stack = argsL.reverse ++ .ref a :: rest) (hW : 2 * g.monitorRoom + (rest.map fun v => v.category).sum ≤ W9) (hdg : decode c.code g.pc = .ok (.invokespecial index, 3))
    (hpre : ∀ vm₁, s.WarmedH vm₁ → Pre ⟨T.setVm vm₁, locs, cells, slots⟩ (Value.ref a :: argsL).toArray) :
    (∃ (v : Option Value) (vm₁ : Vm) (B : Pt), s.WarmedH vm₁ ∧ Stand p l e R s m args below meth c B.U B.locs B.cells B.slots ∧ Post ⟨T.setVm vm₁, locs, cells, slots⟩ (Value.ref a :: argsL).toArray v B ∧
      ∀ target, Steps p.tables e below (B.U.setTop { g with pc := g.pc + 3, stack := v.toList ++ rest }) target → Steps p.tables e below (T.setTop g) target) ∨
    (∃ (q : Addr) (vm₁ : Vm) (B : Pt), s.WarmedH vm₁ ∧ Stand p l e R s m args below meth c B.U B.locs B.cells B.slots ∧ PostX ⟨T.setVm vm₁, locs, cells, slots⟩ (Value.ref a :: argsL).toArray q B ∧
      Steps p.tables e below (T.setTop g) ((B.U.setTop { g with stack := rest }).pushFrame (.throwing q))) := by
  subst hg
  have hpl : e.platform.magicAccessors = ({} : Platform).magicAccessors := by rw [X.admits.platform]
  obtain ⟨mk, methM, cM, kP, vm₁, hnamed, hmethM, hcodeM, -, hlocalsM, -, hkP, -, hW₁, hstep₁⟩ := Steps.initColdArgs (e := e) X.here hexec X.warmed hpl hown hy1 hy hlink hinst hcode (f := g) rfl hlen hstack hdg
  have X₁ := X.noted hW₁
  rcases hK g.method meth c ⟨T.setVm vm₁, locs, cells, slots⟩ { g with stack := rest } (.invokespecial index) mk (Value.ref a :: argsL).toArray X₁ rfl hsize hdg hW (X₁.named hnamed) (hpre vm₁ X₁.warmed) with ⟨v, B, X', hpost, hsteps⟩ | ⟨q, B, X', hpost, hsteps⟩
  · exact Or.inl ⟨v, vm₁, B, X₁.warmed, X', hpost, fun target h => hstep₁ _ fun acts => by rw [doInvoke_state]; exact hsteps.trans h⟩
  · exact Or.inr ⟨q, vm₁, B, X₁.warmed, X', hpost, hstep₁ _ fun acts => by rw [doInvoke_state]; exact hsteps⟩
end VXIA
section VXIB
variable {p : Program} {l : Launch} {e : Env} {R : Room} {s : State} {m : MethodId} {args : Array Value} {below : List Frame} {meth : Method} {c : Code} {H : Heap} {locs : List Loc} {cells slots : Nat}
variable {y : MethodName} {bytes cc : ByteArray} {maxL nL mc ms n index : Nat} {ret : Option FieldType} {ws : List Cond} {rm : Room} {Pc : Array Value → State → Prop} {Qc : Array Value → State → Outcome → State → Prop} {XC : String → State → State → Prop} {free : Addr → Prop} {Ts : List Cond} {own C : String} {b : Addr} {As rest : List Value} {g : JFrame}
theorem vx_runI (S : CallFix p m c cc nL s args Ts own) (hM : vx_Met l y ws rm Pc Qc XC mc ms free) (cw : CallB R s args own index y bytes maxL none ws rm mc ms n ∧ y.name = "<init>" ∧ (Cond.instanceMethod y).before args s = true) (hp : PreS s H Pc (.ref b :: As))
    (hg : g.method = m) (hn : As.length = n) (hsize : g.locals.size = nL) (hstack : g.stack = As.reverse ++ .ref b :: rest) (hW : 2 * g.monitorRoom + (rest.map fun v => v.category).sum ≤ 8) (hdg : decode cc g.pc = .ok (.invokespecial index, 3)) (hf : cells + mc ≤ R.cells ∧ slots + ms ≤ R.slots) :
    vx_Run p l e R s m args below meth c H locs cells slots mc ms g rest (Qc (Value.ref b :: As).toArray) XC free := by
  have hK : vx_Back l R p e below s args y 3 8 (PreOf R mc ms Pc) (PostOf Qc mc ms free) (vx_Post XC mc ms free) := vx_callBack cw.1 hM hp.1
  obtain ⟨⟨-, -, -, -, -, -, hcode, -, hy, hlen, hl⟩, hy1, hin⟩ := cw
  obtain ⟨hx, hb, hml, ho, -⟩ := S
  have hPc := hp.2
  intro T hT X
  rcases vx_callI X hx (bytes := bytes) (maxL := maxL) ho hy1 hl hin hcode hy hK hg (hsize.trans hml.symm) (a := b) (argsL := As) (rest := rest) (fun sig h => hn.trans (hlen sig h)) hstack hW (by rw [hb]; exact hdg)
    (fun vm₁ hW₁ => ⟨hf.1, hf.2, hPc (T.setVm vm₁) hT hW₁⟩) with ⟨v, vm₁, ⟨U', l2, c2, s2⟩, hW₁, X', ⟨g', mk, t, L, e1, e2, hq, h1, hL, h2, h3⟩, st⟩ | ⟨q, vm₁, ⟨U', l2, c2, s2⟩, hW₁, X', ⟨g', mk, t, L, E, ce, e1, e2, hq, hce, hcv, hcl, h1, hL, h2, h3⟩, st⟩
  · dsimp only [Pt.U, Pt.locs, Pt.cells, Pt.slots] at X' e1 e2 h1 h2 h3 st
    subst h1; subst h2; subst h3
    exact Or.inl ⟨v, (T.setVm vm₁).calling g' mk (Value.ref b :: As).toArray, t, U', L, hT, X', hL, e1, e2, hq, st⟩
  · dsimp only [Pt.U, Pt.locs, Pt.cells, Pt.slots] at X' e1 e2 h1 h2 h3 st hcl
    subst h1; subst h2; subst h3
    exact Or.inr ⟨q, (T.setVm vm₁).calling g' mk (Value.ref b :: As).toArray, t, U', L, E, ce, hT, X', hL, e1, e2, hq, hce, hcv, vx_cls hW₁ hcl, st⟩
end VXIB
/-! ===== END ===== -/
/-! ===== BEGIN a private constructor of a nest mate that throws ===== -/
section VXIC
variable {p : Program} {l : Launch} {e : Env} {R : Room} {s : State} {m : MethodId} {args : Array Value} {below : List Frame} {meth : Method} {c : Code} {T : State} {locs : List Loc} {cells slots : Nat}
theorem vx_callIN (X : Stand p l e R s m args below meth c T locs cells slots) (hexec : p.tables.exec = Jvm.exec) {own : String} {index : Nat} {host : String} {y : MethodName} {bytes : ByteArray} {maxL : Nat}
    (hown : s.vm.findClass own = some m.cls) (hy1 : y.name = "<init>") (hlink : (Cond.methodLinkNest own index y host).before args s = true) (hinst : (Cond.instanceMethod y).before args s = true)
    (hcode : (Cond.code y bytes maxL none).before args s = true) (hy : y.cls ≠ "java/lang/invoke/MethodHandle" ∧ y.cls ≠ "java/lang/invoke/VarHandle")
    {W9 : Nat} {Pre : Pt → Array Value → Prop} {Post : Pt → Array Value → Option Value → Pt → Prop} {PostX : Pt → Array Value → Addr → Pt → Prop} (hK : vx_Back l R p e below s args y 3 W9 Pre Post PostX)
    {g : JFrame} (hg : g.method = m) (hsize : g.locals.size = c.maxLocals) {a : Addr} {argsL rest : List Value} (hlen : ∀ sig, parseMethodDescriptor y.desc = some sig → argsL.length = sig.parameters.length)
    (hstack : g.stack = argsL.reverse ++ .ref a :: rest) (hW : 2 * g.monitorRoom + (rest.map fun v => v.category).sum ≤ W9) (hdg : decode c.code g.pc = .ok (.invokespecial index, 3))
    (hpre : ∀ vm₁, s.WarmedH vm₁ → Pre ⟨T.setVm vm₁, locs, cells, slots⟩ (Value.ref a :: argsL).toArray) :
    (∃ (v : Option Value) (vm₁ : Vm) (B : Pt), s.WarmedH vm₁ ∧ Stand p l e R s m args below meth c B.U B.locs B.cells B.slots ∧ Post ⟨T.setVm vm₁, locs, cells, slots⟩ (Value.ref a :: argsL).toArray v B ∧
      ∀ target, Steps p.tables e below (B.U.setTop { g with pc := g.pc + 3, stack := v.toList ++ rest }) target → Steps p.tables e below (T.setTop g) target) ∨
    (∃ (q : Addr) (vm₁ : Vm) (B : Pt), s.WarmedH vm₁ ∧ Stand p l e R s m args below meth c B.U B.locs B.cells B.slots ∧ PostX ⟨T.setVm vm₁, locs, cells, slots⟩ (Value.ref a :: argsL).toArray q B ∧
      Steps p.tables e below (T.setTop g) ((B.U.setTop { g with stack := rest }).pushFrame (.throwing q))) := by
  subst hg
  have hpl : e.platform.magicAccessors = ({} : Platform).magicAccessors := by rw [X.admits.platform]
  obtain ⟨mk, methM, cM, kP, vm₁, hnamed, hmethM, hcodeM, -, hlocalsM, -, hkP, -, hW₁, hstep₁⟩ := Steps.initColdArgsNest (e := e) X.here hexec X.warmed hpl hown hy1 hy hlink hinst hcode (f := g) rfl hlen hstack hdg
  have X₁ := X.noted hW₁
  rcases hK g.method meth c ⟨T.setVm vm₁, locs, cells, slots⟩ { g with stack := rest } (.invokespecial index) mk (Value.ref a :: argsL).toArray X₁ rfl hsize hdg hW (X₁.named hnamed) (hpre vm₁ X₁.warmed) with ⟨v, B, X', hpost, hsteps⟩ | ⟨q, B, X', hpost, hsteps⟩
  · exact Or.inl ⟨v, vm₁, B, X₁.warmed, X', hpost, fun target h => hstep₁ _ fun acts => by rw [doInvoke_state]; exact hsteps.trans h⟩
  · exact Or.inr ⟨q, vm₁, B, X₁.warmed, X', hpost, hstep₁ _ fun acts => by rw [doInvoke_state]; exact hsteps⟩
end VXIC
section VXID
variable {p : Program} {l : Launch} {e : Env} {R : Room} {s : State} {m : MethodId} {args : Array Value} {below : List Frame} {meth : Method} {c : Code} {H : Heap} {locs : List Loc} {cells slots : Nat}
theorem vx_runIN {y : MethodName} {bytes cc : ByteArray} {maxL nL mc ms n index : Nat} {ws : List Cond} {rm : Room} {Pc : Array Value → State → Prop} {Qc : Array Value → State → Outcome → State → Prop} {XC : String → State → State → Prop} {free : Addr → Prop} {Ts : List Cond} {own host : String} {b : Addr} {As rest : List Value} {g : JFrame}
    (S : CallFix p m c cc nL s args Ts own) (hM : vx_Met l y ws rm Pc Qc XC mc ms free) (cw : va_CN R s args own index y host bytes maxL none ws rm mc ms n ∧ y.name = "<init>" ∧ (Cond.instanceMethod y).before args s = true) (hp : PreS s H Pc (.ref b :: As))
    (hg : g.method = m) (hn : As.length = n) (hsize : g.locals.size = nL) (hstack : g.stack = As.reverse ++ .ref b :: rest) (hW : 2 * g.monitorRoom + (rest.map fun v => v.category).sum ≤ 8) (hdg : decode cc g.pc = .ok (.invokespecial index, 3)) (hf : cells + mc ≤ R.cells ∧ slots + ms ≤ R.slots) :
    vx_Run p l e R s m args below meth c H locs cells slots mc ms g rest (Qc (Value.ref b :: As).toArray) XC free := by
  obtain ⟨⟨⟨hrc, hrs, hfr, hlo, hws, hcw⟩, hcode, hini, hy, hlen, hl⟩, hx1, hx2⟩ := cw
  have hK : vx_Back l R p e below s args y 3 8 (PreOf R mc ms Pc) (PostOf Qc mc ms free) (vx_Post XC mc ms free) := vx_back (bytes := bytes) (maxL := maxL) (ret := none) hM hp.1 hrc hrs hfr hlo hws hcw (fun a' U hW => word_at hW (Or.inl (by first | rfl | simp [Cond.onTables, Cond.keeps, Cond.steady])) hini)
  obtain ⟨hx, hb, hml, ho, -⟩ := S
  have hPc := hp.2
  intro T hT X
  rcases vx_callIN X hx (bytes := bytes) (maxL := maxL) ho hx1 hl hx2 hcode hy hK hg (hsize.trans hml.symm) (a := b) (argsL := As) (rest := rest) (fun sig h => hn.trans (hlen sig h)) hstack hW (by rw [hb]; exact hdg)
    (fun vm₁ hW₁ => ⟨hf.1, hf.2, hPc (T.setVm vm₁) hT hW₁⟩) with ⟨v, vm₁, ⟨U', l2, c2, s2⟩, hW₁, X', ⟨g', mk, t, L, e1, e2, hq, h1, hL, h2, h3⟩, st⟩ | ⟨q, vm₁, ⟨U', l2, c2, s2⟩, hW₁, X', ⟨g', mk, t, L, E, ce, e1, e2, hq, hce, hcv, hcl, h1, hL, h2, h3⟩, st⟩
  · dsimp only [Pt.U, Pt.locs, Pt.cells, Pt.slots] at X' e1 e2 h1 h2 h3 st
    subst h1; subst h2; subst h3
    exact Or.inl ⟨v, (T.setVm vm₁).calling g' mk (Value.ref b :: As).toArray, t, U', L, hT, X', hL, e1, e2, hq, st⟩
  · dsimp only [Pt.U, Pt.locs, Pt.cells, Pt.slots] at X' e1 e2 h1 h2 h3 st hcl
    subst h1; subst h2; subst h3
    exact Or.inr ⟨q, (T.setVm vm₁).calling g' mk (Value.ref b :: As).toArray, t, U', L, E, ce, hT, X', hL, e1, e2, hq, hce, hcv, vx_cls hW₁ hcl, st⟩
end VXID
/-! ===== END ===== -/
/-! ===== BEGIN a static method of a nest mate ===== -/
section VXIE
variable {p : Program} {l : Launch} {e : Env} {R : Room} {s : State} {m : MethodId} {args : Array Value} {below : List Frame} {meth : Method} {c : Code} {H : Heap} {locs : List Loc} {cells slots : Nat}
variable {T : State}
theorem vx_callSN (X : Stand p l e R s m args below meth c T locs cells slots) (hexec : p.tables.exec = Jvm.exec) {own : String} {index : Nat} {host : String} {y : MethodName} {bytes : ByteArray} {maxL : Nat} {ret : Option FieldType}
    (hown : s.vm.findClass own = some m.cls) (hlink : (Cond.methodLinkNest own index y host).before args s = true) (hstat : (Cond.static y).before args s = true) (hinit : (Cond.initialized y.cls).before args s = true)
    (hcode : (Cond.code y bytes maxL ret).before args s = true) (hy : y.cls ≠ "java/lang/invoke/MethodHandle" ∧ y.cls ≠ "java/lang/invoke/VarHandle")
    {W : Nat} {Pre : Pt → Array Value → Prop} {Post : Pt → Array Value → Option Value → Pt → Prop} {PostX : Pt → Array Value → Addr → Pt → Prop} (hK : vx_Back l R p e below s args y 3 W Pre Post PostX)
    {g : JFrame} (hg : g.method = m) (hsize : g.locals.size = c.maxLocals) {argsL rest : List Value} (hlen : ∀ sig, parseMethodDescriptor y.desc = some sig → argsL.length = sig.parameters.length)
    (hstack : g.stack = argsL.reverse ++ rest) (hW : 2 * g.monitorRoom + (rest.map fun v => v.category).sum ≤ W) (hdg : decode c.code g.pc = .ok (.invokestatic index, 3))
    (hpre : ∀ vm₁, s.WarmedH vm₁ → Pre ⟨T.setVm vm₁, locs, cells, slots⟩ argsL.toArray) :
    (∃ (v : Option Value) (vm₁ : Vm) (B : Pt), s.WarmedH vm₁ ∧ Stand p l e R s m args below meth c B.U B.locs B.cells B.slots ∧ Post ⟨T.setVm vm₁, locs, cells, slots⟩ argsL.toArray v B ∧
      ∀ target, Steps p.tables e below (B.U.setTop { g with pc := g.pc + 3, stack := v.toList ++ rest }) target → Steps p.tables e below (T.setTop g) target) ∨
    (∃ (q : Addr) (vm₁ : Vm) (B : Pt), s.WarmedH vm₁ ∧ Stand p l e R s m args below meth c B.U B.locs B.cells B.slots ∧ PostX ⟨T.setVm vm₁, locs, cells, slots⟩ argsL.toArray q B ∧
      Steps p.tables e below (T.setTop g) ((B.U.setTop { g with stack := rest }).pushFrame (.throwing q))) := by
  obtain ⟨mk, hnamed⟩ := Cond.code_named hcode
  obtain ⟨methM, cM, hmethM, -, -, -, -, -, -, hsigM⟩ := Cond.code_spec hnamed hcode
  have hstatic : methM.isStatic = true := Cond.static_spec hnamed hmethM hstat
  obtain ⟨kP, hkP, -⟩ := className_of_methodNamed hnamed
  have hinitP : kP.init = .initialized := Cond.initialized_spec (findClass_of_methodNamed hnamed) hkP hinit
  obtain ⟨vm₁, X₁, hstep₁⟩ := X.invokestaticNest hexec hown hlink hnamed hmethM hstatic hkP hinitP hy (g := g) hg (argsL := argsL) (rest := rest) (hlen _ hsigM) hstack hdg
  rcases hK m meth c ⟨T.setVm vm₁, locs, cells, slots⟩ { g with stack := rest } (.invokestatic index) mk argsL.toArray X₁ hg hsize hdg hW (X₁.named hnamed) (hpre vm₁ X₁.warmed) with ⟨v, B, X', hpost, hsteps⟩ | ⟨q, B, X', hpost, hsteps⟩
  · exact Or.inl ⟨v, vm₁, B, X₁.warmed, X', hpost, fun target h => hstep₁ _ fun acts => by rw [doInvoke_state]; exact hsteps.trans h⟩
  · exact Or.inr ⟨q, vm₁, B, X₁.warmed, X', hpost, hstep₁ _ fun acts => by rw [doInvoke_state]; exact hsteps⟩
theorem vx_runSN {y : MethodName} {bytes cc : ByteArray} {maxL nL mc ms n index : Nat} {ret : Option FieldType} {ws : List Cond} {rm : Room} {Pc : Array Value → State → Prop} {Qc : Array Value → State → Outcome → State → Prop} {XC : String → State → State → Prop} {free : Addr → Prop} {Ts : List Cond} {own host : String} {As rest : List Value} {g : JFrame}
    (S : CallFix p m c cc nL s args Ts own) (hM : vx_Met l y ws rm Pc Qc XC mc ms free) (cw : va_CN R s args own index y host bytes maxL ret ws rm mc ms n ∧ (Cond.static y).before args s = true ∧ True) (hp : PreS s H Pc As)
    (hg : g.method = m) (hn : As.length = n) (hsize : g.locals.size = nL) (hstack : g.stack = As.reverse ++ rest) (hW : 2 * g.monitorRoom + (rest.map fun v => v.category).sum ≤ 8) (hdg : decode cc g.pc = .ok (.invokestatic index, 3)) (hf : cells + mc ≤ R.cells ∧ slots + ms ≤ R.slots) :
    vx_Run p l e R s m args below meth c H locs cells slots mc ms g rest (Qc As.toArray) XC free := by
  obtain ⟨⟨⟨hrc, hrs, hfr, hlo, hws, hcw⟩, hcode, hini, hy, hlen, hl⟩, hx1, hx2⟩ := cw
  have hK : vx_Back l R p e below s args y 3 8 (PreOf R mc ms Pc) (PostOf Qc mc ms free) (vx_Post XC mc ms free) := vx_back (bytes := bytes) (maxL := maxL) (ret := ret) hM hp.1 hrc hrs hfr hlo hws hcw (fun a' U hW => word_at hW (Or.inl (by first | rfl | simp [Cond.onTables, Cond.keeps, Cond.steady])) hini)
  obtain ⟨hx, hb, hml, ho, -⟩ := S
  have hPc := hp.2
  intro T hT X
  rcases vx_callSN X hx (bytes := bytes) (maxL := maxL) (ret := ret) ho hl hx1 hini hcode hy hK hg (hsize.trans hml.symm) (argsL := As) (rest := rest) (fun sig h => hn.trans (hlen sig h)) hstack hW (by rw [hb]; exact hdg)
    (fun vm₁ hW₁ => ⟨hf.1, hf.2, hPc (T.setVm vm₁) hT hW₁⟩) with ⟨v, vm₁, ⟨U', l2, c2, s2⟩, hW₁, X', ⟨g', mk, t, L, e1, e2, hq, h1, hL, h2, h3⟩, st⟩ | ⟨q, vm₁, ⟨U', l2, c2, s2⟩, hW₁, X', ⟨g', mk, t, L, E, ce, e1, e2, hq, hce, hcv, hcl, h1, hL, h2, h3⟩, st⟩
  · dsimp only [Pt.U, Pt.locs, Pt.cells, Pt.slots] at X' e1 e2 h1 h2 h3 st
    subst h1; subst h2; subst h3
    exact Or.inl ⟨v, (T.setVm vm₁).calling g' mk As.toArray, t, U', L, hT, X', hL, e1, e2, hq, st⟩
  · dsimp only [Pt.U, Pt.locs, Pt.cells, Pt.slots] at X' e1 e2 h1 h2 h3 st hcl
    subst h1; subst h2; subst h3
    exact Or.inr ⟨q, (T.setVm vm₁).calling g' mk As.toArray, t, U', L, E, ce, hT, X', hL, e1, e2, hq, hce, hcv, vx_cls hW₁ hcl, st⟩
end VXIE
/-! ===== END ===== -/
/-! entry, ends, calls, throws -/
section RULES3
variable {g : GG} {d : MD} {bk bn : Nat} {P : PO} {M : Mem} {pc : Nat} {ls : List (Nat × Value)} {st : List Value}
theorem z_ireturn {x : Int32} {ty : FieldType} (hd : decode d.cc pc = .ok (.ireturn, 1)) (hrt : d.rt = some ty) (hn : narrow ty (.int x) = .int x) (hP : P (.inl (some (.int x))) M) : tri g d bk bn P M pc ls [.int x] := by
  intro p e R s m args below meth c H locs cells slots lsA hb hc hS hr hl
  refine W.widen (k := R.cells) (n := R.slots) (by omega) (by omega) (vx_ret ?_)
  exact W.zret hb.1.1 hb.1.2 (hb.2.1.1.trans hrt) hn (fun t ht hW => ⟨_, M, rfl, hP, by rw [ht]; exact hr.moved hW.alike, hS.F ht⟩) (fun q hq => hS.2.2 q hq) hd hb.2.2.2.2.1.1
theorem z_return (hd : decode d.cc pc = .ok (.return_, 1)) (hrt : d.rt = none) (hP : P (.inl none) M) : tri g d bk bn P M pc ls [] := by
  intro p e R s m args below meth c H locs cells slots lsA hb hc hS hr hl
  refine W.widen (k := R.cells) (n := R.slots) (by omega) (by omega) (vx_ret ?_)
  exact W.vret hb.1.1 hb.1.2 (hb.2.1.1.trans hrt) (fun t ht hW => ⟨_, M, rfl, hP, by rw [ht]; exact hr.moved hW.alike, hS.F ht⟩) (fun q hq => hS.2.2 q hq) hd hb.2.2.2.2.1.1
theorem z_areturn {v : Value} {rt : FieldType} (hd : decode d.cc pc = .ok (.areturn, 1)) (hrt : d.rt = some rt) (hv : v.isRef = true) (hk : (∃ n, rt = .object n) ∨ ∃ t, rt = .array t) (hP : P (.inl (some v)) M) : tri g d bk bn P M pc ls [v] := by
  intro p e R s m args below meth c H locs cells slots lsA hb hc hS hr hl
  refine W.widen (k := R.cells) (n := R.slots) (by omega) (by omega) (vx_ret ?_)
  have hv' : v = .null ∨ ∃ a, v = .ref a := by
    cases v with
    | null => exact Or.inl rfl
    | ref a => exact Or.inr ⟨a, rfl⟩
    | _ => cases hv
  exact W.aret hb.1.1 hb.1.2 (hb.2.1.1.trans hrt) hk hv' (fun t ht hW => ⟨_, M, rfl, hP, by rw [ht]; exact hr.moved hW.alike, hS.F ht⟩) (fun q hq => hS.2.2 q hq) hd hb.2.2.2.2.1.1
/-- what a caller needs of the tables: a method's word and its class's -/
def ylk (dd : MD) (n : Nat) : Prop := md_w dd ∈ GT ∧ Cond.initialized dd.y.cls ∈ GT ∧ (dd.y.cls ≠ "java/lang/invoke/MethodHandle" ∧ dd.y.cls ≠ "java/lang/invoke/VarHandle") ∧ (parseMethodDescriptor dd.y.desc).map (fun d => d.parameters.length) = some n ∧ dd.hh = []
def vlk (own : String) (idx : Nat) (ci : Nat) (dd : MD) (n : Nat) : Prop := ylk dd n ∧ Cond.methodLink own idx dd.y ∈ GT ∧ Cond.instanceMethod dd.y ∈ GT ∧ ∃ (C : String) (T : u_T) (N : Nat) (ty : Nat → FieldType), cok ci C T N ty ∧ Cond.selects C dd.y dd.y ∈ GT
def slk (own : String) (idx : Nat) (dd : MD) (n : Nat) : Prop := ylk dd n ∧ (Cond.methodLink own idx dd.y ∈ GT ∨ ∃ host, Cond.methodLinkNest own idx dd.y host ∈ GT) ∧ Cond.static dd.y ∈ GT
def ilk (own : String) (idx : Nat) (dd : MD) (n : Nat) : Prop := ylk dd n ∧ (Cond.methodLink own idx dd.y ∈ GT ∨ ∃ host, Cond.methodLinkNest own idx dd.y host ∈ GT) ∧ Cond.instanceMethod dd.y ∈ GT ∧ dd.y.name = "<init>" ∧ dd.rt = none
def clk (d dd : MD) (bk1 bn1 bk bn : Nat) : Prop := (dd.fr + 1 ≤ d.fr ∧ 8 + (dd.nL + 11) + dd.lo ≤ d.lo) ∧ bk1 ≤ bk ∧ bn1 ≤ bn
theorem gP_blind (g : GG) (as : List Value) (M : Mem) : FrameBlind (gP g as M) := by
  intro a U fr mk h
  obtain ⟨h1, h2, h3⟩ := h
  exact ⟨h1, gctx.moved (u := U) (U := U.calling fr mk a) (H1 := U.heap) (State.WarmedH.refl U) h2 (Nat.le_refl _) (fun _ _ _ => rfl), rep.moved (u := U) (U := U.calling fr mk a) (Vm.Alike.refl U.vm) h3⟩
theorem gP_start {g : GG} {as : List Value} {M : Mem} {s : State} {H : Heap} {locs : List Loc} (hG : gctx g s s.heap) (hS : va_S g.A s.heap H locs) (hr : rep g s M H) : ∀ U : State, U.heap = H → s.WarmedH U.vm → gP g as M as.toArray U := by
  intro U hU hW
  refine ⟨rfl, ?_, ?_⟩
  · rw [hU]
    exact gctx.moved hW hG hS.1 hS.2.1
  · rw [hU]
    exact hr.moved hW.alike
theorem pay_gt {args : Array Value} {s : State} {dd : MD} (hts : ∀ w ∈ GT, w.before args s = true) (hw : md_w dd ∈ GT) : ∀ w ∈ md_w dd :: GT, ∀ (a' : Array Value) (U : State), s.WarmedH U.vm → w.before a' U = true := by
  intro w h a' U hW
  have hm : w ∈ GT := by
    rcases List.mem_cons.mp h with h | h
    · rw [h]; exact hw
    · exact h
  exact gt_at hW (gt_mem hm) (hts w hm)
theorem md_w0 {dd : MD} (h : dd.hh = []) : md_w dd = .code dd.y dd.cc dd.nL dd.rt := by
  unfold md_w
  rw [h]
theorem run_go {bk1 bn1 : Nat} {P1 : PO} {rest : List Value} {p : Program} {e : Env} {R : Room} {s : State} {m : MethodId} {args : Array Value} {below : List Frame} {meth : Method} {c : Code} {H : Heap} {locs : List Loc} {cells slots : Nat} {lsA : Array Slot} {st0 : List Value} {a0 : Array Value}
    (hb : bst g d p R s m args meth c) (hc : cells + bk ≤ R.cells ∧ slots + bn ≤ R.slots) (h1 : bk1 ≤ bk) (h2 : bn1 ≤ bn) (hS : va_S g.A s.heap H locs) (hl : lok lsA d.nL ls)
    (hrun : vx_Run p g.l e R s m args below meth c H locs cells slots bk1 bn1 (F0 m pc lsA st0) rest (gQ g P1 a0) (gX g P1) g.A)
    (kk : ∀ (v : Option Value) (M' : Mem), P1 (.inl v) M' → tri g d (bk - bk1) (bn - bn1) P M' (pc + 3) ls (v.toList ++ rest))
    (kx : ∀ (E : String) (M' : Mem), P1 (.inr E) M' → trx g d (bk - bk1) (bn - bn1) P M' pc ls rest E) :
    W p g.l e R s m args below meth c H locs cells slots (vx_MQ below (gQ g P) (gX g P) args s R.cells R.slots g.A) (F0 m pc lsA st0) := by
  intro T hT X
  rcases hrun T hT X with ⟨v, st₀, t, T', L, h0, X', hL, e1, e2, ⟨v', M', hv, hp, hrep, hF⟩, stp⟩ | ⟨q, st₀, t, T', L, E, ce, h0, X', hL, e1, e2, ⟨M', hp, hrep, hF⟩, hce, hcv, hcl, stp⟩
  · cases hv
    obtain ⟨k1, k2, k3⟩ := vx_keep h0 e1 hS (fun _ _ h => h) (fun _ h => h) hL hF
    have hal : t.vm.Alike s.vm := by rw [← e2]; exact X'.warmed.alike.symm
    have hrep' : rep g s M' T'.heap := by rw [e1]; exact hrep.moved hal
    obtain ⟨t2, a1, b1⟩ := kk v M' hp p e R s m args below meth c T'.heap (locs ++ L) (cells + bk1) (slots + bn1) lsA hb ⟨by omega, by omega⟩ k3 hrep' hl T' rfl X'
    exact ⟨t2, stp t2 a1, b1⟩
  · obtain ⟨k1, k2, k3⟩ := vx_keep h0 e1 hS (fun _ _ h => h) (fun _ h => h) hL hF
    have hal : t.vm.Alike s.vm := by rw [← e2]; exact X'.warmed.alike.symm
    have hrep' : rep g s M' T'.heap := by rw [e1]; exact hrep.moved hal
    obtain ⟨t2, a1, b1⟩ := kx E M' hp p e R s m args below meth c T'.heap (locs ++ L) (cells + bk1) (slots + bn1) lsA q ce hb ⟨by omega, by omega⟩ k3 hrep' hl (by rw [e1]; exact hce) hcv hcl T' rfl X'
    exact ⟨t2, stp.trans a1, b1⟩
theorem room_ok {dd : MD} {R : Room} (hr : dd.fr + 1 ≤ d.fr ∧ 8 + (dd.nL + 11) + dd.lo ≤ d.lo) (h : d.fr ≤ R.frames ∧ d.lo ≤ R.locals) : dd.fr + 1 ≤ R.frames ∧ 8 + (dd.nL + 11) + dd.lo ≤ R.locals := ⟨Nat.le_trans hr.1 h.1, Nat.le_trans hr.2 h.2⟩
theorem z_invokevirtual {index ci n a bk1 bn1 : Nat} {dd : MD} {fs as rest : List Value} {P1 : PO} (hd : decode d.cc pc = .ok (.invokevirtual index, 3)) (hv : vlk d.y.cls index ci dd n) (hM : M a = some (ob ci fs)) (hcon : con g dd bk1 bn1 (.ref a :: as) M P1) (hC : clk d dd bk1 bn1 bk bn) (hn : as.length = n) (hst : st = as.reverse ++ .ref a :: rest) (hw : (rest.map fun v => v.category).sum ≤ 8)
    (kk : ∀ (v : Option Value) (M' : Mem), P1 (.inl v) M' → tri g d (bk - bk1) (bn - bn1) P M' (pc + 3) ls (v.toList ++ rest)) (kx : ∀ (E : String) (M' : Mem), P1 (.inr E) M' → trx g d (bk - bk1) (bn - bn1) P M' pc ls rest E) : tri g d bk bn P M pc ls st := by
  intro p e R s m args below meth c H locs cells slots lsA hb hc hS hr hl
  obtain ⟨⟨w1, w2, w3, w4, w5⟩, l1, l2, C, T, N, ty, ⟨g1, g2, g3, g4⟩, l3⟩ := hv
  have hts := hb.2.2.2.1
  have hre := hr a _ hM
  have hrecv : ∃ cell : Cell, H[a]? = some cell ∧ cell.vm.isStatics = false ∧ s.vm.findClass C = some cell.cls := by
    obtain ⟨-, r, hr1, cell, q1, q2, q3, q4⟩ := hre
    have hee : r = (C, T, N) := Option.some.inj (hr1.symm.trans g1)
    subst hee
    exact ⟨cell, q1, by rw [q3]; rfl, by rw [q2]; exact (hb.2.2.2.2.2.2.2.1.1 ci _ g1).2.1⟩
  have hcode := md_w0 w5
  have hRm := room_ok hC.1 ⟨hb.2.2.2.2.2.1.2.1, hb.2.2.2.2.2.1.2.2⟩
  refine run_go hb hc hC.2.1 hC.2.2 hS hl (vx_runV (bytes := dd.cc) (maxL := dd.nL) (ret := dd.rt) (As := as) (rest := rest) (n := n) ⟨hb.1.1, hb.1.2, hb.2.1.2, hb.2.2.1, hts⟩ hcon ?_ ⟨gP_blind g _ M, hrecv, gP_start hb.2.2.2.2.2.2 hS hr⟩ rfl hn hl.1.1 hst (lv_room hw) hd ⟨by have := hC.2.1; omega, by have := hC.2.2; omega⟩) kk kx
  refine ⟨⟨rfl, rfl, hRm.1, hRm.2, pay_gt hts w1, by rw [← hcode]; exact List.mem_cons_self, by rw [← hcode]; exact hts _ w1, hts _ w2, w3, fun sig h => ?_, hts _ l1⟩, hts _ l2, hts _ l3⟩
  rw [h] at w4
  exact (Option.some.inj w4).symm
theorem z_invokestatic {index n bk1 bn1 : Nat} {dd : MD} {as rest : List Value} {P1 : PO} (hd : decode d.cc pc = .ok (.invokestatic index, 3)) (hv : slk d.y.cls index dd n) (hcon : con g dd bk1 bn1 as M P1) (hC : clk d dd bk1 bn1 bk bn) (hn : as.length = n) (hst : st = as.reverse ++ rest) (hw : (rest.map fun v => v.category).sum ≤ 8)
    (kk : ∀ (v : Option Value) (M' : Mem), P1 (.inl v) M' → tri g d (bk - bk1) (bn - bn1) P M' (pc + 3) ls (v.toList ++ rest)) (kx : ∀ (E : String) (M' : Mem), P1 (.inr E) M' → trx g d (bk - bk1) (bn - bn1) P M' pc ls rest E) : tri g d bk bn P M pc ls st := by
  intro p e R s m args below meth c H locs cells slots lsA hb hc hS hr hl
  obtain ⟨⟨w1, w2, w3, w4, w5⟩, l1, l2⟩ := hv
  have hts := hb.2.2.2.1
  have hcode := md_w0 w5
  have hRm := room_ok hC.1 ⟨hb.2.2.2.2.2.1.2.1, hb.2.2.2.2.2.1.2.2⟩
  have hlen : ∀ sig, parseMethodDescriptor dd.y.desc = some sig → n = sig.parameters.length := fun sig h => by
    rw [h] at w4
    exact (Option.some.inj w4).symm
  rcases l1 with l1 | ⟨host, l1⟩
  · refine run_go hb hc hC.2.1 hC.2.2 hS hl (vx_runS (bytes := dd.cc) (maxL := dd.nL) (ret := dd.rt) (As := as) (rest := rest) (n := n) ⟨hb.1.1, hb.1.2, hb.2.1.2, hb.2.2.1, hts⟩ hcon ?_ ⟨gP_blind g _ M, gP_start hb.2.2.2.2.2.2 hS hr⟩ rfl hn hl.1.1 hst (lv_room hw) hd ⟨by have := hC.2.1; omega, by have := hC.2.2; omega⟩) kk kx
    exact ⟨⟨rfl, rfl, hRm.1, hRm.2, pay_gt hts w1, by rw [← hcode]; exact List.mem_cons_self, by rw [← hcode]; exact hts _ w1, hts _ w2, w3, hlen, hts _ l1⟩, hts _ l2⟩
  · refine run_go hb hc hC.2.1 hC.2.2 hS hl (vx_runSN (bytes := dd.cc) (maxL := dd.nL) (ret := dd.rt) (As := as) (rest := rest) (n := n) (host := host) ⟨hb.1.1, hb.1.2, hb.2.1.2, hb.2.2.1, hts⟩ hcon ?_ ⟨gP_blind g _ M, gP_start hb.2.2.2.2.2.2 hS hr⟩ rfl hn hl.1.1 hst (lv_room hw) hd ⟨by have := hC.2.1; omega, by have := hC.2.2; omega⟩) kk kx
    exact ⟨⟨⟨rfl, rfl, hRm.1, hRm.2, pay_gt hts w1, by rw [← hcode]; exact List.mem_cons_self⟩, by rw [← hcode]; exact hts _ w1, hts _ w2, w3, hlen, hts _ l1⟩, hts _ l2, trivial⟩
theorem z_invokespecial {index n a bk1 bn1 : Nat} {dd : MD} {as rest : List Value} {P1 : PO} (hd : decode d.cc pc = .ok (.invokespecial index, 3)) (hv : ilk d.y.cls index dd n) (hcon : con g dd bk1 bn1 (.ref a :: as) M P1) (hC : clk d dd bk1 bn1 bk bn) (hn : as.length = n) (hst : st = as.reverse ++ .ref a :: rest) (hw : (rest.map fun v => v.category).sum ≤ 8)
    (kk : ∀ (v : Option Value) (M' : Mem), P1 (.inl v) M' → tri g d (bk - bk1) (bn - bn1) P M' (pc + 3) ls (v.toList ++ rest)) (kx : ∀ (E : String) (M' : Mem), P1 (.inr E) M' → trx g d (bk - bk1) (bn - bn1) P M' pc ls rest E) : tri g d bk bn P M pc ls st := by
  intro p e R s m args below meth c H locs cells slots lsA hb hc hS hr hl
  obtain ⟨⟨w1, w2, w3, w4, w5⟩, l1, l2, l3, l4⟩ := hv
  have hts := hb.2.2.2.1
  have hcode := md_w0 w5
  rw [l4] at hcode
  have hRm := room_ok hC.1 ⟨hb.2.2.2.2.2.1.2.1, hb.2.2.2.2.2.1.2.2⟩
  have hlen : ∀ sig, parseMethodDescriptor dd.y.desc = some sig → n = sig.parameters.length := fun sig h => by
    rw [h] at w4
    exact (Option.some.inj w4).symm
  rcases l1 with l1 | ⟨host, l1⟩
  · refine run_go hb hc hC.2.1 hC.2.2 hS hl (vx_runI (bytes := dd.cc) (maxL := dd.nL) (As := as) (rest := rest) (n := n) ⟨hb.1.1, hb.1.2, hb.2.1.2, hb.2.2.1, hts⟩ hcon ?_ ⟨gP_blind g _ M, gP_start hb.2.2.2.2.2.2 hS hr⟩ rfl hn hl.1.1 hst (lv_room hw) hd ⟨by have := hC.2.1; omega, by have := hC.2.2; omega⟩) kk kx
    exact ⟨⟨rfl, rfl, hRm.1, hRm.2, pay_gt hts w1, by rw [← hcode]; exact List.mem_cons_self, by rw [← hcode]; exact hts _ w1, hts _ w2, w3, hlen, hts _ l1⟩, l3, hts _ l2⟩
  · refine run_go hb hc hC.2.1 hC.2.2 hS hl (vx_runIN (bytes := dd.cc) (maxL := dd.nL) (As := as) (rest := rest) (n := n) (host := host) ⟨hb.1.1, hb.1.2, hb.2.1.2, hb.2.2.1, hts⟩ hcon ?_ ⟨gP_blind g _ M, gP_start hb.2.2.2.2.2.2 hS hr⟩ rfl hn hl.1.1 hst (lv_room hw) hd ⟨by have := hC.2.1; omega, by have := hC.2.2; omega⟩) kk kx
    exact ⟨⟨⟨rfl, rfl, hRm.1, hRm.2, pay_gt hts w1, by rw [← hcode]; exact List.mem_cons_self⟩, by rw [← hcode]; exact hts _ w1, hts _ w2, w3, hlen, hts _ l1⟩, l3, hts _ l2⟩
/-- thrown on to the caller -/
theorem x_out {E : String} (hh : d.hh = []) (hP : P (.inr E) M) : trx g d bk bn P M pc ls st E := by
  intro p e R s m args below meth c H locs cells slots lsA q ce hb hc hS hr hl hce hcv hcl
  have hT : c.exceptionTable.toList = tableOf d.hh := hb.2.2.2.2.1.2
  rw [hh] at hT
  exact vx_out (fun x hx => by rw [hT] at hx; cases hx) hb.2.2.2.2.1.1 hce hcv hcl (fun t ht hal => ⟨M, hP, by rw [ht]; exact hr.moved hal, hS.F ht⟩) (fun z hz => hS.2.2 z hz) (by omega) (by omega)
/-- a method's contract out of its walk -/
theorem con_of {as : List Value} (hp : plainName d.y.cls = true) (hh : d.hh = []) (hlen : (lg_sl as).length ≤ d.nL) (hcat : ∀ q ∈ lv_args 0 as, q.2.category = 1) (hnd : lnd (lv_args 0 as)) (h : tri g d bk bn P M 0 (lv_args 0 as) []) : con g d bk bn as M P := by
  refine vx_ofW (cc := d.cc) (maxL := d.nL) (ret := d.rt) (ws' := GT) hp (by rw [md_w0 hh]) ?_
  intro p e s m args below meth c s₁ B hml ht hv
  obtain ⟨rfl, hG, hr⟩ := hv
  have hts := atoms_spec (ws := md_w d :: GT) B.pre
  have hnm := name_of_methodNamed B.named B.method
  have hT : c.exceptionTable.toList = tableOf d.hh := by
    rw [hh]
    cases hx : c.exceptionTable.toList with
    | nil => rfl
    | cons x l => exact (ht x (by rw [hx]; exact List.mem_cons_self)).elim
  have hl := lv_entry as (n := d.nL) hlen
  rw [lg_entry_eq]
  exact h p e _ s m as.toArray below meth c s.heap [] 0 0 _ ⟨⟨B.exec, B.bytes⟩, ⟨B.returns, hml⟩, findClass_of_methodNamed B.named, fun w hw => hts w (List.mem_cons_of_mem _ hw), ⟨B.notSynchronized, hT⟩, ⟨hnm.1, Nat.le_refl _, Nat.le_refl _⟩, hG⟩ ⟨Nat.le_of_eq (Nat.zero_add _), Nat.le_of_eq (Nat.zero_add _)⟩ va_S.rf hr ⟨hl, hcat, hnd⟩
end RULES3
section RULES4
variable {g : GG} {d : MD} {bk bn : Nat} {P : PO} {M : Mem} {pc : Nat} {ls : List (Nat × Value)} {st : List Value}
/-- new E("text"), thrown -/
def thk (own : String) (ik is ic : Nat) (cls text : String) : Prop := Bundle.fit cls = true ∧ Cond.classLink own ik cls ∈ GT ∧ Cond.initialized cls ∈ GT ∧ (own, is, text) ∈ strs ∧ (∀ w ∈ vx_atS own ic cls ["java/lang/RuntimeException", "java/lang/Exception"], w ∈ GT) ∧ ∀ w ∈ Cond.classLink own ik cls :: Cond.initialized cls :: vx_atS own ic cls ["java/lang/RuntimeException", "java/lang/Exception"], vx_ot w = true
theorem z_throw {ik is ic : Nat} {cls text : String} (hT : thk d.y.cls ik is ic cls text) (d0 : decode d.cc pc = .ok (.new ik, 3)) (d3 : decode d.cc (pc + 3) = .ok (.dup, 1)) (d4 : decode d.cc (pc + 4) = .ok (.ldc is, 2)) (d6 : decode d.cc (pc + 6) = .ok (.invokespecial ic, 3)) (d9 : decode d.cc (pc + 9) = .ok (.athrow, 1))
    (hh : d.hh = []) (hroom : 6 ≤ d.fr ∧ 90 ≤ d.lo ∧ 1 ≤ bk ∧ 6 ≤ bn) (hw : (st.map fun v => v.category).sum ≤ 8) (hP : P (.inr cls) M) : tri g d bk bn P M pc ls st := by
  intro p e R s m args below meth c H locs cells slots lsA hb hc hS hr hl
  obtain ⟨t1, t2, t3, t4, t5, t6⟩ := hT
  obtain ⟨hG0, hG1, ⟨hG2, hG3⟩, ⟨hG4, hG4n⟩, hG5⟩ := hb.2.2.2.2.2.2
  obtain ⟨sa, hsa⟩ := hG4 _ t4
  have hts := hb.2.2.2.1
  have hTb : c.exceptionTable.toList = tableOf d.hh := hb.2.2.2.2.1.2
  rw [hh] at hTb
  have hfr := hb.2.2.2.2.2.1.2.1
  have hlo := hb.2.2.2.2.2.1.2.2
  refine W.widen (k := cells) (n := slots) (Nat.le_refl _) (Nat.le_refl _) ?_
  refine vx_throwS (cls := cls) (text := text) (names := ["java/lang/RuntimeException", "java/lang/Exception"]) (sa := sa) (A := g.A) hb.1.1 hb.1.2 hG0.2 hb.2.2.1 t1 (by decide) (hts _ t2) (hts _ t3) hsa (fun w hw => hts w (t5 w hw)) t6 hG2 hG3 hS (by rw [hl.1.1, hb.2.1.2]) d0 d3 d4 d6 d9
    (fun x hx => by rw [hTb] at hx; cases hx) (by show 2 + 3 < _; omega) (by show _ + (13 * (2 + 1) + 43) ≤ _; omega) (by omega) (by omega) hb.2.2.2.2.1.1 (fun t hal hz hk => ?_) (fun z hz => hS.2.2 z hz) (by omega) (by omega)
  refine ⟨M, hP, fun q e hq => ⟨(hr q e hq).1, ((hr q e hq).2.kept (hk q (hr q e hq).2.lt)).moved hal⟩, Nat.le_trans hS.1 hz, fun q h1 h2 => (hk q (Nat.lt_of_lt_of_le h1 hS.1)).trans (hS.2.1 q h1 h2)⟩
/-- caught by a row of the table; the rows ahead name other classes -/
theorem x_catch {E : String} (pre : List (Nat × Nat × Nat × Nat)) (x : Nat × Nat × Nat × Nat) (suf : List (Nat × Nat × Nat × Nat)) (hsplit : d.hh = pre ++ x :: suf)
    (hpass : ∀ z ∈ pre, ∃ nm : String, z.2.2.2 ≠ 0 ∧ Cond.classLink d.y.cls z.2.2.2 nm ∈ GT ∧ (E, nm) ∈ ncs) (hx : x.1 ≤ pc ∧ pc < x.2.1) (h0 : x.2.2.2 ≠ 0)
    {name : String} (hlink : Cond.classLink d.y.cls x.2.2.2 name ∈ GT) (hcast : Cond.castable E name ∈ GT) (kk : ∀ q : Nat, tri g d bk bn P M x.2.2.1 ls [.ref q]) : trx g d bk bn P M pc ls st E := by
  intro p e R s m args below meth c H locs cells slots lsA q ce hb hc hS hr hl hce hcv hcl
  have hTb : c.exceptionTable.toList = tableOf d.hh := hb.2.2.2.2.1.2
  rw [hsplit] at hTb
  have hts := hb.2.2.2.1
  refine vx_catch hb.2.2.1 (tableOf pre) ⟨x.1, x.2.1, x.2.2.1, x.2.2.2⟩ (tableOf suf) (by rw [hTb]; simp [tableOf]) (fun z hz => ?_) ?_ h0 (hts _ hlink) (hts _ hcast) hce hcv hcl (kk q p e R s m args below meth c H locs cells slots lsA hb hc hS hr hl)
  · obtain ⟨y, hy, rfl⟩ := List.mem_map.mp hz
    obtain ⟨nm, h1, h2, h3⟩ := hpass y hy
    exact Or.inr ⟨h1, nm, hts _ h2, hb.2.2.2.2.2.2.2.2.2.1.2 _ h3⟩
  · show covers _ pc = true
    simp [covers, hx.1, hx.2]
/-- the contract of a method with handlers -/
theorem con_ofW {as : List Value} (hp : plainName d.y.cls = true) (hh : md_w d = .codeWith d.y d.cc d.nL d.rt d.hh) (hlen : (lg_sl as).length ≤ d.nL) (hcat : ∀ q ∈ lv_args 0 as, q.2.category = 1) (hnd : lnd (lv_args 0 as)) (h : tri g d bk bn P M 0 (lv_args 0 as) []) : con g d bk bn as M P := by
  refine vx_ofWH (cc := d.cc) (maxL := d.nL) (ret := d.rt) (hh := d.hh) (ws' := GT) hp (by rw [hh]) ?_
  intro p e s m args below meth c s₁ B hml hv
  obtain ⟨rfl, hG, hr⟩ := hv
  have hts := atoms_spec (ws := md_w d :: GT) B.pre
  have hnm := name_of_methodNamed B.named B.method
  have hw0 := hts _ List.mem_cons_self
  rw [hh] at hw0
  have hT : c.exceptionTable.toList = tableOf d.hh := vx_table (x := d.y) B hw0
  have hl := lv_entry as (n := d.nL) hlen
  rw [lg_entry_eq]
  exact h p e _ s m as.toArray below meth c s.heap [] 0 0 _ ⟨⟨B.exec, B.bytes⟩, ⟨B.returns, hml⟩, findClass_of_methodNamed B.named, fun w hw => hts w (List.mem_cons_of_mem _ hw), ⟨B.notSynchronized, hT⟩, ⟨hnm.1, Nat.le_refl _, Nat.le_refl _⟩, hG⟩ ⟨Nat.le_of_eq (Nat.zero_add _), Nat.le_of_eq (Nat.zero_add _)⟩ va_S.rf hr ⟨hl, hcat, hnd⟩
end RULES4
