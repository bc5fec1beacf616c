/-! ===== invokestatic of a static method that the named class inherits: own row (the kit's narrow library has none) ===== -/
theorem jx_cold {Q : Unit → Pre} {E : CtlPost} {e : Env} {d : Bool} {acts : List Action} {u u₀ : State} {f : JFrame} {index ci nt c : Nat} {m : MethodId} {kd kc : Class} {cf : ClassFile} {nm ds : String}
    (htop : u.topJava?.isSome) (hpoly : e.platform.polymorphicOnlyByInvokevirtual = true) (hW : u₀.WarmedH u.vm) (hE : u₀.MethodEntryUp e u.vm f.method.cls index c m ci)
    (hkd : u₀.vm.classes[f.method.cls]? = some kd) (hcf : kd.cf = some cf) (hcp : cf.constantPool[index]? = some (.methodref ci nt)) (hnt : cf.constantPool.nameAndType? nt = some (nm, ds))
    (hkc : u₀.vm.classes[c]? = some kc) (hnp : (kc.methods.any fun x => x.name == nm && !x.isStatic && signaturePolymorphic kc x) = false) :
    wp (invokestatic.sem index) Q E e d acts (u.setTop f) ↔ wp (invokestatic.sem index) Q E e d acts ((u.setVm (u.vm.calledUp f.method.cls ci index c m)).setTop f) := by
  obtain ⟨hg1, hr1, hW1, hg2⟩ := hE.classFirst
  obtain ⟨ka, hka, hea⟩ := hW.alike.2.2 _ _ hkd
  obtain ⟨kb, hkb, heb⟩ := hE.warmed.alike.2.2 _ _ hkd
  obtain ⟨ca, hca, heca⟩ := hW1.alike.2.2 _ _ hkc
  obtain ⟨cb, hcb, hecb⟩ := hE.warmed.alike.2.2 _ _ hkc
  have hcp' : cf.constantPool[index]? = some (if false then .interfaceMethodref ci nt else .methodref ci nt) := hcp
  have ask1 := memberRef_ask_via (e := e) hka (by rw [hea]; exact hcf) hcp' hnt
  have ask2 := memberRef_ask_via (e := e) hkb (by rw [heb]; exact hcf) hcp' hnt
  have np1 : (ca.methods.any fun x => x.name == nm && !x.isStatic && signaturePolymorphic ca x) = false := by rw [heca]; exact hnp
  have np2 : (cb.methods.any fun x => x.name == nm && !x.isStatic && signaturePolymorphic cb x) = false := by rw [hecb]; exact hnp
  have top1 : (u.setVm (u.vm.noted f.method.cls ci (.cls c))).topJava?.isSome := htop
  have top2 : (u.setVm (u.vm.calledUp f.method.cls ci index c m)).topJava?.isSome := htop
  have rc : ∀ {Q' : ClassId → Pre} {d' : Bool} {acts' : List Action}, wp (Jvm.resolveClassAt ci) Q' E e d' acts' (u.setTop f) ↔ Q' c d' acts' ((u.setVm (u.vm.noted f.method.cls ci (.cls c))).setTop f) :=
    Jvm.W.resolveClassAt_links (t := u.setTop f) (State.method?_setTop f htop) hg1
  have rm : ∀ {Q' : MethodId → Pre} {d' : Bool} {acts' : List Action}, wp (Jvm.resolveMethodAt index) Q' E e d' acts' ((u.setVm (u.vm.noted f.method.cls ci (.cls c))).setTop f) ↔ Q' m d' acts' ((u.setVm (u.vm.calledUp f.method.cls ci index c m)).setTop f) :=
    Jvm.W.resolveMethodAt_links (t := (u.setVm (u.vm.noted f.method.cls ci (.cls c))).setTop f) (State.method?_setTop f top1) hg2
  simp [invokestatic.sem, hpoly, Seam.memberRefOf, State.method?_setTop f htop, State.method?_setTop f top2, ask1, ask2, rc, Jvm.W.resolveClassAt_ready (s := (u.setVm (u.vm.calledUp f.method.cls ci index c m)).setTop f) (State.method?_setTop f top2) hE.classReady,
    hca, hcb, np1, np2, rm, Jvm.W.resolveMethodAt_ready (s := (u.setVm (u.vm.calledUp f.method.cls ci index c m)).setTop f) (State.method?_setTop f top2) hE.ready, -Array.any_eq_true]
section JSU
variable {p : Program} {l : Launch} {e : Env} {R : Room} {s : State} {m : MethodId} {args : Array Value} {below : List Frame} {meth : Method} {c : Code} {T : State} {locs : List Loc} {cells slots : Nat}
/-- the call, from the words: the class names x, the method found is y, static, of an initialised class -/
theorem jcallSUp (X : Stand p l e R s m args below meth c T locs cells slots) (hexec : p.tables.exec = Jvm.exec) {own owner : String} {index : Nat} {x y : MethodName} {bytes : ByteArray} {maxL : Nat} {ret : Option FieldType} (hy : y = ⟨owner, x.name, x.desc⟩)
    (hown : s.vm.findClass own = some m.cls) (hlink : (Cond.methodLink own index x).before args s = true) (hsame : (Cond.sameMethod x.cls owner x.name x.desc).before args s = true) (hstat : (Cond.static y).before args s = true) (hinit : (Cond.initialized y.cls).before args s = true)
    (hcode : (Cond.code y bytes maxL ret).before args s = true) (hno : owner ≠ "java/lang/invoke/MethodHandle" ∧ owner ≠ "java/lang/invoke/VarHandle")
    {W : Nat} {Pre : Pt → Array Value → Prop} {Post : Pt → Array Value → Option Value → Pt → Prop} (hK : Back l R p e below s args y 3 W Pre Post)
    {g : JFrame} (hg : g.method = m) (hsize : g.locals.size = c.maxLocals) {argsL rest : List Value} (hlen : ∀ sig, parseMethodDescriptor y.desc = some sig → argsL.length = sig.parameters.length)
    (hstack : g.stack = argsL.reverse ++ rest) (hW : 2 * g.monitorRoom + (rest.map fun v => v.category).sum ≤ W) (hdg : decode c.code g.pc = .ok (.invokestatic index, 3))
    (hpre : ∀ vm₁, s.WarmedH vm₁ → Pre ⟨T.setVm vm₁, locs, cells, slots⟩ argsL.toArray) :
    ∃ (v : Option Value) (vm₁ : Vm) (B : Pt), s.WarmedH vm₁ ∧ Stand p l e R s m args below meth c B.U B.locs B.cells B.slots ∧ Post ⟨T.setVm vm₁, locs, cells, slots⟩ argsL.toArray v B ∧
      ∀ target, Steps p.tables e below (B.U.setTop { g with pc := g.pc + 3, stack := v.toList ++ rest }) target → Steps p.tables e below (T.setTop g) target := by
  obtain ⟨mk, hnamed⟩ := Cond.code_named hcode
  obtain ⟨methM, cM, hmethM, -, -, -, -, -, -, hsigM⟩ := Cond.code_spec hnamed hcode
  have hstatic : methM.isStatic = true := Cond.static_spec hnamed hmethM hstat
  obtain ⟨kP, hkP, hnP⟩ := className_of_methodNamed hnamed
  have hinitP : kP.init = .initialized := Cond.initialized_spec (findClass_of_methodNamed hnamed) hkP hinit
  have hl0 := hlen _ hsigM
  have hn : s.methodNamed? ⟨owner, x.name, x.desc⟩ = some mk := by rw [← hy]; exact hnamed
  have hnP' : kP.name = owner := by rw [hnP, hy]
  have hpl : e.platform.magicAccessors = ({} : Platform).magicAccessors := by rw [X.admits.platform]
  have hpv : e.platform.polymorphicOnlyByInvokevirtual = true := by rw [X.admits.platform]
  obtain ⟨cn, ck, r1, hcn, hck, hni, hf, hn1⟩ := Cond.sameMethod_found hsame
  cases hn.symm.trans hn1
  obtain ⟨ci, hl, hright⟩ := Cond.methodLink_specUp hown hcn hck hni hf hlink e.platform hpl (by rw [X.admits.platform])
  have hE : s.MethodEntryUp e T.vm m.cls index cn mk ci := State.methodEntryUp X.warmed hl hright
  obtain ⟨dk, cfile, nt, mname, mdesc, ck', _, _, hd, hcf, hcp, hnt, -, -, hck', -, hnopoly, -⟩ := hl.here
  cases hck.symm.trans hck'
  have alike := hE.warmed.alike
  obtain ⟨dk₂, hdk₂, hed₂⟩ := alike.2.2 _ _ hd
  obtain ⟨k₂, hk₂, he₂⟩ := alike.2.2 _ _ hkP
  obtain ⟨ck₂, hck₂, hec₂⟩ := alike.2.2 _ _ hck
  have hnone : (ck.methods.any fun z => z.name == mname && !z.isStatic && signaturePolymorphic ck z) = false := by simp [hnopoly]
  have hnone₂ : (ck₂.methods.any fun z => z.name == mname && !z.isStatic && signaturePolymorphic ck₂ z) = false := by rw [hec₂]; exact hnone
  have hcp' : cfile.constantPool[index]? = some (if false then .interfaceMethodref ci nt else .methodref ci nt) := hcp
  obtain ⟨vm₁, X₁, hstep⟩ : ∃ vm', Stand p l e R s m args below meth c (T.setVm vm') locs cells slots ∧
      ∀ target, (∀ acts, Steps p.tables e below (doInvoke e ((T.setVm vm').setTop { g with stack := rest }) acts mk argsL.toArray).1 target) → Steps p.tables e below (T.setTop g) target := by
    refine ⟨T.vm.calledUp m.cls ci index cn mk, X.noted hE.warmed, fun target hrest => ?_⟩
    subst hg
    jvm_step X.here [hexec, hdg, jx_cold (e := e) (u := T) (u₀ := s) (f := g) X.here.top hpv X.warmed hE hd hcf hcp hnt hck hnone,
      invokestatic.wp_ready (e := e) (s := T.setVm (T.vm.calledUp g.method.cls ci index cn mk)) (k := k₂) (meth := methM) (m := mk) (args := argsL) (rest := rest) (f := g)
        X.here.top ⟨ci, mname, mdesc, false, cn, ck₂, memberRef_ask_via (e := e) hdk₂ (by rw [hed₂]; exact hcf) hcp' hnt, hE.classReady, hck₂, hnone₂⟩ hE.ready hk₂
        (by show (T.vm.calledUp g.method.cls ci index cn mk).method? mk = some methM; rw [alike.method?]; exact hmethM)
        (by rw [he₂]; show signaturePolymorphic kP methM = false; simp [signaturePolymorphic, hnP', hno.1, hno.2]) hstatic (by rw [he₂]; exact hinitP) hl0 hstack]
    exact fun acts => hrest _
  obtain ⟨v, B, X', hpost, hsteps⟩ := hK m meth c ⟨T.setVm vm₁, locs, cells, slots⟩ { g with stack := rest } (.invokestatic index) mk argsL.toArray X₁ hg hsize hdg hW (X₁.named hnamed) (hpre vm₁ X₁.warmed)
  exact ⟨v, vm₁, B, X₁.warmed, X', hpost, fun target h => hstep _ fun acts => by rw [doInvoke_state]; exact hsteps.trans h⟩
variable {H : Heap}
theorem jrunSUp {x y : MethodName} {bytes cc : ByteArray} {maxL nL mc ms n index : Nat} {ret : Option FieldType} {ws ws' : List Cond} {rm : Room} {Pc : Array Value → State → Prop} {Qc : Array Value → State → Outcome → State → Prop} {free : Addr → Prop} {Ts : List Cond} {own owner : String} {As rest : List Value} {g : JFrame}
    (S : CallFix p m c cc nL s args Ts own) (hM : Met l y ws rm Pc Qc mc ms free) (hy : y = ⟨owner, x.name, x.desc⟩) (hG : GoodIn Ts ws) (hw : ws = Cond.code y bytes maxL ret :: ws') (hrc : rm.cells = mc) (hrs : rm.slots = ms)
    (hlink : Cond.methodLink own index x ∈ Ts) (hsame : Cond.sameMethod x.cls owner x.name x.desc ∈ Ts) (hstat : Cond.static y ∈ Ts) (hinit : Cond.initialized y.cls ∈ Ts)
    (hd : owner ≠ "java/lang/invoke/MethodHandle" ∧ owner ≠ "java/lang/invoke/VarHandle" ∧ (parseMethodDescriptor y.desc).map (fun d => d.parameters.length) = some n) (hR : rm.frames + 1 ≤ R.frames ∧ 8 + (maxL + 11) + rm.locals ≤ R.locals) (hp : PreS s H Pc As)
    (hg : g.method = m) (hn : As.length = n) (hsize : g.locals.size = nL) (hstack : g.stack = As.reverse ++ rest) (hW : 2 * g.monitorRoom + (rest.map fun v => v.category).sum ≤ 8) (hdg : decode cc g.pc = .ok (.invokestatic index, 3)) (hf : cells + mc ≤ R.cells ∧ slots + ms ≤ R.slots) :
    va_Run p l e R s m args below meth c H locs cells slots mc ms g rest (Qc As.toArray) (free) := by
  obtain ⟨hx, hb, hml, ho, hts⟩ := S
  have hc : Cond.code y bytes maxL ret ∈ ws := by rw [hw]; exact List.mem_cons_self
  have hK : Back l R p e below s args y 3 8 (PreOf R mc ms Pc) (PostOf Qc mc ms free) := back_of (bytes := bytes) (maxL := maxL) (ret := ret) hM hp.1 hrc hrs hR.1 hR.2 (pay_in hts hG) hc (fun a' U hW => word_at hW (Or.inl (by first | rfl | simp [Cond.onTables, Cond.keeps, Cond.steady])) (hts _ hinit))
  intro T hT X
  obtain ⟨v, vm₁, ⟨U', l2, c2, s2⟩, hW₁, X', ⟨g', mk, t, L, e1, e2, hq, h1, hL, h2, h3⟩, st⟩ := jcallSUp X hx hy ho (hts _ hlink) (hts _ hsame) (hts _ hstat) (hts _ hinit) (hts _ (hG _ hc).1) ⟨hd.1, hd.2.1⟩ hK hg (hsize.trans hml.symm) (argsL := As) (rest := rest)
    (fun sig h => hn.trans (by have h2 := hd.2.2; rw [h] at h2; exact (Option.some.inj h2).symm)) hstack hW (by rw [hb]; exact hdg) (fun vm₁ hW₁ => ⟨hf.1, hf.2, hp.2 (T.setVm vm₁) hT hW₁⟩)
  dsimp only [Pt.U, Pt.locs, Pt.cells, Pt.slots] at X' e1 e2 h1 h2 h3 st
  subst h1; subst h2; subst h3
  exact ⟨v, (T.setVm vm₁).calling g' mk As.toArray, t, U', L, hT, X', hL, e1, e2, hq, st⟩
end JSU
theorem jgu {c : Cond} {e ws x : List Cond} (h : GoodIn ws x) : GoodIn (c :: (e ++ ws)) x := fun w hw => ⟨List.mem_cons_of_mem _ (List.mem_append_right _ (h w hw).1), (h w hw).2⟩
theorem jgc {big e ws : List Cond} {c : Cond} (h : GoodIn big ws) (hc : c ∈ ws) (he : GoodIn big e) : GoodIn big (c :: (e ++ ws)) := fun w hw => (List.mem_cons.mp hw).elim (fun x => by rw [x]; exact h c hc) (fun x => (List.mem_append.mp x).elim (he w) (h w))
/-- the words that Weak's constructor needs beside its printed ones -/
def jext : List Cond := [.methodLink RX5 3 ⟨"JamDays$Weak", "plainMould", "(I)I"⟩, .sameMethod "JamDays$Weak" "JamDays$Jar" "plainMould" "(I)I", .static yX3_plainMould, .initialized RX3, .code yX3_plainMould cX3_plainMould 1 (some .int), .methodLink RX3 28 Lib.Math.max.name, .static Lib.Math.max.name, .initialized "java/lang/Math", .code Lib.Math.max.name Lib.Math.max.code 2 (some .int)]
def wsX5_initE : List Cond := .code yX5_init cX5_init 3 none :: (jext ++ wsX5_init)
def wsX6_readJarE : List Cond := .code yX6_readJar cX6_readJar 4 (some (.object "JamDays$Jar")) :: (jext ++ wsX6_readJar)
def wsX6_larderE : List Cond := .code yX6_larder cX6_larder 2 (some .int) :: (jext ++ wsX6_larder)
theorem jg_5_pm : GoodIn wsX5_initE wsX3_plainMould := goodIn_r _ [5, 6, 7, 8, 9] (by decide +kernel) (by decide +kernel)
theorem jg_rj_ext : GoodIn wsX6_readJarE jext := goodIn_r _ [1, 2, 3, 4, 5, 6, 7, 8, 9] (by decide +kernel) (by decide +kernel)
theorem jg_la_ext : GoodIn wsX6_larderE jext := goodIn_r _ [1, 2, 3, 4, 5, 6, 7, 8, 9] (by decide +kernel) (by decide +kernel)
theorem jg_rj_5 : GoodIn wsX6_readJarE wsX5_initE := jgc (jgu gX6_readJar_X5_init) List.mem_cons_self jg_rj_ext
