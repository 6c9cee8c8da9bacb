section
/-! ===== BEGIN words of one list among another's, by their places ===== -/
theorem goodIn_r {big : List Cond} (ws : List Cond) (ps : List Nat) (hp : ws = ps.filterMap (fun i => big[i]?)) (h : ws.all goodWord = true) : GoodIn big ws := by
  intro w hw
  have h1 := List.all_eq_true.mp h w hw
  rw [hp] at hw
  obtain ⟨i, -, hi⟩ := List.mem_filterMap.mp hw
  have hm : w ∈ big := by first | exact List.mem_of_getElem? hi | exact List.getElem?_mem hi
  exact ⟨hm, good_of_word h1⟩
theorem goodIn_app {big a b : List Cond} (ha : GoodIn big a) (hb : GoodIn big b) : GoodIn big (a ++ b) := fun w h => (List.mem_append.mp h).elim (ha w) (hb w)
theorem goodIn_ca {big a b : List Cond} {c : Cond} (ha : GoodIn big (c :: a)) (hb : GoodIn big b) : GoodIn big (c :: (a ++ b)) := fun w h => (List.mem_cons.mp h).elim (fun e => ha w (List.mem_cons.mpr (Or.inl e))) (fun h => (List.mem_append.mp h).elim (fun h => ha w (List.mem_cons.mpr (Or.inr h))) (hb w))
theorem goodIn_sub {big ws : List Cond} (hm : ∀ w ∈ ws, w ∈ big) (h : ws.all goodWord = true) : GoodIn big ws := fun w hw => ⟨hm w hw, good_of_word (List.all_eq_true.mp h w hw)⟩
/-! ===== END ===== -/

/-! ===== BEGIN exceptions that leave a method, and their catching by the caller (launches without stack traces) ===== -/
section VXA
/-! The laws vx_back, vx_callV, vx_callS, vx_callSW, vx_throw0, vx_throwS follow proofs of the library, with one case more: JvmDerived/Free/Laws.lean (Back.of_free), Shelf42/LK1.lean (callV, callS), Shelf/KitTraced.lean (throwNew0V, throwNewS). -/
/-- where a method has thrown q: the class by its name, the cell, what was written, the world -/
def vx_T (XC : String → State → State → Prop) (st : State) (q : Addr) (t : State) (mc ms : Nat) (free : Addr → Prop) : Prop :=
  ∃ (E : String) (ce : Cell) (L : List Loc), XC E st t ∧ t.heap[q]? = some ce ∧ ce.vm = .none ∧ st.vm.findClass E = some ce.cls ∧ st.WarmedH t.vm ∧ st.sameButNew ({ t with vm := st.vm } : State) L mc ms ∧ ∀ z ∈ L, free z.base
def vx_Q (Qc : Array Value → State → Outcome → State → Prop) (XC : String → State → State → Prop) (mc ms : Nat) (free : Addr → Prop) : Array Value → State → Outcome → State → Prop := fun a st o t =>
  (Qc a st o t ∧ ∃ L, FrameEnd st o t L mc ms ∧ ∀ q ∈ L, free q.base) ∨ ∃ q, o = .threw q ∧ vx_T XC st q t mc ms free
/-- a callee that returns or throws -/
def vx_Met (l : Launch) (y : MethodName) (ws : List Cond) (rm : Room) (Pc : Array Value → State → Prop) (Qc : Array Value → State → Outcome → State → Prop) (XC : String → State → State → Prop) (mc ms : Nat) (free : Addr → Prop) : Prop :=
  MetFree l y (headSpec ws rm) Pc (fun _ _ _ _ _ => True) (vx_Q Qc XC mc ms free)
def vx_Post (XC : String → State → State → Prop) (mc ms : Nat) (free : Addr → Prop) : Pt → Array Value → Addr → Pt → Prop := fun A a q B =>
  ∃ (g : JFrame) (mk : MethodId) (t : State) (L : List Loc) (E : String) (ce : Cell), B.U.heap = t.heap ∧ B.U.vm = t.vm ∧ XC E (A.U.calling g mk a) t ∧ t.heap[q]? = some ce ∧ ce.vm = .none ∧ A.U.vm.findClass E = some ce.cls ∧ B.locs = A.locs ++ L ∧ (∀ z ∈ L, free z.base) ∧ B.cells = A.cells + mc ∧ B.slots = A.slots + ms
def vx_Back (l : Launch) (R : Room) (p : Program) (e : Env) (below : List Frame) (s : State) (sargs : Array Value) (y : MethodName) (len W9 : Nat)
    (Pre : Pt → Array Value → Prop) (Post : Pt → Array Value → Option Value → Pt → Prop) (PostX : Pt → Array Value → Addr → Pt → Prop) : Prop :=
  ∀ (m : MethodId) (meth : Method) (c : Code) (A : Pt) (g : JFrame) (ig : Instr) (mk : MethodId) (a : Array Value),
    Stand p l e R s m sargs below meth c A.U A.locs A.cells A.slots → g.method = m → g.locals.size = c.maxLocals → decode c.code g.pc = .ok (ig, len) →
    2 * g.monitorRoom + (g.stack.map fun v => v.category).sum ≤ W9 → A.U.methodNamed? y = some mk → Pre A a →
    (∃ (v : Option Value) (B : Pt), Stand p l e R s m sargs below meth c B.U B.locs B.cells B.slots ∧ Post A a v B ∧
      Steps p.tables e below (doInvoke e (A.U.setTop g) [] mk a).1 (B.U.setTop { g with pc := g.pc + len, stack := v.toList ++ g.stack })) ∨
    (∃ (q : Addr) (B : Pt), Stand p l e R s m sargs below meth c B.U B.locs B.cells B.slots ∧ PostX A a q B ∧
      Steps p.tables e below (doInvoke e (A.U.setTop g) [] mk a).1 ((B.U.setTop g).pushFrame (.throwing q)))
section Payer
variable {l : Launch} {R : Room} {p : Program} {e : Env} {below : List Frame} {s : State} {sargs : Array Value} {y : MethodName} {len W9 : Nat}
theorem vx_back {ws : List Cond} {rm : Room} {Pc : Array Value → State → Prop} {Qc : Array Value → State → Outcome → State → Prop} {XC : String → State → State → Prop} {mc ms : Nat} {free : Addr → Prop} {bytes : ByteArray} {maxL : Nat} {ret : Option FieldType}
    (hM : vx_Met l y ws rm Pc Qc XC mc ms free) (hblind : FrameBlind Pc) (hrc : rm.cells = mc) (hrs : rm.slots = ms)
    (hframes : rm.frames + 1 ≤ R.frames) (hlocals : W9 + (maxL + 11) + rm.locals ≤ R.locals)
    (hws : ∀ w ∈ ws, ∀ a' U, s.WarmedH U.vm → w.before a' U = true) (hcode : Cond.code y bytes maxL ret ∈ ws) (hinit : ∀ a' U, s.WarmedH U.vm → (Cond.initialized y.cls).before a' U = true) :
    vx_Back l R p e below s sargs y len W9 (PreOf R mc ms Pc) (PostOf Qc mc ms free) (vx_Post XC mc ms free) := by
  intro m meth c A g ig mk a X hg hsize hdg hW hn hp
  have h1 : (headSpec ws rm).pre.before a A.U = true := atoms_intro fun w hw => hws w hw _ _ X.warmed
  have h2 : (Cond.code y bytes maxL ret).before a A.U = true := hws _ hcode _ _ X.warmed
  have h3 : (Cond.initialized y.cls).before a A.U = true := hinit _ _ X.warmed
  have h4 : A.cells + (headSpec ws rm).room.cells ≤ R.cells := by rw [show (headSpec ws rm).room.cells = mc from hrc]; exact hp.1
  have h5 : A.slots + (headSpec ws rm).room.slots ≤ R.slots := by rw [show (headSpec ws rm).room.slots = ms from hrs]; exact hp.2.1
  have hPc : Pc a (A.U.calling g mk a) := hblind _ _ _ _ hp.2.2
  obtain ⟨U, Ls, c0, s0⟩ := A
  dsimp only [Pt.U, Pt.locs, Pt.cells, Pt.slots] at h1 h2 h3 h4 h5 X hn hPc ⊢
  obtain ⟨methY, cY, hmY, hcY, -, hlY, -, -, -, -⟩ := Cond.code_spec hn h2
  obtain ⟨kY, hkY, -⟩ := className_of_methodNamed hn
  have hinitY : kY.init = .initialized := Cond.initialized_spec (findClass_of_methodNamed hn) hkY h3
  have h : At U g.method c below := by rw [hg]; exact X.here
  have hlocals9 : W9 + (maxL + 11) + (headSpec ws rm).room.locals ≤ R.locals := hlocals
  have happ : (headSpec ws rm).appliesLoose y e.platform (U.calling g mk a) = true :=
    Spec.appliesLoose_calling (g := g) h hdg hn hkY hinitY
      (X.room_calling (g := g) (R' := (headSpec ws rm).room) hsize hmY hcY hframes (by rw [hlY]; omega) h4 h5) h1
  obtain ⟨mid, hmid⟩ := h.above
  have hfr : (U.setTop g).frames = (.java g :: mid) ++ below := by rw [State.frames_setTop' g h.top, hmid]; rfl
  obtain ⟨o, s₂, hsteps, -, hend, hq⟩ := Steps.callFree hM p X.admits X.cas X.clock (acts := []) hfr happ hPc trivial
  have hq' : vx_Q Qc XC mc ms free a (U.calling g mk a) o s₂ := hq
  rw [State.frames_setTop' g h.top] at hend
  obtain ⟨g₀, hg0⟩ := Option.isSome_iff_exists.mp h.top
  obtain ⟨r, hr⟩ := State.topJava?_eq_some.mp hg0
  have hr' : (({ U with heap := s₂.heap, slotsUsed := s₂.slotsUsed } : State).setVm s₂.vm).frames = .java g₀ :: r := hr
  rcases hq' with ⟨hqc, L, hfe, hL⟩ | ⟨q, rfl, E, ce, L, hx, hce, hcv, hcl, hW₂, hsm, hL⟩
  · obtain ⟨⟨v, rfl⟩, hW₂, e2, q2, q3, q4, q5, q6⟩ := id hfe
    have e3 : s₂ = ({ (U.calling g mk a).setFrames s₂.frames with heap := s₂.heap, slotsUsed := s₂.slotsUsed } : State).setVm s₂.vm := by
      have : s₂ = ({ s₂ with vm := (U.calling g mk a).vm } : State).setVm s₂.vm := rfl
      rw [e2] at this
      exact this
    obtain ⟨c₂, i₂, len₂, hc₂, hd₂, hf₂⟩ := hend
    have hW' : U.WarmedH s₂.vm := hW₂
    have hcc : c₂ = c := by
      have h1 : s₂.code? g.method = U.code? g.method := by
        rw [State.code?_eq, State.code?_eq, hW'.alike.method?]
      exact Option.some.inj (hc₂.symm.trans (h1.trans h.code))
    subst hcc
    have hlen : len₂ = len := by rw [hdg] at hd₂; cases hd₂; rfl
    subst hlen
    have hs₂ : s₂ = (({ U with heap := s₂.heap, slotsUsed := s₂.slotsUsed } : State).setVm s₂.vm).setTop { g with pc := g.pc + len₂, stack := v.toList ++ g.stack } := by
      refine e3.trans ?_
      rw [hf₂, State.calling_eq h.top, State.setFrames_setFrames, State.setTop_of_frames _ hr', hr]
      rfl
    have hsame : U.sameButNew ({ U with heap := s₂.heap, slotsUsed := s₂.slotsUsed } : State) L mc ms := by
      refine ⟨?_, q2, q3, q4, q5, q6⟩
      obtain ⟨t, ht, -⟩ := State.frames_cons hr
      show ({ U with heap := s₂.heap, slotsUsed := s₂.slotsUsed } : State) = { U.setFrames U.frames with heap := s₂.heap, slotsUsed := s₂.slotsUsed }
      rw [State.setFrames_self ht]
    subst hg
    refine Or.inl ⟨v, ⟨(({ U with heap := s₂.heap, slotsUsed := s₂.slotsUsed } : State).setVm s₂.vm), Ls ++ L, c0 + mc, s0 + ms⟩,
      ⟨X.admits, X.cas, X.clock, X.frames, X.room, X.hears, X.method, X.code, (X.here.setHeapUsed s₂.heap s₂.slotsUsed).setVm hW'.alike, X.tail, State.WarmedH.trans X.warmed hW', X.limits, X.bytes, X.same.trans (hsame.setVm s.vm)⟩,
      ⟨g, mk, s₂, L, rfl, rfl, hqc, rfl, hL, rfl, rfl⟩, ?_⟩
    show Steps p.tables e below _ ((({ U with heap := s₂.heap, slotsUsed := s₂.slotsUsed } : State).setVm s₂.vm).setTop { g with pc := g.pc + len₂, stack := v.toList ++ g.stack })
    rw [← hs₂]
    exact hsteps
  · obtain ⟨e2, q2, q3, q4, q5, q6⟩ := id hsm
    have e3 : s₂ = ({ (U.calling g mk a).setFrames s₂.frames with heap := s₂.heap, slotsUsed := s₂.slotsUsed } : State).setVm s₂.vm := by
      have : s₂ = ({ s₂ with vm := (U.calling g mk a).vm } : State).setVm s₂.vm := rfl
      rw [e2] at this
      exact this
    have hf₂ : s₂.frames = .throwing q :: .java g :: U.frames.tail := hend
    have hW' : U.WarmedH s₂.vm := hW₂
    have hs₂ : s₂ = ((({ U with heap := s₂.heap, slotsUsed := s₂.slotsUsed } : State).setVm s₂.vm).setTop g).pushFrame (.throwing q) := by
      refine e3.trans ?_
      rw [hf₂, State.calling_eq h.top, State.setFrames_setFrames, State.pushFrame, State.frames_setTop _ hr', State.setTop_of_frames _ hr', State.setFrames_setFrames, hr]
      rfl
    have hsame : U.sameButNew ({ U with heap := s₂.heap, slotsUsed := s₂.slotsUsed } : State) L mc ms := by
      refine ⟨?_, q2, q3, q4, q5, q6⟩
      obtain ⟨t, ht, -⟩ := State.frames_cons hr
      show ({ U with heap := s₂.heap, slotsUsed := s₂.slotsUsed } : State) = { U.setFrames U.frames with heap := s₂.heap, slotsUsed := s₂.slotsUsed }
      rw [State.setFrames_self ht]
    subst hg
    refine Or.inr ⟨q, ⟨(({ U with heap := s₂.heap, slotsUsed := s₂.slotsUsed } : State).setVm s₂.vm), Ls ++ L, c0 + mc, s0 + ms⟩,
      ⟨X.admits, X.cas, X.clock, X.frames, X.room, X.hears, X.method, X.code, (X.here.setHeapUsed s₂.heap s₂.slotsUsed).setVm hW'.alike, X.tail, State.WarmedH.trans X.warmed hW', X.limits, X.bytes, X.same.trans (hsame.setVm s.vm)⟩,
      ⟨g, mk, s₂, L, E, ce, rfl, rfl, hx, hce, hcv, hcl, rfl, hL, rfl, rfl⟩, ?_⟩
    show Steps p.tables e below _ (((({ U with heap := s₂.heap, slotsUsed := s₂.slotsUsed } : State).setVm s₂.vm).setTop g).pushFrame (.throwing q))
    rw [← hs₂]
    exact hsteps
end Payer
section Calls
variable {p : Program} {l : Launch} {e : Env} {R : Room} {s : State} {m : MethodId} {args : Array Value} {below : List Frame} {meth : Method} {c : Code} {T : State} {locs : List Loc} {cells slots : Nat}
theorem vx_callV (X : Stand p l e R s m args below meth c T locs cells slots) (hexec : p.tables.exec = Jvm.exec) {own C : String} {index : Nat} {y : MethodName} {bytes : ByteArray} {maxL : Nat} {ret : Option FieldType}
    (hown : s.vm.findClass own = some m.cls) (hlink : (Cond.methodLink own index y).before args s = true) (hinst : (Cond.instanceMethod y).before args s = true) (hsel : (Cond.selects C y y).before args s = true)
    (hcode : (Cond.code y bytes maxL ret).before args s = true) (hy : y.cls ≠ "java/lang/invoke/MethodHandle" ∧ y.cls ≠ "java/lang/invoke/VarHandle")
    {W9 : Nat} {Pre : Pt → Array Value → Prop} {Post : Pt → Array Value → Option Value → Pt → Prop} {PostX : Pt → Array Value → Addr → Pt → Prop} (hK : vx_Back l R p e below s args y 3 W9 Pre Post PostX)
    {b : Addr} {cellB : Cell} (hcell : T.heap[b]? = some cellB) (hobj : cellB.vm.isStatics = false) (hcls : s.vm.findClass C = some cellB.cls)
    {g : JFrame} (hg : g.method = m) (hsize : g.locals.size = c.maxLocals) {argsL rest : List Value} (hlen : ∀ sig, parseMethodDescriptor y.desc = some sig → argsL.length = sig.parameters.length)
    (hstack : g.stack = argsL.reverse ++ .ref b :: rest) (hW : 2 * g.monitorRoom + (rest.map fun v => v.category).sum ≤ W9) (hdg : decode c.code g.pc = .ok (.invokevirtual index, 3))
    (hpre : ∀ vm₁, s.WarmedH vm₁ → Pre ⟨T.setVm vm₁, locs, cells, slots⟩ (Value.ref b :: argsL).toArray) :
    (∃ (v : Option Value) (vm₁ : Vm) (B : Pt), s.WarmedH vm₁ ∧ Stand p l e R s m args below meth c B.U B.locs B.cells B.slots ∧ Post ⟨T.setVm vm₁, locs, cells, slots⟩ (Value.ref b :: argsL).toArray v B ∧
      ∀ target, Steps p.tables e below (B.U.setTop { g with pc := g.pc + 3, stack := v.toList ++ rest }) target → Steps p.tables e below (T.setTop g) target) ∨
    (∃ (q : Addr) (vm₁ : Vm) (B : Pt), s.WarmedH vm₁ ∧ Stand p l e R s m args below meth c B.U B.locs B.cells B.slots ∧ PostX ⟨T.setVm vm₁, locs, cells, slots⟩ (Value.ref b :: argsL).toArray q B ∧
      Steps p.tables e below (T.setTop g) ((B.U.setTop { g with stack := rest }).pushFrame (.throwing q))) := by
  obtain ⟨mk, methM, hnamed, hmethM, hstM, habM⟩ := Cond.instanceMethod_spec hinst
  obtain ⟨methM', cM, hmethM', -, -, -, -, -, -, hsigM⟩ := Cond.code_spec hnamed hcode
  cases hmethM.symm.trans hmethM'
  obtain ⟨c2, r2, m2, q1, q2, q3, q4, kP, hkP, hkPi⟩ := Cond.selects_spec hsel
  cases hcls.symm.trans q1
  cases (State.methodFound?_of_named hnamed hy).symm.trans q2
  cases hnamed.symm.trans q3
  have hselP : selectMethod e.platform s.vm cellB.cls mk = .method mk := by rw [Launch.admits_selectMethod X.admits]; exact q4
  obtain ⟨vm₁, X₁, hstep₁⟩ := X.invokevirtual hexec hown hlink hnamed hmethM hstM hkP hkPi hy (a := b) (cell := cellB) hcell
    (fun z h => by rw [h] at hobj; cases hobj) hselP hmethM habM hkP hkPi (g := g) hg (argsL := argsL) (rest := rest) (hlen _ hsigM) hstack hdg
  rcases hK m meth c ⟨T.setVm vm₁, locs, cells, slots⟩ { g with stack := rest } (.invokevirtual index) mk (Value.ref b :: argsL).toArray X₁ hg hsize hdg hW (X₁.named hnamed) (hpre vm₁ X₁.warmed) with ⟨v, B, X', hpost, hsteps⟩ | ⟨q, B, X', hpost, hsteps⟩
  · exact Or.inl ⟨v, vm₁, B, X₁.warmed, X', hpost, fun target h => hstep₁ _ fun acts => by rw [doInvoke_state]; exact hsteps.trans h⟩
  · exact Or.inr ⟨q, vm₁, B, X₁.warmed, X', hpost, hstep₁ _ fun acts => by rw [doInvoke_state]; exact hsteps⟩
theorem vx_callS (X : Stand p l e R s m args below meth c T locs cells slots) (hexec : p.tables.exec = Jvm.exec) {own : String} {index : Nat} {y : MethodName} {bytes : ByteArray} {maxL : Nat} {ret : Option FieldType}
    (hown : s.vm.findClass own = some m.cls) (hlink : (Cond.methodLink own index y).before args s = true) (hstat : (Cond.static y).before args s = true) (hinit : (Cond.initialized y.cls).before args s = true)
    (hcode : (Cond.code y bytes maxL ret).before args s = true) (hy : y.cls ≠ "java/lang/invoke/MethodHandle" ∧ y.cls ≠ "java/lang/invoke/VarHandle")
    {W9 : Nat} {Pre : Pt → Array Value → Prop} {Post : Pt → Array Value → Option Value → Pt → Prop} {PostX : Pt → Array Value → Addr → Pt → Prop} (hK : vx_Back l R p e below s args y 3 W9 Pre Post PostX)
    {g : JFrame} (hg : g.method = m) (hsize : g.locals.size = c.maxLocals) {argsL rest : List Value} (hlen : ∀ sig, parseMethodDescriptor y.desc = some sig → argsL.length = sig.parameters.length)
    (hstack : g.stack = argsL.reverse ++ rest) (hW : 2 * g.monitorRoom + (rest.map fun v => v.category).sum ≤ W9) (hdg : decode c.code g.pc = .ok (.invokestatic index, 3))
    (hpre : ∀ vm₁, s.WarmedH vm₁ → Pre ⟨T.setVm vm₁, locs, cells, slots⟩ argsL.toArray) :
    (∃ (v : Option Value) (vm₁ : Vm) (B : Pt), s.WarmedH vm₁ ∧ Stand p l e R s m args below meth c B.U B.locs B.cells B.slots ∧ Post ⟨T.setVm vm₁, locs, cells, slots⟩ argsL.toArray v B ∧
      ∀ target, Steps p.tables e below (B.U.setTop { g with pc := g.pc + 3, stack := v.toList ++ rest }) target → Steps p.tables e below (T.setTop g) target) ∨
    (∃ (q : Addr) (vm₁ : Vm) (B : Pt), s.WarmedH vm₁ ∧ Stand p l e R s m args below meth c B.U B.locs B.cells B.slots ∧ PostX ⟨T.setVm vm₁, locs, cells, slots⟩ argsL.toArray q B ∧
      Steps p.tables e below (T.setTop g) ((B.U.setTop { g with stack := rest }).pushFrame (.throwing q))) := by
  obtain ⟨mk, hnamed⟩ := Cond.code_named hcode
  obtain ⟨methM, cM, hmethM, -, -, -, -, -, -, hsigM⟩ := Cond.code_spec hnamed hcode
  have hstatic : methM.isStatic = true := Cond.static_spec hnamed hmethM hstat
  obtain ⟨kP, hkP, -⟩ := className_of_methodNamed hnamed
  have hinitP : kP.init = .initialized := Cond.initialized_spec (findClass_of_methodNamed hnamed) hkP hinit
  obtain ⟨vm₁, X₁, hstep₁⟩ := X.invokestatic hexec hown hlink hnamed hmethM hstatic hkP hinitP hy (g := g) hg (argsL := argsL) (rest := rest) (hlen _ hsigM) hstack hdg
  rcases hK m meth c ⟨T.setVm vm₁, locs, cells, slots⟩ { g with stack := rest } (.invokestatic index) mk argsL.toArray X₁ hg hsize hdg hW (X₁.named hnamed) (hpre vm₁ X₁.warmed) with ⟨v, B, X', hpost, hsteps⟩ | ⟨q, B, X', hpost, hsteps⟩
  · exact Or.inl ⟨v, vm₁, B, X₁.warmed, X', hpost, fun target h => hstep₁ _ fun acts => by rw [doInvoke_state]; exact hsteps.trans h⟩
  · exact Or.inr ⟨q, vm₁, B, X₁.warmed, X', hpost, hstep₁ _ fun acts => by rw [doInvoke_state]; exact hsteps⟩
end Calls
theorem vx_cls {s : State} {T : State} {vm₁ : Vm} {E : String} {k : ClassId} (hW : s.WarmedH vm₁) (h : (T.setVm vm₁).vm.findClass E = some k) : s.vm.findClass E = some k := by
  have h1 : vm₁.findClass E = some k := h
  rw [hW.alike.findClass] at h1
  exact h1
/-- the method's frame g, with q thrown over it -/
def vx_W (p : Program) (l : Launch) (e : Env) (R : Room) (s : State) (m : MethodId) (args : Array Value) (below : List Frame) (meth : Method) (c : Code) (H : Heap) (locs : List Loc) (cells slots : Nat) (Q : State → Prop) (g : JFrame) (q : Addr) : Prop :=
  ∀ T : State, T.heap = H → Stand p l e R s m args below meth c T locs cells slots → ∃ t, Steps p.tables e below ((T.setTop g).pushFrame (.throwing q)) t ∧ Q t
def vx_Run (p : Program) (l : Launch) (e : Env) (R : Room) (s : State) (m : MethodId) (args : Array Value) (below : List Frame) (meth : Method) (c : Code) (H : Heap) (locs : List Loc) (cells slots mc ms : Nat) (g : JFrame) (rest : List Value) (Qa : State → Outcome → State → Prop) (XC : String → State → State → Prop) (free : Addr → Prop) : Prop :=
  ∀ T : State, T.heap = H → Stand p l e R s m args below meth c T locs cells slots →
    (∃ (v : Option Value) (st₀ t T' : State) (L : List Loc), st₀.heap = H ∧ Stand p l e R s m args below meth c T' (locs ++ L) (cells + mc) (slots + ms) ∧ (∀ q ∈ L, free q.base) ∧ T'.heap = t.heap ∧ T'.vm = t.vm ∧ Qa st₀ (.returned v) t ∧
      Goes p e below T g T' { g with pc := g.pc + 3, stack := v.toList ++ rest }) ∨
    (∃ (q : Addr) (st₀ t T' : State) (L : List Loc) (E : String) (ce : Cell), st₀.heap = H ∧ Stand p l e R s m args below meth c T' (locs ++ L) (cells + mc) (slots + ms) ∧ (∀ z ∈ L, free z.base) ∧ T'.heap = t.heap ∧ T'.vm = t.vm ∧ XC E st₀ t ∧ t.heap[q]? = some ce ∧ ce.vm = .none ∧ s.vm.findClass E = some ce.cls ∧
      Steps p.tables e below (T.setTop g) ((T'.setTop { g with stack := rest }).pushFrame (.throwing q)))
def vx_X {S : Type} (px : S → Prop) (B : String → S → State → Prop) (A : Nat → Prop) : String → State → State → Prop := fun E st t => ∃ u : S, px u ∧ B E u t ∧ va_F A st t
section Runs
variable {p : Program} {l : Launch} {e : Env} {R : Room} {s : State} {m : MethodId} {args : Array Value} {below : List Frame} {meth : Method} {c : Code} {H : Heap} {locs : List Loc} {cells slots : Nat}
variable {y : MethodName} {bytes cc : ByteArray} {maxL nL mc ms n index : Nat} {ret : Option FieldType} {ws : List Cond} {rm : Room} {Pc : Array Value → State → Prop} {Qc : Array Value → State → Outcome → State → Prop} {XC : String → State → State → Prop} {free : Addr → Prop} {Ts : List Cond} {own C : String} {b : Addr} {As rest : List Value} {g : JFrame}
theorem vx_callBack (cb : CallB R s args own index y bytes maxL ret ws rm mc ms n) (hM : vx_Met l y ws rm Pc Qc XC mc ms free) (hbl : FrameBlind Pc) : vx_Back l R p e below s args y 3 8 (PreOf R mc ms Pc) (PostOf Qc mc ms free) (vx_Post XC mc ms free) := by
  obtain ⟨hrc, hrs, hfr, hlo, hws, hcw, -, hini, -⟩ := cb
  exact vx_back (bytes := bytes) (maxL := maxL) (ret := ret) hM hbl hrc hrs hfr hlo hws hcw (fun a' U hW => word_at hW (Or.inl (by first | rfl | simp [Cond.onTables, Cond.keeps, Cond.steady])) hini)
theorem vx_runV (S : CallFix p m c cc nL s args Ts own) (hM : vx_Met l y ws rm Pc Qc XC mc ms free) (cw : CallW R s args own C index y bytes maxL ret ws rm mc ms n) (hp : PreV s H C b Pc As)
    (hg : g.method = m) (hn : As.length = n) (hsize : g.locals.size = nL) (hstack : g.stack = As.reverse ++ .ref b :: rest) (hW : 2 * g.monitorRoom + (rest.map fun v => v.category).sum ≤ 8) (hdg : decode cc g.pc = .ok (.invokevirtual index, 3)) (hf : cells + mc ≤ R.cells ∧ slots + ms ≤ R.slots) :
    vx_Run p l e R s m args below meth c H locs cells slots mc ms g rest (Qc (Value.ref b :: As).toArray) XC free := by
  have hK : vx_Back l R p e below s args y 3 8 (PreOf R mc ms Pc) (PostOf Qc mc ms free) (vx_Post XC mc ms free) := vx_callBack cw.1 hM hp.1
  obtain ⟨⟨-, -, -, -, -, -, hcode, -, hy, hlen, hl⟩, hin, hse⟩ := cw
  obtain ⟨hx, hb, hml, ho, -⟩ := S
  obtain ⟨-, ⟨cellB, hcB, hoB, hclB⟩, hPc⟩ := hp
  intro T hT X
  rcases vx_callV X hx (C := C) (bytes := bytes) (maxL := maxL) (ret := ret) ho hl hin hse hcode hy hK (by rw [hT]; exact hcB) hoB hclB hg (hsize.trans hml.symm) (argsL := As) (rest := rest) (fun sig h => hn.trans (hlen sig h)) hstack hW (by rw [hb]; exact hdg)
    (fun vm₁ hW₁ => ⟨hf.1, hf.2, hPc (T.setVm vm₁) hT hW₁⟩) with ⟨v, vm₁, ⟨U', l2, c2, s2⟩, hW₁, X', ⟨g', mk, t, L, e1, e2, hq, h1, hL, h2, h3⟩, st⟩ | ⟨q, vm₁, ⟨U', l2, c2, s2⟩, hW₁, X', ⟨g', mk, t, L, E, ce, e1, e2, hq, hce, hcv, hcl, h1, hL, h2, h3⟩, st⟩
  · dsimp only [Pt.U, Pt.locs, Pt.cells, Pt.slots] at X' e1 e2 h1 h2 h3 st
    subst h1; subst h2; subst h3
    exact Or.inl ⟨v, (T.setVm vm₁).calling g' mk (Value.ref b :: As).toArray, t, U', L, hT, X', hL, e1, e2, hq, st⟩
  · dsimp only [Pt.U, Pt.locs, Pt.cells, Pt.slots] at X' e1 e2 h1 h2 h3 st hcl
    subst h1; subst h2; subst h3
    exact Or.inr ⟨q, (T.setVm vm₁).calling g' mk (Value.ref b :: As).toArray, t, U', L, E, ce, hT, X', hL, e1, e2, hq, hce, hcv, vx_cls hW₁ hcl, st⟩
theorem vx_runS (S : CallFix p m c cc nL s args Ts own) (hM : vx_Met l y ws rm Pc Qc XC mc ms free) (cw : CallB R s args own index y bytes maxL ret ws rm mc ms n ∧ (Cond.static y).before args s = true) (hp : PreS s H Pc As)
    (hg : g.method = m) (hn : As.length = n) (hsize : g.locals.size = nL) (hstack : g.stack = As.reverse ++ rest) (hW : 2 * g.monitorRoom + (rest.map fun v => v.category).sum ≤ 8) (hdg : decode cc g.pc = .ok (.invokestatic index, 3)) (hf : cells + mc ≤ R.cells ∧ slots + ms ≤ R.slots) :
    vx_Run p l e R s m args below meth c H locs cells slots mc ms g rest (Qc As.toArray) XC free := by
  have hK : vx_Back l R p e below s args y 3 8 (PreOf R mc ms Pc) (PostOf Qc mc ms free) (vx_Post XC mc ms free) := vx_callBack cw.1 hM hp.1
  obtain ⟨⟨-, -, -, -, -, -, hcode, hini, hy, hlen, hl⟩, hstt⟩ := cw
  obtain ⟨hx, hb, hml, ho, -⟩ := S
  intro T hT X
  rcases vx_callS X hx (bytes := bytes) (maxL := maxL) (ret := ret) ho hl hstt hini hcode hy hK hg (hsize.trans hml.symm) (argsL := As) (rest := rest) (fun sig h => hn.trans (hlen sig h)) hstack hW (by rw [hb]; exact hdg)
    (fun vm₁ hW₁ => ⟨hf.1, hf.2, hp.2 (T.setVm vm₁) hT hW₁⟩) with ⟨v, vm₁, ⟨U', l2, c2, s2⟩, hW₁, X', ⟨g', mk, t, L, e1, e2, hq, h1, hL, h2, h3⟩, st⟩ | ⟨q, vm₁, ⟨U', l2, c2, s2⟩, hW₁, X', ⟨g', mk, t, L, E, ce, e1, e2, hq, hce, hcv, hcl, h1, hL, h2, h3⟩, st⟩
  · dsimp only [Pt.U, Pt.locs, Pt.cells, Pt.slots] at X' e1 e2 h1 h2 h3 st
    subst h1; subst h2; subst h3
    exact Or.inl ⟨v, (T.setVm vm₁).calling g' mk As.toArray, t, U', L, hT, X', hL, e1, e2, hq, st⟩
  · dsimp only [Pt.U, Pt.locs, Pt.cells, Pt.slots] at X' e1 e2 h1 h2 h3 st hcl
    subst h1; subst h2; subst h3
    exact Or.inr ⟨q, (T.setVm vm₁).calling g' mk As.toArray, t, U', L, E, ce, hT, X', hL, e1, e2, hq, hce, hcv, vx_cls hW₁ hcl, st⟩
end Runs
section Rows
variable {p : Program} {l : Launch} {e : Env} {R : Room} {s : State} {m : MethodId} {args : Array Value} {below : List Frame} {meth : Method} {c : Code} {H : Heap} {locs : List Loc} {cells slots : Nat} {Q : State → Prop}
variable {mc ms : Nat} {free : Addr → Prop} {A0 A1 : Nat → Prop} {H0 : Heap} {a : Array Value} {pc : Nat} {ls : Array Slot} {st0 rest : List Value}
theorem vx_keep {st₀ t T' : State} {L : List Loc} (h0 : st₀.heap = H) (e1 : T'.heap = t.heap) (hS : va_S A0 H0 H locs) (hA : ∀ q, q < H.size → A1 q → A0 q) (hf : ∀ q, free q → A0 q) (hL : ∀ q ∈ L, free q.base) (hF : va_F A1 st₀ t) :
    H.size ≤ T'.heap.size ∧ (∀ q : Nat, q < H.size → ¬ A1 q → T'.heap[q]? = H[q]?) ∧ va_S A0 H0 T'.heap (locs ++ L) := by
  obtain ⟨hz, hk⟩ := hF
  rw [h0] at hz hk
  exact ⟨by rw [e1]; exact hz, fun q h1 h2 => by rw [e1]; exact hk q h1 h2,
    ⟨Nat.le_trans hS.1 (by rw [e1]; exact hz), fun q h1 h2 => by rw [e1, hk q (Nat.lt_of_lt_of_le h1 hS.1) (fun z => h2 (hA q (Nat.lt_of_lt_of_le h1 hS.1) z))]; exact hS.2.1 q h1 h2, fun q hq => by
      rcases List.mem_append.mp hq with h | h
      · exact hS.2.2 q h
      · exact hf _ (hL q h)⟩⟩
theorem vx_calli {S SX : Type} {post : Int32 → S → Prop} {px : SX → Prop} {B : S → State → Prop} {BX : String → SX → State → Prop} {AX : Nat → Prop} (hr : vx_Run p l e R s m args below meth c H locs cells slots mc ms (F0 m pc ls st0) rest (va_Qi post B A1 a) (vx_X px BX AX) free) (hS : va_S A0 H0 H locs) (hA : ∀ q, q < H.size → A1 q → A0 q) (hf : ∀ q, free q → A0 q) (hAX : ∀ q, q < H.size → AX q → A0 q)
    (kx : ∀ (E : String) (ce : Cell) (q9 : Addr) (u : SX) (t : State) (H1 : Heap) (locs1 : List Loc), t.heap = H1 → s.vm.Alike t.vm → px u → BX E u t → H.size ≤ H1.size → (∀ q : Nat, q < H.size → ¬ AX q → H1[q]? = H[q]?) → va_S A0 H0 H1 locs1 → H1[q9]? = some ce → ce.vm = .none → s.vm.findClass E = some ce.cls → vx_W p l e R s m args below meth c H1 locs1 (cells + mc) (slots + ms) Q (F0 m pc ls rest) q9)
    (kk : ∀ (r : Int32) (u : S) (t : State) (H1 : Heap) (locs1 : List Loc), t.heap = H1 → s.vm.Alike t.vm → post r u → B u t → H.size ≤ H1.size → (∀ q : Nat, q < H.size → ¬ A1 q → H1[q]? = H[q]?) → va_S A0 H0 H1 locs1 → W p l e R s m args below meth c H1 locs1 (cells + mc) (slots + ms) Q (F0 m (pc + 3) ls (.int r :: rest))) : W p l e R s m args below meth c H locs cells slots Q (F0 m pc ls st0) := by
  intro T hT X
  rcases hr T hT X with ⟨v, st₀, t, T', L, h0, X', hL, e1, e2, ⟨⟨r, u, hv, hp, hb⟩, hF⟩, st⟩ | ⟨q, st₀, t, T', L, E, ce, h0, X', hL, e1, e2, ⟨u, hp, hb, hF⟩, hce, hcv, hcl, st⟩
  · cases hv
    obtain ⟨k1, k2, k3⟩ := vx_keep h0 e1 hS hA hf hL hF
    obtain ⟨t2, a1, b1⟩ := kk r u t T'.heap (locs ++ L) e1.symm (by rw [← e2]; exact X'.warmed.alike) hp hb k1 k2 k3 T' rfl X'
    exact ⟨t2, st t2 a1, b1⟩
  · obtain ⟨k1, k2, k3⟩ := vx_keep h0 e1 hS hAX hf hL hF
    obtain ⟨t2, a1, b1⟩ := kx E ce q u t T'.heap (locs ++ L) e1.symm (by rw [← e2]; exact X'.warmed.alike) hp hb k1 k2 k3 (by rw [e1]; exact hce) hcv hcl T' rfl X'
    exact ⟨t2, st.trans a1, b1⟩
theorem vx_calll {S SX : Type} {post : Int64 → S → Prop} {px : SX → Prop} {B : S → State → Prop} {BX : String → SX → State → Prop} {AX : Nat → Prop} (hr : vx_Run p l e R s m args below meth c H locs cells slots mc ms (F0 m pc ls st0) rest (va_Ql post B A1 a) (vx_X px BX AX) free) (hS : va_S A0 H0 H locs) (hA : ∀ q, q < H.size → A1 q → A0 q) (hf : ∀ q, free q → A0 q) (hAX : ∀ q, q < H.size → AX q → A0 q)
    (kx : ∀ (E : String) (ce : Cell) (q9 : Addr) (u : SX) (t : State) (H1 : Heap) (locs1 : List Loc), t.heap = H1 → s.vm.Alike t.vm → px u → BX E u t → H.size ≤ H1.size → (∀ q : Nat, q < H.size → ¬ AX q → H1[q]? = H[q]?) → va_S A0 H0 H1 locs1 → H1[q9]? = some ce → ce.vm = .none → s.vm.findClass E = some ce.cls → vx_W p l e R s m args below meth c H1 locs1 (cells + mc) (slots + ms) Q (F0 m pc ls rest) q9)
    (kk : ∀ (r : Int64) (u : S) (t : State) (H1 : Heap) (locs1 : List Loc), t.heap = H1 → s.vm.Alike t.vm → post r u → B u t → H.size ≤ H1.size → (∀ q : Nat, q < H.size → ¬ A1 q → H1[q]? = H[q]?) → va_S A0 H0 H1 locs1 → W p l e R s m args below meth c H1 locs1 (cells + mc) (slots + ms) Q (F0 m (pc + 3) ls (.long r :: rest))) : W p l e R s m args below meth c H locs cells slots Q (F0 m pc ls st0) := by
  intro T hT X
  rcases hr T hT X with ⟨v, st₀, t, T', L, h0, X', hL, e1, e2, ⟨⟨r, u, hv, hp, hb⟩, hF⟩, st⟩ | ⟨q, st₀, t, T', L, E, ce, h0, X', hL, e1, e2, ⟨u, hp, hb, hF⟩, hce, hcv, hcl, st⟩
  · cases hv
    obtain ⟨k1, k2, k3⟩ := vx_keep h0 e1 hS hA hf hL hF
    obtain ⟨t2, a1, b1⟩ := kk r u t T'.heap (locs ++ L) e1.symm (by rw [← e2]; exact X'.warmed.alike) hp hb k1 k2 k3 T' rfl X'
    exact ⟨t2, st t2 a1, b1⟩
  · obtain ⟨k1, k2, k3⟩ := vx_keep h0 e1 hS hAX hf hL hF
    obtain ⟨t2, a1, b1⟩ := kx E ce q u t T'.heap (locs ++ L) e1.symm (by rw [← e2]; exact X'.warmed.alike) hp hb k1 k2 k3 (by rw [e1]; exact hce) hcv hcl T' rfl X'
    exact ⟨t2, st.trans a1, b1⟩
theorem vx_callf {S SX : Type} {post : UInt32 → S → Prop} {px : SX → Prop} {B : S → State → Prop} {BX : String → SX → State → Prop} {AX : Nat → Prop} (hr : vx_Run p l e R s m args below meth c H locs cells slots mc ms (F0 m pc ls st0) rest (va_Qf post B A1 a) (vx_X px BX AX) free) (hS : va_S A0 H0 H locs) (hA : ∀ q, q < H.size → A1 q → A0 q) (hf : ∀ q, free q → A0 q) (hAX : ∀ q, q < H.size → AX q → A0 q)
    (kx : ∀ (E : String) (ce : Cell) (q9 : Addr) (u : SX) (t : State) (H1 : Heap) (locs1 : List Loc), t.heap = H1 → s.vm.Alike t.vm → px u → BX E u t → H.size ≤ H1.size → (∀ q : Nat, q < H.size → ¬ AX q → H1[q]? = H[q]?) → va_S A0 H0 H1 locs1 → H1[q9]? = some ce → ce.vm = .none → s.vm.findClass E = some ce.cls → vx_W p l e R s m args below meth c H1 locs1 (cells + mc) (slots + ms) Q (F0 m pc ls rest) q9)
    (kk : ∀ (r : UInt32) (u : S) (t : State) (H1 : Heap) (locs1 : List Loc), t.heap = H1 → s.vm.Alike t.vm → post r u → B u t → H.size ≤ H1.size → (∀ q : Nat, q < H.size → ¬ A1 q → H1[q]? = H[q]?) → va_S A0 H0 H1 locs1 → W p l e R s m args below meth c H1 locs1 (cells + mc) (slots + ms) Q (F0 m (pc + 3) ls (.float r :: rest))) : W p l e R s m args below meth c H locs cells slots Q (F0 m pc ls st0) := by
  intro T hT X
  rcases hr T hT X with ⟨v, st₀, t, T', L, h0, X', hL, e1, e2, ⟨⟨r, u, hv, hp, hb⟩, hF⟩, st⟩ | ⟨q, st₀, t, T', L, E, ce, h0, X', hL, e1, e2, ⟨u, hp, hb, hF⟩, hce, hcv, hcl, st⟩
  · cases hv
    obtain ⟨k1, k2, k3⟩ := vx_keep h0 e1 hS hA hf hL hF
    obtain ⟨t2, a1, b1⟩ := kk r u t T'.heap (locs ++ L) e1.symm (by rw [← e2]; exact X'.warmed.alike) hp hb k1 k2 k3 T' rfl X'
    exact ⟨t2, st t2 a1, b1⟩
  · obtain ⟨k1, k2, k3⟩ := vx_keep h0 e1 hS hAX hf hL hF
    obtain ⟨t2, a1, b1⟩ := kx E ce q u t T'.heap (locs ++ L) e1.symm (by rw [← e2]; exact X'.warmed.alike) hp hb k1 k2 k3 (by rw [e1]; exact hce) hcv hcl T' rfl X'
    exact ⟨t2, st.trans a1, b1⟩
theorem vx_calld {S SX : Type} {post : UInt64 → S → Prop} {px : SX → Prop} {B : S → State → Prop} {BX : String → SX → State → Prop} {AX : Nat → Prop} (hr : vx_Run p l e R s m args below meth c H locs cells slots mc ms (F0 m pc ls st0) rest (va_Qd post B A1 a) (vx_X px BX AX) free) (hS : va_S A0 H0 H locs) (hA : ∀ q, q < H.size → A1 q → A0 q) (hf : ∀ q, free q → A0 q) (hAX : ∀ q, q < H.size → AX q → A0 q)
    (kx : ∀ (E : String) (ce : Cell) (q9 : Addr) (u : SX) (t : State) (H1 : Heap) (locs1 : List Loc), t.heap = H1 → s.vm.Alike t.vm → px u → BX E u t → H.size ≤ H1.size → (∀ q : Nat, q < H.size → ¬ AX q → H1[q]? = H[q]?) → va_S A0 H0 H1 locs1 → H1[q9]? = some ce → ce.vm = .none → s.vm.findClass E = some ce.cls → vx_W p l e R s m args below meth c H1 locs1 (cells + mc) (slots + ms) Q (F0 m pc ls rest) q9)
    (kk : ∀ (r : UInt64) (u : S) (t : State) (H1 : Heap) (locs1 : List Loc), t.heap = H1 → s.vm.Alike t.vm → post r u → B u t → H.size ≤ H1.size → (∀ q : Nat, q < H.size → ¬ A1 q → H1[q]? = H[q]?) → va_S A0 H0 H1 locs1 → W p l e R s m args below meth c H1 locs1 (cells + mc) (slots + ms) Q (F0 m (pc + 3) ls (.double r :: rest))) : W p l e R s m args below meth c H locs cells slots Q (F0 m pc ls st0) := by
  intro T hT X
  rcases hr T hT X with ⟨v, st₀, t, T', L, h0, X', hL, e1, e2, ⟨⟨r, u, hv, hp, hb⟩, hF⟩, st⟩ | ⟨q, st₀, t, T', L, E, ce, h0, X', hL, e1, e2, ⟨u, hp, hb, hF⟩, hce, hcv, hcl, st⟩
  · cases hv
    obtain ⟨k1, k2, k3⟩ := vx_keep h0 e1 hS hA hf hL hF
    obtain ⟨t2, a1, b1⟩ := kk r u t T'.heap (locs ++ L) e1.symm (by rw [← e2]; exact X'.warmed.alike) hp hb k1 k2 k3 T' rfl X'
    exact ⟨t2, st t2 a1, b1⟩
  · obtain ⟨k1, k2, k3⟩ := vx_keep h0 e1 hS hAX hf hL hF
    obtain ⟨t2, a1, b1⟩ := kx E ce q u t T'.heap (locs ++ L) e1.symm (by rw [← e2]; exact X'.warmed.alike) hp hb k1 k2 k3 (by rw [e1]; exact hce) hcv hcl T' rfl X'
    exact ⟨t2, st.trans a1, b1⟩
theorem vx_callv {S SX : Type} {post : S → Prop} {px : SX → Prop} {B : S → State → Prop} {BX : String → SX → State → Prop} {AX : Nat → Prop} (hr : vx_Run p l e R s m args below meth c H locs cells slots mc ms (F0 m pc ls st0) rest (va_Qv post B A1 a) (vx_X px BX AX) free) (hS : va_S A0 H0 H locs) (hA : ∀ q, q < H.size → A1 q → A0 q) (hf : ∀ q, free q → A0 q) (hAX : ∀ q, q < H.size → AX q → A0 q)
    (kx : ∀ (E : String) (ce : Cell) (q9 : Addr) (u : SX) (t : State) (H1 : Heap) (locs1 : List Loc), t.heap = H1 → s.vm.Alike t.vm → px u → BX E u t → H.size ≤ H1.size → (∀ q : Nat, q < H.size → ¬ AX q → H1[q]? = H[q]?) → va_S A0 H0 H1 locs1 → H1[q9]? = some ce → ce.vm = .none → s.vm.findClass E = some ce.cls → vx_W p l e R s m args below meth c H1 locs1 (cells + mc) (slots + ms) Q (F0 m pc ls rest) q9)
    (kk : ∀ (u : S) (t : State) (H1 : Heap) (locs1 : List Loc), t.heap = H1 → s.vm.Alike t.vm → post u → B u t → H.size ≤ H1.size → (∀ q : Nat, q < H.size → ¬ A1 q → H1[q]? = H[q]?) → va_S A0 H0 H1 locs1 → W p l e R s m args below meth c H1 locs1 (cells + mc) (slots + ms) Q (F0 m (pc + 3) ls (rest))) : W p l e R s m args below meth c H locs cells slots Q (F0 m pc ls st0) := by
  intro T hT X
  rcases hr T hT X with ⟨v, st₀, t, T', L, h0, X', hL, e1, e2, ⟨⟨u, hv, hp, hb⟩, hF⟩, st⟩ | ⟨q, st₀, t, T', L, E, ce, h0, X', hL, e1, e2, ⟨u, hp, hb, hF⟩, hce, hcv, hcl, st⟩
  · cases hv
    obtain ⟨k1, k2, k3⟩ := vx_keep h0 e1 hS hA hf hL hF
    obtain ⟨t2, a1, b1⟩ := kk u t T'.heap (locs ++ L) e1.symm (by rw [← e2]; exact X'.warmed.alike) hp hb k1 k2 k3 T' rfl X'
    exact ⟨t2, st t2 a1, b1⟩
  · obtain ⟨k1, k2, k3⟩ := vx_keep h0 e1 hS hAX hf hL hF
    obtain ⟨t2, a1, b1⟩ := kx E ce q u t T'.heap (locs ++ L) e1.symm (by rw [← e2]; exact X'.warmed.alike) hp hb k1 k2 k3 (by rw [e1]; exact hce) hcv hcl T' rfl X'
    exact ⟨t2, st.trans a1, b1⟩
/-- caught by the row x of this method's table; the rows ahead don't take it -/
theorem vx_catch {own name : String} {E : String} {ce : Cell} {q : Addr} (hown : s.vm.findClass own = some m.cls) (pre : List ExceptionTableEntry) (x : ExceptionTableEntry) (suf : List ExceptionTableEntry) (hsplit : c.exceptionTable.toList = pre ++ x :: suf)
    (hpass : ∀ z ∈ pre, covers z pc = false ∨ (z.catchType ≠ 0 ∧ ∃ nm : String, (Cond.classLink own z.catchType nm).before args s = true ∧ va_Nc E nm s)) (hx : covers x pc = true) (h0 : x.catchType ≠ 0)
    (hlink : (Cond.classLink own x.catchType name).before args s = true) (hcast : (Cond.castable E name).before args s = true) (hcell : H[q]? = some ce) (hv : ce.vm = .none) (hcl : s.vm.findClass E = some ce.cls)
    (kk : W p l e R s m args below meth c H locs cells slots Q (F0 m x.handlerPc ls [.ref q])) : vx_W p l e R s m args below meth c H locs cells slots Q (F0 m pc ls rest) q := by
  intro T hT X
  have hpl : e.platform.magicAccessors = ({} : Platform).magicAccessors := by rw [X.admits.platform]
  obtain ⟨c3, c4, hc3, hc4, hasg⟩ := Cond.castable_spec hcast
  cases Option.some.inj (hc3.symm.trans hcl)
  obtain ⟨c5, hc5, hcl5⟩ := Cond.classLink_spec hown hlink e.platform hpl
  cases Option.some.inj (hc4.symm.trans hc5)
  obtain ⟨vm', X', st⟩ := X.thenCaughtThrough q (g := F0 m pc ls rest) rfl (Steps.refl _) (by rw [hT]; exact hcell) (by rw [hv]; rfl) (by obtain ⟨k9, h9, -⟩ := Vm.findClass_spec hcl; exact ⟨k9, h9⟩) pre x suf hsplit
    (fun z hz => by
      rcases hpass z hz with h | ⟨hz0, nm, hl1, hn1⟩
      · exact Or.inl h
      · obtain ⟨c6, hc6, hcl6⟩ := Cond.classLink_spec hown hl1 e.platform hpl
        obtain ⟨a8, b8, h1, h2, h3⟩ := hn1
        cases Option.some.inj (h1.symm.trans hcl)
        cases Option.some.inj (h2.symm.trans hc6)
        exact Or.inr ⟨hz0, _, hcl6, h3⟩) hx (Or.inr ⟨h0, c4, hcl5, hasg⟩)
  obtain ⟨t, a1, b1⟩ := kk (T.setVm vm') hT X'
  exact ⟨t, st.trans a1, b1⟩
end Rows
section Ends
variable {p : Program} {l : Launch} {e : Env} {R : Room} {s : State} {m : MethodId} {args : Array Value} {below : List Frame} {meth : Method} {c : Code} {H : Heap} {locs : List Loc} {cells slots : Nat} {Q : State → Prop}
variable {mc ms : Nat} {free : Addr → Prop} {A0 A1 : Nat → Prop} {H0 : Heap} {a : Array Value} {ls : Array Slot} {st0 rest : List Value}
variable {Qc : Array Value → State → Outcome → State → Prop} {XC : String → State → State → Prop}
/-- what a body that may throw owes at its end -/
def vx_MQ (below : List Frame) (Qc : Array Value → State → Outcome → State → Prop) (XC : String → State → State → Prop) (a : Array Value) (s : State) (mc ms : Nat) (free : Addr → Prop) : State → Prop := fun t =>
  ∃ o, t.status = .running ∧ Ended t below o ∧ vx_Q Qc XC mc ms free a s o t
theorem vx_ret {g : JFrame} {mc ms : Nat} (k : W p l e R s m args below meth c H locs cells slots (MQ below Qc args s mc ms free) g) : W p l e R s m args below meth c H locs cells slots (vx_MQ below Qc XC args s mc ms free) g := by
  intro T hT X
  obtain ⟨t, a1, o, b1, b2, b3, b4⟩ := k T hT X
  exact ⟨t, a1, o, b1, b2, Or.inl ⟨b3, b4⟩⟩
/-- not caught here: it goes on to the caller -/
theorem vx_widen {g : JFrame} {q : Addr} {k n : Nat} (h1 : cells ≤ k) (h2 : slots ≤ n) (kk : vx_W p l e R s m args below meth c H locs k n Q g q) : vx_W p l e R s m args below meth c H locs cells slots Q g q := fun T hT X => kk T hT (stand_widen X h1 h2)
theorem vx_out {pc : Nat} {E : String} {ce : Cell} {q : Addr} {mc ms : Nat} (hout : ∀ x ∈ c.exceptionTable.toList, covers x pc = false) (hlocks : meth.locks = false) (hcell : H[q]? = some ce) (hv : ce.vm = .none) (hcl : s.vm.findClass E = some ce.cls)
    (hx : ∀ t : State, t.heap = H → s.vm.Alike t.vm → XC E s t) (hf : ∀ z ∈ locs, free z.base) (hc : cells ≤ mc) (hs : slots ≤ ms) :
    vx_W p l e R s m args below meth c H locs cells slots (vx_MQ below Qc XC args s mc ms free) (F0 m pc ls rest) q := by
  intro T hT X
  obtain ⟨st1, hrun, hend, hW, hsm⟩ := X.leaveThrown q (g := F0 m pc ls rest) rfl rfl rfl hout hlocks
  have hcell9 : (T.setFrames (.throwing q :: below)).heap[q]? = some ce := by
    show T.heap[q]? = some ce
    rw [hT]; exact hcell
  exact ⟨_, st1, .threw q, hrun, hend, Or.inr ⟨q, rfl, E, ce, locs, hx _ hT hW.alike, hcell9, hv, hcl, hW, hsm.mono hc hs, hf⟩⟩
theorem vx_frame {U : State} {k n : Nat} (h : s.sameButNew ({ U with vm := s.vm } : State) locs k n) : s.heap.size ≤ U.heap.size ∧ ∀ q : Nat, q < s.heap.size → (∀ z ∈ locs, z.base ≠ q) → U.heap[q]? = s.heap[q]? := by
  obtain ⟨-, h2, -, -, -, h6⟩ := h
  refine ⟨h2, fun q hq hz => ?_⟩
  obtain ⟨c9, e1, e2, e3, e4⟩ := h6 q _ (Array.getElem?_eq_getElem hq)
  have hs : c9.slots = (s.heap[q]).slots := Array.ext_getElem? fun i => e4 i fun hm => hz _ hm rfl
  have h9 : c9 = s.heap[q] := by
    rw [hs] at e2
    exact e2
  have e5 : U.heap[q]? = some c9 := e1
  rw [e5, h9, Array.getElem?_eq_getElem hq]
/-- the words of a throw but the four that speak of the heap -/
def vx_no (w : Cond) : Bool := decide (w ≠ .isRef (.static Bundle.tN "UNASSIGNED_STACK" Bundle.steD)) && decide (w ≠ .isRef (.static Bundle.tN "SUPPRESSED_SENTINEL" Bundle.listD)) && decide (w ≠ .laysStatic Bundle.tN "UNASSIGNED_STACK" Bundle.steD) && decide (w ≠ .laysStatic Bundle.tN "SUPPRESSED_SENTINEL" Bundle.listD)
def vx_at0 (own : String) (ic : Nat) (X : String) (names : List String) : List Cond := (Bundle.ownAtoms0 own ic X names).filter vx_no
def vx_atS (own : String) (ic : Nat) (X : String) (names : List String) : List Cond := (Bundle.ownAtoms own ic X names).filter vx_no
/-- a word that the tables alone decide, or a good one -/
def vx_ot (w : Cond) : Bool := w.onTables || goodWord w
theorem vx_ot_at {args a' : Array Value} {s U : State} {w : Cond} (hW : s.WarmedH U.vm) (hvm : s.vm = U.vm) (hg : vx_ot w = true) (h : w.before args s = true) : w.before a' U = true := by
  simp only [vx_ot, Bool.or_eq_true] at hg
  rcases hg with hg | hg
  · exact va_tabs hg hvm h
  · exact word_at hW (good_of_word hg) h
/-- a list's words: the good ones out of the method's own list, the others by premises of their own -/
theorem vx_hat {args : Array Value} {s : State} {L B : List Cond} (h1 : ∀ w ∈ L.filter goodWord, w.before args s = true) (h2 : ∀ w ∈ L.filter (fun w => !goodWord w), w ∈ B) (h3 : ∀ w ∈ B, w.before args s = true) : ∀ w ∈ L, w.before args s = true := by
  intro w hw
  by_cases g : goodWord w = true
  · exact h1 w (List.mem_filter.mpr ⟨hw, g⟩)
  · refine h3 w (h2 w (List.mem_filter.mpr ⟨hw, ?_⟩))
    show (!goodWord w) = true
    cases hgw : goodWord w
    · rfl
    · exact absurd hgw g
theorem vx_c {args : Array Value} {s : State} {w : Cond} {B : List Cond} (h : w.before args s = true) (t : ∀ w ∈ B, w.before args s = true) : ∀ w' ∈ w :: B, w'.before args s = true := fun w' h' => (List.mem_cons.mp h').elim (fun e => by rw [e]; exact h) (t w')
theorem vx_n {args : Array Value} {s : State} : ∀ w ∈ ([] : List Cond), w.before args s = true := fun _ h => nomatch h
theorem vx_own {args : Array Value} {s : State} {L : List Cond} (h1 : ∀ w ∈ L.filter vx_no, w.before args s = true)
    (hU : (Cond.isRef (.static Bundle.tN "UNASSIGNED_STACK" Bundle.steD)).before args s = true) (hN : (Cond.isRef (.static Bundle.tN "SUPPRESSED_SENTINEL" Bundle.listD)).before args s = true)
    (lU : (Cond.laysStatic Bundle.tN "UNASSIGNED_STACK" Bundle.steD).before args s = true) (lN : (Cond.laysStatic Bundle.tN "SUPPRESSED_SENTINEL" Bundle.listD).before args s = true) : ∀ w ∈ L, w.before args s = true := by
  intro w hw
  by_cases e1 : w = .isRef (.static Bundle.tN "UNASSIGNED_STACK" Bundle.steD)
  · rw [e1]; exact hU
  · by_cases e2 : w = .isRef (.static Bundle.tN "SUPPRESSED_SENTINEL" Bundle.listD)
    · rw [e2]; exact hN
    · by_cases e3 : w = .laysStatic Bundle.tN "UNASSIGNED_STACK" Bundle.steD
      · rw [e3]; exact lU
      · by_cases e4 : w = .laysStatic Bundle.tN "SUPPRESSED_SENTINEL" Bundle.listD
        · rw [e4]; exact lN
        · exact h1 w (List.mem_filter.mpr ⟨hw, by unfold vx_no; rw [decide_eq_true e1, decide_eq_true e2, decide_eq_true e3, decide_eq_true e4]; rfl⟩)
/-- where a static field lies, its class's statics cell in H -/
def vx_L (C n d : String) (A : Nat → Prop) (U : State) (H : Heap) : Prop := ∃ (c : ClassId) (k : Class) (i : Nat) (f : Field) (a : Nat) (cell : Cell), U.vm.findClass C = some c ∧ U.fieldFound? C n d = some (c, k, i, f) ∧ f.isStatic = true ∧ k.statics = some a ∧ H[a]? = some cell ∧ cell.vm.isStatics = true ∧ cell.cls = c ∧ f.slot < cell.slots.size ∧ k.staticTypes[f.slot]? = some f.type ∧ ¬ A a
theorem vx_L.moved {C n d : String} {A : Nat → Prop} {u U : State} {H : Heap} (hvm : u.vm.Alike U.vm) (h : vx_L C n d A u H) : vx_L C n d A U H := by
  obtain ⟨c, k, i, f, a, cell, h1, h2, h3, h4, h5, h6, h7, h8, h9, h10⟩ := h
  obtain ⟨k', hi', he⟩ := State.fieldFound?_setVm hvm h2
  exact ⟨c, k', i, f, a, cell, by rw [hvm.findClass]; exact h1, hi', h3, by rw [he]; exact h4, h5, h6, h7, h8, by rw [he]; exact h9, h10⟩
theorem vx_L.kept {C n d : String} {A : Nat → Prop} {U : State} {H H1 : Heap} (h : vx_L C n d A U H) (hq : ∀ a : Nat, a < H.size → ¬ A a → H1[a]? = H[a]?) : vx_L C n d A U H1 := by
  obtain ⟨c, k, i, f, a, cell, h1, h2, h3, h4, h5, h6, h7, h8, h9, h10⟩ := h
  exact ⟨c, k, i, f, a, cell, h1, h2, h3, h4, by rw [hq a (Array.getElem?_eq_some_iff.mp h5).1 h10]; exact h5, h6, h7, h8, h9, h10⟩
theorem vx_L.narrow {C n d : String} {A B : Nat → Prop} {U : State} {H : Heap} (h : vx_L C n d A U H) (hAB : ∀ q, B q → A q) : vx_L C n d B U H := by
  obtain ⟨c, k, i, f, a, cell, h1, h2, h3, h4, h5, h6, h7, h8, h9, h10⟩ := h
  exact ⟨c, k, i, f, a, cell, h1, h2, h3, h4, h5, h6, h7, h8, h9, fun z => h10 (hAB _ z)⟩
theorem vx_L.word {C n d : String} {A : Nat → Prop} {s : State} {args : Array Value} (h : vx_L C n d A s s.heap) : (Cond.laysStatic C n d).before args s = true := by
  obtain ⟨c, k, i, f, a, cell, h1, h2, h3, h4, h5, h6, h7, h8, h9, -⟩ := h
  show (Cond.laysStatic C n d).holds args s none s [] = true
  exact Cond.laysStatic_of h1 h2 h3 h4 h5 h6 h7 h8 h9
/-- .. and what it holds: null or some reference -/
def vx_Zq (C n d : String) (A : Nat → Prop) (U : State) (H : Heap) : Prop := va_Zq C n d A U H ∧ vx_L C n d A U H
theorem vx_Zq.moved {C n d : String} {A : Nat → Prop} {u U : State} {H : Heap} (hvm : u.vm.Alike U.vm) (h : vx_Zq C n d A u H) : vx_Zq C n d A U H := ⟨va_Zq.moved hvm h.1, vx_L.moved hvm h.2⟩
theorem vx_Zq.kept {C n d : String} {A : Nat → Prop} {U : State} {H H1 : Heap} (h : vx_Zq C n d A U H) (hq : ∀ a : Nat, a < H.size → ¬ A a → H1[a]? = H[a]?) : vx_Zq C n d A U H1 := ⟨va_Zq.kept h.1 hq, vx_L.kept h.2 hq⟩
theorem vx_Zq.narrow {C n d : String} {A B : Nat → Prop} {U : State} {H : Heap} (h : vx_Zq C n d A U H) (hAB : ∀ q, B q → A q) : vx_Zq C n d B U H := ⟨va_Zq.narrow h.1 hAB, vx_L.narrow h.2 hAB⟩
theorem vx_Zqof {args : Array Value} {s : State} {C n d : String} {A : Nat → Prop} (hl : (Cond.laysStatic C n d).before args s = true) (hini : (Cond.initialized C).before args s = true) (h : (Cond.isRef (.static C n d)).before args s = true) (hA : ∀ a : Nat, a < s.heap.size → ¬ A a) : vx_Zq C n d A s s.heap := by
  refine ⟨va_Zqof hl hini h hA, ?_⟩
  obtain ⟨c, k, i, f, a, cell, h1, h2, h3, h4, h5, h6, h7, h8, h9⟩ := Cond.laysStatic_spec hl
  exact ⟨c, k, i, f, a, cell, h1, h2, h3, h4, h5, h6, h7, h8, h9, hA a (Array.getElem?_eq_some_iff.mp h5).1⟩
theorem vx_isRef {C n d : String} {v : Value} {A : Nat → Prop} {s : State} {args : Array Value} (h : va_Z C n d v A s s.heap) (hv : v.isRef = true) : (Cond.isRef (.static C n d)).before args s = true := by
  obtain ⟨cf, kf, fi, f, a, cell, h1, h2, h3, h4, h5, h6, h7, -⟩ := h
  have he : (Term.static C n d).eval args s none [] s = some v := by
    simp [Term.eval, State.fieldNamed?, h1, h2, h4, h5, h6, h7]
  simp only [Cond.before, Cond.holds, Cond.value, he]
  cases v <;> simp_all [Value.isRef]
theorem vx_isRefq {C n d : String} {A : Nat → Prop} {s : State} {args : Array Value} (h : va_Zq C n d A s s.heap) : (Cond.isRef (.static C n d)).before args s = true := by
  rcases h with h | ⟨t, h⟩
  · exact vx_isRef h rfl
  · exact vx_isRef h rfl
/-- the same frame, seen from here: as if the method were called anew in this heap -/
theorem vx_rebase {T : State} (X : Stand p l e R s m args below meth c T locs cells slots) {R' : Room} (hf : R'.frames ≤ R.frames) (hl : R'.locals ≤ R.locals) (hc : cells + R'.cells ≤ R.cells) (hs : slots + R'.slots ≤ R.slots) :
    Stand p l e R' ((T.setVm s.vm).setFrames (.invoking m args :: below)) m args below meth c T [] 0 0 := by
  have htop : (T.setVm s.vm).topJava?.isSome := X.here.top
  have hF : ((T.setVm s.vm).setFrames (.invoking m args :: below)).frames = .invoking m args :: below := State.frames_setFrames _ (State.cur_lt_of_top htop)
  obtain ⟨g₀, hg0⟩ := Option.isSome_iff_exists.mp htop
  obtain ⟨r, hr⟩ := State.topJava?_eq_some.mp hg0
  have hl9 : e.platform.stackLimits (T.setVm s.vm).me = e.platform.stackLimits s.me := X.limits
  have hb9 : (T.setVm s.vm).me.stackBytes = s.me.stackBytes := X.bytes
  refine ⟨X.admits, X.cas, X.clock, hF, ?_, X.hears, X.method, X.code, X.here, X.tail, X.warmed, ?_, ?_, ?_⟩
  · have h := X.room
    have hU : ((T.setVm s.vm).setFrames (.invoking m args :: below)).localsInUse = s.localsInUse := by
      rw [State.localsInUse_invoking hF (meth := meth) (c := c) X.method X.code, State.localsInUse_invoking X.frames X.method X.code]
    simp only [State.hasRoom, Bool.and_eq_true, decide_eq_true_eq] at h ⊢
    obtain ⟨⟨⟨⟨h1, h2, h3, h4, h5, h6⟩, h7⟩, h8⟩, h9⟩ := h
    rw [X.frames, List.length_cons] at h2 h3
    have q1 := X.heapSize
    have q2 := X.used
    simp only [hF, hU, List.length_cons, State.stackLimits_setFrames, State.stackBytes_setFrames, hl9, hb9]
    refine ⟨⟨⟨⟨by omega, by omega, by omega, by omega, by omega, h6⟩, ?_⟩, ?_⟩, X.book⟩
    · show T.heap.size + R'.cells ≤ e.platform.maxCells
      omega
    · show T.slotsUsed + R'.slots ≤ e.platform.maxSlots
      omega
  · rw [State.stackLimits_setFrames]; rfl
  · rw [State.stackBytes_setFrames]; rfl
  · refine ⟨?_, Nat.le_refl _, Nat.le_refl _, ?_, ?_, fun a c9 h9 => ⟨c9, h9, rfl, rfl, fun _ _ => rfl⟩⟩
    · obtain ⟨t, ht, -⟩ := State.frames_cons hr
      show T.setVm s.vm = { ((T.setVm s.vm).setFrames (.invoking m args :: below)).setFrames (T.setVm s.vm).frames with heap := T.heap, slotsUsed := T.slotsUsed }
      rw [State.setFrames_setFrames, State.setFrames_self ht]
      rfl
    · show T.slotsUsed = T.slotsUsed + ((T.heap.toList.drop T.heap.size).map (·.slots.size)).sum
      rw [List.drop_eq_nil_of_le (Nat.le_of_eq Array.length_toList)]
      rfl
    · show ((T.heap.toList.drop T.heap.size).map (·.slots.size)).sum ≤ 0
      rw [List.drop_eq_nil_of_le (Nat.le_of_eq Array.length_toList)]
      exact Nat.le_refl _
/-- 'throw new E()': new; dup; invokespecial; athrow -/
theorem vx_throw0 {cc : ByteArray} {pc : Nat} (hexec : p.tables.exec = Jvm.exec) (hb : c.code = cc) (hl : l.stackTraces = false) {own cls : String} {names : List String} {ik ic mc ms : Nat} {A : Nat → Prop}
    (hown : s.vm.findClass own = some m.cls) (hcls : Bundle.fit cls = true) (hnames : ∀ n ∈ names, Bundle.fit n = true)
    (hk : (Cond.classLink own ik cls).before args s = true) (hini : (Cond.initialized cls).before args s = true) (hat : ∀ w ∈ vx_at0 own ic cls names, w.before args s = true)
    (hgood : ∀ w ∈ Cond.classLink own ik cls :: Cond.initialized cls :: vx_at0 own ic cls names, vx_ot w = true)
    (hU : vx_Zq Bundle.tN "UNASSIGNED_STACK" Bundle.steD A s s.heap) (hN : vx_Zq Bundle.tN "SUPPRESSED_SENTINEL" Bundle.listD A s s.heap) (hS : va_S A s.heap H locs) (hsize : ls.size = c.maxLocals)
    (d0 : decode cc pc = .ok (.new ik, 3)) (d3 : decode cc (pc + 3) = .ok (.dup, 1)) (d4 : decode cc (pc + 4) = .ok (.invokespecial ic, 3)) (d7 : decode cc (pc + 7) = .ok (.athrow, 1))
    (hout : ∀ x ∈ c.exceptionTable.toList, covers x (pc + 7) = false)
    (hRframes : names.length + 3 < R.frames) (hRlocals : (rest.map fun v => v.category).sum + (13 * (names.length + 1) + 42) ≤ R.locals) (hRcells : cells + 1 ≤ R.cells) (hRslots : slots + 6 ≤ R.slots) (hlocks : meth.locks = false)
    (hx : ∀ t : State, s.vm.Alike t.vm → H.size ≤ t.heap.size → (∀ q : Nat, q < H.size → t.heap[q]? = H[q]?) → XC cls s t)
    (hf : ∀ z ∈ locs, free z.base) (hc : cells + 1 ≤ mc) (hs : slots + 6 ≤ ms) :
    W p l e R s m args below meth c H locs cells slots (vx_MQ below Qc XC args s mc ms free) (F0 m pc ls rest) := by
  intro T hT X
  have htr : e.platform.stackTraces = false := (show e.platform.stackTraces = l.stackTraces by rw [X.admits.platform]).trans hl
  have Y := vx_rebase X (R' := { frames := R.frames, locals := R.locals, cells := 1, slots := 6 }) (Nat.le_refl _) (Nat.le_refl _) hRcells hRslots
  obtain ⟨s', hA⟩ : ∃ z, z = (T.setVm s.vm).setFrames (.invoking m args :: below) := ⟨_, rfl⟩
  rw [← hA] at Y
  have hvm : s'.vm = s.vm := by rw [hA]; rfl
  have hhp : s'.heap = H := by rw [hA]; exact hT
  have hW0 : s.WarmedH s'.vm := by rw [hvm]; exact State.WarmedH.refl s
  have hat' : ∀ w ∈ vx_at0 own ic cls names, w.before args s' = true := fun w hw => vx_ot_at hW0 hvm.symm (hgood w (List.mem_cons_of_mem _ (List.mem_cons_of_mem _ hw))) (hat w hw)
  have hk' : (Cond.classLink own ik cls).before args s' = true := vx_ot_at hW0 hvm.symm (hgood _ List.mem_cons_self) hk
  have hini' : (Cond.initialized cls).before args s' = true := vx_ot_at hW0 hvm.symm (hgood _ (List.mem_cons_of_mem _ List.mem_cons_self)) hini
  have hU' : vx_Zq Bundle.tN "UNASSIGNED_STACK" Bundle.steD A s' s'.heap := by rw [hhp]; exact vx_Zq.moved hW0.alike (hU.kept hS.2.1)
  have hN' : vx_Zq Bundle.tN "SUPPRESSED_SENTINEL" Bundle.listD A s' s'.heap := by rw [hhp]; exact vx_Zq.moved hW0.alike (hN.kept hS.2.1)
  have h : ∀ w ∈ Bundle.ownAtoms0 own ic cls names, w.before args s' = true := vx_own hat' (vx_isRefq hU'.1) (vx_isRefq hN'.1) hU'.2.word hN'.2.word
  have hown' : s'.vm.findClass own = some m.cls := by rw [hvm]; exact hown
  have hins : (Cond.instantiable cls 6).before args s' = true := h _ (by simp [Bundle.ownAtoms0])
  obtain ⟨vm₁, cX, kX, hfX, hkX, -, -, X₁, st1⟩ := Y.newCold hexec (own := own) (C := cls) (index := ik) (n := 6) hown' hk' hins hini'
    (g := F0 m pc ls rest) rfl (by rw [hb]; exact d0) (Nat.le_refl _) (Nat.le_refl _)
  generalize hT1 : (T.setVm vm₁).pushCell { cls := cX, slots := kX.instanceTypes.map defaultValue, vm := .none } = T1 at X₁ st1
  have hcat : (Value.ref T.heap.size).category = 1 := rfl
  have hcellA : T1.heap[T.heap.size]? = some (freshCell cX kX) := by rw [← hT1]; exact State.heap_pushCell_size _ _
  have d3' : decode c.code (pc + 3) = .ok (.dup, 1) := by rw [hb]; exact d3
  obtain ⟨U, hsteps, hrun, hend, hW, hsame, ce, hce, hO⟩ := X₁.ctorThrow0 hexec htr (own := own) (cls := cls) (names := names) (ic := ic) hown' hcls hnames h (fun x hx => nomatch hx) hfX hkX hcellA (by rw [hhp, hT]; exact Nat.le_refl _)
    (g := { method := m, pc := pc + 4, locals := ls, stack := .ref T.heap.size :: .ref T.heap.size :: rest, locked := none }) rfl hsize rfl rfl (rest := rest) rfl
    (by rw [hb]; exact d4) (by rw [hb]; exact d7) hout hRframes (by simp only [List.map_cons, List.sum_cons, hcat]; omega) hlocks
  obtain ⟨f1, f2⟩ := vx_frame hsame
  rw [hhp] at f1 f2
  have hWs : s.WarmedH U.vm := State.WarmedH.trans hW0 hW
  have hcl : s.vm.findClass cls = some ce.cls := by
    have h9 := hO.cls
    rw [hvm] at h9
    exact h9
  have hall : s.sameButNew ({ U with vm := s.vm } : State) locs mc ms := by
    subst hA
    obtain ⟨e1, e2⟩ := hsame
    rw [State.setFrames_setFrames] at e1
    have h2 : (T.setVm s.vm).sameButNew ({ U with vm := s.vm } : State) [] (0 + 1) (0 + 6) := ⟨e1, e2⟩
    have h3 := X.same.trans h2
    rw [List.append_nil] at h3
    exact h3.mono hc hs
  refine ⟨U, ?_, .threw T.heap.size, hrun, hend, Or.inr ⟨T.heap.size, rfl, cls, ce, locs, hx U hWs.alike f1 (fun q hq => f2 q hq (fun z hz => nomatch hz)), hce, hO.vm, hcl, hWs, hall, hf⟩⟩
  refine st1 _ ?_
  show Steps p.tables e below (T1.setTop { method := m, pc := pc + 3, locals := ls, stack := .ref T.heap.size :: rest, locked := none }) _
  jvm_step X₁.here [X₁.here.top, hexec, d3', Value.category]
  exact hsteps
/-- 'throw new E("text")': new; dup; ldc; invokespecial; athrow -/
theorem vx_throwS {cc : ByteArray} {pc : Nat} (hexec : p.tables.exec = Jvm.exec) (hb : c.code = cc) (hl : l.stackTraces = false) {own cls text : String} {names : List String} {ik is ic mc ms sa : Nat} {A : Nat → Prop}
    (hown : s.vm.findClass own = some m.cls) (hcls : Bundle.fit cls = true) (hnames : ∀ n ∈ names, Bundle.fit n = true)
    (hk : (Cond.classLink own ik cls).before args s = true) (hini : (Cond.initialized cls).before args s = true) (hstr : vk_R own is text sa s) (hat : ∀ w ∈ vx_atS own ic cls names, w.before args s = true)
    (hgood : ∀ w ∈ Cond.classLink own ik cls :: Cond.initialized cls :: vx_atS own ic cls names, vx_ot w = true)
    (hU : vx_Zq Bundle.tN "UNASSIGNED_STACK" Bundle.steD A s s.heap) (hN : vx_Zq Bundle.tN "SUPPRESSED_SENTINEL" Bundle.listD A s s.heap) (hS : va_S A s.heap H locs) (hsize : ls.size = c.maxLocals)
    (d0 : decode cc pc = .ok (.new ik, 3)) (d3 : decode cc (pc + 3) = .ok (.dup, 1)) (d4 : decode cc (pc + 4) = .ok (.ldc is, 2)) (d6 : decode cc (pc + 6) = .ok (.invokespecial ic, 3)) (d9 : decode cc (pc + 9) = .ok (.athrow, 1))
    (hout : ∀ x ∈ c.exceptionTable.toList, covers x (pc + 9) = false)
    (hRframes : names.length + 3 < R.frames) (hRlocals : (rest.map fun v => v.category).sum + (13 * (names.length + 1) + 43) ≤ R.locals) (hRcells : cells + 1 ≤ R.cells) (hRslots : slots + 6 ≤ R.slots) (hlocks : meth.locks = false)
    (hx : ∀ t : State, s.vm.Alike t.vm → H.size ≤ t.heap.size → (∀ q : Nat, q < H.size → t.heap[q]? = H[q]?) → XC cls s t)
    (hf : ∀ z ∈ locs, free z.base) (hc : cells + 1 ≤ mc) (hs : slots + 6 ≤ ms) :
    W p l e R s m args below meth c H locs cells slots (vx_MQ below Qc XC args s mc ms free) (F0 m pc ls rest) := by
  intro T hT X
  have htr : e.platform.stackTraces = false := (show e.platform.stackTraces = l.stackTraces by rw [X.admits.platform]).trans hl
  have Y := vx_rebase X (R' := { frames := R.frames, locals := R.locals, cells := 1, slots := 6 }) (Nat.le_refl _) (Nat.le_refl _) hRcells hRslots
  obtain ⟨s', hA⟩ : ∃ z, z = (T.setVm s.vm).setFrames (.invoking m args :: below) := ⟨_, rfl⟩
  rw [← hA] at Y
  have hvm : s'.vm = s.vm := by rw [hA]; rfl
  have hhp : s'.heap = H := by rw [hA]; exact hT
  have hW0 : s.WarmedH s'.vm := by rw [hvm]; exact State.WarmedH.refl s
  have hat' : ∀ w ∈ vx_atS own ic cls names, w.before args s' = true := fun w hw => vx_ot_at hW0 hvm.symm (hgood w (List.mem_cons_of_mem _ (List.mem_cons_of_mem _ hw))) (hat w hw)
  have hk' : (Cond.classLink own ik cls).before args s' = true := vx_ot_at hW0 hvm.symm (hgood _ List.mem_cons_self) hk
  have hini' : (Cond.initialized cls).before args s' = true := vx_ot_at hW0 hvm.symm (hgood _ (List.mem_cons_of_mem _ List.mem_cons_self)) hini
  have hU' : vx_Zq Bundle.tN "UNASSIGNED_STACK" Bundle.steD A s' s'.heap := by rw [hhp]; exact vx_Zq.moved hW0.alike (hU.kept hS.2.1)
  have hN' : vx_Zq Bundle.tN "SUPPRESSED_SENTINEL" Bundle.listD A s' s'.heap := by rw [hhp]; exact vx_Zq.moved hW0.alike (hN.kept hS.2.1)
  have h : ∀ w ∈ Bundle.ownAtoms own ic cls names, w.before args s' = true := vx_own hat' (vx_isRefq hU'.1) (vx_isRefq hN'.1) hU'.2.word hN'.2.word
  have hown' : s'.vm.findClass own = some m.cls := by rw [hvm]; exact hown
  have hins : (Cond.instantiable cls 6).before args s' = true := h _ (by simp [Bundle.ownAtoms])
  obtain ⟨vm₁, cX, kX, hfX, hkX, -, -, X₁, st1⟩ := Y.newCold hexec (own := own) (C := cls) (index := ik) (n := 6) hown' hk' hins hini'
    (g := F0 m pc ls rest) rfl (by rw [hb]; exact d0) (Nat.le_refl _) (Nat.le_refl _)
  generalize hT1 : (T.setVm vm₁).pushCell { cls := cX, slots := kX.instanceTypes.map defaultValue, vm := .none } = T1 at X₁ st1
  have hcat : (Value.ref T.heap.size).category = 1 := rfl
  have hcellA : T1.heap[T.heap.size]? = some (freshCell cX kX) := by rw [← hT1]; exact State.heap_pushCell_size _ _
  have d3' : decode c.code (pc + 3) = .ok (.dup, 1) := by rw [hb]; exact d3
  have d4' : decode c.code (pc + 4) = .ok (.ldc is, 2) := by rw [hb]; exact d4
  have hstr' : vk_R own is text sa s' := vk_R.warm hW0 hstr
  obtain ⟨U, hsteps, hrun, hend, hW, hsame, ce, hce, hO⟩ := X₁.ctorThrowS hexec htr (own := own) (cls := cls) (names := names) (ic := ic) hown' hcls hnames h (fun x hx => nomatch hx) hfX hkX hcellA (by rw [hhp, hT]; exact Nat.le_refl _) (msg := .ref sa) rfl
    (g := { method := m, pc := pc + 6, locals := ls, stack := .ref sa :: .ref T.heap.size :: .ref T.heap.size :: rest, locked := none }) rfl hsize rfl rfl (rest := rest) rfl
    (by rw [hb]; exact d6) (by rw [hb]; exact d9) hout hRframes (by simp only [List.map_cons, List.sum_cons, hcat]; omega) hlocks
  obtain ⟨f1, f2⟩ := vx_frame hsame
  rw [hhp] at f1 f2
  have hWs : s.WarmedH U.vm := State.WarmedH.trans hW0 hW
  have hcl : s.vm.findClass cls = some ce.cls := by
    have h9 := hO.cls
    rw [hvm] at h9
    exact h9
  have hall : s.sameButNew ({ U with vm := s.vm } : State) locs mc ms := by
    subst hA
    obtain ⟨e1, e2⟩ := hsame
    rw [State.setFrames_setFrames] at e1
    have h2 : (T.setVm s.vm).sameButNew ({ U with vm := s.vm } : State) [] (0 + 1) (0 + 6) := ⟨e1, e2⟩
    have h3 := X.same.trans h2
    rw [List.append_nil] at h3
    exact h3.mono hc hs
  refine ⟨U, ?_, .threw T.heap.size, hrun, hend, Or.inr ⟨T.heap.size, rfl, cls, ce, locs, hx U hWs.alike f1 (fun q hq => f2 q hq (fun z hz => nomatch hz)), hce, hO.vm, hcl, hWs, hall, hf⟩⟩
  refine st1 _ ?_
  show Steps p.tables e below (T1.setTop { method := m, pc := pc + 3, locals := ls, stack := .ref T.heap.size :: rest, locked := none }) _
  jvm_step X₁.here [X₁.here.top, hexec, d3', Value.category]
  exact X₁.ldcString hexec (own := own) (text := text) (index := is) (a := sa) hown' hstr'.1 hstr'.2
    (g := { method := m, pc := pc + 4, locals := ls, stack := .ref T.heap.size :: .ref T.heap.size :: rest, locked := none }) rfl d4' _ hsteps
/-- 'throw new E("text")', the text by a wide index -/
theorem vx_throwSW {cc : ByteArray} {pc : Nat} (hexec : p.tables.exec = Jvm.exec) (hb : c.code = cc) (hl : l.stackTraces = false) {own cls text : String} {names : List String} {ik is ic mc ms sa : Nat} {A : Nat → Prop}
    (hown : s.vm.findClass own = some m.cls) (hcls : Bundle.fit cls = true) (hnames : ∀ n ∈ names, Bundle.fit n = true)
    (hk : (Cond.classLink own ik cls).before args s = true) (hini : (Cond.initialized cls).before args s = true) (hstr : vk_R own is text sa s) (hat : ∀ w ∈ vx_atS own ic cls names, w.before args s = true)
    (hgood : ∀ w ∈ Cond.classLink own ik cls :: Cond.initialized cls :: vx_atS own ic cls names, vx_ot w = true)
    (hU : vx_Zq Bundle.tN "UNASSIGNED_STACK" Bundle.steD A s s.heap) (hN : vx_Zq Bundle.tN "SUPPRESSED_SENTINEL" Bundle.listD A s s.heap) (hS : va_S A s.heap H locs) (hsize : ls.size = c.maxLocals)
    (d0 : decode cc pc = .ok (.new ik, 3)) (d3 : decode cc (pc + 3) = .ok (.dup, 1)) (d4 : decode cc (pc + 4) = .ok (.ldc_w is, 3)) (d7 : decode cc (pc + 7) = .ok (.invokespecial ic, 3)) (d10 : decode cc (pc + 10) = .ok (.athrow, 1))
    (hout : ∀ x ∈ c.exceptionTable.toList, covers x (pc + 10) = false)
    (hRframes : names.length + 3 < R.frames) (hRlocals : (rest.map fun v => v.category).sum + (13 * (names.length + 1) + 43) ≤ R.locals) (hRcells : cells + 1 ≤ R.cells) (hRslots : slots + 6 ≤ R.slots) (hlocks : meth.locks = false)
    (hx : ∀ t : State, s.vm.Alike t.vm → H.size ≤ t.heap.size → (∀ q : Nat, q < H.size → t.heap[q]? = H[q]?) → XC cls s t)
    (hf : ∀ z ∈ locs, free z.base) (hc : cells + 1 ≤ mc) (hs : slots + 6 ≤ ms) :
    W p l e R s m args below meth c H locs cells slots (vx_MQ below Qc XC args s mc ms free) (F0 m pc ls rest) := by
  intro T hT X
  have htr : e.platform.stackTraces = false := (show e.platform.stackTraces = l.stackTraces by rw [X.admits.platform]).trans hl
  have Y := vx_rebase X (R' := { frames := R.frames, locals := R.locals, cells := 1, slots := 6 }) (Nat.le_refl _) (Nat.le_refl _) hRcells hRslots
  obtain ⟨s', hA⟩ : ∃ z, z = (T.setVm s.vm).setFrames (.invoking m args :: below) := ⟨_, rfl⟩
  rw [← hA] at Y
  have hvm : s'.vm = s.vm := by rw [hA]; rfl
  have hhp : s'.heap = H := by rw [hA]; exact hT
  have hW0 : s.WarmedH s'.vm := by rw [hvm]; exact State.WarmedH.refl s
  have hat' : ∀ w ∈ vx_atS own ic cls names, w.before args s' = true := fun w hw => vx_ot_at hW0 hvm.symm (hgood w (List.mem_cons_of_mem _ (List.mem_cons_of_mem _ hw))) (hat w hw)
  have hk' : (Cond.classLink own ik cls).before args s' = true := vx_ot_at hW0 hvm.symm (hgood _ List.mem_cons_self) hk
  have hini' : (Cond.initialized cls).before args s' = true := vx_ot_at hW0 hvm.symm (hgood _ (List.mem_cons_of_mem _ List.mem_cons_self)) hini
  have hU' : vx_Zq Bundle.tN "UNASSIGNED_STACK" Bundle.steD A s' s'.heap := by rw [hhp]; exact vx_Zq.moved hW0.alike (hU.kept hS.2.1)
  have hN' : vx_Zq Bundle.tN "SUPPRESSED_SENTINEL" Bundle.listD A s' s'.heap := by rw [hhp]; exact vx_Zq.moved hW0.alike (hN.kept hS.2.1)
  have h : ∀ w ∈ Bundle.ownAtoms own ic cls names, w.before args s' = true := vx_own hat' (vx_isRefq hU'.1) (vx_isRefq hN'.1) hU'.2.word hN'.2.word
  have hown' : s'.vm.findClass own = some m.cls := by rw [hvm]; exact hown
  have hins : (Cond.instantiable cls 6).before args s' = true := h _ (by simp [Bundle.ownAtoms])
  obtain ⟨vm₁, cX, kX, hfX, hkX, -, -, X₁, st1⟩ := Y.newCold hexec (own := own) (C := cls) (index := ik) (n := 6) hown' hk' hins hini'
    (g := F0 m pc ls rest) rfl (by rw [hb]; exact d0) (Nat.le_refl _) (Nat.le_refl _)
  generalize hT1 : (T.setVm vm₁).pushCell { cls := cX, slots := kX.instanceTypes.map defaultValue, vm := .none } = T1 at X₁ st1
  have hcat : (Value.ref T.heap.size).category = 1 := rfl
  have hcellA : T1.heap[T.heap.size]? = some (freshCell cX kX) := by rw [← hT1]; exact State.heap_pushCell_size _ _
  have d3' : decode c.code (pc + 3) = .ok (.dup, 1) := by rw [hb]; exact d3
  have d4' : decode c.code (pc + 4) = .ok (.ldc_w is, 3) := by rw [hb]; exact d4
  have hstr' : vk_R own is text sa s' := vk_R.warm hW0 hstr
  obtain ⟨U, hsteps, hrun, hend, hW, hsame, ce, hce, hO⟩ := X₁.ctorThrowS hexec htr (own := own) (cls := cls) (names := names) (ic := ic) hown' hcls hnames h (fun x hx => nomatch hx) hfX hkX hcellA (by rw [hhp, hT]; exact Nat.le_refl _) (msg := .ref sa) rfl
    (g := { method := m, pc := pc + 7, locals := ls, stack := .ref sa :: .ref T.heap.size :: .ref T.heap.size :: rest, locked := none }) rfl hsize rfl rfl (rest := rest) rfl
    (by rw [hb]; exact d7) (by rw [hb]; exact d10) hout hRframes (by simp only [List.map_cons, List.sum_cons, hcat]; omega) hlocks
  obtain ⟨f1, f2⟩ := vx_frame hsame
  rw [hhp] at f1 f2
  have hWs : s.WarmedH U.vm := State.WarmedH.trans hW0 hW
  have hcl : s.vm.findClass cls = some ce.cls := by
    have h9 := hO.cls
    rw [hvm] at h9
    exact h9
  have hall : s.sameButNew ({ U with vm := s.vm } : State) locs mc ms := by
    subst hA
    obtain ⟨e1, e2⟩ := hsame
    rw [State.setFrames_setFrames] at e1
    have h2 : (T.setVm s.vm).sameButNew ({ U with vm := s.vm } : State) [] (0 + 1) (0 + 6) := ⟨e1, e2⟩
    have h3 := X.same.trans h2
    rw [List.append_nil] at h3
    exact h3.mono hc hs
  refine ⟨U, ?_, .threw T.heap.size, hrun, hend, Or.inr ⟨T.heap.size, rfl, cls, ce, locs, hx U hWs.alike f1 (fun q hq => f2 q hq (fun z hz => nomatch hz)), hce, hO.vm, hcl, hWs, hall, hf⟩⟩
  refine st1 _ ?_
  show Steps p.tables e below (T1.setTop { method := m, pc := pc + 3, locals := ls, stack := .ref T.heap.size :: rest, locked := none }) _
  jvm_step X₁.here [X₁.here.top, hexec, d3', Value.category]
  exact X₁.ldcStringW hexec (own := own) (text := text) (index := is) (a := sa) hown' hstr'.1 hstr'.2
    (g := { method := m, pc := pc + 4, locals := ls, stack := .ref T.heap.size :: .ref T.heap.size :: rest, locked := none }) rfl d4' _ hsteps
end Ends
section Bodies
variable {l : Launch}
theorem vx_ofW {y : MethodName} {ws ws' : List Cond} {rm : Room} {Pc : Array Value → State → Prop} {Qc : Array Value → State → Outcome → State → Prop} {XC : String → State → State → Prop} {mc ms : Nat} {free : Addr → Prop} {cc : ByteArray} {maxL : Nat} {ret : Option FieldType}
    (hy : plainName y.cls = true) (hw : ws = Cond.code y cc maxL ret :: ws')
    (body : ∀ p e s m args below meth c s₁, BodyLoose p l y (headSpec ws rm) cc maxL ret e s m args below meth c s₁ → c.maxLocals = maxL → (∀ x ∈ c.exceptionTable.toList, False) → Pc args s →
      W p l e (headSpec ws rm).room s m args below meth c s.heap [] 0 0 (vx_MQ below Qc XC args s mc ms free) (entryFrame m args maxL)) : vx_Met l y ws rm Pc Qc XC mc ms free := by
  refine MetFree.of_bodyS (code := cc) (maxLocals := maxL) (ret := ret) hy ?_ ?_
  · intro args s m h hn
    obtain ⟨meth, c, h1, h2, h3, h4, h5, h6, -, -⟩ := Cond.code_spec hn (atoms_spec (ws := ws) h _ (by rw [hw]; exact List.mem_cons_self))
    exact ⟨meth, c, h1, h2, h3, h4, h5, h6⟩
  · intro p e s m args below meth c s₁ B hml hP _
    have hh0 : s₁.heap = s.heap := by rw [B.state]; rfl
    have ht : ∀ x ∈ c.exceptionTable.toList, False := by
      obtain ⟨meth9, c9, h1, h2, -, -, -, -, h7, -⟩ := Cond.code_spec B.named (atoms_spec (ws := ws) B.pre _ (by rw [hw]; exact List.mem_cons_self))
      cases Option.some.inj (h1.symm.trans B.method)
      cases Option.some.inj (h2.symm.trans (Stand.of_body B).code)
      intro x hx
      rw [Array.isEmpty_iff.mp h7] at hx
      cases hx
    obtain ⟨t, a1, o, b1, b2, b3⟩ := body p e s m args below meth c s₁ B hml ht hP s₁ hh0 (Stand.of_body B)
    exact ⟨t, o, a1, b1, b2, b3⟩
/-- the table of a body with handlers -/
theorem vx_table {p : Program} {x y : MethodName} {S : Spec} {cc bytes : ByteArray} {maxL maxL' : Nat} {ret ret' : Option FieldType} {e : Env} {s s₁ : State} {m : MethodId} {args : Array Value} {below : List Frame} {meth : Method} {c : Code} {hh : List (Nat × Nat × Nat × Nat)}
    (B : BodyLoose p l y S cc maxL ret e s m args below meth c s₁) (h : (Cond.codeWith y bytes maxL' ret' hh).before args s = true) : c.exceptionTable.toList = tableOf hh := by
  obtain ⟨m9, meth9, c9, hn9, h1, h2, -, -, h6, -⟩ := Cond.codeWith_spec h
  cases Option.some.inj (hn9.symm.trans B.named)
  cases Option.some.inj (h1.symm.trans B.method)
  cases Option.some.inj (h2.symm.trans (Stand.of_body B).code)
  rw [← h6, table_eq]
end Bodies
end VXA
/-! ===== END ===== -/
/-! ===== BEGIN a static call of a method with an exception table ===== -/
section VXS
variable {p : Program} {l : Launch} {e : Env} {R : Room} {s : State} {m : MethodId} {args : Array Value} {below : List Frame} {meth : Method} {c : Code} {T : State} {H : Heap} {locs : List Loc} {cells slots : Nat}
abbrev vx_CSW (R : Room) (s : State) (args : Array Value) (own : String) (index : Nat) (y : MethodName) (bytes : ByteArray) (maxL : Nat) (ret : Option FieldType) (hh : List (Nat × Nat × Nat × Nat)) (ws : List Cond) (rm : Room) (mc ms n : Nat) : Prop :=
  (rm.cells = mc ∧ rm.slots = ms ∧ rm.frames + 1 ≤ R.frames ∧ 8 + (maxL + 11) + rm.locals ≤ R.locals ∧ (∀ w ∈ ws, ∀ (a' : Array Value) (U : State), s.WarmedH U.vm → w.before a' U = true) ∧ Cond.codeWith y bytes maxL ret hh ∈ ws) ∧
  (Cond.codeWith y bytes maxL ret hh).before args s = true ∧ (Cond.initialized y.cls).before args s = true ∧ (y.cls ≠ "java/lang/invoke/MethodHandle" ∧ y.cls ≠ "java/lang/invoke/VarHandle") ∧
  (∀ sig, parseMethodDescriptor y.desc = some sig → n = sig.parameters.length) ∧ (Cond.methodLink own index y).before args s = true ∧ (Cond.static y).before args s = true
theorem vx_cwSW {own : String} {index maxL mc ms : Nat} {y : MethodName} {bytes : ByteArray} {ret : Option FieldType} {hh : List (Nat × Nat × Nat × Nat)} {Ts ws ws' : List Cond} {rm : Room} (n : Nat) (ht : ∀ w ∈ Ts, w.before args s = true) (hT : GoodIn Ts (va_wsS own index y ws)) (hw : ws = Cond.codeWith y bytes maxL ret hh :: ws') (hrc : rm.cells = mc) (hrs : rm.slots = ms)
    (hd : y.cls ≠ "java/lang/invoke/MethodHandle" ∧ y.cls ≠ "java/lang/invoke/VarHandle" ∧ (parseMethodDescriptor y.desc).map (fun d => d.parameters.length) = some n) (hR : rm.frames + 1 ≤ R.frames ∧ 8 + (maxL + 11) + rm.locals ≤ R.locals) :
    vx_CSW R s args own index y bytes maxL ret hh ws rm mc ms n := by
  have ok : ∀ w ∈ va_wsS own index y ws, w.before args s = true := fun w h => ht w (hT w h).1
  have hG : GoodIn Ts ws := fun w h => hT w (by unfold va_wsS; exact List.mem_append_right _ h)
  have hc : Cond.codeWith y bytes maxL ret hh ∈ ws := by rw [hw]; exact List.mem_cons_self
  refine ⟨⟨hrc, hrs, hR.1, hR.2, pay_in ht hG, hc⟩, ht _ (hG _ hc).1, ok _ (by simp [va_wsS]), ⟨hd.1, hd.2.1⟩, fun sig h => ?_, ok _ (by simp [va_wsS]), ok _ (by simp [va_wsS])⟩
  have h2 := hd.2.2
  rw [h] at h2
  exact (Option.some.inj h2).symm
theorem vx_callSW (X : Stand p l e R s m args below meth c T locs cells slots) (hexec : p.tables.exec = Jvm.exec) {own : String} {index : Nat} {y : MethodName} {bytes : ByteArray} {maxL : Nat} {ret : Option FieldType} {hh : List (Nat × Nat × Nat × Nat)}
    (hown : s.vm.findClass own = some m.cls) (hlink : (Cond.methodLink own index y).before args s = true) (hstat : (Cond.static y).before args s = true) (hinit : (Cond.initialized y.cls).before args s = true)
    (hcode : (Cond.codeWith y bytes maxL ret hh).before args s = true) (hy : y.cls ≠ "java/lang/invoke/MethodHandle" ∧ y.cls ≠ "java/lang/invoke/VarHandle")
    {W9 : Nat} {Pre : Pt → Array Value → Prop} {Post : Pt → Array Value → Option Value → Pt → Prop} (hK : Back l R p e below s args y 3 W9 Pre Post)
    {g : JFrame} (hg : g.method = m) (hsize : g.locals.size = c.maxLocals) {argsL rest : List Value} (hlen : ∀ sig, parseMethodDescriptor y.desc = some sig → argsL.length = sig.parameters.length)
    (hstack : g.stack = argsL.reverse ++ rest) (hW : 2 * g.monitorRoom + (rest.map fun v => v.category).sum ≤ W9) (hdg : decode c.code g.pc = .ok (.invokestatic index, 3))
    (hpre : ∀ vm₁, s.WarmedH vm₁ → Pre ⟨T.setVm vm₁, locs, cells, slots⟩ argsL.toArray) :
    ∃ (v : Option Value) (vm₁ : Vm) (B : Pt), s.WarmedH vm₁ ∧ Stand p l e R s m args below meth c B.U B.locs B.cells B.slots ∧ Post ⟨T.setVm vm₁, locs, cells, slots⟩ argsL.toArray v B ∧
      ∀ target, Steps p.tables e below (B.U.setTop { g with pc := g.pc + 3, stack := v.toList ++ rest }) target → Steps p.tables e below (T.setTop g) target := by
  obtain ⟨mk, methM, cM, hnamed, hmethM, -, -, -, -, -, -, hsigM⟩ := Cond.codeWith_spec hcode
  have hstatic : methM.isStatic = true := Cond.static_spec hnamed hmethM hstat
  obtain ⟨kP, hkP, -⟩ := className_of_methodNamed hnamed
  have hinitP : kP.init = .initialized := Cond.initialized_spec (findClass_of_methodNamed hnamed) hkP hinit
  obtain ⟨vm₁, X₁, hstep₁⟩ := X.invokestatic hexec hown hlink hnamed hmethM hstatic hkP hinitP hy (g := g) hg (argsL := argsL) (rest := rest) (hlen _ hsigM) hstack hdg
  obtain ⟨v, B, X', hpost, hsteps⟩ := hK m meth c ⟨T.setVm vm₁, locs, cells, slots⟩ { g with stack := rest } (.invokestatic index) mk argsL.toArray X₁ hg hsize hdg hW (X₁.named hnamed) (hpre vm₁ X₁.warmed)
  exact ⟨v, vm₁, B, X₁.warmed, X', hpost, fun target h => hstep₁ _ fun acts => by rw [doInvoke_state]; exact hsteps.trans h⟩
theorem vx_runSW {y : MethodName} {bytes cc : ByteArray} {maxL nL mc ms n index : Nat} {ret : Option FieldType} {hh : List (Nat × Nat × Nat × Nat)} {ws : List Cond} {rm : Room} {Pc : Array Value → State → Prop} {Qc : Array Value → State → Outcome → State → Prop} {free : Addr → Prop} {Ts : List Cond} {own : String} {As rest : List Value} {g : JFrame}
    (S : CallFix p m c cc nL s args Ts own) (hM : Met l y ws rm Pc Qc mc ms free) (cw : vx_CSW R s args own index y bytes maxL ret hh ws rm mc ms n) (hp : PreS s H Pc As)
    (hg : g.method = m) (hn : As.length = n) (hsize : g.locals.size = nL) (hstack : g.stack = As.reverse ++ rest) (hW : 2 * g.monitorRoom + (rest.map fun v => v.category).sum ≤ 8) (hdg : decode cc g.pc = .ok (.invokestatic index, 3)) (hf : cells + mc ≤ R.cells ∧ slots + ms ≤ R.slots) :
    va_Run p l e R s m args below meth c H locs cells slots mc ms g rest (Qc As.toArray) (free) := by
  obtain ⟨⟨hrc, hrs, hfr, hlo, hws, hcw⟩, hcode, hini, hy, hlen, hl, hstt⟩ := cw
  have hK : Back l R p e below s args y 3 8 (PreOf R mc ms Pc) (PostOf Qc mc ms free) := va_backW (hh := hh) (bytes := bytes) (maxL := maxL) (ret := ret) hM hp.1 hrc hrs hfr hlo hws hcw (fun a' U hW => word_at hW (Or.inl (by first | rfl | simp [Cond.onTables, Cond.keeps, Cond.steady])) hini)
  obtain ⟨hx, hb, hml, ho, -⟩ := S
  intro T hT X
  obtain ⟨v, vm₁, ⟨U', l2, c2, s2⟩, hW₁, X', ⟨g', mk, t, L, e1, e2, hq, h1, hL, h2, h3⟩, st⟩ := vx_callSW X hx (hh := hh) (bytes := bytes) (maxL := maxL) (ret := ret) ho hl hstt hini hcode hy hK hg (hsize.trans hml.symm) (argsL := As) (rest := rest) (fun sig h => hn.trans (hlen sig h)) hstack hW (by rw [hb]; exact hdg)
    (fun vm₁ hW₁ => ⟨hf.1, hf.2, hp.2 (T.setVm vm₁) hT hW₁⟩)
  dsimp only [Pt.U, Pt.locs, Pt.cells, Pt.slots] at X' e1 e2 h1 h2 h3 st
  subst h1; subst h2; subst h3
  exact ⟨v, (T.setVm vm₁).calling g' mk As.toArray, t, U', L, hT, X', hL, e1, e2, hq, st⟩
/-- not caught here, past rows that name other classes: it goes on to the caller -/
theorem vx_outP {p : Program} {l : Launch} {e : Env} {R : Room} {s : State} {m : MethodId} {args : Array Value} {below : List Frame} {meth : Method} {c : Code} {H : Heap} {locs : List Loc} {cells slots : Nat} {free : Addr → Prop} {ls : Array Slot} {rest : List Value} {Qc : Array Value → State → Outcome → State → Prop} {XC : String → State → State → Prop}
    {pc : Nat} {own E : String} {ce : Cell} {q : Addr} {mc ms : Nat} (hown : s.vm.findClass own = some m.cls) (hlocks : meth.locks = false)
    (hpass : ∀ z ∈ c.exceptionTable.toList, covers z pc = false ∨ (z.catchType ≠ 0 ∧ ∃ nm : String, (Cond.classLink own z.catchType nm).before args s = true ∧ va_Nc E nm s)) (hcell : H[q]? = some ce) (hv : ce.vm = .none) (hcl : s.vm.findClass E = some ce.cls)
    (hx : ∀ t : State, t.heap = H → s.vm.Alike t.vm → XC E s t) (hf : ∀ z ∈ locs, free z.base) (hc : cells ≤ mc) (hs : slots ≤ ms) :
    vx_W p l e R s m args below meth c H locs cells slots (vx_MQ below Qc XC args s mc ms free) (F0 m pc ls rest) q := by
  intro T hT X
  have hpl : e.platform.magicAccessors = ({} : Platform).magicAccessors := by rw [X.admits.platform]
  obtain ⟨vm', hW', X', st⟩ := X.outThrough hlocks q (g := F0 m pc ls rest) rfl rfl rfl (cell := ce) (by rw [hT]; exact hcell) (by rw [hv]; rfl)
    (by obtain ⟨k9, h9, -⟩ := Vm.findClass_spec hcl; exact ⟨k9, h9⟩) (fun z hz => by
      rcases hpass z hz with h | ⟨hz0, nm, hl1, hn1⟩
      · exact Or.inl h
      · obtain ⟨c6, hc6, hcl6⟩ := Cond.classLink_spec hown hl1 e.platform hpl
        obtain ⟨a8, b8, h1, h2, h3⟩ := hn1
        cases Option.some.inj (h1.symm.trans hcl)
        cases Option.some.inj (h2.symm.trans hc6)
        exact Or.inr ⟨hz0, _, hcl6, h3⟩)
  obtain ⟨g₀, hfr⟩ := X'.frames_eq
  have hcell9 : ((T.setVm vm').setFrames (.throwing q :: below)).heap[q]? = some ce := by
    show T.heap[q]? = some ce
    rw [hT]; exact hcell
  have hend : Ended ((T.setVm vm').setFrames (.throwing q :: below)) below (.threw q) := State.frames_setFrames _ (State.cur_lt_of_frames hfr)
  refine ⟨(T.setVm vm').setFrames (.throwing q :: below), ?_, .threw q, X'.here.running, hend, Or.inr ⟨q, rfl, E, ce, locs, hx _ hT (X'.ends _).1.alike, hcell9, hv, hcl, (X'.ends _).1, (X'.ends _).2.mono hc hs, hf⟩⟩
  rw [X.pushThrowing_eq]
  exact st
/-- a thing of a world lies in the heap -/
theorem vx_lt {D : va_G} {cl : List vw_C} {ws : va_W} {H1 : Heap} (h : va_P D cl ws H1) {k : Nat} {q : Nat × va_E} (hk : ws[k]? = some q) : q.1 < H1.size := (h k q hk).lt
end VXS
/-! ===== END ===== -/
/-! ===== BEGIN methods with a table of their own: called by a name, returning or throwing ===== -/
section VXH
/-! vx_backW, vx_callVX, vx_callSX, vx_callVW, vx_runVW, vx_runVX, vx_runSX, vx_ofWH follow the same proofs as their sisters above (Free/Laws.lean, Shelf42/LK1.lean); vx_outP calls Shelf42/NT130.lean (outThrough). -/
section
variable {l : Launch} {R : Room} {p : Program} {e : Env} {below : List Frame} {s : State} {sargs : Array Value} {y : MethodName} {len W9 : Nat}
theorem vx_backW {ws : List Cond} {rm : Room} {Pc : Array Value → State → Prop} {Qc : Array Value → State → Outcome → State → Prop} {XC : String → State → State → Prop} {mc ms : Nat} {free : Addr → Prop} {bytes : ByteArray} {maxL : Nat} {ret : Option FieldType} {hh : List (Nat × Nat × Nat × Nat)}
    (hM : vx_Met l y ws rm Pc Qc XC mc ms free) (hblind : FrameBlind Pc) (hrc : rm.cells = mc) (hrs : rm.slots = ms)
    (hframes : rm.frames + 1 ≤ R.frames) (hlocals : W9 + (maxL + 11) + rm.locals ≤ R.locals)
    (hws : ∀ w ∈ ws, ∀ a' U, s.WarmedH U.vm → w.before a' U = true) (hcode : Cond.codeWith y bytes maxL ret hh ∈ ws) (hinit : ∀ a' U, s.WarmedH U.vm → (Cond.initialized y.cls).before a' U = true) :
    vx_Back l R p e below s sargs y len W9 (PreOf R mc ms Pc) (PostOf Qc mc ms free) (vx_Post XC mc ms free) := by
  intro m meth c A g ig mk a X hg hsize hdg hW hn hp
  have h1 : (headSpec ws rm).pre.before a A.U = true := atoms_intro fun w hw => hws w hw _ _ X.warmed
  have h2 : (Cond.codeWith y bytes maxL ret hh).before a A.U = true := hws _ hcode _ _ X.warmed
  have h3 : (Cond.initialized y.cls).before a A.U = true := hinit _ _ X.warmed
  have h4 : A.cells + (headSpec ws rm).room.cells ≤ R.cells := by rw [show (headSpec ws rm).room.cells = mc from hrc]; exact hp.1
  have h5 : A.slots + (headSpec ws rm).room.slots ≤ R.slots := by rw [show (headSpec ws rm).room.slots = ms from hrs]; exact hp.2.1
  have hPc : Pc a (A.U.calling g mk a) := hblind _ _ _ _ hp.2.2
  obtain ⟨U, Ls, c0, s0⟩ := A
  dsimp only [Pt.U, Pt.locs, Pt.cells, Pt.slots] at h1 h2 h3 h4 h5 X hn hPc ⊢
  obtain ⟨m9, methY, cY, hn9, hmY, hcY, -, hlY, -⟩ := Cond.codeWith_spec h2
  cases Option.some.inj (hn9.symm.trans hn)
  obtain ⟨kY, hkY, -⟩ := className_of_methodNamed hn
  have hinitY : kY.init = .initialized := Cond.initialized_spec (findClass_of_methodNamed hn) hkY h3
  have h : At U g.method c below := by rw [hg]; exact X.here
  have hlocals9 : W9 + (maxL + 11) + (headSpec ws rm).room.locals ≤ R.locals := hlocals
  have happ : (headSpec ws rm).appliesLoose y e.platform (U.calling g mk a) = true :=
    Spec.appliesLoose_calling (g := g) h hdg hn hkY hinitY
      (X.room_calling (g := g) (R' := (headSpec ws rm).room) hsize hmY hcY hframes (by rw [hlY]; omega) h4 h5) h1
  obtain ⟨mid, hmid⟩ := h.above
  have hfr : (U.setTop g).frames = (.java g :: mid) ++ below := by rw [State.frames_setTop' g h.top, hmid]; rfl
  obtain ⟨o, s₂, hsteps, -, hend, hq⟩ := Steps.callFree hM p X.admits X.cas X.clock (acts := []) hfr happ hPc trivial
  have hq' : vx_Q Qc XC mc ms free a (U.calling g mk a) o s₂ := hq
  rw [State.frames_setTop' g h.top] at hend
  obtain ⟨g₀, hg0⟩ := Option.isSome_iff_exists.mp h.top
  obtain ⟨r, hr⟩ := State.topJava?_eq_some.mp hg0
  have hr' : (({ U with heap := s₂.heap, slotsUsed := s₂.slotsUsed } : State).setVm s₂.vm).frames = .java g₀ :: r := hr
  rcases hq' with ⟨hqc, L, hfe, hL⟩ | ⟨q, rfl, E, ce, L, hx, hce, hcv, hcl, hW₂, hsm, hL⟩
  · obtain ⟨⟨v, rfl⟩, hW₂, e2, q2, q3, q4, q5, q6⟩ := id hfe
    have e3 : s₂ = ({ (U.calling g mk a).setFrames s₂.frames with heap := s₂.heap, slotsUsed := s₂.slotsUsed } : State).setVm s₂.vm := by
      have : s₂ = ({ s₂ with vm := (U.calling g mk a).vm } : State).setVm s₂.vm := rfl
      rw [e2] at this
      exact this
    obtain ⟨c₂, i₂, len₂, hc₂, hd₂, hf₂⟩ := hend
    have hW' : U.WarmedH s₂.vm := hW₂
    have hcc : c₂ = c := by
      have h1 : s₂.code? g.method = U.code? g.method := by
        rw [State.code?_eq, State.code?_eq, hW'.alike.method?]
      exact Option.some.inj (hc₂.symm.trans (h1.trans h.code))
    subst hcc
    have hlen : len₂ = len := by rw [hdg] at hd₂; cases hd₂; rfl
    subst hlen
    have hs₂ : s₂ = (({ U with heap := s₂.heap, slotsUsed := s₂.slotsUsed } : State).setVm s₂.vm).setTop { g with pc := g.pc + len₂, stack := v.toList ++ g.stack } := by
      refine e3.trans ?_
      rw [hf₂, State.calling_eq h.top, State.setFrames_setFrames, State.setTop_of_frames _ hr', hr]
      rfl
    have hsame : U.sameButNew ({ U with heap := s₂.heap, slotsUsed := s₂.slotsUsed } : State) L mc ms := by
      refine ⟨?_, q2, q3, q4, q5, q6⟩
      obtain ⟨t, ht, -⟩ := State.frames_cons hr
      show ({ U with heap := s₂.heap, slotsUsed := s₂.slotsUsed } : State) = { U.setFrames U.frames with heap := s₂.heap, slotsUsed := s₂.slotsUsed }
      rw [State.setFrames_self ht]
    subst hg
    refine Or.inl ⟨v, ⟨(({ U with heap := s₂.heap, slotsUsed := s₂.slotsUsed } : State).setVm s₂.vm), Ls ++ L, c0 + mc, s0 + ms⟩,
      ⟨X.admits, X.cas, X.clock, X.frames, X.room, X.hears, X.method, X.code, (X.here.setHeapUsed s₂.heap s₂.slotsUsed).setVm hW'.alike, X.tail, State.WarmedH.trans X.warmed hW', X.limits, X.bytes, X.same.trans (hsame.setVm s.vm)⟩,
      ⟨g, mk, s₂, L, rfl, rfl, hqc, rfl, hL, rfl, rfl⟩, ?_⟩
    show Steps p.tables e below _ ((({ U with heap := s₂.heap, slotsUsed := s₂.slotsUsed } : State).setVm s₂.vm).setTop { g with pc := g.pc + len₂, stack := v.toList ++ g.stack })
    rw [← hs₂]
    exact hsteps
  · obtain ⟨e2, q2, q3, q4, q5, q6⟩ := id hsm
    have e3 : s₂ = ({ (U.calling g mk a).setFrames s₂.frames with heap := s₂.heap, slotsUsed := s₂.slotsUsed } : State).setVm s₂.vm := by
      have : s₂ = ({ s₂ with vm := (U.calling g mk a).vm } : State).setVm s₂.vm := rfl
      rw [e2] at this
      exact this
    have hf₂ : s₂.frames = .throwing q :: .java g :: U.frames.tail := hend
    have hW' : U.WarmedH s₂.vm := hW₂
    have hs₂ : s₂ = ((({ U with heap := s₂.heap, slotsUsed := s₂.slotsUsed } : State).setVm s₂.vm).setTop g).pushFrame (.throwing q) := by
      refine e3.trans ?_
      rw [hf₂, State.calling_eq h.top, State.setFrames_setFrames, State.pushFrame, State.frames_setTop _ hr', State.setTop_of_frames _ hr', State.setFrames_setFrames, hr]
      rfl
    have hsame : U.sameButNew ({ U with heap := s₂.heap, slotsUsed := s₂.slotsUsed } : State) L mc ms := by
      refine ⟨?_, q2, q3, q4, q5, q6⟩
      obtain ⟨t, ht, -⟩ := State.frames_cons hr
      show ({ U with heap := s₂.heap, slotsUsed := s₂.slotsUsed } : State) = { U.setFrames U.frames with heap := s₂.heap, slotsUsed := s₂.slotsUsed }
      rw [State.setFrames_self ht]
    subst hg
    refine Or.inr ⟨q, ⟨(({ U with heap := s₂.heap, slotsUsed := s₂.slotsUsed } : State).setVm s₂.vm), Ls ++ L, c0 + mc, s0 + ms⟩,
      ⟨X.admits, X.cas, X.clock, X.frames, X.room, X.hears, X.method, X.code, (X.here.setHeapUsed s₂.heap s₂.slotsUsed).setVm hW'.alike, X.tail, State.WarmedH.trans X.warmed hW', X.limits, X.bytes, X.same.trans (hsame.setVm s.vm)⟩,
      ⟨g, mk, s₂, L, E, ce, rfl, rfl, hx, hce, hcv, hcl, rfl, hL, rfl, rfl⟩, ?_⟩
    show Steps p.tables e below _ (((({ U with heap := s₂.heap, slotsUsed := s₂.slotsUsed } : State).setVm s₂.vm).setTop g).pushFrame (.throwing q))
    rw [← hs₂]
    exact hsteps
end
variable {p : Program} {l : Launch} {e : Env} {R : Room} {s : State} {m : MethodId} {args : Array Value} {below : List Frame} {meth : Method} {c : Code} {T : State} {H : Heap} {locs : List Loc} {cells slots : Nat}
theorem vx_callVX (X : Stand p l e R s m args below meth c T locs cells slots) (hexec : p.tables.exec = Jvm.exec) {own C : String} {index : Nat} {y : MethodName} {bytes : ByteArray} {maxL : Nat} {ret : Option FieldType} {hh : List (Nat × Nat × Nat × Nat)}
    (hown : s.vm.findClass own = some m.cls) (hlink : (Cond.methodLink own index y).before args s = true) (hinst : (Cond.instanceMethod y).before args s = true) (hsel : (Cond.selects C y y).before args s = true)
    (hcode : (Cond.codeWith y bytes maxL ret hh).before args s = true) (hy : y.cls ≠ "java/lang/invoke/MethodHandle" ∧ y.cls ≠ "java/lang/invoke/VarHandle")
    {W9 : Nat} {Pre : Pt → Array Value → Prop} {Post : Pt → Array Value → Option Value → Pt → Prop} {PostX : Pt → Array Value → Addr → Pt → Prop} (hK : vx_Back l R p e below s args y 3 W9 Pre Post PostX)
    {b : Addr} {cellB : Cell} (hcell : T.heap[b]? = some cellB) (hobj : cellB.vm.isStatics = false) (hcls : s.vm.findClass C = some cellB.cls)
    {g : JFrame} (hg : g.method = m) (hsize : g.locals.size = c.maxLocals) {argsL rest : List Value} (hlen : ∀ sig, parseMethodDescriptor y.desc = some sig → argsL.length = sig.parameters.length)
    (hstack : g.stack = argsL.reverse ++ .ref b :: rest) (hW : 2 * g.monitorRoom + (rest.map fun v => v.category).sum ≤ W9) (hdg : decode c.code g.pc = .ok (.invokevirtual index, 3))
    (hpre : ∀ vm₁, s.WarmedH vm₁ → Pre ⟨T.setVm vm₁, locs, cells, slots⟩ (Value.ref b :: argsL).toArray) :
    (∃ (v : Option Value) (vm₁ : Vm) (B : Pt), s.WarmedH vm₁ ∧ Stand p l e R s m args below meth c B.U B.locs B.cells B.slots ∧ Post ⟨T.setVm vm₁, locs, cells, slots⟩ (Value.ref b :: argsL).toArray v B ∧
      ∀ target, Steps p.tables e below (B.U.setTop { g with pc := g.pc + 3, stack := v.toList ++ rest }) target → Steps p.tables e below (T.setTop g) target) ∨
    (∃ (q : Addr) (vm₁ : Vm) (B : Pt), s.WarmedH vm₁ ∧ Stand p l e R s m args below meth c B.U B.locs B.cells B.slots ∧ PostX ⟨T.setVm vm₁, locs, cells, slots⟩ (Value.ref b :: argsL).toArray q B ∧
      Steps p.tables e below (T.setTop g) ((B.U.setTop { g with stack := rest }).pushFrame (.throwing q))) := by
  obtain ⟨mk, methM, hnamed, hmethM, hstM, habM⟩ := Cond.instanceMethod_spec hinst
  obtain ⟨m8, methM', cM, hn8, hmethM', -, -, -, -, -, -, hsigM⟩ := Cond.codeWith_spec hcode
  cases Option.some.inj (hn8.symm.trans hnamed)
  cases hmethM.symm.trans hmethM'
  obtain ⟨c2, r2, m2, q1, q2, q3, q4, kP, hkP, hkPi⟩ := Cond.selects_spec hsel
  cases hcls.symm.trans q1
  cases (State.methodFound?_of_named hnamed hy).symm.trans q2
  cases hnamed.symm.trans q3
  have hselP : selectMethod e.platform s.vm cellB.cls mk = .method mk := by rw [Launch.admits_selectMethod X.admits]; exact q4
  obtain ⟨vm₁, X₁, hstep₁⟩ := X.invokevirtual hexec hown hlink hnamed hmethM hstM hkP hkPi hy (a := b) (cell := cellB) hcell
    (fun z h => by rw [h] at hobj; cases hobj) hselP hmethM habM hkP hkPi (g := g) hg (argsL := argsL) (rest := rest) (hlen _ hsigM) hstack hdg
  rcases hK m meth c ⟨T.setVm vm₁, locs, cells, slots⟩ { g with stack := rest } (.invokevirtual index) mk (Value.ref b :: argsL).toArray X₁ hg hsize hdg hW (X₁.named hnamed) (hpre vm₁ X₁.warmed) with ⟨v, B, X', hpost, hsteps⟩ | ⟨q, B, X', hpost, hsteps⟩
  · exact Or.inl ⟨v, vm₁, B, X₁.warmed, X', hpost, fun target h => hstep₁ _ fun acts => by rw [doInvoke_state]; exact hsteps.trans h⟩
  · exact Or.inr ⟨q, vm₁, B, X₁.warmed, X', hpost, hstep₁ _ fun acts => by rw [doInvoke_state]; exact hsteps⟩
theorem vx_callSX (X : Stand p l e R s m args below meth c T locs cells slots) (hexec : p.tables.exec = Jvm.exec) {own : String} {index : Nat} {y : MethodName} {bytes : ByteArray} {maxL : Nat} {ret : Option FieldType} {hh : List (Nat × Nat × Nat × Nat)}
    (hown : s.vm.findClass own = some m.cls) (hlink : (Cond.methodLink own index y).before args s = true) (hstat : (Cond.static y).before args s = true) (hinit : (Cond.initialized y.cls).before args s = true)
    (hcode : (Cond.codeWith y bytes maxL ret hh).before args s = true) (hy : y.cls ≠ "java/lang/invoke/MethodHandle" ∧ y.cls ≠ "java/lang/invoke/VarHandle")
    {W9 : Nat} {Pre : Pt → Array Value → Prop} {Post : Pt → Array Value → Option Value → Pt → Prop} {PostX : Pt → Array Value → Addr → Pt → Prop} (hK : vx_Back l R p e below s args y 3 W9 Pre Post PostX)
    {g : JFrame} (hg : g.method = m) (hsize : g.locals.size = c.maxLocals) {argsL rest : List Value} (hlen : ∀ sig, parseMethodDescriptor y.desc = some sig → argsL.length = sig.parameters.length)
    (hstack : g.stack = argsL.reverse ++ rest) (hW : 2 * g.monitorRoom + (rest.map fun v => v.category).sum ≤ W9) (hdg : decode c.code g.pc = .ok (.invokestatic index, 3))
    (hpre : ∀ vm₁, s.WarmedH vm₁ → Pre ⟨T.setVm vm₁, locs, cells, slots⟩ argsL.toArray) :
    (∃ (v : Option Value) (vm₁ : Vm) (B : Pt), s.WarmedH vm₁ ∧ Stand p l e R s m args below meth c B.U B.locs B.cells B.slots ∧ Post ⟨T.setVm vm₁, locs, cells, slots⟩ argsL.toArray v B ∧
      ∀ target, Steps p.tables e below (B.U.setTop { g with pc := g.pc + 3, stack := v.toList ++ rest }) target → Steps p.tables e below (T.setTop g) target) ∨
    (∃ (q : Addr) (vm₁ : Vm) (B : Pt), s.WarmedH vm₁ ∧ Stand p l e R s m args below meth c B.U B.locs B.cells B.slots ∧ PostX ⟨T.setVm vm₁, locs, cells, slots⟩ argsL.toArray q B ∧
      Steps p.tables e below (T.setTop g) ((B.U.setTop { g with stack := rest }).pushFrame (.throwing q))) := by
  obtain ⟨mk, methM, cM, hnamed, hmethM, -, -, -, -, -, -, hsigM⟩ := Cond.codeWith_spec hcode
  have hstatic : methM.isStatic = true := Cond.static_spec hnamed hmethM hstat
  obtain ⟨kP, hkP, -⟩ := className_of_methodNamed hnamed
  have hinitP : kP.init = .initialized := Cond.initialized_spec (findClass_of_methodNamed hnamed) hkP hinit
  obtain ⟨vm₁, X₁, hstep₁⟩ := X.invokestatic hexec hown hlink hnamed hmethM hstatic hkP hinitP hy (g := g) hg (argsL := argsL) (rest := rest) (hlen _ hsigM) hstack hdg
  rcases hK m meth c ⟨T.setVm vm₁, locs, cells, slots⟩ { g with stack := rest } (.invokestatic index) mk argsL.toArray X₁ hg hsize hdg hW (X₁.named hnamed) (hpre vm₁ X₁.warmed) with ⟨v, B, X', hpost, hsteps⟩ | ⟨q, B, X', hpost, hsteps⟩
  · exact Or.inl ⟨v, vm₁, B, X₁.warmed, X', hpost, fun target h => hstep₁ _ fun acts => by rw [doInvoke_state]; exact hsteps.trans h⟩
  · exact Or.inr ⟨q, vm₁, B, X₁.warmed, X', hpost, hstep₁ _ fun acts => by rw [doInvoke_state]; exact hsteps⟩
theorem vx_callVW (X : Stand p l e R s m args below meth c T locs cells slots) (hexec : p.tables.exec = Jvm.exec) {own C : String} {index : Nat} {y : MethodName} {bytes : ByteArray} {maxL : Nat} {ret : Option FieldType} {hh : List (Nat × Nat × Nat × Nat)}
    (hown : s.vm.findClass own = some m.cls) (hlink : (Cond.methodLink own index y).before args s = true) (hinst : (Cond.instanceMethod y).before args s = true) (hsel : (Cond.selects C y y).before args s = true)
    (hcode : (Cond.codeWith y bytes maxL ret hh).before args s = true) (hy : y.cls ≠ "java/lang/invoke/MethodHandle" ∧ y.cls ≠ "java/lang/invoke/VarHandle")
    {W9 : Nat} {Pre : Pt → Array Value → Prop} {Post : Pt → Array Value → Option Value → Pt → Prop} (hK : Back l R p e below s args y 3 W9 Pre Post)
    {b : Addr} {cellB : Cell} (hcell : T.heap[b]? = some cellB) (hobj : cellB.vm.isStatics = false) (hcls : s.vm.findClass C = some cellB.cls)
    {g : JFrame} (hg : g.method = m) (hsize : g.locals.size = c.maxLocals) {argsL rest : List Value} (hlen : ∀ sig, parseMethodDescriptor y.desc = some sig → argsL.length = sig.parameters.length)
    (hstack : g.stack = argsL.reverse ++ .ref b :: rest) (hW : 2 * g.monitorRoom + (rest.map fun v => v.category).sum ≤ W9) (hdg : decode c.code g.pc = .ok (.invokevirtual index, 3))
    (hpre : ∀ vm₁, s.WarmedH vm₁ → Pre ⟨T.setVm vm₁, locs, cells, slots⟩ (Value.ref b :: argsL).toArray) :
    ∃ (v : Option Value) (vm₁ : Vm) (B : Pt), s.WarmedH vm₁ ∧ Stand p l e R s m args below meth c B.U B.locs B.cells B.slots ∧ Post ⟨T.setVm vm₁, locs, cells, slots⟩ (Value.ref b :: argsL).toArray v B ∧
      ∀ target, Steps p.tables e below (B.U.setTop { g with pc := g.pc + 3, stack := v.toList ++ rest }) target → Steps p.tables e below (T.setTop g) target := by
  obtain ⟨mk, methM, hnamed, hmethM, hstM, habM⟩ := Cond.instanceMethod_spec hinst
  obtain ⟨m8, methM', cM, hn8, hmethM', -, -, -, -, -, -, hsigM⟩ := Cond.codeWith_spec hcode
  cases Option.some.inj (hn8.symm.trans hnamed)
  cases hmethM.symm.trans hmethM'
  obtain ⟨c2, r2, m2, q1, q2, q3, q4, kP, hkP, hkPi⟩ := Cond.selects_spec hsel
  cases hcls.symm.trans q1
  cases (State.methodFound?_of_named hnamed hy).symm.trans q2
  cases hnamed.symm.trans q3
  have hselP : selectMethod e.platform s.vm cellB.cls mk = .method mk := by rw [Launch.admits_selectMethod X.admits]; exact q4
  obtain ⟨vm₁, X₁, hstep₁⟩ := X.invokevirtual hexec hown hlink hnamed hmethM hstM hkP hkPi hy (a := b) (cell := cellB) hcell
    (fun z h => by rw [h] at hobj; cases hobj) hselP hmethM habM hkP hkPi (g := g) hg (argsL := argsL) (rest := rest) (hlen _ hsigM) hstack hdg
  obtain ⟨v, B, X', hpost, hsteps⟩ := hK m meth c ⟨T.setVm vm₁, locs, cells, slots⟩ { g with stack := rest } (.invokevirtual index) mk (Value.ref b :: argsL).toArray X₁ hg hsize hdg hW (X₁.named hnamed) (hpre vm₁ X₁.warmed)
  exact ⟨v, vm₁, B, X₁.warmed, X', hpost, fun target h => hstep₁ _ fun acts => by rw [doInvoke_state]; exact hsteps.trans h⟩
abbrev vx_CVW (R : Room) (s : State) (args : Array Value) (own C : String) (index : Nat) (y : MethodName) (bytes : ByteArray) (maxL : Nat) (ret : Option FieldType) (hh : List (Nat × Nat × Nat × Nat)) (ws : List Cond) (rm : Room) (mc ms n : Nat) : Prop :=
  (rm.cells = mc ∧ rm.slots = ms ∧ rm.frames + 1 ≤ R.frames ∧ 8 + (maxL + 11) + rm.locals ≤ R.locals ∧ (∀ w ∈ ws, ∀ (a' : Array Value) (U : State), s.WarmedH U.vm → w.before a' U = true) ∧ Cond.codeWith y bytes maxL ret hh ∈ ws) ∧
  (Cond.codeWith y bytes maxL ret hh).before args s = true ∧ (Cond.initialized y.cls).before args s = true ∧ (y.cls ≠ "java/lang/invoke/MethodHandle" ∧ y.cls ≠ "java/lang/invoke/VarHandle") ∧
  (∀ sig, parseMethodDescriptor y.desc = some sig → n = sig.parameters.length) ∧ (Cond.methodLink own index y).before args s = true ∧ (Cond.instanceMethod y).before args s = true ∧ (Cond.selects C y y).before args s = true
theorem vx_cwVW {own C : String} {index maxL mc ms : Nat} {y : MethodName} {bytes : ByteArray} {ret : Option FieldType} {hh : List (Nat × Nat × Nat × Nat)} {Ts ws ws' : List Cond} {rm : Room} (n : Nat) (ht : ∀ w ∈ Ts, w.before args s = true) (hT : GoodIn Ts (wsV own index C y ws)) (hw : ws = Cond.codeWith y bytes maxL ret hh :: ws') (hrc : rm.cells = mc) (hrs : rm.slots = ms)
    (hd : y.cls = C ∧ y.cls ≠ "java/lang/invoke/MethodHandle" ∧ y.cls ≠ "java/lang/invoke/VarHandle" ∧ (parseMethodDescriptor y.desc).map (fun d => d.parameters.length) = some n) (hR : rm.frames + 1 ≤ R.frames ∧ 8 + (maxL + 11) + rm.locals ≤ R.locals) :
    vx_CVW R s args own C index y bytes maxL ret hh ws rm mc ms n := by
  obtain ⟨hC, hd⟩ := hd
  subst hC
  have ok : ∀ w ∈ wsV own index y.cls y ws, w.before args s = true := fun w h => ht w (hT w h).1
  have hG : GoodIn Ts ws := fun w h => hT w (by unfold wsV; exact List.mem_append_right _ h)
  have hc : Cond.codeWith y bytes maxL ret hh ∈ ws := by rw [hw]; exact List.mem_cons_self
  refine ⟨⟨hrc, hrs, hR.1, hR.2, pay_in ht hG, hc⟩, ht _ (hG _ hc).1, ok _ (by simp [wsV]), ⟨hd.1, hd.2.1⟩, fun sig h => ?_, ok _ (by simp [wsV]), ok _ (by simp [wsV]), ok _ (by simp [wsV])⟩
  have h2 := hd.2.2
  rw [h] at h2
  exact (Option.some.inj h2).symm
theorem vx_runVW {y : MethodName} {bytes cc : ByteArray} {maxL nL mc ms n index : Nat} {ret : Option FieldType} {hh : List (Nat × Nat × Nat × Nat)} {ws : List Cond} {rm : Room} {Pc : Array Value → State → Prop} {Qc : Array Value → State → Outcome → State → Prop} {free : Addr → Prop} {Ts : List Cond} {own C : String} {b : Addr} {As rest : List Value} {g : JFrame}
    (S : CallFix p m c cc nL s args Ts own) (hM : Met l y ws rm Pc Qc mc ms free) (cw : vx_CVW R s args own C index y bytes maxL ret hh ws rm mc ms n) (hp : PreV s H C b Pc As)
    (hg : g.method = m) (hn : As.length = n) (hsize : g.locals.size = nL) (hstack : g.stack = As.reverse ++ .ref b :: rest) (hW : 2 * g.monitorRoom + (rest.map fun v => v.category).sum ≤ 8) (hdg : decode cc g.pc = .ok (.invokevirtual index, 3)) (hf : cells + mc ≤ R.cells ∧ slots + ms ≤ R.slots) :
    va_Run p l e R s m args below meth c H locs cells slots mc ms g rest (Qc (Value.ref b :: As).toArray) free := by
  obtain ⟨⟨hrc, hrs, hfr, hlo, hws, hcw⟩, hcode, hini, hy, hlen, hl, hin, hse⟩ := cw
  have hK : Back l R p e below s args y 3 8 (PreOf R mc ms Pc) (PostOf Qc mc ms free) := va_backW (hh := hh) (bytes := bytes) (maxL := maxL) (ret := ret) hM hp.1 hrc hrs hfr hlo hws hcw (fun a' U hW => word_at hW (Or.inl (by first | rfl | simp [Cond.onTables, Cond.keeps, Cond.steady])) hini)
  obtain ⟨hx, hb, hml, ho, -⟩ := S
  obtain ⟨-, ⟨cellB, hcB, hoB, hclB⟩, hPc⟩ := hp
  intro T hT X
  obtain ⟨v, vm₁, ⟨U', l2, c2, s2⟩, hW₁, X', ⟨g', mk, t, L, e1, e2, hq, h1, hL, h2, h3⟩, st⟩ := vx_callVW X hx (C := C) (hh := hh) (bytes := bytes) (maxL := maxL) (ret := ret) ho hl hin hse hcode hy hK (by rw [hT]; exact hcB) hoB hclB hg (hsize.trans hml.symm) (argsL := As) (rest := rest) (fun sig h => hn.trans (hlen sig h)) hstack hW (by rw [hb]; exact hdg)
    (fun vm₁ hW₁ => ⟨hf.1, hf.2, hPc (T.setVm vm₁) hT hW₁⟩)
  dsimp only [Pt.U, Pt.locs, Pt.cells, Pt.slots] at X' e1 e2 h1 h2 h3 st
  subst h1; subst h2; subst h3
  exact ⟨v, (T.setVm vm₁).calling g' mk (Value.ref b :: As).toArray, t, U', L, hT, X', hL, e1, e2, hq, st⟩
section
variable {y : MethodName} {bytes cc : ByteArray} {maxL nL mc ms n index : Nat} {ret : Option FieldType} {ws : List Cond} {rm : Room} {Pc : Array Value → State → Prop} {Qc : Array Value → State → Outcome → State → Prop} {XC : String → State → State → Prop} {free : Addr → Prop} {Ts : List Cond} {own C : String} {b : Addr} {As rest : List Value} {g : JFrame}
theorem vx_runVX {hh : List (Nat × Nat × Nat × Nat)} (S : CallFix p m c cc nL s args Ts own) (hM : vx_Met l y ws rm Pc Qc XC mc ms free) (cw : vx_CVW R s args own C index y bytes maxL ret hh ws rm mc ms n) (hp : PreV s H C b Pc As)
    (hg : g.method = m) (hn : As.length = n) (hsize : g.locals.size = nL) (hstack : g.stack = As.reverse ++ .ref b :: rest) (hW : 2 * g.monitorRoom + (rest.map fun v => v.category).sum ≤ 8) (hdg : decode cc g.pc = .ok (.invokevirtual index, 3)) (hf : cells + mc ≤ R.cells ∧ slots + ms ≤ R.slots) :
    vx_Run p l e R s m args below meth c H locs cells slots mc ms g rest (Qc (Value.ref b :: As).toArray) XC free := by
  obtain ⟨⟨hrc, hrs, hfr, hlo, hws, hcw⟩, hcode, hini, hy, hlen, hl, hin, hse⟩ := cw
  have hK : vx_Back l R p e below s args y 3 8 (PreOf R mc ms Pc) (PostOf Qc mc ms free) (vx_Post XC mc ms free) := vx_backW (hh := hh) (bytes := bytes) (maxL := maxL) (ret := ret) hM hp.1 hrc hrs hfr hlo hws hcw (fun a' U hW => word_at hW (Or.inl (by first | rfl | simp [Cond.onTables, Cond.keeps, Cond.steady])) hini)
  obtain ⟨hx, hb, hml, ho, -⟩ := S
  obtain ⟨-, ⟨cellB, hcB, hoB, hclB⟩, hPc⟩ := hp
  intro T hT X
  rcases vx_callVX X hx (C := C) (hh := hh) (bytes := bytes) (maxL := maxL) (ret := ret) ho hl hin hse hcode hy hK (by rw [hT]; exact hcB) hoB hclB hg (hsize.trans hml.symm) (argsL := As) (rest := rest) (fun sig h => hn.trans (hlen sig h)) hstack hW (by rw [hb]; exact hdg)
    (fun vm₁ hW₁ => ⟨hf.1, hf.2, hPc (T.setVm vm₁) hT hW₁⟩) with ⟨v, vm₁, ⟨U', l2, c2, s2⟩, hW₁, X', ⟨g', mk, t, L, e1, e2, hq, h1, hL, h2, h3⟩, st⟩ | ⟨q, vm₁, ⟨U', l2, c2, s2⟩, hW₁, X', ⟨g', mk, t, L, E, ce, e1, e2, hq, hce, hcv, hcl, h1, hL, h2, h3⟩, st⟩
  · dsimp only [Pt.U, Pt.locs, Pt.cells, Pt.slots] at X' e1 e2 h1 h2 h3 st
    subst h1; subst h2; subst h3
    exact Or.inl ⟨v, (T.setVm vm₁).calling g' mk (Value.ref b :: As).toArray, t, U', L, hT, X', hL, e1, e2, hq, st⟩
  · dsimp only [Pt.U, Pt.locs, Pt.cells, Pt.slots] at X' e1 e2 h1 h2 h3 st hcl
    subst h1; subst h2; subst h3
    exact Or.inr ⟨q, (T.setVm vm₁).calling g' mk (Value.ref b :: As).toArray, t, U', L, E, ce, hT, X', hL, e1, e2, hq, hce, hcv, vx_cls hW₁ hcl, st⟩
theorem vx_runSX {hh : List (Nat × Nat × Nat × Nat)} (S : CallFix p m c cc nL s args Ts own) (hM : vx_Met l y ws rm Pc Qc XC mc ms free) (cw : vx_CSW R s args own index y bytes maxL ret hh ws rm mc ms n) (hp : PreS s H Pc As)
    (hg : g.method = m) (hn : As.length = n) (hsize : g.locals.size = nL) (hstack : g.stack = As.reverse ++ rest) (hW : 2 * g.monitorRoom + (rest.map fun v => v.category).sum ≤ 8) (hdg : decode cc g.pc = .ok (.invokestatic index, 3)) (hf : cells + mc ≤ R.cells ∧ slots + ms ≤ R.slots) :
    vx_Run p l e R s m args below meth c H locs cells slots mc ms g rest (Qc As.toArray) XC free := by
  obtain ⟨⟨hrc, hrs, hfr, hlo, hws, hcw⟩, hcode, hini, hy, hlen, hl, hstt⟩ := cw
  have hK : vx_Back l R p e below s args y 3 8 (PreOf R mc ms Pc) (PostOf Qc mc ms free) (vx_Post XC mc ms free) := vx_backW (hh := hh) (bytes := bytes) (maxL := maxL) (ret := ret) hM hp.1 hrc hrs hfr hlo hws hcw (fun a' U hW => word_at hW (Or.inl (by first | rfl | simp [Cond.onTables, Cond.keeps, Cond.steady])) hini)
  obtain ⟨hx, hb, hml, ho, -⟩ := S
  intro T hT X
  rcases vx_callSX X hx (hh := hh) (bytes := bytes) (maxL := maxL) (ret := ret) ho hl hstt hini hcode hy hK hg (hsize.trans hml.symm) (argsL := As) (rest := rest) (fun sig h => hn.trans (hlen sig h)) hstack hW (by rw [hb]; exact hdg)
    (fun vm₁ hW₁ => ⟨hf.1, hf.2, hp.2 (T.setVm vm₁) hT hW₁⟩) with ⟨v, vm₁, ⟨U', l2, c2, s2⟩, hW₁, X', ⟨g', mk, t, L, e1, e2, hq, h1, hL, h2, h3⟩, st⟩ | ⟨q, vm₁, ⟨U', l2, c2, s2⟩, hW₁, X', ⟨g', mk, t, L, E, ce, e1, e2, hq, hce, hcv, hcl, h1, hL, h2, h3⟩, st⟩
  · dsimp only [Pt.U, Pt.locs, Pt.cells, Pt.slots] at X' e1 e2 h1 h2 h3 st
    subst h1; subst h2; subst h3
    exact Or.inl ⟨v, (T.setVm vm₁).calling g' mk As.toArray, t, U', L, hT, X', hL, e1, e2, hq, st⟩
  · dsimp only [Pt.U, Pt.locs, Pt.cells, Pt.slots] at X' e1 e2 h1 h2 h3 st hcl
    subst h1; subst h2; subst h3
    exact Or.inr ⟨q, (T.setVm vm₁).calling g' mk As.toArray, t, U', L, E, ce, hT, X', hL, e1, e2, hq, hce, hcv, vx_cls hW₁ hcl, st⟩
end
end VXH
theorem vx_ofWH {l : Launch} {y : MethodName} {ws ws' : List Cond} {rm : Room} {Pc : Array Value → State → Prop} {Qc : Array Value → State → Outcome → State → Prop} {XC : String → State → State → Prop} {mc ms : Nat} {free : Addr → Prop} {cc : ByteArray} {maxL : Nat} {ret : Option FieldType} {hh : List (Nat × Nat × Nat × Nat)}
    (hy : plainName y.cls = true) (hw : ws = Cond.codeWith y cc maxL ret hh :: ws')
    (body : ∀ p e s m args below meth c s₁, BodyLoose p l y (headSpec ws rm) cc maxL ret e s m args below meth c s₁ → c.maxLocals = maxL → Pc args s →
      W p l e (headSpec ws rm).room s m args below meth c s.heap [] 0 0 (vx_MQ below Qc XC args s mc ms free) (entryFrame m args maxL)) : vx_Met l y ws rm Pc Qc XC mc ms free := by
  refine MetFree.of_bodyS (code := cc) (maxLocals := maxL) (ret := ret) hy ?_ ?_
  · intro args s m h hn
    obtain ⟨m9, meth, c, hn9, h1, h2, h3, h4, -, h5, h6, -⟩ := Cond.codeWith_spec (atoms_spec (ws := ws) h _ (by rw [hw]; exact List.mem_cons_self))
    cases hn.symm.trans hn9
    exact ⟨meth, c, h1, h2, h3, h4, h5, h6⟩
  · intro p e s m args below meth c s₁ B hml hP _
    have hh0 : s₁.heap = s.heap := by rw [B.state]; rfl
    obtain ⟨t, a1, o, b1, b2, b3⟩ := body p e s m args below meth c s₁ B hml hP s₁ hh0 (Stand.of_body B)
    exact ⟨t, o, a1, b1, b2, b3⟩
/-! ===== END ===== -/
end
section
-- ===== PART A: goes FIRST, ahead of the names: the tables' words, and 'selects' of the private methods out of them =====
/-- a private method of a class that the tables say can be made, by its rows of tables_1 -/
def lw_okq (q : MethodName × Nat) : Prop := (q.1.cls ≠ "java/lang/invoke/MethodHandle" ∧ q.1.cls ≠ "java/lang/invoke/VarHandle") ∧ Cond.instantiable q.1.cls q.2 ∈ tables_1 ∧ Cond.privateMethod q.1 ∈ tables_1 ∧ Cond.instanceMethod q.1 ∈ tables_1
theorem lw_p0 : lw_okq (⟨"NameForge$Program", "fits", "(II)Z"⟩, 8) := ⟨⟨by decide +kernel, by decide +kernel⟩, List.mem_of_getElem? (i := 27) (by decide +kernel), List.mem_of_getElem? (i := 221) (by decide +kernel), List.mem_of_getElem? (i := 222) (by decide +kernel)⟩
theorem lw_p1 : lw_okq (⟨"java/lang/Throwable", "fillInStackTrace", "(I)Ljava/lang/Throwable;"⟩, 6) := ⟨⟨by decide +kernel, by decide +kernel⟩, List.mem_of_getElem? (i := 274) (by decide +kernel), List.mem_of_getElem? (i := 272) (by decide +kernel), List.mem_of_getElem? (i := 273) (by decide +kernel)⟩
theorem lw_p2 : lw_okq (⟨"NameForge$Worker", "value", "(ILNameForge$Environment;I)D"⟩, 13) := ⟨⟨by decide +kernel, by decide +kernel⟩, List.mem_of_getElem? (i := 104) (by decide +kernel), List.mem_of_getElem? (i := 397) (by decide +kernel), List.mem_of_getElem? (i := 398) (by decide +kernel)⟩
theorem lw_p3 : lw_okq (⟨"NameForge$Worker", "mayBegin", "(I)Z"⟩, 13) := ⟨⟨by decide +kernel, by decide +kernel⟩, List.mem_of_getElem? (i := 104) (by decide +kernel), List.mem_of_getElem? (i := 401) (by decide +kernel), List.mem_of_getElem? (i := 402) (by decide +kernel)⟩
theorem lw_p4 : lw_okq (⟨"NameForge$Worker", "choice", "(ILNameForge$Environment;I)D"⟩, 13) := ⟨⟨by decide +kernel, by decide +kernel⟩, List.mem_of_getElem? (i := 104) (by decide +kernel), List.mem_of_getElem? (i := 406) (by decide +kernel), List.mem_of_getElem? (i := 407) (by decide +kernel)⟩
theorem lw_p5 : lw_okq (⟨"NameForge$Worker", "leaving", "()Z"⟩, 13) := ⟨⟨by decide +kernel, by decide +kernel⟩, List.mem_of_getElem? (i := 104) (by decide +kernel), List.mem_of_getElem? (i := 410) (by decide +kernel), List.mem_of_getElem? (i := 411) (by decide +kernel)⟩
theorem lw_p6 : lw_okq (⟨"NameForge$Worker", "parameter", "(ILNameForge$Environment;I)D"⟩, 13) := ⟨⟨by decide +kernel, by decide +kernel⟩, List.mem_of_getElem? (i := 104) (by decide +kernel), List.mem_of_getElem? (i := 414) (by decide +kernel), List.mem_of_getElem? (i := 415) (by decide +kernel)⟩
theorem lw_p7 : lw_okq (⟨"NameForge$Worker", "fail", "(I)D"⟩, 13) := ⟨⟨by decide +kernel, by decide +kernel⟩, List.mem_of_getElem? (i := 104) (by decide +kernel), List.mem_of_getElem? (i := 422) (by decide +kernel), List.mem_of_getElem? (i := 423) (by decide +kernel)⟩
theorem lw_p8 : lw_okq (⟨"NameForge$Worker", "mayEnter", "()Z"⟩, 13) := ⟨⟨by decide +kernel, by decide +kernel⟩, List.mem_of_getElem? (i := 104) (by decide +kernel), List.mem_of_getElem? (i := 430) (by decide +kernel), List.mem_of_getElem? (i := 431) (by decide +kernel)⟩
theorem lw_p9 : lw_okq (⟨"NameForge$Worker", "call", "(ILNameForge$Environment;I)D"⟩, 13) := ⟨⟨by decide +kernel, by decide +kernel⟩, List.mem_of_getElem? (i := 104) (by decide +kernel), List.mem_of_getElem? (i := 441) (by decide +kernel), List.mem_of_getElem? (i := 442) (by decide +kernel)⟩
theorem lw_p10 : lw_okq (⟨"NameForge$Worker", "set", "(ILNameForge$Environment;I)D"⟩, 13) := ⟨⟨by decide +kernel, by decide +kernel⟩, List.mem_of_getElem? (i := 104) (by decide +kernel), List.mem_of_getElem? (i := 462) (by decide +kernel), List.mem_of_getElem? (i := 463) (by decide +kernel)⟩
theorem lw_p11 : lw_okq (⟨"NameForge$Worker", "become", "(IDLNameForge$Environment;I)D"⟩, 13) := ⟨⟨by decide +kernel, by decide +kernel⟩, List.mem_of_getElem? (i := 104) (by decide +kernel), List.mem_of_getElem? (i := 470) (by decide +kernel), List.mem_of_getElem? (i := 471) (by decide +kernel)⟩
theorem lw_p12 : lw_okq (⟨"NameForge$Worker", "elementBecomes", "(JJD)D"⟩, 13) := ⟨⟨by decide +kernel, by decide +kernel⟩, List.mem_of_getElem? (i := 104) (by decide +kernel), List.mem_of_getElem? (i := 476) (by decide +kernel), List.mem_of_getElem? (i := 477) (by decide +kernel)⟩
theorem lw_p13 : lw_okq (⟨"NameForge$Worker", "localBecomes", "(IDLNameForge$Environment;)D"⟩, 13) := ⟨⟨by decide +kernel, by decide +kernel⟩, List.mem_of_getElem? (i := 104) (by decide +kernel), List.mem_of_getElem? (i := 488) (by decide +kernel), List.mem_of_getElem? (i := 489) (by decide +kernel)⟩
theorem lw_p14 : lw_okq (⟨"NameForge$Worker", "parameterBecomes", "(IDLNameForge$Environment;I)D"⟩, 13) := ⟨⟨by decide +kernel, by decide +kernel⟩, List.mem_of_getElem? (i := 104) (by decide +kernel), List.mem_of_getElem? (i := 492) (by decide +kernel), List.mem_of_getElem? (i := 493) (by decide +kernel)⟩
theorem lw_p15 : lw_okq (⟨"NameForge$Worker", "sequence", "(ILNameForge$Environment;I)D"⟩, 13) := ⟨⟨by decide +kernel, by decide +kernel⟩, List.mem_of_getElem? (i := 104) (by decide +kernel), List.mem_of_getElem? (i := 496) (by decide +kernel), List.mem_of_getElem? (i := 497) (by decide +kernel)⟩
def lw_privs_1 : List (MethodName × Nat) := [(⟨"NameForge$Program", "fits", "(II)Z"⟩, 8), (⟨"java/lang/Throwable", "fillInStackTrace", "(I)Ljava/lang/Throwable;"⟩, 6), (⟨"NameForge$Worker", "value", "(ILNameForge$Environment;I)D"⟩, 13), (⟨"NameForge$Worker", "mayBegin", "(I)Z"⟩, 13), (⟨"NameForge$Worker", "choice", "(ILNameForge$Environment;I)D"⟩, 13), (⟨"NameForge$Worker", "leaving", "()Z"⟩, 13), (⟨"NameForge$Worker", "parameter", "(ILNameForge$Environment;I)D"⟩, 13), (⟨"NameForge$Worker", "fail", "(I)D"⟩, 13), (⟨"NameForge$Worker", "mayEnter", "()Z"⟩, 13), (⟨"NameForge$Worker", "call", "(ILNameForge$Environment;I)D"⟩, 13), (⟨"NameForge$Worker", "set", "(ILNameForge$Environment;I)D"⟩, 13), (⟨"NameForge$Worker", "become", "(IDLNameForge$Environment;I)D"⟩, 13), (⟨"NameForge$Worker", "elementBecomes", "(JJD)D"⟩, 13), (⟨"NameForge$Worker", "localBecomes", "(IDLNameForge$Environment;)D"⟩, 13), (⟨"NameForge$Worker", "parameterBecomes", "(IDLNameForge$Environment;I)D"⟩, 13), (⟨"NameForge$Worker", "sequence", "(ILNameForge$Environment;I)D"⟩, 13)]
theorem lw_r1 : ∀ q ∈ lw_privs_1, lw_okq q := List.forall_mem_cons.mpr ⟨lw_p0, List.forall_mem_cons.mpr ⟨lw_p1, List.forall_mem_cons.mpr ⟨lw_p2, List.forall_mem_cons.mpr ⟨lw_p3, List.forall_mem_cons.mpr ⟨lw_p4, List.forall_mem_cons.mpr ⟨lw_p5, List.forall_mem_cons.mpr ⟨lw_p6, List.forall_mem_cons.mpr ⟨lw_p7, List.forall_mem_cons.mpr ⟨lw_p8, List.forall_mem_cons.mpr ⟨lw_p9, List.forall_mem_cons.mpr ⟨lw_p10, List.forall_mem_cons.mpr ⟨lw_p11, List.forall_mem_cons.mpr ⟨lw_p12, List.forall_mem_cons.mpr ⟨lw_p13, List.forall_mem_cons.mpr ⟨lw_p14, List.forall_mem_cons.mpr ⟨lw_p15, fun _ h => absurd h List.not_mem_nil⟩⟩⟩⟩⟩⟩⟩⟩⟩⟩⟩⟩⟩⟩⟩⟩
theorem lw_p16 : lw_okq (⟨"NameForge$Worker", "loop", "(ILNameForge$Environment;I)D"⟩, 13) := ⟨⟨by decide +kernel, by decide +kernel⟩, List.mem_of_getElem? (i := 104) (by decide +kernel), List.mem_of_getElem? (i := 500) (by decide +kernel), List.mem_of_getElem? (i := 501) (by decide +kernel)⟩
theorem lw_p17 : lw_okq (⟨"NameForge$Worker", "jump", "(I)D"⟩, 13) := ⟨⟨by decide +kernel, by decide +kernel⟩, List.mem_of_getElem? (i := 104) (by decide +kernel), List.mem_of_getElem? (i := 504) (by decide +kernel), List.mem_of_getElem? (i := 505) (by decide +kernel)⟩
theorem lw_p18 : lw_okq (⟨"NameForge$Worker", "label", "(ILNameForge$Environment;I)D"⟩, 13) := ⟨⟨by decide +kernel, by decide +kernel⟩, List.mem_of_getElem? (i := 104) (by decide +kernel), List.mem_of_getElem? (i := 508) (by decide +kernel), List.mem_of_getElem? (i := 509) (by decide +kernel)⟩
theorem lw_p19 : lw_okq (⟨"NameForge$Worker", "ofTwo", "(ILNameForge$Environment;I)D"⟩, 13) := ⟨⟨by decide +kernel, by decide +kernel⟩, List.mem_of_getElem? (i := 104) (by decide +kernel), List.mem_of_getElem? (i := 512) (by decide +kernel), List.mem_of_getElem? (i := 513) (by decide +kernel)⟩
theorem lw_p20 : lw_okq (⟨"NameForge$Worker", "elementAt", "(JJ)D"⟩, 13) := ⟨⟨by decide +kernel, by decide +kernel⟩, List.mem_of_getElem? (i := 104) (by decide +kernel), List.mem_of_getElem? (i := 516) (by decide +kernel), List.mem_of_getElem? (i := 517) (by decide +kernel)⟩
theorem lw_p21 : lw_okq (⟨"NameForge$Worker", "limited", "(D)D"⟩, 13) := ⟨⟨by decide +kernel, by decide +kernel⟩, List.mem_of_getElem? (i := 104) (by decide +kernel), List.mem_of_getElem? (i := 520) (by decide +kernel), List.mem_of_getElem? (i := 521) (by decide +kernel)⟩
theorem lw_p22 : lw_okq (⟨"NameForge$Worker", "quotient", "(JJ)D"⟩, 13) := ⟨⟨by decide +kernel, by decide +kernel⟩, List.mem_of_getElem? (i := 104) (by decide +kernel), List.mem_of_getElem? (i := 525) (by decide +kernel), List.mem_of_getElem? (i := 526) (by decide +kernel)⟩
theorem lw_p23 : lw_okq (⟨"NameForgeModel", "fits", "(IIII)Z"⟩, 39) := ⟨⟨by decide +kernel, by decide +kernel⟩, List.mem_of_getElem? (i := 634) (by decide +kernel), List.mem_of_getElem? (i := 766) (by decide +kernel), List.mem_of_getElem? (i := 767) (by decide +kernel)⟩
theorem lw_p24 : lw_okq (⟨"NameForgeModel", "isNode", "(I)Z"⟩, 39) := ⟨⟨by decide +kernel, by decide +kernel⟩, List.mem_of_getElem? (i := 634) (by decide +kernel), List.mem_of_getElem? (i := 773) (by decide +kernel), List.mem_of_getElem? (i := 774) (by decide +kernel)⟩
theorem lw_p25 : lw_okq (⟨"NameForgeModel", "fail", "(I)I"⟩, 39) := ⟨⟨by decide +kernel, by decide +kernel⟩, List.mem_of_getElem? (i := 634) (by decide +kernel), List.mem_of_getElem? (i := 777) (by decide +kernel), List.mem_of_getElem? (i := 778) (by decide +kernel)⟩
theorem lw_p26 : lw_okq (⟨"NameForgeModel", "enter", "(II)V"⟩, 39) := ⟨⟨by decide +kernel, by decide +kernel⟩, List.mem_of_getElem? (i := 634) (by decide +kernel), List.mem_of_getElem? (i := 809) (by decide +kernel), List.mem_of_getElem? (i := 810) (by decide +kernel)⟩
theorem lw_p27 : lw_okq (⟨"NameForgeModel", "wrong", "(I)V"⟩, 39) := ⟨⟨by decide +kernel, by decide +kernel⟩, List.mem_of_getElem? (i := 634) (by decide +kernel), List.mem_of_getElem? (i := 813) (by decide +kernel), List.mem_of_getElem? (i := 814) (by decide +kernel)⟩
theorem lw_p28 : lw_okq (⟨"NameForgeModel", "step", "()V"⟩, 39) := ⟨⟨by decide +kernel, by decide +kernel⟩, List.mem_of_getElem? (i := 634) (by decide +kernel), List.mem_of_getElem? (i := 817) (by decide +kernel), List.mem_of_getElem? (i := 818) (by decide +kernel)⟩
theorem lw_p29 : lw_okq (⟨"NameForgeModel", "end", "(D)V"⟩, 39) := ⟨⟨by decide +kernel, by decide +kernel⟩, List.mem_of_getElem? (i := 634) (by decide +kernel), List.mem_of_getElem? (i := 822) (by decide +kernel), List.mem_of_getElem? (i := 823) (by decide +kernel)⟩
theorem lw_p30 : lw_okq (⟨"NameForgeModel", "parameter", "(II)V"⟩, 39) := ⟨⟨by decide +kernel, by decide +kernel⟩, List.mem_of_getElem? (i := 634) (by decide +kernel), List.mem_of_getElem? (i := 826) (by decide +kernel), List.mem_of_getElem? (i := 827) (by decide +kernel)⟩
theorem lw_p31 : lw_okq (⟨"NameForgeModel", "isThere", "(II)Z"⟩, 39) := ⟨⟨by decide +kernel, by decide +kernel⟩, List.mem_of_getElem? (i := 634) (by decide +kernel), List.mem_of_getElem? (i := 830) (by decide +kernel), List.mem_of_getElem? (i := 831) (by decide +kernel)⟩
def lw_privs_2 : List (MethodName × Nat) := [(⟨"NameForge$Worker", "loop", "(ILNameForge$Environment;I)D"⟩, 13), (⟨"NameForge$Worker", "jump", "(I)D"⟩, 13), (⟨"NameForge$Worker", "label", "(ILNameForge$Environment;I)D"⟩, 13), (⟨"NameForge$Worker", "ofTwo", "(ILNameForge$Environment;I)D"⟩, 13), (⟨"NameForge$Worker", "elementAt", "(JJ)D"⟩, 13), (⟨"NameForge$Worker", "limited", "(D)D"⟩, 13), (⟨"NameForge$Worker", "quotient", "(JJ)D"⟩, 13), (⟨"NameForgeModel", "fits", "(IIII)Z"⟩, 39), (⟨"NameForgeModel", "isNode", "(I)Z"⟩, 39), (⟨"NameForgeModel", "fail", "(I)I"⟩, 39), (⟨"NameForgeModel", "enter", "(II)V"⟩, 39), (⟨"NameForgeModel", "wrong", "(I)V"⟩, 39), (⟨"NameForgeModel", "step", "()V"⟩, 39), (⟨"NameForgeModel", "end", "(D)V"⟩, 39), (⟨"NameForgeModel", "parameter", "(II)V"⟩, 39), (⟨"NameForgeModel", "isThere", "(II)Z"⟩, 39)]
theorem lw_r2 : ∀ q ∈ lw_privs_2, lw_okq q := List.forall_mem_cons.mpr ⟨lw_p16, List.forall_mem_cons.mpr ⟨lw_p17, List.forall_mem_cons.mpr ⟨lw_p18, List.forall_mem_cons.mpr ⟨lw_p19, List.forall_mem_cons.mpr ⟨lw_p20, List.forall_mem_cons.mpr ⟨lw_p21, List.forall_mem_cons.mpr ⟨lw_p22, List.forall_mem_cons.mpr ⟨lw_p23, List.forall_mem_cons.mpr ⟨lw_p24, List.forall_mem_cons.mpr ⟨lw_p25, List.forall_mem_cons.mpr ⟨lw_p26, List.forall_mem_cons.mpr ⟨lw_p27, List.forall_mem_cons.mpr ⟨lw_p28, List.forall_mem_cons.mpr ⟨lw_p29, List.forall_mem_cons.mpr ⟨lw_p30, List.forall_mem_cons.mpr ⟨lw_p31, fun _ h => absurd h List.not_mem_nil⟩⟩⟩⟩⟩⟩⟩⟩⟩⟩⟩⟩⟩⟩⟩⟩
theorem lw_p32 : lw_okq (⟨"NameForgeModel", "isName", "(II)Z"⟩, 39) := ⟨⟨by decide +kernel, by decide +kernel⟩, List.mem_of_getElem? (i := 634) (by decide +kernel), List.mem_of_getElem? (i := 834) (by decide +kernel), List.mem_of_getElem? (i := 835) (by decide +kernel)⟩
theorem lw_p33 : lw_okq (⟨"NameForgeModel", "deeper", "()V"⟩, 39) := ⟨⟨by decide +kernel, by decide +kernel⟩, List.mem_of_getElem? (i := 634) (by decide +kernel), List.mem_of_getElem? (i := 838) (by decide +kernel), List.mem_of_getElem? (i := 839) (by decide +kernel)⟩
theorem lw_p34 : lw_okq (⟨"NameForgeModel", "call", "(II)V"⟩, 39) := ⟨⟨by decide +kernel, by decide +kernel⟩, List.mem_of_getElem? (i := 634) (by decide +kernel), List.mem_of_getElem? (i := 842) (by decide +kernel), List.mem_of_getElem? (i := 843) (by decide +kernel)⟩
theorem lw_p35 : lw_okq (⟨"NameForgeModel", "set", "(II)V"⟩, 39) := ⟨⟨by decide +kernel, by decide +kernel⟩, List.mem_of_getElem? (i := 634) (by decide +kernel), List.mem_of_getElem? (i := 846) (by decide +kernel), List.mem_of_getElem? (i := 847) (by decide +kernel)⟩
theorem lw_p36 : lw_okq (⟨"NameForgeModel", "follow", "(I)V"⟩, 39) := ⟨⟨by decide +kernel, by decide +kernel⟩, List.mem_of_getElem? (i := 634) (by decide +kernel), List.mem_of_getElem? (i := 853) (by decide +kernel), List.mem_of_getElem? (i := 854) (by decide +kernel)⟩
theorem lw_p37 : lw_okq (⟨"NameForgeModel", "become", "(I)V"⟩, 39) := ⟨⟨by decide +kernel, by decide +kernel⟩, List.mem_of_getElem? (i := 634) (by decide +kernel), List.mem_of_getElem? (i := 857) (by decide +kernel), List.mem_of_getElem? (i := 858) (by decide +kernel)⟩
theorem lw_p38 : lw_okq (⟨"NameForgeModel", "place", "(DD)I"⟩, 39) := ⟨⟨by decide +kernel, by decide +kernel⟩, List.mem_of_getElem? (i := 634) (by decide +kernel), List.mem_of_getElem? (i := 861) (by decide +kernel), List.mem_of_getElem? (i := 862) (by decide +kernel)⟩
theorem lw_p39 : lw_okq (⟨"NameForgeModel", "repeat", "(II)V"⟩, 39) := ⟨⟨by decide +kernel, by decide +kernel⟩, List.mem_of_getElem? (i := 634) (by decide +kernel), List.mem_of_getElem? (i := 865) (by decide +kernel), List.mem_of_getElem? (i := 866) (by decide +kernel)⟩
theorem lw_p40 : lw_okq (⟨"NameForgeModel", "jump", "(I)V"⟩, 39) := ⟨⟨by decide +kernel, by decide +kernel⟩, List.mem_of_getElem? (i := 634) (by decide +kernel), List.mem_of_getElem? (i := 869) (by decide +kernel), List.mem_of_getElem? (i := 870) (by decide +kernel)⟩
theorem lw_p41 : lw_okq (⟨"NameForgeModel", "pair", "(II)V"⟩, 39) := ⟨⟨by decide +kernel, by decide +kernel⟩, List.mem_of_getElem? (i := 634) (by decide +kernel), List.mem_of_getElem? (i := 873) (by decide +kernel), List.mem_of_getElem? (i := 874) (by decide +kernel)⟩
theorem lw_p42 : lw_okq (⟨"NameForgeModel", "sum", "(IDD)V"⟩, 39) := ⟨⟨by decide +kernel, by decide +kernel⟩, List.mem_of_getElem? (i := 634) (by decide +kernel), List.mem_of_getElem? (i := 877) (by decide +kernel), List.mem_of_getElem? (i := 878) (by decide +kernel)⟩
def lw_privs_3 : List (MethodName × Nat) := [(⟨"NameForgeModel", "isName", "(II)Z"⟩, 39), (⟨"NameForgeModel", "deeper", "()V"⟩, 39), (⟨"NameForgeModel", "call", "(II)V"⟩, 39), (⟨"NameForgeModel", "set", "(II)V"⟩, 39), (⟨"NameForgeModel", "follow", "(I)V"⟩, 39), (⟨"NameForgeModel", "become", "(I)V"⟩, 39), (⟨"NameForgeModel", "place", "(DD)I"⟩, 39), (⟨"NameForgeModel", "repeat", "(II)V"⟩, 39), (⟨"NameForgeModel", "jump", "(I)V"⟩, 39), (⟨"NameForgeModel", "pair", "(II)V"⟩, 39), (⟨"NameForgeModel", "sum", "(IDD)V"⟩, 39)]
theorem lw_r3 : ∀ q ∈ lw_privs_3, lw_okq q := List.forall_mem_cons.mpr ⟨lw_p32, List.forall_mem_cons.mpr ⟨lw_p33, List.forall_mem_cons.mpr ⟨lw_p34, List.forall_mem_cons.mpr ⟨lw_p35, List.forall_mem_cons.mpr ⟨lw_p36, List.forall_mem_cons.mpr ⟨lw_p37, List.forall_mem_cons.mpr ⟨lw_p38, List.forall_mem_cons.mpr ⟨lw_p39, List.forall_mem_cons.mpr ⟨lw_p40, List.forall_mem_cons.mpr ⟨lw_p41, List.forall_mem_cons.mpr ⟨lw_p42, fun _ h => absurd h List.not_mem_nil⟩⟩⟩⟩⟩⟩⟩⟩⟩⟩⟩
def lw_privs : List (MethodName × Nat) := lw_privs_1 ++ (lw_privs_2 ++ (lw_privs_3))
def lw_tbl : List Cond := k2_sels lw_privs ++ tables_1
theorem lw_privs_ok : ∀ q ∈ lw_privs, lw_okq q := by
  show ∀ q ∈ lw_privs_1 ++ (lw_privs_2 ++ (lw_privs_3)), lw_okq q
  exact List.forall_mem_append.mpr ⟨lw_r1, List.forall_mem_append.mpr ⟨lw_r2, lw_r3⟩⟩
/-- the good words of the tables: what every contract of mine stands on -/
def wC : List Cond := lw_tbl.filter goodWord
theorem wC_good {w : Cond} (h : w ∈ wC) : (w.onTables && w.keeps) = true ∨ ∃ ty, w = .arrayClass ty := good_of_word (List.mem_filter.mp h).2
theorem wC_tbl {w : Cond} (h : w ∈ wC) : w ∈ lw_tbl := (List.mem_filter.mp h).1
end
section
def R_NF : String := "NameForge"
def F_NF : u_T := fun k => match k with
  | 0 => ("NameForge", "program", "LNameForge$Program;", true)
  | 1 => ("NameForge", "store", "LNameForge$Store;", true)
  | _ => ("NameForge", "worker", "LNameForge$Worker;", true)
def t_NF : Nat → FieldType := fun k => match k with
  | 0 => .object "NameForge$Program"
  | 1 => .object "NameForge$Store"
  | _ => .object "NameForge$Worker"
theorem n_NF : ∀ a, a < 3 → ∀ b, b < 3 → a ≠ b → (F_NF a).2.1 ≠ (F_NF b).2.1 := by decide +kernel
theorem tok_NF : ∀ k, k < 3 → parseFieldDescriptor (F_NF k).2.2.1 = some (t_NF k) := by decide +kernel
set_option maxRecDepth 20000 in
theorem i_NF : ∀ w ∈ u_ws R_NF F_NF 3, w ∈ lw_tbl := by decide +kernel
theorem ig_NF : ∀ w ∈ u_ws R_NF F_NF 3, goodWord w = true := by decide +kernel
theorem in_NF (c0 : Cond) : ∀ w ∈ u_ws R_NF F_NF 3, w ∈ c0 :: wC := fun w h => List.mem_cons_of_mem _ (List.mem_filter.mpr ⟨i_NF w h, ig_NF w h⟩)
abbrev b_NF_init : ByteArray := prog_1_method_1_code
def y_NF_init : MethodName := ⟨R_NF, "<init>", "()V"⟩
abbrev b_NF_make : ByteArray := prog_1_method_2_code
def y_NF_make : MethodName := ⟨R_NF, "make", "(IIII)I"⟩
abbrev b_NF_procedure : ByteArray := prog_1_method_3_code
def y_NF_procedure : MethodName := ⟨R_NF, "procedure", "(IIII)V"⟩
abbrev b_NF_bounds : ByteArray := prog_1_method_4_code
def y_NF_bounds : MethodName := ⟨R_NF, "bounds", "(IIII)I"⟩
abbrev b_NF_put : ByteArray := prog_1_method_5_code
def y_NF_put : MethodName := ⟨R_NF, "put", "(ID)D"⟩
abbrev b_NF_work : ByteArray := prog_1_method_6_code
def y_NF_work : MethodName := ⟨R_NF, "work", "(I)D"⟩
abbrev b_NF_variable : ByteArray := prog_1_method_7_code
def y_NF_variable : MethodName := ⟨R_NF, "variable", "(I)D"⟩
abbrev b_NF_element : ByteArray := prog_1_method_8_code
def y_NF_element : MethodName := ⟨R_NF, "element", "(II)D"⟩
abbrev b_NF_node : ByteArray := prog_1_method_9_code
def y_NF_node : MethodName := ⟨R_NF, "node", "(II)I"⟩
abbrev b_NF_clear : ByteArray := prog_1_method_10_code
def y_NF_clear : MethodName := ⟨R_NF, "clear", "()I"⟩
abbrev b_NF_count : ByteArray := prog_1_method_11_code
def y_NF_count : MethodName := ⟨R_NF, "count", "(I)I"⟩
abbrev b_NF_throwFault : ByteArray := prog_1_method_12_code
def y_NF_throwFault : MethodName := ⟨R_NF, "throwFault", "(I)V"⟩
abbrev b_NF_isBelow : ByteArray := prog_1_method_13_code
def y_NF_isBelow : MethodName := ⟨R_NF, "isBelow", "(II)Z"⟩
abbrev b_NF_areBounds : ByteArray := prog_1_method_14_code
def y_NF_areBounds : MethodName := ⟨R_NF, "areBounds", "(II)Z"⟩
abbrev b_NF_isWithinSize : ByteArray := prog_1_method_15_code
def y_NF_isWithinSize : MethodName := ⟨R_NF, "isWithinSize", "(D)Z"⟩
abbrev b_NF_rounded : ByteArray := prog_1_method_16_code
def y_NF_rounded : MethodName := ⟨R_NF, "rounded", "(D)J"⟩
def R_EN : String := "NameForge$Environment"
def F_EN : u_T := fun k => match k with
  | 0 => ("NameForge$Environment", "caller", "LNameForge$Environment;", false)
  | 1 => ("NameForge$Environment", "given", "[I", true)
  | 2 => ("NameForge$Environment", "values", "[D", true)
  | 3 => ("NameForge$Environment", "locals", "[D", true)
  | 4 => ("NameForge$Environment", "parameters", "I", false)
  | _ => ("NameForge$Environment", "names", "I", false)
def t_EN : Nat → FieldType := fun k => match k with
  | 0 => .object "NameForge$Environment"
  | 1 => .array .int
  | 2 => .array .double
  | 3 => .array .double
  | 4 => .int
  | _ => .int
theorem n_EN : ∀ a, a < 6 → ∀ b, b < 6 → a ≠ b → (F_EN a).2.1 ≠ (F_EN b).2.1 := by decide +kernel
theorem tok_EN : ∀ k, k < 6 → parseFieldDescriptor (F_EN k).2.2.1 = some (t_EN k) := by decide +kernel
set_option maxRecDepth 20000 in
theorem i_EN : ∀ w ∈ u_ws R_EN F_EN 6, w ∈ lw_tbl := by decide +kernel
theorem ig_EN : ∀ w ∈ u_ws R_EN F_EN 6, goodWord w = true := by decide +kernel
theorem in_EN (c0 : Cond) : ∀ w ∈ u_ws R_EN F_EN 6, w ∈ c0 :: wC := fun w h => List.mem_cons_of_mem _ (List.mem_filter.mpr ⟨i_EN w h, ig_EN w h⟩)
abbrev b_EN_init : ByteArray := prog_2_method_1_code
def y_EN_init : MethodName := ⟨R_EN, "<init>", "()V"⟩
abbrev b_EN_begin : ByteArray := prog_2_method_2_code
def y_EN_begin : MethodName := ⟨R_EN, "begin", "(LNameForge$Environment;II)V"⟩
abbrev b_EN_give : ByteArray := prog_2_method_3_code
def y_EN_give : MethodName := ⟨R_EN, "give", "(IID)V"⟩
abbrev b_EN_hasParameter : ByteArray := prog_2_method_4_code
def y_EN_hasParameter : MethodName := ⟨R_EN, "hasParameter", "(I)Z"⟩
abbrev b_EN_hasLocals : ByteArray := prog_2_method_5_code
def y_EN_hasLocals : MethodName := ⟨R_EN, "hasLocals", "()Z"⟩
abbrev b_EN_isByName : ByteArray := prog_2_method_6_code
def y_EN_isByName : MethodName := ⟨R_EN, "isByName", "(I)Z"⟩
def R_PR : String := "NameForge$Program"
def F_PR : u_T := fun k => match k with
  | 0 => ("NameForge$Program", "kinds", "[I", true)
  | 1 => ("NameForge$Program", "as", "[I", true)
  | 2 => ("NameForge$Program", "bs", "[I", true)
  | 3 => ("NameForge$Program", "cs", "[I", true)
  | 4 => ("NameForge$Program", "size", "I", false)
  | 5 => ("NameForge$Program", "bodies", "[I", true)
  | 6 => ("NameForge$Program", "parameters", "[I", true)
  | _ => ("NameForge$Program", "names", "[I", true)
def t_PR : Nat → FieldType := fun k => match k with
  | 0 => .array .int
  | 1 => .array .int
  | 2 => .array .int
  | 3 => .array .int
  | 4 => .int
  | 5 => .array .int
  | 6 => .array .int
  | _ => .array .int
theorem n_PR : ∀ a, a < 8 → ∀ b, b < 8 → a ≠ b → (F_PR a).2.1 ≠ (F_PR b).2.1 := by decide +kernel
theorem tok_PR : ∀ k, k < 8 → parseFieldDescriptor (F_PR k).2.2.1 = some (t_PR k) := by decide +kernel
set_option maxRecDepth 20000 in
theorem i_PR : ∀ w ∈ u_ws R_PR F_PR 8, w ∈ lw_tbl := by decide +kernel
theorem ig_PR : ∀ w ∈ u_ws R_PR F_PR 8, goodWord w = true := by decide +kernel
theorem in_PR (c0 : Cond) : ∀ w ∈ u_ws R_PR F_PR 8, w ∈ c0 :: wC := fun w h => List.mem_cons_of_mem _ (List.mem_filter.mpr ⟨i_PR w h, ig_PR w h⟩)
abbrev b_PR_init : ByteArray := prog_3_method_1_code
def y_PR_init : MethodName := ⟨R_PR, "<init>", "()V"⟩
abbrev b_PR_has : ByteArray := prog_3_method_2_code
def y_PR_has : MethodName := ⟨R_PR, "has", "(I)Z"⟩
abbrev b_PR_takes : ByteArray := prog_3_method_3_code
def y_PR_takes : MethodName := ⟨R_PR, "takes", "(IIII)Z"⟩
abbrev b_PR_fits : ByteArray := prog_3_method_4_code
def y_PR_fits : MethodName := ⟨R_PR, "fits", "(II)Z"⟩
abbrev b_PR_add : ByteArray := prog_3_method_5_code
def y_PR_add : MethodName := ⟨R_PR, "add", "(IIII)I"⟩
abbrev b_PR_define : ByteArray := prog_3_method_6_code
def y_PR_define : MethodName := ⟨R_PR, "define", "(IIII)V"⟩
abbrev b_PR_empty : ByteArray := prog_3_method_7_code
def y_PR_empty : MethodName := ⟨R_PR, "empty", "()V"⟩
abbrev b_PR_canBeSet : ByteArray := prog_3_method_8_code
def y_PR_canBeSet : MethodName := ⟨R_PR, "canBeSet", "(I)Z"⟩
abbrev b_PR_canBeCalled : ByteArray := prog_3_method_9_code
def y_PR_canBeCalled : MethodName := ⟨R_PR, "canBeCalled", "(I)Z"⟩
abbrev b_PR_isByValue : ByteArray := prog_3_method_10_code
def y_PR_isByValue : MethodName := ⟨R_PR, "isByValue", "(II)Z"⟩
def R_ST : String := "NameForge$Store"
def F_ST : u_T := fun k => match k with
  | 0 => ("NameForge$Store", "variables", "[D", true)
  | 1 => ("NameForge$Store", "elements", "[D", true)
  | 2 => ("NameForge$Store", "firstRow", "I", false)
  | 3 => ("NameForge$Store", "lastRow", "I", false)
  | 4 => ("NameForge$Store", "firstColumn", "I", false)
  | _ => ("NameForge$Store", "lastColumn", "I", false)
def t_ST : Nat → FieldType := fun k => match k with
  | 0 => .array .double
  | 1 => .array .double
  | 2 => .int
  | 3 => .int
  | 4 => .int
  | _ => .int
theorem n_ST : ∀ a, a < 6 → ∀ b, b < 6 → a ≠ b → (F_ST a).2.1 ≠ (F_ST b).2.1 := by decide +kernel
theorem tok_ST : ∀ k, k < 6 → parseFieldDescriptor (F_ST k).2.2.1 = some (t_ST k) := by decide +kernel
set_option maxRecDepth 20000 in
theorem i_ST : ∀ w ∈ u_ws R_ST F_ST 6, w ∈ lw_tbl := by decide +kernel
theorem ig_ST : ∀ w ∈ u_ws R_ST F_ST 6, goodWord w = true := by decide +kernel
theorem in_ST (c0 : Cond) : ∀ w ∈ u_ws R_ST F_ST 6, w ∈ c0 :: wC := fun w h => List.mem_cons_of_mem _ (List.mem_filter.mpr ⟨i_ST w h, ig_ST w h⟩)
abbrev b_ST_init : ByteArray := prog_4_method_1_code
def y_ST_init : MethodName := ⟨R_ST, "<init>", "()V"⟩
abbrev b_ST_lay : ByteArray := prog_4_method_2_code
def y_ST_lay : MethodName := ⟨R_ST, "lay", "(IIII)V"⟩
abbrev b_ST_size : ByteArray := prog_4_method_3_code
def y_ST_size : MethodName := ⟨R_ST, "size", "()I"⟩
abbrev b_ST_holds : ByteArray := prog_4_method_4_code
def y_ST_holds : MethodName := ⟨R_ST, "holds", "(JJ)Z"⟩
abbrev b_ST_place : ByteArray := prog_4_method_5_code
def y_ST_place : MethodName := ⟨R_ST, "place", "(JJ)I"⟩
abbrev b_ST_assign : ByteArray := prog_4_method_6_code
def y_ST_assign : MethodName := ⟨R_ST, "assign", "(ID)D"⟩
def R_WK : String := "NameForge$Worker"
def F_WK : u_T := fun k => match k with
  | 0 => ("NameForge$Worker", "worked", "I", false)
  | 1 => ("NameForge$Worker", "fault", "I", false)
  | 2 => ("NameForge$Worker", "bodiesBegun", "I", false)
  | 3 => ("NameForge$Worker", "mostEnvironments", "I", false)
  | 4 => ("NameForge$Worker", "jumpsArrived", "I", false)
  | 5 => ("NameForge$Worker", "program", "LNameForge$Program;", true)
  | 6 => ("NameForge$Worker", "store", "LNameForge$Store;", true)
  | 7 => ("NameForge$Worker", "outermost", "LNameForge$Environment;", true)
  | 8 => ("NameForge$Worker", "environments", "[LNameForge$Environment;", true)
  | 9 => ("NameForge$Worker", "openLabels", "[I", true)
  | 10 => ("NameForge$Worker", "openCalls", "I", false)
  | 11 => ("NameForge$Worker", "openEnvironments", "I", false)
  | _ => ("NameForge$Worker", "jumpingTo", "I", false)
def t_WK : Nat → FieldType := fun k => match k with
  | 0 => .int
  | 1 => .int
  | 2 => .int
  | 3 => .int
  | 4 => .int
  | 5 => .object "NameForge$Program"
  | 6 => .object "NameForge$Store"
  | 7 => .object "NameForge$Environment"
  | 8 => .array (.object "NameForge$Environment")
  | 9 => .array .int
  | 10 => .int
  | 11 => .int
  | _ => .int
theorem n_WK : ∀ a, a < 13 → ∀ b, b < 13 → a ≠ b → (F_WK a).2.1 ≠ (F_WK b).2.1 := by decide +kernel
theorem tok_WK : ∀ k, k < 13 → parseFieldDescriptor (F_WK k).2.2.1 = some (t_WK k) := by decide +kernel
set_option maxRecDepth 20000 in
theorem i_WK : ∀ w ∈ u_ws R_WK F_WK 13, w ∈ lw_tbl := by decide +kernel
theorem ig_WK : ∀ w ∈ u_ws R_WK F_WK 13, goodWord w = true := by decide +kernel
theorem in_WK (c0 : Cond) : ∀ w ∈ u_ws R_WK F_WK 13, w ∈ c0 :: wC := fun w h => List.mem_cons_of_mem _ (List.mem_filter.mpr ⟨i_WK w h, ig_WK w h⟩)
abbrev b_WK_init : ByteArray := prog_5_method_1_code
def y_WK_init : MethodName := ⟨R_WK, "<init>", "(LNameForge$Program;LNameForge$Store;)V"⟩
abbrev b_WK_start : ByteArray := prog_5_method_2_code
def y_WK_start : MethodName := ⟨R_WK, "start", "(I)D"⟩
abbrev b_WK_leaving : ByteArray := prog_5_method_3_code
def y_WK_leaving : MethodName := ⟨R_WK, "leaving", "()Z"⟩
abbrev b_WK_fail : ByteArray := prog_5_method_4_code
def y_WK_fail : MethodName := ⟨R_WK, "fail", "(I)D"⟩
abbrev b_WK_mayBegin : ByteArray := prog_5_method_5_code
def y_WK_mayBegin : MethodName := ⟨R_WK, "mayBegin", "(I)Z"⟩
abbrev b_WK_mayEnter : ByteArray := prog_5_method_6_code
def y_WK_mayEnter : MethodName := ⟨R_WK, "mayEnter", "()Z"⟩
abbrev b_WK_value : ByteArray := prog_5_method_7_code
def y_WK_value : MethodName := ⟨R_WK, "value", "(ILNameForge$Environment;I)D"⟩
abbrev b_WK_ofTwo : ByteArray := prog_5_method_8_code
def y_WK_ofTwo : MethodName := ⟨R_WK, "ofTwo", "(ILNameForge$Environment;I)D"⟩
abbrev b_WK_elementAt : ByteArray := prog_5_method_9_code
def y_WK_elementAt : MethodName := ⟨R_WK, "elementAt", "(JJ)D"⟩
abbrev b_WK_limited : ByteArray := prog_5_method_10_code
def y_WK_limited : MethodName := ⟨R_WK, "limited", "(D)D"⟩
abbrev b_WK_quotient : ByteArray := prog_5_method_11_code
def y_WK_quotient : MethodName := ⟨R_WK, "quotient", "(JJ)D"⟩
abbrev b_WK_choice : ByteArray := prog_5_method_12_code
def y_WK_choice : MethodName := ⟨R_WK, "choice", "(ILNameForge$Environment;I)D"⟩
abbrev b_WK_parameter : ByteArray := prog_5_method_13_code
def y_WK_parameter : MethodName := ⟨R_WK, "parameter", "(ILNameForge$Environment;I)D"⟩
abbrev b_WK_call : ByteArray := prog_5_method_14_code
def y_WK_call : MethodName := ⟨R_WK, "call", "(ILNameForge$Environment;I)D"⟩
abbrev b_WK_set : ByteArray := prog_5_method_15_code
def y_WK_set : MethodName := ⟨R_WK, "set", "(ILNameForge$Environment;I)D"⟩
abbrev b_WK_become : ByteArray := prog_5_method_16_code
def y_WK_become : MethodName := ⟨R_WK, "become", "(IDLNameForge$Environment;I)D"⟩
abbrev b_WK_elementBecomes : ByteArray := prog_5_method_17_code
def y_WK_elementBecomes : MethodName := ⟨R_WK, "elementBecomes", "(JJD)D"⟩
abbrev b_WK_localBecomes : ByteArray := prog_5_method_18_code
def y_WK_localBecomes : MethodName := ⟨R_WK, "localBecomes", "(IDLNameForge$Environment;)D"⟩
abbrev b_WK_parameterBecomes : ByteArray := prog_5_method_19_code
def y_WK_parameterBecomes : MethodName := ⟨R_WK, "parameterBecomes", "(IDLNameForge$Environment;I)D"⟩
abbrev b_WK_sequence : ByteArray := prog_5_method_20_code
def y_WK_sequence : MethodName := ⟨R_WK, "sequence", "(ILNameForge$Environment;I)D"⟩
abbrev b_WK_loop : ByteArray := prog_5_method_21_code
def y_WK_loop : MethodName := ⟨R_WK, "loop", "(ILNameForge$Environment;I)D"⟩
abbrev b_WK_jump : ByteArray := prog_5_method_22_code
def y_WK_jump : MethodName := ⟨R_WK, "jump", "(I)D"⟩
abbrev b_WK_label : ByteArray := prog_5_method_23_code
def y_WK_label : MethodName := ⟨R_WK, "label", "(ILNameForge$Environment;I)D"⟩
def R_MO : String := "NameForgeModel"
def F_MO : u_T := fun k => match k with
  | 0 => ("NameForgeModel", "kind", "[I", true)
  | 1 => ("NameForgeModel", "first", "[I", true)
  | 2 => ("NameForgeModel", "second", "[I", true)
  | 3 => ("NameForgeModel", "third", "[I", true)
  | 4 => ("NameForgeModel", "body", "[I", true)
  | 5 => ("NameForgeModel", "takes", "[I", true)
  | 6 => ("NameForgeModel", "names", "[I", true)
  | 7 => ("NameForgeModel", "variable", "[D", true)
  | 8 => ("NameForgeModel", "cell", "[D", true)
  | 9 => ("NameForgeModel", "many", "I", false)
  | 10 => ("NameForgeModel", "low", "I", false)
  | 11 => ("NameForgeModel", "high", "I", false)
  | 12 => ("NameForgeModel", "low2", "I", false)
  | 13 => ("NameForgeModel", "high2", "I", false)
  | 14 => ("NameForgeModel", "thrown", "I", false)
  | 15 => ("NameForgeModel", "given", "[I", true)
  | 16 => ("NameForgeModel", "givenIn", "[I", true)
  | 17 => ("NameForgeModel", "parameters", "[I", true)
  | 18 => ("NameForgeModel", "byName", "[I", true)
  | 19 => ("NameForgeModel", "worth", "[D", true)
  | 20 => ("NameForgeModel", "local", "[D", true)
  | 21 => ("NameForgeModel", "environments", "I", false)
  | 22 => ("NameForgeModel", "depth", "I", false)
  | 23 => ("NameForgeModel", "node", "[I", true)
  | 24 => ("NameForgeModel", "in", "[I", true)
  | 25 => ("NameForgeModel", "stage", "[I", true)
  | 26 => ("NameForgeModel", "depthAt", "[I", true)
  | 27 => ("NameForgeModel", "environmentsAt", "[I", true)
  | 28 => ("NameForgeModel", "goal", "[I", true)
  | 29 => ("NameForgeModel", "goalIn", "[I", true)
  | 30 => ("NameForgeModel", "one", "[D", true)
  | 31 => ("NameForgeModel", "two", "[D", true)
  | 32 => ("NameForgeModel", "top", "I", false)
  | 33 => ("NameForgeModel", "done", "I", false)
  | 34 => ("NameForgeModel", "fault", "I", false)
  | 35 => ("NameForgeModel", "calls", "I", false)
  | 36 => ("NameForgeModel", "most", "I", false)
  | 37 => ("NameForgeModel", "jumps", "I", false)
  | _ => ("NameForgeModel", "value", "D", false)
def t_MO : Nat → FieldType := fun k => match k with
  | 0 => .array .int
  | 1 => .array .int
  | 2 => .array .int
  | 3 => .array .int
  | 4 => .array .int
  | 5 => .array .int
  | 6 => .array .int
  | 7 => .array .double
  | 8 => .array .double
  | 9 => .int
  | 10 => .int
  | 11 => .int
  | 12 => .int
  | 13 => .int
  | 14 => .int
  | 15 => .array .int
  | 16 => .array .int
  | 17 => .array .int
  | 18 => .array .int
  | 19 => .array .double
  | 20 => .array .double
  | 21 => .int
  | 22 => .int
  | 23 => .array .int
  | 24 => .array .int
  | 25 => .array .int
  | 26 => .array .int
  | 27 => .array .int
  | 28 => .array .int
  | 29 => .array .int
  | 30 => .array .double
  | 31 => .array .double
  | 32 => .int
  | 33 => .int
  | 34 => .int
  | 35 => .int
  | 36 => .int
  | 37 => .int
  | _ => .double
theorem n_MO : ∀ a, a < 39 → ∀ b, b < 39 → a ≠ b → (F_MO a).2.1 ≠ (F_MO b).2.1 := by decide +kernel
theorem tok_MO : ∀ k, k < 39 → parseFieldDescriptor (F_MO k).2.2.1 = some (t_MO k) := by decide +kernel
set_option maxRecDepth 20000 in
theorem i_MO : ∀ w ∈ u_ws R_MO F_MO 39, w ∈ lw_tbl := by decide +kernel
theorem ig_MO : ∀ w ∈ u_ws R_MO F_MO 39, goodWord w = true := by decide +kernel
theorem in_MO (c0 : Cond) : ∀ w ∈ u_ws R_MO F_MO 39, w ∈ c0 :: wC := fun w h => List.mem_cons_of_mem _ (List.mem_filter.mpr ⟨i_MO w h, ig_MO w h⟩)
abbrev b_MO_init : ByteArray := prog_7_method_1_code
def y_MO_init : MethodName := ⟨R_MO, "<init>", "()V"⟩
abbrev b_MO_thrown : ByteArray := prog_7_method_2_code
def y_MO_thrown : MethodName := ⟨R_MO, "thrown", "()I"⟩
abbrev b_MO_within : ByteArray := prog_7_method_3_code
def y_MO_within : MethodName := ⟨R_MO, "within", "(III)Z"⟩
abbrev b_MO_fail : ByteArray := prog_7_method_4_code
def y_MO_fail : MethodName := ⟨R_MO, "fail", "(I)I"⟩
abbrev b_MO_round : ByteArray := prog_7_method_5_code
def y_MO_round : MethodName := ⟨R_MO, "round", "(D)D"⟩
abbrev b_MO_isGood : ByteArray := prog_7_method_6_code
def y_MO_isGood : MethodName := ⟨R_MO, "isGood", "(D)Z"⟩
abbrev b_MO_isNode : ByteArray := prog_7_method_7_code
def y_MO_isNode : MethodName := ⟨R_MO, "isNode", "(I)Z"⟩
abbrev b_MO_fits : ByteArray := prog_7_method_8_code
def y_MO_fits : MethodName := ⟨R_MO, "fits", "(IIII)Z"⟩
abbrev b_MO_make : ByteArray := prog_7_method_9_code
def y_MO_make : MethodName := ⟨R_MO, "make", "(IIII)I"⟩
abbrev b_MO_procedure : ByteArray := prog_7_method_10_code
def y_MO_procedure : MethodName := ⟨R_MO, "procedure", "(IIII)V"⟩
abbrev b_MO_isRange : ByteArray := prog_7_method_11_code
def y_MO_isRange : MethodName := ⟨R_MO, "isRange", "(II)Z"⟩
abbrev b_MO_bounds : ByteArray := prog_7_method_12_code
def y_MO_bounds : MethodName := ⟨R_MO, "bounds", "(IIII)I"⟩
abbrev b_MO_put : ByteArray := prog_7_method_13_code
def y_MO_put : MethodName := ⟨R_MO, "put", "(ID)D"⟩
abbrev b_MO_wrong : ByteArray := prog_7_method_14_code
def y_MO_wrong : MethodName := ⟨R_MO, "wrong", "(I)V"⟩
abbrev b_MO_enter : ByteArray := prog_7_method_15_code
def y_MO_enter : MethodName := ⟨R_MO, "enter", "(II)V"⟩
abbrev b_MO_deeper : ByteArray := prog_7_method_16_code
def y_MO_deeper : MethodName := ⟨R_MO, "deeper", "()V"⟩
abbrev b_MO_end : ByteArray := prog_7_method_17_code
def y_MO_end : MethodName := ⟨R_MO, "end", "(D)V"⟩
abbrev b_MO_place : ByteArray := prog_7_method_18_code
def y_MO_place : MethodName := ⟨R_MO, "place", "(DD)I"⟩
abbrev b_MO_sum : ByteArray := prog_7_method_19_code
def y_MO_sum : MethodName := ⟨R_MO, "sum", "(IDD)V"⟩
abbrev b_MO_pair : ByteArray := prog_7_method_20_code
def y_MO_pair : MethodName := ⟨R_MO, "pair", "(II)V"⟩
abbrev b_MO_isThere : ByteArray := prog_7_method_21_code
def y_MO_isThere : MethodName := ⟨R_MO, "isThere", "(II)Z"⟩
abbrev b_MO_isName : ByteArray := prog_7_method_22_code
def y_MO_isName : MethodName := ⟨R_MO, "isName", "(II)Z"⟩
abbrev b_MO_parameter : ByteArray := prog_7_method_23_code
def y_MO_parameter : MethodName := ⟨R_MO, "parameter", "(II)V"⟩
abbrev b_MO_call : ByteArray := prog_7_method_24_code
def y_MO_call : MethodName := ⟨R_MO, "call", "(II)V"⟩
abbrev b_MO_isGoal : ByteArray := prog_7_method_25_code
def y_MO_isGoal : MethodName := ⟨R_MO, "isGoal", "(I)Z"⟩
abbrev b_MO_follow : ByteArray := prog_7_method_26_code
def y_MO_follow : MethodName := ⟨R_MO, "follow", "(I)V"⟩
abbrev b_MO_become : ByteArray := prog_7_method_27_code
def y_MO_become : MethodName := ⟨R_MO, "become", "(I)V"⟩
abbrev b_MO_set : ByteArray := prog_7_method_28_code
def y_MO_set : MethodName := ⟨R_MO, "set", "(II)V"⟩
abbrev b_MO_jump : ByteArray := prog_7_method_29_code
def y_MO_jump : MethodName := ⟨R_MO, "jump", "(I)V"⟩
abbrev b_MO_repeat : ByteArray := prog_7_method_30_code
def y_MO_repeat : MethodName := ⟨R_MO, "repeat", "(II)V"⟩
abbrev b_MO_step : ByteArray := prog_7_method_31_code
def y_MO_step : MethodName := ⟨R_MO, "step", "()V"⟩
abbrev b_MO_work : ByteArray := prog_7_method_32_code
def y_MO_work : MethodName := ⟨R_MO, "work", "(I)D"⟩
abbrev b_MO_variable : ByteArray := prog_7_method_33_code
def y_MO_variable : MethodName := ⟨R_MO, "variable", "(I)D"⟩
abbrev b_MO_element : ByteArray := prog_7_method_34_code
def y_MO_element : MethodName := ⟨R_MO, "element", "(II)D"⟩
abbrev b_MO_node : ByteArray := prog_7_method_35_code
def y_MO_node : MethodName := ⟨R_MO, "node", "(II)I"⟩
abbrev b_MO_clear : ByteArray := prog_7_method_36_code
def y_MO_clear : MethodName := ⟨R_MO, "clear", "()I"⟩
abbrev b_MO_count : ByteArray := prog_7_method_37_code
def y_MO_count : MethodName := ⟨R_MO, "count", "(I)I"⟩
def R_LW : String := "NameForgeLaw"
abbrev b_LW_make : ByteArray := method_3_code
def y_LW_make : MethodName := ⟨R_LW, "make", "(LNameForge;IIII[J)I"⟩
abbrev b_LW_procedure : ByteArray := method_4_code
def y_LW_procedure : MethodName := ⟨R_LW, "procedure", "(LNameForge;IIII)I"⟩
abbrev b_LW_bounds : ByteArray := method_5_code
def y_LW_bounds : MethodName := ⟨R_LW, "bounds", "(LNameForge;IIII[J)I"⟩
abbrev b_LW_put : ByteArray := method_6_code
def y_LW_put : MethodName := ⟨R_LW, "put", "(LNameForge;ID[D)I"⟩
abbrev b_LW_work : ByteArray := method_7_code
def y_LW_work : MethodName := ⟨R_LW, "work", "(LNameForge;I[D)I"⟩
abbrev b_LW_variable : ByteArray := method_8_code
def y_LW_variable : MethodName := ⟨R_LW, "variable", "(LNameForge;I[D)I"⟩
abbrev b_LW_element : ByteArray := method_9_code
def y_LW_element : MethodName := ⟨R_LW, "element", "(LNameForge;II[D)I"⟩
abbrev b_LW_node : ByteArray := method_10_code
def y_LW_node : MethodName := ⟨R_LW, "node", "(LNameForge;II[J)I"⟩
abbrev b_LW_count : ByteArray := method_11_code
def y_LW_count : MethodName := ⟨R_LW, "count", "(LNameForge;I[J)I"⟩
abbrev b_LW_law : ByteArray := code
end
section
theorem d_NF_init_0 : decode b_NF_init 0 = .ok (.aload_n 0, 1) := by decide +kernel
theorem d_NF_init_1 : decode b_NF_init 1 = .ok (.invokespecial 1, 3) := by decide +kernel
theorem d_NF_init_4 : decode b_NF_init 4 = .ok (.aload_n 0, 1) := by decide +kernel
theorem d_NF_init_5 : decode b_NF_init 5 = .ok (.new 7, 3) := by decide +kernel
theorem d_NF_init_8 : decode b_NF_init 8 = .ok (.dup, 1) := by decide +kernel
theorem d_NF_init_9 : decode b_NF_init 9 = .ok (.invokespecial 9, 3) := by decide +kernel
theorem d_NF_init_12 : decode b_NF_init 12 = .ok (.putfield 10, 3) := by decide +kernel
theorem d_NF_init_15 : decode b_NF_init 15 = .ok (.aload_n 0, 1) := by decide +kernel
theorem d_NF_init_16 : decode b_NF_init 16 = .ok (.new 16, 3) := by decide +kernel
theorem d_NF_init_19 : decode b_NF_init 19 = .ok (.dup, 1) := by decide +kernel
theorem d_NF_init_20 : decode b_NF_init 20 = .ok (.invokespecial 18, 3) := by decide +kernel
theorem d_NF_init_23 : decode b_NF_init 23 = .ok (.putfield 19, 3) := by decide +kernel
theorem d_NF_init_26 : decode b_NF_init 26 = .ok (.aload_n 0, 1) := by decide +kernel
theorem d_NF_init_27 : decode b_NF_init 27 = .ok (.new 23, 3) := by decide +kernel
theorem d_NF_init_30 : decode b_NF_init 30 = .ok (.dup, 1) := by decide +kernel
theorem d_NF_init_31 : decode b_NF_init 31 = .ok (.aload_n 0, 1) := by decide +kernel
theorem d_NF_init_32 : decode b_NF_init 32 = .ok (.getfield 10, 3) := by decide +kernel
theorem d_NF_init_35 : decode b_NF_init 35 = .ok (.aload_n 0, 1) := by decide +kernel
theorem d_NF_init_36 : decode b_NF_init 36 = .ok (.getfield 19, 3) := by decide +kernel
theorem d_NF_init_39 : decode b_NF_init 39 = .ok (.invokespecial 25, 3) := by decide +kernel
theorem d_NF_init_42 : decode b_NF_init 42 = .ok (.putfield 28, 3) := by decide +kernel
theorem d_NF_init_45 : decode b_NF_init 45 = .ok (.return_, 1) := by decide +kernel
theorem d_NF_make_0 : decode b_NF_make 0 = .ok (.aload_n 0, 1) := by decide +kernel
theorem d_NF_make_1 : decode b_NF_make 1 = .ok (.getfield 10, 3) := by decide +kernel
theorem d_NF_make_4 : decode b_NF_make 4 = .ok (.iload_n 1, 1) := by decide +kernel
theorem d_NF_make_5 : decode b_NF_make 5 = .ok (.iload_n 2, 1) := by decide +kernel
theorem d_NF_make_6 : decode b_NF_make 6 = .ok (.iload_n 3, 1) := by decide +kernel
theorem d_NF_make_7 : decode b_NF_make 7 = .ok (.iload 4, 2) := by decide +kernel
theorem d_NF_make_9 : decode b_NF_make 9 = .ok (.invokevirtual 32, 3) := by decide +kernel
theorem d_NF_make_12 : decode b_NF_make 12 = .ok (.ifCond .ne 13, 3) := by decide +kernel
theorem d_NF_make_15 : decode b_NF_make 15 = .ok (.new 36, 3) := by decide +kernel
theorem d_NF_make_18 : decode b_NF_make 18 = .ok (.dup, 1) := by decide +kernel
theorem d_NF_make_19 : decode b_NF_make 19 = .ok (.ldc 38, 2) := by decide +kernel
theorem d_NF_make_21 : decode b_NF_make 21 = .ok (.invokespecial 40, 3) := by decide +kernel
theorem d_NF_make_24 : decode b_NF_make 24 = .ok (.athrow, 1) := by decide +kernel
theorem d_NF_make_25 : decode b_NF_make 25 = .ok (.aload_n 0, 1) := by decide +kernel
theorem d_NF_make_26 : decode b_NF_make 26 = .ok (.getfield 10, 3) := by decide +kernel
theorem d_NF_make_29 : decode b_NF_make 29 = .ok (.getfield 43, 3) := by decide +kernel
theorem d_NF_make_32 : decode b_NF_make 32 = .ok (.bipush 48, 2) := by decide +kernel
theorem d_NF_make_34 : decode b_NF_make 34 = .ok (.if_icmp .ne 13, 3) := by decide +kernel
theorem d_NF_make_37 : decode b_NF_make 37 = .ok (.new 47, 3) := by decide +kernel
theorem d_NF_make_40 : decode b_NF_make 40 = .ok (.dup, 1) := by decide +kernel
theorem d_NF_make_41 : decode b_NF_make 41 = .ok (.ldc 49, 2) := by decide +kernel
theorem d_NF_make_43 : decode b_NF_make 43 = .ok (.invokespecial 51, 3) := by decide +kernel
theorem d_NF_make_46 : decode b_NF_make 46 = .ok (.athrow, 1) := by decide +kernel
theorem d_NF_make_47 : decode b_NF_make 47 = .ok (.aload_n 0, 1) := by decide +kernel
theorem d_NF_make_48 : decode b_NF_make 48 = .ok (.getfield 10, 3) := by decide +kernel
theorem d_NF_make_51 : decode b_NF_make 51 = .ok (.iload_n 1, 1) := by decide +kernel
theorem d_NF_make_52 : decode b_NF_make 52 = .ok (.iload_n 2, 1) := by decide +kernel
theorem d_NF_make_53 : decode b_NF_make 53 = .ok (.iload_n 3, 1) := by decide +kernel
theorem d_NF_make_54 : decode b_NF_make 54 = .ok (.iload 4, 2) := by decide +kernel
theorem d_NF_make_56 : decode b_NF_make 56 = .ok (.invokevirtual 52, 3) := by decide +kernel
theorem d_NF_make_59 : decode b_NF_make 59 = .ok (.ireturn, 1) := by decide +kernel
theorem d_NF_procedure_0 : decode b_NF_procedure 0 = .ok (.iload_n 1, 1) := by decide +kernel
theorem d_NF_procedure_1 : decode b_NF_procedure 1 = .ok (.iconst 4, 1) := by decide +kernel
theorem d_NF_procedure_2 : decode b_NF_procedure 2 = .ok (.invokestatic 56, 3) := by decide +kernel
theorem d_NF_procedure_5 : decode b_NF_procedure 5 = .ok (.ifCond .eq 31, 3) := by decide +kernel
theorem d_NF_procedure_8 : decode b_NF_procedure 8 = .ok (.aload_n 0, 1) := by decide +kernel
theorem d_NF_procedure_9 : decode b_NF_procedure 9 = .ok (.getfield 10, 3) := by decide +kernel
theorem d_NF_procedure_12 : decode b_NF_procedure 12 = .ok (.iload_n 2, 1) := by decide +kernel
theorem d_NF_procedure_13 : decode b_NF_procedure 13 = .ok (.invokevirtual 60, 3) := by decide +kernel
theorem d_NF_procedure_16 : decode b_NF_procedure 16 = .ok (.ifCond .eq 20, 3) := by decide +kernel
theorem d_NF_procedure_19 : decode b_NF_procedure 19 = .ok (.iload_n 3, 1) := by decide +kernel
theorem d_NF_procedure_20 : decode b_NF_procedure 20 = .ok (.iconst 3, 1) := by decide +kernel
theorem d_NF_procedure_21 : decode b_NF_procedure 21 = .ok (.invokestatic 56, 3) := by decide +kernel
theorem d_NF_procedure_24 : decode b_NF_procedure 24 = .ok (.ifCond .eq 12, 3) := by decide +kernel
theorem d_NF_procedure_27 : decode b_NF_procedure 27 = .ok (.iload 4, 2) := by decide +kernel
theorem d_NF_procedure_29 : decode b_NF_procedure 29 = .ok (.iconst 4, 1) := by decide +kernel
theorem d_NF_procedure_30 : decode b_NF_procedure 30 = .ok (.invokestatic 56, 3) := by decide +kernel
theorem d_NF_procedure_33 : decode b_NF_procedure 33 = .ok (.ifCond .ne 13, 3) := by decide +kernel
theorem d_NF_procedure_36 : decode b_NF_procedure 36 = .ok (.new 36, 3) := by decide +kernel
theorem d_NF_procedure_39 : decode b_NF_procedure 39 = .ok (.dup, 1) := by decide +kernel
theorem d_NF_procedure_40 : decode b_NF_procedure 40 = .ok (.ldc 64, 2) := by decide +kernel
theorem d_NF_procedure_42 : decode b_NF_procedure 42 = .ok (.invokespecial 40, 3) := by decide +kernel
theorem d_NF_procedure_45 : decode b_NF_procedure 45 = .ok (.athrow, 1) := by decide +kernel
theorem d_NF_procedure_46 : decode b_NF_procedure 46 = .ok (.aload_n 0, 1) := by decide +kernel
theorem d_NF_procedure_47 : decode b_NF_procedure 47 = .ok (.getfield 10, 3) := by decide +kernel
theorem d_NF_procedure_50 : decode b_NF_procedure 50 = .ok (.iload_n 1, 1) := by decide +kernel
theorem d_NF_procedure_51 : decode b_NF_procedure 51 = .ok (.iload_n 2, 1) := by decide +kernel
theorem d_NF_procedure_52 : decode b_NF_procedure 52 = .ok (.iload_n 3, 1) := by decide +kernel
theorem d_NF_procedure_53 : decode b_NF_procedure 53 = .ok (.iload 4, 2) := by decide +kernel
theorem d_NF_procedure_55 : decode b_NF_procedure 55 = .ok (.invokevirtual 66, 3) := by decide +kernel
theorem d_NF_procedure_58 : decode b_NF_procedure 58 = .ok (.return_, 1) := by decide +kernel
theorem d_NF_bounds_0 : decode b_NF_bounds 0 = .ok (.iload_n 1, 1) := by decide +kernel
theorem d_NF_bounds_1 : decode b_NF_bounds 1 = .ok (.iload_n 2, 1) := by decide +kernel
theorem d_NF_bounds_2 : decode b_NF_bounds 2 = .ok (.invokestatic 70, 3) := by decide +kernel
theorem d_NF_bounds_5 : decode b_NF_bounds 5 = .ok (.ifCond .eq 12, 3) := by decide +kernel
theorem d_NF_bounds_8 : decode b_NF_bounds 8 = .ok (.iload_n 3, 1) := by decide +kernel
theorem d_NF_bounds_9 : decode b_NF_bounds 9 = .ok (.iload 4, 2) := by decide +kernel
theorem d_NF_bounds_11 : decode b_NF_bounds 11 = .ok (.invokestatic 70, 3) := by decide +kernel
theorem d_NF_bounds_14 : decode b_NF_bounds 14 = .ok (.ifCond .ne 13, 3) := by decide +kernel
theorem d_NF_bounds_17 : decode b_NF_bounds 17 = .ok (.new 36, 3) := by decide +kernel
theorem d_NF_bounds_20 : decode b_NF_bounds 20 = .ok (.dup, 1) := by decide +kernel
theorem d_NF_bounds_21 : decode b_NF_bounds 21 = .ok (.ldc 73, 2) := by decide +kernel
theorem d_NF_bounds_23 : decode b_NF_bounds 23 = .ok (.invokespecial 40, 3) := by decide +kernel
theorem d_NF_bounds_26 : decode b_NF_bounds 26 = .ok (.athrow, 1) := by decide +kernel
theorem d_NF_bounds_27 : decode b_NF_bounds 27 = .ok (.aload_n 0, 1) := by decide +kernel
theorem d_NF_bounds_28 : decode b_NF_bounds 28 = .ok (.getfield 19, 3) := by decide +kernel
theorem d_NF_bounds_31 : decode b_NF_bounds 31 = .ok (.iload_n 1, 1) := by decide +kernel
theorem d_NF_bounds_32 : decode b_NF_bounds 32 = .ok (.iload_n 2, 1) := by decide +kernel
theorem d_NF_bounds_33 : decode b_NF_bounds 33 = .ok (.iload_n 3, 1) := by decide +kernel
theorem d_NF_bounds_34 : decode b_NF_bounds 34 = .ok (.iload 4, 2) := by decide +kernel
theorem d_NF_bounds_36 : decode b_NF_bounds 36 = .ok (.invokevirtual 75, 3) := by decide +kernel
theorem d_NF_bounds_39 : decode b_NF_bounds 39 = .ok (.aload_n 0, 1) := by decide +kernel
theorem d_NF_bounds_40 : decode b_NF_bounds 40 = .ok (.getfield 19, 3) := by decide +kernel
theorem d_NF_bounds_43 : decode b_NF_bounds 43 = .ok (.invokevirtual 78, 3) := by decide +kernel
theorem d_NF_bounds_46 : decode b_NF_bounds 46 = .ok (.ireturn, 1) := by decide +kernel
theorem d_NF_put_0 : decode b_NF_put 0 = .ok (.iload_n 1, 1) := by decide +kernel
theorem d_NF_put_1 : decode b_NF_put 1 = .ok (.bipush 8, 2) := by decide +kernel
theorem d_NF_put_3 : decode b_NF_put 3 = .ok (.invokestatic 56, 3) := by decide +kernel
theorem d_NF_put_6 : decode b_NF_put 6 = .ok (.ifCond .eq 10, 3) := by decide +kernel
theorem d_NF_put_9 : decode b_NF_put 9 = .ok (.dload_n 2, 1) := by decide +kernel
theorem d_NF_put_10 : decode b_NF_put 10 = .ok (.invokestatic 81, 3) := by decide +kernel
theorem d_NF_put_13 : decode b_NF_put 13 = .ok (.ifCond .ne 13, 3) := by decide +kernel
theorem d_NF_put_16 : decode b_NF_put 16 = .ok (.new 36, 3) := by decide +kernel
theorem d_NF_put_19 : decode b_NF_put 19 = .ok (.dup, 1) := by decide +kernel
theorem d_NF_put_20 : decode b_NF_put 20 = .ok (.ldc 85, 2) := by decide +kernel
theorem d_NF_put_22 : decode b_NF_put 22 = .ok (.invokespecial 40, 3) := by decide +kernel
theorem d_NF_put_25 : decode b_NF_put 25 = .ok (.athrow, 1) := by decide +kernel
theorem d_NF_put_26 : decode b_NF_put 26 = .ok (.aload_n 0, 1) := by decide +kernel
theorem d_NF_put_27 : decode b_NF_put 27 = .ok (.getfield 19, 3) := by decide +kernel
theorem d_NF_put_30 : decode b_NF_put 30 = .ok (.getfield 87, 3) := by decide +kernel
theorem d_NF_put_33 : decode b_NF_put 33 = .ok (.iload_n 1, 1) := by decide +kernel
theorem d_NF_put_34 : decode b_NF_put 34 = .ok (.daload, 1) := by decide +kernel
theorem d_NF_put_35 : decode b_NF_put 35 = .ok (.dstore 4, 2) := by decide +kernel
theorem d_NF_put_37 : decode b_NF_put 37 = .ok (.aload_n 0, 1) := by decide +kernel
theorem d_NF_put_38 : decode b_NF_put 38 = .ok (.getfield 19, 3) := by decide +kernel
theorem d_NF_put_41 : decode b_NF_put 41 = .ok (.iload_n 1, 1) := by decide +kernel
theorem d_NF_put_42 : decode b_NF_put 42 = .ok (.dload_n 2, 1) := by decide +kernel
theorem d_NF_put_43 : decode b_NF_put 43 = .ok (.invokevirtual 91, 3) := by decide +kernel
theorem d_NF_put_46 : decode b_NF_put 46 = .ok (.pop2, 1) := by decide +kernel
theorem d_NF_put_47 : decode b_NF_put 47 = .ok (.dload 4, 2) := by decide +kernel
theorem d_NF_put_49 : decode b_NF_put 49 = .ok (.dreturn, 1) := by decide +kernel
theorem d_NF_work_0 : decode b_NF_work 0 = .ok (.aload_n 0, 1) := by decide +kernel
theorem d_NF_work_1 : decode b_NF_work 1 = .ok (.getfield 10, 3) := by decide +kernel
theorem d_NF_work_4 : decode b_NF_work 4 = .ok (.iload_n 1, 1) := by decide +kernel
theorem d_NF_work_5 : decode b_NF_work 5 = .ok (.invokevirtual 60, 3) := by decide +kernel
theorem d_NF_work_8 : decode b_NF_work 8 = .ok (.ifCond .ne 13, 3) := by decide +kernel
theorem d_NF_work_11 : decode b_NF_work 11 = .ok (.new 36, 3) := by decide +kernel
theorem d_NF_work_14 : decode b_NF_work 14 = .ok (.dup, 1) := by decide +kernel
theorem d_NF_work_15 : decode b_NF_work 15 = .ok (.ldc 95, 2) := by decide +kernel
theorem d_NF_work_17 : decode b_NF_work 17 = .ok (.invokespecial 40, 3) := by decide +kernel
theorem d_NF_work_20 : decode b_NF_work 20 = .ok (.athrow, 1) := by decide +kernel
theorem d_NF_work_21 : decode b_NF_work 21 = .ok (.aload_n 0, 1) := by decide +kernel
theorem d_NF_work_22 : decode b_NF_work 22 = .ok (.getfield 28, 3) := by decide +kernel
theorem d_NF_work_25 : decode b_NF_work 25 = .ok (.iload_n 1, 1) := by decide +kernel
theorem d_NF_work_26 : decode b_NF_work 26 = .ok (.invokevirtual 97, 3) := by decide +kernel
theorem d_NF_work_29 : decode b_NF_work 29 = .ok (.dstore_n 2, 1) := by decide +kernel
theorem d_NF_work_30 : decode b_NF_work 30 = .ok (.aload_n 0, 1) := by decide +kernel
theorem d_NF_work_31 : decode b_NF_work 31 = .ok (.getfield 28, 3) := by decide +kernel
theorem d_NF_work_34 : decode b_NF_work 34 = .ok (.getfield 101, 3) := by decide +kernel
theorem d_NF_work_37 : decode b_NF_work 37 = .ok (.invokestatic 104, 3) := by decide +kernel
theorem d_NF_work_40 : decode b_NF_work 40 = .ok (.dload_n 2, 1) := by decide +kernel
theorem d_NF_work_41 : decode b_NF_work 41 = .ok (.dreturn, 1) := by decide +kernel
theorem d_NF_variable_0 : decode b_NF_variable 0 = .ok (.iload_n 1, 1) := by decide +kernel
theorem d_NF_variable_1 : decode b_NF_variable 1 = .ok (.bipush 8, 2) := by decide +kernel
theorem d_NF_variable_3 : decode b_NF_variable 3 = .ok (.invokestatic 56, 3) := by decide +kernel
theorem d_NF_variable_6 : decode b_NF_variable 6 = .ok (.ifCond .ne 13, 3) := by decide +kernel
theorem d_NF_variable_9 : decode b_NF_variable 9 = .ok (.new 36, 3) := by decide +kernel
theorem d_NF_variable_12 : decode b_NF_variable 12 = .ok (.dup, 1) := by decide +kernel
theorem d_NF_variable_13 : decode b_NF_variable 13 = .ok (.ldc 108, 2) := by decide +kernel
theorem d_NF_variable_15 : decode b_NF_variable 15 = .ok (.invokespecial 40, 3) := by decide +kernel
theorem d_NF_variable_18 : decode b_NF_variable 18 = .ok (.athrow, 1) := by decide +kernel
theorem d_NF_variable_19 : decode b_NF_variable 19 = .ok (.aload_n 0, 1) := by decide +kernel
theorem d_NF_variable_20 : decode b_NF_variable 20 = .ok (.getfield 19, 3) := by decide +kernel
theorem d_NF_variable_23 : decode b_NF_variable 23 = .ok (.getfield 87, 3) := by decide +kernel
theorem d_NF_variable_26 : decode b_NF_variable 26 = .ok (.iload_n 1, 1) := by decide +kernel
theorem d_NF_variable_27 : decode b_NF_variable 27 = .ok (.daload, 1) := by decide +kernel
theorem d_NF_variable_28 : decode b_NF_variable 28 = .ok (.dreturn, 1) := by decide +kernel
theorem d_NF_element_0 : decode b_NF_element 0 = .ok (.aload_n 0, 1) := by decide +kernel
theorem d_NF_element_1 : decode b_NF_element 1 = .ok (.getfield 19, 3) := by decide +kernel
theorem d_NF_element_4 : decode b_NF_element 4 = .ok (.iload_n 1, 1) := by decide +kernel
theorem d_NF_element_5 : decode b_NF_element 5 = .ok (.i2l, 1) := by decide +kernel
theorem d_NF_element_6 : decode b_NF_element 6 = .ok (.iload_n 2, 1) := by decide +kernel
theorem d_NF_element_7 : decode b_NF_element 7 = .ok (.i2l, 1) := by decide +kernel
theorem d_NF_element_8 : decode b_NF_element 8 = .ok (.invokevirtual 110, 3) := by decide +kernel
theorem d_NF_element_11 : decode b_NF_element 11 = .ok (.ifCond .ne 13, 3) := by decide +kernel
theorem d_NF_element_14 : decode b_NF_element 14 = .ok (.new 114, 3) := by decide +kernel
theorem d_NF_element_17 : decode b_NF_element 17 = .ok (.dup, 1) := by decide +kernel
theorem d_NF_element_18 : decode b_NF_element 18 = .ok (.ldc 116, 2) := by decide +kernel
theorem d_NF_element_20 : decode b_NF_element 20 = .ok (.invokespecial 118, 3) := by decide +kernel
theorem d_NF_element_23 : decode b_NF_element 23 = .ok (.athrow, 1) := by decide +kernel
theorem d_NF_element_24 : decode b_NF_element 24 = .ok (.aload_n 0, 1) := by decide +kernel
theorem d_NF_element_25 : decode b_NF_element 25 = .ok (.getfield 19, 3) := by decide +kernel
theorem d_NF_element_28 : decode b_NF_element 28 = .ok (.getfield 119, 3) := by decide +kernel
theorem d_NF_element_31 : decode b_NF_element 31 = .ok (.aload_n 0, 1) := by decide +kernel
theorem d_NF_element_32 : decode b_NF_element 32 = .ok (.getfield 19, 3) := by decide +kernel
theorem d_NF_element_35 : decode b_NF_element 35 = .ok (.iload_n 1, 1) := by decide +kernel
theorem d_NF_element_36 : decode b_NF_element 36 = .ok (.i2l, 1) := by decide +kernel
theorem d_NF_element_37 : decode b_NF_element 37 = .ok (.iload_n 2, 1) := by decide +kernel
theorem d_NF_element_38 : decode b_NF_element 38 = .ok (.i2l, 1) := by decide +kernel
theorem d_NF_element_39 : decode b_NF_element 39 = .ok (.invokevirtual 122, 3) := by decide +kernel
theorem d_NF_element_42 : decode b_NF_element 42 = .ok (.daload, 1) := by decide +kernel
theorem d_NF_element_43 : decode b_NF_element 43 = .ok (.dreturn, 1) := by decide +kernel
theorem d_NF_node_0 : decode b_NF_node 0 = .ok (.iload_n 2, 1) := by decide +kernel
theorem d_NF_node_1 : decode b_NF_node 1 = .ok (.iconst 4, 1) := by decide +kernel
theorem d_NF_node_2 : decode b_NF_node 2 = .ok (.invokestatic 56, 3) := by decide +kernel
theorem d_NF_node_5 : decode b_NF_node 5 = .ok (.ifCond .ne 13, 3) := by decide +kernel
theorem d_NF_node_8 : decode b_NF_node 8 = .ok (.new 36, 3) := by decide +kernel
theorem d_NF_node_11 : decode b_NF_node 11 = .ok (.dup, 1) := by decide +kernel
theorem d_NF_node_12 : decode b_NF_node 12 = .ok (.ldc 126, 2) := by decide +kernel
theorem d_NF_node_14 : decode b_NF_node 14 = .ok (.invokespecial 40, 3) := by decide +kernel
theorem d_NF_node_17 : decode b_NF_node 17 = .ok (.athrow, 1) := by decide +kernel
theorem d_NF_node_18 : decode b_NF_node 18 = .ok (.aload_n 0, 1) := by decide +kernel
theorem d_NF_node_19 : decode b_NF_node 19 = .ok (.getfield 10, 3) := by decide +kernel
theorem d_NF_node_22 : decode b_NF_node 22 = .ok (.iload_n 1, 1) := by decide +kernel
theorem d_NF_node_23 : decode b_NF_node 23 = .ok (.invokevirtual 60, 3) := by decide +kernel
theorem d_NF_node_26 : decode b_NF_node 26 = .ok (.ifCond .ne 13, 3) := by decide +kernel
theorem d_NF_node_29 : decode b_NF_node 29 = .ok (.new 114, 3) := by decide +kernel
theorem d_NF_node_32 : decode b_NF_node 32 = .ok (.dup, 1) := by decide +kernel
theorem d_NF_node_33 : decode b_NF_node 33 = .ok (.ldc 95, 2) := by decide +kernel
theorem d_NF_node_35 : decode b_NF_node 35 = .ok (.invokespecial 118, 3) := by decide +kernel
theorem d_NF_node_38 : decode b_NF_node 38 = .ok (.athrow, 1) := by decide +kernel
theorem d_NF_node_39 : decode b_NF_node 39 = .ok (.iload_n 2, 1) := by decide +kernel
theorem d_NF_node_40 : decode b_NF_node 40 = .ok (.tableswitch 58 0 2 #[28, 38, 48], 28) := by decide +kernel
theorem d_NF_node_68 : decode b_NF_node 68 = .ok (.aload_n 0, 1) := by decide +kernel
theorem d_NF_node_69 : decode b_NF_node 69 = .ok (.getfield 10, 3) := by decide +kernel
theorem d_NF_node_72 : decode b_NF_node 72 = .ok (.getfield 128, 3) := by decide +kernel
theorem d_NF_node_75 : decode b_NF_node 75 = .ok (.iload_n 1, 1) := by decide +kernel
theorem d_NF_node_76 : decode b_NF_node 76 = .ok (.iaload, 1) := by decide +kernel
theorem d_NF_node_77 : decode b_NF_node 77 = .ok (.ireturn, 1) := by decide +kernel
theorem d_NF_node_78 : decode b_NF_node 78 = .ok (.aload_n 0, 1) := by decide +kernel
theorem d_NF_node_79 : decode b_NF_node 79 = .ok (.getfield 10, 3) := by decide +kernel
theorem d_NF_node_82 : decode b_NF_node 82 = .ok (.getfield 132, 3) := by decide +kernel
theorem d_NF_node_85 : decode b_NF_node 85 = .ok (.iload_n 1, 1) := by decide +kernel
theorem d_NF_node_86 : decode b_NF_node 86 = .ok (.iaload, 1) := by decide +kernel
theorem d_NF_node_87 : decode b_NF_node 87 = .ok (.ireturn, 1) := by decide +kernel
theorem d_NF_node_88 : decode b_NF_node 88 = .ok (.aload_n 0, 1) := by decide +kernel
theorem d_NF_node_89 : decode b_NF_node 89 = .ok (.getfield 10, 3) := by decide +kernel
theorem d_NF_node_92 : decode b_NF_node 92 = .ok (.getfield 135, 3) := by decide +kernel
theorem d_NF_node_95 : decode b_NF_node 95 = .ok (.iload_n 1, 1) := by decide +kernel
theorem d_NF_node_96 : decode b_NF_node 96 = .ok (.iaload, 1) := by decide +kernel
theorem d_NF_node_97 : decode b_NF_node 97 = .ok (.ireturn, 1) := by decide +kernel
theorem d_NF_node_98 : decode b_NF_node 98 = .ok (.aload_n 0, 1) := by decide +kernel
theorem d_NF_node_99 : decode b_NF_node 99 = .ok (.getfield 10, 3) := by decide +kernel
theorem d_NF_node_102 : decode b_NF_node 102 = .ok (.getfield 138, 3) := by decide +kernel
theorem d_NF_node_105 : decode b_NF_node 105 = .ok (.iload_n 1, 1) := by decide +kernel
theorem d_NF_node_106 : decode b_NF_node 106 = .ok (.iaload, 1) := by decide +kernel
theorem d_NF_node_107 : decode b_NF_node 107 = .ok (.ireturn, 1) := by decide +kernel
theorem d_NF_clear_0 : decode b_NF_clear 0 = .ok (.aload_n 0, 1) := by decide +kernel
theorem d_NF_clear_1 : decode b_NF_clear 1 = .ok (.getfield 10, 3) := by decide +kernel
theorem d_NF_clear_4 : decode b_NF_clear 4 = .ok (.getfield 43, 3) := by decide +kernel
theorem d_NF_clear_7 : decode b_NF_clear 7 = .ok (.istore_n 1, 1) := by decide +kernel
theorem d_NF_clear_8 : decode b_NF_clear 8 = .ok (.aload_n 0, 1) := by decide +kernel
theorem d_NF_clear_9 : decode b_NF_clear 9 = .ok (.getfield 10, 3) := by decide +kernel
theorem d_NF_clear_12 : decode b_NF_clear 12 = .ok (.invokevirtual 141, 3) := by decide +kernel
theorem d_NF_clear_15 : decode b_NF_clear 15 = .ok (.iload_n 1, 1) := by decide +kernel
theorem d_NF_clear_16 : decode b_NF_clear 16 = .ok (.ireturn, 1) := by decide +kernel
theorem d_NF_count_0 : decode b_NF_count 0 = .ok (.iload_n 1, 1) := by decide +kernel
theorem d_NF_count_1 : decode b_NF_count 1 = .ok (.tableswitch 99 0 6 #[43, 51, 59, 67, 75, 83, 91], 43) := by decide +kernel
theorem d_NF_count_44 : decode b_NF_count 44 = .ok (.aload_n 0, 1) := by decide +kernel
theorem d_NF_count_45 : decode b_NF_count 45 = .ok (.getfield 10, 3) := by decide +kernel
theorem d_NF_count_48 : decode b_NF_count 48 = .ok (.getfield 43, 3) := by decide +kernel
theorem d_NF_count_51 : decode b_NF_count 51 = .ok (.ireturn, 1) := by decide +kernel
theorem d_NF_count_52 : decode b_NF_count 52 = .ok (.aload_n 0, 1) := by decide +kernel
theorem d_NF_count_53 : decode b_NF_count 53 = .ok (.getfield 19, 3) := by decide +kernel
theorem d_NF_count_56 : decode b_NF_count 56 = .ok (.invokevirtual 78, 3) := by decide +kernel
theorem d_NF_count_59 : decode b_NF_count 59 = .ok (.ireturn, 1) := by decide +kernel
theorem d_NF_count_60 : decode b_NF_count 60 = .ok (.aload_n 0, 1) := by decide +kernel
theorem d_NF_count_61 : decode b_NF_count 61 = .ok (.getfield 28, 3) := by decide +kernel
theorem d_NF_count_64 : decode b_NF_count 64 = .ok (.getfield 144, 3) := by decide +kernel
theorem d_NF_count_67 : decode b_NF_count 67 = .ok (.ireturn, 1) := by decide +kernel
theorem d_NF_count_68 : decode b_NF_count 68 = .ok (.aload_n 0, 1) := by decide +kernel
theorem d_NF_count_69 : decode b_NF_count 69 = .ok (.getfield 28, 3) := by decide +kernel
theorem d_NF_count_72 : decode b_NF_count 72 = .ok (.getfield 101, 3) := by decide +kernel
theorem d_NF_count_75 : decode b_NF_count 75 = .ok (.ireturn, 1) := by decide +kernel
theorem d_NF_count_76 : decode b_NF_count 76 = .ok (.aload_n 0, 1) := by decide +kernel
theorem d_NF_count_77 : decode b_NF_count 77 = .ok (.getfield 28, 3) := by decide +kernel
theorem d_NF_count_80 : decode b_NF_count 80 = .ok (.getfield 147, 3) := by decide +kernel
theorem d_NF_count_83 : decode b_NF_count 83 = .ok (.ireturn, 1) := by decide +kernel
theorem d_NF_count_84 : decode b_NF_count 84 = .ok (.aload_n 0, 1) := by decide +kernel
theorem d_NF_count_85 : decode b_NF_count 85 = .ok (.getfield 28, 3) := by decide +kernel
theorem d_NF_count_88 : decode b_NF_count 88 = .ok (.getfield 150, 3) := by decide +kernel
theorem d_NF_count_91 : decode b_NF_count 91 = .ok (.ireturn, 1) := by decide +kernel
theorem d_NF_count_92 : decode b_NF_count 92 = .ok (.aload_n 0, 1) := by decide +kernel
theorem d_NF_count_93 : decode b_NF_count 93 = .ok (.getfield 28, 3) := by decide +kernel
theorem d_NF_count_96 : decode b_NF_count 96 = .ok (.getfield 153, 3) := by decide +kernel
theorem d_NF_count_99 : decode b_NF_count 99 = .ok (.ireturn, 1) := by decide +kernel
theorem d_NF_count_100 : decode b_NF_count 100 = .ok (.new 36, 3) := by decide +kernel
theorem d_NF_count_103 : decode b_NF_count 103 = .ok (.dup, 1) := by decide +kernel
theorem d_NF_count_104 : decode b_NF_count 104 = .ok (.ldc 156, 2) := by decide +kernel
theorem d_NF_count_106 : decode b_NF_count 106 = .ok (.invokespecial 40, 3) := by decide +kernel
theorem d_NF_count_109 : decode b_NF_count 109 = .ok (.athrow, 1) := by decide +kernel
theorem d_NF_throwFault_0 : decode b_NF_throwFault 0 = .ok (.iload_n 0, 1) := by decide +kernel
theorem d_NF_throwFault_1 : decode b_NF_throwFault 1 = .ok (.tableswitch 127 1 8 #[47, 57, 67, 77, 87, 97, 107, 117], 47) := by decide +kernel
theorem d_NF_throwFault_48 : decode b_NF_throwFault 48 = .ok (.new 158, 3) := by decide +kernel
theorem d_NF_throwFault_51 : decode b_NF_throwFault 51 = .ok (.dup, 1) := by decide +kernel
theorem d_NF_throwFault_52 : decode b_NF_throwFault 52 = .ok (.ldc 160, 2) := by decide +kernel
theorem d_NF_throwFault_54 : decode b_NF_throwFault 54 = .ok (.invokespecial 162, 3) := by decide +kernel
theorem d_NF_throwFault_57 : decode b_NF_throwFault 57 = .ok (.athrow, 1) := by decide +kernel
theorem d_NF_throwFault_58 : decode b_NF_throwFault 58 = .ok (.new 158, 3) := by decide +kernel
theorem d_NF_throwFault_61 : decode b_NF_throwFault 61 = .ok (.dup, 1) := by decide +kernel
theorem d_NF_throwFault_62 : decode b_NF_throwFault 62 = .ok (.ldc 163, 2) := by decide +kernel
theorem d_NF_throwFault_64 : decode b_NF_throwFault 64 = .ok (.invokespecial 162, 3) := by decide +kernel
theorem d_NF_throwFault_67 : decode b_NF_throwFault 67 = .ok (.athrow, 1) := by decide +kernel
theorem d_NF_throwFault_68 : decode b_NF_throwFault 68 = .ok (.new 114, 3) := by decide +kernel
theorem d_NF_throwFault_71 : decode b_NF_throwFault 71 = .ok (.dup, 1) := by decide +kernel
theorem d_NF_throwFault_72 : decode b_NF_throwFault 72 = .ok (.ldc 165, 2) := by decide +kernel
theorem d_NF_throwFault_74 : decode b_NF_throwFault 74 = .ok (.invokespecial 118, 3) := by decide +kernel
theorem d_NF_throwFault_77 : decode b_NF_throwFault 77 = .ok (.athrow, 1) := by decide +kernel
theorem d_NF_throwFault_78 : decode b_NF_throwFault 78 = .ok (.new 167, 3) := by decide +kernel
theorem d_NF_throwFault_81 : decode b_NF_throwFault 81 = .ok (.dup, 1) := by decide +kernel
theorem d_NF_throwFault_82 : decode b_NF_throwFault 82 = .ok (.ldc 169, 2) := by decide +kernel
theorem d_NF_throwFault_84 : decode b_NF_throwFault 84 = .ok (.invokespecial 171, 3) := by decide +kernel
theorem d_NF_throwFault_87 : decode b_NF_throwFault 87 = .ok (.athrow, 1) := by decide +kernel
theorem d_NF_throwFault_88 : decode b_NF_throwFault 88 = .ok (.new 172, 3) := by decide +kernel
theorem d_NF_throwFault_91 : decode b_NF_throwFault 91 = .ok (.dup, 1) := by decide +kernel
theorem d_NF_throwFault_92 : decode b_NF_throwFault 92 = .ok (.ldc 174, 2) := by decide +kernel
theorem d_NF_throwFault_94 : decode b_NF_throwFault 94 = .ok (.invokespecial 176, 3) := by decide +kernel
theorem d_NF_throwFault_97 : decode b_NF_throwFault 97 = .ok (.athrow, 1) := by decide +kernel
theorem d_NF_throwFault_98 : decode b_NF_throwFault 98 = .ok (.new 167, 3) := by decide +kernel
theorem d_NF_throwFault_101 : decode b_NF_throwFault 101 = .ok (.dup, 1) := by decide +kernel
theorem d_NF_throwFault_102 : decode b_NF_throwFault 102 = .ok (.ldc 177, 2) := by decide +kernel
theorem d_NF_throwFault_104 : decode b_NF_throwFault 104 = .ok (.invokespecial 171, 3) := by decide +kernel
theorem d_NF_throwFault_107 : decode b_NF_throwFault 107 = .ok (.athrow, 1) := by decide +kernel
theorem d_NF_throwFault_108 : decode b_NF_throwFault 108 = .ok (.new 47, 3) := by decide +kernel
theorem d_NF_throwFault_111 : decode b_NF_throwFault 111 = .ok (.dup, 1) := by decide +kernel
theorem d_NF_throwFault_112 : decode b_NF_throwFault 112 = .ok (.ldc 179, 2) := by decide +kernel
theorem d_NF_throwFault_114 : decode b_NF_throwFault 114 = .ok (.invokespecial 51, 3) := by decide +kernel
theorem d_NF_throwFault_117 : decode b_NF_throwFault 117 = .ok (.athrow, 1) := by decide +kernel
theorem d_NF_throwFault_118 : decode b_NF_throwFault 118 = .ok (.new 47, 3) := by decide +kernel
theorem d_NF_throwFault_121 : decode b_NF_throwFault 121 = .ok (.dup, 1) := by decide +kernel
theorem d_NF_throwFault_122 : decode b_NF_throwFault 122 = .ok (.ldc 181, 2) := by decide +kernel
theorem d_NF_throwFault_124 : decode b_NF_throwFault 124 = .ok (.invokespecial 51, 3) := by decide +kernel
theorem d_NF_throwFault_127 : decode b_NF_throwFault 127 = .ok (.athrow, 1) := by decide +kernel
theorem d_NF_throwFault_128 : decode b_NF_throwFault 128 = .ok (.return_, 1) := by decide +kernel
theorem d_NF_isBelow_0 : decode b_NF_isBelow 0 = .ok (.iload_n 0, 1) := by decide +kernel
theorem d_NF_isBelow_1 : decode b_NF_isBelow 1 = .ok (.ifCond .lt 12, 3) := by decide +kernel
theorem d_NF_isBelow_4 : decode b_NF_isBelow 4 = .ok (.iload_n 0, 1) := by decide +kernel
theorem d_NF_isBelow_5 : decode b_NF_isBelow 5 = .ok (.iload_n 1, 1) := by decide +kernel
theorem d_NF_isBelow_6 : decode b_NF_isBelow 6 = .ok (.if_icmp .ge 7, 3) := by decide +kernel
theorem d_NF_isBelow_9 : decode b_NF_isBelow 9 = .ok (.iconst 1, 1) := by decide +kernel
theorem d_NF_isBelow_10 : decode b_NF_isBelow 10 = .ok (.goto 4, 3) := by decide +kernel
theorem d_NF_isBelow_13 : decode b_NF_isBelow 13 = .ok (.iconst 0, 1) := by decide +kernel
theorem d_NF_isBelow_14 : decode b_NF_isBelow 14 = .ok (.ireturn, 1) := by decide +kernel
theorem d_NF_areBounds_0 : decode b_NF_areBounds 0 = .ok (.iload_n 0, 1) := by decide +kernel
theorem d_NF_areBounds_1 : decode b_NF_areBounds 1 = .ok (.bipush (-9), 2) := by decide +kernel
theorem d_NF_areBounds_3 : decode b_NF_areBounds 3 = .ok (.if_icmp .lt 25, 3) := by decide +kernel
theorem d_NF_areBounds_6 : decode b_NF_areBounds 6 = .ok (.iload_n 1, 1) := by decide +kernel
theorem d_NF_areBounds_7 : decode b_NF_areBounds 7 = .ok (.bipush 9, 2) := by decide +kernel
theorem d_NF_areBounds_9 : decode b_NF_areBounds 9 = .ok (.if_icmp .gt 19, 3) := by decide +kernel
theorem d_NF_areBounds_12 : decode b_NF_areBounds 12 = .ok (.iload_n 0, 1) := by decide +kernel
theorem d_NF_areBounds_13 : decode b_NF_areBounds 13 = .ok (.iload_n 1, 1) := by decide +kernel
theorem d_NF_areBounds_14 : decode b_NF_areBounds 14 = .ok (.if_icmp .gt 14, 3) := by decide +kernel
theorem d_NF_areBounds_17 : decode b_NF_areBounds 17 = .ok (.iload_n 1, 1) := by decide +kernel
theorem d_NF_areBounds_18 : decode b_NF_areBounds 18 = .ok (.iload_n 0, 1) := by decide +kernel
theorem d_NF_areBounds_19 : decode b_NF_areBounds 19 = .ok (.isub, 1) := by decide +kernel
theorem d_NF_areBounds_20 : decode b_NF_areBounds 20 = .ok (.iconst 5, 1) := by decide +kernel
theorem d_NF_areBounds_21 : decode b_NF_areBounds 21 = .ok (.if_icmp .ge 7, 3) := by decide +kernel
theorem d_NF_areBounds_24 : decode b_NF_areBounds 24 = .ok (.iconst 1, 1) := by decide +kernel
theorem d_NF_areBounds_25 : decode b_NF_areBounds 25 = .ok (.goto 4, 3) := by decide +kernel
theorem d_NF_areBounds_28 : decode b_NF_areBounds 28 = .ok (.iconst 0, 1) := by decide +kernel
theorem d_NF_areBounds_29 : decode b_NF_areBounds 29 = .ok (.ireturn, 1) := by decide +kernel
theorem d_NF_isWithinSize_0 : decode b_NF_isWithinSize 0 = .ok (.dload_n 0, 1) := by decide +kernel
theorem d_NF_isWithinSize_1 : decode b_NF_isWithinSize 1 = .ok (.ldc2_w 183, 3) := by decide +kernel
theorem d_NF_isWithinSize_4 : decode b_NF_isWithinSize 4 = .ok (.dcmp .l, 1) := by decide +kernel
theorem d_NF_isWithinSize_5 : decode b_NF_isWithinSize 5 = .ok (.ifCond .lt 15, 3) := by decide +kernel
theorem d_NF_isWithinSize_8 : decode b_NF_isWithinSize 8 = .ok (.dload_n 0, 1) := by decide +kernel
theorem d_NF_isWithinSize_9 : decode b_NF_isWithinSize 9 = .ok (.ldc2_w 185, 3) := by decide +kernel
theorem d_NF_isWithinSize_12 : decode b_NF_isWithinSize 12 = .ok (.dcmp .g, 1) := by decide +kernel
theorem d_NF_isWithinSize_13 : decode b_NF_isWithinSize 13 = .ok (.ifCond .gt 7, 3) := by decide +kernel
theorem d_NF_isWithinSize_16 : decode b_NF_isWithinSize 16 = .ok (.iconst 1, 1) := by decide +kernel
theorem d_NF_isWithinSize_17 : decode b_NF_isWithinSize 17 = .ok (.goto 4, 3) := by decide +kernel
theorem d_NF_isWithinSize_20 : decode b_NF_isWithinSize 20 = .ok (.iconst 0, 1) := by decide +kernel
theorem d_NF_isWithinSize_21 : decode b_NF_isWithinSize 21 = .ok (.ireturn, 1) := by decide +kernel
theorem d_NF_rounded_0 : decode b_NF_rounded 0 = .ok (.dload_n 0, 1) := by decide +kernel
theorem d_NF_rounded_1 : decode b_NF_rounded 1 = .ok (.ldc2_w 187, 3) := by decide +kernel
theorem d_NF_rounded_4 : decode b_NF_rounded 4 = .ok (.dadd, 1) := by decide +kernel
theorem d_NF_rounded_5 : decode b_NF_rounded 5 = .ok (.dstore_n 2, 1) := by decide +kernel
theorem d_NF_rounded_6 : decode b_NF_rounded 6 = .ok (.dload_n 2, 1) := by decide +kernel
theorem d_NF_rounded_7 : decode b_NF_rounded 7 = .ok (.d2l, 1) := by decide +kernel
theorem d_NF_rounded_8 : decode b_NF_rounded 8 = .ok (.lstore 4, 2) := by decide +kernel
theorem d_NF_rounded_10 : decode b_NF_rounded 10 = .ok (.lload 4, 2) := by decide +kernel
theorem d_NF_rounded_12 : decode b_NF_rounded 12 = .ok (.l2d, 1) := by decide +kernel
theorem d_NF_rounded_13 : decode b_NF_rounded 13 = .ok (.dload_n 2, 1) := by decide +kernel
theorem d_NF_rounded_14 : decode b_NF_rounded 14 = .ok (.dcmp .l, 1) := by decide +kernel
theorem d_NF_rounded_15 : decode b_NF_rounded 15 = .ok (.ifCond .le 10, 3) := by decide +kernel
theorem d_NF_rounded_18 : decode b_NF_rounded 18 = .ok (.lload 4, 2) := by decide +kernel
theorem d_NF_rounded_20 : decode b_NF_rounded 20 = .ok (.lconst 1, 1) := by decide +kernel
theorem d_NF_rounded_21 : decode b_NF_rounded 21 = .ok (.lsub, 1) := by decide +kernel
theorem d_NF_rounded_22 : decode b_NF_rounded 22 = .ok (.goto 5, 3) := by decide +kernel
theorem d_NF_rounded_25 : decode b_NF_rounded 25 = .ok (.lload 4, 2) := by decide +kernel
theorem d_NF_rounded_27 : decode b_NF_rounded 27 = .ok (.lreturn, 1) := by decide +kernel
theorem d_EN_init_0 : decode b_EN_init 0 = .ok (.aload_n 0, 1) := by decide +kernel
theorem d_EN_init_1 : decode b_EN_init 1 = .ok (.invokespecial 3, 3) := by decide +kernel
theorem d_EN_init_4 : decode b_EN_init 4 = .ok (.aload_n 0, 1) := by decide +kernel
theorem d_EN_init_5 : decode b_EN_init 5 = .ok (.iconst 2, 1) := by decide +kernel
theorem d_EN_init_6 : decode b_EN_init 6 = .ok (.newarray .int, 2) := by decide +kernel
theorem d_EN_init_8 : decode b_EN_init 8 = .ok (.putfield 9, 3) := by decide +kernel
theorem d_EN_init_11 : decode b_EN_init 11 = .ok (.aload_n 0, 1) := by decide +kernel
theorem d_EN_init_12 : decode b_EN_init 12 = .ok (.iconst 2, 1) := by decide +kernel
theorem d_EN_init_13 : decode b_EN_init 13 = .ok (.newarray .double, 2) := by decide +kernel
theorem d_EN_init_15 : decode b_EN_init 15 = .ok (.putfield 15, 3) := by decide +kernel
theorem d_EN_init_18 : decode b_EN_init 18 = .ok (.aload_n 0, 1) := by decide +kernel
theorem d_EN_init_19 : decode b_EN_init 19 = .ok (.iconst 2, 1) := by decide +kernel
theorem d_EN_init_20 : decode b_EN_init 20 = .ok (.newarray .double, 2) := by decide +kernel
theorem d_EN_init_22 : decode b_EN_init 22 = .ok (.putfield 19, 3) := by decide +kernel
theorem d_EN_init_25 : decode b_EN_init 25 = .ok (.return_, 1) := by decide +kernel
theorem d_EN_begin_0 : decode b_EN_begin 0 = .ok (.aload_n 0, 1) := by decide +kernel
theorem d_EN_begin_1 : decode b_EN_begin 1 = .ok (.aload_n 1, 1) := by decide +kernel
theorem d_EN_begin_2 : decode b_EN_begin 2 = .ok (.putfield 22, 3) := by decide +kernel
theorem d_EN_begin_5 : decode b_EN_begin 5 = .ok (.aload_n 0, 1) := by decide +kernel
theorem d_EN_begin_6 : decode b_EN_begin 6 = .ok (.iload_n 2, 1) := by decide +kernel
theorem d_EN_begin_7 : decode b_EN_begin 7 = .ok (.putfield 26, 3) := by decide +kernel
theorem d_EN_begin_10 : decode b_EN_begin 10 = .ok (.aload_n 0, 1) := by decide +kernel
theorem d_EN_begin_11 : decode b_EN_begin 11 = .ok (.iload_n 3, 1) := by decide +kernel
theorem d_EN_begin_12 : decode b_EN_begin 12 = .ok (.putfield 30, 3) := by decide +kernel
theorem d_EN_begin_15 : decode b_EN_begin 15 = .ok (.aload_n 0, 1) := by decide +kernel
theorem d_EN_begin_16 : decode b_EN_begin 16 = .ok (.getfield 19, 3) := by decide +kernel
theorem d_EN_begin_19 : decode b_EN_begin 19 = .ok (.dconst 0, 1) := by decide +kernel
theorem d_EN_begin_20 : decode b_EN_begin 20 = .ok (.invokestatic 33, 3) := by decide +kernel
theorem d_EN_begin_23 : decode b_EN_begin 23 = .ok (.return_, 1) := by decide +kernel
theorem d_EN_give_0 : decode b_EN_give 0 = .ok (.aload_n 0, 1) := by decide +kernel
theorem d_EN_give_1 : decode b_EN_give 1 = .ok (.getfield 9, 3) := by decide +kernel
theorem d_EN_give_4 : decode b_EN_give 4 = .ok (.iload_n 1, 1) := by decide +kernel
theorem d_EN_give_5 : decode b_EN_give 5 = .ok (.iload_n 2, 1) := by decide +kernel
theorem d_EN_give_6 : decode b_EN_give 6 = .ok (.iastore, 1) := by decide +kernel
theorem d_EN_give_7 : decode b_EN_give 7 = .ok (.aload_n 0, 1) := by decide +kernel
theorem d_EN_give_8 : decode b_EN_give 8 = .ok (.getfield 15, 3) := by decide +kernel
theorem d_EN_give_11 : decode b_EN_give 11 = .ok (.iload_n 1, 1) := by decide +kernel
theorem d_EN_give_12 : decode b_EN_give 12 = .ok (.dload_n 3, 1) := by decide +kernel
theorem d_EN_give_13 : decode b_EN_give 13 = .ok (.dastore, 1) := by decide +kernel
theorem d_EN_give_14 : decode b_EN_give 14 = .ok (.return_, 1) := by decide +kernel
theorem d_EN_hasParameter_0 : decode b_EN_hasParameter 0 = .ok (.aload_n 0, 1) := by decide +kernel
theorem d_EN_hasParameter_1 : decode b_EN_hasParameter 1 = .ok (.getfield 22, 3) := by decide +kernel
theorem d_EN_hasParameter_4 : decode b_EN_hasParameter 4 = .ok (.ifnull 15, 3) := by decide +kernel
theorem d_EN_hasParameter_7 : decode b_EN_hasParameter 7 = .ok (.iload_n 1, 1) := by decide +kernel
theorem d_EN_hasParameter_8 : decode b_EN_hasParameter 8 = .ok (.aload_n 0, 1) := by decide +kernel
theorem d_EN_hasParameter_9 : decode b_EN_hasParameter 9 = .ok (.getfield 26, 3) := by decide +kernel
theorem d_EN_hasParameter_12 : decode b_EN_hasParameter 12 = .ok (.if_icmp .ge 7, 3) := by decide +kernel
theorem d_EN_hasParameter_15 : decode b_EN_hasParameter 15 = .ok (.iconst 1, 1) := by decide +kernel
theorem d_EN_hasParameter_16 : decode b_EN_hasParameter 16 = .ok (.goto 4, 3) := by decide +kernel
theorem d_EN_hasParameter_19 : decode b_EN_hasParameter 19 = .ok (.iconst 0, 1) := by decide +kernel
theorem d_EN_hasParameter_20 : decode b_EN_hasParameter 20 = .ok (.ireturn, 1) := by decide +kernel
theorem d_EN_hasLocals_0 : decode b_EN_hasLocals 0 = .ok (.aload_n 0, 1) := by decide +kernel
theorem d_EN_hasLocals_1 : decode b_EN_hasLocals 1 = .ok (.getfield 22, 3) := by decide +kernel
theorem d_EN_hasLocals_4 : decode b_EN_hasLocals 4 = .ok (.ifnull 7, 3) := by decide +kernel
theorem d_EN_hasLocals_7 : decode b_EN_hasLocals 7 = .ok (.iconst 1, 1) := by decide +kernel
theorem d_EN_hasLocals_8 : decode b_EN_hasLocals 8 = .ok (.goto 4, 3) := by decide +kernel
theorem d_EN_hasLocals_11 : decode b_EN_hasLocals 11 = .ok (.iconst 0, 1) := by decide +kernel
theorem d_EN_hasLocals_12 : decode b_EN_hasLocals 12 = .ok (.ireturn, 1) := by decide +kernel
theorem d_EN_isByName_0 : decode b_EN_isByName 0 = .ok (.aload_n 0, 1) := by decide +kernel
theorem d_EN_isByName_1 : decode b_EN_isByName 1 = .ok (.getfield 30, 3) := by decide +kernel
theorem d_EN_isByName_4 : decode b_EN_isByName 4 = .ok (.iload_n 1, 1) := by decide +kernel
theorem d_EN_isByName_5 : decode b_EN_isByName 5 = .ok (.ishr, 1) := by decide +kernel
theorem d_EN_isByName_6 : decode b_EN_isByName 6 = .ok (.iconst 1, 1) := by decide +kernel
theorem d_EN_isByName_7 : decode b_EN_isByName 7 = .ok (.iand, 1) := by decide +kernel
theorem d_EN_isByName_8 : decode b_EN_isByName 8 = .ok (.iconst 1, 1) := by decide +kernel
theorem d_EN_isByName_9 : decode b_EN_isByName 9 = .ok (.if_icmp .ne 7, 3) := by decide +kernel
theorem d_EN_isByName_12 : decode b_EN_isByName 12 = .ok (.iconst 1, 1) := by decide +kernel
theorem d_EN_isByName_13 : decode b_EN_isByName 13 = .ok (.goto 4, 3) := by decide +kernel
theorem d_EN_isByName_16 : decode b_EN_isByName 16 = .ok (.iconst 0, 1) := by decide +kernel
theorem d_EN_isByName_17 : decode b_EN_isByName 17 = .ok (.ireturn, 1) := by decide +kernel
theorem d_PR_init_0 : decode b_PR_init 0 = .ok (.aload_n 0, 1) := by decide +kernel
theorem d_PR_init_1 : decode b_PR_init 1 = .ok (.invokespecial 3, 3) := by decide +kernel
theorem d_PR_init_4 : decode b_PR_init 4 = .ok (.aload_n 0, 1) := by decide +kernel
theorem d_PR_init_5 : decode b_PR_init 5 = .ok (.bipush 48, 2) := by decide +kernel
theorem d_PR_init_7 : decode b_PR_init 7 = .ok (.newarray .int, 2) := by decide +kernel
theorem d_PR_init_9 : decode b_PR_init 9 = .ok (.putfield 9, 3) := by decide +kernel
theorem d_PR_init_12 : decode b_PR_init 12 = .ok (.aload_n 0, 1) := by decide +kernel
theorem d_PR_init_13 : decode b_PR_init 13 = .ok (.bipush 48, 2) := by decide +kernel
theorem d_PR_init_15 : decode b_PR_init 15 = .ok (.newarray .int, 2) := by decide +kernel
theorem d_PR_init_17 : decode b_PR_init 17 = .ok (.putfield 15, 3) := by decide +kernel
theorem d_PR_init_20 : decode b_PR_init 20 = .ok (.aload_n 0, 1) := by decide +kernel
theorem d_PR_init_21 : decode b_PR_init 21 = .ok (.bipush 48, 2) := by decide +kernel
theorem d_PR_init_23 : decode b_PR_init 23 = .ok (.newarray .int, 2) := by decide +kernel
theorem d_PR_init_25 : decode b_PR_init 25 = .ok (.putfield 18, 3) := by decide +kernel
theorem d_PR_init_28 : decode b_PR_init 28 = .ok (.aload_n 0, 1) := by decide +kernel
theorem d_PR_init_29 : decode b_PR_init 29 = .ok (.bipush 48, 2) := by decide +kernel
theorem d_PR_init_31 : decode b_PR_init 31 = .ok (.newarray .int, 2) := by decide +kernel
theorem d_PR_init_33 : decode b_PR_init 33 = .ok (.putfield 21, 3) := by decide +kernel
theorem d_PR_init_36 : decode b_PR_init 36 = .ok (.aload_n 0, 1) := by decide +kernel
theorem d_PR_init_37 : decode b_PR_init 37 = .ok (.iconst 4, 1) := by decide +kernel
theorem d_PR_init_38 : decode b_PR_init 38 = .ok (.newarray .int, 2) := by decide +kernel
theorem d_PR_init_40 : decode b_PR_init 40 = .ok (.putfield 24, 3) := by decide +kernel
theorem d_PR_init_43 : decode b_PR_init 43 = .ok (.aload_n 0, 1) := by decide +kernel
theorem d_PR_init_44 : decode b_PR_init 44 = .ok (.iconst 4, 1) := by decide +kernel
theorem d_PR_init_45 : decode b_PR_init 45 = .ok (.newarray .int, 2) := by decide +kernel
theorem d_PR_init_47 : decode b_PR_init 47 = .ok (.putfield 27, 3) := by decide +kernel
theorem d_PR_init_50 : decode b_PR_init 50 = .ok (.aload_n 0, 1) := by decide +kernel
theorem d_PR_init_51 : decode b_PR_init 51 = .ok (.iconst 4, 1) := by decide +kernel
theorem d_PR_init_52 : decode b_PR_init 52 = .ok (.newarray .int, 2) := by decide +kernel
theorem d_PR_init_54 : decode b_PR_init 54 = .ok (.putfield 30, 3) := by decide +kernel
theorem d_PR_init_57 : decode b_PR_init 57 = .ok (.aload_n 0, 1) := by decide +kernel
theorem d_PR_init_58 : decode b_PR_init 58 = .ok (.getfield 24, 3) := by decide +kernel
theorem d_PR_init_61 : decode b_PR_init 61 = .ok (.iconst (-1), 1) := by decide +kernel
theorem d_PR_init_62 : decode b_PR_init 62 = .ok (.invokestatic 33, 3) := by decide +kernel
theorem d_PR_init_65 : decode b_PR_init 65 = .ok (.return_, 1) := by decide +kernel
theorem d_PR_has_0 : decode b_PR_has 0 = .ok (.iload_n 1, 1) := by decide +kernel
theorem d_PR_has_1 : decode b_PR_has 1 = .ok (.aload_n 0, 1) := by decide +kernel
theorem d_PR_has_2 : decode b_PR_has 2 = .ok (.getfield 39, 3) := by decide +kernel
theorem d_PR_has_5 : decode b_PR_has 5 = .ok (.invokestatic 43, 3) := by decide +kernel
theorem d_PR_has_8 : decode b_PR_has 8 = .ok (.ireturn, 1) := by decide +kernel
theorem d_PR_takes_0 : decode b_PR_takes 0 = .ok (.iload_n 1, 1) := by decide +kernel
theorem d_PR_takes_1 : decode b_PR_takes 1 = .ok (.bipush 18, 2) := by decide +kernel
theorem d_PR_takes_3 : decode b_PR_takes 3 = .ok (.invokestatic 43, 3) := by decide +kernel
theorem d_PR_takes_6 : decode b_PR_takes 6 = .ok (.ifCond .eq 47, 3) := by decide +kernel
theorem d_PR_takes_9 : decode b_PR_takes 9 = .ok (.aload_n 0, 1) := by decide +kernel
theorem d_PR_takes_10 : decode b_PR_takes 10 = .ok (.iload_n 2, 1) := by decide +kernel
theorem d_PR_takes_11 : decode b_PR_takes 11 = .ok (.getstatic 47, 3) := by decide +kernel
theorem d_PR_takes_14 : decode b_PR_takes 14 = .ok (.iload_n 1, 1) := by decide +kernel
theorem d_PR_takes_15 : decode b_PR_takes 15 = .ok (.iaload, 1) := by decide +kernel
theorem d_PR_takes_16 : decode b_PR_takes 16 = .ok (.invokevirtual 50, 3) := by decide +kernel
theorem d_PR_takes_19 : decode b_PR_takes 19 = .ok (.ifCond .eq 34, 3) := by decide +kernel
theorem d_PR_takes_22 : decode b_PR_takes 22 = .ok (.aload_n 0, 1) := by decide +kernel
theorem d_PR_takes_23 : decode b_PR_takes 23 = .ok (.iload_n 3, 1) := by decide +kernel
theorem d_PR_takes_24 : decode b_PR_takes 24 = .ok (.getstatic 53, 3) := by decide +kernel
theorem d_PR_takes_27 : decode b_PR_takes 27 = .ok (.iload_n 1, 1) := by decide +kernel
theorem d_PR_takes_28 : decode b_PR_takes 28 = .ok (.iaload, 1) := by decide +kernel
theorem d_PR_takes_29 : decode b_PR_takes 29 = .ok (.invokevirtual 50, 3) := by decide +kernel
theorem d_PR_takes_32 : decode b_PR_takes 32 = .ok (.ifCond .eq 21, 3) := by decide +kernel
theorem d_PR_takes_35 : decode b_PR_takes 35 = .ok (.aload_n 0, 1) := by decide +kernel
theorem d_PR_takes_36 : decode b_PR_takes 36 = .ok (.iload 4, 2) := by decide +kernel
theorem d_PR_takes_38 : decode b_PR_takes 38 = .ok (.getstatic 56, 3) := by decide +kernel
theorem d_PR_takes_41 : decode b_PR_takes 41 = .ok (.iload_n 1, 1) := by decide +kernel
theorem d_PR_takes_42 : decode b_PR_takes 42 = .ok (.iaload, 1) := by decide +kernel
theorem d_PR_takes_43 : decode b_PR_takes 43 = .ok (.invokevirtual 50, 3) := by decide +kernel
theorem d_PR_takes_46 : decode b_PR_takes 46 = .ok (.ifCond .eq 7, 3) := by decide +kernel
theorem d_PR_takes_49 : decode b_PR_takes 49 = .ok (.iconst 1, 1) := by decide +kernel
theorem d_PR_takes_50 : decode b_PR_takes 50 = .ok (.goto 4, 3) := by decide +kernel
theorem d_PR_takes_53 : decode b_PR_takes 53 = .ok (.iconst 0, 1) := by decide +kernel
theorem d_PR_takes_54 : decode b_PR_takes 54 = .ok (.ireturn, 1) := by decide +kernel
theorem d_PR_fits_0 : decode b_PR_fits 0 = .ok (.iload_n 2, 1) := by decide +kernel
theorem d_PR_fits_1 : decode b_PR_fits 1 = .ok (.tableswitch 58 (-3) 0 #[39, 33, 31, 31], 31) := by decide +kernel
theorem d_PR_fits_32 : decode b_PR_fits 32 = .ok (.iconst 1, 1) := by decide +kernel
theorem d_PR_fits_33 : decode b_PR_fits 33 = .ok (.ireturn, 1) := by decide +kernel
theorem d_PR_fits_34 : decode b_PR_fits 34 = .ok (.aload_n 0, 1) := by decide +kernel
theorem d_PR_fits_35 : decode b_PR_fits 35 = .ok (.iload_n 1, 1) := by decide +kernel
theorem d_PR_fits_36 : decode b_PR_fits 36 = .ok (.invokevirtual 59, 3) := by decide +kernel
theorem d_PR_fits_39 : decode b_PR_fits 39 = .ok (.ireturn, 1) := by decide +kernel
theorem d_PR_fits_40 : decode b_PR_fits 40 = .ok (.iload_n 1, 1) := by decide +kernel
theorem d_PR_fits_41 : decode b_PR_fits 41 = .ok (.iconst (-1), 1) := by decide +kernel
theorem d_PR_fits_42 : decode b_PR_fits 42 = .ok (.if_icmp .eq 11, 3) := by decide +kernel
theorem d_PR_fits_45 : decode b_PR_fits 45 = .ok (.aload_n 0, 1) := by decide +kernel
theorem d_PR_fits_46 : decode b_PR_fits 46 = .ok (.iload_n 1, 1) := by decide +kernel
theorem d_PR_fits_47 : decode b_PR_fits 47 = .ok (.invokevirtual 59, 3) := by decide +kernel
theorem d_PR_fits_50 : decode b_PR_fits 50 = .ok (.ifCond .eq 7, 3) := by decide +kernel
theorem d_PR_fits_53 : decode b_PR_fits 53 = .ok (.iconst 1, 1) := by decide +kernel
theorem d_PR_fits_54 : decode b_PR_fits 54 = .ok (.goto 4, 3) := by decide +kernel
theorem d_PR_fits_57 : decode b_PR_fits 57 = .ok (.iconst 0, 1) := by decide +kernel
theorem d_PR_fits_58 : decode b_PR_fits 58 = .ok (.ireturn, 1) := by decide +kernel
theorem d_PR_fits_59 : decode b_PR_fits 59 = .ok (.iload_n 1, 1) := by decide +kernel
theorem d_PR_fits_60 : decode b_PR_fits 60 = .ok (.iload_n 2, 1) := by decide +kernel
theorem d_PR_fits_61 : decode b_PR_fits 61 = .ok (.invokestatic 43, 3) := by decide +kernel
theorem d_PR_fits_64 : decode b_PR_fits 64 = .ok (.ireturn, 1) := by decide +kernel
theorem d_PR_add_0 : decode b_PR_add 0 = .ok (.aload_n 0, 1) := by decide +kernel
theorem d_PR_add_1 : decode b_PR_add 1 = .ok (.getfield 9, 3) := by decide +kernel
theorem d_PR_add_4 : decode b_PR_add 4 = .ok (.aload_n 0, 1) := by decide +kernel
theorem d_PR_add_5 : decode b_PR_add 5 = .ok (.getfield 39, 3) := by decide +kernel
theorem d_PR_add_8 : decode b_PR_add 8 = .ok (.iload_n 1, 1) := by decide +kernel
theorem d_PR_add_9 : decode b_PR_add 9 = .ok (.iastore, 1) := by decide +kernel
theorem d_PR_add_10 : decode b_PR_add 10 = .ok (.aload_n 0, 1) := by decide +kernel
theorem d_PR_add_11 : decode b_PR_add 11 = .ok (.getfield 15, 3) := by decide +kernel
theorem d_PR_add_14 : decode b_PR_add 14 = .ok (.aload_n 0, 1) := by decide +kernel
theorem d_PR_add_15 : decode b_PR_add 15 = .ok (.getfield 39, 3) := by decide +kernel
theorem d_PR_add_18 : decode b_PR_add 18 = .ok (.iload_n 2, 1) := by decide +kernel
theorem d_PR_add_19 : decode b_PR_add 19 = .ok (.iastore, 1) := by decide +kernel
theorem d_PR_add_20 : decode b_PR_add 20 = .ok (.aload_n 0, 1) := by decide +kernel
theorem d_PR_add_21 : decode b_PR_add 21 = .ok (.getfield 18, 3) := by decide +kernel
theorem d_PR_add_24 : decode b_PR_add 24 = .ok (.aload_n 0, 1) := by decide +kernel
theorem d_PR_add_25 : decode b_PR_add 25 = .ok (.getfield 39, 3) := by decide +kernel
theorem d_PR_add_28 : decode b_PR_add 28 = .ok (.getstatic 53, 3) := by decide +kernel
theorem d_PR_add_31 : decode b_PR_add 31 = .ok (.iload_n 1, 1) := by decide +kernel
theorem d_PR_add_32 : decode b_PR_add 32 = .ok (.iaload, 1) := by decide +kernel
theorem d_PR_add_33 : decode b_PR_add 33 = .ok (.ifCond .ne 7, 3) := by decide +kernel
theorem d_PR_add_36 : decode b_PR_add 36 = .ok (.iconst (-1), 1) := by decide +kernel
theorem d_PR_add_37 : decode b_PR_add 37 = .ok (.goto 4, 3) := by decide +kernel
theorem d_PR_add_40 : decode b_PR_add 40 = .ok (.iload_n 3, 1) := by decide +kernel
theorem d_PR_add_41 : decode b_PR_add 41 = .ok (.iastore, 1) := by decide +kernel
theorem d_PR_add_42 : decode b_PR_add 42 = .ok (.aload_n 0, 1) := by decide +kernel
theorem d_PR_add_43 : decode b_PR_add 43 = .ok (.getfield 21, 3) := by decide +kernel
theorem d_PR_add_46 : decode b_PR_add 46 = .ok (.aload_n 0, 1) := by decide +kernel
theorem d_PR_add_47 : decode b_PR_add 47 = .ok (.getfield 39, 3) := by decide +kernel
theorem d_PR_add_50 : decode b_PR_add 50 = .ok (.getstatic 56, 3) := by decide +kernel
theorem d_PR_add_53 : decode b_PR_add 53 = .ok (.iload_n 1, 1) := by decide +kernel
theorem d_PR_add_54 : decode b_PR_add 54 = .ok (.iaload, 1) := by decide +kernel
theorem d_PR_add_55 : decode b_PR_add 55 = .ok (.ifCond .ne 7, 3) := by decide +kernel
theorem d_PR_add_58 : decode b_PR_add 58 = .ok (.iconst (-1), 1) := by decide +kernel
theorem d_PR_add_59 : decode b_PR_add 59 = .ok (.goto 5, 3) := by decide +kernel
theorem d_PR_add_62 : decode b_PR_add 62 = .ok (.iload 4, 2) := by decide +kernel
theorem d_PR_add_64 : decode b_PR_add 64 = .ok (.iastore, 1) := by decide +kernel
theorem d_PR_add_65 : decode b_PR_add 65 = .ok (.aload_n 0, 1) := by decide +kernel
theorem d_PR_add_66 : decode b_PR_add 66 = .ok (.dup, 1) := by decide +kernel
theorem d_PR_add_67 : decode b_PR_add 67 = .ok (.getfield 39, 3) := by decide +kernel
theorem d_PR_add_70 : decode b_PR_add 70 = .ok (.iconst 1, 1) := by decide +kernel
theorem d_PR_add_71 : decode b_PR_add 71 = .ok (.iadd, 1) := by decide +kernel
theorem d_PR_add_72 : decode b_PR_add 72 = .ok (.putfield 39, 3) := by decide +kernel
theorem d_PR_add_75 : decode b_PR_add 75 = .ok (.aload_n 0, 1) := by decide +kernel
theorem d_PR_add_76 : decode b_PR_add 76 = .ok (.getfield 39, 3) := by decide +kernel
theorem d_PR_add_79 : decode b_PR_add 79 = .ok (.iconst 1, 1) := by decide +kernel
theorem d_PR_add_80 : decode b_PR_add 80 = .ok (.isub, 1) := by decide +kernel
theorem d_PR_add_81 : decode b_PR_add 81 = .ok (.ireturn, 1) := by decide +kernel
theorem d_PR_define_0 : decode b_PR_define 0 = .ok (.aload_n 0, 1) := by decide +kernel
theorem d_PR_define_1 : decode b_PR_define 1 = .ok (.getfield 24, 3) := by decide +kernel
theorem d_PR_define_4 : decode b_PR_define 4 = .ok (.iload_n 1, 1) := by decide +kernel
theorem d_PR_define_5 : decode b_PR_define 5 = .ok (.iload_n 2, 1) := by decide +kernel
theorem d_PR_define_6 : decode b_PR_define 6 = .ok (.iastore, 1) := by decide +kernel
theorem d_PR_define_7 : decode b_PR_define 7 = .ok (.aload_n 0, 1) := by decide +kernel
theorem d_PR_define_8 : decode b_PR_define 8 = .ok (.getfield 27, 3) := by decide +kernel
theorem d_PR_define_11 : decode b_PR_define 11 = .ok (.iload_n 1, 1) := by decide +kernel
theorem d_PR_define_12 : decode b_PR_define 12 = .ok (.iload_n 3, 1) := by decide +kernel
theorem d_PR_define_13 : decode b_PR_define 13 = .ok (.iastore, 1) := by decide +kernel
theorem d_PR_define_14 : decode b_PR_define 14 = .ok (.aload_n 0, 1) := by decide +kernel
theorem d_PR_define_15 : decode b_PR_define 15 = .ok (.getfield 30, 3) := by decide +kernel
theorem d_PR_define_18 : decode b_PR_define 18 = .ok (.iload_n 1, 1) := by decide +kernel
theorem d_PR_define_19 : decode b_PR_define 19 = .ok (.iload 4, 2) := by decide +kernel
theorem d_PR_define_21 : decode b_PR_define 21 = .ok (.iastore, 1) := by decide +kernel
theorem d_PR_define_22 : decode b_PR_define 22 = .ok (.return_, 1) := by decide +kernel
theorem d_PR_empty_0 : decode b_PR_empty 0 = .ok (.aload_n 0, 1) := by decide +kernel
theorem d_PR_empty_1 : decode b_PR_empty 1 = .ok (.iconst 0, 1) := by decide +kernel
theorem d_PR_empty_2 : decode b_PR_empty 2 = .ok (.putfield 39, 3) := by decide +kernel
theorem d_PR_empty_5 : decode b_PR_empty 5 = .ok (.aload_n 0, 1) := by decide +kernel
theorem d_PR_empty_6 : decode b_PR_empty 6 = .ok (.getfield 24, 3) := by decide +kernel
theorem d_PR_empty_9 : decode b_PR_empty 9 = .ok (.iconst (-1), 1) := by decide +kernel
theorem d_PR_empty_10 : decode b_PR_empty 10 = .ok (.invokestatic 33, 3) := by decide +kernel
theorem d_PR_empty_13 : decode b_PR_empty 13 = .ok (.return_, 1) := by decide +kernel
theorem d_PR_canBeSet_0 : decode b_PR_canBeSet 0 = .ok (.aload_n 0, 1) := by decide +kernel
theorem d_PR_canBeSet_1 : decode b_PR_canBeSet 1 = .ok (.getfield 9, 3) := by decide +kernel
theorem d_PR_canBeSet_4 : decode b_PR_canBeSet 4 = .ok (.iload_n 1, 1) := by decide +kernel
theorem d_PR_canBeSet_5 : decode b_PR_canBeSet 5 = .ok (.iaload, 1) := by decide +kernel
theorem d_PR_canBeSet_6 : decode b_PR_canBeSet 6 = .ok (.istore_n 2, 1) := by decide +kernel
theorem d_PR_canBeSet_7 : decode b_PR_canBeSet 7 = .ok (.iload_n 2, 1) := by decide +kernel
theorem d_PR_canBeSet_8 : decode b_PR_canBeSet 8 = .ok (.iconst 1, 1) := by decide +kernel
theorem d_PR_canBeSet_9 : decode b_PR_canBeSet 9 = .ok (.if_icmp .eq 20, 3) := by decide +kernel
theorem d_PR_canBeSet_12 : decode b_PR_canBeSet 12 = .ok (.iload_n 2, 1) := by decide +kernel
theorem d_PR_canBeSet_13 : decode b_PR_canBeSet 13 = .ok (.iconst 2, 1) := by decide +kernel
theorem d_PR_canBeSet_14 : decode b_PR_canBeSet 14 = .ok (.if_icmp .eq 15, 3) := by decide +kernel
theorem d_PR_canBeSet_17 : decode b_PR_canBeSet 17 = .ok (.iload_n 2, 1) := by decide +kernel
theorem d_PR_canBeSet_18 : decode b_PR_canBeSet 18 = .ok (.bipush 11, 2) := by decide +kernel
theorem d_PR_canBeSet_20 : decode b_PR_canBeSet 20 = .ok (.if_icmp .eq 9, 3) := by decide +kernel
theorem d_PR_canBeSet_23 : decode b_PR_canBeSet 23 = .ok (.iload_n 2, 1) := by decide +kernel
theorem d_PR_canBeSet_24 : decode b_PR_canBeSet 24 = .ok (.bipush 10, 2) := by decide +kernel
theorem d_PR_canBeSet_26 : decode b_PR_canBeSet 26 = .ok (.if_icmp .ne 7, 3) := by decide +kernel
theorem d_PR_canBeSet_29 : decode b_PR_canBeSet 29 = .ok (.iconst 1, 1) := by decide +kernel
theorem d_PR_canBeSet_30 : decode b_PR_canBeSet 30 = .ok (.goto 4, 3) := by decide +kernel
theorem d_PR_canBeSet_33 : decode b_PR_canBeSet 33 = .ok (.iconst 0, 1) := by decide +kernel
theorem d_PR_canBeSet_34 : decode b_PR_canBeSet 34 = .ok (.ireturn, 1) := by decide +kernel
theorem d_PR_canBeCalled_0 : decode b_PR_canBeCalled 0 = .ok (.aload_n 0, 1) := by decide +kernel
theorem d_PR_canBeCalled_1 : decode b_PR_canBeCalled 1 = .ok (.getfield 15, 3) := by decide +kernel
theorem d_PR_canBeCalled_4 : decode b_PR_canBeCalled 4 = .ok (.iload_n 1, 1) := by decide +kernel
theorem d_PR_canBeCalled_5 : decode b_PR_canBeCalled 5 = .ok (.iaload, 1) := by decide +kernel
theorem d_PR_canBeCalled_6 : decode b_PR_canBeCalled 6 = .ok (.istore_n 2, 1) := by decide +kernel
theorem d_PR_canBeCalled_7 : decode b_PR_canBeCalled 7 = .ok (.aload_n 0, 1) := by decide +kernel
theorem d_PR_canBeCalled_8 : decode b_PR_canBeCalled 8 = .ok (.getfield 24, 3) := by decide +kernel
theorem d_PR_canBeCalled_11 : decode b_PR_canBeCalled 11 = .ok (.iload_n 2, 1) := by decide +kernel
theorem d_PR_canBeCalled_12 : decode b_PR_canBeCalled 12 = .ok (.iaload, 1) := by decide +kernel
theorem d_PR_canBeCalled_13 : decode b_PR_canBeCalled 13 = .ok (.iconst (-1), 1) := by decide +kernel
theorem d_PR_canBeCalled_14 : decode b_PR_canBeCalled 14 = .ok (.if_icmp .eq 47, 3) := by decide +kernel
theorem d_PR_canBeCalled_17 : decode b_PR_canBeCalled 17 = .ok (.aload_n 0, 1) := by decide +kernel
theorem d_PR_canBeCalled_18 : decode b_PR_canBeCalled 18 = .ok (.getfield 27, 3) := by decide +kernel
theorem d_PR_canBeCalled_21 : decode b_PR_canBeCalled 21 = .ok (.iload_n 2, 1) := by decide +kernel
theorem d_PR_canBeCalled_22 : decode b_PR_canBeCalled 22 = .ok (.iaload, 1) := by decide +kernel
theorem d_PR_canBeCalled_23 : decode b_PR_canBeCalled 23 = .ok (.iconst 1, 1) := by decide +kernel
theorem d_PR_canBeCalled_24 : decode b_PR_canBeCalled 24 = .ok (.if_icmp .lt 13, 3) := by decide +kernel
theorem d_PR_canBeCalled_27 : decode b_PR_canBeCalled 27 = .ok (.aload_n 0, 1) := by decide +kernel
theorem d_PR_canBeCalled_28 : decode b_PR_canBeCalled 28 = .ok (.getfield 18, 3) := by decide +kernel
theorem d_PR_canBeCalled_31 : decode b_PR_canBeCalled 31 = .ok (.iload_n 1, 1) := by decide +kernel
theorem d_PR_canBeCalled_32 : decode b_PR_canBeCalled 32 = .ok (.iaload, 1) := by decide +kernel
theorem d_PR_canBeCalled_33 : decode b_PR_canBeCalled 33 = .ok (.iconst (-1), 1) := by decide +kernel
theorem d_PR_canBeCalled_34 : decode b_PR_canBeCalled 34 = .ok (.if_icmp .eq 27, 3) := by decide +kernel
theorem d_PR_canBeCalled_37 : decode b_PR_canBeCalled 37 = .ok (.aload_n 0, 1) := by decide +kernel
theorem d_PR_canBeCalled_38 : decode b_PR_canBeCalled 38 = .ok (.getfield 27, 3) := by decide +kernel
theorem d_PR_canBeCalled_41 : decode b_PR_canBeCalled 41 = .ok (.iload_n 2, 1) := by decide +kernel
theorem d_PR_canBeCalled_42 : decode b_PR_canBeCalled 42 = .ok (.iaload, 1) := by decide +kernel
theorem d_PR_canBeCalled_43 : decode b_PR_canBeCalled 43 = .ok (.iconst 2, 1) := by decide +kernel
theorem d_PR_canBeCalled_44 : decode b_PR_canBeCalled 44 = .ok (.if_icmp .lt 13, 3) := by decide +kernel
theorem d_PR_canBeCalled_47 : decode b_PR_canBeCalled 47 = .ok (.aload_n 0, 1) := by decide +kernel
theorem d_PR_canBeCalled_48 : decode b_PR_canBeCalled 48 = .ok (.getfield 21, 3) := by decide +kernel
theorem d_PR_canBeCalled_51 : decode b_PR_canBeCalled 51 = .ok (.iload_n 1, 1) := by decide +kernel
theorem d_PR_canBeCalled_52 : decode b_PR_canBeCalled 52 = .ok (.iaload, 1) := by decide +kernel
theorem d_PR_canBeCalled_53 : decode b_PR_canBeCalled 53 = .ok (.iconst (-1), 1) := by decide +kernel
theorem d_PR_canBeCalled_54 : decode b_PR_canBeCalled 54 = .ok (.if_icmp .eq 7, 3) := by decide +kernel
theorem d_PR_canBeCalled_57 : decode b_PR_canBeCalled 57 = .ok (.iconst 1, 1) := by decide +kernel
theorem d_PR_canBeCalled_58 : decode b_PR_canBeCalled 58 = .ok (.goto 4, 3) := by decide +kernel
theorem d_PR_canBeCalled_61 : decode b_PR_canBeCalled 61 = .ok (.iconst 0, 1) := by decide +kernel
theorem d_PR_canBeCalled_62 : decode b_PR_canBeCalled 62 = .ok (.ireturn, 1) := by decide +kernel
theorem d_PR_isByValue_0 : decode b_PR_isByValue 0 = .ok (.iload_n 2, 1) := by decide +kernel
theorem d_PR_isByValue_1 : decode b_PR_isByValue 1 = .ok (.aload_n 0, 1) := by decide +kernel
theorem d_PR_isByValue_2 : decode b_PR_isByValue 2 = .ok (.getfield 27, 3) := by decide +kernel
theorem d_PR_isByValue_5 : decode b_PR_isByValue 5 = .ok (.iload_n 1, 1) := by decide +kernel
theorem d_PR_isByValue_6 : decode b_PR_isByValue 6 = .ok (.iaload, 1) := by decide +kernel
theorem d_PR_isByValue_7 : decode b_PR_isByValue 7 = .ok (.if_icmp .ge 20, 3) := by decide +kernel
theorem d_PR_isByValue_10 : decode b_PR_isByValue 10 = .ok (.aload_n 0, 1) := by decide +kernel
theorem d_PR_isByValue_11 : decode b_PR_isByValue 11 = .ok (.getfield 30, 3) := by decide +kernel
theorem d_PR_isByValue_14 : decode b_PR_isByValue 14 = .ok (.iload_n 1, 1) := by decide +kernel
theorem d_PR_isByValue_15 : decode b_PR_isByValue 15 = .ok (.iaload, 1) := by decide +kernel
theorem d_PR_isByValue_16 : decode b_PR_isByValue 16 = .ok (.iload_n 2, 1) := by decide +kernel
theorem d_PR_isByValue_17 : decode b_PR_isByValue 17 = .ok (.ishr, 1) := by decide +kernel
theorem d_PR_isByValue_18 : decode b_PR_isByValue 18 = .ok (.iconst 1, 1) := by decide +kernel
theorem d_PR_isByValue_19 : decode b_PR_isByValue 19 = .ok (.iand, 1) := by decide +kernel
theorem d_PR_isByValue_20 : decode b_PR_isByValue 20 = .ok (.ifCond .ne 7, 3) := by decide +kernel
theorem d_PR_isByValue_23 : decode b_PR_isByValue 23 = .ok (.iconst 1, 1) := by decide +kernel
theorem d_PR_isByValue_24 : decode b_PR_isByValue 24 = .ok (.goto 4, 3) := by decide +kernel
theorem d_PR_isByValue_27 : decode b_PR_isByValue 27 = .ok (.iconst 0, 1) := by decide +kernel
theorem d_PR_isByValue_28 : decode b_PR_isByValue 28 = .ok (.ireturn, 1) := by decide +kernel
theorem d_ST_init_0 : decode b_ST_init 0 = .ok (.aload_n 0, 1) := by decide +kernel
theorem d_ST_init_1 : decode b_ST_init 1 = .ok (.invokespecial 3, 3) := by decide +kernel
theorem d_ST_init_4 : decode b_ST_init 4 = .ok (.aload_n 0, 1) := by decide +kernel
theorem d_ST_init_5 : decode b_ST_init 5 = .ok (.bipush 8, 2) := by decide +kernel
theorem d_ST_init_7 : decode b_ST_init 7 = .ok (.newarray .double, 2) := by decide +kernel
theorem d_ST_init_9 : decode b_ST_init 9 = .ok (.putfield 9, 3) := by decide +kernel
theorem d_ST_init_12 : decode b_ST_init 12 = .ok (.aload_n 0, 1) := by decide +kernel
theorem d_ST_init_13 : decode b_ST_init 13 = .ok (.bipush 25, 2) := by decide +kernel
theorem d_ST_init_15 : decode b_ST_init 15 = .ok (.newarray .double, 2) := by decide +kernel
theorem d_ST_init_17 : decode b_ST_init 17 = .ok (.putfield 15, 3) := by decide +kernel
theorem d_ST_init_20 : decode b_ST_init 20 = .ok (.aload_n 0, 1) := by decide +kernel
theorem d_ST_init_21 : decode b_ST_init 21 = .ok (.iconst 1, 1) := by decide +kernel
theorem d_ST_init_22 : decode b_ST_init 22 = .ok (.putfield 18, 3) := by decide +kernel
theorem d_ST_init_25 : decode b_ST_init 25 = .ok (.aload_n 0, 1) := by decide +kernel
theorem d_ST_init_26 : decode b_ST_init 26 = .ok (.iconst 1, 1) := by decide +kernel
theorem d_ST_init_27 : decode b_ST_init 27 = .ok (.putfield 22, 3) := by decide +kernel
theorem d_ST_init_30 : decode b_ST_init 30 = .ok (.aload_n 0, 1) := by decide +kernel
theorem d_ST_init_31 : decode b_ST_init 31 = .ok (.iconst 1, 1) := by decide +kernel
theorem d_ST_init_32 : decode b_ST_init 32 = .ok (.putfield 25, 3) := by decide +kernel
theorem d_ST_init_35 : decode b_ST_init 35 = .ok (.aload_n 0, 1) := by decide +kernel
theorem d_ST_init_36 : decode b_ST_init 36 = .ok (.iconst 1, 1) := by decide +kernel
theorem d_ST_init_37 : decode b_ST_init 37 = .ok (.putfield 28, 3) := by decide +kernel
theorem d_ST_init_40 : decode b_ST_init 40 = .ok (.return_, 1) := by decide +kernel
theorem d_ST_lay_0 : decode b_ST_lay 0 = .ok (.aload_n 0, 1) := by decide +kernel
theorem d_ST_lay_1 : decode b_ST_lay 1 = .ok (.iload_n 1, 1) := by decide +kernel
theorem d_ST_lay_2 : decode b_ST_lay 2 = .ok (.putfield 18, 3) := by decide +kernel
theorem d_ST_lay_5 : decode b_ST_lay 5 = .ok (.aload_n 0, 1) := by decide +kernel
theorem d_ST_lay_6 : decode b_ST_lay 6 = .ok (.iload_n 2, 1) := by decide +kernel
theorem d_ST_lay_7 : decode b_ST_lay 7 = .ok (.putfield 22, 3) := by decide +kernel
theorem d_ST_lay_10 : decode b_ST_lay 10 = .ok (.aload_n 0, 1) := by decide +kernel
theorem d_ST_lay_11 : decode b_ST_lay 11 = .ok (.iload_n 3, 1) := by decide +kernel
theorem d_ST_lay_12 : decode b_ST_lay 12 = .ok (.putfield 25, 3) := by decide +kernel
theorem d_ST_lay_15 : decode b_ST_lay 15 = .ok (.aload_n 0, 1) := by decide +kernel
theorem d_ST_lay_16 : decode b_ST_lay 16 = .ok (.iload 4, 2) := by decide +kernel
theorem d_ST_lay_18 : decode b_ST_lay 18 = .ok (.putfield 28, 3) := by decide +kernel
theorem d_ST_lay_21 : decode b_ST_lay 21 = .ok (.aload_n 0, 1) := by decide +kernel
theorem d_ST_lay_22 : decode b_ST_lay 22 = .ok (.getfield 15, 3) := by decide +kernel
theorem d_ST_lay_25 : decode b_ST_lay 25 = .ok (.dconst 0, 1) := by decide +kernel
theorem d_ST_lay_26 : decode b_ST_lay 26 = .ok (.invokestatic 31, 3) := by decide +kernel
theorem d_ST_lay_29 : decode b_ST_lay 29 = .ok (.return_, 1) := by decide +kernel
theorem d_ST_size_0 : decode b_ST_size 0 = .ok (.aload_n 0, 1) := by decide +kernel
theorem d_ST_size_1 : decode b_ST_size 1 = .ok (.getfield 22, 3) := by decide +kernel
theorem d_ST_size_4 : decode b_ST_size 4 = .ok (.aload_n 0, 1) := by decide +kernel
theorem d_ST_size_5 : decode b_ST_size 5 = .ok (.getfield 18, 3) := by decide +kernel
theorem d_ST_size_8 : decode b_ST_size 8 = .ok (.isub, 1) := by decide +kernel
theorem d_ST_size_9 : decode b_ST_size 9 = .ok (.iconst 1, 1) := by decide +kernel
theorem d_ST_size_10 : decode b_ST_size 10 = .ok (.iadd, 1) := by decide +kernel
theorem d_ST_size_11 : decode b_ST_size 11 = .ok (.aload_n 0, 1) := by decide +kernel
theorem d_ST_size_12 : decode b_ST_size 12 = .ok (.getfield 28, 3) := by decide +kernel
theorem d_ST_size_15 : decode b_ST_size 15 = .ok (.aload_n 0, 1) := by decide +kernel
theorem d_ST_size_16 : decode b_ST_size 16 = .ok (.getfield 25, 3) := by decide +kernel
theorem d_ST_size_19 : decode b_ST_size 19 = .ok (.isub, 1) := by decide +kernel
theorem d_ST_size_20 : decode b_ST_size 20 = .ok (.iconst 1, 1) := by decide +kernel
theorem d_ST_size_21 : decode b_ST_size 21 = .ok (.iadd, 1) := by decide +kernel
theorem d_ST_size_22 : decode b_ST_size 22 = .ok (.imul, 1) := by decide +kernel
theorem d_ST_size_23 : decode b_ST_size 23 = .ok (.ireturn, 1) := by decide +kernel
theorem d_ST_holds_0 : decode b_ST_holds 0 = .ok (.lload_n 1, 1) := by decide +kernel
theorem d_ST_holds_1 : decode b_ST_holds 1 = .ok (.aload_n 0, 1) := by decide +kernel
theorem d_ST_holds_2 : decode b_ST_holds 2 = .ok (.getfield 18, 3) := by decide +kernel
theorem d_ST_holds_5 : decode b_ST_holds 5 = .ok (.i2l, 1) := by decide +kernel
theorem d_ST_holds_6 : decode b_ST_holds 6 = .ok (.lcmp, 1) := by decide +kernel
theorem d_ST_holds_7 : decode b_ST_holds 7 = .ok (.ifCond .lt 37, 3) := by decide +kernel
theorem d_ST_holds_10 : decode b_ST_holds 10 = .ok (.lload_n 1, 1) := by decide +kernel
theorem d_ST_holds_11 : decode b_ST_holds 11 = .ok (.aload_n 0, 1) := by decide +kernel
theorem d_ST_holds_12 : decode b_ST_holds 12 = .ok (.getfield 22, 3) := by decide +kernel
theorem d_ST_holds_15 : decode b_ST_holds 15 = .ok (.i2l, 1) := by decide +kernel
theorem d_ST_holds_16 : decode b_ST_holds 16 = .ok (.lcmp, 1) := by decide +kernel
theorem d_ST_holds_17 : decode b_ST_holds 17 = .ok (.ifCond .gt 27, 3) := by decide +kernel
theorem d_ST_holds_20 : decode b_ST_holds 20 = .ok (.lload_n 3, 1) := by decide +kernel
theorem d_ST_holds_21 : decode b_ST_holds 21 = .ok (.aload_n 0, 1) := by decide +kernel
theorem d_ST_holds_22 : decode b_ST_holds 22 = .ok (.getfield 25, 3) := by decide +kernel
theorem d_ST_holds_25 : decode b_ST_holds 25 = .ok (.i2l, 1) := by decide +kernel
theorem d_ST_holds_26 : decode b_ST_holds 26 = .ok (.lcmp, 1) := by decide +kernel
theorem d_ST_holds_27 : decode b_ST_holds 27 = .ok (.ifCond .lt 17, 3) := by decide +kernel
theorem d_ST_holds_30 : decode b_ST_holds 30 = .ok (.lload_n 3, 1) := by decide +kernel
theorem d_ST_holds_31 : decode b_ST_holds 31 = .ok (.aload_n 0, 1) := by decide +kernel
theorem d_ST_holds_32 : decode b_ST_holds 32 = .ok (.getfield 28, 3) := by decide +kernel
theorem d_ST_holds_35 : decode b_ST_holds 35 = .ok (.i2l, 1) := by decide +kernel
theorem d_ST_holds_36 : decode b_ST_holds 36 = .ok (.lcmp, 1) := by decide +kernel
theorem d_ST_holds_37 : decode b_ST_holds 37 = .ok (.ifCond .gt 7, 3) := by decide +kernel
theorem d_ST_holds_40 : decode b_ST_holds 40 = .ok (.iconst 1, 1) := by decide +kernel
theorem d_ST_holds_41 : decode b_ST_holds 41 = .ok (.goto 4, 3) := by decide +kernel
theorem d_ST_holds_44 : decode b_ST_holds 44 = .ok (.iconst 0, 1) := by decide +kernel
theorem d_ST_holds_45 : decode b_ST_holds 45 = .ok (.ireturn, 1) := by decide +kernel
theorem d_ST_place_0 : decode b_ST_place 0 = .ok (.lload_n 1, 1) := by decide +kernel
theorem d_ST_place_1 : decode b_ST_place 1 = .ok (.aload_n 0, 1) := by decide +kernel
theorem d_ST_place_2 : decode b_ST_place 2 = .ok (.getfield 18, 3) := by decide +kernel
theorem d_ST_place_5 : decode b_ST_place 5 = .ok (.i2l, 1) := by decide +kernel
theorem d_ST_place_6 : decode b_ST_place 6 = .ok (.lsub, 1) := by decide +kernel
theorem d_ST_place_7 : decode b_ST_place 7 = .ok (.l2i, 1) := by decide +kernel
theorem d_ST_place_8 : decode b_ST_place 8 = .ok (.iconst 5, 1) := by decide +kernel
theorem d_ST_place_9 : decode b_ST_place 9 = .ok (.imul, 1) := by decide +kernel
theorem d_ST_place_10 : decode b_ST_place 10 = .ok (.lload_n 3, 1) := by decide +kernel
theorem d_ST_place_11 : decode b_ST_place 11 = .ok (.aload_n 0, 1) := by decide +kernel
theorem d_ST_place_12 : decode b_ST_place 12 = .ok (.getfield 25, 3) := by decide +kernel
theorem d_ST_place_15 : decode b_ST_place 15 = .ok (.i2l, 1) := by decide +kernel
theorem d_ST_place_16 : decode b_ST_place 16 = .ok (.lsub, 1) := by decide +kernel
theorem d_ST_place_17 : decode b_ST_place 17 = .ok (.l2i, 1) := by decide +kernel
theorem d_ST_place_18 : decode b_ST_place 18 = .ok (.iadd, 1) := by decide +kernel
theorem d_ST_place_19 : decode b_ST_place 19 = .ok (.ireturn, 1) := by decide +kernel
theorem d_ST_assign_0 : decode b_ST_assign 0 = .ok (.aload_n 0, 1) := by decide +kernel
theorem d_ST_assign_1 : decode b_ST_assign 1 = .ok (.getfield 9, 3) := by decide +kernel
theorem d_ST_assign_4 : decode b_ST_assign 4 = .ok (.iload_n 1, 1) := by decide +kernel
theorem d_ST_assign_5 : decode b_ST_assign 5 = .ok (.iload_n 1, 1) := by decide +kernel
theorem d_ST_assign_6 : decode b_ST_assign 6 = .ok (.iconst 4, 1) := by decide +kernel
theorem d_ST_assign_7 : decode b_ST_assign 7 = .ok (.if_icmp .ge 11, 3) := by decide +kernel
theorem d_ST_assign_10 : decode b_ST_assign 10 = .ok (.dload_n 2, 1) := by decide +kernel
theorem d_ST_assign_11 : decode b_ST_assign 11 = .ok (.invokestatic 37, 3) := by decide +kernel
theorem d_ST_assign_14 : decode b_ST_assign 14 = .ok (.l2d, 1) := by decide +kernel
theorem d_ST_assign_15 : decode b_ST_assign 15 = .ok (.goto 4, 3) := by decide +kernel
theorem d_ST_assign_18 : decode b_ST_assign 18 = .ok (.dload_n 2, 1) := by decide +kernel
theorem d_ST_assign_19 : decode b_ST_assign 19 = .ok (.dastore, 1) := by decide +kernel
theorem d_ST_assign_20 : decode b_ST_assign 20 = .ok (.aload_n 0, 1) := by decide +kernel
theorem d_ST_assign_21 : decode b_ST_assign 21 = .ok (.getfield 9, 3) := by decide +kernel
theorem d_ST_assign_24 : decode b_ST_assign 24 = .ok (.iload_n 1, 1) := by decide +kernel
theorem d_ST_assign_25 : decode b_ST_assign 25 = .ok (.daload, 1) := by decide +kernel
theorem d_ST_assign_26 : decode b_ST_assign 26 = .ok (.dreturn, 1) := by decide +kernel
theorem d_WK_init_0 : decode b_WK_init 0 = .ok (.aload_n 0, 1) := by decide +kernel
theorem d_WK_init_1 : decode b_WK_init 1 = .ok (.invokespecial 3, 3) := by decide +kernel
theorem d_WK_init_4 : decode b_WK_init 4 = .ok (.aload_n 0, 1) := by decide +kernel
theorem d_WK_init_5 : decode b_WK_init 5 = .ok (.new 9, 3) := by decide +kernel
theorem d_WK_init_8 : decode b_WK_init 8 = .ok (.dup, 1) := by decide +kernel
theorem d_WK_init_9 : decode b_WK_init 9 = .ok (.invokespecial 11, 3) := by decide +kernel
theorem d_WK_init_12 : decode b_WK_init 12 = .ok (.putfield 12, 3) := by decide +kernel
theorem d_WK_init_15 : decode b_WK_init 15 = .ok (.aload_n 0, 1) := by decide +kernel
theorem d_WK_init_16 : decode b_WK_init 16 = .ok (.bipush 8, 2) := by decide +kernel
theorem d_WK_init_18 : decode b_WK_init 18 = .ok (.anewarray 9, 3) := by decide +kernel
theorem d_WK_init_21 : decode b_WK_init 21 = .ok (.putfield 18, 3) := by decide +kernel
theorem d_WK_init_24 : decode b_WK_init 24 = .ok (.aload_n 0, 1) := by decide +kernel
theorem d_WK_init_25 : decode b_WK_init 25 = .ok (.iconst 4, 1) := by decide +kernel
theorem d_WK_init_26 : decode b_WK_init 26 = .ok (.newarray .int, 2) := by decide +kernel
theorem d_WK_init_28 : decode b_WK_init 28 = .ok (.putfield 22, 3) := by decide +kernel
theorem d_WK_init_31 : decode b_WK_init 31 = .ok (.aload_n 0, 1) := by decide +kernel
theorem d_WK_init_32 : decode b_WK_init 32 = .ok (.iconst (-1), 1) := by decide +kernel
theorem d_WK_init_33 : decode b_WK_init 33 = .ok (.putfield 26, 3) := by decide +kernel
theorem d_WK_init_36 : decode b_WK_init 36 = .ok (.aload_n 0, 1) := by decide +kernel
theorem d_WK_init_37 : decode b_WK_init 37 = .ok (.aload_n 1, 1) := by decide +kernel
theorem d_WK_init_38 : decode b_WK_init 38 = .ok (.putfield 30, 3) := by decide +kernel
theorem d_WK_init_41 : decode b_WK_init 41 = .ok (.aload_n 0, 1) := by decide +kernel
theorem d_WK_init_42 : decode b_WK_init 42 = .ok (.aload_n 2, 1) := by decide +kernel
theorem d_WK_init_43 : decode b_WK_init 43 = .ok (.putfield 34, 3) := by decide +kernel
theorem d_WK_init_46 : decode b_WK_init 46 = .ok (.iconst 0, 1) := by decide +kernel
theorem d_WK_init_47 : decode b_WK_init 47 = .ok (.istore_n 3, 1) := by decide +kernel
theorem d_WK_init_48 : decode b_WK_init 48 = .ok (.iload_n 3, 1) := by decide +kernel
theorem d_WK_init_49 : decode b_WK_init 49 = .ok (.bipush 8, 2) := by decide +kernel
theorem d_WK_init_51 : decode b_WK_init 51 = .ok (.if_icmp .ge 22, 3) := by decide +kernel
theorem d_WK_init_54 : decode b_WK_init 54 = .ok (.aload_n 0, 1) := by decide +kernel
theorem d_WK_init_55 : decode b_WK_init 55 = .ok (.getfield 18, 3) := by decide +kernel
theorem d_WK_init_58 : decode b_WK_init 58 = .ok (.iload_n 3, 1) := by decide +kernel
theorem d_WK_init_59 : decode b_WK_init 59 = .ok (.new 9, 3) := by decide +kernel
theorem d_WK_init_62 : decode b_WK_init 62 = .ok (.dup, 1) := by decide +kernel
theorem d_WK_init_63 : decode b_WK_init 63 = .ok (.invokespecial 11, 3) := by decide +kernel
theorem d_WK_init_66 : decode b_WK_init 66 = .ok (.aastore, 1) := by decide +kernel
theorem d_WK_init_67 : decode b_WK_init 67 = .ok (.iinc 3 1, 3) := by decide +kernel
theorem d_WK_init_70 : decode b_WK_init 70 = .ok (.goto (-22), 3) := by decide +kernel
theorem d_WK_init_73 : decode b_WK_init 73 = .ok (.return_, 1) := by decide +kernel
theorem d_WK_start_0 : decode b_WK_start 0 = .ok (.aload_n 0, 1) := by decide +kernel
theorem d_WK_start_1 : decode b_WK_start 1 = .ok (.iconst 0, 1) := by decide +kernel
theorem d_WK_start_2 : decode b_WK_start 2 = .ok (.putfield 38, 3) := by decide +kernel
theorem d_WK_start_5 : decode b_WK_start 5 = .ok (.aload_n 0, 1) := by decide +kernel
theorem d_WK_start_6 : decode b_WK_start 6 = .ok (.iconst 0, 1) := by decide +kernel
theorem d_WK_start_7 : decode b_WK_start 7 = .ok (.putfield 41, 3) := by decide +kernel
theorem d_WK_start_10 : decode b_WK_start 10 = .ok (.aload_n 0, 1) := by decide +kernel
theorem d_WK_start_11 : decode b_WK_start 11 = .ok (.iconst 0, 1) := by decide +kernel
theorem d_WK_start_12 : decode b_WK_start 12 = .ok (.putfield 44, 3) := by decide +kernel
theorem d_WK_start_15 : decode b_WK_start 15 = .ok (.aload_n 0, 1) := by decide +kernel
theorem d_WK_start_16 : decode b_WK_start 16 = .ok (.iconst 0, 1) := by decide +kernel
theorem d_WK_start_17 : decode b_WK_start 17 = .ok (.putfield 47, 3) := by decide +kernel
theorem d_WK_start_20 : decode b_WK_start 20 = .ok (.aload_n 0, 1) := by decide +kernel
theorem d_WK_start_21 : decode b_WK_start 21 = .ok (.iconst 0, 1) := by decide +kernel
theorem d_WK_start_22 : decode b_WK_start 22 = .ok (.putfield 50, 3) := by decide +kernel
theorem d_WK_start_25 : decode b_WK_start 25 = .ok (.aload_n 0, 1) := by decide +kernel
theorem d_WK_start_26 : decode b_WK_start 26 = .ok (.iload_n 1, 1) := by decide +kernel
theorem d_WK_start_27 : decode b_WK_start 27 = .ok (.aload_n 0, 1) := by decide +kernel
theorem d_WK_start_28 : decode b_WK_start 28 = .ok (.getfield 12, 3) := by decide +kernel
theorem d_WK_start_31 : decode b_WK_start 31 = .ok (.iconst 1, 1) := by decide +kernel
theorem d_WK_start_32 : decode b_WK_start 32 = .ok (.invokevirtual 53, 3) := by decide +kernel
theorem d_WK_start_35 : decode b_WK_start 35 = .ok (.dreturn, 1) := by decide +kernel
theorem d_WK_leaving_0 : decode b_WK_leaving 0 = .ok (.aload_n 0, 1) := by decide +kernel
theorem d_WK_leaving_1 : decode b_WK_leaving 1 = .ok (.getfield 41, 3) := by decide +kernel
theorem d_WK_leaving_4 : decode b_WK_leaving 4 = .ok (.ifCond .ne 11, 3) := by decide +kernel
theorem d_WK_leaving_7 : decode b_WK_leaving 7 = .ok (.aload_n 0, 1) := by decide +kernel
theorem d_WK_leaving_8 : decode b_WK_leaving 8 = .ok (.getfield 26, 3) := by decide +kernel
theorem d_WK_leaving_11 : decode b_WK_leaving 11 = .ok (.iconst (-1), 1) := by decide +kernel
theorem d_WK_leaving_12 : decode b_WK_leaving 12 = .ok (.if_icmp .eq 7, 3) := by decide +kernel
theorem d_WK_leaving_15 : decode b_WK_leaving 15 = .ok (.iconst 1, 1) := by decide +kernel
theorem d_WK_leaving_16 : decode b_WK_leaving 16 = .ok (.goto 4, 3) := by decide +kernel
theorem d_WK_leaving_19 : decode b_WK_leaving 19 = .ok (.iconst 0, 1) := by decide +kernel
theorem d_WK_leaving_20 : decode b_WK_leaving 20 = .ok (.ireturn, 1) := by decide +kernel
theorem d_WK_fail_0 : decode b_WK_fail 0 = .ok (.aload_n 0, 1) := by decide +kernel
theorem d_WK_fail_1 : decode b_WK_fail 1 = .ok (.iload_n 1, 1) := by decide +kernel
theorem d_WK_fail_2 : decode b_WK_fail 2 = .ok (.putfield 41, 3) := by decide +kernel
theorem d_WK_fail_5 : decode b_WK_fail 5 = .ok (.dconst 0, 1) := by decide +kernel
theorem d_WK_fail_6 : decode b_WK_fail 6 = .ok (.dreturn, 1) := by decide +kernel
theorem d_WK_mayBegin_0 : decode b_WK_mayBegin 0 = .ok (.iload_n 1, 1) := by decide +kernel
theorem d_WK_mayBegin_1 : decode b_WK_mayBegin 1 = .ok (.bipush 80, 2) := by decide +kernel
theorem d_WK_mayBegin_3 : decode b_WK_mayBegin 3 = .ok (.if_icmp .le 11, 3) := by decide +kernel
theorem d_WK_mayBegin_6 : decode b_WK_mayBegin 6 = .ok (.aload_n 0, 1) := by decide +kernel
theorem d_WK_mayBegin_7 : decode b_WK_mayBegin 7 = .ok (.bipush 7, 2) := by decide +kernel
theorem d_WK_mayBegin_9 : decode b_WK_mayBegin 9 = .ok (.putfield 41, 3) := by decide +kernel
theorem d_WK_mayBegin_12 : decode b_WK_mayBegin 12 = .ok (.iconst 0, 1) := by decide +kernel
theorem d_WK_mayBegin_13 : decode b_WK_mayBegin 13 = .ok (.ireturn, 1) := by decide +kernel
theorem d_WK_mayBegin_14 : decode b_WK_mayBegin 14 = .ok (.aload_n 0, 1) := by decide +kernel
theorem d_WK_mayBegin_15 : decode b_WK_mayBegin 15 = .ok (.getfield 38, 3) := by decide +kernel
theorem d_WK_mayBegin_18 : decode b_WK_mayBegin 18 = .ok (.sipush 300, 3) := by decide +kernel
theorem d_WK_mayBegin_21 : decode b_WK_mayBegin 21 = .ok (.if_icmp .ne 11, 3) := by decide +kernel
theorem d_WK_mayBegin_24 : decode b_WK_mayBegin 24 = .ok (.aload_n 0, 1) := by decide +kernel
theorem d_WK_mayBegin_25 : decode b_WK_mayBegin 25 = .ok (.bipush 8, 2) := by decide +kernel
theorem d_WK_mayBegin_27 : decode b_WK_mayBegin 27 = .ok (.putfield 41, 3) := by decide +kernel
theorem d_WK_mayBegin_30 : decode b_WK_mayBegin 30 = .ok (.iconst 0, 1) := by decide +kernel
theorem d_WK_mayBegin_31 : decode b_WK_mayBegin 31 = .ok (.ireturn, 1) := by decide +kernel
theorem d_WK_mayBegin_32 : decode b_WK_mayBegin 32 = .ok (.aload_n 0, 1) := by decide +kernel
theorem d_WK_mayBegin_33 : decode b_WK_mayBegin 33 = .ok (.dup, 1) := by decide +kernel
theorem d_WK_mayBegin_34 : decode b_WK_mayBegin 34 = .ok (.getfield 38, 3) := by decide +kernel
theorem d_WK_mayBegin_37 : decode b_WK_mayBegin 37 = .ok (.iconst 1, 1) := by decide +kernel
theorem d_WK_mayBegin_38 : decode b_WK_mayBegin 38 = .ok (.iadd, 1) := by decide +kernel
theorem d_WK_mayBegin_39 : decode b_WK_mayBegin 39 = .ok (.putfield 38, 3) := by decide +kernel
theorem d_WK_mayBegin_42 : decode b_WK_mayBegin 42 = .ok (.iconst 1, 1) := by decide +kernel
theorem d_WK_mayBegin_43 : decode b_WK_mayBegin 43 = .ok (.ireturn, 1) := by decide +kernel
theorem d_WK_mayEnter_0 : decode b_WK_mayEnter 0 = .ok (.aload_n 0, 1) := by decide +kernel
theorem d_WK_mayEnter_1 : decode b_WK_mayEnter 1 = .ok (.getfield 57, 3) := by decide +kernel
theorem d_WK_mayEnter_4 : decode b_WK_mayEnter 4 = .ok (.bipush 8, 2) := by decide +kernel
theorem d_WK_mayEnter_6 : decode b_WK_mayEnter 6 = .ok (.if_icmp .ne 11, 3) := by decide +kernel
theorem d_WK_mayEnter_9 : decode b_WK_mayEnter 9 = .ok (.aload_n 0, 1) := by decide +kernel
theorem d_WK_mayEnter_10 : decode b_WK_mayEnter 10 = .ok (.bipush 7, 2) := by decide +kernel
theorem d_WK_mayEnter_12 : decode b_WK_mayEnter 12 = .ok (.putfield 41, 3) := by decide +kernel
theorem d_WK_mayEnter_15 : decode b_WK_mayEnter 15 = .ok (.iconst 0, 1) := by decide +kernel
theorem d_WK_mayEnter_16 : decode b_WK_mayEnter 16 = .ok (.ireturn, 1) := by decide +kernel
theorem d_WK_mayEnter_17 : decode b_WK_mayEnter 17 = .ok (.aload_n 0, 1) := by decide +kernel
theorem d_WK_mayEnter_18 : decode b_WK_mayEnter 18 = .ok (.dup, 1) := by decide +kernel
theorem d_WK_mayEnter_19 : decode b_WK_mayEnter 19 = .ok (.getfield 57, 3) := by decide +kernel
theorem d_WK_mayEnter_22 : decode b_WK_mayEnter 22 = .ok (.iconst 1, 1) := by decide +kernel
theorem d_WK_mayEnter_23 : decode b_WK_mayEnter 23 = .ok (.iadd, 1) := by decide +kernel
theorem d_WK_mayEnter_24 : decode b_WK_mayEnter 24 = .ok (.putfield 57, 3) := by decide +kernel
theorem d_WK_mayEnter_27 : decode b_WK_mayEnter 27 = .ok (.aload_n 0, 1) := by decide +kernel
theorem d_WK_mayEnter_28 : decode b_WK_mayEnter 28 = .ok (.aload_n 0, 1) := by decide +kernel
theorem d_WK_mayEnter_29 : decode b_WK_mayEnter 29 = .ok (.getfield 47, 3) := by decide +kernel
theorem d_WK_mayEnter_32 : decode b_WK_mayEnter 32 = .ok (.aload_n 0, 1) := by decide +kernel
theorem d_WK_mayEnter_33 : decode b_WK_mayEnter 33 = .ok (.getfield 57, 3) := by decide +kernel
theorem d_WK_mayEnter_36 : decode b_WK_mayEnter 36 = .ok (.invokestatic 60, 3) := by decide +kernel
theorem d_WK_mayEnter_39 : decode b_WK_mayEnter 39 = .ok (.putfield 47, 3) := by decide +kernel
theorem d_WK_mayEnter_42 : decode b_WK_mayEnter 42 = .ok (.iconst 1, 1) := by decide +kernel
theorem d_WK_mayEnter_43 : decode b_WK_mayEnter 43 = .ok (.ireturn, 1) := by decide +kernel
theorem d_WK_value_0 : decode b_WK_value 0 = .ok (.aload_n 0, 1) := by decide +kernel
theorem d_WK_value_1 : decode b_WK_value 1 = .ok (.iload_n 3, 1) := by decide +kernel
theorem d_WK_value_2 : decode b_WK_value 2 = .ok (.invokevirtual 66, 3) := by decide +kernel
theorem d_WK_value_5 : decode b_WK_value 5 = .ok (.ifCond .ne 5, 3) := by decide +kernel
theorem d_WK_value_8 : decode b_WK_value 8 = .ok (.dconst 0, 1) := by decide +kernel
theorem d_WK_value_9 : decode b_WK_value 9 = .ok (.dreturn, 1) := by decide +kernel
theorem d_WK_value_10 : decode b_WK_value 10 = .ok (.aload_n 0, 1) := by decide +kernel
theorem d_WK_value_11 : decode b_WK_value 11 = .ok (.getfield 30, 3) := by decide +kernel
theorem d_WK_value_14 : decode b_WK_value 14 = .ok (.getfield 70, 3) := by decide +kernel
theorem d_WK_value_17 : decode b_WK_value 17 = .ok (.iload_n 1, 1) := by decide +kernel
theorem d_WK_value_18 : decode b_WK_value 18 = .ok (.iaload, 1) := by decide +kernel
theorem d_WK_value_19 : decode b_WK_value 19 = .ok (.istore 4, 2) := by decide +kernel
theorem d_WK_value_21 : decode b_WK_value 21 = .ok (.aload_n 0, 1) := by decide +kernel
theorem d_WK_value_22 : decode b_WK_value 22 = .ok (.getfield 30, 3) := by decide +kernel
theorem d_WK_value_25 : decode b_WK_value 25 = .ok (.getfield 75, 3) := by decide +kernel
theorem d_WK_value_28 : decode b_WK_value 28 = .ok (.iload_n 1, 1) := by decide +kernel
theorem d_WK_value_29 : decode b_WK_value 29 = .ok (.iaload, 1) := by decide +kernel
theorem d_WK_value_30 : decode b_WK_value 30 = .ok (.tableswitch 192 0 17 #[86, 94, 192, 192, 192, 192, 192, 192, 192, 105, 113, 122, 145, 153, 161, 169, 177, 184], 86) := by decide +kernel
theorem d_WK_value_116 : decode b_WK_value 116 = .ok (.iload 4, 2) := by decide +kernel
theorem d_WK_value_118 : decode b_WK_value 118 = .ok (.i2d, 1) := by decide +kernel
theorem d_WK_value_119 : decode b_WK_value 119 = .ok (.ldc2_w 78, 3) := by decide +kernel
theorem d_WK_value_122 : decode b_WK_value 122 = .ok (.ddiv, 1) := by decide +kernel
theorem d_WK_value_123 : decode b_WK_value 123 = .ok (.dreturn, 1) := by decide +kernel
theorem d_WK_value_124 : decode b_WK_value 124 = .ok (.aload_n 0, 1) := by decide +kernel
theorem d_WK_value_125 : decode b_WK_value 125 = .ok (.getfield 34, 3) := by decide +kernel
theorem d_WK_value_128 : decode b_WK_value 128 = .ok (.getfield 80, 3) := by decide +kernel
theorem d_WK_value_131 : decode b_WK_value 131 = .ok (.iload 4, 2) := by decide +kernel
theorem d_WK_value_133 : decode b_WK_value 133 = .ok (.daload, 1) := by decide +kernel
theorem d_WK_value_134 : decode b_WK_value 134 = .ok (.dreturn, 1) := by decide +kernel
theorem d_WK_value_135 : decode b_WK_value 135 = .ok (.aload_n 0, 1) := by decide +kernel
theorem d_WK_value_136 : decode b_WK_value 136 = .ok (.iload_n 1, 1) := by decide +kernel
theorem d_WK_value_137 : decode b_WK_value 137 = .ok (.aload_n 2, 1) := by decide +kernel
theorem d_WK_value_138 : decode b_WK_value 138 = .ok (.iload_n 3, 1) := by decide +kernel
theorem d_WK_value_139 : decode b_WK_value 139 = .ok (.invokevirtual 86, 3) := by decide +kernel
theorem d_WK_value_142 : decode b_WK_value 142 = .ok (.dreturn, 1) := by decide +kernel
theorem d_WK_value_143 : decode b_WK_value 143 = .ok (.aload_n 0, 1) := by decide +kernel
theorem d_WK_value_144 : decode b_WK_value 144 = .ok (.iload 4, 2) := by decide +kernel
theorem d_WK_value_146 : decode b_WK_value 146 = .ok (.aload_n 2, 1) := by decide +kernel
theorem d_WK_value_147 : decode b_WK_value 147 = .ok (.iload_n 3, 1) := by decide +kernel
theorem d_WK_value_148 : decode b_WK_value 148 = .ok (.invokevirtual 89, 3) := by decide +kernel
theorem d_WK_value_151 : decode b_WK_value 151 = .ok (.dreturn, 1) := by decide +kernel
theorem d_WK_value_152 : decode b_WK_value 152 = .ok (.aload_n 2, 1) := by decide +kernel
theorem d_WK_value_153 : decode b_WK_value 153 = .ok (.invokevirtual 92, 3) := by decide +kernel
theorem d_WK_value_156 : decode b_WK_value 156 = .ok (.ifCond .eq 13, 3) := by decide +kernel
theorem d_WK_value_159 : decode b_WK_value 159 = .ok (.aload_n 2, 1) := by decide +kernel
theorem d_WK_value_160 : decode b_WK_value 160 = .ok (.getfield 96, 3) := by decide +kernel
theorem d_WK_value_163 : decode b_WK_value 163 = .ok (.iload 4, 2) := by decide +kernel
theorem d_WK_value_165 : decode b_WK_value 165 = .ok (.daload, 1) := by decide +kernel
theorem d_WK_value_166 : decode b_WK_value 166 = .ok (.goto 8, 3) := by decide +kernel
theorem d_WK_value_169 : decode b_WK_value 169 = .ok (.aload_n 0, 1) := by decide +kernel
theorem d_WK_value_170 : decode b_WK_value 170 = .ok (.iconst 4, 1) := by decide +kernel
theorem d_WK_value_171 : decode b_WK_value 171 = .ok (.invokevirtual 99, 3) := by decide +kernel
theorem d_WK_value_174 : decode b_WK_value 174 = .ok (.dreturn, 1) := by decide +kernel
theorem d_WK_value_175 : decode b_WK_value 175 = .ok (.aload_n 0, 1) := by decide +kernel
theorem d_WK_value_176 : decode b_WK_value 176 = .ok (.iload_n 1, 1) := by decide +kernel
theorem d_WK_value_177 : decode b_WK_value 177 = .ok (.aload_n 2, 1) := by decide +kernel
theorem d_WK_value_178 : decode b_WK_value 178 = .ok (.iload_n 3, 1) := by decide +kernel
theorem d_WK_value_179 : decode b_WK_value 179 = .ok (.invokevirtual 103, 3) := by decide +kernel
theorem d_WK_value_182 : decode b_WK_value 182 = .ok (.dreturn, 1) := by decide +kernel
theorem d_WK_value_183 : decode b_WK_value 183 = .ok (.aload_n 0, 1) := by decide +kernel
theorem d_WK_value_184 : decode b_WK_value 184 = .ok (.iload_n 1, 1) := by decide +kernel
theorem d_WK_value_185 : decode b_WK_value 185 = .ok (.aload_n 2, 1) := by decide +kernel
theorem d_WK_value_186 : decode b_WK_value 186 = .ok (.iload_n 3, 1) := by decide +kernel
theorem d_WK_value_187 : decode b_WK_value 187 = .ok (.invokevirtual 106, 3) := by decide +kernel
theorem d_WK_value_190 : decode b_WK_value 190 = .ok (.dreturn, 1) := by decide +kernel
theorem d_WK_value_191 : decode b_WK_value 191 = .ok (.aload_n 0, 1) := by decide +kernel
theorem d_WK_value_192 : decode b_WK_value 192 = .ok (.iload_n 1, 1) := by decide +kernel
theorem d_WK_value_193 : decode b_WK_value 193 = .ok (.aload_n 2, 1) := by decide +kernel
theorem d_WK_value_194 : decode b_WK_value 194 = .ok (.iload_n 3, 1) := by decide +kernel
theorem d_WK_value_195 : decode b_WK_value 195 = .ok (.invokevirtual 109, 3) := by decide +kernel
theorem d_WK_value_198 : decode b_WK_value 198 = .ok (.dreturn, 1) := by decide +kernel
theorem d_WK_value_199 : decode b_WK_value 199 = .ok (.aload_n 0, 1) := by decide +kernel
theorem d_WK_value_200 : decode b_WK_value 200 = .ok (.iload_n 1, 1) := by decide +kernel
theorem d_WK_value_201 : decode b_WK_value 201 = .ok (.aload_n 2, 1) := by decide +kernel
theorem d_WK_value_202 : decode b_WK_value 202 = .ok (.iload_n 3, 1) := by decide +kernel
theorem d_WK_value_203 : decode b_WK_value 203 = .ok (.invokevirtual 112, 3) := by decide +kernel
theorem d_WK_value_206 : decode b_WK_value 206 = .ok (.dreturn, 1) := by decide +kernel
theorem d_WK_value_207 : decode b_WK_value 207 = .ok (.aload_n 0, 1) := by decide +kernel
theorem d_WK_value_208 : decode b_WK_value 208 = .ok (.iload 4, 2) := by decide +kernel
theorem d_WK_value_210 : decode b_WK_value 210 = .ok (.invokevirtual 115, 3) := by decide +kernel
theorem d_WK_value_213 : decode b_WK_value 213 = .ok (.dreturn, 1) := by decide +kernel
theorem d_WK_value_214 : decode b_WK_value 214 = .ok (.aload_n 0, 1) := by decide +kernel
theorem d_WK_value_215 : decode b_WK_value 215 = .ok (.iload_n 1, 1) := by decide +kernel
theorem d_WK_value_216 : decode b_WK_value 216 = .ok (.aload_n 2, 1) := by decide +kernel
theorem d_WK_value_217 : decode b_WK_value 217 = .ok (.iload_n 3, 1) := by decide +kernel
theorem d_WK_value_218 : decode b_WK_value 218 = .ok (.invokevirtual 118, 3) := by decide +kernel
theorem d_WK_value_221 : decode b_WK_value 221 = .ok (.dreturn, 1) := by decide +kernel
theorem d_WK_value_222 : decode b_WK_value 222 = .ok (.aload_n 0, 1) := by decide +kernel
theorem d_WK_value_223 : decode b_WK_value 223 = .ok (.iload_n 1, 1) := by decide +kernel
theorem d_WK_value_224 : decode b_WK_value 224 = .ok (.aload_n 2, 1) := by decide +kernel
theorem d_WK_value_225 : decode b_WK_value 225 = .ok (.iload_n 3, 1) := by decide +kernel
theorem d_WK_value_226 : decode b_WK_value 226 = .ok (.invokevirtual 121, 3) := by decide +kernel
theorem d_WK_value_229 : decode b_WK_value 229 = .ok (.dreturn, 1) := by decide +kernel
theorem d_WK_ofTwo_0 : decode b_WK_ofTwo 0 = .ok (.aload_n 0, 1) := by decide +kernel
theorem d_WK_ofTwo_1 : decode b_WK_ofTwo 1 = .ok (.aload_n 0, 1) := by decide +kernel
theorem d_WK_ofTwo_2 : decode b_WK_ofTwo 2 = .ok (.getfield 30, 3) := by decide +kernel
theorem d_WK_ofTwo_5 : decode b_WK_ofTwo 5 = .ok (.getfield 70, 3) := by decide +kernel
theorem d_WK_ofTwo_8 : decode b_WK_ofTwo 8 = .ok (.iload_n 1, 1) := by decide +kernel
theorem d_WK_ofTwo_9 : decode b_WK_ofTwo 9 = .ok (.iaload, 1) := by decide +kernel
theorem d_WK_ofTwo_10 : decode b_WK_ofTwo 10 = .ok (.aload_n 2, 1) := by decide +kernel
theorem d_WK_ofTwo_11 : decode b_WK_ofTwo 11 = .ok (.iload_n 3, 1) := by decide +kernel
theorem d_WK_ofTwo_12 : decode b_WK_ofTwo 12 = .ok (.iconst 1, 1) := by decide +kernel
theorem d_WK_ofTwo_13 : decode b_WK_ofTwo 13 = .ok (.iadd, 1) := by decide +kernel
theorem d_WK_ofTwo_14 : decode b_WK_ofTwo 14 = .ok (.invokevirtual 53, 3) := by decide +kernel
theorem d_WK_ofTwo_17 : decode b_WK_ofTwo 17 = .ok (.dstore 4, 2) := by decide +kernel
theorem d_WK_ofTwo_19 : decode b_WK_ofTwo 19 = .ok (.aload_n 0, 1) := by decide +kernel
theorem d_WK_ofTwo_20 : decode b_WK_ofTwo 20 = .ok (.invokevirtual 124, 3) := by decide +kernel
theorem d_WK_ofTwo_23 : decode b_WK_ofTwo 23 = .ok (.ifCond .eq 5, 3) := by decide +kernel
theorem d_WK_ofTwo_26 : decode b_WK_ofTwo 26 = .ok (.dconst 0, 1) := by decide +kernel
theorem d_WK_ofTwo_27 : decode b_WK_ofTwo 27 = .ok (.dreturn, 1) := by decide +kernel
theorem d_WK_ofTwo_28 : decode b_WK_ofTwo 28 = .ok (.aload_n 0, 1) := by decide +kernel
theorem d_WK_ofTwo_29 : decode b_WK_ofTwo 29 = .ok (.aload_n 0, 1) := by decide +kernel
theorem d_WK_ofTwo_30 : decode b_WK_ofTwo 30 = .ok (.getfield 30, 3) := by decide +kernel
theorem d_WK_ofTwo_33 : decode b_WK_ofTwo 33 = .ok (.getfield 127, 3) := by decide +kernel
theorem d_WK_ofTwo_36 : decode b_WK_ofTwo 36 = .ok (.iload_n 1, 1) := by decide +kernel
theorem d_WK_ofTwo_37 : decode b_WK_ofTwo 37 = .ok (.iaload, 1) := by decide +kernel
theorem d_WK_ofTwo_38 : decode b_WK_ofTwo 38 = .ok (.aload_n 2, 1) := by decide +kernel
theorem d_WK_ofTwo_39 : decode b_WK_ofTwo 39 = .ok (.iload_n 3, 1) := by decide +kernel
theorem d_WK_ofTwo_40 : decode b_WK_ofTwo 40 = .ok (.iconst 1, 1) := by decide +kernel
theorem d_WK_ofTwo_41 : decode b_WK_ofTwo 41 = .ok (.iadd, 1) := by decide +kernel
theorem d_WK_ofTwo_42 : decode b_WK_ofTwo 42 = .ok (.invokevirtual 53, 3) := by decide +kernel
theorem d_WK_ofTwo_45 : decode b_WK_ofTwo 45 = .ok (.dstore 6, 2) := by decide +kernel
theorem d_WK_ofTwo_47 : decode b_WK_ofTwo 47 = .ok (.aload_n 0, 1) := by decide +kernel
theorem d_WK_ofTwo_48 : decode b_WK_ofTwo 48 = .ok (.invokevirtual 124, 3) := by decide +kernel
theorem d_WK_ofTwo_51 : decode b_WK_ofTwo 51 = .ok (.ifCond .eq 5, 3) := by decide +kernel
theorem d_WK_ofTwo_54 : decode b_WK_ofTwo 54 = .ok (.dconst 0, 1) := by decide +kernel
theorem d_WK_ofTwo_55 : decode b_WK_ofTwo 55 = .ok (.dreturn, 1) := by decide +kernel
theorem d_WK_ofTwo_56 : decode b_WK_ofTwo 56 = .ok (.aload_n 0, 1) := by decide +kernel
theorem d_WK_ofTwo_57 : decode b_WK_ofTwo 57 = .ok (.getfield 30, 3) := by decide +kernel
theorem d_WK_ofTwo_60 : decode b_WK_ofTwo 60 = .ok (.getfield 75, 3) := by decide +kernel
theorem d_WK_ofTwo_63 : decode b_WK_ofTwo 63 = .ok (.iload_n 1, 1) := by decide +kernel
theorem d_WK_ofTwo_64 : decode b_WK_ofTwo 64 = .ok (.iaload, 1) := by decide +kernel
theorem d_WK_ofTwo_65 : decode b_WK_ofTwo 65 = .ok (.tableswitch 124 2 7 #[39, 54, 64, 74, 84, 109], 39) := by decide +kernel
theorem d_WK_ofTwo_104 : decode b_WK_ofTwo 104 = .ok (.aload_n 0, 1) := by decide +kernel
theorem d_WK_ofTwo_105 : decode b_WK_ofTwo 105 = .ok (.dload 4, 2) := by decide +kernel
theorem d_WK_ofTwo_107 : decode b_WK_ofTwo 107 = .ok (.invokestatic 130, 3) := by decide +kernel
theorem d_WK_ofTwo_110 : decode b_WK_ofTwo 110 = .ok (.dload 6, 2) := by decide +kernel
theorem d_WK_ofTwo_112 : decode b_WK_ofTwo 112 = .ok (.invokestatic 130, 3) := by decide +kernel
theorem d_WK_ofTwo_115 : decode b_WK_ofTwo 115 = .ok (.invokevirtual 134, 3) := by decide +kernel
theorem d_WK_ofTwo_118 : decode b_WK_ofTwo 118 = .ok (.dreturn, 1) := by decide +kernel
theorem d_WK_ofTwo_119 : decode b_WK_ofTwo 119 = .ok (.aload_n 0, 1) := by decide +kernel
theorem d_WK_ofTwo_120 : decode b_WK_ofTwo 120 = .ok (.dload 4, 2) := by decide +kernel
theorem d_WK_ofTwo_122 : decode b_WK_ofTwo 122 = .ok (.dload 6, 2) := by decide +kernel
theorem d_WK_ofTwo_124 : decode b_WK_ofTwo 124 = .ok (.dadd, 1) := by decide +kernel
theorem d_WK_ofTwo_125 : decode b_WK_ofTwo 125 = .ok (.invokevirtual 138, 3) := by decide +kernel
theorem d_WK_ofTwo_128 : decode b_WK_ofTwo 128 = .ok (.dreturn, 1) := by decide +kernel
theorem d_WK_ofTwo_129 : decode b_WK_ofTwo 129 = .ok (.aload_n 0, 1) := by decide +kernel
theorem d_WK_ofTwo_130 : decode b_WK_ofTwo 130 = .ok (.dload 4, 2) := by decide +kernel
theorem d_WK_ofTwo_132 : decode b_WK_ofTwo 132 = .ok (.dload 6, 2) := by decide +kernel
theorem d_WK_ofTwo_134 : decode b_WK_ofTwo 134 = .ok (.dsub, 1) := by decide +kernel
theorem d_WK_ofTwo_135 : decode b_WK_ofTwo 135 = .ok (.invokevirtual 138, 3) := by decide +kernel
theorem d_WK_ofTwo_138 : decode b_WK_ofTwo 138 = .ok (.dreturn, 1) := by decide +kernel
theorem d_WK_ofTwo_139 : decode b_WK_ofTwo 139 = .ok (.aload_n 0, 1) := by decide +kernel
theorem d_WK_ofTwo_140 : decode b_WK_ofTwo 140 = .ok (.dload 4, 2) := by decide +kernel
theorem d_WK_ofTwo_142 : decode b_WK_ofTwo 142 = .ok (.dload 6, 2) := by decide +kernel
theorem d_WK_ofTwo_144 : decode b_WK_ofTwo 144 = .ok (.dmul, 1) := by decide +kernel
theorem d_WK_ofTwo_145 : decode b_WK_ofTwo 145 = .ok (.invokevirtual 138, 3) := by decide +kernel
theorem d_WK_ofTwo_148 : decode b_WK_ofTwo 148 = .ok (.dreturn, 1) := by decide +kernel
theorem d_WK_ofTwo_149 : decode b_WK_ofTwo 149 = .ok (.dload 6, 2) := by decide +kernel
theorem d_WK_ofTwo_151 : decode b_WK_ofTwo 151 = .ok (.dconst 0, 1) := by decide +kernel
theorem d_WK_ofTwo_152 : decode b_WK_ofTwo 152 = .ok (.dcmp .l, 1) := by decide +kernel
theorem d_WK_ofTwo_153 : decode b_WK_ofTwo 153 = .ok (.ifCond .ne 11, 3) := by decide +kernel
end
section
theorem d_WK_ofTwo_156 : decode b_WK_ofTwo 156 = .ok (.aload_n 0, 1) := by decide +kernel
theorem d_WK_ofTwo_157 : decode b_WK_ofTwo 157 = .ok (.iconst 1, 1) := by decide +kernel
theorem d_WK_ofTwo_158 : decode b_WK_ofTwo 158 = .ok (.invokevirtual 99, 3) := by decide +kernel
theorem d_WK_ofTwo_161 : decode b_WK_ofTwo 161 = .ok (.goto 12, 3) := by decide +kernel
theorem d_WK_ofTwo_164 : decode b_WK_ofTwo 164 = .ok (.aload_n 0, 1) := by decide +kernel
theorem d_WK_ofTwo_165 : decode b_WK_ofTwo 165 = .ok (.dload 4, 2) := by decide +kernel
theorem d_WK_ofTwo_167 : decode b_WK_ofTwo 167 = .ok (.dload 6, 2) := by decide +kernel
theorem d_WK_ofTwo_169 : decode b_WK_ofTwo 169 = .ok (.ddiv, 1) := by decide +kernel
theorem d_WK_ofTwo_170 : decode b_WK_ofTwo 170 = .ok (.invokevirtual 138, 3) := by decide +kernel
theorem d_WK_ofTwo_173 : decode b_WK_ofTwo 173 = .ok (.dreturn, 1) := by decide +kernel
theorem d_WK_ofTwo_174 : decode b_WK_ofTwo 174 = .ok (.aload_n 0, 1) := by decide +kernel
theorem d_WK_ofTwo_175 : decode b_WK_ofTwo 175 = .ok (.dload 4, 2) := by decide +kernel
theorem d_WK_ofTwo_177 : decode b_WK_ofTwo 177 = .ok (.invokestatic 130, 3) := by decide +kernel
theorem d_WK_ofTwo_180 : decode b_WK_ofTwo 180 = .ok (.dload 6, 2) := by decide +kernel
theorem d_WK_ofTwo_182 : decode b_WK_ofTwo 182 = .ok (.invokestatic 130, 3) := by decide +kernel
theorem d_WK_ofTwo_185 : decode b_WK_ofTwo 185 = .ok (.invokevirtual 142, 3) := by decide +kernel
theorem d_WK_ofTwo_188 : decode b_WK_ofTwo 188 = .ok (.dreturn, 1) := by decide +kernel
theorem d_WK_ofTwo_189 : decode b_WK_ofTwo 189 = .ok (.dload 4, 2) := by decide +kernel
theorem d_WK_ofTwo_191 : decode b_WK_ofTwo 191 = .ok (.dload 6, 2) := by decide +kernel
theorem d_WK_ofTwo_193 : decode b_WK_ofTwo 193 = .ok (.dcmp .g, 1) := by decide +kernel
theorem d_WK_ofTwo_194 : decode b_WK_ofTwo 194 = .ok (.ifCond .ge 7, 3) := by decide +kernel
theorem d_WK_ofTwo_197 : decode b_WK_ofTwo 197 = .ok (.dconst 1, 1) := by decide +kernel
theorem d_WK_ofTwo_198 : decode b_WK_ofTwo 198 = .ok (.goto 4, 3) := by decide +kernel
theorem d_WK_ofTwo_201 : decode b_WK_ofTwo 201 = .ok (.dconst 0, 1) := by decide +kernel
theorem d_WK_ofTwo_202 : decode b_WK_ofTwo 202 = .ok (.dreturn, 1) := by decide +kernel
theorem d_WK_elementAt_0 : decode b_WK_elementAt 0 = .ok (.aload_n 0, 1) := by decide +kernel
theorem d_WK_elementAt_1 : decode b_WK_elementAt 1 = .ok (.getfield 34, 3) := by decide +kernel
theorem d_WK_elementAt_4 : decode b_WK_elementAt 4 = .ok (.lload_n 1, 1) := by decide +kernel
theorem d_WK_elementAt_5 : decode b_WK_elementAt 5 = .ok (.lload_n 3, 1) := by decide +kernel
theorem d_WK_elementAt_6 : decode b_WK_elementAt 6 = .ok (.invokevirtual 145, 3) := by decide +kernel
theorem d_WK_elementAt_9 : decode b_WK_elementAt 9 = .ok (.ifCond .eq 23, 3) := by decide +kernel
theorem d_WK_elementAt_12 : decode b_WK_elementAt 12 = .ok (.aload_n 0, 1) := by decide +kernel
theorem d_WK_elementAt_13 : decode b_WK_elementAt 13 = .ok (.getfield 34, 3) := by decide +kernel
theorem d_WK_elementAt_16 : decode b_WK_elementAt 16 = .ok (.getfield 149, 3) := by decide +kernel
theorem d_WK_elementAt_19 : decode b_WK_elementAt 19 = .ok (.aload_n 0, 1) := by decide +kernel
theorem d_WK_elementAt_20 : decode b_WK_elementAt 20 = .ok (.getfield 34, 3) := by decide +kernel
theorem d_WK_elementAt_23 : decode b_WK_elementAt 23 = .ok (.lload_n 1, 1) := by decide +kernel
theorem d_WK_elementAt_24 : decode b_WK_elementAt 24 = .ok (.lload_n 3, 1) := by decide +kernel
theorem d_WK_elementAt_25 : decode b_WK_elementAt 25 = .ok (.invokevirtual 152, 3) := by decide +kernel
theorem d_WK_elementAt_28 : decode b_WK_elementAt 28 = .ok (.daload, 1) := by decide +kernel
theorem d_WK_elementAt_29 : decode b_WK_elementAt 29 = .ok (.goto 8, 3) := by decide +kernel
theorem d_WK_elementAt_32 : decode b_WK_elementAt 32 = .ok (.aload_n 0, 1) := by decide +kernel
theorem d_WK_elementAt_33 : decode b_WK_elementAt 33 = .ok (.iconst 3, 1) := by decide +kernel
theorem d_WK_elementAt_34 : decode b_WK_elementAt 34 = .ok (.invokevirtual 99, 3) := by decide +kernel
theorem d_WK_elementAt_37 : decode b_WK_elementAt 37 = .ok (.dreturn, 1) := by decide +kernel
theorem d_WK_limited_0 : decode b_WK_limited 0 = .ok (.dload_n 1, 1) := by decide +kernel
theorem d_WK_limited_1 : decode b_WK_limited 1 = .ok (.invokestatic 156, 3) := by decide +kernel
theorem d_WK_limited_4 : decode b_WK_limited 4 = .ok (.ifCond .eq 7, 3) := by decide +kernel
theorem d_WK_limited_7 : decode b_WK_limited 7 = .ok (.dload_n 1, 1) := by decide +kernel
theorem d_WK_limited_8 : decode b_WK_limited 8 = .ok (.goto 8, 3) := by decide +kernel
theorem d_WK_limited_11 : decode b_WK_limited 11 = .ok (.aload_n 0, 1) := by decide +kernel
theorem d_WK_limited_12 : decode b_WK_limited 12 = .ok (.iconst 2, 1) := by decide +kernel
theorem d_WK_limited_13 : decode b_WK_limited 13 = .ok (.invokevirtual 99, 3) := by decide +kernel
theorem d_WK_limited_16 : decode b_WK_limited 16 = .ok (.dreturn, 1) := by decide +kernel
theorem d_WK_quotient_0 : decode b_WK_quotient 0 = .ok (.lload_n 3, 1) := by decide +kernel
theorem d_WK_quotient_1 : decode b_WK_quotient 1 = .ok (.lconst 0, 1) := by decide +kernel
theorem d_WK_quotient_2 : decode b_WK_quotient 2 = .ok (.lcmp, 1) := by decide +kernel
theorem d_WK_quotient_3 : decode b_WK_quotient 3 = .ok (.ifCond .ne 11, 3) := by decide +kernel
theorem d_WK_quotient_6 : decode b_WK_quotient 6 = .ok (.aload_n 0, 1) := by decide +kernel
theorem d_WK_quotient_7 : decode b_WK_quotient 7 = .ok (.iconst 1, 1) := by decide +kernel
theorem d_WK_quotient_8 : decode b_WK_quotient 8 = .ok (.invokevirtual 99, 3) := by decide +kernel
theorem d_WK_quotient_11 : decode b_WK_quotient 11 = .ok (.goto 7, 3) := by decide +kernel
theorem d_WK_quotient_14 : decode b_WK_quotient 14 = .ok (.lload_n 1, 1) := by decide +kernel
theorem d_WK_quotient_15 : decode b_WK_quotient 15 = .ok (.lload_n 3, 1) := by decide +kernel
theorem d_WK_quotient_16 : decode b_WK_quotient 16 = .ok (.ldiv, 1) := by decide +kernel
theorem d_WK_quotient_17 : decode b_WK_quotient 17 = .ok (.l2d, 1) := by decide +kernel
theorem d_WK_quotient_18 : decode b_WK_quotient 18 = .ok (.dreturn, 1) := by decide +kernel
theorem d_WK_choice_0 : decode b_WK_choice 0 = .ok (.aload_n 0, 1) := by decide +kernel
theorem d_WK_choice_1 : decode b_WK_choice 1 = .ok (.aload_n 0, 1) := by decide +kernel
theorem d_WK_choice_2 : decode b_WK_choice 2 = .ok (.getfield 30, 3) := by decide +kernel
theorem d_WK_choice_5 : decode b_WK_choice 5 = .ok (.getfield 70, 3) := by decide +kernel
theorem d_WK_choice_8 : decode b_WK_choice 8 = .ok (.iload_n 1, 1) := by decide +kernel
theorem d_WK_choice_9 : decode b_WK_choice 9 = .ok (.iaload, 1) := by decide +kernel
theorem d_WK_choice_10 : decode b_WK_choice 10 = .ok (.aload_n 2, 1) := by decide +kernel
theorem d_WK_choice_11 : decode b_WK_choice 11 = .ok (.iload_n 3, 1) := by decide +kernel
theorem d_WK_choice_12 : decode b_WK_choice 12 = .ok (.iconst 1, 1) := by decide +kernel
theorem d_WK_choice_13 : decode b_WK_choice 13 = .ok (.iadd, 1) := by decide +kernel
theorem d_WK_choice_14 : decode b_WK_choice 14 = .ok (.invokevirtual 53, 3) := by decide +kernel
theorem d_WK_choice_17 : decode b_WK_choice 17 = .ok (.dstore 4, 2) := by decide +kernel
theorem d_WK_choice_19 : decode b_WK_choice 19 = .ok (.aload_n 0, 1) := by decide +kernel
theorem d_WK_choice_20 : decode b_WK_choice 20 = .ok (.invokevirtual 124, 3) := by decide +kernel
theorem d_WK_choice_23 : decode b_WK_choice 23 = .ok (.ifCond .eq 5, 3) := by decide +kernel
theorem d_WK_choice_26 : decode b_WK_choice 26 = .ok (.dconst 0, 1) := by decide +kernel
theorem d_WK_choice_27 : decode b_WK_choice 27 = .ok (.dreturn, 1) := by decide +kernel
theorem d_WK_choice_28 : decode b_WK_choice 28 = .ok (.aload_n 0, 1) := by decide +kernel
theorem d_WK_choice_29 : decode b_WK_choice 29 = .ok (.dload 4, 2) := by decide +kernel
theorem d_WK_choice_31 : decode b_WK_choice 31 = .ok (.dconst 0, 1) := by decide +kernel
theorem d_WK_choice_32 : decode b_WK_choice 32 = .ok (.dcmp .l, 1) := by decide +kernel
theorem d_WK_choice_33 : decode b_WK_choice 33 = .ok (.ifCond .eq 15, 3) := by decide +kernel
theorem d_WK_choice_36 : decode b_WK_choice 36 = .ok (.aload_n 0, 1) := by decide +kernel
theorem d_WK_choice_37 : decode b_WK_choice 37 = .ok (.getfield 30, 3) := by decide +kernel
theorem d_WK_choice_40 : decode b_WK_choice 40 = .ok (.getfield 127, 3) := by decide +kernel
theorem d_WK_choice_43 : decode b_WK_choice 43 = .ok (.iload_n 1, 1) := by decide +kernel
theorem d_WK_choice_44 : decode b_WK_choice 44 = .ok (.iaload, 1) := by decide +kernel
theorem d_WK_choice_45 : decode b_WK_choice 45 = .ok (.goto 12, 3) := by decide +kernel
theorem d_WK_choice_48 : decode b_WK_choice 48 = .ok (.aload_n 0, 1) := by decide +kernel
theorem d_WK_choice_49 : decode b_WK_choice 49 = .ok (.getfield 30, 3) := by decide +kernel
theorem d_WK_choice_52 : decode b_WK_choice 52 = .ok (.getfield 160, 3) := by decide +kernel
theorem d_WK_choice_55 : decode b_WK_choice 55 = .ok (.iload_n 1, 1) := by decide +kernel
theorem d_WK_choice_56 : decode b_WK_choice 56 = .ok (.iaload, 1) := by decide +kernel
theorem d_WK_choice_57 : decode b_WK_choice 57 = .ok (.aload_n 2, 1) := by decide +kernel
theorem d_WK_choice_58 : decode b_WK_choice 58 = .ok (.iload_n 3, 1) := by decide +kernel
theorem d_WK_choice_59 : decode b_WK_choice 59 = .ok (.iconst 1, 1) := by decide +kernel
theorem d_WK_choice_60 : decode b_WK_choice 60 = .ok (.iadd, 1) := by decide +kernel
theorem d_WK_choice_61 : decode b_WK_choice 61 = .ok (.invokevirtual 53, 3) := by decide +kernel
theorem d_WK_choice_64 : decode b_WK_choice 64 = .ok (.dreturn, 1) := by decide +kernel
theorem d_WK_parameter_0 : decode b_WK_parameter 0 = .ok (.aload_n 2, 1) := by decide +kernel
theorem d_WK_parameter_1 : decode b_WK_parameter 1 = .ok (.iload_n 1, 1) := by decide +kernel
theorem d_WK_parameter_2 : decode b_WK_parameter 2 = .ok (.invokevirtual 163, 3) := by decide +kernel
theorem d_WK_parameter_5 : decode b_WK_parameter 5 = .ok (.ifCond .ne 9, 3) := by decide +kernel
theorem d_WK_parameter_8 : decode b_WK_parameter 8 = .ok (.aload_n 0, 1) := by decide +kernel
theorem d_WK_parameter_9 : decode b_WK_parameter 9 = .ok (.iconst 4, 1) := by decide +kernel
theorem d_WK_parameter_10 : decode b_WK_parameter 10 = .ok (.invokevirtual 99, 3) := by decide +kernel
theorem d_WK_parameter_13 : decode b_WK_parameter 13 = .ok (.dreturn, 1) := by decide +kernel
theorem d_WK_parameter_14 : decode b_WK_parameter 14 = .ok (.aload_n 2, 1) := by decide +kernel
theorem d_WK_parameter_15 : decode b_WK_parameter 15 = .ok (.iload_n 1, 1) := by decide +kernel
theorem d_WK_parameter_16 : decode b_WK_parameter 16 = .ok (.invokevirtual 166, 3) := by decide +kernel
theorem d_WK_parameter_19 : decode b_WK_parameter 19 = .ok (.ifCond .ne 10, 3) := by decide +kernel
theorem d_WK_parameter_22 : decode b_WK_parameter 22 = .ok (.aload_n 2, 1) := by decide +kernel
theorem d_WK_parameter_23 : decode b_WK_parameter 23 = .ok (.getfield 169, 3) := by decide +kernel
theorem d_WK_parameter_26 : decode b_WK_parameter 26 = .ok (.iload_n 1, 1) := by decide +kernel
theorem d_WK_parameter_27 : decode b_WK_parameter 27 = .ok (.daload, 1) := by decide +kernel
theorem d_WK_parameter_28 : decode b_WK_parameter 28 = .ok (.dreturn, 1) := by decide +kernel
theorem d_WK_parameter_29 : decode b_WK_parameter 29 = .ok (.aload_n 0, 1) := by decide +kernel
theorem d_WK_parameter_30 : decode b_WK_parameter 30 = .ok (.invokevirtual 172, 3) := by decide +kernel
theorem d_WK_parameter_33 : decode b_WK_parameter 33 = .ok (.ifCond .ne 5, 3) := by decide +kernel
theorem d_WK_parameter_36 : decode b_WK_parameter 36 = .ok (.dconst 0, 1) := by decide +kernel
theorem d_WK_parameter_37 : decode b_WK_parameter 37 = .ok (.dreturn, 1) := by decide +kernel
theorem d_WK_parameter_38 : decode b_WK_parameter 38 = .ok (.aload_n 0, 1) := by decide +kernel
theorem d_WK_parameter_39 : decode b_WK_parameter 39 = .ok (.aload_n 2, 1) := by decide +kernel
theorem d_WK_parameter_40 : decode b_WK_parameter 40 = .ok (.getfield 175, 3) := by decide +kernel
theorem d_WK_parameter_43 : decode b_WK_parameter 43 = .ok (.iload_n 1, 1) := by decide +kernel
theorem d_WK_parameter_44 : decode b_WK_parameter 44 = .ok (.iaload, 1) := by decide +kernel
theorem d_WK_parameter_45 : decode b_WK_parameter 45 = .ok (.aload_n 2, 1) := by decide +kernel
theorem d_WK_parameter_46 : decode b_WK_parameter 46 = .ok (.getfield 178, 3) := by decide +kernel
theorem d_WK_parameter_49 : decode b_WK_parameter 49 = .ok (.iload_n 3, 1) := by decide +kernel
theorem d_WK_parameter_50 : decode b_WK_parameter 50 = .ok (.iconst 1, 1) := by decide +kernel
theorem d_WK_parameter_51 : decode b_WK_parameter 51 = .ok (.iadd, 1) := by decide +kernel
theorem d_WK_parameter_52 : decode b_WK_parameter 52 = .ok (.invokevirtual 53, 3) := by decide +kernel
theorem d_WK_parameter_55 : decode b_WK_parameter 55 = .ok (.dstore 4, 2) := by decide +kernel
theorem d_WK_parameter_57 : decode b_WK_parameter 57 = .ok (.aload_n 0, 1) := by decide +kernel
theorem d_WK_parameter_58 : decode b_WK_parameter 58 = .ok (.dup, 1) := by decide +kernel
theorem d_WK_parameter_59 : decode b_WK_parameter 59 = .ok (.getfield 57, 3) := by decide +kernel
theorem d_WK_parameter_62 : decode b_WK_parameter 62 = .ok (.iconst 1, 1) := by decide +kernel
theorem d_WK_parameter_63 : decode b_WK_parameter 63 = .ok (.isub, 1) := by decide +kernel
theorem d_WK_parameter_64 : decode b_WK_parameter 64 = .ok (.putfield 57, 3) := by decide +kernel
theorem d_WK_parameter_67 : decode b_WK_parameter 67 = .ok (.dload 4, 2) := by decide +kernel
theorem d_WK_parameter_69 : decode b_WK_parameter 69 = .ok (.dreturn, 1) := by decide +kernel
theorem d_WK_call_0 : decode b_WK_call 0 = .ok (.aload_n 0, 1) := by decide +kernel
theorem d_WK_call_1 : decode b_WK_call 1 = .ok (.getfield 30, 3) := by decide +kernel
theorem d_WK_call_4 : decode b_WK_call 4 = .ok (.iload_n 1, 1) := by decide +kernel
theorem d_WK_call_5 : decode b_WK_call 5 = .ok (.invokevirtual 181, 3) := by decide +kernel
theorem d_WK_call_8 : decode b_WK_call 8 = .ok (.ifCond .ne 9, 3) := by decide +kernel
theorem d_WK_call_11 : decode b_WK_call 11 = .ok (.aload_n 0, 1) := by decide +kernel
theorem d_WK_call_12 : decode b_WK_call 12 = .ok (.iconst 4, 1) := by decide +kernel
theorem d_WK_call_13 : decode b_WK_call 13 = .ok (.invokevirtual 99, 3) := by decide +kernel
theorem d_WK_call_16 : decode b_WK_call 16 = .ok (.dreturn, 1) := by decide +kernel
theorem d_WK_call_17 : decode b_WK_call 17 = .ok (.aload_n 0, 1) := by decide +kernel
theorem d_WK_call_18 : decode b_WK_call 18 = .ok (.getfield 30, 3) := by decide +kernel
theorem d_WK_call_21 : decode b_WK_call 21 = .ok (.getfield 70, 3) := by decide +kernel
theorem d_WK_call_24 : decode b_WK_call 24 = .ok (.iload_n 1, 1) := by decide +kernel
theorem d_WK_call_25 : decode b_WK_call 25 = .ok (.iaload, 1) := by decide +kernel
theorem d_WK_call_26 : decode b_WK_call 26 = .ok (.istore 4, 2) := by decide +kernel
theorem d_WK_call_28 : decode b_WK_call 28 = .ok (.aload_n 0, 1) := by decide +kernel
theorem d_WK_call_29 : decode b_WK_call 29 = .ok (.getfield 30, 3) := by decide +kernel
theorem d_WK_call_32 : decode b_WK_call 32 = .ok (.iload 4, 2) := by decide +kernel
theorem d_WK_call_34 : decode b_WK_call 34 = .ok (.iconst 0, 1) := by decide +kernel
theorem d_WK_call_35 : decode b_WK_call 35 = .ok (.invokevirtual 184, 3) := by decide +kernel
theorem d_WK_call_38 : decode b_WK_call 38 = .ok (.ifCond .eq 23, 3) := by decide +kernel
theorem d_WK_call_41 : decode b_WK_call 41 = .ok (.aload_n 0, 1) := by decide +kernel
theorem d_WK_call_42 : decode b_WK_call 42 = .ok (.aload_n 0, 1) := by decide +kernel
theorem d_WK_call_43 : decode b_WK_call 43 = .ok (.getfield 30, 3) := by decide +kernel
theorem d_WK_call_46 : decode b_WK_call 46 = .ok (.getfield 127, 3) := by decide +kernel
theorem d_WK_call_49 : decode b_WK_call 49 = .ok (.iload_n 1, 1) := by decide +kernel
theorem d_WK_call_50 : decode b_WK_call 50 = .ok (.iaload, 1) := by decide +kernel
theorem d_WK_call_51 : decode b_WK_call 51 = .ok (.aload_n 2, 1) := by decide +kernel
theorem d_WK_call_52 : decode b_WK_call 52 = .ok (.iload_n 3, 1) := by decide +kernel
theorem d_WK_call_53 : decode b_WK_call 53 = .ok (.iconst 1, 1) := by decide +kernel
theorem d_WK_call_54 : decode b_WK_call 54 = .ok (.iadd, 1) := by decide +kernel
theorem d_WK_call_55 : decode b_WK_call 55 = .ok (.invokevirtual 53, 3) := by decide +kernel
theorem d_WK_call_58 : decode b_WK_call 58 = .ok (.goto 4, 3) := by decide +kernel
theorem d_WK_call_61 : decode b_WK_call 61 = .ok (.dconst 0, 1) := by decide +kernel
theorem d_WK_call_62 : decode b_WK_call 62 = .ok (.dstore 5, 2) := by decide +kernel
theorem d_WK_call_64 : decode b_WK_call 64 = .ok (.aload_n 0, 1) := by decide +kernel
theorem d_WK_call_65 : decode b_WK_call 65 = .ok (.invokevirtual 124, 3) := by decide +kernel
theorem d_WK_call_68 : decode b_WK_call 68 = .ok (.ifCond .eq 5, 3) := by decide +kernel
theorem d_WK_call_71 : decode b_WK_call 71 = .ok (.dconst 0, 1) := by decide +kernel
theorem d_WK_call_72 : decode b_WK_call 72 = .ok (.dreturn, 1) := by decide +kernel
theorem d_WK_call_73 : decode b_WK_call 73 = .ok (.aload_n 0, 1) := by decide +kernel
theorem d_WK_call_74 : decode b_WK_call 74 = .ok (.getfield 30, 3) := by decide +kernel
theorem d_WK_call_77 : decode b_WK_call 77 = .ok (.iload 4, 2) := by decide +kernel
theorem d_WK_call_79 : decode b_WK_call 79 = .ok (.iconst 1, 1) := by decide +kernel
theorem d_WK_call_80 : decode b_WK_call 80 = .ok (.invokevirtual 184, 3) := by decide +kernel
theorem d_WK_call_83 : decode b_WK_call 83 = .ok (.ifCond .eq 23, 3) := by decide +kernel
theorem d_WK_call_86 : decode b_WK_call 86 = .ok (.aload_n 0, 1) := by decide +kernel
theorem d_WK_call_87 : decode b_WK_call 87 = .ok (.aload_n 0, 1) := by decide +kernel
theorem d_WK_call_88 : decode b_WK_call 88 = .ok (.getfield 30, 3) := by decide +kernel
theorem d_WK_call_91 : decode b_WK_call 91 = .ok (.getfield 160, 3) := by decide +kernel
theorem d_WK_call_94 : decode b_WK_call 94 = .ok (.iload_n 1, 1) := by decide +kernel
theorem d_WK_call_95 : decode b_WK_call 95 = .ok (.iaload, 1) := by decide +kernel
theorem d_WK_call_96 : decode b_WK_call 96 = .ok (.aload_n 2, 1) := by decide +kernel
theorem d_WK_call_97 : decode b_WK_call 97 = .ok (.iload_n 3, 1) := by decide +kernel
theorem d_WK_call_98 : decode b_WK_call 98 = .ok (.iconst 1, 1) := by decide +kernel
theorem d_WK_call_99 : decode b_WK_call 99 = .ok (.iadd, 1) := by decide +kernel
theorem d_WK_call_100 : decode b_WK_call 100 = .ok (.invokevirtual 53, 3) := by decide +kernel
theorem d_WK_call_103 : decode b_WK_call 103 = .ok (.goto 4, 3) := by decide +kernel
theorem d_WK_call_106 : decode b_WK_call 106 = .ok (.dconst 0, 1) := by decide +kernel
theorem d_WK_call_107 : decode b_WK_call 107 = .ok (.dstore 7, 2) := by decide +kernel
theorem d_WK_call_109 : decode b_WK_call 109 = .ok (.aload_n 0, 1) := by decide +kernel
theorem d_WK_call_110 : decode b_WK_call 110 = .ok (.invokevirtual 124, 3) := by decide +kernel
theorem d_WK_call_113 : decode b_WK_call 113 = .ok (.ifCond .ne 10, 3) := by decide +kernel
theorem d_WK_call_116 : decode b_WK_call 116 = .ok (.aload_n 0, 1) := by decide +kernel
theorem d_WK_call_117 : decode b_WK_call 117 = .ok (.invokevirtual 172, 3) := by decide +kernel
theorem d_WK_call_120 : decode b_WK_call 120 = .ok (.ifCond .ne 5, 3) := by decide +kernel
theorem d_WK_call_123 : decode b_WK_call 123 = .ok (.dconst 0, 1) := by decide +kernel
theorem d_WK_call_124 : decode b_WK_call 124 = .ok (.dreturn, 1) := by decide +kernel
theorem d_WK_call_125 : decode b_WK_call 125 = .ok (.aload_n 0, 1) := by decide +kernel
theorem d_WK_call_126 : decode b_WK_call 126 = .ok (.getfield 18, 3) := by decide +kernel
theorem d_WK_call_129 : decode b_WK_call 129 = .ok (.aload_n 0, 1) := by decide +kernel
theorem d_WK_call_130 : decode b_WK_call 130 = .ok (.getfield 188, 3) := by decide +kernel
theorem d_WK_call_133 : decode b_WK_call 133 = .ok (.aaload, 1) := by decide +kernel
theorem d_WK_call_134 : decode b_WK_call 134 = .ok (.astore 9, 2) := by decide +kernel
theorem d_WK_call_136 : decode b_WK_call 136 = .ok (.aload 9, 2) := by decide +kernel
theorem d_WK_call_138 : decode b_WK_call 138 = .ok (.aload_n 2, 1) := by decide +kernel
theorem d_WK_call_139 : decode b_WK_call 139 = .ok (.aload_n 0, 1) := by decide +kernel
theorem d_WK_call_140 : decode b_WK_call 140 = .ok (.getfield 30, 3) := by decide +kernel
theorem d_WK_call_143 : decode b_WK_call 143 = .ok (.getfield 191, 3) := by decide +kernel
theorem d_WK_call_146 : decode b_WK_call 146 = .ok (.iload 4, 2) := by decide +kernel
theorem d_WK_call_148 : decode b_WK_call 148 = .ok (.iaload, 1) := by decide +kernel
theorem d_WK_call_149 : decode b_WK_call 149 = .ok (.aload_n 0, 1) := by decide +kernel
theorem d_WK_call_150 : decode b_WK_call 150 = .ok (.getfield 30, 3) := by decide +kernel
theorem d_WK_call_153 : decode b_WK_call 153 = .ok (.getfield 194, 3) := by decide +kernel
theorem d_WK_call_156 : decode b_WK_call 156 = .ok (.iload 4, 2) := by decide +kernel
theorem d_WK_call_158 : decode b_WK_call 158 = .ok (.iaload, 1) := by decide +kernel
theorem d_WK_call_159 : decode b_WK_call 159 = .ok (.invokevirtual 197, 3) := by decide +kernel
theorem d_WK_call_162 : decode b_WK_call 162 = .ok (.aload 9, 2) := by decide +kernel
theorem d_WK_call_164 : decode b_WK_call 164 = .ok (.iconst 0, 1) := by decide +kernel
theorem d_WK_call_165 : decode b_WK_call 165 = .ok (.aload_n 0, 1) := by decide +kernel
theorem d_WK_call_166 : decode b_WK_call 166 = .ok (.getfield 30, 3) := by decide +kernel
theorem d_WK_call_169 : decode b_WK_call 169 = .ok (.getfield 127, 3) := by decide +kernel
theorem d_WK_call_172 : decode b_WK_call 172 = .ok (.iload_n 1, 1) := by decide +kernel
theorem d_WK_call_173 : decode b_WK_call 173 = .ok (.iaload, 1) := by decide +kernel
theorem d_WK_call_174 : decode b_WK_call 174 = .ok (.dload 5, 2) := by decide +kernel
theorem d_WK_call_176 : decode b_WK_call 176 = .ok (.invokevirtual 201, 3) := by decide +kernel
theorem d_WK_call_179 : decode b_WK_call 179 = .ok (.aload 9, 2) := by decide +kernel
theorem d_WK_call_181 : decode b_WK_call 181 = .ok (.iconst 1, 1) := by decide +kernel
theorem d_WK_call_182 : decode b_WK_call 182 = .ok (.aload_n 0, 1) := by decide +kernel
theorem d_WK_call_183 : decode b_WK_call 183 = .ok (.getfield 30, 3) := by decide +kernel
theorem d_WK_call_186 : decode b_WK_call 186 = .ok (.getfield 160, 3) := by decide +kernel
theorem d_WK_call_189 : decode b_WK_call 189 = .ok (.iload_n 1, 1) := by decide +kernel
theorem d_WK_call_190 : decode b_WK_call 190 = .ok (.iaload, 1) := by decide +kernel
theorem d_WK_call_191 : decode b_WK_call 191 = .ok (.dload 7, 2) := by decide +kernel
theorem d_WK_call_193 : decode b_WK_call 193 = .ok (.invokevirtual 201, 3) := by decide +kernel
theorem d_WK_call_196 : decode b_WK_call 196 = .ok (.aload_n 0, 1) := by decide +kernel
theorem d_WK_call_197 : decode b_WK_call 197 = .ok (.dup, 1) := by decide +kernel
theorem d_WK_call_198 : decode b_WK_call 198 = .ok (.getfield 188, 3) := by decide +kernel
theorem d_WK_call_201 : decode b_WK_call 201 = .ok (.iconst 1, 1) := by decide +kernel
theorem d_WK_call_202 : decode b_WK_call 202 = .ok (.iadd, 1) := by decide +kernel
theorem d_WK_call_203 : decode b_WK_call 203 = .ok (.putfield 188, 3) := by decide +kernel
theorem d_WK_call_206 : decode b_WK_call 206 = .ok (.aload_n 0, 1) := by decide +kernel
theorem d_WK_call_207 : decode b_WK_call 207 = .ok (.dup, 1) := by decide +kernel
theorem d_WK_call_208 : decode b_WK_call 208 = .ok (.getfield 44, 3) := by decide +kernel
theorem d_WK_call_211 : decode b_WK_call 211 = .ok (.iconst 1, 1) := by decide +kernel
theorem d_WK_call_212 : decode b_WK_call 212 = .ok (.iadd, 1) := by decide +kernel
theorem d_WK_call_213 : decode b_WK_call 213 = .ok (.putfield 44, 3) := by decide +kernel
theorem d_WK_call_216 : decode b_WK_call 216 = .ok (.aload_n 0, 1) := by decide +kernel
theorem d_WK_call_217 : decode b_WK_call 217 = .ok (.aload_n 0, 1) := by decide +kernel
theorem d_WK_call_218 : decode b_WK_call 218 = .ok (.getfield 30, 3) := by decide +kernel
theorem d_WK_call_221 : decode b_WK_call 221 = .ok (.getfield 205, 3) := by decide +kernel
theorem d_WK_call_224 : decode b_WK_call 224 = .ok (.iload 4, 2) := by decide +kernel
theorem d_WK_call_226 : decode b_WK_call 226 = .ok (.iaload, 1) := by decide +kernel
theorem d_WK_call_227 : decode b_WK_call 227 = .ok (.aload 9, 2) := by decide +kernel
theorem d_WK_call_229 : decode b_WK_call 229 = .ok (.iload_n 3, 1) := by decide +kernel
theorem d_WK_call_230 : decode b_WK_call 230 = .ok (.iconst 1, 1) := by decide +kernel
theorem d_WK_call_231 : decode b_WK_call 231 = .ok (.iadd, 1) := by decide +kernel
theorem d_WK_call_232 : decode b_WK_call 232 = .ok (.invokevirtual 53, 3) := by decide +kernel
theorem d_WK_call_235 : decode b_WK_call 235 = .ok (.dstore 10, 2) := by decide +kernel
theorem d_WK_call_237 : decode b_WK_call 237 = .ok (.aload_n 0, 1) := by decide +kernel
theorem d_WK_call_238 : decode b_WK_call 238 = .ok (.dup, 1) := by decide +kernel
theorem d_WK_call_239 : decode b_WK_call 239 = .ok (.getfield 188, 3) := by decide +kernel
theorem d_WK_call_242 : decode b_WK_call 242 = .ok (.iconst 1, 1) := by decide +kernel
theorem d_WK_call_243 : decode b_WK_call 243 = .ok (.isub, 1) := by decide +kernel
theorem d_WK_call_244 : decode b_WK_call 244 = .ok (.putfield 188, 3) := by decide +kernel
theorem d_WK_call_247 : decode b_WK_call 247 = .ok (.aload_n 0, 1) := by decide +kernel
theorem d_WK_call_248 : decode b_WK_call 248 = .ok (.dup, 1) := by decide +kernel
theorem d_WK_call_249 : decode b_WK_call 249 = .ok (.getfield 57, 3) := by decide +kernel
theorem d_WK_call_252 : decode b_WK_call 252 = .ok (.iconst 1, 1) := by decide +kernel
theorem d_WK_call_253 : decode b_WK_call 253 = .ok (.isub, 1) := by decide +kernel
theorem d_WK_call_254 : decode b_WK_call 254 = .ok (.putfield 57, 3) := by decide +kernel
theorem d_WK_call_257 : decode b_WK_call 257 = .ok (.dload 10, 2) := by decide +kernel
theorem d_WK_call_259 : decode b_WK_call 259 = .ok (.dreturn, 1) := by decide +kernel
theorem d_WK_set_0 : decode b_WK_set 0 = .ok (.aload_n 0, 1) := by decide +kernel
theorem d_WK_set_1 : decode b_WK_set 1 = .ok (.getfield 30, 3) := by decide +kernel
theorem d_WK_set_4 : decode b_WK_set 4 = .ok (.getfield 70, 3) := by decide +kernel
theorem d_WK_set_7 : decode b_WK_set 7 = .ok (.iload_n 1, 1) := by decide +kernel
theorem d_WK_set_8 : decode b_WK_set 8 = .ok (.iaload, 1) := by decide +kernel
theorem d_WK_set_9 : decode b_WK_set 9 = .ok (.istore 4, 2) := by decide +kernel
theorem d_WK_set_11 : decode b_WK_set 11 = .ok (.aload_n 0, 1) := by decide +kernel
theorem d_WK_set_12 : decode b_WK_set 12 = .ok (.getfield 30, 3) := by decide +kernel
theorem d_WK_set_15 : decode b_WK_set 15 = .ok (.iload 4, 2) := by decide +kernel
theorem d_WK_set_17 : decode b_WK_set 17 = .ok (.invokevirtual 208, 3) := by decide +kernel
theorem d_WK_set_20 : decode b_WK_set 20 = .ok (.ifCond .ne 10, 3) := by decide +kernel
theorem d_WK_set_23 : decode b_WK_set 23 = .ok (.aload_n 0, 1) := by decide +kernel
theorem d_WK_set_24 : decode b_WK_set 24 = .ok (.bipush 6, 2) := by decide +kernel
theorem d_WK_set_26 : decode b_WK_set 26 = .ok (.invokevirtual 99, 3) := by decide +kernel
theorem d_WK_set_29 : decode b_WK_set 29 = .ok (.dreturn, 1) := by decide +kernel
theorem d_WK_set_30 : decode b_WK_set 30 = .ok (.aload_n 0, 1) := by decide +kernel
theorem d_WK_set_31 : decode b_WK_set 31 = .ok (.aload_n 0, 1) := by decide +kernel
theorem d_WK_set_32 : decode b_WK_set 32 = .ok (.getfield 30, 3) := by decide +kernel
theorem d_WK_set_35 : decode b_WK_set 35 = .ok (.getfield 127, 3) := by decide +kernel
theorem d_WK_set_38 : decode b_WK_set 38 = .ok (.iload_n 1, 1) := by decide +kernel
theorem d_WK_set_39 : decode b_WK_set 39 = .ok (.iaload, 1) := by decide +kernel
theorem d_WK_set_40 : decode b_WK_set 40 = .ok (.aload_n 2, 1) := by decide +kernel
theorem d_WK_set_41 : decode b_WK_set 41 = .ok (.iload_n 3, 1) := by decide +kernel
theorem d_WK_set_42 : decode b_WK_set 42 = .ok (.iconst 1, 1) := by decide +kernel
theorem d_WK_set_43 : decode b_WK_set 43 = .ok (.iadd, 1) := by decide +kernel
theorem d_WK_set_44 : decode b_WK_set 44 = .ok (.invokevirtual 53, 3) := by decide +kernel
theorem d_WK_set_47 : decode b_WK_set 47 = .ok (.dstore 5, 2) := by decide +kernel
theorem d_WK_set_49 : decode b_WK_set 49 = .ok (.aload_n 0, 1) := by decide +kernel
theorem d_WK_set_50 : decode b_WK_set 50 = .ok (.invokevirtual 124, 3) := by decide +kernel
theorem d_WK_set_53 : decode b_WK_set 53 = .ok (.ifCond .eq 7, 3) := by decide +kernel
theorem d_WK_set_56 : decode b_WK_set 56 = .ok (.dconst 0, 1) := by decide +kernel
theorem d_WK_set_57 : decode b_WK_set 57 = .ok (.goto 13, 3) := by decide +kernel
theorem d_WK_set_60 : decode b_WK_set 60 = .ok (.aload_n 0, 1) := by decide +kernel
theorem d_WK_set_61 : decode b_WK_set 61 = .ok (.iload 4, 2) := by decide +kernel
theorem d_WK_set_63 : decode b_WK_set 63 = .ok (.dload 5, 2) := by decide +kernel
theorem d_WK_set_65 : decode b_WK_set 65 = .ok (.aload_n 2, 1) := by decide +kernel
theorem d_WK_set_66 : decode b_WK_set 66 = .ok (.iload_n 3, 1) := by decide +kernel
theorem d_WK_set_67 : decode b_WK_set 67 = .ok (.invokevirtual 211, 3) := by decide +kernel
theorem d_WK_set_70 : decode b_WK_set 70 = .ok (.dreturn, 1) := by decide +kernel
theorem d_WK_become_0 : decode b_WK_become 0 = .ok (.aload_n 0, 1) := by decide +kernel
theorem d_WK_become_1 : decode b_WK_become 1 = .ok (.getfield 30, 3) := by decide +kernel
theorem d_WK_become_4 : decode b_WK_become 4 = .ok (.getfield 70, 3) := by decide +kernel
theorem d_WK_become_7 : decode b_WK_become 7 = .ok (.iload_n 1, 1) := by decide +kernel
theorem d_WK_become_8 : decode b_WK_become 8 = .ok (.iaload, 1) := by decide +kernel
theorem d_WK_become_9 : decode b_WK_become 9 = .ok (.istore 6, 2) := by decide +kernel
theorem d_WK_become_11 : decode b_WK_become 11 = .ok (.aload_n 0, 1) := by decide +kernel
theorem d_WK_become_12 : decode b_WK_become 12 = .ok (.getfield 30, 3) := by decide +kernel
theorem d_WK_become_15 : decode b_WK_become 15 = .ok (.getfield 75, 3) := by decide +kernel
theorem d_WK_become_18 : decode b_WK_become 18 = .ok (.iload_n 1, 1) := by decide +kernel
theorem d_WK_become_19 : decode b_WK_become 19 = .ok (.iaload, 1) := by decide +kernel
theorem d_WK_become_20 : decode b_WK_become 20 = .ok (.lookupswitch 148 #[(1, 44), (2, 55), (10, 136), (11, 126)], 44) := by decide +kernel
theorem d_WK_become_64 : decode b_WK_become 64 = .ok (.aload_n 0, 1) := by decide +kernel
theorem d_WK_become_65 : decode b_WK_become 65 = .ok (.getfield 34, 3) := by decide +kernel
theorem d_WK_become_68 : decode b_WK_become 68 = .ok (.iload 6, 2) := by decide +kernel
theorem d_WK_become_70 : decode b_WK_become 70 = .ok (.dload_n 2, 1) := by decide +kernel
theorem d_WK_become_71 : decode b_WK_become 71 = .ok (.invokevirtual 215, 3) := by decide +kernel
theorem d_WK_become_74 : decode b_WK_become 74 = .ok (.dreturn, 1) := by decide +kernel
theorem d_WK_become_75 : decode b_WK_become 75 = .ok (.aload_n 0, 1) := by decide +kernel
theorem d_WK_become_76 : decode b_WK_become 76 = .ok (.iload 6, 2) := by decide +kernel
theorem d_WK_become_78 : decode b_WK_become 78 = .ok (.aload 4, 2) := by decide +kernel
theorem d_WK_become_80 : decode b_WK_become 80 = .ok (.iload 5, 2) := by decide +kernel
theorem d_WK_become_82 : decode b_WK_become 82 = .ok (.iconst 1, 1) := by decide +kernel
theorem d_WK_become_83 : decode b_WK_become 83 = .ok (.iadd, 1) := by decide +kernel
theorem d_WK_become_84 : decode b_WK_become 84 = .ok (.invokevirtual 53, 3) := by decide +kernel
theorem d_WK_become_87 : decode b_WK_become 87 = .ok (.dstore 7, 2) := by decide +kernel
theorem d_WK_become_89 : decode b_WK_become 89 = .ok (.aload_n 0, 1) := by decide +kernel
theorem d_WK_become_90 : decode b_WK_become 90 = .ok (.invokevirtual 124, 3) := by decide +kernel
theorem d_WK_become_93 : decode b_WK_become 93 = .ok (.ifCond .eq 5, 3) := by decide +kernel
theorem d_WK_become_96 : decode b_WK_become 96 = .ok (.dconst 0, 1) := by decide +kernel
theorem d_WK_become_97 : decode b_WK_become 97 = .ok (.dreturn, 1) := by decide +kernel
theorem d_WK_become_98 : decode b_WK_become 98 = .ok (.aload_n 0, 1) := by decide +kernel
theorem d_WK_become_99 : decode b_WK_become 99 = .ok (.aload_n 0, 1) := by decide +kernel
theorem d_WK_become_100 : decode b_WK_become 100 = .ok (.getfield 30, 3) := by decide +kernel
theorem d_WK_become_103 : decode b_WK_become 103 = .ok (.getfield 127, 3) := by decide +kernel
theorem d_WK_become_106 : decode b_WK_become 106 = .ok (.iload_n 1, 1) := by decide +kernel
theorem d_WK_become_107 : decode b_WK_become 107 = .ok (.iaload, 1) := by decide +kernel
theorem d_WK_become_108 : decode b_WK_become 108 = .ok (.aload 4, 2) := by decide +kernel
theorem d_WK_become_110 : decode b_WK_become 110 = .ok (.iload 5, 2) := by decide +kernel
theorem d_WK_become_112 : decode b_WK_become 112 = .ok (.iconst 1, 1) := by decide +kernel
theorem d_WK_become_113 : decode b_WK_become 113 = .ok (.iadd, 1) := by decide +kernel
theorem d_WK_become_114 : decode b_WK_become 114 = .ok (.invokevirtual 53, 3) := by decide +kernel
theorem d_WK_become_117 : decode b_WK_become 117 = .ok (.dstore 9, 2) := by decide +kernel
theorem d_WK_become_119 : decode b_WK_become 119 = .ok (.aload_n 0, 1) := by decide +kernel
theorem d_WK_become_120 : decode b_WK_become 120 = .ok (.invokevirtual 124, 3) := by decide +kernel
theorem d_WK_become_123 : decode b_WK_become 123 = .ok (.ifCond .eq 7, 3) := by decide +kernel
theorem d_WK_become_126 : decode b_WK_become 126 = .ok (.dconst 0, 1) := by decide +kernel
theorem d_WK_become_127 : decode b_WK_become 127 = .ok (.goto 18, 3) := by decide +kernel
theorem d_WK_become_130 : decode b_WK_become 130 = .ok (.aload_n 0, 1) := by decide +kernel
theorem d_WK_become_131 : decode b_WK_become 131 = .ok (.dload 7, 2) := by decide +kernel
theorem d_WK_become_133 : decode b_WK_become 133 = .ok (.invokestatic 130, 3) := by decide +kernel
theorem d_WK_become_136 : decode b_WK_become 136 = .ok (.dload 9, 2) := by decide +kernel
theorem d_WK_become_138 : decode b_WK_become 138 = .ok (.invokestatic 130, 3) := by decide +kernel
theorem d_WK_become_141 : decode b_WK_become 141 = .ok (.dload_n 2, 1) := by decide +kernel
theorem d_WK_become_142 : decode b_WK_become 142 = .ok (.invokevirtual 219, 3) := by decide +kernel
theorem d_WK_become_145 : decode b_WK_become 145 = .ok (.dreturn, 1) := by decide +kernel
theorem d_WK_become_146 : decode b_WK_become 146 = .ok (.aload_n 0, 1) := by decide +kernel
theorem d_WK_become_147 : decode b_WK_become 147 = .ok (.iload 6, 2) := by decide +kernel
theorem d_WK_become_149 : decode b_WK_become 149 = .ok (.dload_n 2, 1) := by decide +kernel
theorem d_WK_become_150 : decode b_WK_become 150 = .ok (.aload 4, 2) := by decide +kernel
theorem d_WK_become_152 : decode b_WK_become 152 = .ok (.invokevirtual 223, 3) := by decide +kernel
theorem d_WK_become_155 : decode b_WK_become 155 = .ok (.dreturn, 1) := by decide +kernel
theorem d_WK_become_156 : decode b_WK_become 156 = .ok (.aload_n 0, 1) := by decide +kernel
theorem d_WK_become_157 : decode b_WK_become 157 = .ok (.iload 6, 2) := by decide +kernel
theorem d_WK_become_159 : decode b_WK_become 159 = .ok (.dload_n 2, 1) := by decide +kernel
theorem d_WK_become_160 : decode b_WK_become 160 = .ok (.aload 4, 2) := by decide +kernel
theorem d_WK_become_162 : decode b_WK_become 162 = .ok (.iload 5, 2) := by decide +kernel
theorem d_WK_become_164 : decode b_WK_become 164 = .ok (.invokevirtual 227, 3) := by decide +kernel
theorem d_WK_become_167 : decode b_WK_become 167 = .ok (.dreturn, 1) := by decide +kernel
theorem d_WK_become_168 : decode b_WK_become 168 = .ok (.aload_n 0, 1) := by decide +kernel
theorem d_WK_become_169 : decode b_WK_become 169 = .ok (.bipush 6, 2) := by decide +kernel
theorem d_WK_become_171 : decode b_WK_become 171 = .ok (.invokevirtual 99, 3) := by decide +kernel
theorem d_WK_become_174 : decode b_WK_become 174 = .ok (.dreturn, 1) := by decide +kernel
theorem d_WK_elementBecomes_0 : decode b_WK_elementBecomes 0 = .ok (.aload_n 0, 1) := by decide +kernel
theorem d_WK_elementBecomes_1 : decode b_WK_elementBecomes 1 = .ok (.getfield 34, 3) := by decide +kernel
theorem d_WK_elementBecomes_4 : decode b_WK_elementBecomes 4 = .ok (.lload_n 1, 1) := by decide +kernel
theorem d_WK_elementBecomes_5 : decode b_WK_elementBecomes 5 = .ok (.lload_n 3, 1) := by decide +kernel
theorem d_WK_elementBecomes_6 : decode b_WK_elementBecomes 6 = .ok (.invokevirtual 145, 3) := by decide +kernel
theorem d_WK_elementBecomes_9 : decode b_WK_elementBecomes 9 = .ok (.ifCond .ne 9, 3) := by decide +kernel
theorem d_WK_elementBecomes_12 : decode b_WK_elementBecomes 12 = .ok (.aload_n 0, 1) := by decide +kernel
theorem d_WK_elementBecomes_13 : decode b_WK_elementBecomes 13 = .ok (.iconst 3, 1) := by decide +kernel
theorem d_WK_elementBecomes_14 : decode b_WK_elementBecomes 14 = .ok (.invokevirtual 99, 3) := by decide +kernel
theorem d_WK_elementBecomes_17 : decode b_WK_elementBecomes 17 = .ok (.dreturn, 1) := by decide +kernel
theorem d_WK_elementBecomes_18 : decode b_WK_elementBecomes 18 = .ok (.aload_n 0, 1) := by decide +kernel
theorem d_WK_elementBecomes_19 : decode b_WK_elementBecomes 19 = .ok (.getfield 34, 3) := by decide +kernel
theorem d_WK_elementBecomes_22 : decode b_WK_elementBecomes 22 = .ok (.getfield 149, 3) := by decide +kernel
theorem d_WK_elementBecomes_25 : decode b_WK_elementBecomes 25 = .ok (.aload_n 0, 1) := by decide +kernel
theorem d_WK_elementBecomes_26 : decode b_WK_elementBecomes 26 = .ok (.getfield 34, 3) := by decide +kernel
theorem d_WK_elementBecomes_29 : decode b_WK_elementBecomes 29 = .ok (.lload_n 1, 1) := by decide +kernel
theorem d_WK_elementBecomes_30 : decode b_WK_elementBecomes 30 = .ok (.lload_n 3, 1) := by decide +kernel
theorem d_WK_elementBecomes_31 : decode b_WK_elementBecomes 31 = .ok (.invokevirtual 152, 3) := by decide +kernel
theorem d_WK_elementBecomes_34 : decode b_WK_elementBecomes 34 = .ok (.dload 5, 2) := by decide +kernel
theorem d_WK_elementBecomes_36 : decode b_WK_elementBecomes 36 = .ok (.dastore, 1) := by decide +kernel
theorem d_WK_elementBecomes_37 : decode b_WK_elementBecomes 37 = .ok (.dload 5, 2) := by decide +kernel
theorem d_WK_elementBecomes_39 : decode b_WK_elementBecomes 39 = .ok (.dreturn, 1) := by decide +kernel
theorem d_WK_localBecomes_0 : decode b_WK_localBecomes 0 = .ok (.aload 4, 2) := by decide +kernel
theorem d_WK_localBecomes_2 : decode b_WK_localBecomes 2 = .ok (.invokevirtual 92, 3) := by decide +kernel
theorem d_WK_localBecomes_5 : decode b_WK_localBecomes 5 = .ok (.ifCond .ne 9, 3) := by decide +kernel
theorem d_WK_localBecomes_8 : decode b_WK_localBecomes 8 = .ok (.aload_n 0, 1) := by decide +kernel
theorem d_WK_localBecomes_9 : decode b_WK_localBecomes 9 = .ok (.iconst 4, 1) := by decide +kernel
theorem d_WK_localBecomes_10 : decode b_WK_localBecomes 10 = .ok (.invokevirtual 99, 3) := by decide +kernel
theorem d_WK_localBecomes_13 : decode b_WK_localBecomes 13 = .ok (.dreturn, 1) := by decide +kernel
theorem d_WK_localBecomes_14 : decode b_WK_localBecomes 14 = .ok (.aload 4, 2) := by decide +kernel
theorem d_WK_localBecomes_16 : decode b_WK_localBecomes 16 = .ok (.getfield 96, 3) := by decide +kernel
theorem d_WK_localBecomes_19 : decode b_WK_localBecomes 19 = .ok (.iload_n 1, 1) := by decide +kernel
theorem d_WK_localBecomes_20 : decode b_WK_localBecomes 20 = .ok (.dload_n 2, 1) := by decide +kernel
theorem d_WK_localBecomes_21 : decode b_WK_localBecomes 21 = .ok (.dastore, 1) := by decide +kernel
theorem d_WK_localBecomes_22 : decode b_WK_localBecomes 22 = .ok (.dload_n 2, 1) := by decide +kernel
theorem d_WK_localBecomes_23 : decode b_WK_localBecomes 23 = .ok (.dreturn, 1) := by decide +kernel
theorem d_WK_parameterBecomes_0 : decode b_WK_parameterBecomes 0 = .ok (.aload 4, 2) := by decide +kernel
theorem d_WK_parameterBecomes_2 : decode b_WK_parameterBecomes 2 = .ok (.iload_n 1, 1) := by decide +kernel
theorem d_WK_parameterBecomes_3 : decode b_WK_parameterBecomes 3 = .ok (.invokevirtual 163, 3) := by decide +kernel
theorem d_WK_parameterBecomes_6 : decode b_WK_parameterBecomes 6 = .ok (.ifCond .ne 9, 3) := by decide +kernel
theorem d_WK_parameterBecomes_9 : decode b_WK_parameterBecomes 9 = .ok (.aload_n 0, 1) := by decide +kernel
theorem d_WK_parameterBecomes_10 : decode b_WK_parameterBecomes 10 = .ok (.iconst 4, 1) := by decide +kernel
theorem d_WK_parameterBecomes_11 : decode b_WK_parameterBecomes 11 = .ok (.invokevirtual 99, 3) := by decide +kernel
theorem d_WK_parameterBecomes_14 : decode b_WK_parameterBecomes 14 = .ok (.dreturn, 1) := by decide +kernel
theorem d_WK_parameterBecomes_15 : decode b_WK_parameterBecomes 15 = .ok (.aload 4, 2) := by decide +kernel
theorem d_WK_parameterBecomes_17 : decode b_WK_parameterBecomes 17 = .ok (.iload_n 1, 1) := by decide +kernel
theorem d_WK_parameterBecomes_18 : decode b_WK_parameterBecomes 18 = .ok (.invokevirtual 166, 3) := by decide +kernel
theorem d_WK_parameterBecomes_21 : decode b_WK_parameterBecomes 21 = .ok (.ifCond .ne 13, 3) := by decide +kernel
theorem d_WK_parameterBecomes_24 : decode b_WK_parameterBecomes 24 = .ok (.aload 4, 2) := by decide +kernel
theorem d_WK_parameterBecomes_26 : decode b_WK_parameterBecomes 26 = .ok (.getfield 169, 3) := by decide +kernel
theorem d_WK_parameterBecomes_29 : decode b_WK_parameterBecomes 29 = .ok (.iload_n 1, 1) := by decide +kernel
theorem d_WK_parameterBecomes_30 : decode b_WK_parameterBecomes 30 = .ok (.dload_n 2, 1) := by decide +kernel
theorem d_WK_parameterBecomes_31 : decode b_WK_parameterBecomes 31 = .ok (.dastore, 1) := by decide +kernel
theorem d_WK_parameterBecomes_32 : decode b_WK_parameterBecomes 32 = .ok (.dload_n 2, 1) := by decide +kernel
theorem d_WK_parameterBecomes_33 : decode b_WK_parameterBecomes 33 = .ok (.dreturn, 1) := by decide +kernel
theorem d_WK_parameterBecomes_34 : decode b_WK_parameterBecomes 34 = .ok (.aload_n 0, 1) := by decide +kernel
theorem d_WK_parameterBecomes_35 : decode b_WK_parameterBecomes 35 = .ok (.invokevirtual 172, 3) := by decide +kernel
theorem d_WK_parameterBecomes_38 : decode b_WK_parameterBecomes 38 = .ok (.ifCond .ne 5, 3) := by decide +kernel
theorem d_WK_parameterBecomes_41 : decode b_WK_parameterBecomes 41 = .ok (.dconst 0, 1) := by decide +kernel
theorem d_WK_parameterBecomes_42 : decode b_WK_parameterBecomes 42 = .ok (.dreturn, 1) := by decide +kernel
theorem d_WK_parameterBecomes_43 : decode b_WK_parameterBecomes 43 = .ok (.aload_n 0, 1) := by decide +kernel
theorem d_WK_parameterBecomes_44 : decode b_WK_parameterBecomes 44 = .ok (.aload 4, 2) := by decide +kernel
theorem d_WK_parameterBecomes_46 : decode b_WK_parameterBecomes 46 = .ok (.getfield 175, 3) := by decide +kernel
theorem d_WK_parameterBecomes_49 : decode b_WK_parameterBecomes 49 = .ok (.iload_n 1, 1) := by decide +kernel
theorem d_WK_parameterBecomes_50 : decode b_WK_parameterBecomes 50 = .ok (.iaload, 1) := by decide +kernel
theorem d_WK_parameterBecomes_51 : decode b_WK_parameterBecomes 51 = .ok (.dload_n 2, 1) := by decide +kernel
theorem d_WK_parameterBecomes_52 : decode b_WK_parameterBecomes 52 = .ok (.aload 4, 2) := by decide +kernel
theorem d_WK_parameterBecomes_54 : decode b_WK_parameterBecomes 54 = .ok (.getfield 178, 3) := by decide +kernel
theorem d_WK_parameterBecomes_57 : decode b_WK_parameterBecomes 57 = .ok (.iload 5, 2) := by decide +kernel
theorem d_WK_parameterBecomes_59 : decode b_WK_parameterBecomes 59 = .ok (.invokevirtual 211, 3) := by decide +kernel
theorem d_WK_parameterBecomes_62 : decode b_WK_parameterBecomes 62 = .ok (.dstore 6, 2) := by decide +kernel
theorem d_WK_parameterBecomes_64 : decode b_WK_parameterBecomes 64 = .ok (.aload_n 0, 1) := by decide +kernel
theorem d_WK_parameterBecomes_65 : decode b_WK_parameterBecomes 65 = .ok (.dup, 1) := by decide +kernel
theorem d_WK_parameterBecomes_66 : decode b_WK_parameterBecomes 66 = .ok (.getfield 57, 3) := by decide +kernel
theorem d_WK_parameterBecomes_69 : decode b_WK_parameterBecomes 69 = .ok (.iconst 1, 1) := by decide +kernel
theorem d_WK_parameterBecomes_70 : decode b_WK_parameterBecomes 70 = .ok (.isub, 1) := by decide +kernel
theorem d_WK_parameterBecomes_71 : decode b_WK_parameterBecomes 71 = .ok (.putfield 57, 3) := by decide +kernel
theorem d_WK_parameterBecomes_74 : decode b_WK_parameterBecomes 74 = .ok (.dload 6, 2) := by decide +kernel
theorem d_WK_parameterBecomes_76 : decode b_WK_parameterBecomes 76 = .ok (.dreturn, 1) := by decide +kernel
theorem d_WK_sequence_0 : decode b_WK_sequence 0 = .ok (.aload_n 0, 1) := by decide +kernel
theorem d_WK_sequence_1 : decode b_WK_sequence 1 = .ok (.aload_n 0, 1) := by decide +kernel
theorem d_WK_sequence_2 : decode b_WK_sequence 2 = .ok (.getfield 30, 3) := by decide +kernel
theorem d_WK_sequence_5 : decode b_WK_sequence 5 = .ok (.getfield 70, 3) := by decide +kernel
theorem d_WK_sequence_8 : decode b_WK_sequence 8 = .ok (.iload_n 1, 1) := by decide +kernel
theorem d_WK_sequence_9 : decode b_WK_sequence 9 = .ok (.iaload, 1) := by decide +kernel
theorem d_WK_sequence_10 : decode b_WK_sequence 10 = .ok (.aload_n 2, 1) := by decide +kernel
theorem d_WK_sequence_11 : decode b_WK_sequence 11 = .ok (.iload_n 3, 1) := by decide +kernel
theorem d_WK_sequence_12 : decode b_WK_sequence 12 = .ok (.iconst 1, 1) := by decide +kernel
theorem d_WK_sequence_13 : decode b_WK_sequence 13 = .ok (.iadd, 1) := by decide +kernel
theorem d_WK_sequence_14 : decode b_WK_sequence 14 = .ok (.invokevirtual 53, 3) := by decide +kernel
theorem d_WK_sequence_17 : decode b_WK_sequence 17 = .ok (.pop2, 1) := by decide +kernel
theorem d_WK_sequence_18 : decode b_WK_sequence 18 = .ok (.aload_n 0, 1) := by decide +kernel
theorem d_WK_sequence_19 : decode b_WK_sequence 19 = .ok (.invokevirtual 124, 3) := by decide +kernel
theorem d_WK_sequence_22 : decode b_WK_sequence 22 = .ok (.ifCond .eq 7, 3) := by decide +kernel
theorem d_WK_sequence_25 : decode b_WK_sequence 25 = .ok (.dconst 0, 1) := by decide +kernel
theorem d_WK_sequence_26 : decode b_WK_sequence 26 = .ok (.goto 20, 3) := by decide +kernel
theorem d_WK_sequence_29 : decode b_WK_sequence 29 = .ok (.aload_n 0, 1) := by decide +kernel
theorem d_WK_sequence_30 : decode b_WK_sequence 30 = .ok (.aload_n 0, 1) := by decide +kernel
theorem d_WK_sequence_31 : decode b_WK_sequence 31 = .ok (.getfield 30, 3) := by decide +kernel
theorem d_WK_sequence_34 : decode b_WK_sequence 34 = .ok (.getfield 127, 3) := by decide +kernel
theorem d_WK_sequence_37 : decode b_WK_sequence 37 = .ok (.iload_n 1, 1) := by decide +kernel
theorem d_WK_sequence_38 : decode b_WK_sequence 38 = .ok (.iaload, 1) := by decide +kernel
theorem d_WK_sequence_39 : decode b_WK_sequence 39 = .ok (.aload_n 2, 1) := by decide +kernel
theorem d_WK_sequence_40 : decode b_WK_sequence 40 = .ok (.iload_n 3, 1) := by decide +kernel
theorem d_WK_sequence_41 : decode b_WK_sequence 41 = .ok (.iconst 1, 1) := by decide +kernel
theorem d_WK_sequence_42 : decode b_WK_sequence 42 = .ok (.iadd, 1) := by decide +kernel
theorem d_WK_sequence_43 : decode b_WK_sequence 43 = .ok (.invokevirtual 53, 3) := by decide +kernel
theorem d_WK_sequence_46 : decode b_WK_sequence 46 = .ok (.dreturn, 1) := by decide +kernel
theorem d_WK_loop_0 : decode b_WK_loop 0 = .ok (.iconst 0, 1) := by decide +kernel
theorem d_WK_loop_1 : decode b_WK_loop 1 = .ok (.istore 4, 2) := by decide +kernel
theorem d_WK_loop_3 : decode b_WK_loop 3 = .ok (.iload 4, 2) := by decide +kernel
theorem d_WK_loop_5 : decode b_WK_loop 5 = .ok (.sipush 300, 3) := by decide +kernel
theorem d_WK_loop_8 : decode b_WK_loop 8 = .ok (.if_icmp .gt 71, 3) := by decide +kernel
theorem d_WK_loop_11 : decode b_WK_loop 11 = .ok (.aload_n 0, 1) := by decide +kernel
theorem d_WK_loop_12 : decode b_WK_loop 12 = .ok (.aload_n 0, 1) := by decide +kernel
theorem d_WK_loop_13 : decode b_WK_loop 13 = .ok (.getfield 30, 3) := by decide +kernel
theorem d_WK_loop_16 : decode b_WK_loop 16 = .ok (.getfield 70, 3) := by decide +kernel
theorem d_WK_loop_19 : decode b_WK_loop 19 = .ok (.iload_n 1, 1) := by decide +kernel
theorem d_WK_loop_20 : decode b_WK_loop 20 = .ok (.iaload, 1) := by decide +kernel
theorem d_WK_loop_21 : decode b_WK_loop 21 = .ok (.aload_n 2, 1) := by decide +kernel
theorem d_WK_loop_22 : decode b_WK_loop 22 = .ok (.iload_n 3, 1) := by decide +kernel
theorem d_WK_loop_23 : decode b_WK_loop 23 = .ok (.iconst 1, 1) := by decide +kernel
theorem d_WK_loop_24 : decode b_WK_loop 24 = .ok (.iadd, 1) := by decide +kernel
theorem d_WK_loop_25 : decode b_WK_loop 25 = .ok (.invokevirtual 53, 3) := by decide +kernel
theorem d_WK_loop_28 : decode b_WK_loop 28 = .ok (.dstore 5, 2) := by decide +kernel
theorem d_WK_loop_30 : decode b_WK_loop 30 = .ok (.aload_n 0, 1) := by decide +kernel
theorem d_WK_loop_31 : decode b_WK_loop 31 = .ok (.invokevirtual 124, 3) := by decide +kernel
theorem d_WK_loop_34 : decode b_WK_loop 34 = .ok (.ifCond .ne 10, 3) := by decide +kernel
theorem d_WK_loop_37 : decode b_WK_loop 37 = .ok (.dload 5, 2) := by decide +kernel
theorem d_WK_loop_39 : decode b_WK_loop 39 = .ok (.dconst 0, 1) := by decide +kernel
theorem d_WK_loop_40 : decode b_WK_loop 40 = .ok (.dcmp .l, 1) := by decide +kernel
theorem d_WK_loop_41 : decode b_WK_loop 41 = .ok (.ifCond .ne 5, 3) := by decide +kernel
theorem d_WK_loop_44 : decode b_WK_loop 44 = .ok (.dconst 0, 1) := by decide +kernel
theorem d_WK_loop_45 : decode b_WK_loop 45 = .ok (.dreturn, 1) := by decide +kernel
theorem d_WK_loop_46 : decode b_WK_loop 46 = .ok (.aload_n 0, 1) := by decide +kernel
theorem d_WK_loop_47 : decode b_WK_loop 47 = .ok (.aload_n 0, 1) := by decide +kernel
theorem d_WK_loop_48 : decode b_WK_loop 48 = .ok (.getfield 30, 3) := by decide +kernel
theorem d_WK_loop_51 : decode b_WK_loop 51 = .ok (.getfield 127, 3) := by decide +kernel
theorem d_WK_loop_54 : decode b_WK_loop 54 = .ok (.iload_n 1, 1) := by decide +kernel
theorem d_WK_loop_55 : decode b_WK_loop 55 = .ok (.iaload, 1) := by decide +kernel
theorem d_WK_loop_56 : decode b_WK_loop 56 = .ok (.aload_n 2, 1) := by decide +kernel
theorem d_WK_loop_57 : decode b_WK_loop 57 = .ok (.iload_n 3, 1) := by decide +kernel
theorem d_WK_loop_58 : decode b_WK_loop 58 = .ok (.iconst 1, 1) := by decide +kernel
theorem d_WK_loop_59 : decode b_WK_loop 59 = .ok (.iadd, 1) := by decide +kernel
theorem d_WK_loop_60 : decode b_WK_loop 60 = .ok (.invokevirtual 53, 3) := by decide +kernel
theorem d_WK_loop_63 : decode b_WK_loop 63 = .ok (.pop2, 1) := by decide +kernel
theorem d_WK_loop_64 : decode b_WK_loop 64 = .ok (.aload_n 0, 1) := by decide +kernel
theorem d_WK_loop_65 : decode b_WK_loop 65 = .ok (.invokevirtual 124, 3) := by decide +kernel
theorem d_WK_loop_68 : decode b_WK_loop 68 = .ok (.ifCond .eq 5, 3) := by decide +kernel
theorem d_WK_loop_71 : decode b_WK_loop 71 = .ok (.dconst 0, 1) := by decide +kernel
theorem d_WK_loop_72 : decode b_WK_loop 72 = .ok (.dreturn, 1) := by decide +kernel
theorem d_WK_loop_73 : decode b_WK_loop 73 = .ok (.iinc 4 1, 3) := by decide +kernel
theorem d_WK_loop_76 : decode b_WK_loop 76 = .ok (.goto (-73), 3) := by decide +kernel
theorem d_WK_loop_79 : decode b_WK_loop 79 = .ok (.dconst 0, 1) := by decide +kernel
theorem d_WK_loop_80 : decode b_WK_loop 80 = .ok (.dreturn, 1) := by decide +kernel
theorem d_WK_jump_0 : decode b_WK_jump 0 = .ok (.aload_n 0, 1) := by decide +kernel
theorem d_WK_jump_1 : decode b_WK_jump 1 = .ok (.getfield 22, 3) := by decide +kernel
theorem d_WK_jump_4 : decode b_WK_jump 4 = .ok (.iload_n 1, 1) := by decide +kernel
theorem d_WK_jump_5 : decode b_WK_jump 5 = .ok (.iaload, 1) := by decide +kernel
theorem d_WK_jump_6 : decode b_WK_jump 6 = .ok (.ifCond .ne 9, 3) := by decide +kernel
theorem d_WK_jump_9 : decode b_WK_jump 9 = .ok (.aload_n 0, 1) := by decide +kernel
theorem d_WK_jump_10 : decode b_WK_jump 10 = .ok (.iconst 5, 1) := by decide +kernel
theorem d_WK_jump_11 : decode b_WK_jump 11 = .ok (.invokevirtual 99, 3) := by decide +kernel
theorem d_WK_jump_14 : decode b_WK_jump 14 = .ok (.dreturn, 1) := by decide +kernel
theorem d_WK_jump_15 : decode b_WK_jump 15 = .ok (.aload_n 0, 1) := by decide +kernel
theorem d_WK_jump_16 : decode b_WK_jump 16 = .ok (.iload_n 1, 1) := by decide +kernel
theorem d_WK_jump_17 : decode b_WK_jump 17 = .ok (.putfield 26, 3) := by decide +kernel
theorem d_WK_jump_20 : decode b_WK_jump 20 = .ok (.dconst 0, 1) := by decide +kernel
theorem d_WK_jump_21 : decode b_WK_jump 21 = .ok (.dreturn, 1) := by decide +kernel
theorem d_WK_label_0 : decode b_WK_label 0 = .ok (.aload_n 0, 1) := by decide +kernel
theorem d_WK_label_1 : decode b_WK_label 1 = .ok (.getfield 30, 3) := by decide +kernel
theorem d_WK_label_4 : decode b_WK_label 4 = .ok (.getfield 70, 3) := by decide +kernel
theorem d_WK_label_7 : decode b_WK_label 7 = .ok (.iload_n 1, 1) := by decide +kernel
theorem d_WK_label_8 : decode b_WK_label 8 = .ok (.iaload, 1) := by decide +kernel
theorem d_WK_label_9 : decode b_WK_label 9 = .ok (.istore 4, 2) := by decide +kernel
theorem d_WK_label_11 : decode b_WK_label 11 = .ok (.aload_n 0, 1) := by decide +kernel
theorem d_WK_label_12 : decode b_WK_label 12 = .ok (.getfield 22, 3) := by decide +kernel
theorem d_WK_label_15 : decode b_WK_label 15 = .ok (.iload 4, 2) := by decide +kernel
theorem d_WK_label_17 : decode b_WK_label 17 = .ok (.dup2, 1) := by decide +kernel
theorem d_WK_label_18 : decode b_WK_label 18 = .ok (.iaload, 1) := by decide +kernel
theorem d_WK_label_19 : decode b_WK_label 19 = .ok (.iconst 1, 1) := by decide +kernel
theorem d_WK_label_20 : decode b_WK_label 20 = .ok (.iadd, 1) := by decide +kernel
theorem d_WK_label_21 : decode b_WK_label 21 = .ok (.iastore, 1) := by decide +kernel
theorem d_WK_label_22 : decode b_WK_label 22 = .ok (.aload_n 0, 1) := by decide +kernel
theorem d_WK_label_23 : decode b_WK_label 23 = .ok (.aload_n 0, 1) := by decide +kernel
theorem d_WK_label_24 : decode b_WK_label 24 = .ok (.getfield 30, 3) := by decide +kernel
theorem d_WK_label_27 : decode b_WK_label 27 = .ok (.getfield 127, 3) := by decide +kernel
theorem d_WK_label_30 : decode b_WK_label 30 = .ok (.iload_n 1, 1) := by decide +kernel
theorem d_WK_label_31 : decode b_WK_label 31 = .ok (.iaload, 1) := by decide +kernel
theorem d_WK_label_32 : decode b_WK_label 32 = .ok (.aload_n 2, 1) := by decide +kernel
theorem d_WK_label_33 : decode b_WK_label 33 = .ok (.iload_n 3, 1) := by decide +kernel
theorem d_WK_label_34 : decode b_WK_label 34 = .ok (.iconst 1, 1) := by decide +kernel
theorem d_WK_label_35 : decode b_WK_label 35 = .ok (.iadd, 1) := by decide +kernel
theorem d_WK_label_36 : decode b_WK_label 36 = .ok (.invokevirtual 53, 3) := by decide +kernel
theorem d_WK_label_39 : decode b_WK_label 39 = .ok (.dstore 5, 2) := by decide +kernel
theorem d_WK_label_41 : decode b_WK_label 41 = .ok (.aload_n 0, 1) := by decide +kernel
theorem d_WK_label_42 : decode b_WK_label 42 = .ok (.getfield 22, 3) := by decide +kernel
theorem d_WK_label_45 : decode b_WK_label 45 = .ok (.iload 4, 2) := by decide +kernel
theorem d_WK_label_47 : decode b_WK_label 47 = .ok (.dup2, 1) := by decide +kernel
theorem d_WK_label_48 : decode b_WK_label 48 = .ok (.iaload, 1) := by decide +kernel
theorem d_WK_label_49 : decode b_WK_label 49 = .ok (.iconst 1, 1) := by decide +kernel
theorem d_WK_label_50 : decode b_WK_label 50 = .ok (.isub, 1) := by decide +kernel
theorem d_WK_label_51 : decode b_WK_label 51 = .ok (.iastore, 1) := by decide +kernel
theorem d_WK_label_52 : decode b_WK_label 52 = .ok (.aload_n 0, 1) := by decide +kernel
theorem d_WK_label_53 : decode b_WK_label 53 = .ok (.getfield 26, 3) := by decide +kernel
theorem d_WK_label_56 : decode b_WK_label 56 = .ok (.iload 4, 2) := by decide +kernel
theorem d_WK_label_58 : decode b_WK_label 58 = .ok (.if_icmp .eq 6, 3) := by decide +kernel
theorem d_WK_label_61 : decode b_WK_label 61 = .ok (.dload 5, 2) := by decide +kernel
theorem d_WK_label_63 : decode b_WK_label 63 = .ok (.dreturn, 1) := by decide +kernel
theorem d_WK_label_64 : decode b_WK_label 64 = .ok (.aload_n 0, 1) := by decide +kernel
theorem d_WK_label_65 : decode b_WK_label 65 = .ok (.iconst (-1), 1) := by decide +kernel
theorem d_WK_label_66 : decode b_WK_label 66 = .ok (.putfield 26, 3) := by decide +kernel
theorem d_WK_label_69 : decode b_WK_label 69 = .ok (.aload_n 0, 1) := by decide +kernel
theorem d_WK_label_70 : decode b_WK_label 70 = .ok (.dup, 1) := by decide +kernel
theorem d_WK_label_71 : decode b_WK_label 71 = .ok (.getfield 50, 3) := by decide +kernel
theorem d_WK_label_74 : decode b_WK_label 74 = .ok (.iconst 1, 1) := by decide +kernel
theorem d_WK_label_75 : decode b_WK_label 75 = .ok (.iadd, 1) := by decide +kernel
theorem d_WK_label_76 : decode b_WK_label 76 = .ok (.putfield 50, 3) := by decide +kernel
theorem d_WK_label_79 : decode b_WK_label 79 = .ok (.dconst 0, 1) := by decide +kernel
theorem d_WK_label_80 : decode b_WK_label 80 = .ok (.dreturn, 1) := by decide +kernel
theorem d_MO_init_0 : decode b_MO_init 0 = .ok (.aload_n 0, 1) := by decide +kernel
theorem d_MO_init_1 : decode b_MO_init 1 = .ok (.invokespecial 1, 3) := by decide +kernel
theorem d_MO_init_4 : decode b_MO_init 4 = .ok (.aload_n 0, 1) := by decide +kernel
theorem d_MO_init_5 : decode b_MO_init 5 = .ok (.bipush 48, 2) := by decide +kernel
theorem d_MO_init_7 : decode b_MO_init 7 = .ok (.newarray .int, 2) := by decide +kernel
theorem d_MO_init_9 : decode b_MO_init 9 = .ok (.putfield 7, 3) := by decide +kernel
theorem d_MO_init_12 : decode b_MO_init 12 = .ok (.aload_n 0, 1) := by decide +kernel
theorem d_MO_init_13 : decode b_MO_init 13 = .ok (.bipush 48, 2) := by decide +kernel
theorem d_MO_init_15 : decode b_MO_init 15 = .ok (.newarray .int, 2) := by decide +kernel
theorem d_MO_init_17 : decode b_MO_init 17 = .ok (.putfield 13, 3) := by decide +kernel
theorem d_MO_init_20 : decode b_MO_init 20 = .ok (.aload_n 0, 1) := by decide +kernel
theorem d_MO_init_21 : decode b_MO_init 21 = .ok (.bipush 48, 2) := by decide +kernel
theorem d_MO_init_23 : decode b_MO_init 23 = .ok (.newarray .int, 2) := by decide +kernel
theorem d_MO_init_25 : decode b_MO_init 25 = .ok (.putfield 16, 3) := by decide +kernel
theorem d_MO_init_28 : decode b_MO_init 28 = .ok (.aload_n 0, 1) := by decide +kernel
theorem d_MO_init_29 : decode b_MO_init 29 = .ok (.bipush 48, 2) := by decide +kernel
theorem d_MO_init_31 : decode b_MO_init 31 = .ok (.newarray .int, 2) := by decide +kernel
theorem d_MO_init_33 : decode b_MO_init 33 = .ok (.putfield 19, 3) := by decide +kernel
theorem d_MO_init_36 : decode b_MO_init 36 = .ok (.aload_n 0, 1) := by decide +kernel
theorem d_MO_init_37 : decode b_MO_init 37 = .ok (.iconst 4, 1) := by decide +kernel
theorem d_MO_init_38 : decode b_MO_init 38 = .ok (.newarray .int, 2) := by decide +kernel
theorem d_MO_init_40 : decode b_MO_init 40 = .ok (.putfield 22, 3) := by decide +kernel
theorem d_MO_init_43 : decode b_MO_init 43 = .ok (.aload_n 0, 1) := by decide +kernel
theorem d_MO_init_44 : decode b_MO_init 44 = .ok (.iconst 4, 1) := by decide +kernel
theorem d_MO_init_45 : decode b_MO_init 45 = .ok (.newarray .int, 2) := by decide +kernel
theorem d_MO_init_47 : decode b_MO_init 47 = .ok (.putfield 25, 3) := by decide +kernel
theorem d_MO_init_50 : decode b_MO_init 50 = .ok (.aload_n 0, 1) := by decide +kernel
theorem d_MO_init_51 : decode b_MO_init 51 = .ok (.iconst 4, 1) := by decide +kernel
theorem d_MO_init_52 : decode b_MO_init 52 = .ok (.newarray .int, 2) := by decide +kernel
theorem d_MO_init_54 : decode b_MO_init 54 = .ok (.putfield 28, 3) := by decide +kernel
theorem d_MO_init_57 : decode b_MO_init 57 = .ok (.aload_n 0, 1) := by decide +kernel
theorem d_MO_init_58 : decode b_MO_init 58 = .ok (.bipush 8, 2) := by decide +kernel
theorem d_MO_init_60 : decode b_MO_init 60 = .ok (.newarray .double, 2) := by decide +kernel
theorem d_MO_init_62 : decode b_MO_init 62 = .ok (.putfield 31, 3) := by decide +kernel
theorem d_MO_init_65 : decode b_MO_init 65 = .ok (.aload_n 0, 1) := by decide +kernel
theorem d_MO_init_66 : decode b_MO_init 66 = .ok (.bipush 25, 2) := by decide +kernel
theorem d_MO_init_68 : decode b_MO_init 68 = .ok (.newarray .double, 2) := by decide +kernel
theorem d_MO_init_70 : decode b_MO_init 70 = .ok (.putfield 35, 3) := by decide +kernel
theorem d_MO_init_73 : decode b_MO_init 73 = .ok (.aload_n 0, 1) := by decide +kernel
theorem d_MO_init_74 : decode b_MO_init 74 = .ok (.iconst 1, 1) := by decide +kernel
theorem d_MO_init_75 : decode b_MO_init 75 = .ok (.putfield 38, 3) := by decide +kernel
theorem d_MO_init_78 : decode b_MO_init 78 = .ok (.aload_n 0, 1) := by decide +kernel
theorem d_MO_init_79 : decode b_MO_init 79 = .ok (.iconst 1, 1) := by decide +kernel
theorem d_MO_init_80 : decode b_MO_init 80 = .ok (.putfield 42, 3) := by decide +kernel
theorem d_MO_init_83 : decode b_MO_init 83 = .ok (.aload_n 0, 1) := by decide +kernel
theorem d_MO_init_84 : decode b_MO_init 84 = .ok (.iconst 1, 1) := by decide +kernel
theorem d_MO_init_85 : decode b_MO_init 85 = .ok (.putfield 45, 3) := by decide +kernel
theorem d_MO_init_88 : decode b_MO_init 88 = .ok (.aload_n 0, 1) := by decide +kernel
theorem d_MO_init_89 : decode b_MO_init 89 = .ok (.iconst 1, 1) := by decide +kernel
theorem d_MO_init_90 : decode b_MO_init 90 = .ok (.putfield 48, 3) := by decide +kernel
theorem d_MO_init_93 : decode b_MO_init 93 = .ok (.aload_n 0, 1) := by decide +kernel
theorem d_MO_init_94 : decode b_MO_init 94 = .ok (.bipush 20, 2) := by decide +kernel
theorem d_MO_init_96 : decode b_MO_init 96 = .ok (.newarray .int, 2) := by decide +kernel
theorem d_MO_init_98 : decode b_MO_init 98 = .ok (.putfield 51, 3) := by decide +kernel
theorem d_MO_init_101 : decode b_MO_init 101 = .ok (.aload_n 0, 1) := by decide +kernel
theorem d_MO_init_102 : decode b_MO_init 102 = .ok (.bipush 20, 2) := by decide +kernel
theorem d_MO_init_104 : decode b_MO_init 104 = .ok (.newarray .int, 2) := by decide +kernel
theorem d_MO_init_106 : decode b_MO_init 106 = .ok (.putfield 54, 3) := by decide +kernel
theorem d_MO_init_109 : decode b_MO_init 109 = .ok (.aload_n 0, 1) := by decide +kernel
theorem d_MO_init_110 : decode b_MO_init 110 = .ok (.bipush 10, 2) := by decide +kernel
theorem d_MO_init_112 : decode b_MO_init 112 = .ok (.newarray .int, 2) := by decide +kernel
theorem d_MO_init_114 : decode b_MO_init 114 = .ok (.putfield 57, 3) := by decide +kernel
theorem d_MO_init_117 : decode b_MO_init 117 = .ok (.aload_n 0, 1) := by decide +kernel
theorem d_MO_init_118 : decode b_MO_init 118 = .ok (.bipush 10, 2) := by decide +kernel
theorem d_MO_init_120 : decode b_MO_init 120 = .ok (.newarray .int, 2) := by decide +kernel
theorem d_MO_init_122 : decode b_MO_init 122 = .ok (.putfield 60, 3) := by decide +kernel
theorem d_MO_init_125 : decode b_MO_init 125 = .ok (.aload_n 0, 1) := by decide +kernel
theorem d_MO_init_126 : decode b_MO_init 126 = .ok (.bipush 20, 2) := by decide +kernel
theorem d_MO_init_128 : decode b_MO_init 128 = .ok (.newarray .double, 2) := by decide +kernel
theorem d_MO_init_130 : decode b_MO_init 130 = .ok (.putfield 63, 3) := by decide +kernel
theorem d_MO_init_133 : decode b_MO_init 133 = .ok (.aload_n 0, 1) := by decide +kernel
theorem d_MO_init_134 : decode b_MO_init 134 = .ok (.bipush 20, 2) := by decide +kernel
theorem d_MO_init_136 : decode b_MO_init 136 = .ok (.newarray .double, 2) := by decide +kernel
theorem d_MO_init_138 : decode b_MO_init 138 = .ok (.putfield 66, 3) := by decide +kernel
theorem d_MO_init_141 : decode b_MO_init 141 = .ok (.aload_n 0, 1) := by decide +kernel
theorem d_MO_init_142 : decode b_MO_init 142 = .ok (.sipush 310, 3) := by decide +kernel
theorem d_MO_init_145 : decode b_MO_init 145 = .ok (.newarray .int, 2) := by decide +kernel
theorem d_MO_init_147 : decode b_MO_init 147 = .ok (.putfield 69, 3) := by decide +kernel
theorem d_MO_init_150 : decode b_MO_init 150 = .ok (.aload_n 0, 1) := by decide +kernel
theorem d_MO_init_151 : decode b_MO_init 151 = .ok (.sipush 310, 3) := by decide +kernel
theorem d_MO_init_154 : decode b_MO_init 154 = .ok (.newarray .int, 2) := by decide +kernel
theorem d_MO_init_156 : decode b_MO_init 156 = .ok (.putfield 72, 3) := by decide +kernel
theorem d_MO_init_159 : decode b_MO_init 159 = .ok (.aload_n 0, 1) := by decide +kernel
theorem d_MO_init_160 : decode b_MO_init 160 = .ok (.sipush 310, 3) := by decide +kernel
theorem d_MO_init_163 : decode b_MO_init 163 = .ok (.newarray .int, 2) := by decide +kernel
theorem d_MO_init_165 : decode b_MO_init 165 = .ok (.putfield 75, 3) := by decide +kernel
theorem d_MO_init_168 : decode b_MO_init 168 = .ok (.aload_n 0, 1) := by decide +kernel
theorem d_MO_init_169 : decode b_MO_init 169 = .ok (.sipush 310, 3) := by decide +kernel
theorem d_MO_init_172 : decode b_MO_init 172 = .ok (.newarray .int, 2) := by decide +kernel
theorem d_MO_init_174 : decode b_MO_init 174 = .ok (.putfield 78, 3) := by decide +kernel
theorem d_MO_init_177 : decode b_MO_init 177 = .ok (.aload_n 0, 1) := by decide +kernel
theorem d_MO_init_178 : decode b_MO_init 178 = .ok (.sipush 310, 3) := by decide +kernel
theorem d_MO_init_181 : decode b_MO_init 181 = .ok (.newarray .int, 2) := by decide +kernel
theorem d_MO_init_183 : decode b_MO_init 183 = .ok (.putfield 81, 3) := by decide +kernel
theorem d_MO_init_186 : decode b_MO_init 186 = .ok (.aload_n 0, 1) := by decide +kernel
theorem d_MO_init_187 : decode b_MO_init 187 = .ok (.sipush 310, 3) := by decide +kernel
theorem d_MO_init_190 : decode b_MO_init 190 = .ok (.newarray .int, 2) := by decide +kernel
theorem d_MO_init_192 : decode b_MO_init 192 = .ok (.putfield 84, 3) := by decide +kernel
theorem d_MO_init_195 : decode b_MO_init 195 = .ok (.aload_n 0, 1) := by decide +kernel
theorem d_MO_init_196 : decode b_MO_init 196 = .ok (.sipush 310, 3) := by decide +kernel
theorem d_MO_init_199 : decode b_MO_init 199 = .ok (.newarray .int, 2) := by decide +kernel
theorem d_MO_init_201 : decode b_MO_init 201 = .ok (.putfield 87, 3) := by decide +kernel
theorem d_MO_init_204 : decode b_MO_init 204 = .ok (.aload_n 0, 1) := by decide +kernel
theorem d_MO_init_205 : decode b_MO_init 205 = .ok (.sipush 310, 3) := by decide +kernel
theorem d_MO_init_208 : decode b_MO_init 208 = .ok (.newarray .double, 2) := by decide +kernel
theorem d_MO_init_210 : decode b_MO_init 210 = .ok (.putfield 90, 3) := by decide +kernel
theorem d_MO_init_213 : decode b_MO_init 213 = .ok (.aload_n 0, 1) := by decide +kernel
theorem d_MO_init_214 : decode b_MO_init 214 = .ok (.sipush 310, 3) := by decide +kernel
theorem d_MO_init_217 : decode b_MO_init 217 = .ok (.newarray .double, 2) := by decide +kernel
theorem d_MO_init_219 : decode b_MO_init 219 = .ok (.putfield 93, 3) := by decide +kernel
theorem d_MO_init_222 : decode b_MO_init 222 = .ok (.iconst 0, 1) := by decide +kernel
theorem d_MO_init_223 : decode b_MO_init 223 = .ok (.istore_n 1, 1) := by decide +kernel
theorem d_MO_init_224 : decode b_MO_init 224 = .ok (.iload_n 1, 1) := by decide +kernel
theorem d_MO_init_225 : decode b_MO_init 225 = .ok (.iconst 4, 1) := by decide +kernel
theorem d_MO_init_226 : decode b_MO_init 226 = .ok (.if_icmp .ge 16, 3) := by decide +kernel
theorem d_MO_init_229 : decode b_MO_init 229 = .ok (.aload_n 0, 1) := by decide +kernel
theorem d_MO_init_230 : decode b_MO_init 230 = .ok (.getfield 22, 3) := by decide +kernel
theorem d_MO_init_233 : decode b_MO_init 233 = .ok (.iload_n 1, 1) := by decide +kernel
theorem d_MO_init_234 : decode b_MO_init 234 = .ok (.iconst (-1), 1) := by decide +kernel
theorem d_MO_init_235 : decode b_MO_init 235 = .ok (.iastore, 1) := by decide +kernel
theorem d_MO_init_236 : decode b_MO_init 236 = .ok (.iinc 1 1, 3) := by decide +kernel
theorem d_MO_init_239 : decode b_MO_init 239 = .ok (.goto (-15), 3) := by decide +kernel
theorem d_MO_init_242 : decode b_MO_init 242 = .ok (.return_, 1) := by decide +kernel
theorem d_MO_thrown_0 : decode b_MO_thrown 0 = .ok (.aload_n 0, 1) := by decide +kernel
theorem d_MO_thrown_1 : decode b_MO_thrown 1 = .ok (.getfield 96, 3) := by decide +kernel
theorem d_MO_thrown_4 : decode b_MO_thrown 4 = .ok (.ireturn, 1) := by decide +kernel
theorem d_MO_within_0 : decode b_MO_within 0 = .ok (.iload_n 0, 1) := by decide +kernel
theorem d_MO_within_1 : decode b_MO_within 1 = .ok (.iload_n 1, 1) := by decide +kernel
theorem d_MO_within_2 : decode b_MO_within 2 = .ok (.if_icmp .lt 12, 3) := by decide +kernel
theorem d_MO_within_5 : decode b_MO_within 5 = .ok (.iload_n 0, 1) := by decide +kernel
theorem d_MO_within_6 : decode b_MO_within 6 = .ok (.iload_n 2, 1) := by decide +kernel
theorem d_MO_within_7 : decode b_MO_within 7 = .ok (.if_icmp .gt 7, 3) := by decide +kernel
theorem d_MO_within_10 : decode b_MO_within 10 = .ok (.iconst 1, 1) := by decide +kernel
theorem d_MO_within_11 : decode b_MO_within 11 = .ok (.goto 4, 3) := by decide +kernel
theorem d_MO_within_14 : decode b_MO_within 14 = .ok (.iconst 0, 1) := by decide +kernel
theorem d_MO_within_15 : decode b_MO_within 15 = .ok (.ireturn, 1) := by decide +kernel
theorem d_MO_fail_0 : decode b_MO_fail 0 = .ok (.aload_n 0, 1) := by decide +kernel
theorem d_MO_fail_1 : decode b_MO_fail 1 = .ok (.iload_n 1, 1) := by decide +kernel
theorem d_MO_fail_2 : decode b_MO_fail 2 = .ok (.putfield 96, 3) := by decide +kernel
theorem d_MO_fail_5 : decode b_MO_fail 5 = .ok (.iconst 0, 1) := by decide +kernel
theorem d_MO_fail_6 : decode b_MO_fail 6 = .ok (.ireturn, 1) := by decide +kernel
theorem d_MO_round_0 : decode b_MO_round 0 = .ok (.dload_n 0, 1) := by decide +kernel
theorem d_MO_round_1 : decode b_MO_round 1 = .ok (.ldc2_w 99, 3) := by decide +kernel
theorem d_MO_round_4 : decode b_MO_round 4 = .ok (.dadd, 1) := by decide +kernel
theorem d_MO_round_5 : decode b_MO_round 5 = .ok (.dstore_n 2, 1) := by decide +kernel
theorem d_MO_round_6 : decode b_MO_round 6 = .ok (.dload_n 2, 1) := by decide +kernel
theorem d_MO_round_7 : decode b_MO_round 7 = .ok (.d2l, 1) := by decide +kernel
theorem d_MO_round_8 : decode b_MO_round 8 = .ok (.l2d, 1) := by decide +kernel
theorem d_MO_round_9 : decode b_MO_round 9 = .ok (.dstore 4, 2) := by decide +kernel
theorem d_MO_round_11 : decode b_MO_round 11 = .ok (.dload 4, 2) := by decide +kernel
theorem d_MO_round_13 : decode b_MO_round 13 = .ok (.dload_n 2, 1) := by decide +kernel
theorem d_MO_round_14 : decode b_MO_round 14 = .ok (.dcmp .l, 1) := by decide +kernel
theorem d_MO_round_15 : decode b_MO_round 15 = .ok (.ifCond .le 10, 3) := by decide +kernel
theorem d_MO_round_18 : decode b_MO_round 18 = .ok (.dload 4, 2) := by decide +kernel
theorem d_MO_round_20 : decode b_MO_round 20 = .ok (.dconst 1, 1) := by decide +kernel
theorem d_MO_round_21 : decode b_MO_round 21 = .ok (.dsub, 1) := by decide +kernel
theorem d_MO_round_22 : decode b_MO_round 22 = .ok (.goto 5, 3) := by decide +kernel
theorem d_MO_round_25 : decode b_MO_round 25 = .ok (.dload 4, 2) := by decide +kernel
theorem d_MO_round_27 : decode b_MO_round 27 = .ok (.dreturn, 1) := by decide +kernel
theorem d_MO_isGood_0 : decode b_MO_isGood 0 = .ok (.dload_n 0, 1) := by decide +kernel
theorem d_MO_isGood_1 : decode b_MO_isGood 1 = .ok (.ldc2_w 101, 3) := by decide +kernel
theorem d_MO_isGood_4 : decode b_MO_isGood 4 = .ok (.dcmp .g, 1) := by decide +kernel
theorem d_MO_isGood_5 : decode b_MO_isGood 5 = .ok (.ifCond .gt 15, 3) := by decide +kernel
theorem d_MO_isGood_8 : decode b_MO_isGood 8 = .ok (.dload_n 0, 1) := by decide +kernel
theorem d_MO_isGood_9 : decode b_MO_isGood 9 = .ok (.ldc2_w 103, 3) := by decide +kernel
theorem d_MO_isGood_12 : decode b_MO_isGood 12 = .ok (.dcmp .l, 1) := by decide +kernel
theorem d_MO_isGood_13 : decode b_MO_isGood 13 = .ok (.ifCond .lt 7, 3) := by decide +kernel
theorem d_MO_isGood_16 : decode b_MO_isGood 16 = .ok (.iconst 1, 1) := by decide +kernel
theorem d_MO_isGood_17 : decode b_MO_isGood 17 = .ok (.goto 4, 3) := by decide +kernel
theorem d_MO_isGood_20 : decode b_MO_isGood 20 = .ok (.iconst 0, 1) := by decide +kernel
theorem d_MO_isGood_21 : decode b_MO_isGood 21 = .ok (.ireturn, 1) := by decide +kernel
theorem d_MO_isNode_0 : decode b_MO_isNode 0 = .ok (.iload_n 1, 1) := by decide +kernel
theorem d_MO_isNode_1 : decode b_MO_isNode 1 = .ok (.iconst 0, 1) := by decide +kernel
theorem d_MO_isNode_2 : decode b_MO_isNode 2 = .ok (.aload_n 0, 1) := by decide +kernel
theorem d_MO_isNode_3 : decode b_MO_isNode 3 = .ok (.getfield 105, 3) := by decide +kernel
theorem d_MO_isNode_6 : decode b_MO_isNode 6 = .ok (.iconst 1, 1) := by decide +kernel
theorem d_MO_isNode_7 : decode b_MO_isNode 7 = .ok (.isub, 1) := by decide +kernel
theorem d_MO_isNode_8 : decode b_MO_isNode 8 = .ok (.invokestatic 108, 3) := by decide +kernel
theorem d_MO_isNode_11 : decode b_MO_isNode 11 = .ok (.ireturn, 1) := by decide +kernel
theorem d_MO_fits_0 : decode b_MO_fits 0 = .ok (.iload_n 1, 1) := by decide +kernel
theorem d_MO_fits_1 : decode b_MO_fits 1 = .ok (.tableswitch 208 0 17 #[87, 89, 208, 208, 208, 208, 208, 208, 208, 177, 97, 97, 134, 208, 208, 208, 104, 111], 87) := by decide +kernel
theorem d_MO_fits_88 : decode b_MO_fits 88 = .ok (.iconst 1, 1) := by decide +kernel
theorem d_MO_fits_89 : decode b_MO_fits 89 = .ok (.ireturn, 1) := by decide +kernel
theorem d_MO_fits_90 : decode b_MO_fits 90 = .ok (.iload_n 2, 1) := by decide +kernel
theorem d_MO_fits_91 : decode b_MO_fits 91 = .ok (.iconst 0, 1) := by decide +kernel
theorem d_MO_fits_92 : decode b_MO_fits 92 = .ok (.bipush 7, 2) := by decide +kernel
theorem d_MO_fits_94 : decode b_MO_fits 94 = .ok (.invokestatic 108, 3) := by decide +kernel
theorem d_MO_fits_97 : decode b_MO_fits 97 = .ok (.ireturn, 1) := by decide +kernel
theorem d_MO_fits_98 : decode b_MO_fits 98 = .ok (.iload_n 2, 1) := by decide +kernel
theorem d_MO_fits_99 : decode b_MO_fits 99 = .ok (.iconst 0, 1) := by decide +kernel
theorem d_MO_fits_100 : decode b_MO_fits 100 = .ok (.iconst 1, 1) := by decide +kernel
theorem d_MO_fits_101 : decode b_MO_fits 101 = .ok (.invokestatic 108, 3) := by decide +kernel
theorem d_MO_fits_104 : decode b_MO_fits 104 = .ok (.ireturn, 1) := by decide +kernel
theorem d_MO_fits_105 : decode b_MO_fits 105 = .ok (.iload_n 2, 1) := by decide +kernel
theorem d_MO_fits_106 : decode b_MO_fits 106 = .ok (.iconst 0, 1) := by decide +kernel
theorem d_MO_fits_107 : decode b_MO_fits 107 = .ok (.iconst 3, 1) := by decide +kernel
theorem d_MO_fits_108 : decode b_MO_fits 108 = .ok (.invokestatic 108, 3) := by decide +kernel
theorem d_MO_fits_111 : decode b_MO_fits 111 = .ok (.ireturn, 1) := by decide +kernel
theorem d_MO_fits_112 : decode b_MO_fits 112 = .ok (.iload_n 2, 1) := by decide +kernel
theorem d_MO_fits_113 : decode b_MO_fits 113 = .ok (.iconst 0, 1) := by decide +kernel
theorem d_MO_fits_114 : decode b_MO_fits 114 = .ok (.iconst 3, 1) := by decide +kernel
theorem d_MO_fits_115 : decode b_MO_fits 115 = .ok (.invokestatic 108, 3) := by decide +kernel
theorem d_MO_fits_118 : decode b_MO_fits 118 = .ok (.ifCond .eq 15, 3) := by decide +kernel
theorem d_MO_fits_121 : decode b_MO_fits 121 = .ok (.aload_n 0, 1) := by decide +kernel
theorem d_MO_fits_122 : decode b_MO_fits 122 = .ok (.iload_n 3, 1) := by decide +kernel
theorem d_MO_fits_123 : decode b_MO_fits 123 = .ok (.invokevirtual 112, 3) := by decide +kernel
theorem d_MO_fits_126 : decode b_MO_fits 126 = .ok (.ifCond .eq 7, 3) := by decide +kernel
theorem d_MO_fits_129 : decode b_MO_fits 129 = .ok (.iconst 1, 1) := by decide +kernel
theorem d_MO_fits_130 : decode b_MO_fits 130 = .ok (.goto 4, 3) := by decide +kernel
theorem d_MO_fits_133 : decode b_MO_fits 133 = .ok (.iconst 0, 1) := by decide +kernel
theorem d_MO_fits_134 : decode b_MO_fits 134 = .ok (.ireturn, 1) := by decide +kernel
theorem d_MO_fits_135 : decode b_MO_fits 135 = .ok (.iload_n 2, 1) := by decide +kernel
theorem d_MO_fits_136 : decode b_MO_fits 136 = .ok (.iconst 0, 1) := by decide +kernel
theorem d_MO_fits_137 : decode b_MO_fits 137 = .ok (.iconst 3, 1) := by decide +kernel
theorem d_MO_fits_138 : decode b_MO_fits 138 = .ok (.invokestatic 108, 3) := by decide +kernel
theorem d_MO_fits_141 : decode b_MO_fits 141 = .ok (.ifCond .eq 35, 3) := by decide +kernel
theorem d_MO_fits_144 : decode b_MO_fits 144 = .ok (.iload_n 3, 1) := by decide +kernel
theorem d_MO_fits_145 : decode b_MO_fits 145 = .ok (.iconst (-1), 1) := by decide +kernel
theorem d_MO_fits_146 : decode b_MO_fits 146 = .ok (.if_icmp .eq 11, 3) := by decide +kernel
theorem d_MO_fits_149 : decode b_MO_fits 149 = .ok (.aload_n 0, 1) := by decide +kernel
theorem d_MO_fits_150 : decode b_MO_fits 150 = .ok (.iload_n 3, 1) := by decide +kernel
theorem d_MO_fits_151 : decode b_MO_fits 151 = .ok (.invokevirtual 112, 3) := by decide +kernel
theorem d_MO_fits_154 : decode b_MO_fits 154 = .ok (.ifCond .eq 22, 3) := by decide +kernel
theorem d_MO_fits_157 : decode b_MO_fits 157 = .ok (.iload 4, 2) := by decide +kernel
theorem d_MO_fits_159 : decode b_MO_fits 159 = .ok (.iconst (-1), 1) := by decide +kernel
theorem d_MO_fits_160 : decode b_MO_fits 160 = .ok (.if_icmp .eq 12, 3) := by decide +kernel
theorem d_MO_fits_163 : decode b_MO_fits 163 = .ok (.aload_n 0, 1) := by decide +kernel
theorem d_MO_fits_164 : decode b_MO_fits 164 = .ok (.iload 4, 2) := by decide +kernel
theorem d_MO_fits_166 : decode b_MO_fits 166 = .ok (.invokevirtual 112, 3) := by decide +kernel
theorem d_MO_fits_169 : decode b_MO_fits 169 = .ok (.ifCond .eq 7, 3) := by decide +kernel
theorem d_MO_fits_172 : decode b_MO_fits 172 = .ok (.iconst 1, 1) := by decide +kernel
theorem d_MO_fits_173 : decode b_MO_fits 173 = .ok (.goto 4, 3) := by decide +kernel
theorem d_MO_fits_176 : decode b_MO_fits 176 = .ok (.iconst 0, 1) := by decide +kernel
theorem d_MO_fits_177 : decode b_MO_fits 177 = .ok (.ireturn, 1) := by decide +kernel
theorem d_MO_fits_178 : decode b_MO_fits 178 = .ok (.aload_n 0, 1) := by decide +kernel
theorem d_MO_fits_179 : decode b_MO_fits 179 = .ok (.iload_n 2, 1) := by decide +kernel
theorem d_MO_fits_180 : decode b_MO_fits 180 = .ok (.invokevirtual 112, 3) := by decide +kernel
theorem d_MO_fits_183 : decode b_MO_fits 183 = .ok (.ifCond .eq 24, 3) := by decide +kernel
theorem d_MO_fits_186 : decode b_MO_fits 186 = .ok (.aload_n 0, 1) := by decide +kernel
theorem d_MO_fits_187 : decode b_MO_fits 187 = .ok (.iload_n 3, 1) := by decide +kernel
theorem d_MO_fits_188 : decode b_MO_fits 188 = .ok (.invokevirtual 112, 3) := by decide +kernel
theorem d_MO_fits_191 : decode b_MO_fits 191 = .ok (.ifCond .eq 16, 3) := by decide +kernel
theorem d_MO_fits_194 : decode b_MO_fits 194 = .ok (.aload_n 0, 1) := by decide +kernel
theorem d_MO_fits_195 : decode b_MO_fits 195 = .ok (.iload 4, 2) := by decide +kernel
theorem d_MO_fits_197 : decode b_MO_fits 197 = .ok (.invokevirtual 112, 3) := by decide +kernel
theorem d_MO_fits_200 : decode b_MO_fits 200 = .ok (.ifCond .eq 7, 3) := by decide +kernel
theorem d_MO_fits_203 : decode b_MO_fits 203 = .ok (.iconst 1, 1) := by decide +kernel
theorem d_MO_fits_204 : decode b_MO_fits 204 = .ok (.goto 4, 3) := by decide +kernel
theorem d_MO_fits_207 : decode b_MO_fits 207 = .ok (.iconst 0, 1) := by decide +kernel
theorem d_MO_fits_208 : decode b_MO_fits 208 = .ok (.ireturn, 1) := by decide +kernel
theorem d_MO_fits_209 : decode b_MO_fits 209 = .ok (.iload_n 1, 1) := by decide +kernel
theorem d_MO_fits_210 : decode b_MO_fits 210 = .ok (.iconst 2, 1) := by decide +kernel
theorem d_MO_fits_211 : decode b_MO_fits 211 = .ok (.bipush 15, 2) := by decide +kernel
theorem d_MO_fits_213 : decode b_MO_fits 213 = .ok (.invokestatic 108, 3) := by decide +kernel
theorem d_MO_fits_216 : decode b_MO_fits 216 = .ok (.ifCond .eq 23, 3) := by decide +kernel
theorem d_MO_fits_219 : decode b_MO_fits 219 = .ok (.aload_n 0, 1) := by decide +kernel
theorem d_MO_fits_220 : decode b_MO_fits 220 = .ok (.iload_n 2, 1) := by decide +kernel
theorem d_MO_fits_221 : decode b_MO_fits 221 = .ok (.invokevirtual 112, 3) := by decide +kernel
theorem d_MO_fits_224 : decode b_MO_fits 224 = .ok (.ifCond .eq 15, 3) := by decide +kernel
theorem d_MO_fits_227 : decode b_MO_fits 227 = .ok (.aload_n 0, 1) := by decide +kernel
theorem d_MO_fits_228 : decode b_MO_fits 228 = .ok (.iload_n 3, 1) := by decide +kernel
theorem d_MO_fits_229 : decode b_MO_fits 229 = .ok (.invokevirtual 112, 3) := by decide +kernel
theorem d_MO_fits_232 : decode b_MO_fits 232 = .ok (.ifCond .eq 7, 3) := by decide +kernel
theorem d_MO_fits_235 : decode b_MO_fits 235 = .ok (.iconst 1, 1) := by decide +kernel
theorem d_MO_fits_236 : decode b_MO_fits 236 = .ok (.goto 4, 3) := by decide +kernel
theorem d_MO_fits_239 : decode b_MO_fits 239 = .ok (.iconst 0, 1) := by decide +kernel
theorem d_MO_fits_240 : decode b_MO_fits 240 = .ok (.ireturn, 1) := by decide +kernel
theorem d_MO_make_0 : decode b_MO_make 0 = .ok (.aload_n 0, 1) := by decide +kernel
theorem d_MO_make_1 : decode b_MO_make 1 = .ok (.iload_n 1, 1) := by decide +kernel
theorem d_MO_make_2 : decode b_MO_make 2 = .ok (.iload_n 2, 1) := by decide +kernel
theorem d_MO_make_3 : decode b_MO_make 3 = .ok (.iload_n 3, 1) := by decide +kernel
theorem d_MO_make_4 : decode b_MO_make 4 = .ok (.iload 4, 2) := by decide +kernel
theorem d_MO_make_6 : decode b_MO_make 6 = .ok (.invokevirtual 116, 3) := by decide +kernel
theorem d_MO_make_9 : decode b_MO_make 9 = .ok (.istore 5, 2) := by decide +kernel
theorem d_MO_make_11 : decode b_MO_make 11 = .ok (.iload 5, 2) := by decide +kernel
theorem d_MO_make_13 : decode b_MO_make 13 = .ok (.ifCond .ne 9, 3) := by decide +kernel
theorem d_MO_make_16 : decode b_MO_make 16 = .ok (.aload_n 0, 1) := by decide +kernel
theorem d_MO_make_17 : decode b_MO_make 17 = .ok (.iconst 1, 1) := by decide +kernel
theorem d_MO_make_18 : decode b_MO_make 18 = .ok (.invokevirtual 120, 3) := by decide +kernel
theorem d_MO_make_21 : decode b_MO_make 21 = .ok (.ireturn, 1) := by decide +kernel
theorem d_MO_make_22 : decode b_MO_make 22 = .ok (.aload_n 0, 1) := by decide +kernel
theorem d_MO_make_23 : decode b_MO_make 23 = .ok (.getfield 105, 3) := by decide +kernel
theorem d_MO_make_26 : decode b_MO_make 26 = .ok (.bipush 48, 2) := by decide +kernel
theorem d_MO_make_28 : decode b_MO_make 28 = .ok (.if_icmp .ne 9, 3) := by decide +kernel
theorem d_MO_make_31 : decode b_MO_make 31 = .ok (.aload_n 0, 1) := by decide +kernel
theorem d_MO_make_32 : decode b_MO_make 32 = .ok (.iconst 2, 1) := by decide +kernel
theorem d_MO_make_33 : decode b_MO_make 33 = .ok (.invokevirtual 120, 3) := by decide +kernel
theorem d_MO_make_36 : decode b_MO_make 36 = .ok (.ireturn, 1) := by decide +kernel
theorem d_MO_make_37 : decode b_MO_make 37 = .ok (.aload_n 0, 1) := by decide +kernel
theorem d_MO_make_38 : decode b_MO_make 38 = .ok (.iconst 0, 1) := by decide +kernel
theorem d_MO_make_39 : decode b_MO_make 39 = .ok (.putfield 96, 3) := by decide +kernel
theorem d_MO_make_42 : decode b_MO_make 42 = .ok (.iload_n 1, 1) := by decide +kernel
theorem d_MO_make_43 : decode b_MO_make 43 = .ok (.iconst 2, 1) := by decide +kernel
theorem d_MO_make_44 : decode b_MO_make 44 = .ok (.if_icmp .lt 21, 3) := by decide +kernel
theorem d_MO_make_47 : decode b_MO_make 47 = .ok (.iload_n 1, 1) := by decide +kernel
theorem d_MO_make_48 : decode b_MO_make 48 = .ok (.bipush 10, 2) := by decide +kernel
theorem d_MO_make_50 : decode b_MO_make 50 = .ok (.if_icmp .eq 15, 3) := by decide +kernel
theorem d_MO_make_53 : decode b_MO_make 53 = .ok (.iload_n 1, 1) := by decide +kernel
theorem d_MO_make_54 : decode b_MO_make 54 = .ok (.bipush 11, 2) := by decide +kernel
theorem d_MO_make_56 : decode b_MO_make 56 = .ok (.if_icmp .eq 9, 3) := by decide +kernel
theorem d_MO_make_59 : decode b_MO_make 59 = .ok (.iload_n 1, 1) := by decide +kernel
theorem d_MO_make_60 : decode b_MO_make 60 = .ok (.bipush 16, 2) := by decide +kernel
theorem d_MO_make_62 : decode b_MO_make 62 = .ok (.if_icmp .ne 7, 3) := by decide +kernel
theorem d_MO_make_65 : decode b_MO_make 65 = .ok (.iconst 1, 1) := by decide +kernel
theorem d_MO_make_66 : decode b_MO_make 66 = .ok (.goto 4, 3) := by decide +kernel
theorem d_MO_make_69 : decode b_MO_make 69 = .ok (.iconst 0, 1) := by decide +kernel
theorem d_MO_make_70 : decode b_MO_make 70 = .ok (.istore 6, 2) := by decide +kernel
theorem d_MO_make_72 : decode b_MO_make 72 = .ok (.aload_n 0, 1) := by decide +kernel
theorem d_MO_make_73 : decode b_MO_make 73 = .ok (.getfield 7, 3) := by decide +kernel
theorem d_MO_make_76 : decode b_MO_make 76 = .ok (.aload_n 0, 1) := by decide +kernel
theorem d_MO_make_77 : decode b_MO_make 77 = .ok (.getfield 105, 3) := by decide +kernel
theorem d_MO_make_80 : decode b_MO_make 80 = .ok (.iload_n 1, 1) := by decide +kernel
theorem d_MO_make_81 : decode b_MO_make 81 = .ok (.iastore, 1) := by decide +kernel
theorem d_MO_make_82 : decode b_MO_make 82 = .ok (.aload_n 0, 1) := by decide +kernel
theorem d_MO_make_83 : decode b_MO_make 83 = .ok (.getfield 13, 3) := by decide +kernel
theorem d_MO_make_86 : decode b_MO_make 86 = .ok (.aload_n 0, 1) := by decide +kernel
theorem d_MO_make_87 : decode b_MO_make 87 = .ok (.getfield 105, 3) := by decide +kernel
theorem d_MO_make_90 : decode b_MO_make 90 = .ok (.iload_n 2, 1) := by decide +kernel
theorem d_MO_make_91 : decode b_MO_make 91 = .ok (.iastore, 1) := by decide +kernel
theorem d_MO_make_92 : decode b_MO_make 92 = .ok (.aload_n 0, 1) := by decide +kernel
theorem d_MO_make_93 : decode b_MO_make 93 = .ok (.getfield 16, 3) := by decide +kernel
theorem d_MO_make_96 : decode b_MO_make 96 = .ok (.aload_n 0, 1) := by decide +kernel
theorem d_MO_make_97 : decode b_MO_make 97 = .ok (.getfield 105, 3) := by decide +kernel
theorem d_MO_make_100 : decode b_MO_make 100 = .ok (.iload 6, 2) := by decide +kernel
theorem d_MO_make_102 : decode b_MO_make 102 = .ok (.ifCond .eq 7, 3) := by decide +kernel
theorem d_MO_make_105 : decode b_MO_make 105 = .ok (.iconst (-1), 1) := by decide +kernel
theorem d_MO_make_106 : decode b_MO_make 106 = .ok (.goto 4, 3) := by decide +kernel
theorem d_MO_make_109 : decode b_MO_make 109 = .ok (.iload_n 3, 1) := by decide +kernel
theorem d_MO_make_110 : decode b_MO_make 110 = .ok (.iastore, 1) := by decide +kernel
theorem d_MO_make_111 : decode b_MO_make 111 = .ok (.aload_n 0, 1) := by decide +kernel
theorem d_MO_make_112 : decode b_MO_make 112 = .ok (.getfield 19, 3) := by decide +kernel
theorem d_MO_make_115 : decode b_MO_make 115 = .ok (.aload_n 0, 1) := by decide +kernel
theorem d_MO_make_116 : decode b_MO_make 116 = .ok (.getfield 105, 3) := by decide +kernel
theorem d_MO_make_119 : decode b_MO_make 119 = .ok (.iload_n 1, 1) := by decide +kernel
theorem d_MO_make_120 : decode b_MO_make 120 = .ok (.bipush 9, 2) := by decide +kernel
theorem d_MO_make_122 : decode b_MO_make 122 = .ok (.if_icmp .eq 9, 3) := by decide +kernel
theorem d_MO_make_125 : decode b_MO_make 125 = .ok (.iload_n 1, 1) := by decide +kernel
theorem d_MO_make_126 : decode b_MO_make 126 = .ok (.bipush 12, 2) := by decide +kernel
theorem d_MO_make_128 : decode b_MO_make 128 = .ok (.if_icmp .ne 8, 3) := by decide +kernel
theorem d_MO_make_131 : decode b_MO_make 131 = .ok (.iload 4, 2) := by decide +kernel
theorem d_MO_make_133 : decode b_MO_make 133 = .ok (.goto 4, 3) := by decide +kernel
theorem d_MO_make_136 : decode b_MO_make 136 = .ok (.iconst (-1), 1) := by decide +kernel
theorem d_MO_make_137 : decode b_MO_make 137 = .ok (.iastore, 1) := by decide +kernel
theorem d_MO_make_138 : decode b_MO_make 138 = .ok (.aload_n 0, 1) := by decide +kernel
theorem d_MO_make_139 : decode b_MO_make 139 = .ok (.dup, 1) := by decide +kernel
theorem d_MO_make_140 : decode b_MO_make 140 = .ok (.getfield 105, 3) := by decide +kernel
theorem d_MO_make_143 : decode b_MO_make 143 = .ok (.iconst 1, 1) := by decide +kernel
theorem d_MO_make_144 : decode b_MO_make 144 = .ok (.iadd, 1) := by decide +kernel
theorem d_MO_make_145 : decode b_MO_make 145 = .ok (.putfield 105, 3) := by decide +kernel
theorem d_MO_make_148 : decode b_MO_make 148 = .ok (.aload_n 0, 1) := by decide +kernel
theorem d_MO_make_149 : decode b_MO_make 149 = .ok (.getfield 105, 3) := by decide +kernel
theorem d_MO_make_152 : decode b_MO_make 152 = .ok (.iconst 1, 1) := by decide +kernel
theorem d_MO_make_153 : decode b_MO_make 153 = .ok (.isub, 1) := by decide +kernel
theorem d_MO_make_154 : decode b_MO_make 154 = .ok (.ireturn, 1) := by decide +kernel
theorem d_MO_procedure_0 : decode b_MO_procedure 0 = .ok (.aload_n 0, 1) := by decide +kernel
theorem d_MO_procedure_1 : decode b_MO_procedure 1 = .ok (.iload_n 1, 1) := by decide +kernel
theorem d_MO_procedure_2 : decode b_MO_procedure 2 = .ok (.iconst 0, 1) := by decide +kernel
theorem d_MO_procedure_3 : decode b_MO_procedure 3 = .ok (.iconst 3, 1) := by decide +kernel
theorem d_MO_procedure_4 : decode b_MO_procedure 4 = .ok (.invokestatic 108, 3) := by decide +kernel
theorem d_MO_procedure_7 : decode b_MO_procedure 7 = .ok (.ifCond .eq 34, 3) := by decide +kernel
theorem d_MO_procedure_10 : decode b_MO_procedure 10 = .ok (.aload_n 0, 1) := by decide +kernel
theorem d_MO_procedure_11 : decode b_MO_procedure 11 = .ok (.iload_n 2, 1) := by decide +kernel
theorem d_MO_procedure_12 : decode b_MO_procedure 12 = .ok (.invokevirtual 112, 3) := by decide +kernel
theorem d_MO_procedure_15 : decode b_MO_procedure 15 = .ok (.ifCond .eq 26, 3) := by decide +kernel
theorem d_MO_procedure_18 : decode b_MO_procedure 18 = .ok (.iload_n 3, 1) := by decide +kernel
theorem d_MO_procedure_19 : decode b_MO_procedure 19 = .ok (.iconst 0, 1) := by decide +kernel
theorem d_MO_procedure_20 : decode b_MO_procedure 20 = .ok (.iconst 2, 1) := by decide +kernel
theorem d_MO_procedure_21 : decode b_MO_procedure 21 = .ok (.invokestatic 108, 3) := by decide +kernel
theorem d_MO_procedure_24 : decode b_MO_procedure 24 = .ok (.ifCond .eq 17, 3) := by decide +kernel
theorem d_MO_procedure_27 : decode b_MO_procedure 27 = .ok (.iload 4, 2) := by decide +kernel
theorem d_MO_procedure_29 : decode b_MO_procedure 29 = .ok (.iconst 0, 1) := by decide +kernel
theorem d_MO_procedure_30 : decode b_MO_procedure 30 = .ok (.iconst 3, 1) := by decide +kernel
theorem d_MO_procedure_31 : decode b_MO_procedure 31 = .ok (.invokestatic 108, 3) := by decide +kernel
theorem d_MO_procedure_34 : decode b_MO_procedure 34 = .ok (.ifCond .eq 7, 3) := by decide +kernel
theorem d_MO_procedure_37 : decode b_MO_procedure 37 = .ok (.iconst 0, 1) := by decide +kernel
theorem d_MO_procedure_38 : decode b_MO_procedure 38 = .ok (.goto 4, 3) := by decide +kernel
theorem d_MO_procedure_41 : decode b_MO_procedure 41 = .ok (.iconst 1, 1) := by decide +kernel
theorem d_MO_procedure_42 : decode b_MO_procedure 42 = .ok (.putfield 96, 3) := by decide +kernel
theorem d_MO_procedure_45 : decode b_MO_procedure 45 = .ok (.aload_n 0, 1) := by decide +kernel
theorem d_MO_procedure_46 : decode b_MO_procedure 46 = .ok (.getfield 96, 3) := by decide +kernel
theorem d_MO_procedure_49 : decode b_MO_procedure 49 = .ok (.ifCond .le 4, 3) := by decide +kernel
theorem d_MO_procedure_52 : decode b_MO_procedure 52 = .ok (.return_, 1) := by decide +kernel
theorem d_MO_procedure_53 : decode b_MO_procedure 53 = .ok (.aload_n 0, 1) := by decide +kernel
theorem d_MO_procedure_54 : decode b_MO_procedure 54 = .ok (.getfield 22, 3) := by decide +kernel
theorem d_MO_procedure_57 : decode b_MO_procedure 57 = .ok (.iload_n 1, 1) := by decide +kernel
theorem d_MO_procedure_58 : decode b_MO_procedure 58 = .ok (.iload_n 2, 1) := by decide +kernel
theorem d_MO_procedure_59 : decode b_MO_procedure 59 = .ok (.iastore, 1) := by decide +kernel
theorem d_MO_procedure_60 : decode b_MO_procedure 60 = .ok (.aload_n 0, 1) := by decide +kernel
theorem d_MO_procedure_61 : decode b_MO_procedure 61 = .ok (.getfield 25, 3) := by decide +kernel
theorem d_MO_procedure_64 : decode b_MO_procedure 64 = .ok (.iload_n 1, 1) := by decide +kernel
theorem d_MO_procedure_65 : decode b_MO_procedure 65 = .ok (.iload_n 3, 1) := by decide +kernel
theorem d_MO_procedure_66 : decode b_MO_procedure 66 = .ok (.iastore, 1) := by decide +kernel
theorem d_MO_procedure_67 : decode b_MO_procedure 67 = .ok (.aload_n 0, 1) := by decide +kernel
theorem d_MO_procedure_68 : decode b_MO_procedure 68 = .ok (.getfield 28, 3) := by decide +kernel
theorem d_MO_procedure_71 : decode b_MO_procedure 71 = .ok (.iload_n 1, 1) := by decide +kernel
theorem d_MO_procedure_72 : decode b_MO_procedure 72 = .ok (.iload 4, 2) := by decide +kernel
theorem d_MO_procedure_74 : decode b_MO_procedure 74 = .ok (.iastore, 1) := by decide +kernel
theorem d_MO_procedure_75 : decode b_MO_procedure 75 = .ok (.return_, 1) := by decide +kernel
theorem d_MO_isRange_0 : decode b_MO_isRange 0 = .ok (.iload_n 0, 1) := by decide +kernel
theorem d_MO_isRange_1 : decode b_MO_isRange 1 = .ok (.bipush (-9), 2) := by decide +kernel
theorem d_MO_isRange_3 : decode b_MO_isRange 3 = .ok (.bipush 9, 2) := by decide +kernel
theorem d_MO_isRange_5 : decode b_MO_isRange 5 = .ok (.invokestatic 108, 3) := by decide +kernel
theorem d_MO_isRange_8 : decode b_MO_isRange 8 = .ok (.ifCond .eq 30, 3) := by decide +kernel
theorem d_MO_isRange_11 : decode b_MO_isRange 11 = .ok (.iload_n 1, 1) := by decide +kernel
theorem d_MO_isRange_12 : decode b_MO_isRange 12 = .ok (.bipush (-9), 2) := by decide +kernel
theorem d_MO_isRange_14 : decode b_MO_isRange 14 = .ok (.bipush 9, 2) := by decide +kernel
theorem d_MO_isRange_16 : decode b_MO_isRange 16 = .ok (.invokestatic 108, 3) := by decide +kernel
theorem d_MO_isRange_19 : decode b_MO_isRange 19 = .ok (.ifCond .eq 19, 3) := by decide +kernel
theorem d_MO_isRange_22 : decode b_MO_isRange 22 = .ok (.iload_n 0, 1) := by decide +kernel
theorem d_MO_isRange_23 : decode b_MO_isRange 23 = .ok (.iload_n 1, 1) := by decide +kernel
theorem d_MO_isRange_24 : decode b_MO_isRange 24 = .ok (.if_icmp .gt 14, 3) := by decide +kernel
theorem d_MO_isRange_27 : decode b_MO_isRange 27 = .ok (.iload_n 1, 1) := by decide +kernel
theorem d_MO_isRange_28 : decode b_MO_isRange 28 = .ok (.iload_n 0, 1) := by decide +kernel
theorem d_MO_isRange_29 : decode b_MO_isRange 29 = .ok (.isub, 1) := by decide +kernel
theorem d_MO_isRange_30 : decode b_MO_isRange 30 = .ok (.iconst 5, 1) := by decide +kernel
theorem d_MO_isRange_31 : decode b_MO_isRange 31 = .ok (.if_icmp .ge 7, 3) := by decide +kernel
theorem d_MO_isRange_34 : decode b_MO_isRange 34 = .ok (.iconst 1, 1) := by decide +kernel
theorem d_MO_isRange_35 : decode b_MO_isRange 35 = .ok (.goto 4, 3) := by decide +kernel
theorem d_MO_isRange_38 : decode b_MO_isRange 38 = .ok (.iconst 0, 1) := by decide +kernel
theorem d_MO_isRange_39 : decode b_MO_isRange 39 = .ok (.ireturn, 1) := by decide +kernel
theorem d_MO_bounds_0 : decode b_MO_bounds 0 = .ok (.iload_n 1, 1) := by decide +kernel
theorem d_MO_bounds_1 : decode b_MO_bounds 1 = .ok (.iload_n 2, 1) := by decide +kernel
theorem d_MO_bounds_2 : decode b_MO_bounds 2 = .ok (.invokestatic 124, 3) := by decide +kernel
theorem d_MO_bounds_5 : decode b_MO_bounds 5 = .ok (.ifCond .eq 12, 3) := by decide +kernel
theorem d_MO_bounds_8 : decode b_MO_bounds 8 = .ok (.iload_n 3, 1) := by decide +kernel
theorem d_MO_bounds_9 : decode b_MO_bounds 9 = .ok (.iload 4, 2) := by decide +kernel
theorem d_MO_bounds_11 : decode b_MO_bounds 11 = .ok (.invokestatic 124, 3) := by decide +kernel
theorem d_MO_bounds_14 : decode b_MO_bounds 14 = .ok (.ifCond .ne 9, 3) := by decide +kernel
theorem d_MO_bounds_17 : decode b_MO_bounds 17 = .ok (.aload_n 0, 1) := by decide +kernel
theorem d_MO_bounds_18 : decode b_MO_bounds 18 = .ok (.iconst 1, 1) := by decide +kernel
theorem d_MO_bounds_19 : decode b_MO_bounds 19 = .ok (.invokevirtual 120, 3) := by decide +kernel
theorem d_MO_bounds_22 : decode b_MO_bounds 22 = .ok (.ireturn, 1) := by decide +kernel
theorem d_MO_bounds_23 : decode b_MO_bounds 23 = .ok (.aload_n 0, 1) := by decide +kernel
theorem d_MO_bounds_24 : decode b_MO_bounds 24 = .ok (.iconst 0, 1) := by decide +kernel
theorem d_MO_bounds_25 : decode b_MO_bounds 25 = .ok (.putfield 96, 3) := by decide +kernel
theorem d_MO_bounds_28 : decode b_MO_bounds 28 = .ok (.aload_n 0, 1) := by decide +kernel
theorem d_MO_bounds_29 : decode b_MO_bounds 29 = .ok (.iload_n 1, 1) := by decide +kernel
theorem d_MO_bounds_30 : decode b_MO_bounds 30 = .ok (.putfield 38, 3) := by decide +kernel
theorem d_MO_bounds_33 : decode b_MO_bounds 33 = .ok (.aload_n 0, 1) := by decide +kernel
theorem d_MO_bounds_34 : decode b_MO_bounds 34 = .ok (.iload_n 2, 1) := by decide +kernel
theorem d_MO_bounds_35 : decode b_MO_bounds 35 = .ok (.putfield 42, 3) := by decide +kernel
theorem d_MO_bounds_38 : decode b_MO_bounds 38 = .ok (.aload_n 0, 1) := by decide +kernel
theorem d_MO_bounds_39 : decode b_MO_bounds 39 = .ok (.iload_n 3, 1) := by decide +kernel
theorem d_MO_bounds_40 : decode b_MO_bounds 40 = .ok (.putfield 45, 3) := by decide +kernel
theorem d_MO_bounds_43 : decode b_MO_bounds 43 = .ok (.aload_n 0, 1) := by decide +kernel
theorem d_MO_bounds_44 : decode b_MO_bounds 44 = .ok (.iload 4, 2) := by decide +kernel
theorem d_MO_bounds_46 : decode b_MO_bounds 46 = .ok (.putfield 48, 3) := by decide +kernel
theorem d_MO_bounds_49 : decode b_MO_bounds 49 = .ok (.iconst 0, 1) := by decide +kernel
theorem d_MO_bounds_50 : decode b_MO_bounds 50 = .ok (.istore 5, 2) := by decide +kernel
theorem d_MO_bounds_52 : decode b_MO_bounds 52 = .ok (.iload 5, 2) := by decide +kernel
theorem d_MO_bounds_54 : decode b_MO_bounds 54 = .ok (.bipush 25, 2) := by decide +kernel
theorem d_MO_bounds_56 : decode b_MO_bounds 56 = .ok (.if_icmp .ge 17, 3) := by decide +kernel
theorem d_MO_bounds_59 : decode b_MO_bounds 59 = .ok (.aload_n 0, 1) := by decide +kernel
theorem d_MO_bounds_60 : decode b_MO_bounds 60 = .ok (.getfield 35, 3) := by decide +kernel
theorem d_MO_bounds_63 : decode b_MO_bounds 63 = .ok (.iload 5, 2) := by decide +kernel
theorem d_MO_bounds_65 : decode b_MO_bounds 65 = .ok (.dconst 0, 1) := by decide +kernel
theorem d_MO_bounds_66 : decode b_MO_bounds 66 = .ok (.dastore, 1) := by decide +kernel
theorem d_MO_bounds_67 : decode b_MO_bounds 67 = .ok (.iinc 5 1, 3) := by decide +kernel
theorem d_MO_bounds_70 : decode b_MO_bounds 70 = .ok (.goto (-18), 3) := by decide +kernel
theorem d_MO_bounds_73 : decode b_MO_bounds 73 = .ok (.iload_n 2, 1) := by decide +kernel
theorem d_MO_bounds_74 : decode b_MO_bounds 74 = .ok (.iload_n 1, 1) := by decide +kernel
theorem d_MO_bounds_75 : decode b_MO_bounds 75 = .ok (.isub, 1) := by decide +kernel
theorem d_MO_bounds_76 : decode b_MO_bounds 76 = .ok (.iconst 1, 1) := by decide +kernel
theorem d_MO_bounds_77 : decode b_MO_bounds 77 = .ok (.iadd, 1) := by decide +kernel
theorem d_MO_bounds_78 : decode b_MO_bounds 78 = .ok (.iload 4, 2) := by decide +kernel
theorem d_MO_bounds_80 : decode b_MO_bounds 80 = .ok (.iload_n 3, 1) := by decide +kernel
theorem d_MO_bounds_81 : decode b_MO_bounds 81 = .ok (.isub, 1) := by decide +kernel
theorem d_MO_bounds_82 : decode b_MO_bounds 82 = .ok (.iconst 1, 1) := by decide +kernel
theorem d_MO_bounds_83 : decode b_MO_bounds 83 = .ok (.iadd, 1) := by decide +kernel
theorem d_MO_bounds_84 : decode b_MO_bounds 84 = .ok (.imul, 1) := by decide +kernel
theorem d_MO_bounds_85 : decode b_MO_bounds 85 = .ok (.ireturn, 1) := by decide +kernel
theorem d_MO_put_0 : decode b_MO_put 0 = .ok (.aload_n 0, 1) := by decide +kernel
theorem d_MO_put_1 : decode b_MO_put 1 = .ok (.iload_n 1, 1) := by decide +kernel
theorem d_MO_put_2 : decode b_MO_put 2 = .ok (.iconst 0, 1) := by decide +kernel
theorem d_MO_put_3 : decode b_MO_put 3 = .ok (.bipush 7, 2) := by decide +kernel
theorem d_MO_put_5 : decode b_MO_put 5 = .ok (.invokestatic 108, 3) := by decide +kernel
theorem d_MO_put_8 : decode b_MO_put 8 = .ok (.ifCond .eq 14, 3) := by decide +kernel
end
section
theorem d_MO_put_11 : decode b_MO_put 11 = .ok (.dload_n 2, 1) := by decide +kernel
theorem d_MO_put_12 : decode b_MO_put 12 = .ok (.invokestatic 128, 3) := by decide +kernel
theorem d_MO_put_15 : decode b_MO_put 15 = .ok (.ifCond .eq 7, 3) := by decide +kernel
theorem d_MO_put_18 : decode b_MO_put 18 = .ok (.iconst 0, 1) := by decide +kernel
theorem d_MO_put_19 : decode b_MO_put 19 = .ok (.goto 4, 3) := by decide +kernel
theorem d_MO_put_22 : decode b_MO_put 22 = .ok (.iconst 1, 1) := by decide +kernel
theorem d_MO_put_23 : decode b_MO_put 23 = .ok (.putfield 96, 3) := by decide +kernel
theorem d_MO_put_26 : decode b_MO_put 26 = .ok (.aload_n 0, 1) := by decide +kernel
theorem d_MO_put_27 : decode b_MO_put 27 = .ok (.getfield 96, 3) := by decide +kernel
theorem d_MO_put_30 : decode b_MO_put 30 = .ok (.ifCond .le 5, 3) := by decide +kernel
theorem d_MO_put_33 : decode b_MO_put 33 = .ok (.dconst 0, 1) := by decide +kernel
theorem d_MO_put_34 : decode b_MO_put 34 = .ok (.dreturn, 1) := by decide +kernel
theorem d_MO_put_35 : decode b_MO_put 35 = .ok (.aload_n 0, 1) := by decide +kernel
theorem d_MO_put_36 : decode b_MO_put 36 = .ok (.getfield 31, 3) := by decide +kernel
theorem d_MO_put_39 : decode b_MO_put 39 = .ok (.iload_n 1, 1) := by decide +kernel
theorem d_MO_put_40 : decode b_MO_put 40 = .ok (.daload, 1) := by decide +kernel
theorem d_MO_put_41 : decode b_MO_put 41 = .ok (.dstore 4, 2) := by decide +kernel
theorem d_MO_put_43 : decode b_MO_put 43 = .ok (.aload_n 0, 1) := by decide +kernel
theorem d_MO_put_44 : decode b_MO_put 44 = .ok (.getfield 31, 3) := by decide +kernel
theorem d_MO_put_47 : decode b_MO_put 47 = .ok (.iload_n 1, 1) := by decide +kernel
theorem d_MO_put_48 : decode b_MO_put 48 = .ok (.iload_n 1, 1) := by decide +kernel
theorem d_MO_put_49 : decode b_MO_put 49 = .ok (.iconst 4, 1) := by decide +kernel
theorem d_MO_put_50 : decode b_MO_put 50 = .ok (.if_icmp .ge 10, 3) := by decide +kernel
theorem d_MO_put_53 : decode b_MO_put 53 = .ok (.dload_n 2, 1) := by decide +kernel
theorem d_MO_put_54 : decode b_MO_put 54 = .ok (.invokestatic 132, 3) := by decide +kernel
theorem d_MO_put_57 : decode b_MO_put 57 = .ok (.goto 4, 3) := by decide +kernel
theorem d_MO_put_60 : decode b_MO_put 60 = .ok (.dload_n 2, 1) := by decide +kernel
theorem d_MO_put_61 : decode b_MO_put 61 = .ok (.dastore, 1) := by decide +kernel
theorem d_MO_put_62 : decode b_MO_put 62 = .ok (.dload 4, 2) := by decide +kernel
theorem d_MO_put_64 : decode b_MO_put 64 = .ok (.dreturn, 1) := by decide +kernel
theorem d_MO_wrong_0 : decode b_MO_wrong 0 = .ok (.aload_n 0, 1) := by decide +kernel
theorem d_MO_wrong_1 : decode b_MO_wrong 1 = .ok (.iload_n 1, 1) := by decide +kernel
theorem d_MO_wrong_2 : decode b_MO_wrong 2 = .ok (.putfield 136, 3) := by decide +kernel
theorem d_MO_wrong_5 : decode b_MO_wrong 5 = .ok (.return_, 1) := by decide +kernel
theorem d_MO_enter_0 : decode b_MO_enter 0 = .ok (.aload_n 0, 1) := by decide +kernel
theorem d_MO_enter_1 : decode b_MO_enter 1 = .ok (.getfield 139, 3) := by decide +kernel
theorem d_MO_enter_4 : decode b_MO_enter 4 = .ok (.sipush 300, 3) := by decide +kernel
theorem d_MO_enter_7 : decode b_MO_enter 7 = .ok (.if_icmp .ne 10, 3) := by decide +kernel
theorem d_MO_enter_10 : decode b_MO_enter 10 = .ok (.aload_n 0, 1) := by decide +kernel
theorem d_MO_enter_11 : decode b_MO_enter 11 = .ok (.bipush 8, 2) := by decide +kernel
theorem d_MO_enter_13 : decode b_MO_enter 13 = .ok (.invokevirtual 142, 3) := by decide +kernel
theorem d_MO_enter_16 : decode b_MO_enter 16 = .ok (.return_, 1) := by decide +kernel
theorem d_MO_enter_17 : decode b_MO_enter 17 = .ok (.aload_n 0, 1) := by decide +kernel
theorem d_MO_enter_18 : decode b_MO_enter 18 = .ok (.getfield 146, 3) := by decide +kernel
theorem d_MO_enter_21 : decode b_MO_enter 21 = .ok (.bipush 80, 2) := by decide +kernel
theorem d_MO_enter_23 : decode b_MO_enter 23 = .ok (.if_icmp .ne 10, 3) := by decide +kernel
theorem d_MO_enter_26 : decode b_MO_enter 26 = .ok (.aload_n 0, 1) := by decide +kernel
theorem d_MO_enter_27 : decode b_MO_enter 27 = .ok (.bipush 7, 2) := by decide +kernel
theorem d_MO_enter_29 : decode b_MO_enter 29 = .ok (.invokevirtual 142, 3) := by decide +kernel
theorem d_MO_enter_32 : decode b_MO_enter 32 = .ok (.return_, 1) := by decide +kernel
theorem d_MO_enter_33 : decode b_MO_enter 33 = .ok (.aload_n 0, 1) := by decide +kernel
theorem d_MO_enter_34 : decode b_MO_enter 34 = .ok (.dup, 1) := by decide +kernel
theorem d_MO_enter_35 : decode b_MO_enter 35 = .ok (.getfield 139, 3) := by decide +kernel
theorem d_MO_enter_38 : decode b_MO_enter 38 = .ok (.iconst 1, 1) := by decide +kernel
theorem d_MO_enter_39 : decode b_MO_enter 39 = .ok (.iadd, 1) := by decide +kernel
theorem d_MO_enter_40 : decode b_MO_enter 40 = .ok (.putfield 139, 3) := by decide +kernel
theorem d_MO_enter_43 : decode b_MO_enter 43 = .ok (.aload_n 0, 1) := by decide +kernel
theorem d_MO_enter_44 : decode b_MO_enter 44 = .ok (.getfield 69, 3) := by decide +kernel
theorem d_MO_enter_47 : decode b_MO_enter 47 = .ok (.aload_n 0, 1) := by decide +kernel
theorem d_MO_enter_48 : decode b_MO_enter 48 = .ok (.getfield 146, 3) := by decide +kernel
theorem d_MO_enter_51 : decode b_MO_enter 51 = .ok (.iload_n 1, 1) := by decide +kernel
theorem d_MO_enter_52 : decode b_MO_enter 52 = .ok (.iastore, 1) := by decide +kernel
theorem d_MO_enter_53 : decode b_MO_enter 53 = .ok (.aload_n 0, 1) := by decide +kernel
theorem d_MO_enter_54 : decode b_MO_enter 54 = .ok (.getfield 72, 3) := by decide +kernel
theorem d_MO_enter_57 : decode b_MO_enter 57 = .ok (.aload_n 0, 1) := by decide +kernel
theorem d_MO_enter_58 : decode b_MO_enter 58 = .ok (.getfield 146, 3) := by decide +kernel
theorem d_MO_enter_61 : decode b_MO_enter 61 = .ok (.iload_n 2, 1) := by decide +kernel
theorem d_MO_enter_62 : decode b_MO_enter 62 = .ok (.iastore, 1) := by decide +kernel
theorem d_MO_enter_63 : decode b_MO_enter 63 = .ok (.aload_n 0, 1) := by decide +kernel
theorem d_MO_enter_64 : decode b_MO_enter 64 = .ok (.getfield 75, 3) := by decide +kernel
theorem d_MO_enter_67 : decode b_MO_enter 67 = .ok (.aload_n 0, 1) := by decide +kernel
theorem d_MO_enter_68 : decode b_MO_enter 68 = .ok (.getfield 146, 3) := by decide +kernel
theorem d_MO_enter_71 : decode b_MO_enter 71 = .ok (.iconst 0, 1) := by decide +kernel
theorem d_MO_enter_72 : decode b_MO_enter 72 = .ok (.iastore, 1) := by decide +kernel
theorem d_MO_enter_73 : decode b_MO_enter 73 = .ok (.aload_n 0, 1) := by decide +kernel
theorem d_MO_enter_74 : decode b_MO_enter 74 = .ok (.getfield 78, 3) := by decide +kernel
theorem d_MO_enter_77 : decode b_MO_enter 77 = .ok (.aload_n 0, 1) := by decide +kernel
theorem d_MO_enter_78 : decode b_MO_enter 78 = .ok (.getfield 146, 3) := by decide +kernel
theorem d_MO_enter_81 : decode b_MO_enter 81 = .ok (.aload_n 0, 1) := by decide +kernel
theorem d_MO_enter_82 : decode b_MO_enter 82 = .ok (.getfield 149, 3) := by decide +kernel
theorem d_MO_enter_85 : decode b_MO_enter 85 = .ok (.iastore, 1) := by decide +kernel
theorem d_MO_enter_86 : decode b_MO_enter 86 = .ok (.aload_n 0, 1) := by decide +kernel
theorem d_MO_enter_87 : decode b_MO_enter 87 = .ok (.getfield 81, 3) := by decide +kernel
theorem d_MO_enter_90 : decode b_MO_enter 90 = .ok (.aload_n 0, 1) := by decide +kernel
theorem d_MO_enter_91 : decode b_MO_enter 91 = .ok (.getfield 146, 3) := by decide +kernel
theorem d_MO_enter_94 : decode b_MO_enter 94 = .ok (.aload_n 0, 1) := by decide +kernel
theorem d_MO_enter_95 : decode b_MO_enter 95 = .ok (.getfield 152, 3) := by decide +kernel
theorem d_MO_enter_98 : decode b_MO_enter 98 = .ok (.iastore, 1) := by decide +kernel
theorem d_MO_enter_99 : decode b_MO_enter 99 = .ok (.aload_n 0, 1) := by decide +kernel
theorem d_MO_enter_100 : decode b_MO_enter 100 = .ok (.dup, 1) := by decide +kernel
theorem d_MO_enter_101 : decode b_MO_enter 101 = .ok (.getfield 146, 3) := by decide +kernel
theorem d_MO_enter_104 : decode b_MO_enter 104 = .ok (.iconst 1, 1) := by decide +kernel
theorem d_MO_enter_105 : decode b_MO_enter 105 = .ok (.iadd, 1) := by decide +kernel
theorem d_MO_enter_106 : decode b_MO_enter 106 = .ok (.putfield 146, 3) := by decide +kernel
theorem d_MO_enter_109 : decode b_MO_enter 109 = .ok (.return_, 1) := by decide +kernel
theorem d_MO_deeper_0 : decode b_MO_deeper 0 = .ok (.aload_n 0, 1) := by decide +kernel
theorem d_MO_deeper_1 : decode b_MO_deeper 1 = .ok (.getfield 149, 3) := by decide +kernel
theorem d_MO_deeper_4 : decode b_MO_deeper 4 = .ok (.bipush 8, 2) := by decide +kernel
theorem d_MO_deeper_6 : decode b_MO_deeper 6 = .ok (.if_icmp .ne 10, 3) := by decide +kernel
theorem d_MO_deeper_9 : decode b_MO_deeper 9 = .ok (.aload_n 0, 1) := by decide +kernel
theorem d_MO_deeper_10 : decode b_MO_deeper 10 = .ok (.bipush 7, 2) := by decide +kernel
theorem d_MO_deeper_12 : decode b_MO_deeper 12 = .ok (.invokevirtual 142, 3) := by decide +kernel
theorem d_MO_deeper_15 : decode b_MO_deeper 15 = .ok (.return_, 1) := by decide +kernel
theorem d_MO_deeper_16 : decode b_MO_deeper 16 = .ok (.aload_n 0, 1) := by decide +kernel
theorem d_MO_deeper_17 : decode b_MO_deeper 17 = .ok (.dup, 1) := by decide +kernel
theorem d_MO_deeper_18 : decode b_MO_deeper 18 = .ok (.getfield 149, 3) := by decide +kernel
theorem d_MO_deeper_21 : decode b_MO_deeper 21 = .ok (.iconst 1, 1) := by decide +kernel
theorem d_MO_deeper_22 : decode b_MO_deeper 22 = .ok (.iadd, 1) := by decide +kernel
theorem d_MO_deeper_23 : decode b_MO_deeper 23 = .ok (.putfield 149, 3) := by decide +kernel
theorem d_MO_deeper_26 : decode b_MO_deeper 26 = .ok (.aload_n 0, 1) := by decide +kernel
theorem d_MO_deeper_27 : decode b_MO_deeper 27 = .ok (.getfield 149, 3) := by decide +kernel
theorem d_MO_deeper_30 : decode b_MO_deeper 30 = .ok (.aload_n 0, 1) := by decide +kernel
theorem d_MO_deeper_31 : decode b_MO_deeper 31 = .ok (.getfield 155, 3) := by decide +kernel
theorem d_MO_deeper_34 : decode b_MO_deeper 34 = .ok (.if_icmp .le 11, 3) := by decide +kernel
theorem d_MO_deeper_37 : decode b_MO_deeper 37 = .ok (.aload_n 0, 1) := by decide +kernel
theorem d_MO_deeper_38 : decode b_MO_deeper 38 = .ok (.aload_n 0, 1) := by decide +kernel
theorem d_MO_deeper_39 : decode b_MO_deeper 39 = .ok (.getfield 149, 3) := by decide +kernel
theorem d_MO_deeper_42 : decode b_MO_deeper 42 = .ok (.putfield 155, 3) := by decide +kernel
theorem d_MO_deeper_45 : decode b_MO_deeper 45 = .ok (.return_, 1) := by decide +kernel
theorem d_MO_end_0 : decode b_MO_end 0 = .ok (.aload_n 0, 1) := by decide +kernel
theorem d_MO_end_1 : decode b_MO_end 1 = .ok (.dup, 1) := by decide +kernel
theorem d_MO_end_2 : decode b_MO_end 2 = .ok (.getfield 146, 3) := by decide +kernel
theorem d_MO_end_5 : decode b_MO_end 5 = .ok (.iconst 1, 1) := by decide +kernel
theorem d_MO_end_6 : decode b_MO_end 6 = .ok (.isub, 1) := by decide +kernel
theorem d_MO_end_7 : decode b_MO_end 7 = .ok (.putfield 146, 3) := by decide +kernel
theorem d_MO_end_10 : decode b_MO_end 10 = .ok (.aload_n 0, 1) := by decide +kernel
theorem d_MO_end_11 : decode b_MO_end 11 = .ok (.dload_n 1, 1) := by decide +kernel
theorem d_MO_end_12 : decode b_MO_end 12 = .ok (.putfield 158, 3) := by decide +kernel
theorem d_MO_end_15 : decode b_MO_end 15 = .ok (.aload_n 0, 1) := by decide +kernel
theorem d_MO_end_16 : decode b_MO_end 16 = .ok (.aload_n 0, 1) := by decide +kernel
theorem d_MO_end_17 : decode b_MO_end 17 = .ok (.getfield 78, 3) := by decide +kernel
theorem d_MO_end_20 : decode b_MO_end 20 = .ok (.aload_n 0, 1) := by decide +kernel
theorem d_MO_end_21 : decode b_MO_end 21 = .ok (.getfield 146, 3) := by decide +kernel
theorem d_MO_end_24 : decode b_MO_end 24 = .ok (.iaload, 1) := by decide +kernel
theorem d_MO_end_25 : decode b_MO_end 25 = .ok (.putfield 149, 3) := by decide +kernel
theorem d_MO_end_28 : decode b_MO_end 28 = .ok (.aload_n 0, 1) := by decide +kernel
theorem d_MO_end_29 : decode b_MO_end 29 = .ok (.aload_n 0, 1) := by decide +kernel
theorem d_MO_end_30 : decode b_MO_end 30 = .ok (.getfield 81, 3) := by decide +kernel
theorem d_MO_end_33 : decode b_MO_end 33 = .ok (.aload_n 0, 1) := by decide +kernel
theorem d_MO_end_34 : decode b_MO_end 34 = .ok (.getfield 146, 3) := by decide +kernel
theorem d_MO_end_37 : decode b_MO_end 37 = .ok (.iaload, 1) := by decide +kernel
theorem d_MO_end_38 : decode b_MO_end 38 = .ok (.putfield 152, 3) := by decide +kernel
theorem d_MO_end_41 : decode b_MO_end 41 = .ok (.return_, 1) := by decide +kernel
theorem d_MO_place_0 : decode b_MO_place 0 = .ok (.dload_n 1, 1) := by decide +kernel
theorem d_MO_place_1 : decode b_MO_place 1 = .ok (.aload_n 0, 1) := by decide +kernel
theorem d_MO_place_2 : decode b_MO_place 2 = .ok (.getfield 38, 3) := by decide +kernel
theorem d_MO_place_5 : decode b_MO_place 5 = .ok (.i2d, 1) := by decide +kernel
theorem d_MO_place_6 : decode b_MO_place 6 = .ok (.dcmp .l, 1) := by decide +kernel
theorem d_MO_place_7 : decode b_MO_place 7 = .ok (.ifCond .lt 33, 3) := by decide +kernel
theorem d_MO_place_10 : decode b_MO_place 10 = .ok (.dload_n 1, 1) := by decide +kernel
theorem d_MO_place_11 : decode b_MO_place 11 = .ok (.aload_n 0, 1) := by decide +kernel
theorem d_MO_place_12 : decode b_MO_place 12 = .ok (.getfield 42, 3) := by decide +kernel
theorem d_MO_place_15 : decode b_MO_place 15 = .ok (.i2d, 1) := by decide +kernel
theorem d_MO_place_16 : decode b_MO_place 16 = .ok (.dcmp .g, 1) := by decide +kernel
theorem d_MO_place_17 : decode b_MO_place 17 = .ok (.ifCond .gt 23, 3) := by decide +kernel
theorem d_MO_place_20 : decode b_MO_place 20 = .ok (.dload_n 3, 1) := by decide +kernel
theorem d_MO_place_21 : decode b_MO_place 21 = .ok (.aload_n 0, 1) := by decide +kernel
theorem d_MO_place_22 : decode b_MO_place 22 = .ok (.getfield 45, 3) := by decide +kernel
theorem d_MO_place_25 : decode b_MO_place 25 = .ok (.i2d, 1) := by decide +kernel
theorem d_MO_place_26 : decode b_MO_place 26 = .ok (.dcmp .l, 1) := by decide +kernel
theorem d_MO_place_27 : decode b_MO_place 27 = .ok (.ifCond .lt 13, 3) := by decide +kernel
theorem d_MO_place_30 : decode b_MO_place 30 = .ok (.dload_n 3, 1) := by decide +kernel
theorem d_MO_place_31 : decode b_MO_place 31 = .ok (.aload_n 0, 1) := by decide +kernel
theorem d_MO_place_32 : decode b_MO_place 32 = .ok (.getfield 48, 3) := by decide +kernel
theorem d_MO_place_35 : decode b_MO_place 35 = .ok (.i2d, 1) := by decide +kernel
theorem d_MO_place_36 : decode b_MO_place 36 = .ok (.dcmp .g, 1) := by decide +kernel
theorem d_MO_place_37 : decode b_MO_place 37 = .ok (.ifCond .le 5, 3) := by decide +kernel
theorem d_MO_place_40 : decode b_MO_place 40 = .ok (.iconst (-1), 1) := by decide +kernel
theorem d_MO_place_41 : decode b_MO_place 41 = .ok (.ireturn, 1) := by decide +kernel
theorem d_MO_place_42 : decode b_MO_place 42 = .ok (.iconst 5, 1) := by decide +kernel
theorem d_MO_place_43 : decode b_MO_place 43 = .ok (.dload_n 1, 1) := by decide +kernel
theorem d_MO_place_44 : decode b_MO_place 44 = .ok (.aload_n 0, 1) := by decide +kernel
theorem d_MO_place_45 : decode b_MO_place 45 = .ok (.getfield 38, 3) := by decide +kernel
theorem d_MO_place_48 : decode b_MO_place 48 = .ok (.i2d, 1) := by decide +kernel
theorem d_MO_place_49 : decode b_MO_place 49 = .ok (.dsub, 1) := by decide +kernel
theorem d_MO_place_50 : decode b_MO_place 50 = .ok (.d2i, 1) := by decide +kernel
theorem d_MO_place_51 : decode b_MO_place 51 = .ok (.imul, 1) := by decide +kernel
theorem d_MO_place_52 : decode b_MO_place 52 = .ok (.dload_n 3, 1) := by decide +kernel
theorem d_MO_place_53 : decode b_MO_place 53 = .ok (.aload_n 0, 1) := by decide +kernel
theorem d_MO_place_54 : decode b_MO_place 54 = .ok (.getfield 45, 3) := by decide +kernel
theorem d_MO_place_57 : decode b_MO_place 57 = .ok (.i2d, 1) := by decide +kernel
theorem d_MO_place_58 : decode b_MO_place 58 = .ok (.dsub, 1) := by decide +kernel
theorem d_MO_place_59 : decode b_MO_place 59 = .ok (.d2i, 1) := by decide +kernel
theorem d_MO_place_60 : decode b_MO_place 60 = .ok (.iadd, 1) := by decide +kernel
theorem d_MO_place_61 : decode b_MO_place 61 = .ok (.ireturn, 1) := by decide +kernel
theorem d_MO_sum_0 : decode b_MO_sum 0 = .ok (.dconst 0, 1) := by decide +kernel
theorem d_MO_sum_1 : decode b_MO_sum 1 = .ok (.dstore 6, 2) := by decide +kernel
theorem d_MO_sum_3 : decode b_MO_sum 3 = .ok (.iload_n 1, 1) := by decide +kernel
theorem d_MO_sum_4 : decode b_MO_sum 4 = .ok (.bipush 7, 2) := by decide +kernel
theorem d_MO_sum_6 : decode b_MO_sum 6 = .ok (.if_icmp .ne 44, 3) := by decide +kernel
theorem d_MO_sum_9 : decode b_MO_sum 9 = .ok (.dload_n 2, 1) := by decide +kernel
theorem d_MO_sum_10 : decode b_MO_sum 10 = .ok (.invokestatic 132, 3) := by decide +kernel
theorem d_MO_sum_13 : decode b_MO_sum 13 = .ok (.d2l, 1) := by decide +kernel
theorem d_MO_sum_14 : decode b_MO_sum 14 = .ok (.lstore 8, 2) := by decide +kernel
theorem d_MO_sum_16 : decode b_MO_sum 16 = .ok (.dload 4, 2) := by decide +kernel
theorem d_MO_sum_18 : decode b_MO_sum 18 = .ok (.invokestatic 132, 3) := by decide +kernel
theorem d_MO_sum_21 : decode b_MO_sum 21 = .ok (.d2l, 1) := by decide +kernel
theorem d_MO_sum_22 : decode b_MO_sum 22 = .ok (.lstore 10, 2) := by decide +kernel
theorem d_MO_sum_24 : decode b_MO_sum 24 = .ok (.lload 10, 2) := by decide +kernel
theorem d_MO_sum_26 : decode b_MO_sum 26 = .ok (.lconst 0, 1) := by decide +kernel
theorem d_MO_sum_27 : decode b_MO_sum 27 = .ok (.lcmp, 1) := by decide +kernel
theorem d_MO_sum_28 : decode b_MO_sum 28 = .ok (.ifCond .ne 11, 3) := by decide +kernel
theorem d_MO_sum_31 : decode b_MO_sum 31 = .ok (.aload_n 0, 1) := by decide +kernel
theorem d_MO_sum_32 : decode b_MO_sum 32 = .ok (.iconst 1, 1) := by decide +kernel
theorem d_MO_sum_33 : decode b_MO_sum 33 = .ok (.invokevirtual 142, 3) := by decide +kernel
theorem d_MO_sum_36 : decode b_MO_sum 36 = .ok (.goto 11, 3) := by decide +kernel
theorem d_MO_sum_39 : decode b_MO_sum 39 = .ok (.lload 8, 2) := by decide +kernel
theorem d_MO_sum_41 : decode b_MO_sum 41 = .ok (.lload 10, 2) := by decide +kernel
theorem d_MO_sum_43 : decode b_MO_sum 43 = .ok (.ldiv, 1) := by decide +kernel
theorem d_MO_sum_44 : decode b_MO_sum 44 = .ok (.l2d, 1) := by decide +kernel
theorem d_MO_sum_45 : decode b_MO_sum 45 = .ok (.dstore 6, 2) := by decide +kernel
theorem d_MO_sum_47 : decode b_MO_sum 47 = .ok (.goto 109, 3) := by decide +kernel
theorem d_MO_sum_50 : decode b_MO_sum 50 = .ok (.iload_n 1, 1) := by decide +kernel
theorem d_MO_sum_51 : decode b_MO_sum 51 = .ok (.bipush 8, 2) := by decide +kernel
theorem d_MO_sum_53 : decode b_MO_sum 53 = .ok (.if_icmp .ne 20, 3) := by decide +kernel
theorem d_MO_sum_56 : decode b_MO_sum 56 = .ok (.dload_n 2, 1) := by decide +kernel
theorem d_MO_sum_57 : decode b_MO_sum 57 = .ok (.dload 4, 2) := by decide +kernel
theorem d_MO_sum_59 : decode b_MO_sum 59 = .ok (.dcmp .g, 1) := by decide +kernel
theorem d_MO_sum_60 : decode b_MO_sum 60 = .ok (.ifCond .ge 7, 3) := by decide +kernel
theorem d_MO_sum_63 : decode b_MO_sum 63 = .ok (.dconst 1, 1) := by decide +kernel
theorem d_MO_sum_64 : decode b_MO_sum 64 = .ok (.goto 4, 3) := by decide +kernel
theorem d_MO_sum_67 : decode b_MO_sum 67 = .ok (.dconst 0, 1) := by decide +kernel
theorem d_MO_sum_68 : decode b_MO_sum 68 = .ok (.dstore 6, 2) := by decide +kernel
theorem d_MO_sum_70 : decode b_MO_sum 70 = .ok (.goto 86, 3) := by decide +kernel
theorem d_MO_sum_73 : decode b_MO_sum 73 = .ok (.iload_n 1, 1) := by decide +kernel
theorem d_MO_sum_74 : decode b_MO_sum 74 = .ok (.bipush 6, 2) := by decide +kernel
theorem d_MO_sum_76 : decode b_MO_sum 76 = .ok (.if_icmp .ne 18, 3) := by decide +kernel
theorem d_MO_sum_79 : decode b_MO_sum 79 = .ok (.dload 4, 2) := by decide +kernel
theorem d_MO_sum_81 : decode b_MO_sum 81 = .ok (.dconst 0, 1) := by decide +kernel
theorem d_MO_sum_82 : decode b_MO_sum 82 = .ok (.dcmp .l, 1) := by decide +kernel
theorem d_MO_sum_83 : decode b_MO_sum 83 = .ok (.ifCond .ne 11, 3) := by decide +kernel
theorem d_MO_sum_86 : decode b_MO_sum 86 = .ok (.aload_n 0, 1) := by decide +kernel
theorem d_MO_sum_87 : decode b_MO_sum 87 = .ok (.iconst 1, 1) := by decide +kernel
theorem d_MO_sum_88 : decode b_MO_sum 88 = .ok (.invokevirtual 142, 3) := by decide +kernel
theorem d_MO_sum_91 : decode b_MO_sum 91 = .ok (.goto 65, 3) := by decide +kernel
theorem d_MO_sum_94 : decode b_MO_sum 94 = .ok (.iload_n 1, 1) := by decide +kernel
theorem d_MO_sum_95 : decode b_MO_sum 95 = .ok (.iconst 3, 1) := by decide +kernel
theorem d_MO_sum_96 : decode b_MO_sum 96 = .ok (.if_icmp .ne 10, 3) := by decide +kernel
theorem d_MO_sum_99 : decode b_MO_sum 99 = .ok (.dload_n 2, 1) := by decide +kernel
theorem d_MO_sum_100 : decode b_MO_sum 100 = .ok (.dload 4, 2) := by decide +kernel
theorem d_MO_sum_102 : decode b_MO_sum 102 = .ok (.dadd, 1) := by decide +kernel
theorem d_MO_sum_103 : decode b_MO_sum 103 = .ok (.goto 31, 3) := by decide +kernel
theorem d_MO_sum_106 : decode b_MO_sum 106 = .ok (.iload_n 1, 1) := by decide +kernel
theorem d_MO_sum_107 : decode b_MO_sum 107 = .ok (.iconst 4, 1) := by decide +kernel
theorem d_MO_sum_108 : decode b_MO_sum 108 = .ok (.if_icmp .ne 10, 3) := by decide +kernel
theorem d_MO_sum_111 : decode b_MO_sum 111 = .ok (.dload_n 2, 1) := by decide +kernel
theorem d_MO_sum_112 : decode b_MO_sum 112 = .ok (.dload 4, 2) := by decide +kernel
theorem d_MO_sum_114 : decode b_MO_sum 114 = .ok (.dsub, 1) := by decide +kernel
theorem d_MO_sum_115 : decode b_MO_sum 115 = .ok (.goto 19, 3) := by decide +kernel
theorem d_MO_sum_118 : decode b_MO_sum 118 = .ok (.iload_n 1, 1) := by decide +kernel
theorem d_MO_sum_119 : decode b_MO_sum 119 = .ok (.iconst 5, 1) := by decide +kernel
theorem d_MO_sum_120 : decode b_MO_sum 120 = .ok (.if_icmp .ne 10, 3) := by decide +kernel
theorem d_MO_sum_123 : decode b_MO_sum 123 = .ok (.dload_n 2, 1) := by decide +kernel
theorem d_MO_sum_124 : decode b_MO_sum 124 = .ok (.dload 4, 2) := by decide +kernel
theorem d_MO_sum_126 : decode b_MO_sum 126 = .ok (.dmul, 1) := by decide +kernel
theorem d_MO_sum_127 : decode b_MO_sum 127 = .ok (.goto 7, 3) := by decide +kernel
theorem d_MO_sum_130 : decode b_MO_sum 130 = .ok (.dload_n 2, 1) := by decide +kernel
theorem d_MO_sum_131 : decode b_MO_sum 131 = .ok (.dload 4, 2) := by decide +kernel
theorem d_MO_sum_133 : decode b_MO_sum 133 = .ok (.ddiv, 1) := by decide +kernel
theorem d_MO_sum_134 : decode b_MO_sum 134 = .ok (.dstore 6, 2) := by decide +kernel
theorem d_MO_sum_136 : decode b_MO_sum 136 = .ok (.aload_n 0, 1) := by decide +kernel
theorem d_MO_sum_137 : decode b_MO_sum 137 = .ok (.getfield 136, 3) := by decide +kernel
theorem d_MO_sum_140 : decode b_MO_sum 140 = .ok (.ifCond .ne 16, 3) := by decide +kernel
theorem d_MO_sum_143 : decode b_MO_sum 143 = .ok (.dload 6, 2) := by decide +kernel
theorem d_MO_sum_145 : decode b_MO_sum 145 = .ok (.invokestatic 128, 3) := by decide +kernel
theorem d_MO_sum_148 : decode b_MO_sum 148 = .ok (.ifCond .ne 8, 3) := by decide +kernel
theorem d_MO_sum_151 : decode b_MO_sum 151 = .ok (.aload_n 0, 1) := by decide +kernel
theorem d_MO_sum_152 : decode b_MO_sum 152 = .ok (.iconst 2, 1) := by decide +kernel
theorem d_MO_sum_153 : decode b_MO_sum 153 = .ok (.invokevirtual 142, 3) := by decide +kernel
theorem d_MO_sum_156 : decode b_MO_sum 156 = .ok (.aload_n 0, 1) := by decide +kernel
theorem d_MO_sum_157 : decode b_MO_sum 157 = .ok (.getfield 136, 3) := by decide +kernel
theorem d_MO_sum_160 : decode b_MO_sum 160 = .ok (.ifCond .ne 9, 3) := by decide +kernel
theorem d_MO_sum_163 : decode b_MO_sum 163 = .ok (.aload_n 0, 1) := by decide +kernel
theorem d_MO_sum_164 : decode b_MO_sum 164 = .ok (.dload 6, 2) := by decide +kernel
theorem d_MO_sum_166 : decode b_MO_sum 166 = .ok (.invokevirtual 162, 3) := by decide +kernel
theorem d_MO_sum_169 : decode b_MO_sum 169 = .ok (.return_, 1) := by decide +kernel
theorem d_MO_pair_0 : decode b_MO_pair 0 = .ok (.aload_n 0, 1) := by decide +kernel
theorem d_MO_pair_1 : decode b_MO_pair 1 = .ok (.getfield 75, 3) := by decide +kernel
theorem d_MO_pair_4 : decode b_MO_pair 4 = .ok (.iload_n 1, 1) := by decide +kernel
theorem d_MO_pair_5 : decode b_MO_pair 5 = .ok (.iaload, 1) := by decide +kernel
theorem d_MO_pair_6 : decode b_MO_pair 6 = .ok (.istore_n 3, 1) := by decide +kernel
theorem d_MO_pair_7 : decode b_MO_pair 7 = .ok (.aload_n 0, 1) := by decide +kernel
theorem d_MO_pair_8 : decode b_MO_pair 8 = .ok (.getfield 75, 3) := by decide +kernel
theorem d_MO_pair_11 : decode b_MO_pair 11 = .ok (.iload_n 1, 1) := by decide +kernel
theorem d_MO_pair_12 : decode b_MO_pair 12 = .ok (.dup2, 1) := by decide +kernel
theorem d_MO_pair_13 : decode b_MO_pair 13 = .ok (.iaload, 1) := by decide +kernel
theorem d_MO_pair_14 : decode b_MO_pair 14 = .ok (.iconst 1, 1) := by decide +kernel
theorem d_MO_pair_15 : decode b_MO_pair 15 = .ok (.iadd, 1) := by decide +kernel
theorem d_MO_pair_16 : decode b_MO_pair 16 = .ok (.iastore, 1) := by decide +kernel
theorem d_MO_pair_17 : decode b_MO_pair 17 = .ok (.iload_n 3, 1) := by decide +kernel
theorem d_MO_pair_18 : decode b_MO_pair 18 = .ok (.ifCond .ne 22, 3) := by decide +kernel
theorem d_MO_pair_21 : decode b_MO_pair 21 = .ok (.aload_n 0, 1) := by decide +kernel
theorem d_MO_pair_22 : decode b_MO_pair 22 = .ok (.aload_n 0, 1) := by decide +kernel
theorem d_MO_pair_23 : decode b_MO_pair 23 = .ok (.getfield 13, 3) := by decide +kernel
theorem d_MO_pair_26 : decode b_MO_pair 26 = .ok (.iload_n 2, 1) := by decide +kernel
theorem d_MO_pair_27 : decode b_MO_pair 27 = .ok (.iaload, 1) := by decide +kernel
theorem d_MO_pair_28 : decode b_MO_pair 28 = .ok (.aload_n 0, 1) := by decide +kernel
theorem d_MO_pair_29 : decode b_MO_pair 29 = .ok (.getfield 72, 3) := by decide +kernel
theorem d_MO_pair_32 : decode b_MO_pair 32 = .ok (.iload_n 1, 1) := by decide +kernel
theorem d_MO_pair_33 : decode b_MO_pair 33 = .ok (.iaload, 1) := by decide +kernel
theorem d_MO_pair_34 : decode b_MO_pair 34 = .ok (.invokevirtual 166, 3) := by decide +kernel
theorem d_MO_pair_37 : decode b_MO_pair 37 = .ok (.goto 116, 3) := by decide +kernel
theorem d_MO_pair_40 : decode b_MO_pair 40 = .ok (.iload_n 3, 1) := by decide +kernel
theorem d_MO_pair_41 : decode b_MO_pair 41 = .ok (.iconst 1, 1) := by decide +kernel
theorem d_MO_pair_42 : decode b_MO_pair 42 = .ok (.if_icmp .ne 32, 3) := by decide +kernel
theorem d_MO_pair_45 : decode b_MO_pair 45 = .ok (.aload_n 0, 1) := by decide +kernel
theorem d_MO_pair_46 : decode b_MO_pair 46 = .ok (.getfield 90, 3) := by decide +kernel
theorem d_MO_pair_49 : decode b_MO_pair 49 = .ok (.iload_n 1, 1) := by decide +kernel
theorem d_MO_pair_50 : decode b_MO_pair 50 = .ok (.aload_n 0, 1) := by decide +kernel
theorem d_MO_pair_51 : decode b_MO_pair 51 = .ok (.getfield 158, 3) := by decide +kernel
theorem d_MO_pair_54 : decode b_MO_pair 54 = .ok (.dastore, 1) := by decide +kernel
theorem d_MO_pair_55 : decode b_MO_pair 55 = .ok (.aload_n 0, 1) := by decide +kernel
theorem d_MO_pair_56 : decode b_MO_pair 56 = .ok (.aload_n 0, 1) := by decide +kernel
theorem d_MO_pair_57 : decode b_MO_pair 57 = .ok (.getfield 16, 3) := by decide +kernel
theorem d_MO_pair_60 : decode b_MO_pair 60 = .ok (.iload_n 2, 1) := by decide +kernel
theorem d_MO_pair_61 : decode b_MO_pair 61 = .ok (.iaload, 1) := by decide +kernel
theorem d_MO_pair_62 : decode b_MO_pair 62 = .ok (.aload_n 0, 1) := by decide +kernel
theorem d_MO_pair_63 : decode b_MO_pair 63 = .ok (.getfield 72, 3) := by decide +kernel
theorem d_MO_pair_66 : decode b_MO_pair 66 = .ok (.iload_n 1, 1) := by decide +kernel
theorem d_MO_pair_67 : decode b_MO_pair 67 = .ok (.iaload, 1) := by decide +kernel
theorem d_MO_pair_68 : decode b_MO_pair 68 = .ok (.invokevirtual 166, 3) := by decide +kernel
theorem d_MO_pair_71 : decode b_MO_pair 71 = .ok (.goto 82, 3) := by decide +kernel
theorem d_MO_pair_74 : decode b_MO_pair 74 = .ok (.aload_n 0, 1) := by decide +kernel
theorem d_MO_pair_75 : decode b_MO_pair 75 = .ok (.getfield 7, 3) := by decide +kernel
theorem d_MO_pair_78 : decode b_MO_pair 78 = .ok (.iload_n 2, 1) := by decide +kernel
theorem d_MO_pair_79 : decode b_MO_pair 79 = .ok (.iaload, 1) := by decide +kernel
theorem d_MO_pair_80 : decode b_MO_pair 80 = .ok (.iconst 2, 1) := by decide +kernel
theorem d_MO_pair_81 : decode b_MO_pair 81 = .ok (.if_icmp .eq 26, 3) := by decide +kernel
theorem d_MO_pair_84 : decode b_MO_pair 84 = .ok (.aload_n 0, 1) := by decide +kernel
theorem d_MO_pair_85 : decode b_MO_pair 85 = .ok (.aload_n 0, 1) := by decide +kernel
theorem d_MO_pair_86 : decode b_MO_pair 86 = .ok (.getfield 7, 3) := by decide +kernel
theorem d_MO_pair_89 : decode b_MO_pair 89 = .ok (.iload_n 2, 1) := by decide +kernel
theorem d_MO_pair_90 : decode b_MO_pair 90 = .ok (.iaload, 1) := by decide +kernel
theorem d_MO_pair_91 : decode b_MO_pair 91 = .ok (.aload_n 0, 1) := by decide +kernel
theorem d_MO_pair_92 : decode b_MO_pair 92 = .ok (.getfield 90, 3) := by decide +kernel
theorem d_MO_pair_95 : decode b_MO_pair 95 = .ok (.iload_n 1, 1) := by decide +kernel
theorem d_MO_pair_96 : decode b_MO_pair 96 = .ok (.daload, 1) := by decide +kernel
theorem d_MO_pair_97 : decode b_MO_pair 97 = .ok (.aload_n 0, 1) := by decide +kernel
theorem d_MO_pair_98 : decode b_MO_pair 98 = .ok (.getfield 158, 3) := by decide +kernel
theorem d_MO_pair_101 : decode b_MO_pair 101 = .ok (.invokevirtual 170, 3) := by decide +kernel
theorem d_MO_pair_104 : decode b_MO_pair 104 = .ok (.goto 49, 3) := by decide +kernel
theorem d_MO_pair_107 : decode b_MO_pair 107 = .ok (.aload_n 0, 1) := by decide +kernel
theorem d_MO_pair_108 : decode b_MO_pair 108 = .ok (.aload_n 0, 1) := by decide +kernel
theorem d_MO_pair_109 : decode b_MO_pair 109 = .ok (.getfield 90, 3) := by decide +kernel
theorem d_MO_pair_112 : decode b_MO_pair 112 = .ok (.iload_n 1, 1) := by decide +kernel
theorem d_MO_pair_113 : decode b_MO_pair 113 = .ok (.daload, 1) := by decide +kernel
theorem d_MO_pair_114 : decode b_MO_pair 114 = .ok (.invokestatic 132, 3) := by decide +kernel
theorem d_MO_pair_117 : decode b_MO_pair 117 = .ok (.aload_n 0, 1) := by decide +kernel
theorem d_MO_pair_118 : decode b_MO_pair 118 = .ok (.getfield 158, 3) := by decide +kernel
theorem d_MO_pair_121 : decode b_MO_pair 121 = .ok (.invokestatic 132, 3) := by decide +kernel
theorem d_MO_pair_124 : decode b_MO_pair 124 = .ok (.invokevirtual 174, 3) := by decide +kernel
theorem d_MO_pair_127 : decode b_MO_pair 127 = .ok (.istore 4, 2) := by decide +kernel
theorem d_MO_pair_129 : decode b_MO_pair 129 = .ok (.iload 4, 2) := by decide +kernel
theorem d_MO_pair_131 : decode b_MO_pair 131 = .ok (.ifCond .ge 11, 3) := by decide +kernel
theorem d_MO_pair_134 : decode b_MO_pair 134 = .ok (.aload_n 0, 1) := by decide +kernel
theorem d_MO_pair_135 : decode b_MO_pair 135 = .ok (.iconst 3, 1) := by decide +kernel
theorem d_MO_pair_136 : decode b_MO_pair 136 = .ok (.invokevirtual 142, 3) := by decide +kernel
theorem d_MO_pair_139 : decode b_MO_pair 139 = .ok (.goto 14, 3) := by decide +kernel
theorem d_MO_pair_142 : decode b_MO_pair 142 = .ok (.aload_n 0, 1) := by decide +kernel
theorem d_MO_pair_143 : decode b_MO_pair 143 = .ok (.aload_n 0, 1) := by decide +kernel
theorem d_MO_pair_144 : decode b_MO_pair 144 = .ok (.getfield 35, 3) := by decide +kernel
theorem d_MO_pair_147 : decode b_MO_pair 147 = .ok (.iload 4, 2) := by decide +kernel
theorem d_MO_pair_149 : decode b_MO_pair 149 = .ok (.daload, 1) := by decide +kernel
theorem d_MO_pair_150 : decode b_MO_pair 150 = .ok (.invokevirtual 162, 3) := by decide +kernel
theorem d_MO_pair_153 : decode b_MO_pair 153 = .ok (.return_, 1) := by decide +kernel
theorem d_MO_isThere_0 : decode b_MO_isThere 0 = .ok (.iload_n 1, 1) := by decide +kernel
theorem d_MO_isThere_1 : decode b_MO_isThere 1 = .ok (.ifCond .le 17, 3) := by decide +kernel
theorem d_MO_isThere_4 : decode b_MO_isThere 4 = .ok (.iload_n 2, 1) := by decide +kernel
theorem d_MO_isThere_5 : decode b_MO_isThere 5 = .ok (.aload_n 0, 1) := by decide +kernel
theorem d_MO_isThere_6 : decode b_MO_isThere 6 = .ok (.getfield 57, 3) := by decide +kernel
theorem d_MO_isThere_9 : decode b_MO_isThere 9 = .ok (.iload_n 1, 1) := by decide +kernel
theorem d_MO_isThere_10 : decode b_MO_isThere 10 = .ok (.iaload, 1) := by decide +kernel
theorem d_MO_isThere_11 : decode b_MO_isThere 11 = .ok (.if_icmp .ge 7, 3) := by decide +kernel
theorem d_MO_isThere_14 : decode b_MO_isThere 14 = .ok (.iconst 1, 1) := by decide +kernel
theorem d_MO_isThere_15 : decode b_MO_isThere 15 = .ok (.goto 4, 3) := by decide +kernel
theorem d_MO_isThere_18 : decode b_MO_isThere 18 = .ok (.iconst 0, 1) := by decide +kernel
theorem d_MO_isThere_19 : decode b_MO_isThere 19 = .ok (.ireturn, 1) := by decide +kernel
theorem d_MO_isName_0 : decode b_MO_isName 0 = .ok (.aload_n 0, 1) := by decide +kernel
theorem d_MO_isName_1 : decode b_MO_isName 1 = .ok (.getfield 60, 3) := by decide +kernel
theorem d_MO_isName_4 : decode b_MO_isName 4 = .ok (.iload_n 1, 1) := by decide +kernel
theorem d_MO_isName_5 : decode b_MO_isName 5 = .ok (.iaload, 1) := by decide +kernel
theorem d_MO_isName_6 : decode b_MO_isName 6 = .ok (.iload_n 2, 1) := by decide +kernel
theorem d_MO_isName_7 : decode b_MO_isName 7 = .ok (.ishr, 1) := by decide +kernel
theorem d_MO_isName_8 : decode b_MO_isName 8 = .ok (.iconst 1, 1) := by decide +kernel
theorem d_MO_isName_9 : decode b_MO_isName 9 = .ok (.iand, 1) := by decide +kernel
theorem d_MO_isName_10 : decode b_MO_isName 10 = .ok (.iconst 1, 1) := by decide +kernel
theorem d_MO_isName_11 : decode b_MO_isName 11 = .ok (.if_icmp .ne 7, 3) := by decide +kernel
theorem d_MO_isName_14 : decode b_MO_isName 14 = .ok (.iconst 1, 1) := by decide +kernel
theorem d_MO_isName_15 : decode b_MO_isName 15 = .ok (.goto 4, 3) := by decide +kernel
theorem d_MO_isName_18 : decode b_MO_isName 18 = .ok (.iconst 0, 1) := by decide +kernel
theorem d_MO_isName_19 : decode b_MO_isName 19 = .ok (.ireturn, 1) := by decide +kernel
theorem d_MO_parameter_0 : decode b_MO_parameter 0 = .ok (.aload_n 0, 1) := by decide +kernel
theorem d_MO_parameter_1 : decode b_MO_parameter 1 = .ok (.getfield 72, 3) := by decide +kernel
theorem d_MO_parameter_4 : decode b_MO_parameter 4 = .ok (.iload_n 1, 1) := by decide +kernel
theorem d_MO_parameter_5 : decode b_MO_parameter 5 = .ok (.iaload, 1) := by decide +kernel
theorem d_MO_parameter_6 : decode b_MO_parameter 6 = .ok (.istore_n 3, 1) := by decide +kernel
theorem d_MO_parameter_7 : decode b_MO_parameter 7 = .ok (.aload_n 0, 1) := by decide +kernel
theorem d_MO_parameter_8 : decode b_MO_parameter 8 = .ok (.getfield 75, 3) := by decide +kernel
theorem d_MO_parameter_11 : decode b_MO_parameter 11 = .ok (.iload_n 1, 1) := by decide +kernel
theorem d_MO_parameter_12 : decode b_MO_parameter 12 = .ok (.iaload, 1) := by decide +kernel
theorem d_MO_parameter_13 : decode b_MO_parameter 13 = .ok (.ifCond .le 14, 3) := by decide +kernel
theorem d_MO_parameter_16 : decode b_MO_parameter 16 = .ok (.aload_n 0, 1) := by decide +kernel
theorem d_MO_parameter_17 : decode b_MO_parameter 17 = .ok (.aload_n 0, 1) := by decide +kernel
theorem d_MO_parameter_18 : decode b_MO_parameter 18 = .ok (.getfield 158, 3) := by decide +kernel
theorem d_MO_parameter_21 : decode b_MO_parameter 21 = .ok (.invokevirtual 162, 3) := by decide +kernel
theorem d_MO_parameter_24 : decode b_MO_parameter 24 = .ok (.goto 109, 3) := by decide +kernel
theorem d_MO_parameter_27 : decode b_MO_parameter 27 = .ok (.aload_n 0, 1) := by decide +kernel
theorem d_MO_parameter_28 : decode b_MO_parameter 28 = .ok (.iload_n 3, 1) := by decide +kernel
theorem d_MO_parameter_29 : decode b_MO_parameter 29 = .ok (.iload_n 2, 1) := by decide +kernel
theorem d_MO_parameter_30 : decode b_MO_parameter 30 = .ok (.invokevirtual 178, 3) := by decide +kernel
theorem d_MO_parameter_33 : decode b_MO_parameter 33 = .ok (.ifCond .ne 11, 3) := by decide +kernel
theorem d_MO_parameter_36 : decode b_MO_parameter 36 = .ok (.aload_n 0, 1) := by decide +kernel
theorem d_MO_parameter_37 : decode b_MO_parameter 37 = .ok (.iconst 4, 1) := by decide +kernel
theorem d_MO_parameter_38 : decode b_MO_parameter 38 = .ok (.invokevirtual 142, 3) := by decide +kernel
theorem d_MO_parameter_41 : decode b_MO_parameter 41 = .ok (.goto 92, 3) := by decide +kernel
theorem d_MO_parameter_44 : decode b_MO_parameter 44 = .ok (.aload_n 0, 1) := by decide +kernel
theorem d_MO_parameter_45 : decode b_MO_parameter 45 = .ok (.iload_n 3, 1) := by decide +kernel
theorem d_MO_parameter_46 : decode b_MO_parameter 46 = .ok (.iload_n 2, 1) := by decide +kernel
theorem d_MO_parameter_47 : decode b_MO_parameter 47 = .ok (.invokevirtual 181, 3) := by decide +kernel
theorem d_MO_parameter_50 : decode b_MO_parameter 50 = .ok (.ifCond .ne 20, 3) := by decide +kernel
theorem d_MO_parameter_53 : decode b_MO_parameter 53 = .ok (.aload_n 0, 1) := by decide +kernel
theorem d_MO_parameter_54 : decode b_MO_parameter 54 = .ok (.aload_n 0, 1) := by decide +kernel
theorem d_MO_parameter_55 : decode b_MO_parameter 55 = .ok (.getfield 63, 3) := by decide +kernel
theorem d_MO_parameter_58 : decode b_MO_parameter 58 = .ok (.iconst 2, 1) := by decide +kernel
theorem d_MO_parameter_59 : decode b_MO_parameter 59 = .ok (.iload_n 3, 1) := by decide +kernel
theorem d_MO_parameter_60 : decode b_MO_parameter 60 = .ok (.imul, 1) := by decide +kernel
theorem d_MO_parameter_61 : decode b_MO_parameter 61 = .ok (.iload_n 2, 1) := by decide +kernel
theorem d_MO_parameter_62 : decode b_MO_parameter 62 = .ok (.iadd, 1) := by decide +kernel
theorem d_MO_parameter_63 : decode b_MO_parameter 63 = .ok (.daload, 1) := by decide +kernel
theorem d_MO_parameter_64 : decode b_MO_parameter 64 = .ok (.invokevirtual 162, 3) := by decide +kernel
theorem d_MO_parameter_67 : decode b_MO_parameter 67 = .ok (.goto 66, 3) := by decide +kernel
theorem d_MO_parameter_70 : decode b_MO_parameter 70 = .ok (.aload_n 0, 1) := by decide +kernel
theorem d_MO_parameter_71 : decode b_MO_parameter 71 = .ok (.getfield 51, 3) := by decide +kernel
theorem d_MO_parameter_74 : decode b_MO_parameter 74 = .ok (.iconst 2, 1) := by decide +kernel
theorem d_MO_parameter_75 : decode b_MO_parameter 75 = .ok (.iload_n 3, 1) := by decide +kernel
theorem d_MO_parameter_76 : decode b_MO_parameter 76 = .ok (.imul, 1) := by decide +kernel
theorem d_MO_parameter_77 : decode b_MO_parameter 77 = .ok (.iload_n 2, 1) := by decide +kernel
theorem d_MO_parameter_78 : decode b_MO_parameter 78 = .ok (.iadd, 1) := by decide +kernel
theorem d_MO_parameter_79 : decode b_MO_parameter 79 = .ok (.iaload, 1) := by decide +kernel
theorem d_MO_parameter_80 : decode b_MO_parameter 80 = .ok (.ifCond .ge 11, 3) := by decide +kernel
theorem d_MO_parameter_83 : decode b_MO_parameter 83 = .ok (.aload_n 0, 1) := by decide +kernel
theorem d_MO_parameter_84 : decode b_MO_parameter 84 = .ok (.iconst 4, 1) := by decide +kernel
theorem d_MO_parameter_85 : decode b_MO_parameter 85 = .ok (.invokevirtual 142, 3) := by decide +kernel
theorem d_MO_parameter_88 : decode b_MO_parameter 88 = .ok (.goto 45, 3) := by decide +kernel
theorem d_MO_parameter_91 : decode b_MO_parameter 91 = .ok (.aload_n 0, 1) := by decide +kernel
theorem d_MO_parameter_92 : decode b_MO_parameter 92 = .ok (.getfield 75, 3) := by decide +kernel
theorem d_MO_parameter_95 : decode b_MO_parameter 95 = .ok (.iload_n 1, 1) := by decide +kernel
theorem d_MO_parameter_96 : decode b_MO_parameter 96 = .ok (.iconst 1, 1) := by decide +kernel
theorem d_MO_parameter_97 : decode b_MO_parameter 97 = .ok (.iastore, 1) := by decide +kernel
theorem d_MO_parameter_98 : decode b_MO_parameter 98 = .ok (.aload_n 0, 1) := by decide +kernel
theorem d_MO_parameter_99 : decode b_MO_parameter 99 = .ok (.invokevirtual 184, 3) := by decide +kernel
theorem d_MO_parameter_102 : decode b_MO_parameter 102 = .ok (.aload_n 0, 1) := by decide +kernel
theorem d_MO_parameter_103 : decode b_MO_parameter 103 = .ok (.getfield 136, 3) := by decide +kernel
theorem d_MO_parameter_106 : decode b_MO_parameter 106 = .ok (.ifCond .ne 27, 3) := by decide +kernel
theorem d_MO_parameter_109 : decode b_MO_parameter 109 = .ok (.aload_n 0, 1) := by decide +kernel
theorem d_MO_parameter_110 : decode b_MO_parameter 110 = .ok (.aload_n 0, 1) := by decide +kernel
theorem d_MO_parameter_111 : decode b_MO_parameter 111 = .ok (.getfield 51, 3) := by decide +kernel
theorem d_MO_parameter_114 : decode b_MO_parameter 114 = .ok (.iconst 2, 1) := by decide +kernel
theorem d_MO_parameter_115 : decode b_MO_parameter 115 = .ok (.iload_n 3, 1) := by decide +kernel
theorem d_MO_parameter_116 : decode b_MO_parameter 116 = .ok (.imul, 1) := by decide +kernel
theorem d_MO_parameter_117 : decode b_MO_parameter 117 = .ok (.iload_n 2, 1) := by decide +kernel
theorem d_MO_parameter_118 : decode b_MO_parameter 118 = .ok (.iadd, 1) := by decide +kernel
theorem d_MO_parameter_119 : decode b_MO_parameter 119 = .ok (.iaload, 1) := by decide +kernel
theorem d_MO_parameter_120 : decode b_MO_parameter 120 = .ok (.aload_n 0, 1) := by decide +kernel
theorem d_MO_parameter_121 : decode b_MO_parameter 121 = .ok (.getfield 54, 3) := by decide +kernel
theorem d_MO_parameter_124 : decode b_MO_parameter 124 = .ok (.iconst 2, 1) := by decide +kernel
theorem d_MO_parameter_125 : decode b_MO_parameter 125 = .ok (.iload_n 3, 1) := by decide +kernel
theorem d_MO_parameter_126 : decode b_MO_parameter 126 = .ok (.imul, 1) := by decide +kernel
theorem d_MO_parameter_127 : decode b_MO_parameter 127 = .ok (.iload_n 2, 1) := by decide +kernel
theorem d_MO_parameter_128 : decode b_MO_parameter 128 = .ok (.iadd, 1) := by decide +kernel
theorem d_MO_parameter_129 : decode b_MO_parameter 129 = .ok (.iaload, 1) := by decide +kernel
theorem d_MO_parameter_130 : decode b_MO_parameter 130 = .ok (.invokevirtual 166, 3) := by decide +kernel
theorem d_MO_parameter_133 : decode b_MO_parameter 133 = .ok (.return_, 1) := by decide +kernel
theorem d_MO_call_0 : decode b_MO_call 0 = .ok (.aload_n 0, 1) := by decide +kernel
theorem d_MO_call_1 : decode b_MO_call 1 = .ok (.getfield 13, 3) := by decide +kernel
theorem d_MO_call_4 : decode b_MO_call 4 = .ok (.iload_n 2, 1) := by decide +kernel
theorem d_MO_call_5 : decode b_MO_call 5 = .ok (.iaload, 1) := by decide +kernel
theorem d_MO_call_6 : decode b_MO_call 6 = .ok (.istore_n 3, 1) := by decide +kernel
theorem d_MO_call_7 : decode b_MO_call 7 = .ok (.aload_n 0, 1) := by decide +kernel
theorem d_MO_call_8 : decode b_MO_call 8 = .ok (.getfield 75, 3) := by decide +kernel
theorem d_MO_call_11 : decode b_MO_call 11 = .ok (.iload_n 1, 1) := by decide +kernel
theorem d_MO_call_12 : decode b_MO_call 12 = .ok (.iaload, 1) := by decide +kernel
theorem d_MO_call_13 : decode b_MO_call 13 = .ok (.istore 4, 2) := by decide +kernel
theorem d_MO_call_15 : decode b_MO_call 15 = .ok (.iload 4, 2) := by decide +kernel
theorem d_MO_call_17 : decode b_MO_call 17 = .ok (.ifCond .ne 55, 3) := by decide +kernel
theorem d_MO_call_20 : decode b_MO_call 20 = .ok (.aload_n 0, 1) := by decide +kernel
theorem d_MO_call_21 : decode b_MO_call 21 = .ok (.getfield 22, 3) := by decide +kernel
theorem d_MO_call_24 : decode b_MO_call 24 = .ok (.iload_n 3, 1) := by decide +kernel
theorem d_MO_call_25 : decode b_MO_call 25 = .ok (.iaload, 1) := by decide +kernel
theorem d_MO_call_26 : decode b_MO_call 26 = .ok (.ifCond .lt 40, 3) := by decide +kernel
theorem d_MO_call_29 : decode b_MO_call 29 = .ok (.aload_n 0, 1) := by decide +kernel
theorem d_MO_call_30 : decode b_MO_call 30 = .ok (.getfield 25, 3) := by decide +kernel
theorem d_MO_call_33 : decode b_MO_call 33 = .ok (.iload_n 3, 1) := by decide +kernel
theorem d_MO_call_34 : decode b_MO_call 34 = .ok (.iaload, 1) := by decide +kernel
theorem d_MO_call_35 : decode b_MO_call 35 = .ok (.ifCond .le 12, 3) := by decide +kernel
theorem d_MO_call_38 : decode b_MO_call 38 = .ok (.aload_n 0, 1) := by decide +kernel
theorem d_MO_call_39 : decode b_MO_call 39 = .ok (.getfield 16, 3) := by decide +kernel
theorem d_MO_call_42 : decode b_MO_call 42 = .ok (.iload_n 2, 1) := by decide +kernel
theorem d_MO_call_43 : decode b_MO_call 43 = .ok (.iaload, 1) := by decide +kernel
theorem d_MO_call_44 : decode b_MO_call 44 = .ok (.ifCond .lt 22, 3) := by decide +kernel
theorem d_MO_call_47 : decode b_MO_call 47 = .ok (.aload_n 0, 1) := by decide +kernel
theorem d_MO_call_48 : decode b_MO_call 48 = .ok (.getfield 25, 3) := by decide +kernel
theorem d_MO_call_51 : decode b_MO_call 51 = .ok (.iload_n 3, 1) := by decide +kernel
theorem d_MO_call_52 : decode b_MO_call 52 = .ok (.iaload, 1) := by decide +kernel
theorem d_MO_call_53 : decode b_MO_call 53 = .ok (.iconst 1, 1) := by decide +kernel
theorem d_MO_call_54 : decode b_MO_call 54 = .ok (.if_icmp .le 18, 3) := by decide +kernel
theorem d_MO_call_57 : decode b_MO_call 57 = .ok (.aload_n 0, 1) := by decide +kernel
theorem d_MO_call_58 : decode b_MO_call 58 = .ok (.getfield 19, 3) := by decide +kernel
theorem d_MO_call_61 : decode b_MO_call 61 = .ok (.iload_n 2, 1) := by decide +kernel
theorem d_MO_call_62 : decode b_MO_call 62 = .ok (.iaload, 1) := by decide +kernel
theorem d_MO_call_63 : decode b_MO_call 63 = .ok (.ifCond .ge 9, 3) := by decide +kernel
theorem d_MO_call_66 : decode b_MO_call 66 = .ok (.aload_n 0, 1) := by decide +kernel
theorem d_MO_call_67 : decode b_MO_call 67 = .ok (.iconst 4, 1) := by decide +kernel
theorem d_MO_call_68 : decode b_MO_call 68 = .ok (.invokevirtual 142, 3) := by decide +kernel
theorem d_MO_call_71 : decode b_MO_call 71 = .ok (.return_, 1) := by decide +kernel
theorem d_MO_call_72 : decode b_MO_call 72 = .ok (.iload 4, 2) := by decide +kernel
theorem d_MO_call_74 : decode b_MO_call 74 = .ok (.bipush 9, 2) := by decide +kernel
theorem d_MO_call_76 : decode b_MO_call 76 = .ok (.if_icmp .ne 12, 3) := by decide +kernel
theorem d_MO_call_79 : decode b_MO_call 79 = .ok (.aload_n 0, 1) := by decide +kernel
theorem d_MO_call_80 : decode b_MO_call 80 = .ok (.aload_n 0, 1) := by decide +kernel
theorem d_MO_call_81 : decode b_MO_call 81 = .ok (.getfield 158, 3) := by decide +kernel
theorem d_MO_call_84 : decode b_MO_call 84 = .ok (.invokevirtual 162, 3) := by decide +kernel
theorem d_MO_call_87 : decode b_MO_call 87 = .ok (.return_, 1) := by decide +kernel
theorem d_MO_call_88 : decode b_MO_call 88 = .ok (.iload 4, 2) := by decide +kernel
theorem d_MO_call_90 : decode b_MO_call 90 = .ok (.iconst 1, 1) := by decide +kernel
theorem d_MO_call_91 : decode b_MO_call 91 = .ok (.if_icmp .ne 13, 3) := by decide +kernel
theorem d_MO_call_94 : decode b_MO_call 94 = .ok (.aload_n 0, 1) := by decide +kernel
theorem d_MO_call_95 : decode b_MO_call 95 = .ok (.getfield 90, 3) := by decide +kernel
theorem d_MO_call_98 : decode b_MO_call 98 = .ok (.iload_n 1, 1) := by decide +kernel
theorem d_MO_call_99 : decode b_MO_call 99 = .ok (.aload_n 0, 1) := by decide +kernel
theorem d_MO_call_100 : decode b_MO_call 100 = .ok (.getfield 158, 3) := by decide +kernel
theorem d_MO_call_103 : decode b_MO_call 103 = .ok (.dastore, 1) := by decide +kernel
theorem d_MO_call_104 : decode b_MO_call 104 = .ok (.iload 4, 2) := by decide +kernel
theorem d_MO_call_106 : decode b_MO_call 106 = .ok (.iconst 2, 1) := by decide +kernel
theorem d_MO_call_107 : decode b_MO_call 107 = .ok (.if_icmp .ne 13, 3) := by decide +kernel
theorem d_MO_call_110 : decode b_MO_call 110 = .ok (.aload_n 0, 1) := by decide +kernel
theorem d_MO_call_111 : decode b_MO_call 111 = .ok (.getfield 93, 3) := by decide +kernel
theorem d_MO_call_114 : decode b_MO_call 114 = .ok (.iload_n 1, 1) := by decide +kernel
theorem d_MO_call_115 : decode b_MO_call 115 = .ok (.aload_n 0, 1) := by decide +kernel
theorem d_MO_call_116 : decode b_MO_call 116 = .ok (.getfield 158, 3) := by decide +kernel
theorem d_MO_call_119 : decode b_MO_call 119 = .ok (.dastore, 1) := by decide +kernel
theorem d_MO_call_120 : decode b_MO_call 120 = .ok (.iload 4, 2) := by decide +kernel
theorem d_MO_call_122 : decode b_MO_call 122 = .ok (.istore 5, 2) := by decide +kernel
theorem d_MO_call_124 : decode b_MO_call 124 = .ok (.iload 5, 2) := by decide +kernel
theorem d_MO_call_126 : decode b_MO_call 126 = .ok (.aload_n 0, 1) := by decide +kernel
theorem d_MO_call_127 : decode b_MO_call 127 = .ok (.getfield 25, 3) := by decide +kernel
theorem d_MO_call_130 : decode b_MO_call 130 = .ok (.iload_n 3, 1) := by decide +kernel
theorem d_MO_call_131 : decode b_MO_call 131 = .ok (.iaload, 1) := by decide +kernel
theorem d_MO_call_132 : decode b_MO_call 132 = .ok (.if_icmp .ge 85, 3) := by decide +kernel
theorem d_MO_call_135 : decode b_MO_call 135 = .ok (.aload_n 0, 1) := by decide +kernel
theorem d_MO_call_136 : decode b_MO_call 136 = .ok (.getfield 28, 3) := by decide +kernel
theorem d_MO_call_139 : decode b_MO_call 139 = .ok (.iload_n 3, 1) := by decide +kernel
theorem d_MO_call_140 : decode b_MO_call 140 = .ok (.iaload, 1) := by decide +kernel
theorem d_MO_call_141 : decode b_MO_call 141 = .ok (.iload 5, 2) := by decide +kernel
theorem d_MO_call_143 : decode b_MO_call 143 = .ok (.ishr, 1) := by decide +kernel
theorem d_MO_call_144 : decode b_MO_call 144 = .ok (.iconst 1, 1) := by decide +kernel
theorem d_MO_call_145 : decode b_MO_call 145 = .ok (.iand, 1) := by decide +kernel
theorem d_MO_call_146 : decode b_MO_call 146 = .ok (.iconst 1, 1) := by decide +kernel
theorem d_MO_call_147 : decode b_MO_call 147 = .ok (.if_icmp .ne 6, 3) := by decide +kernel
theorem d_MO_call_150 : decode b_MO_call 150 = .ok (.goto 61, 3) := by decide +kernel
theorem d_MO_call_153 : decode b_MO_call 153 = .ok (.iload 5, 2) := by decide +kernel
theorem d_MO_call_155 : decode b_MO_call 155 = .ok (.ifCond .ne 12, 3) := by decide +kernel
theorem d_MO_call_158 : decode b_MO_call 158 = .ok (.aload_n 0, 1) := by decide +kernel
theorem d_MO_call_159 : decode b_MO_call 159 = .ok (.getfield 16, 3) := by decide +kernel
theorem d_MO_call_162 : decode b_MO_call 162 = .ok (.iload_n 2, 1) := by decide +kernel
theorem d_MO_call_163 : decode b_MO_call 163 = .ok (.iaload, 1) := by decide +kernel
theorem d_MO_call_164 : decode b_MO_call 164 = .ok (.goto 9, 3) := by decide +kernel
theorem d_MO_call_167 : decode b_MO_call 167 = .ok (.aload_n 0, 1) := by decide +kernel
theorem d_MO_call_168 : decode b_MO_call 168 = .ok (.getfield 19, 3) := by decide +kernel
theorem d_MO_call_171 : decode b_MO_call 171 = .ok (.iload_n 2, 1) := by decide +kernel
theorem d_MO_call_172 : decode b_MO_call 172 = .ok (.iaload, 1) := by decide +kernel
theorem d_MO_call_173 : decode b_MO_call 173 = .ok (.istore 6, 2) := by decide +kernel
theorem d_MO_call_175 : decode b_MO_call 175 = .ok (.aload_n 0, 1) := by decide +kernel
theorem d_MO_call_176 : decode b_MO_call 176 = .ok (.getfield 75, 3) := by decide +kernel
theorem d_MO_call_179 : decode b_MO_call 179 = .ok (.iload_n 1, 1) := by decide +kernel
theorem d_MO_call_180 : decode b_MO_call 180 = .ok (.iload 5, 2) := by decide +kernel
theorem d_MO_call_182 : decode b_MO_call 182 = .ok (.iconst 1, 1) := by decide +kernel
theorem d_MO_call_183 : decode b_MO_call 183 = .ok (.iadd, 1) := by decide +kernel
theorem d_MO_call_184 : decode b_MO_call 184 = .ok (.iastore, 1) := by decide +kernel
theorem d_MO_call_185 : decode b_MO_call 185 = .ok (.iload 6, 2) := by decide +kernel
theorem d_MO_call_187 : decode b_MO_call 187 = .ok (.ifCond .ge 11, 3) := by decide +kernel
theorem d_MO_call_190 : decode b_MO_call 190 = .ok (.aload_n 0, 1) := by decide +kernel
theorem d_MO_call_191 : decode b_MO_call 191 = .ok (.iconst 4, 1) := by decide +kernel
theorem d_MO_call_192 : decode b_MO_call 192 = .ok (.invokevirtual 142, 3) := by decide +kernel
theorem d_MO_call_195 : decode b_MO_call 195 = .ok (.goto 15, 3) := by decide +kernel
theorem d_MO_call_198 : decode b_MO_call 198 = .ok (.aload_n 0, 1) := by decide +kernel
theorem d_MO_call_199 : decode b_MO_call 199 = .ok (.iload 6, 2) := by decide +kernel
theorem d_MO_call_201 : decode b_MO_call 201 = .ok (.aload_n 0, 1) := by decide +kernel
theorem d_MO_call_202 : decode b_MO_call 202 = .ok (.getfield 72, 3) := by decide +kernel
theorem d_MO_call_205 : decode b_MO_call 205 = .ok (.iload_n 1, 1) := by decide +kernel
theorem d_MO_call_206 : decode b_MO_call 206 = .ok (.iaload, 1) := by decide +kernel
theorem d_MO_call_207 : decode b_MO_call 207 = .ok (.invokevirtual 166, 3) := by decide +kernel
theorem d_MO_call_210 : decode b_MO_call 210 = .ok (.return_, 1) := by decide +kernel
theorem d_MO_call_211 : decode b_MO_call 211 = .ok (.iinc 5 1, 3) := by decide +kernel
theorem d_MO_call_214 : decode b_MO_call 214 = .ok (.goto (-90), 3) := by decide +kernel
theorem d_MO_call_217 : decode b_MO_call 217 = .ok (.aload_n 0, 1) := by decide +kernel
theorem d_MO_call_218 : decode b_MO_call 218 = .ok (.invokevirtual 184, 3) := by decide +kernel
theorem d_MO_call_221 : decode b_MO_call 221 = .ok (.aload_n 0, 1) := by decide +kernel
theorem d_MO_call_222 : decode b_MO_call 222 = .ok (.getfield 136, 3) := by decide +kernel
theorem d_MO_call_225 : decode b_MO_call 225 = .ok (.ifCond .le 4, 3) := by decide +kernel
theorem d_MO_call_228 : decode b_MO_call 228 = .ok (.return_, 1) := by decide +kernel
theorem d_MO_call_229 : decode b_MO_call 229 = .ok (.aload_n 0, 1) := by decide +kernel
theorem d_MO_call_230 : decode b_MO_call 230 = .ok (.dup, 1) := by decide +kernel
theorem d_MO_call_231 : decode b_MO_call 231 = .ok (.getfield 152, 3) := by decide +kernel
theorem d_MO_call_234 : decode b_MO_call 234 = .ok (.iconst 1, 1) := by decide +kernel
theorem d_MO_call_235 : decode b_MO_call 235 = .ok (.iadd, 1) := by decide +kernel
theorem d_MO_call_236 : decode b_MO_call 236 = .ok (.putfield 152, 3) := by decide +kernel
theorem d_MO_call_239 : decode b_MO_call 239 = .ok (.aload_n 0, 1) := by decide +kernel
theorem d_MO_call_240 : decode b_MO_call 240 = .ok (.getfield 152, 3) := by decide +kernel
theorem d_MO_call_243 : decode b_MO_call 243 = .ok (.istore 5, 2) := by decide +kernel
theorem d_MO_call_245 : decode b_MO_call 245 = .ok (.aload_n 0, 1) := by decide +kernel
theorem d_MO_call_246 : decode b_MO_call 246 = .ok (.dup, 1) := by decide +kernel
theorem d_MO_call_247 : decode b_MO_call 247 = .ok (.getfield 187, 3) := by decide +kernel
theorem d_MO_call_250 : decode b_MO_call 250 = .ok (.iconst 1, 1) := by decide +kernel
theorem d_MO_call_251 : decode b_MO_call 251 = .ok (.iadd, 1) := by decide +kernel
theorem d_MO_call_252 : decode b_MO_call 252 = .ok (.putfield 187, 3) := by decide +kernel
theorem d_MO_call_255 : decode b_MO_call 255 = .ok (.aload_n 0, 1) := by decide +kernel
theorem d_MO_call_256 : decode b_MO_call 256 = .ok (.getfield 57, 3) := by decide +kernel
theorem d_MO_call_259 : decode b_MO_call 259 = .ok (.iload 5, 2) := by decide +kernel
theorem d_MO_call_261 : decode b_MO_call 261 = .ok (.aload_n 0, 1) := by decide +kernel
theorem d_MO_call_262 : decode b_MO_call 262 = .ok (.getfield 25, 3) := by decide +kernel
theorem d_MO_call_265 : decode b_MO_call 265 = .ok (.iload_n 3, 1) := by decide +kernel
theorem d_MO_call_266 : decode b_MO_call 266 = .ok (.iaload, 1) := by decide +kernel
theorem d_MO_call_267 : decode b_MO_call 267 = .ok (.iastore, 1) := by decide +kernel
theorem d_MO_call_268 : decode b_MO_call 268 = .ok (.aload_n 0, 1) := by decide +kernel
theorem d_MO_call_269 : decode b_MO_call 269 = .ok (.getfield 60, 3) := by decide +kernel
theorem d_MO_call_272 : decode b_MO_call 272 = .ok (.iload 5, 2) := by decide +kernel
theorem d_MO_call_274 : decode b_MO_call 274 = .ok (.aload_n 0, 1) := by decide +kernel
theorem d_MO_call_275 : decode b_MO_call 275 = .ok (.getfield 28, 3) := by decide +kernel
theorem d_MO_call_278 : decode b_MO_call 278 = .ok (.iload_n 3, 1) := by decide +kernel
theorem d_MO_call_279 : decode b_MO_call 279 = .ok (.iaload, 1) := by decide +kernel
theorem d_MO_call_280 : decode b_MO_call 280 = .ok (.iastore, 1) := by decide +kernel
theorem d_MO_call_281 : decode b_MO_call 281 = .ok (.iconst 0, 1) := by decide +kernel
theorem d_MO_call_282 : decode b_MO_call 282 = .ok (.istore 6, 2) := by decide +kernel
theorem d_MO_call_284 : decode b_MO_call 284 = .ok (.iload 6, 2) := by decide +kernel
theorem d_MO_call_286 : decode b_MO_call 286 = .ok (.iconst 2, 1) := by decide +kernel
theorem d_MO_call_287 : decode b_MO_call 287 = .ok (.if_icmp .ge 104, 3) := by decide +kernel
theorem d_MO_call_290 : decode b_MO_call 290 = .ok (.aload_n 0, 1) := by decide +kernel
theorem d_MO_call_291 : decode b_MO_call 291 = .ok (.getfield 63, 3) := by decide +kernel
theorem d_MO_call_294 : decode b_MO_call 294 = .ok (.iconst 2, 1) := by decide +kernel
theorem d_MO_call_295 : decode b_MO_call 295 = .ok (.iload 5, 2) := by decide +kernel
theorem d_MO_call_297 : decode b_MO_call 297 = .ok (.imul, 1) := by decide +kernel
theorem d_MO_call_298 : decode b_MO_call 298 = .ok (.iload 6, 2) := by decide +kernel
theorem d_MO_call_300 : decode b_MO_call 300 = .ok (.iadd, 1) := by decide +kernel
theorem d_MO_call_301 : decode b_MO_call 301 = .ok (.iload 6, 2) := by decide +kernel
theorem d_MO_call_303 : decode b_MO_call 303 = .ok (.ifCond .ne 12, 3) := by decide +kernel
theorem d_MO_call_306 : decode b_MO_call 306 = .ok (.aload_n 0, 1) := by decide +kernel
theorem d_MO_call_307 : decode b_MO_call 307 = .ok (.getfield 90, 3) := by decide +kernel
theorem d_MO_call_310 : decode b_MO_call 310 = .ok (.iload_n 1, 1) := by decide +kernel
theorem d_MO_call_311 : decode b_MO_call 311 = .ok (.daload, 1) := by decide +kernel
theorem d_MO_call_312 : decode b_MO_call 312 = .ok (.goto 9, 3) := by decide +kernel
theorem d_MO_call_315 : decode b_MO_call 315 = .ok (.aload_n 0, 1) := by decide +kernel
theorem d_MO_call_316 : decode b_MO_call 316 = .ok (.getfield 93, 3) := by decide +kernel
theorem d_MO_call_319 : decode b_MO_call 319 = .ok (.iload_n 1, 1) := by decide +kernel
theorem d_MO_call_320 : decode b_MO_call 320 = .ok (.daload, 1) := by decide +kernel
theorem d_MO_call_321 : decode b_MO_call 321 = .ok (.dastore, 1) := by decide +kernel
theorem d_MO_call_322 : decode b_MO_call 322 = .ok (.aload_n 0, 1) := by decide +kernel
theorem d_MO_call_323 : decode b_MO_call 323 = .ok (.getfield 51, 3) := by decide +kernel
theorem d_MO_call_326 : decode b_MO_call 326 = .ok (.iconst 2, 1) := by decide +kernel
theorem d_MO_call_327 : decode b_MO_call 327 = .ok (.iload 5, 2) := by decide +kernel
theorem d_MO_call_329 : decode b_MO_call 329 = .ok (.imul, 1) := by decide +kernel
theorem d_MO_call_330 : decode b_MO_call 330 = .ok (.iload 6, 2) := by decide +kernel
theorem d_MO_call_332 : decode b_MO_call 332 = .ok (.iadd, 1) := by decide +kernel
theorem d_MO_call_333 : decode b_MO_call 333 = .ok (.iload 6, 2) := by decide +kernel
theorem d_MO_call_335 : decode b_MO_call 335 = .ok (.ifCond .ne 12, 3) := by decide +kernel
theorem d_MO_call_338 : decode b_MO_call 338 = .ok (.aload_n 0, 1) := by decide +kernel
theorem d_MO_call_339 : decode b_MO_call 339 = .ok (.getfield 16, 3) := by decide +kernel
theorem d_MO_call_342 : decode b_MO_call 342 = .ok (.iload_n 2, 1) := by decide +kernel
theorem d_MO_call_343 : decode b_MO_call 343 = .ok (.iaload, 1) := by decide +kernel
theorem d_MO_call_344 : decode b_MO_call 344 = .ok (.goto 9, 3) := by decide +kernel
theorem d_MO_call_347 : decode b_MO_call 347 = .ok (.aload_n 0, 1) := by decide +kernel
theorem d_MO_call_348 : decode b_MO_call 348 = .ok (.getfield 19, 3) := by decide +kernel
theorem d_MO_call_351 : decode b_MO_call 351 = .ok (.iload_n 2, 1) := by decide +kernel
theorem d_MO_call_352 : decode b_MO_call 352 = .ok (.iaload, 1) := by decide +kernel
theorem d_MO_call_353 : decode b_MO_call 353 = .ok (.iastore, 1) := by decide +kernel
theorem d_MO_call_354 : decode b_MO_call 354 = .ok (.aload_n 0, 1) := by decide +kernel
theorem d_MO_call_355 : decode b_MO_call 355 = .ok (.getfield 54, 3) := by decide +kernel
theorem d_MO_call_358 : decode b_MO_call 358 = .ok (.iconst 2, 1) := by decide +kernel
theorem d_MO_call_359 : decode b_MO_call 359 = .ok (.iload 5, 2) := by decide +kernel
theorem d_MO_call_361 : decode b_MO_call 361 = .ok (.imul, 1) := by decide +kernel
theorem d_MO_call_362 : decode b_MO_call 362 = .ok (.iload 6, 2) := by decide +kernel
theorem d_MO_call_364 : decode b_MO_call 364 = .ok (.iadd, 1) := by decide +kernel
theorem d_MO_call_365 : decode b_MO_call 365 = .ok (.aload_n 0, 1) := by decide +kernel
theorem d_MO_call_366 : decode b_MO_call 366 = .ok (.getfield 72, 3) := by decide +kernel
theorem d_MO_call_369 : decode b_MO_call 369 = .ok (.iload_n 1, 1) := by decide +kernel
theorem d_MO_call_370 : decode b_MO_call 370 = .ok (.iaload, 1) := by decide +kernel
theorem d_MO_call_371 : decode b_MO_call 371 = .ok (.iastore, 1) := by decide +kernel
theorem d_MO_call_372 : decode b_MO_call 372 = .ok (.aload_n 0, 1) := by decide +kernel
theorem d_MO_call_373 : decode b_MO_call 373 = .ok (.getfield 66, 3) := by decide +kernel
theorem d_MO_call_376 : decode b_MO_call 376 = .ok (.iconst 2, 1) := by decide +kernel
theorem d_MO_call_377 : decode b_MO_call 377 = .ok (.iload 5, 2) := by decide +kernel
theorem d_MO_call_379 : decode b_MO_call 379 = .ok (.imul, 1) := by decide +kernel
theorem d_MO_call_380 : decode b_MO_call 380 = .ok (.iload 6, 2) := by decide +kernel
theorem d_MO_call_382 : decode b_MO_call 382 = .ok (.iadd, 1) := by decide +kernel
theorem d_MO_call_383 : decode b_MO_call 383 = .ok (.dconst 0, 1) := by decide +kernel
theorem d_MO_call_384 : decode b_MO_call 384 = .ok (.dastore, 1) := by decide +kernel
theorem d_MO_call_385 : decode b_MO_call 385 = .ok (.iinc 6 1, 3) := by decide +kernel
theorem d_MO_call_388 : decode b_MO_call 388 = .ok (.goto (-104), 3) := by decide +kernel
theorem d_MO_call_391 : decode b_MO_call 391 = .ok (.aload_n 0, 1) := by decide +kernel
theorem d_MO_call_392 : decode b_MO_call 392 = .ok (.getfield 75, 3) := by decide +kernel
theorem d_MO_call_395 : decode b_MO_call 395 = .ok (.iload_n 1, 1) := by decide +kernel
theorem d_MO_call_396 : decode b_MO_call 396 = .ok (.bipush 9, 2) := by decide +kernel
theorem d_MO_call_398 : decode b_MO_call 398 = .ok (.iastore, 1) := by decide +kernel
theorem d_MO_call_399 : decode b_MO_call 399 = .ok (.aload_n 0, 1) := by decide +kernel
theorem d_MO_call_400 : decode b_MO_call 400 = .ok (.aload_n 0, 1) := by decide +kernel
theorem d_MO_call_401 : decode b_MO_call 401 = .ok (.getfield 22, 3) := by decide +kernel
theorem d_MO_call_404 : decode b_MO_call 404 = .ok (.iload_n 3, 1) := by decide +kernel
theorem d_MO_call_405 : decode b_MO_call 405 = .ok (.iaload, 1) := by decide +kernel
theorem d_MO_call_406 : decode b_MO_call 406 = .ok (.iload 5, 2) := by decide +kernel
theorem d_MO_call_408 : decode b_MO_call 408 = .ok (.invokevirtual 166, 3) := by decide +kernel
theorem d_MO_call_411 : decode b_MO_call 411 = .ok (.return_, 1) := by decide +kernel
theorem d_MO_isGoal_0 : decode b_MO_isGoal 0 = .ok (.iload_n 0, 1) := by decide +kernel
theorem d_MO_isGoal_1 : decode b_MO_isGoal 1 = .ok (.iconst 1, 1) := by decide +kernel
theorem d_MO_isGoal_2 : decode b_MO_isGoal 2 = .ok (.if_icmp .eq 20, 3) := by decide +kernel
theorem d_MO_isGoal_5 : decode b_MO_isGoal 5 = .ok (.iload_n 0, 1) := by decide +kernel
theorem d_MO_isGoal_6 : decode b_MO_isGoal 6 = .ok (.iconst 2, 1) := by decide +kernel
theorem d_MO_isGoal_7 : decode b_MO_isGoal 7 = .ok (.if_icmp .eq 15, 3) := by decide +kernel
theorem d_MO_isGoal_10 : decode b_MO_isGoal 10 = .ok (.iload_n 0, 1) := by decide +kernel
theorem d_MO_isGoal_11 : decode b_MO_isGoal 11 = .ok (.bipush 10, 2) := by decide +kernel
theorem d_MO_isGoal_13 : decode b_MO_isGoal 13 = .ok (.if_icmp .eq 9, 3) := by decide +kernel
theorem d_MO_isGoal_16 : decode b_MO_isGoal 16 = .ok (.iload_n 0, 1) := by decide +kernel
theorem d_MO_isGoal_17 : decode b_MO_isGoal 17 = .ok (.bipush 11, 2) := by decide +kernel
theorem d_MO_isGoal_19 : decode b_MO_isGoal 19 = .ok (.if_icmp .ne 7, 3) := by decide +kernel
theorem d_MO_isGoal_22 : decode b_MO_isGoal 22 = .ok (.iconst 1, 1) := by decide +kernel
theorem d_MO_isGoal_23 : decode b_MO_isGoal 23 = .ok (.goto 4, 3) := by decide +kernel
theorem d_MO_isGoal_26 : decode b_MO_isGoal 26 = .ok (.iconst 0, 1) := by decide +kernel
theorem d_MO_isGoal_27 : decode b_MO_isGoal 27 = .ok (.ireturn, 1) := by decide +kernel
theorem d_MO_follow_0 : decode b_MO_follow 0 = .ok (.aload_n 0, 1) := by decide +kernel
theorem d_MO_follow_1 : decode b_MO_follow 1 = .ok (.getfield 136, 3) := by decide +kernel
theorem d_MO_follow_4 : decode b_MO_follow 4 = .ok (.ifCond .ne 155, 3) := by decide +kernel
theorem d_MO_follow_7 : decode b_MO_follow 7 = .ok (.aload_n 0, 1) := by decide +kernel
theorem d_MO_follow_8 : decode b_MO_follow 8 = .ok (.getfield 7, 3) := by decide +kernel
theorem d_MO_follow_11 : decode b_MO_follow 11 = .ok (.aload_n 0, 1) := by decide +kernel
theorem d_MO_follow_12 : decode b_MO_follow 12 = .ok (.getfield 84, 3) := by decide +kernel
theorem d_MO_follow_15 : decode b_MO_follow 15 = .ok (.iload_n 1, 1) := by decide +kernel
theorem d_MO_follow_16 : decode b_MO_follow 16 = .ok (.iaload, 1) := by decide +kernel
theorem d_MO_follow_17 : decode b_MO_follow 17 = .ok (.iaload, 1) := by decide +kernel
theorem d_MO_follow_18 : decode b_MO_follow 18 = .ok (.bipush 10, 2) := by decide +kernel
theorem d_MO_follow_20 : decode b_MO_follow 20 = .ok (.if_icmp .ne 139, 3) := by decide +kernel
theorem d_MO_follow_23 : decode b_MO_follow 23 = .ok (.aload_n 0, 1) := by decide +kernel
theorem d_MO_follow_24 : decode b_MO_follow 24 = .ok (.getfield 87, 3) := by decide +kernel
theorem d_MO_follow_27 : decode b_MO_follow 27 = .ok (.iload_n 1, 1) := by decide +kernel
theorem d_MO_follow_28 : decode b_MO_follow 28 = .ok (.iaload, 1) := by decide +kernel
theorem d_MO_follow_29 : decode b_MO_follow 29 = .ok (.istore_n 2, 1) := by decide +kernel
theorem d_MO_follow_30 : decode b_MO_follow 30 = .ok (.aload_n 0, 1) := by decide +kernel
theorem d_MO_follow_31 : decode b_MO_follow 31 = .ok (.getfield 13, 3) := by decide +kernel
theorem d_MO_follow_34 : decode b_MO_follow 34 = .ok (.aload_n 0, 1) := by decide +kernel
theorem d_MO_follow_35 : decode b_MO_follow 35 = .ok (.getfield 84, 3) := by decide +kernel
theorem d_MO_follow_38 : decode b_MO_follow 38 = .ok (.iload_n 1, 1) := by decide +kernel
theorem d_MO_follow_39 : decode b_MO_follow 39 = .ok (.iaload, 1) := by decide +kernel
theorem d_MO_follow_40 : decode b_MO_follow 40 = .ok (.iaload, 1) := by decide +kernel
theorem d_MO_follow_41 : decode b_MO_follow 41 = .ok (.istore_n 3, 1) := by decide +kernel
theorem d_MO_follow_42 : decode b_MO_follow 42 = .ok (.aload_n 0, 1) := by decide +kernel
theorem d_MO_follow_43 : decode b_MO_follow 43 = .ok (.iload_n 2, 1) := by decide +kernel
theorem d_MO_follow_44 : decode b_MO_follow 44 = .ok (.iload_n 3, 1) := by decide +kernel
theorem d_MO_follow_45 : decode b_MO_follow 45 = .ok (.invokevirtual 178, 3) := by decide +kernel
theorem d_MO_follow_48 : decode b_MO_follow 48 = .ok (.ifCond .ne 11, 3) := by decide +kernel
theorem d_MO_follow_51 : decode b_MO_follow 51 = .ok (.aload_n 0, 1) := by decide +kernel
theorem d_MO_follow_52 : decode b_MO_follow 52 = .ok (.iconst 4, 1) := by decide +kernel
theorem d_MO_follow_53 : decode b_MO_follow 53 = .ok (.invokevirtual 142, 3) := by decide +kernel
theorem d_MO_follow_56 : decode b_MO_follow 56 = .ok (.goto 100, 3) := by decide +kernel
theorem d_MO_follow_59 : decode b_MO_follow 59 = .ok (.aload_n 0, 1) := by decide +kernel
theorem d_MO_follow_60 : decode b_MO_follow 60 = .ok (.iload_n 2, 1) := by decide +kernel
theorem d_MO_follow_61 : decode b_MO_follow 61 = .ok (.iload_n 3, 1) := by decide +kernel
theorem d_MO_follow_62 : decode b_MO_follow 62 = .ok (.invokevirtual 181, 3) := by decide +kernel
theorem d_MO_follow_65 : decode b_MO_follow 65 = .ok (.ifCond .ne 4, 3) := by decide +kernel
theorem d_MO_follow_68 : decode b_MO_follow 68 = .ok (.return_, 1) := by decide +kernel
theorem d_MO_follow_69 : decode b_MO_follow 69 = .ok (.aload_n 0, 1) := by decide +kernel
theorem d_MO_follow_70 : decode b_MO_follow 70 = .ok (.getfield 51, 3) := by decide +kernel
theorem d_MO_follow_73 : decode b_MO_follow 73 = .ok (.iconst 2, 1) := by decide +kernel
theorem d_MO_follow_74 : decode b_MO_follow 74 = .ok (.iload_n 2, 1) := by decide +kernel
theorem d_MO_follow_75 : decode b_MO_follow 75 = .ok (.imul, 1) := by decide +kernel
theorem d_MO_follow_76 : decode b_MO_follow 76 = .ok (.iload_n 3, 1) := by decide +kernel
theorem d_MO_follow_77 : decode b_MO_follow 77 = .ok (.iadd, 1) := by decide +kernel
theorem d_MO_follow_78 : decode b_MO_follow 78 = .ok (.iaload, 1) := by decide +kernel
theorem d_MO_follow_79 : decode b_MO_follow 79 = .ok (.ifCond .ge 11, 3) := by decide +kernel
theorem d_MO_follow_82 : decode b_MO_follow 82 = .ok (.aload_n 0, 1) := by decide +kernel
theorem d_MO_follow_83 : decode b_MO_follow 83 = .ok (.iconst 4, 1) := by decide +kernel
theorem d_MO_follow_84 : decode b_MO_follow 84 = .ok (.invokevirtual 142, 3) := by decide +kernel
theorem d_MO_follow_87 : decode b_MO_follow 87 = .ok (.goto 69, 3) := by decide +kernel
theorem d_MO_follow_90 : decode b_MO_follow 90 = .ok (.aload_n 0, 1) := by decide +kernel
theorem d_MO_follow_91 : decode b_MO_follow 91 = .ok (.getfield 7, 3) := by decide +kernel
theorem d_MO_follow_94 : decode b_MO_follow 94 = .ok (.aload_n 0, 1) := by decide +kernel
theorem d_MO_follow_95 : decode b_MO_follow 95 = .ok (.getfield 51, 3) := by decide +kernel
theorem d_MO_follow_98 : decode b_MO_follow 98 = .ok (.iconst 2, 1) := by decide +kernel
theorem d_MO_follow_99 : decode b_MO_follow 99 = .ok (.iload_n 2, 1) := by decide +kernel
theorem d_MO_follow_100 : decode b_MO_follow 100 = .ok (.imul, 1) := by decide +kernel
theorem d_MO_follow_101 : decode b_MO_follow 101 = .ok (.iload_n 3, 1) := by decide +kernel
theorem d_MO_follow_102 : decode b_MO_follow 102 = .ok (.iadd, 1) := by decide +kernel
theorem d_MO_follow_103 : decode b_MO_follow 103 = .ok (.iaload, 1) := by decide +kernel
theorem d_MO_follow_104 : decode b_MO_follow 104 = .ok (.iaload, 1) := by decide +kernel
theorem d_MO_follow_105 : decode b_MO_follow 105 = .ok (.invokestatic 190, 3) := by decide +kernel
theorem d_MO_follow_108 : decode b_MO_follow 108 = .ok (.ifCond .ne 12, 3) := by decide +kernel
theorem d_MO_follow_111 : decode b_MO_follow 111 = .ok (.aload_n 0, 1) := by decide +kernel
theorem d_MO_follow_112 : decode b_MO_follow 112 = .ok (.bipush 6, 2) := by decide +kernel
theorem d_MO_follow_114 : decode b_MO_follow 114 = .ok (.invokevirtual 142, 3) := by decide +kernel
theorem d_MO_follow_117 : decode b_MO_follow 117 = .ok (.goto 39, 3) := by decide +kernel
theorem d_MO_follow_120 : decode b_MO_follow 120 = .ok (.aload_n 0, 1) := by decide +kernel
theorem d_MO_follow_121 : decode b_MO_follow 121 = .ok (.invokevirtual 184, 3) := by decide +kernel
theorem d_MO_follow_124 : decode b_MO_follow 124 = .ok (.aload_n 0, 1) := by decide +kernel
theorem d_MO_follow_125 : decode b_MO_follow 125 = .ok (.getfield 84, 3) := by decide +kernel
theorem d_MO_follow_128 : decode b_MO_follow 128 = .ok (.iload_n 1, 1) := by decide +kernel
theorem d_MO_follow_129 : decode b_MO_follow 129 = .ok (.aload_n 0, 1) := by decide +kernel
theorem d_MO_follow_130 : decode b_MO_follow 130 = .ok (.getfield 51, 3) := by decide +kernel
theorem d_MO_follow_133 : decode b_MO_follow 133 = .ok (.iconst 2, 1) := by decide +kernel
theorem d_MO_follow_134 : decode b_MO_follow 134 = .ok (.iload_n 2, 1) := by decide +kernel
theorem d_MO_follow_135 : decode b_MO_follow 135 = .ok (.imul, 1) := by decide +kernel
theorem d_MO_follow_136 : decode b_MO_follow 136 = .ok (.iload_n 3, 1) := by decide +kernel
theorem d_MO_follow_137 : decode b_MO_follow 137 = .ok (.iadd, 1) := by decide +kernel
theorem d_MO_follow_138 : decode b_MO_follow 138 = .ok (.iaload, 1) := by decide +kernel
theorem d_MO_follow_139 : decode b_MO_follow 139 = .ok (.iastore, 1) := by decide +kernel
theorem d_MO_follow_140 : decode b_MO_follow 140 = .ok (.aload_n 0, 1) := by decide +kernel
theorem d_MO_follow_141 : decode b_MO_follow 141 = .ok (.getfield 87, 3) := by decide +kernel
theorem d_MO_follow_144 : decode b_MO_follow 144 = .ok (.iload_n 1, 1) := by decide +kernel
theorem d_MO_follow_145 : decode b_MO_follow 145 = .ok (.aload_n 0, 1) := by decide +kernel
theorem d_MO_follow_146 : decode b_MO_follow 146 = .ok (.getfield 54, 3) := by decide +kernel
theorem d_MO_follow_149 : decode b_MO_follow 149 = .ok (.iconst 2, 1) := by decide +kernel
theorem d_MO_follow_150 : decode b_MO_follow 150 = .ok (.iload_n 2, 1) := by decide +kernel
theorem d_MO_follow_151 : decode b_MO_follow 151 = .ok (.imul, 1) := by decide +kernel
theorem d_MO_follow_152 : decode b_MO_follow 152 = .ok (.iload_n 3, 1) := by decide +kernel
theorem d_MO_follow_153 : decode b_MO_follow 153 = .ok (.iadd, 1) := by decide +kernel
theorem d_MO_follow_154 : decode b_MO_follow 154 = .ok (.iaload, 1) := by decide +kernel
theorem d_MO_follow_155 : decode b_MO_follow 155 = .ok (.iastore, 1) := by decide +kernel
theorem d_MO_follow_156 : decode b_MO_follow 156 = .ok (.goto (-156), 3) := by decide +kernel
theorem d_MO_follow_159 : decode b_MO_follow 159 = .ok (.return_, 1) := by decide +kernel
theorem d_MO_become_0 : decode b_MO_become 0 = .ok (.aload_n 0, 1) := by decide +kernel
theorem d_MO_become_1 : decode b_MO_become 1 = .ok (.getfield 84, 3) := by decide +kernel
theorem d_MO_become_4 : decode b_MO_become 4 = .ok (.iload_n 1, 1) := by decide +kernel
theorem d_MO_become_5 : decode b_MO_become 5 = .ok (.iaload, 1) := by decide +kernel
theorem d_MO_become_6 : decode b_MO_become 6 = .ok (.istore_n 2, 1) := by decide +kernel
theorem d_MO_become_7 : decode b_MO_become 7 = .ok (.aload_n 0, 1) := by decide +kernel
theorem d_MO_become_8 : decode b_MO_become 8 = .ok (.getfield 87, 3) := by decide +kernel
theorem d_MO_become_11 : decode b_MO_become 11 = .ok (.iload_n 1, 1) := by decide +kernel
theorem d_MO_become_12 : decode b_MO_become 12 = .ok (.iaload, 1) := by decide +kernel
theorem d_MO_become_13 : decode b_MO_become 13 = .ok (.istore_n 3, 1) := by decide +kernel
theorem d_MO_become_14 : decode b_MO_become 14 = .ok (.aload_n 0, 1) := by decide +kernel
theorem d_MO_become_15 : decode b_MO_become 15 = .ok (.getfield 13, 3) := by decide +kernel
theorem d_MO_become_18 : decode b_MO_become 18 = .ok (.iload_n 2, 1) := by decide +kernel
theorem d_MO_become_19 : decode b_MO_become 19 = .ok (.iaload, 1) := by decide +kernel
theorem d_MO_become_20 : decode b_MO_become 20 = .ok (.istore 4, 2) := by decide +kernel
theorem d_MO_become_22 : decode b_MO_become 22 = .ok (.aload_n 0, 1) := by decide +kernel
theorem d_MO_become_23 : decode b_MO_become 23 = .ok (.getfield 90, 3) := by decide +kernel
theorem d_MO_become_26 : decode b_MO_become 26 = .ok (.iload_n 1, 1) := by decide +kernel
theorem d_MO_become_27 : decode b_MO_become 27 = .ok (.daload, 1) := by decide +kernel
theorem d_MO_become_28 : decode b_MO_become 28 = .ok (.dstore 5, 2) := by decide +kernel
theorem d_MO_become_30 : decode b_MO_become 30 = .ok (.aload_n 0, 1) := by decide +kernel
theorem d_MO_become_31 : decode b_MO_become 31 = .ok (.getfield 7, 3) := by decide +kernel
theorem d_MO_become_34 : decode b_MO_become 34 = .ok (.iload_n 2, 1) := by decide +kernel
theorem d_MO_become_35 : decode b_MO_become 35 = .ok (.iaload, 1) := by decide +kernel
theorem d_MO_become_36 : decode b_MO_become 36 = .ok (.iconst 1, 1) := by decide +kernel
theorem d_MO_become_37 : decode b_MO_become 37 = .ok (.if_icmp .ne 49, 3) := by decide +kernel
theorem d_MO_become_40 : decode b_MO_become 40 = .ok (.iload 4, 2) := by decide +kernel
theorem d_MO_become_42 : decode b_MO_become 42 = .ok (.iconst 4, 1) := by decide +kernel
theorem d_MO_become_43 : decode b_MO_become 43 = .ok (.if_icmp .ge 11, 3) := by decide +kernel
theorem d_MO_become_46 : decode b_MO_become 46 = .ok (.dload 5, 2) := by decide +kernel
theorem d_MO_become_48 : decode b_MO_become 48 = .ok (.invokestatic 132, 3) := by decide +kernel
theorem d_MO_become_51 : decode b_MO_become 51 = .ok (.goto 5, 3) := by decide +kernel
theorem d_MO_become_54 : decode b_MO_become 54 = .ok (.dload 5, 2) := by decide +kernel
theorem d_MO_become_56 : decode b_MO_become 56 = .ok (.dstore 5, 2) := by decide +kernel
theorem d_MO_become_58 : decode b_MO_become 58 = .ok (.dload 5, 2) := by decide +kernel
theorem d_MO_become_60 : decode b_MO_become 60 = .ok (.invokestatic 128, 3) := by decide +kernel
theorem d_MO_become_63 : decode b_MO_become 63 = .ok (.ifCond .ne 11, 3) := by decide +kernel
theorem d_MO_become_66 : decode b_MO_become 66 = .ok (.aload_n 0, 1) := by decide +kernel
theorem d_MO_become_67 : decode b_MO_become 67 = .ok (.iconst 2, 1) := by decide +kernel
theorem d_MO_become_68 : decode b_MO_become 68 = .ok (.invokevirtual 142, 3) := by decide +kernel
theorem d_MO_become_71 : decode b_MO_become 71 = .ok (.goto 83, 3) := by decide +kernel
theorem d_MO_become_74 : decode b_MO_become 74 = .ok (.aload_n 0, 1) := by decide +kernel
theorem d_MO_become_75 : decode b_MO_become 75 = .ok (.getfield 31, 3) := by decide +kernel
theorem d_MO_become_78 : decode b_MO_become 78 = .ok (.iload 4, 2) := by decide +kernel
theorem d_MO_become_80 : decode b_MO_become 80 = .ok (.dload 5, 2) := by decide +kernel
theorem d_MO_become_82 : decode b_MO_become 82 = .ok (.dastore, 1) := by decide +kernel
theorem d_MO_become_83 : decode b_MO_become 83 = .ok (.goto 71, 3) := by decide +kernel
theorem d_MO_become_86 : decode b_MO_become 86 = .ok (.dload 5, 2) := by decide +kernel
theorem d_MO_become_88 : decode b_MO_become 88 = .ok (.invokestatic 128, 3) := by decide +kernel
theorem d_MO_become_91 : decode b_MO_become 91 = .ok (.ifCond .ne 11, 3) := by decide +kernel
theorem d_MO_become_94 : decode b_MO_become 94 = .ok (.aload_n 0, 1) := by decide +kernel
theorem d_MO_become_95 : decode b_MO_become 95 = .ok (.iconst 2, 1) := by decide +kernel
theorem d_MO_become_96 : decode b_MO_become 96 = .ok (.invokevirtual 142, 3) := by decide +kernel
theorem d_MO_become_99 : decode b_MO_become 99 = .ok (.goto 55, 3) := by decide +kernel
theorem d_MO_become_102 : decode b_MO_become 102 = .ok (.aload_n 0, 1) := by decide +kernel
theorem d_MO_become_103 : decode b_MO_become 103 = .ok (.getfield 7, 3) := by decide +kernel
theorem d_MO_become_106 : decode b_MO_become 106 = .ok (.iload_n 2, 1) := by decide +kernel
theorem d_MO_become_107 : decode b_MO_become 107 = .ok (.iaload, 1) := by decide +kernel
theorem d_MO_become_108 : decode b_MO_become 108 = .ok (.bipush 10, 2) := by decide +kernel
theorem d_MO_become_110 : decode b_MO_become 110 = .ok (.if_icmp .ne 19, 3) := by decide +kernel
theorem d_MO_become_113 : decode b_MO_become 113 = .ok (.aload_n 0, 1) := by decide +kernel
theorem d_MO_become_114 : decode b_MO_become 114 = .ok (.getfield 63, 3) := by decide +kernel
theorem d_MO_become_117 : decode b_MO_become 117 = .ok (.iconst 2, 1) := by decide +kernel
theorem d_MO_become_118 : decode b_MO_become 118 = .ok (.iload_n 3, 1) := by decide +kernel
theorem d_MO_become_119 : decode b_MO_become 119 = .ok (.imul, 1) := by decide +kernel
theorem d_MO_become_120 : decode b_MO_become 120 = .ok (.iload 4, 2) := by decide +kernel
theorem d_MO_become_122 : decode b_MO_become 122 = .ok (.iadd, 1) := by decide +kernel
theorem d_MO_become_123 : decode b_MO_become 123 = .ok (.dload 5, 2) := by decide +kernel
theorem d_MO_become_125 : decode b_MO_become 125 = .ok (.dastore, 1) := by decide +kernel
theorem d_MO_become_126 : decode b_MO_become 126 = .ok (.goto 28, 3) := by decide +kernel
theorem d_MO_become_129 : decode b_MO_become 129 = .ok (.iload_n 3, 1) := by decide +kernel
theorem d_MO_become_130 : decode b_MO_become 130 = .ok (.ifCond .ne 11, 3) := by decide +kernel
theorem d_MO_become_133 : decode b_MO_become 133 = .ok (.aload_n 0, 1) := by decide +kernel
theorem d_MO_become_134 : decode b_MO_become 134 = .ok (.iconst 4, 1) := by decide +kernel
theorem d_MO_become_135 : decode b_MO_become 135 = .ok (.invokevirtual 142, 3) := by decide +kernel
theorem d_MO_become_138 : decode b_MO_become 138 = .ok (.goto 16, 3) := by decide +kernel
theorem d_MO_become_141 : decode b_MO_become 141 = .ok (.aload_n 0, 1) := by decide +kernel
theorem d_MO_become_142 : decode b_MO_become 142 = .ok (.getfield 66, 3) := by decide +kernel
theorem d_MO_become_145 : decode b_MO_become 145 = .ok (.iconst 2, 1) := by decide +kernel
theorem d_MO_become_146 : decode b_MO_become 146 = .ok (.iload_n 3, 1) := by decide +kernel
theorem d_MO_become_147 : decode b_MO_become 147 = .ok (.imul, 1) := by decide +kernel
theorem d_MO_become_148 : decode b_MO_become 148 = .ok (.iload 4, 2) := by decide +kernel
theorem d_MO_become_150 : decode b_MO_become 150 = .ok (.iadd, 1) := by decide +kernel
theorem d_MO_become_151 : decode b_MO_become 151 = .ok (.dload 5, 2) := by decide +kernel
theorem d_MO_become_153 : decode b_MO_become 153 = .ok (.dastore, 1) := by decide +kernel
theorem d_MO_become_154 : decode b_MO_become 154 = .ok (.aload_n 0, 1) := by decide +kernel
theorem d_MO_become_155 : decode b_MO_become 155 = .ok (.getfield 136, 3) := by decide +kernel
theorem d_MO_become_158 : decode b_MO_become 158 = .ok (.ifCond .ne 9, 3) := by decide +kernel
theorem d_MO_become_161 : decode b_MO_become 161 = .ok (.aload_n 0, 1) := by decide +kernel
theorem d_MO_become_162 : decode b_MO_become 162 = .ok (.dload 5, 2) := by decide +kernel
theorem d_MO_become_164 : decode b_MO_become 164 = .ok (.invokevirtual 162, 3) := by decide +kernel
theorem d_MO_become_167 : decode b_MO_become 167 = .ok (.return_, 1) := by decide +kernel
theorem d_MO_set_0 : decode b_MO_set 0 = .ok (.aload_n 0, 1) := by decide +kernel
theorem d_MO_set_1 : decode b_MO_set 1 = .ok (.getfield 75, 3) := by decide +kernel
theorem d_MO_set_4 : decode b_MO_set 4 = .ok (.iload_n 1, 1) := by decide +kernel
theorem d_MO_set_5 : decode b_MO_set 5 = .ok (.iaload, 1) := by decide +kernel
theorem d_MO_set_6 : decode b_MO_set 6 = .ok (.tableswitch 218 0 2 #[26, 80, 179], 26) := by decide +kernel
theorem d_MO_set_32 : decode b_MO_set 32 = .ok (.aload_n 0, 1) := by decide +kernel
theorem d_MO_set_33 : decode b_MO_set 33 = .ok (.getfield 7, 3) := by decide +kernel
theorem d_MO_set_36 : decode b_MO_set 36 = .ok (.aload_n 0, 1) := by decide +kernel
theorem d_MO_set_37 : decode b_MO_set 37 = .ok (.getfield 13, 3) := by decide +kernel
theorem d_MO_set_40 : decode b_MO_set 40 = .ok (.iload_n 2, 1) := by decide +kernel
theorem d_MO_set_41 : decode b_MO_set 41 = .ok (.iaload, 1) := by decide +kernel
theorem d_MO_set_42 : decode b_MO_set 42 = .ok (.iaload, 1) := by decide +kernel
theorem d_MO_set_43 : decode b_MO_set 43 = .ok (.invokestatic 190, 3) := by decide +kernel
theorem d_MO_set_46 : decode b_MO_set 46 = .ok (.ifCond .ne 9, 3) := by decide +kernel
theorem d_MO_set_49 : decode b_MO_set 49 = .ok (.aload_n 0, 1) := by decide +kernel
theorem d_MO_set_50 : decode b_MO_set 50 = .ok (.bipush 6, 2) := by decide +kernel
theorem d_MO_set_52 : decode b_MO_set 52 = .ok (.invokevirtual 142, 3) := by decide +kernel
theorem d_MO_set_55 : decode b_MO_set 55 = .ok (.aload_n 0, 1) := by decide +kernel
theorem d_MO_set_56 : decode b_MO_set 56 = .ok (.getfield 75, 3) := by decide +kernel
theorem d_MO_set_59 : decode b_MO_set 59 = .ok (.iload_n 1, 1) := by decide +kernel
theorem d_MO_set_60 : decode b_MO_set 60 = .ok (.iconst 1, 1) := by decide +kernel
theorem d_MO_set_61 : decode b_MO_set 61 = .ok (.iastore, 1) := by decide +kernel
theorem d_MO_set_62 : decode b_MO_set 62 = .ok (.aload_n 0, 1) := by decide +kernel
theorem d_MO_set_63 : decode b_MO_set 63 = .ok (.getfield 136, 3) := by decide +kernel
theorem d_MO_set_66 : decode b_MO_set 66 = .ok (.ifCond .ne 19, 3) := by decide +kernel
theorem d_MO_set_69 : decode b_MO_set 69 = .ok (.aload_n 0, 1) := by decide +kernel
theorem d_MO_set_70 : decode b_MO_set 70 = .ok (.aload_n 0, 1) := by decide +kernel
theorem d_MO_set_71 : decode b_MO_set 71 = .ok (.getfield 16, 3) := by decide +kernel
theorem d_MO_set_74 : decode b_MO_set 74 = .ok (.iload_n 2, 1) := by decide +kernel
theorem d_MO_set_75 : decode b_MO_set 75 = .ok (.iaload, 1) := by decide +kernel
theorem d_MO_set_76 : decode b_MO_set 76 = .ok (.aload_n 0, 1) := by decide +kernel
theorem d_MO_set_77 : decode b_MO_set 77 = .ok (.getfield 72, 3) := by decide +kernel
theorem d_MO_set_80 : decode b_MO_set 80 = .ok (.iload_n 1, 1) := by decide +kernel
theorem d_MO_set_81 : decode b_MO_set 81 = .ok (.iaload, 1) := by decide +kernel
theorem d_MO_set_82 : decode b_MO_set 82 = .ok (.invokevirtual 166, 3) := by decide +kernel
theorem d_MO_set_85 : decode b_MO_set 85 = .ok (.return_, 1) := by decide +kernel
theorem d_MO_set_86 : decode b_MO_set 86 = .ok (.aload_n 0, 1) := by decide +kernel
theorem d_MO_set_87 : decode b_MO_set 87 = .ok (.getfield 90, 3) := by decide +kernel
theorem d_MO_set_90 : decode b_MO_set 90 = .ok (.iload_n 1, 1) := by decide +kernel
theorem d_MO_set_91 : decode b_MO_set 91 = .ok (.aload_n 0, 1) := by decide +kernel
theorem d_MO_set_92 : decode b_MO_set 92 = .ok (.getfield 158, 3) := by decide +kernel
theorem d_MO_set_95 : decode b_MO_set 95 = .ok (.dastore, 1) := by decide +kernel
theorem d_MO_set_96 : decode b_MO_set 96 = .ok (.aload_n 0, 1) := by decide +kernel
theorem d_MO_set_97 : decode b_MO_set 97 = .ok (.getfield 84, 3) := by decide +kernel
theorem d_MO_set_100 : decode b_MO_set 100 = .ok (.iload_n 1, 1) := by decide +kernel
theorem d_MO_set_101 : decode b_MO_set 101 = .ok (.aload_n 0, 1) := by decide +kernel
theorem d_MO_set_102 : decode b_MO_set 102 = .ok (.getfield 13, 3) := by decide +kernel
theorem d_MO_set_105 : decode b_MO_set 105 = .ok (.iload_n 2, 1) := by decide +kernel
theorem d_MO_set_106 : decode b_MO_set 106 = .ok (.iaload, 1) := by decide +kernel
theorem d_MO_set_107 : decode b_MO_set 107 = .ok (.iastore, 1) := by decide +kernel
theorem d_MO_set_108 : decode b_MO_set 108 = .ok (.aload_n 0, 1) := by decide +kernel
theorem d_MO_set_109 : decode b_MO_set 109 = .ok (.getfield 87, 3) := by decide +kernel
theorem d_MO_set_112 : decode b_MO_set 112 = .ok (.iload_n 1, 1) := by decide +kernel
theorem d_MO_set_113 : decode b_MO_set 113 = .ok (.aload_n 0, 1) := by decide +kernel
theorem d_MO_set_114 : decode b_MO_set 114 = .ok (.getfield 72, 3) := by decide +kernel
theorem d_MO_set_117 : decode b_MO_set 117 = .ok (.iload_n 1, 1) := by decide +kernel
theorem d_MO_set_118 : decode b_MO_set 118 = .ok (.iaload, 1) := by decide +kernel
theorem d_MO_set_119 : decode b_MO_set 119 = .ok (.iastore, 1) := by decide +kernel
theorem d_MO_set_120 : decode b_MO_set 120 = .ok (.aload_n 0, 1) := by decide +kernel
theorem d_MO_set_121 : decode b_MO_set 121 = .ok (.iload_n 1, 1) := by decide +kernel
theorem d_MO_set_122 : decode b_MO_set 122 = .ok (.invokevirtual 193, 3) := by decide +kernel
theorem d_MO_set_125 : decode b_MO_set 125 = .ok (.aload_n 0, 1) := by decide +kernel
theorem d_MO_set_126 : decode b_MO_set 126 = .ok (.getfield 136, 3) := by decide +kernel
theorem d_MO_set_129 : decode b_MO_set 129 = .ok (.ifCond .le 4, 3) := by decide +kernel
theorem d_MO_set_132 : decode b_MO_set 132 = .ok (.return_, 1) := by decide +kernel
theorem d_MO_set_133 : decode b_MO_set 133 = .ok (.aload_n 0, 1) := by decide +kernel
theorem d_MO_set_134 : decode b_MO_set 134 = .ok (.getfield 7, 3) := by decide +kernel
theorem d_MO_set_137 : decode b_MO_set 137 = .ok (.aload_n 0, 1) := by decide +kernel
theorem d_MO_set_138 : decode b_MO_set 138 = .ok (.getfield 84, 3) := by decide +kernel
theorem d_MO_set_141 : decode b_MO_set 141 = .ok (.iload_n 1, 1) := by decide +kernel
theorem d_MO_set_142 : decode b_MO_set 142 = .ok (.iaload, 1) := by decide +kernel
theorem d_MO_set_143 : decode b_MO_set 143 = .ok (.iaload, 1) := by decide +kernel
theorem d_MO_set_144 : decode b_MO_set 144 = .ok (.iconst 2, 1) := by decide +kernel
theorem d_MO_set_145 : decode b_MO_set 145 = .ok (.if_icmp .eq 11, 3) := by decide +kernel
theorem d_MO_set_148 : decode b_MO_set 148 = .ok (.aload_n 0, 1) := by decide +kernel
theorem d_MO_set_149 : decode b_MO_set 149 = .ok (.iload_n 1, 1) := by decide +kernel
theorem d_MO_set_150 : decode b_MO_set 150 = .ok (.invokevirtual 196, 3) := by decide +kernel
theorem d_MO_set_153 : decode b_MO_set 153 = .ok (.goto 31, 3) := by decide +kernel
theorem d_MO_set_156 : decode b_MO_set 156 = .ok (.aload_n 0, 1) := by decide +kernel
theorem d_MO_set_157 : decode b_MO_set 157 = .ok (.getfield 75, 3) := by decide +kernel
theorem d_MO_set_160 : decode b_MO_set 160 = .ok (.iload_n 1, 1) := by decide +kernel
theorem d_MO_set_161 : decode b_MO_set 161 = .ok (.iconst 2, 1) := by decide +kernel
theorem d_MO_set_162 : decode b_MO_set 162 = .ok (.iastore, 1) := by decide +kernel
theorem d_MO_set_163 : decode b_MO_set 163 = .ok (.aload_n 0, 1) := by decide +kernel
theorem d_MO_set_164 : decode b_MO_set 164 = .ok (.aload_n 0, 1) := by decide +kernel
theorem d_MO_set_165 : decode b_MO_set 165 = .ok (.getfield 13, 3) := by decide +kernel
theorem d_MO_set_168 : decode b_MO_set 168 = .ok (.aload_n 0, 1) := by decide +kernel
theorem d_MO_set_169 : decode b_MO_set 169 = .ok (.getfield 84, 3) := by decide +kernel
theorem d_MO_set_172 : decode b_MO_set 172 = .ok (.iload_n 1, 1) := by decide +kernel
theorem d_MO_set_173 : decode b_MO_set 173 = .ok (.iaload, 1) := by decide +kernel
theorem d_MO_set_174 : decode b_MO_set 174 = .ok (.iaload, 1) := by decide +kernel
theorem d_MO_set_175 : decode b_MO_set 175 = .ok (.aload_n 0, 1) := by decide +kernel
theorem d_MO_set_176 : decode b_MO_set 176 = .ok (.getfield 87, 3) := by decide +kernel
theorem d_MO_set_179 : decode b_MO_set 179 = .ok (.iload_n 1, 1) := by decide +kernel
theorem d_MO_set_180 : decode b_MO_set 180 = .ok (.iaload, 1) := by decide +kernel
theorem d_MO_set_181 : decode b_MO_set 181 = .ok (.invokevirtual 166, 3) := by decide +kernel
theorem d_MO_set_184 : decode b_MO_set 184 = .ok (.return_, 1) := by decide +kernel
theorem d_MO_set_185 : decode b_MO_set 185 = .ok (.aload_n 0, 1) := by decide +kernel
theorem d_MO_set_186 : decode b_MO_set 186 = .ok (.getfield 93, 3) := by decide +kernel
theorem d_MO_set_189 : decode b_MO_set 189 = .ok (.iload_n 1, 1) := by decide +kernel
theorem d_MO_set_190 : decode b_MO_set 190 = .ok (.aload_n 0, 1) := by decide +kernel
theorem d_MO_set_191 : decode b_MO_set 191 = .ok (.getfield 158, 3) := by decide +kernel
theorem d_MO_set_194 : decode b_MO_set 194 = .ok (.dastore, 1) := by decide +kernel
theorem d_MO_set_195 : decode b_MO_set 195 = .ok (.aload_n 0, 1) := by decide +kernel
theorem d_MO_set_196 : decode b_MO_set 196 = .ok (.getfield 75, 3) := by decide +kernel
theorem d_MO_set_199 : decode b_MO_set 199 = .ok (.iload_n 1, 1) := by decide +kernel
theorem d_MO_set_200 : decode b_MO_set 200 = .ok (.iconst 3, 1) := by decide +kernel
theorem d_MO_set_201 : decode b_MO_set 201 = .ok (.iastore, 1) := by decide +kernel
theorem d_MO_set_202 : decode b_MO_set 202 = .ok (.aload_n 0, 1) := by decide +kernel
theorem d_MO_set_203 : decode b_MO_set 203 = .ok (.aload_n 0, 1) := by decide +kernel
theorem d_MO_set_204 : decode b_MO_set 204 = .ok (.getfield 16, 3) := by decide +kernel
theorem d_MO_set_207 : decode b_MO_set 207 = .ok (.aload_n 0, 1) := by decide +kernel
theorem d_MO_set_208 : decode b_MO_set 208 = .ok (.getfield 84, 3) := by decide +kernel
theorem d_MO_set_211 : decode b_MO_set 211 = .ok (.iload_n 1, 1) := by decide +kernel
theorem d_MO_set_212 : decode b_MO_set 212 = .ok (.iaload, 1) := by decide +kernel
theorem d_MO_set_213 : decode b_MO_set 213 = .ok (.iaload, 1) := by decide +kernel
theorem d_MO_set_214 : decode b_MO_set 214 = .ok (.aload_n 0, 1) := by decide +kernel
theorem d_MO_set_215 : decode b_MO_set 215 = .ok (.getfield 87, 3) := by decide +kernel
theorem d_MO_set_218 : decode b_MO_set 218 = .ok (.iload_n 1, 1) := by decide +kernel
theorem d_MO_set_219 : decode b_MO_set 219 = .ok (.iaload, 1) := by decide +kernel
theorem d_MO_set_220 : decode b_MO_set 220 = .ok (.invokevirtual 166, 3) := by decide +kernel
theorem d_MO_set_223 : decode b_MO_set 223 = .ok (.return_, 1) := by decide +kernel
theorem d_MO_set_224 : decode b_MO_set 224 = .ok (.aload_n 0, 1) := by decide +kernel
theorem d_MO_set_225 : decode b_MO_set 225 = .ok (.aload_n 0, 1) := by decide +kernel
theorem d_MO_set_226 : decode b_MO_set 226 = .ok (.getfield 93, 3) := by decide +kernel
theorem d_MO_set_229 : decode b_MO_set 229 = .ok (.iload_n 1, 1) := by decide +kernel
theorem d_MO_set_230 : decode b_MO_set 230 = .ok (.daload, 1) := by decide +kernel
theorem d_MO_set_231 : decode b_MO_set 231 = .ok (.invokestatic 132, 3) := by decide +kernel
theorem d_MO_set_234 : decode b_MO_set 234 = .ok (.aload_n 0, 1) := by decide +kernel
theorem d_MO_set_235 : decode b_MO_set 235 = .ok (.getfield 158, 3) := by decide +kernel
theorem d_MO_set_238 : decode b_MO_set 238 = .ok (.invokestatic 132, 3) := by decide +kernel
theorem d_MO_set_241 : decode b_MO_set 241 = .ok (.invokevirtual 174, 3) := by decide +kernel
theorem d_MO_set_244 : decode b_MO_set 244 = .ok (.istore_n 3, 1) := by decide +kernel
theorem d_MO_set_245 : decode b_MO_set 245 = .ok (.iload_n 3, 1) := by decide +kernel
theorem d_MO_set_246 : decode b_MO_set 246 = .ok (.ifCond .ge 11, 3) := by decide +kernel
theorem d_MO_set_249 : decode b_MO_set 249 = .ok (.aload_n 0, 1) := by decide +kernel
theorem d_MO_set_250 : decode b_MO_set 250 = .ok (.iconst 3, 1) := by decide +kernel
theorem d_MO_set_251 : decode b_MO_set 251 = .ok (.invokevirtual 142, 3) := by decide +kernel
theorem d_MO_set_254 : decode b_MO_set 254 = .ok (.goto 45, 3) := by decide +kernel
theorem d_MO_set_257 : decode b_MO_set 257 = .ok (.aload_n 0, 1) := by decide +kernel
theorem d_MO_set_258 : decode b_MO_set 258 = .ok (.getfield 90, 3) := by decide +kernel
theorem d_MO_set_261 : decode b_MO_set 261 = .ok (.iload_n 1, 1) := by decide +kernel
theorem d_MO_set_262 : decode b_MO_set 262 = .ok (.daload, 1) := by decide +kernel
theorem d_MO_set_263 : decode b_MO_set 263 = .ok (.invokestatic 128, 3) := by decide +kernel
theorem d_MO_set_266 : decode b_MO_set 266 = .ok (.ifCond .ne 11, 3) := by decide +kernel
theorem d_MO_set_269 : decode b_MO_set 269 = .ok (.aload_n 0, 1) := by decide +kernel
theorem d_MO_set_270 : decode b_MO_set 270 = .ok (.iconst 2, 1) := by decide +kernel
theorem d_MO_set_271 : decode b_MO_set 271 = .ok (.invokevirtual 142, 3) := by decide +kernel
theorem d_MO_set_274 : decode b_MO_set 274 = .ok (.goto 25, 3) := by decide +kernel
theorem d_MO_set_277 : decode b_MO_set 277 = .ok (.aload_n 0, 1) := by decide +kernel
theorem d_MO_set_278 : decode b_MO_set 278 = .ok (.getfield 35, 3) := by decide +kernel
theorem d_MO_set_281 : decode b_MO_set 281 = .ok (.iload_n 3, 1) := by decide +kernel
theorem d_MO_set_282 : decode b_MO_set 282 = .ok (.aload_n 0, 1) := by decide +kernel
theorem d_MO_set_283 : decode b_MO_set 283 = .ok (.getfield 90, 3) := by decide +kernel
theorem d_MO_set_286 : decode b_MO_set 286 = .ok (.iload_n 1, 1) := by decide +kernel
theorem d_MO_set_287 : decode b_MO_set 287 = .ok (.daload, 1) := by decide +kernel
theorem d_MO_set_288 : decode b_MO_set 288 = .ok (.dastore, 1) := by decide +kernel
theorem d_MO_set_289 : decode b_MO_set 289 = .ok (.aload_n 0, 1) := by decide +kernel
theorem d_MO_set_290 : decode b_MO_set 290 = .ok (.aload_n 0, 1) := by decide +kernel
theorem d_MO_set_291 : decode b_MO_set 291 = .ok (.getfield 90, 3) := by decide +kernel
theorem d_MO_set_294 : decode b_MO_set 294 = .ok (.iload_n 1, 1) := by decide +kernel
theorem d_MO_set_295 : decode b_MO_set 295 = .ok (.daload, 1) := by decide +kernel
theorem d_MO_set_296 : decode b_MO_set 296 = .ok (.invokevirtual 162, 3) := by decide +kernel
theorem d_MO_set_299 : decode b_MO_set 299 = .ok (.return_, 1) := by decide +kernel
theorem d_MO_jump_0 : decode b_MO_jump 0 = .ok (.aload_n 0, 1) := by decide +kernel
theorem d_MO_jump_1 : decode b_MO_jump 1 = .ok (.getfield 146, 3) := by decide +kernel
theorem d_MO_jump_4 : decode b_MO_jump 4 = .ok (.iconst 1, 1) := by decide +kernel
theorem d_MO_jump_5 : decode b_MO_jump 5 = .ok (.isub, 1) := by decide +kernel
theorem d_MO_jump_6 : decode b_MO_jump 6 = .ok (.istore_n 2, 1) := by decide +kernel
theorem d_MO_jump_7 : decode b_MO_jump 7 = .ok (.iload_n 2, 1) := by decide +kernel
theorem d_MO_jump_8 : decode b_MO_jump 8 = .ok (.ifCond .lt 40, 3) := by decide +kernel
theorem d_MO_jump_11 : decode b_MO_jump 11 = .ok (.aload_n 0, 1) := by decide +kernel
theorem d_MO_jump_12 : decode b_MO_jump 12 = .ok (.getfield 7, 3) := by decide +kernel
theorem d_MO_jump_15 : decode b_MO_jump 15 = .ok (.aload_n 0, 1) := by decide +kernel
theorem d_MO_jump_16 : decode b_MO_jump 16 = .ok (.getfield 69, 3) := by decide +kernel
theorem d_MO_jump_19 : decode b_MO_jump 19 = .ok (.iload_n 2, 1) := by decide +kernel
theorem d_MO_jump_20 : decode b_MO_jump 20 = .ok (.iaload, 1) := by decide +kernel
theorem d_MO_jump_21 : decode b_MO_jump 21 = .ok (.iaload, 1) := by decide +kernel
theorem d_MO_jump_22 : decode b_MO_jump 22 = .ok (.bipush 17, 2) := by decide +kernel
theorem d_MO_jump_24 : decode b_MO_jump 24 = .ok (.if_icmp .ne 18, 3) := by decide +kernel
theorem d_MO_jump_27 : decode b_MO_jump 27 = .ok (.aload_n 0, 1) := by decide +kernel
theorem d_MO_jump_28 : decode b_MO_jump 28 = .ok (.getfield 13, 3) := by decide +kernel
theorem d_MO_jump_31 : decode b_MO_jump 31 = .ok (.aload_n 0, 1) := by decide +kernel
end
section
theorem d_MO_jump_32 : decode b_MO_jump 32 = .ok (.getfield 69, 3) := by decide +kernel
theorem d_MO_jump_35 : decode b_MO_jump 35 = .ok (.iload_n 2, 1) := by decide +kernel
theorem d_MO_jump_36 : decode b_MO_jump 36 = .ok (.iaload, 1) := by decide +kernel
theorem d_MO_jump_37 : decode b_MO_jump 37 = .ok (.iaload, 1) := by decide +kernel
theorem d_MO_jump_38 : decode b_MO_jump 38 = .ok (.iload_n 1, 1) := by decide +kernel
theorem d_MO_jump_39 : decode b_MO_jump 39 = .ok (.if_icmp .eq 9, 3) := by decide +kernel
theorem d_MO_jump_42 : decode b_MO_jump 42 = .ok (.iinc 2 (-1), 3) := by decide +kernel
theorem d_MO_jump_45 : decode b_MO_jump 45 = .ok (.goto (-38), 3) := by decide +kernel
theorem d_MO_jump_48 : decode b_MO_jump 48 = .ok (.iload_n 2, 1) := by decide +kernel
theorem d_MO_jump_49 : decode b_MO_jump 49 = .ok (.ifCond .ge 9, 3) := by decide +kernel
theorem d_MO_jump_52 : decode b_MO_jump 52 = .ok (.aload_n 0, 1) := by decide +kernel
theorem d_MO_jump_53 : decode b_MO_jump 53 = .ok (.iconst 5, 1) := by decide +kernel
theorem d_MO_jump_54 : decode b_MO_jump 54 = .ok (.invokevirtual 142, 3) := by decide +kernel
theorem d_MO_jump_57 : decode b_MO_jump 57 = .ok (.return_, 1) := by decide +kernel
theorem d_MO_jump_58 : decode b_MO_jump 58 = .ok (.aload_n 0, 1) := by decide +kernel
theorem d_MO_jump_59 : decode b_MO_jump 59 = .ok (.dup, 1) := by decide +kernel
theorem d_MO_jump_60 : decode b_MO_jump 60 = .ok (.getfield 199, 3) := by decide +kernel
theorem d_MO_jump_63 : decode b_MO_jump 63 = .ok (.iconst 1, 1) := by decide +kernel
theorem d_MO_jump_64 : decode b_MO_jump 64 = .ok (.iadd, 1) := by decide +kernel
theorem d_MO_jump_65 : decode b_MO_jump 65 = .ok (.putfield 199, 3) := by decide +kernel
theorem d_MO_jump_68 : decode b_MO_jump 68 = .ok (.aload_n 0, 1) := by decide +kernel
theorem d_MO_jump_69 : decode b_MO_jump 69 = .ok (.iload_n 2, 1) := by decide +kernel
theorem d_MO_jump_70 : decode b_MO_jump 70 = .ok (.iconst 1, 1) := by decide +kernel
theorem d_MO_jump_71 : decode b_MO_jump 71 = .ok (.iadd, 1) := by decide +kernel
theorem d_MO_jump_72 : decode b_MO_jump 72 = .ok (.putfield 146, 3) := by decide +kernel
theorem d_MO_jump_75 : decode b_MO_jump 75 = .ok (.aload_n 0, 1) := by decide +kernel
theorem d_MO_jump_76 : decode b_MO_jump 76 = .ok (.dconst 0, 1) := by decide +kernel
theorem d_MO_jump_77 : decode b_MO_jump 77 = .ok (.invokevirtual 162, 3) := by decide +kernel
theorem d_MO_jump_80 : decode b_MO_jump 80 = .ok (.return_, 1) := by decide +kernel
theorem d_MO_repeat_0 : decode b_MO_repeat 0 = .ok (.aload_n 0, 1) := by decide +kernel
theorem d_MO_repeat_1 : decode b_MO_repeat 1 = .ok (.getfield 75, 3) := by decide +kernel
theorem d_MO_repeat_4 : decode b_MO_repeat 4 = .ok (.iload_n 1, 1) := by decide +kernel
theorem d_MO_repeat_5 : decode b_MO_repeat 5 = .ok (.iaload, 1) := by decide +kernel
theorem d_MO_repeat_6 : decode b_MO_repeat 6 = .ok (.iconst 1, 1) := by decide +kernel
theorem d_MO_repeat_7 : decode b_MO_repeat 7 = .ok (.if_icmp .ne 18, 3) := by decide +kernel
theorem d_MO_repeat_10 : decode b_MO_repeat 10 = .ok (.aload_n 0, 1) := by decide +kernel
theorem d_MO_repeat_11 : decode b_MO_repeat 11 = .ok (.getfield 158, 3) := by decide +kernel
theorem d_MO_repeat_14 : decode b_MO_repeat 14 = .ok (.dconst 0, 1) := by decide +kernel
theorem d_MO_repeat_15 : decode b_MO_repeat 15 = .ok (.dcmp .l, 1) := by decide +kernel
theorem d_MO_repeat_16 : decode b_MO_repeat 16 = .ok (.ifCond .ne 9, 3) := by decide +kernel
theorem d_MO_repeat_19 : decode b_MO_repeat 19 = .ok (.aload_n 0, 1) := by decide +kernel
theorem d_MO_repeat_20 : decode b_MO_repeat 20 = .ok (.dconst 0, 1) := by decide +kernel
theorem d_MO_repeat_21 : decode b_MO_repeat 21 = .ok (.invokevirtual 162, 3) := by decide +kernel
theorem d_MO_repeat_24 : decode b_MO_repeat 24 = .ok (.return_, 1) := by decide +kernel
theorem d_MO_repeat_25 : decode b_MO_repeat 25 = .ok (.aload_n 0, 1) := by decide +kernel
theorem d_MO_repeat_26 : decode b_MO_repeat 26 = .ok (.getfield 75, 3) := by decide +kernel
theorem d_MO_repeat_29 : decode b_MO_repeat 29 = .ok (.iload_n 1, 1) := by decide +kernel
theorem d_MO_repeat_30 : decode b_MO_repeat 30 = .ok (.aload_n 0, 1) := by decide +kernel
theorem d_MO_repeat_31 : decode b_MO_repeat 31 = .ok (.getfield 75, 3) := by decide +kernel
theorem d_MO_repeat_34 : decode b_MO_repeat 34 = .ok (.iload_n 1, 1) := by decide +kernel
theorem d_MO_repeat_35 : decode b_MO_repeat 35 = .ok (.iaload, 1) := by decide +kernel
theorem d_MO_repeat_36 : decode b_MO_repeat 36 = .ok (.iconst 1, 1) := by decide +kernel
theorem d_MO_repeat_37 : decode b_MO_repeat 37 = .ok (.if_icmp .ne 7, 3) := by decide +kernel
theorem d_MO_repeat_40 : decode b_MO_repeat 40 = .ok (.iconst 2, 1) := by decide +kernel
theorem d_MO_repeat_41 : decode b_MO_repeat 41 = .ok (.goto 4, 3) := by decide +kernel
theorem d_MO_repeat_44 : decode b_MO_repeat 44 = .ok (.iconst 1, 1) := by decide +kernel
theorem d_MO_repeat_45 : decode b_MO_repeat 45 = .ok (.iastore, 1) := by decide +kernel
theorem d_MO_repeat_46 : decode b_MO_repeat 46 = .ok (.aload_n 0, 1) := by decide +kernel
theorem d_MO_repeat_47 : decode b_MO_repeat 47 = .ok (.aload_n 0, 1) := by decide +kernel
theorem d_MO_repeat_48 : decode b_MO_repeat 48 = .ok (.getfield 75, 3) := by decide +kernel
theorem d_MO_repeat_51 : decode b_MO_repeat 51 = .ok (.iload_n 1, 1) := by decide +kernel
theorem d_MO_repeat_52 : decode b_MO_repeat 52 = .ok (.iaload, 1) := by decide +kernel
theorem d_MO_repeat_53 : decode b_MO_repeat 53 = .ok (.iconst 2, 1) := by decide +kernel
theorem d_MO_repeat_54 : decode b_MO_repeat 54 = .ok (.if_icmp .ne 12, 3) := by decide +kernel
theorem d_MO_repeat_57 : decode b_MO_repeat 57 = .ok (.aload_n 0, 1) := by decide +kernel
theorem d_MO_repeat_58 : decode b_MO_repeat 58 = .ok (.getfield 16, 3) := by decide +kernel
theorem d_MO_repeat_61 : decode b_MO_repeat 61 = .ok (.iload_n 2, 1) := by decide +kernel
theorem d_MO_repeat_62 : decode b_MO_repeat 62 = .ok (.iaload, 1) := by decide +kernel
theorem d_MO_repeat_63 : decode b_MO_repeat 63 = .ok (.goto 9, 3) := by decide +kernel
theorem d_MO_repeat_66 : decode b_MO_repeat 66 = .ok (.aload_n 0, 1) := by decide +kernel
theorem d_MO_repeat_67 : decode b_MO_repeat 67 = .ok (.getfield 13, 3) := by decide +kernel
theorem d_MO_repeat_70 : decode b_MO_repeat 70 = .ok (.iload_n 2, 1) := by decide +kernel
theorem d_MO_repeat_71 : decode b_MO_repeat 71 = .ok (.iaload, 1) := by decide +kernel
theorem d_MO_repeat_72 : decode b_MO_repeat 72 = .ok (.aload_n 0, 1) := by decide +kernel
theorem d_MO_repeat_73 : decode b_MO_repeat 73 = .ok (.getfield 72, 3) := by decide +kernel
theorem d_MO_repeat_76 : decode b_MO_repeat 76 = .ok (.iload_n 1, 1) := by decide +kernel
theorem d_MO_repeat_77 : decode b_MO_repeat 77 = .ok (.iaload, 1) := by decide +kernel
theorem d_MO_repeat_78 : decode b_MO_repeat 78 = .ok (.invokevirtual 166, 3) := by decide +kernel
theorem d_MO_repeat_81 : decode b_MO_repeat 81 = .ok (.return_, 1) := by decide +kernel
theorem d_MO_step_0 : decode b_MO_step 0 = .ok (.aload_n 0, 1) := by decide +kernel
theorem d_MO_step_1 : decode b_MO_step 1 = .ok (.getfield 146, 3) := by decide +kernel
theorem d_MO_step_4 : decode b_MO_step 4 = .ok (.iconst 1, 1) := by decide +kernel
theorem d_MO_step_5 : decode b_MO_step 5 = .ok (.isub, 1) := by decide +kernel
theorem d_MO_step_6 : decode b_MO_step 6 = .ok (.istore_n 1, 1) := by decide +kernel
theorem d_MO_step_7 : decode b_MO_step 7 = .ok (.aload_n 0, 1) := by decide +kernel
theorem d_MO_step_8 : decode b_MO_step 8 = .ok (.getfield 69, 3) := by decide +kernel
theorem d_MO_step_11 : decode b_MO_step 11 = .ok (.iload_n 1, 1) := by decide +kernel
theorem d_MO_step_12 : decode b_MO_step 12 = .ok (.iaload, 1) := by decide +kernel
theorem d_MO_step_13 : decode b_MO_step 13 = .ok (.istore_n 2, 1) := by decide +kernel
theorem d_MO_step_14 : decode b_MO_step 14 = .ok (.aload_n 0, 1) := by decide +kernel
theorem d_MO_step_15 : decode b_MO_step 15 = .ok (.getfield 7, 3) := by decide +kernel
theorem d_MO_step_18 : decode b_MO_step 18 = .ok (.iload_n 2, 1) := by decide +kernel
theorem d_MO_step_19 : decode b_MO_step 19 = .ok (.iaload, 1) := by decide +kernel
theorem d_MO_step_20 : decode b_MO_step 20 = .ok (.istore_n 3, 1) := by decide +kernel
theorem d_MO_step_21 : decode b_MO_step 21 = .ok (.aload_n 0, 1) := by decide +kernel
theorem d_MO_step_22 : decode b_MO_step 22 = .ok (.getfield 13, 3) := by decide +kernel
theorem d_MO_step_25 : decode b_MO_step 25 = .ok (.iload_n 2, 1) := by decide +kernel
theorem d_MO_step_26 : decode b_MO_step 26 = .ok (.iaload, 1) := by decide +kernel
theorem d_MO_step_27 : decode b_MO_step 27 = .ok (.istore 4, 2) := by decide +kernel
theorem d_MO_step_29 : decode b_MO_step 29 = .ok (.aload_n 0, 1) := by decide +kernel
theorem d_MO_step_30 : decode b_MO_step 30 = .ok (.getfield 75, 3) := by decide +kernel
theorem d_MO_step_33 : decode b_MO_step 33 = .ok (.iload_n 1, 1) := by decide +kernel
theorem d_MO_step_34 : decode b_MO_step 34 = .ok (.iaload, 1) := by decide +kernel
theorem d_MO_step_35 : decode b_MO_step 35 = .ok (.istore 5, 2) := by decide +kernel
theorem d_MO_step_37 : decode b_MO_step 37 = .ok (.iload_n 3, 1) := by decide +kernel
theorem d_MO_step_38 : decode b_MO_step 38 = .ok (.tableswitch 299 0 17 #[86, 98, 299, 299, 299, 299, 299, 299, 299, 184, 110, 118, 156, 163, 184, 170, 177, 184], 86) := by decide +kernel
theorem d_MO_step_124 : decode b_MO_step 124 = .ok (.aload_n 0, 1) := by decide +kernel
theorem d_MO_step_125 : decode b_MO_step 125 = .ok (.iload 4, 2) := by decide +kernel
theorem d_MO_step_127 : decode b_MO_step 127 = .ok (.i2d, 1) := by decide +kernel
theorem d_MO_step_128 : decode b_MO_step 128 = .ok (.ldc2_w 202, 3) := by decide +kernel
theorem d_MO_step_131 : decode b_MO_step 131 = .ok (.ddiv, 1) := by decide +kernel
theorem d_MO_step_132 : decode b_MO_step 132 = .ok (.invokevirtual 162, 3) := by decide +kernel
theorem d_MO_step_135 : decode b_MO_step 135 = .ok (.return_, 1) := by decide +kernel
theorem d_MO_step_136 : decode b_MO_step 136 = .ok (.aload_n 0, 1) := by decide +kernel
theorem d_MO_step_137 : decode b_MO_step 137 = .ok (.aload_n 0, 1) := by decide +kernel
theorem d_MO_step_138 : decode b_MO_step 138 = .ok (.getfield 31, 3) := by decide +kernel
theorem d_MO_step_141 : decode b_MO_step 141 = .ok (.iload 4, 2) := by decide +kernel
theorem d_MO_step_143 : decode b_MO_step 143 = .ok (.daload, 1) := by decide +kernel
theorem d_MO_step_144 : decode b_MO_step 144 = .ok (.invokevirtual 162, 3) := by decide +kernel
theorem d_MO_step_147 : decode b_MO_step 147 = .ok (.return_, 1) := by decide +kernel
theorem d_MO_step_148 : decode b_MO_step 148 = .ok (.aload_n 0, 1) := by decide +kernel
theorem d_MO_step_149 : decode b_MO_step 149 = .ok (.iload_n 1, 1) := by decide +kernel
theorem d_MO_step_150 : decode b_MO_step 150 = .ok (.iload 4, 2) := by decide +kernel
theorem d_MO_step_152 : decode b_MO_step 152 = .ok (.invokevirtual 204, 3) := by decide +kernel
theorem d_MO_step_155 : decode b_MO_step 155 = .ok (.return_, 1) := by decide +kernel
theorem d_MO_step_156 : decode b_MO_step 156 = .ok (.aload_n 0, 1) := by decide +kernel
theorem d_MO_step_157 : decode b_MO_step 157 = .ok (.getfield 72, 3) := by decide +kernel
theorem d_MO_step_160 : decode b_MO_step 160 = .ok (.iload_n 1, 1) := by decide +kernel
theorem d_MO_step_161 : decode b_MO_step 161 = .ok (.iaload, 1) := by decide +kernel
theorem d_MO_step_162 : decode b_MO_step 162 = .ok (.ifCond .ne 11, 3) := by decide +kernel
theorem d_MO_step_165 : decode b_MO_step 165 = .ok (.aload_n 0, 1) := by decide +kernel
theorem d_MO_step_166 : decode b_MO_step 166 = .ok (.iconst 4, 1) := by decide +kernel
theorem d_MO_step_167 : decode b_MO_step 167 = .ok (.invokevirtual 142, 3) := by decide +kernel
theorem d_MO_step_170 : decode b_MO_step 170 = .ok (.goto 23, 3) := by decide +kernel
theorem d_MO_step_173 : decode b_MO_step 173 = .ok (.aload_n 0, 1) := by decide +kernel
theorem d_MO_step_174 : decode b_MO_step 174 = .ok (.aload_n 0, 1) := by decide +kernel
theorem d_MO_step_175 : decode b_MO_step 175 = .ok (.getfield 66, 3) := by decide +kernel
theorem d_MO_step_178 : decode b_MO_step 178 = .ok (.iconst 2, 1) := by decide +kernel
theorem d_MO_step_179 : decode b_MO_step 179 = .ok (.aload_n 0, 1) := by decide +kernel
theorem d_MO_step_180 : decode b_MO_step 180 = .ok (.getfield 72, 3) := by decide +kernel
theorem d_MO_step_183 : decode b_MO_step 183 = .ok (.iload_n 1, 1) := by decide +kernel
theorem d_MO_step_184 : decode b_MO_step 184 = .ok (.iaload, 1) := by decide +kernel
theorem d_MO_step_185 : decode b_MO_step 185 = .ok (.imul, 1) := by decide +kernel
theorem d_MO_step_186 : decode b_MO_step 186 = .ok (.iload 4, 2) := by decide +kernel
theorem d_MO_step_188 : decode b_MO_step 188 = .ok (.iadd, 1) := by decide +kernel
theorem d_MO_step_189 : decode b_MO_step 189 = .ok (.daload, 1) := by decide +kernel
theorem d_MO_step_190 : decode b_MO_step 190 = .ok (.invokevirtual 162, 3) := by decide +kernel
theorem d_MO_step_193 : decode b_MO_step 193 = .ok (.return_, 1) := by decide +kernel
theorem d_MO_step_194 : decode b_MO_step 194 = .ok (.aload_n 0, 1) := by decide +kernel
theorem d_MO_step_195 : decode b_MO_step 195 = .ok (.iload_n 1, 1) := by decide +kernel
theorem d_MO_step_196 : decode b_MO_step 196 = .ok (.iload_n 2, 1) := by decide +kernel
theorem d_MO_step_197 : decode b_MO_step 197 = .ok (.invokevirtual 207, 3) := by decide +kernel
theorem d_MO_step_200 : decode b_MO_step 200 = .ok (.return_, 1) := by decide +kernel
theorem d_MO_step_201 : decode b_MO_step 201 = .ok (.aload_n 0, 1) := by decide +kernel
theorem d_MO_step_202 : decode b_MO_step 202 = .ok (.iload_n 1, 1) := by decide +kernel
theorem d_MO_step_203 : decode b_MO_step 203 = .ok (.iload_n 2, 1) := by decide +kernel
theorem d_MO_step_204 : decode b_MO_step 204 = .ok (.invokevirtual 210, 3) := by decide +kernel
theorem d_MO_step_207 : decode b_MO_step 207 = .ok (.return_, 1) := by decide +kernel
theorem d_MO_step_208 : decode b_MO_step 208 = .ok (.aload_n 0, 1) := by decide +kernel
theorem d_MO_step_209 : decode b_MO_step 209 = .ok (.iload_n 1, 1) := by decide +kernel
theorem d_MO_step_210 : decode b_MO_step 210 = .ok (.iload_n 2, 1) := by decide +kernel
theorem d_MO_step_211 : decode b_MO_step 211 = .ok (.invokevirtual 213, 3) := by decide +kernel
theorem d_MO_step_214 : decode b_MO_step 214 = .ok (.return_, 1) := by decide +kernel
theorem d_MO_step_215 : decode b_MO_step 215 = .ok (.aload_n 0, 1) := by decide +kernel
theorem d_MO_step_216 : decode b_MO_step 216 = .ok (.iload 4, 2) := by decide +kernel
theorem d_MO_step_218 : decode b_MO_step 218 = .ok (.invokevirtual 216, 3) := by decide +kernel
theorem d_MO_step_221 : decode b_MO_step 221 = .ok (.return_, 1) := by decide +kernel
theorem d_MO_step_222 : decode b_MO_step 222 = .ok (.aload_n 0, 1) := by decide +kernel
theorem d_MO_step_223 : decode b_MO_step 223 = .ok (.getfield 75, 3) := by decide +kernel
theorem d_MO_step_226 : decode b_MO_step 226 = .ok (.iload_n 1, 1) := by decide +kernel
theorem d_MO_step_227 : decode b_MO_step 227 = .ok (.dup2, 1) := by decide +kernel
theorem d_MO_step_228 : decode b_MO_step 228 = .ok (.iaload, 1) := by decide +kernel
theorem d_MO_step_229 : decode b_MO_step 229 = .ok (.iconst 1, 1) := by decide +kernel
theorem d_MO_step_230 : decode b_MO_step 230 = .ok (.iadd, 1) := by decide +kernel
theorem d_MO_step_231 : decode b_MO_step 231 = .ok (.iastore, 1) := by decide +kernel
theorem d_MO_step_232 : decode b_MO_step 232 = .ok (.iload 5, 2) := by decide +kernel
theorem d_MO_step_234 : decode b_MO_step 234 = .ok (.iconst 2, 1) := by decide +kernel
theorem d_MO_step_235 : decode b_MO_step 235 = .ok (.if_icmp .eq 15, 3) := by decide +kernel
theorem d_MO_step_238 : decode b_MO_step 238 = .ok (.iload 5, 2) := by decide +kernel
theorem d_MO_step_240 : decode b_MO_step 240 = .ok (.iconst 1, 1) := by decide +kernel
theorem d_MO_step_241 : decode b_MO_step 241 = .ok (.if_icmp .ne 20, 3) := by decide +kernel
theorem d_MO_step_244 : decode b_MO_step 244 = .ok (.iload_n 3, 1) := by decide +kernel
theorem d_MO_step_245 : decode b_MO_step 245 = .ok (.bipush 17, 2) := by decide +kernel
theorem d_MO_step_247 : decode b_MO_step 247 = .ok (.if_icmp .ne 14, 3) := by decide +kernel
theorem d_MO_step_250 : decode b_MO_step 250 = .ok (.aload_n 0, 1) := by decide +kernel
theorem d_MO_step_251 : decode b_MO_step 251 = .ok (.aload_n 0, 1) := by decide +kernel
theorem d_MO_step_252 : decode b_MO_step 252 = .ok (.getfield 158, 3) := by decide +kernel
theorem d_MO_step_255 : decode b_MO_step 255 = .ok (.invokevirtual 162, 3) := by decide +kernel
theorem d_MO_step_258 : decode b_MO_step 258 = .ok (.goto 78, 3) := by decide +kernel
theorem d_MO_step_261 : decode b_MO_step 261 = .ok (.iload 5, 2) := by decide +kernel
theorem d_MO_step_263 : decode b_MO_step 263 = .ok (.ifCond .ne 33, 3) := by decide +kernel
theorem d_MO_step_266 : decode b_MO_step 266 = .ok (.aload_n 0, 1) := by decide +kernel
theorem d_MO_step_267 : decode b_MO_step 267 = .ok (.iload_n 3, 1) := by decide +kernel
theorem d_MO_step_268 : decode b_MO_step 268 = .ok (.bipush 17, 2) := by decide +kernel
theorem d_MO_step_270 : decode b_MO_step 270 = .ok (.if_icmp .ne 12, 3) := by decide +kernel
theorem d_MO_step_273 : decode b_MO_step 273 = .ok (.aload_n 0, 1) := by decide +kernel
theorem d_MO_step_274 : decode b_MO_step 274 = .ok (.getfield 16, 3) := by decide +kernel
theorem d_MO_step_277 : decode b_MO_step 277 = .ok (.iload_n 2, 1) := by decide +kernel
theorem d_MO_step_278 : decode b_MO_step 278 = .ok (.iaload, 1) := by decide +kernel
theorem d_MO_step_279 : decode b_MO_step 279 = .ok (.goto 5, 3) := by decide +kernel
theorem d_MO_step_282 : decode b_MO_step 282 = .ok (.iload 4, 2) := by decide +kernel
theorem d_MO_step_284 : decode b_MO_step 284 = .ok (.aload_n 0, 1) := by decide +kernel
theorem d_MO_step_285 : decode b_MO_step 285 = .ok (.getfield 72, 3) := by decide +kernel
theorem d_MO_step_288 : decode b_MO_step 288 = .ok (.iload_n 1, 1) := by decide +kernel
theorem d_MO_step_289 : decode b_MO_step 289 = .ok (.iaload, 1) := by decide +kernel
theorem d_MO_step_290 : decode b_MO_step 290 = .ok (.invokevirtual 166, 3) := by decide +kernel
theorem d_MO_step_293 : decode b_MO_step 293 = .ok (.goto 43, 3) := by decide +kernel
theorem d_MO_step_296 : decode b_MO_step 296 = .ok (.aload_n 0, 1) := by decide +kernel
theorem d_MO_step_297 : decode b_MO_step 297 = .ok (.iload_n 3, 1) := by decide +kernel
theorem d_MO_step_298 : decode b_MO_step 298 = .ok (.bipush 14, 2) := by decide +kernel
theorem d_MO_step_300 : decode b_MO_step 300 = .ok (.if_icmp .eq 12, 3) := by decide +kernel
theorem d_MO_step_303 : decode b_MO_step 303 = .ok (.aload_n 0, 1) := by decide +kernel
theorem d_MO_step_304 : decode b_MO_step 304 = .ok (.getfield 158, 3) := by decide +kernel
theorem d_MO_step_307 : decode b_MO_step 307 = .ok (.dconst 0, 1) := by decide +kernel
theorem d_MO_step_308 : decode b_MO_step 308 = .ok (.dcmp .l, 1) := by decide +kernel
theorem d_MO_step_309 : decode b_MO_step 309 = .ok (.ifCond .eq 12, 3) := by decide +kernel
theorem d_MO_step_312 : decode b_MO_step 312 = .ok (.aload_n 0, 1) := by decide +kernel
theorem d_MO_step_313 : decode b_MO_step 313 = .ok (.getfield 16, 3) := by decide +kernel
theorem d_MO_step_316 : decode b_MO_step 316 = .ok (.iload_n 2, 1) := by decide +kernel
theorem d_MO_step_317 : decode b_MO_step 317 = .ok (.iaload, 1) := by decide +kernel
theorem d_MO_step_318 : decode b_MO_step 318 = .ok (.goto 9, 3) := by decide +kernel
theorem d_MO_step_321 : decode b_MO_step 321 = .ok (.aload_n 0, 1) := by decide +kernel
theorem d_MO_step_322 : decode b_MO_step 322 = .ok (.getfield 19, 3) := by decide +kernel
theorem d_MO_step_325 : decode b_MO_step 325 = .ok (.iload_n 2, 1) := by decide +kernel
theorem d_MO_step_326 : decode b_MO_step 326 = .ok (.iaload, 1) := by decide +kernel
theorem d_MO_step_327 : decode b_MO_step 327 = .ok (.aload_n 0, 1) := by decide +kernel
theorem d_MO_step_328 : decode b_MO_step 328 = .ok (.getfield 72, 3) := by decide +kernel
theorem d_MO_step_331 : decode b_MO_step 331 = .ok (.iload_n 1, 1) := by decide +kernel
theorem d_MO_step_332 : decode b_MO_step 332 = .ok (.iaload, 1) := by decide +kernel
theorem d_MO_step_333 : decode b_MO_step 333 = .ok (.invokevirtual 166, 3) := by decide +kernel
theorem d_MO_step_336 : decode b_MO_step 336 = .ok (.return_, 1) := by decide +kernel
theorem d_MO_step_337 : decode b_MO_step 337 = .ok (.aload_n 0, 1) := by decide +kernel
theorem d_MO_step_338 : decode b_MO_step 338 = .ok (.iload_n 1, 1) := by decide +kernel
theorem d_MO_step_339 : decode b_MO_step 339 = .ok (.iload_n 2, 1) := by decide +kernel
theorem d_MO_step_340 : decode b_MO_step 340 = .ok (.invokevirtual 219, 3) := by decide +kernel
theorem d_MO_step_343 : decode b_MO_step 343 = .ok (.return_, 1) := by decide +kernel
theorem d_MO_work_0 : decode b_MO_work 0 = .ok (.aload_n 0, 1) := by decide +kernel
theorem d_MO_work_1 : decode b_MO_work 1 = .ok (.iload_n 1, 1) := by decide +kernel
theorem d_MO_work_2 : decode b_MO_work 2 = .ok (.invokevirtual 112, 3) := by decide +kernel
theorem d_MO_work_5 : decode b_MO_work 5 = .ok (.istore_n 2, 1) := by decide +kernel
theorem d_MO_work_6 : decode b_MO_work 6 = .ok (.aload_n 0, 1) := by decide +kernel
theorem d_MO_work_7 : decode b_MO_work 7 = .ok (.iload_n 2, 1) := by decide +kernel
theorem d_MO_work_8 : decode b_MO_work 8 = .ok (.ifCond .eq 7, 3) := by decide +kernel
theorem d_MO_work_11 : decode b_MO_work 11 = .ok (.iconst 0, 1) := by decide +kernel
theorem d_MO_work_12 : decode b_MO_work 12 = .ok (.goto 4, 3) := by decide +kernel
theorem d_MO_work_15 : decode b_MO_work 15 = .ok (.iconst 1, 1) := by decide +kernel
theorem d_MO_work_16 : decode b_MO_work 16 = .ok (.putfield 96, 3) := by decide +kernel
theorem d_MO_work_19 : decode b_MO_work 19 = .ok (.iload_n 2, 1) := by decide +kernel
theorem d_MO_work_20 : decode b_MO_work 20 = .ok (.ifCond .ne 5, 3) := by decide +kernel
theorem d_MO_work_23 : decode b_MO_work 23 = .ok (.dconst 0, 1) := by decide +kernel
theorem d_MO_work_24 : decode b_MO_work 24 = .ok (.dreturn, 1) := by decide +kernel
theorem d_MO_work_25 : decode b_MO_work 25 = .ok (.aload_n 0, 1) := by decide +kernel
theorem d_MO_work_26 : decode b_MO_work 26 = .ok (.iconst 0, 1) := by decide +kernel
theorem d_MO_work_27 : decode b_MO_work 27 = .ok (.putfield 146, 3) := by decide +kernel
theorem d_MO_work_30 : decode b_MO_work 30 = .ok (.aload_n 0, 1) := by decide +kernel
theorem d_MO_work_31 : decode b_MO_work 31 = .ok (.iconst 0, 1) := by decide +kernel
theorem d_MO_work_32 : decode b_MO_work 32 = .ok (.putfield 139, 3) := by decide +kernel
theorem d_MO_work_35 : decode b_MO_work 35 = .ok (.aload_n 0, 1) := by decide +kernel
theorem d_MO_work_36 : decode b_MO_work 36 = .ok (.iconst 0, 1) := by decide +kernel
theorem d_MO_work_37 : decode b_MO_work 37 = .ok (.putfield 136, 3) := by decide +kernel
theorem d_MO_work_40 : decode b_MO_work 40 = .ok (.aload_n 0, 1) := by decide +kernel
theorem d_MO_work_41 : decode b_MO_work 41 = .ok (.iconst 0, 1) := by decide +kernel
theorem d_MO_work_42 : decode b_MO_work 42 = .ok (.putfield 187, 3) := by decide +kernel
theorem d_MO_work_45 : decode b_MO_work 45 = .ok (.aload_n 0, 1) := by decide +kernel
theorem d_MO_work_46 : decode b_MO_work 46 = .ok (.iconst 0, 1) := by decide +kernel
theorem d_MO_work_47 : decode b_MO_work 47 = .ok (.putfield 155, 3) := by decide +kernel
theorem d_MO_work_50 : decode b_MO_work 50 = .ok (.aload_n 0, 1) := by decide +kernel
theorem d_MO_work_51 : decode b_MO_work 51 = .ok (.iconst 0, 1) := by decide +kernel
theorem d_MO_work_52 : decode b_MO_work 52 = .ok (.putfield 199, 3) := by decide +kernel
theorem d_MO_work_55 : decode b_MO_work 55 = .ok (.aload_n 0, 1) := by decide +kernel
theorem d_MO_work_56 : decode b_MO_work 56 = .ok (.iconst 0, 1) := by decide +kernel
theorem d_MO_work_57 : decode b_MO_work 57 = .ok (.putfield 149, 3) := by decide +kernel
theorem d_MO_work_60 : decode b_MO_work 60 = .ok (.aload_n 0, 1) := by decide +kernel
theorem d_MO_work_61 : decode b_MO_work 61 = .ok (.iconst 0, 1) := by decide +kernel
theorem d_MO_work_62 : decode b_MO_work 62 = .ok (.putfield 152, 3) := by decide +kernel
theorem d_MO_work_65 : decode b_MO_work 65 = .ok (.aload_n 0, 1) := by decide +kernel
theorem d_MO_work_66 : decode b_MO_work 66 = .ok (.iload_n 1, 1) := by decide +kernel
theorem d_MO_work_67 : decode b_MO_work 67 = .ok (.iconst 0, 1) := by decide +kernel
theorem d_MO_work_68 : decode b_MO_work 68 = .ok (.invokevirtual 166, 3) := by decide +kernel
theorem d_MO_work_71 : decode b_MO_work 71 = .ok (.aload_n 0, 1) := by decide +kernel
theorem d_MO_work_72 : decode b_MO_work 72 = .ok (.getfield 146, 3) := by decide +kernel
theorem d_MO_work_75 : decode b_MO_work 75 = .ok (.ifCond .le 17, 3) := by decide +kernel
theorem d_MO_work_78 : decode b_MO_work 78 = .ok (.aload_n 0, 1) := by decide +kernel
theorem d_MO_work_79 : decode b_MO_work 79 = .ok (.getfield 136, 3) := by decide +kernel
theorem d_MO_work_82 : decode b_MO_work 82 = .ok (.ifCond .ne 10, 3) := by decide +kernel
theorem d_MO_work_85 : decode b_MO_work 85 = .ok (.aload_n 0, 1) := by decide +kernel
theorem d_MO_work_86 : decode b_MO_work 86 = .ok (.invokevirtual 222, 3) := by decide +kernel
theorem d_MO_work_89 : decode b_MO_work 89 = .ok (.goto (-18), 3) := by decide +kernel
theorem d_MO_work_92 : decode b_MO_work 92 = .ok (.aload_n 0, 1) := by decide +kernel
theorem d_MO_work_93 : decode b_MO_work 93 = .ok (.aload_n 0, 1) := by decide +kernel
theorem d_MO_work_94 : decode b_MO_work 94 = .ok (.getfield 136, 3) := by decide +kernel
theorem d_MO_work_97 : decode b_MO_work 97 = .ok (.ifCond .ne 7, 3) := by decide +kernel
theorem d_MO_work_100 : decode b_MO_work 100 = .ok (.iconst 0, 1) := by decide +kernel
theorem d_MO_work_101 : decode b_MO_work 101 = .ok (.goto 62, 3) := by decide +kernel
theorem d_MO_work_104 : decode b_MO_work 104 = .ok (.aload_n 0, 1) := by decide +kernel
theorem d_MO_work_105 : decode b_MO_work 105 = .ok (.getfield 136, 3) := by decide +kernel
theorem d_MO_work_108 : decode b_MO_work 108 = .ok (.iconst 3, 1) := by decide +kernel
theorem d_MO_work_109 : decode b_MO_work 109 = .ok (.if_icmp .ge 7, 3) := by decide +kernel
theorem d_MO_work_112 : decode b_MO_work 112 = .ok (.iconst 2, 1) := by decide +kernel
theorem d_MO_work_113 : decode b_MO_work 113 = .ok (.goto 50, 3) := by decide +kernel
theorem d_MO_work_116 : decode b_MO_work 116 = .ok (.aload_n 0, 1) := by decide +kernel
theorem d_MO_work_117 : decode b_MO_work 117 = .ok (.getfield 136, 3) := by decide +kernel
theorem d_MO_work_120 : decode b_MO_work 120 = .ok (.iconst 3, 1) := by decide +kernel
theorem d_MO_work_121 : decode b_MO_work 121 = .ok (.if_icmp .ne 7, 3) := by decide +kernel
theorem d_MO_work_124 : decode b_MO_work 124 = .ok (.iconst 3, 1) := by decide +kernel
theorem d_MO_work_125 : decode b_MO_work 125 = .ok (.goto 38, 3) := by decide +kernel
theorem d_MO_work_128 : decode b_MO_work 128 = .ok (.aload_n 0, 1) := by decide +kernel
theorem d_MO_work_129 : decode b_MO_work 129 = .ok (.getfield 136, 3) := by decide +kernel
theorem d_MO_work_132 : decode b_MO_work 132 = .ok (.iconst 4, 1) := by decide +kernel
theorem d_MO_work_133 : decode b_MO_work 133 = .ok (.if_icmp .eq 12, 3) := by decide +kernel
theorem d_MO_work_136 : decode b_MO_work 136 = .ok (.aload_n 0, 1) := by decide +kernel
theorem d_MO_work_137 : decode b_MO_work 137 = .ok (.getfield 136, 3) := by decide +kernel
theorem d_MO_work_140 : decode b_MO_work 140 = .ok (.bipush 6, 2) := by decide +kernel
theorem d_MO_work_142 : decode b_MO_work 142 = .ok (.if_icmp .ne 7, 3) := by decide +kernel
theorem d_MO_work_145 : decode b_MO_work 145 = .ok (.iconst 4, 1) := by decide +kernel
theorem d_MO_work_146 : decode b_MO_work 146 = .ok (.goto 17, 3) := by decide +kernel
theorem d_MO_work_149 : decode b_MO_work 149 = .ok (.aload_n 0, 1) := by decide +kernel
theorem d_MO_work_150 : decode b_MO_work 150 = .ok (.getfield 136, 3) := by decide +kernel
theorem d_MO_work_153 : decode b_MO_work 153 = .ok (.iconst 5, 1) := by decide +kernel
theorem d_MO_work_154 : decode b_MO_work 154 = .ok (.if_icmp .ne 7, 3) := by decide +kernel
theorem d_MO_work_157 : decode b_MO_work 157 = .ok (.iconst 5, 1) := by decide +kernel
theorem d_MO_work_158 : decode b_MO_work 158 = .ok (.goto 5, 3) := by decide +kernel
theorem d_MO_work_161 : decode b_MO_work 161 = .ok (.bipush 6, 2) := by decide +kernel
theorem d_MO_work_163 : decode b_MO_work 163 = .ok (.putfield 96, 3) := by decide +kernel
theorem d_MO_work_166 : decode b_MO_work 166 = .ok (.aload_n 0, 1) := by decide +kernel
theorem d_MO_work_167 : decode b_MO_work 167 = .ok (.getfield 136, 3) := by decide +kernel
theorem d_MO_work_170 : decode b_MO_work 170 = .ok (.ifCond .ne 10, 3) := by decide +kernel
theorem d_MO_work_173 : decode b_MO_work 173 = .ok (.aload_n 0, 1) := by decide +kernel
theorem d_MO_work_174 : decode b_MO_work 174 = .ok (.getfield 158, 3) := by decide +kernel
theorem d_MO_work_177 : decode b_MO_work 177 = .ok (.goto 4, 3) := by decide +kernel
theorem d_MO_work_180 : decode b_MO_work 180 = .ok (.dconst 0, 1) := by decide +kernel
theorem d_MO_work_181 : decode b_MO_work 181 = .ok (.dreturn, 1) := by decide +kernel
theorem d_MO_variable_0 : decode b_MO_variable 0 = .ok (.aload_n 0, 1) := by decide +kernel
theorem d_MO_variable_1 : decode b_MO_variable 1 = .ok (.iload_n 1, 1) := by decide +kernel
theorem d_MO_variable_2 : decode b_MO_variable 2 = .ok (.iconst 0, 1) := by decide +kernel
theorem d_MO_variable_3 : decode b_MO_variable 3 = .ok (.bipush 7, 2) := by decide +kernel
theorem d_MO_variable_5 : decode b_MO_variable 5 = .ok (.invokestatic 108, 3) := by decide +kernel
theorem d_MO_variable_8 : decode b_MO_variable 8 = .ok (.ifCond .eq 7, 3) := by decide +kernel
theorem d_MO_variable_11 : decode b_MO_variable 11 = .ok (.iconst 0, 1) := by decide +kernel
theorem d_MO_variable_12 : decode b_MO_variable 12 = .ok (.goto 4, 3) := by decide +kernel
theorem d_MO_variable_15 : decode b_MO_variable 15 = .ok (.iconst 1, 1) := by decide +kernel
theorem d_MO_variable_16 : decode b_MO_variable 16 = .ok (.putfield 96, 3) := by decide +kernel
theorem d_MO_variable_19 : decode b_MO_variable 19 = .ok (.aload_n 0, 1) := by decide +kernel
theorem d_MO_variable_20 : decode b_MO_variable 20 = .ok (.getfield 96, 3) := by decide +kernel
theorem d_MO_variable_23 : decode b_MO_variable 23 = .ok (.ifCond .le 7, 3) := by decide +kernel
theorem d_MO_variable_26 : decode b_MO_variable 26 = .ok (.dconst 0, 1) := by decide +kernel
theorem d_MO_variable_27 : decode b_MO_variable 27 = .ok (.goto 9, 3) := by decide +kernel
theorem d_MO_variable_30 : decode b_MO_variable 30 = .ok (.aload_n 0, 1) := by decide +kernel
theorem d_MO_variable_31 : decode b_MO_variable 31 = .ok (.getfield 31, 3) := by decide +kernel
theorem d_MO_variable_34 : decode b_MO_variable 34 = .ok (.iload_n 1, 1) := by decide +kernel
theorem d_MO_variable_35 : decode b_MO_variable 35 = .ok (.daload, 1) := by decide +kernel
theorem d_MO_variable_36 : decode b_MO_variable 36 = .ok (.dreturn, 1) := by decide +kernel
theorem d_MO_element_0 : decode b_MO_element 0 = .ok (.aload_n 0, 1) := by decide +kernel
theorem d_MO_element_1 : decode b_MO_element 1 = .ok (.iload_n 1, 1) := by decide +kernel
theorem d_MO_element_2 : decode b_MO_element 2 = .ok (.i2d, 1) := by decide +kernel
theorem d_MO_element_3 : decode b_MO_element 3 = .ok (.iload_n 2, 1) := by decide +kernel
theorem d_MO_element_4 : decode b_MO_element 4 = .ok (.i2d, 1) := by decide +kernel
theorem d_MO_element_5 : decode b_MO_element 5 = .ok (.invokevirtual 174, 3) := by decide +kernel
theorem d_MO_element_8 : decode b_MO_element 8 = .ok (.istore_n 3, 1) := by decide +kernel
theorem d_MO_element_9 : decode b_MO_element 9 = .ok (.aload_n 0, 1) := by decide +kernel
theorem d_MO_element_10 : decode b_MO_element 10 = .ok (.iload_n 3, 1) := by decide +kernel
theorem d_MO_element_11 : decode b_MO_element 11 = .ok (.ifCond .ge 7, 3) := by decide +kernel
theorem d_MO_element_14 : decode b_MO_element 14 = .ok (.iconst 1, 1) := by decide +kernel
theorem d_MO_element_15 : decode b_MO_element 15 = .ok (.goto 4, 3) := by decide +kernel
theorem d_MO_element_18 : decode b_MO_element 18 = .ok (.iconst 0, 1) := by decide +kernel
theorem d_MO_element_19 : decode b_MO_element 19 = .ok (.putfield 96, 3) := by decide +kernel
theorem d_MO_element_22 : decode b_MO_element 22 = .ok (.aload_n 0, 1) := by decide +kernel
theorem d_MO_element_23 : decode b_MO_element 23 = .ok (.getfield 96, 3) := by decide +kernel
theorem d_MO_element_26 : decode b_MO_element 26 = .ok (.ifCond .le 7, 3) := by decide +kernel
theorem d_MO_element_29 : decode b_MO_element 29 = .ok (.dconst 0, 1) := by decide +kernel
theorem d_MO_element_30 : decode b_MO_element 30 = .ok (.goto 9, 3) := by decide +kernel
theorem d_MO_element_33 : decode b_MO_element 33 = .ok (.aload_n 0, 1) := by decide +kernel
theorem d_MO_element_34 : decode b_MO_element 34 = .ok (.getfield 35, 3) := by decide +kernel
theorem d_MO_element_37 : decode b_MO_element 37 = .ok (.iload_n 3, 1) := by decide +kernel
theorem d_MO_element_38 : decode b_MO_element 38 = .ok (.daload, 1) := by decide +kernel
theorem d_MO_element_39 : decode b_MO_element 39 = .ok (.dreturn, 1) := by decide +kernel
theorem d_MO_node_0 : decode b_MO_node 0 = .ok (.iload_n 2, 1) := by decide +kernel
theorem d_MO_node_1 : decode b_MO_node 1 = .ok (.iconst 0, 1) := by decide +kernel
theorem d_MO_node_2 : decode b_MO_node 2 = .ok (.iconst 3, 1) := by decide +kernel
theorem d_MO_node_3 : decode b_MO_node 3 = .ok (.invokestatic 108, 3) := by decide +kernel
theorem d_MO_node_6 : decode b_MO_node 6 = .ok (.ifCond .ne 9, 3) := by decide +kernel
theorem d_MO_node_9 : decode b_MO_node 9 = .ok (.aload_n 0, 1) := by decide +kernel
theorem d_MO_node_10 : decode b_MO_node 10 = .ok (.iconst 1, 1) := by decide +kernel
theorem d_MO_node_11 : decode b_MO_node 11 = .ok (.invokevirtual 120, 3) := by decide +kernel
theorem d_MO_node_14 : decode b_MO_node 14 = .ok (.ireturn, 1) := by decide +kernel
theorem d_MO_node_15 : decode b_MO_node 15 = .ok (.aload_n 0, 1) := by decide +kernel
theorem d_MO_node_16 : decode b_MO_node 16 = .ok (.iload_n 1, 1) := by decide +kernel
theorem d_MO_node_17 : decode b_MO_node 17 = .ok (.invokevirtual 112, 3) := by decide +kernel
theorem d_MO_node_20 : decode b_MO_node 20 = .ok (.istore_n 3, 1) := by decide +kernel
theorem d_MO_node_21 : decode b_MO_node 21 = .ok (.iload_n 3, 1) := by decide +kernel
theorem d_MO_node_22 : decode b_MO_node 22 = .ok (.ifCond .ne 9, 3) := by decide +kernel
theorem d_MO_node_25 : decode b_MO_node 25 = .ok (.aload_n 0, 1) := by decide +kernel
theorem d_MO_node_26 : decode b_MO_node 26 = .ok (.iconst 2, 1) := by decide +kernel
theorem d_MO_node_27 : decode b_MO_node 27 = .ok (.invokevirtual 120, 3) := by decide +kernel
theorem d_MO_node_30 : decode b_MO_node 30 = .ok (.ireturn, 1) := by decide +kernel
theorem d_MO_node_31 : decode b_MO_node 31 = .ok (.aload_n 0, 1) := by decide +kernel
theorem d_MO_node_32 : decode b_MO_node 32 = .ok (.iconst 0, 1) := by decide +kernel
theorem d_MO_node_33 : decode b_MO_node 33 = .ok (.putfield 96, 3) := by decide +kernel
theorem d_MO_node_36 : decode b_MO_node 36 = .ok (.iload_n 2, 1) := by decide +kernel
theorem d_MO_node_37 : decode b_MO_node 37 = .ok (.ifCond .ne 12, 3) := by decide +kernel
theorem d_MO_node_40 : decode b_MO_node 40 = .ok (.aload_n 0, 1) := by decide +kernel
theorem d_MO_node_41 : decode b_MO_node 41 = .ok (.getfield 7, 3) := by decide +kernel
theorem d_MO_node_44 : decode b_MO_node 44 = .ok (.iload_n 1, 1) := by decide +kernel
theorem d_MO_node_45 : decode b_MO_node 45 = .ok (.iaload, 1) := by decide +kernel
theorem d_MO_node_46 : decode b_MO_node 46 = .ok (.goto 37, 3) := by decide +kernel
theorem d_MO_node_49 : decode b_MO_node 49 = .ok (.iload_n 2, 1) := by decide +kernel
theorem d_MO_node_50 : decode b_MO_node 50 = .ok (.iconst 1, 1) := by decide +kernel
theorem d_MO_node_51 : decode b_MO_node 51 = .ok (.if_icmp .ne 12, 3) := by decide +kernel
theorem d_MO_node_54 : decode b_MO_node 54 = .ok (.aload_n 0, 1) := by decide +kernel
theorem d_MO_node_55 : decode b_MO_node 55 = .ok (.getfield 13, 3) := by decide +kernel
theorem d_MO_node_58 : decode b_MO_node 58 = .ok (.iload_n 1, 1) := by decide +kernel
theorem d_MO_node_59 : decode b_MO_node 59 = .ok (.iaload, 1) := by decide +kernel
theorem d_MO_node_60 : decode b_MO_node 60 = .ok (.goto 23, 3) := by decide +kernel
theorem d_MO_node_63 : decode b_MO_node 63 = .ok (.iload_n 2, 1) := by decide +kernel
theorem d_MO_node_64 : decode b_MO_node 64 = .ok (.iconst 2, 1) := by decide +kernel
theorem d_MO_node_65 : decode b_MO_node 65 = .ok (.if_icmp .ne 12, 3) := by decide +kernel
theorem d_MO_node_68 : decode b_MO_node 68 = .ok (.aload_n 0, 1) := by decide +kernel
theorem d_MO_node_69 : decode b_MO_node 69 = .ok (.getfield 16, 3) := by decide +kernel
theorem d_MO_node_72 : decode b_MO_node 72 = .ok (.iload_n 1, 1) := by decide +kernel
theorem d_MO_node_73 : decode b_MO_node 73 = .ok (.iaload, 1) := by decide +kernel
theorem d_MO_node_74 : decode b_MO_node 74 = .ok (.goto 9, 3) := by decide +kernel
theorem d_MO_node_77 : decode b_MO_node 77 = .ok (.aload_n 0, 1) := by decide +kernel
theorem d_MO_node_78 : decode b_MO_node 78 = .ok (.getfield 19, 3) := by decide +kernel
theorem d_MO_node_81 : decode b_MO_node 81 = .ok (.iload_n 1, 1) := by decide +kernel
theorem d_MO_node_82 : decode b_MO_node 82 = .ok (.iaload, 1) := by decide +kernel
theorem d_MO_node_83 : decode b_MO_node 83 = .ok (.ireturn, 1) := by decide +kernel
theorem d_MO_clear_0 : decode b_MO_clear 0 = .ok (.aload_n 0, 1) := by decide +kernel
theorem d_MO_clear_1 : decode b_MO_clear 1 = .ok (.iconst 0, 1) := by decide +kernel
theorem d_MO_clear_2 : decode b_MO_clear 2 = .ok (.putfield 96, 3) := by decide +kernel
theorem d_MO_clear_5 : decode b_MO_clear 5 = .ok (.aload_n 0, 1) := by decide +kernel
theorem d_MO_clear_6 : decode b_MO_clear 6 = .ok (.getfield 105, 3) := by decide +kernel
theorem d_MO_clear_9 : decode b_MO_clear 9 = .ok (.istore_n 1, 1) := by decide +kernel
theorem d_MO_clear_10 : decode b_MO_clear 10 = .ok (.aload_n 0, 1) := by decide +kernel
theorem d_MO_clear_11 : decode b_MO_clear 11 = .ok (.iconst 0, 1) := by decide +kernel
theorem d_MO_clear_12 : decode b_MO_clear 12 = .ok (.putfield 105, 3) := by decide +kernel
theorem d_MO_clear_15 : decode b_MO_clear 15 = .ok (.iconst 0, 1) := by decide +kernel
theorem d_MO_clear_16 : decode b_MO_clear 16 = .ok (.istore_n 2, 1) := by decide +kernel
theorem d_MO_clear_17 : decode b_MO_clear 17 = .ok (.iload_n 2, 1) := by decide +kernel
theorem d_MO_clear_18 : decode b_MO_clear 18 = .ok (.iconst 4, 1) := by decide +kernel
theorem d_MO_clear_19 : decode b_MO_clear 19 = .ok (.if_icmp .ge 16, 3) := by decide +kernel
theorem d_MO_clear_22 : decode b_MO_clear 22 = .ok (.aload_n 0, 1) := by decide +kernel
theorem d_MO_clear_23 : decode b_MO_clear 23 = .ok (.getfield 22, 3) := by decide +kernel
theorem d_MO_clear_26 : decode b_MO_clear 26 = .ok (.iload_n 2, 1) := by decide +kernel
theorem d_MO_clear_27 : decode b_MO_clear 27 = .ok (.iconst (-1), 1) := by decide +kernel
theorem d_MO_clear_28 : decode b_MO_clear 28 = .ok (.iastore, 1) := by decide +kernel
theorem d_MO_clear_29 : decode b_MO_clear 29 = .ok (.iinc 2 1, 3) := by decide +kernel
theorem d_MO_clear_32 : decode b_MO_clear 32 = .ok (.goto (-15), 3) := by decide +kernel
theorem d_MO_clear_35 : decode b_MO_clear 35 = .ok (.iload_n 1, 1) := by decide +kernel
theorem d_MO_clear_36 : decode b_MO_clear 36 = .ok (.ireturn, 1) := by decide +kernel
theorem d_MO_count_0 : decode b_MO_count 0 = .ok (.iload_n 1, 1) := by decide +kernel
theorem d_MO_count_1 : decode b_MO_count 1 = .ok (.iconst 0, 1) := by decide +kernel
theorem d_MO_count_2 : decode b_MO_count 2 = .ok (.bipush 6, 2) := by decide +kernel
theorem d_MO_count_4 : decode b_MO_count 4 = .ok (.invokestatic 108, 3) := by decide +kernel
theorem d_MO_count_7 : decode b_MO_count 7 = .ok (.ifCond .ne 9, 3) := by decide +kernel
theorem d_MO_count_10 : decode b_MO_count 10 = .ok (.aload_n 0, 1) := by decide +kernel
theorem d_MO_count_11 : decode b_MO_count 11 = .ok (.iconst 1, 1) := by decide +kernel
theorem d_MO_count_12 : decode b_MO_count 12 = .ok (.invokevirtual 120, 3) := by decide +kernel
theorem d_MO_count_15 : decode b_MO_count 15 = .ok (.ireturn, 1) := by decide +kernel
theorem d_MO_count_16 : decode b_MO_count 16 = .ok (.aload_n 0, 1) := by decide +kernel
theorem d_MO_count_17 : decode b_MO_count 17 = .ok (.iconst 0, 1) := by decide +kernel
theorem d_MO_count_18 : decode b_MO_count 18 = .ok (.putfield 96, 3) := by decide +kernel
theorem d_MO_count_21 : decode b_MO_count 21 = .ok (.iload_n 1, 1) := by decide +kernel
theorem d_MO_count_22 : decode b_MO_count 22 = .ok (.tableswitch 87 0 5 #[38, 43, 67, 72, 77, 82], 38) := by decide +kernel
theorem d_MO_count_60 : decode b_MO_count 60 = .ok (.aload_n 0, 1) := by decide +kernel
theorem d_MO_count_61 : decode b_MO_count 61 = .ok (.getfield 105, 3) := by decide +kernel
theorem d_MO_count_64 : decode b_MO_count 64 = .ok (.ireturn, 1) := by decide +kernel
theorem d_MO_count_65 : decode b_MO_count 65 = .ok (.aload_n 0, 1) := by decide +kernel
theorem d_MO_count_66 : decode b_MO_count 66 = .ok (.getfield 42, 3) := by decide +kernel
theorem d_MO_count_69 : decode b_MO_count 69 = .ok (.aload_n 0, 1) := by decide +kernel
theorem d_MO_count_70 : decode b_MO_count 70 = .ok (.getfield 38, 3) := by decide +kernel
theorem d_MO_count_73 : decode b_MO_count 73 = .ok (.isub, 1) := by decide +kernel
theorem d_MO_count_74 : decode b_MO_count 74 = .ok (.iconst 1, 1) := by decide +kernel
theorem d_MO_count_75 : decode b_MO_count 75 = .ok (.iadd, 1) := by decide +kernel
theorem d_MO_count_76 : decode b_MO_count 76 = .ok (.aload_n 0, 1) := by decide +kernel
theorem d_MO_count_77 : decode b_MO_count 77 = .ok (.getfield 48, 3) := by decide +kernel
theorem d_MO_count_80 : decode b_MO_count 80 = .ok (.aload_n 0, 1) := by decide +kernel
theorem d_MO_count_81 : decode b_MO_count 81 = .ok (.getfield 45, 3) := by decide +kernel
theorem d_MO_count_84 : decode b_MO_count 84 = .ok (.isub, 1) := by decide +kernel
theorem d_MO_count_85 : decode b_MO_count 85 = .ok (.iconst 1, 1) := by decide +kernel
theorem d_MO_count_86 : decode b_MO_count 86 = .ok (.iadd, 1) := by decide +kernel
theorem d_MO_count_87 : decode b_MO_count 87 = .ok (.imul, 1) := by decide +kernel
theorem d_MO_count_88 : decode b_MO_count 88 = .ok (.ireturn, 1) := by decide +kernel
theorem d_MO_count_89 : decode b_MO_count 89 = .ok (.aload_n 0, 1) := by decide +kernel
theorem d_MO_count_90 : decode b_MO_count 90 = .ok (.getfield 139, 3) := by decide +kernel
theorem d_MO_count_93 : decode b_MO_count 93 = .ok (.ireturn, 1) := by decide +kernel
theorem d_MO_count_94 : decode b_MO_count 94 = .ok (.aload_n 0, 1) := by decide +kernel
theorem d_MO_count_95 : decode b_MO_count 95 = .ok (.getfield 136, 3) := by decide +kernel
theorem d_MO_count_98 : decode b_MO_count 98 = .ok (.ireturn, 1) := by decide +kernel
theorem d_MO_count_99 : decode b_MO_count 99 = .ok (.aload_n 0, 1) := by decide +kernel
theorem d_MO_count_100 : decode b_MO_count 100 = .ok (.getfield 187, 3) := by decide +kernel
theorem d_MO_count_103 : decode b_MO_count 103 = .ok (.ireturn, 1) := by decide +kernel
theorem d_MO_count_104 : decode b_MO_count 104 = .ok (.aload_n 0, 1) := by decide +kernel
theorem d_MO_count_105 : decode b_MO_count 105 = .ok (.getfield 155, 3) := by decide +kernel
theorem d_MO_count_108 : decode b_MO_count 108 = .ok (.ireturn, 1) := by decide +kernel
theorem d_MO_count_109 : decode b_MO_count 109 = .ok (.aload_n 0, 1) := by decide +kernel
theorem d_MO_count_110 : decode b_MO_count 110 = .ok (.getfield 199, 3) := by decide +kernel
theorem d_MO_count_113 : decode b_MO_count 113 = .ok (.ireturn, 1) := by decide +kernel
theorem d_LW_make_0 : decode b_LW_make 0 = .ok (.aload 5, 2) := by decide +kernel
theorem d_LW_make_2 : decode b_LW_make 2 = .ok (.iconst 0, 1) := by decide +kernel
theorem d_LW_make_3 : decode b_LW_make 3 = .ok (.aload_n 0, 1) := by decide +kernel
theorem d_LW_make_4 : decode b_LW_make 4 = .ok (.iload_n 1, 1) := by decide +kernel
theorem d_LW_make_5 : decode b_LW_make 5 = .ok (.iload_n 2, 1) := by decide +kernel
theorem d_LW_make_6 : decode b_LW_make 6 = .ok (.iload_n 3, 1) := by decide +kernel
theorem d_LW_make_7 : decode b_LW_make 7 = .ok (.iload 4, 2) := by decide +kernel
theorem d_LW_make_9 : decode b_LW_make 9 = .ok (.invokevirtual 7, 3) := by decide +kernel
theorem d_LW_make_12 : decode b_LW_make 12 = .ok (.i2l, 1) := by decide +kernel
theorem d_LW_make_13 : decode b_LW_make 13 = .ok (.lastore, 1) := by decide +kernel
theorem d_LW_make_14 : decode b_LW_make 14 = .ok (.goto 11, 3) := by decide +kernel
theorem d_LW_make_17 : decode b_LW_make 17 = .ok (.astore 6, 2) := by decide +kernel
theorem d_LW_make_19 : decode b_LW_make 19 = .ok (.iconst 1, 1) := by decide +kernel
theorem d_LW_make_20 : decode b_LW_make 20 = .ok (.ireturn, 1) := by decide +kernel
theorem d_LW_make_21 : decode b_LW_make 21 = .ok (.astore 6, 2) := by decide +kernel
theorem d_LW_make_23 : decode b_LW_make 23 = .ok (.iconst 2, 1) := by decide +kernel
theorem d_LW_make_24 : decode b_LW_make 24 = .ok (.ireturn, 1) := by decide +kernel
theorem d_LW_make_25 : decode b_LW_make 25 = .ok (.iconst 0, 1) := by decide +kernel
theorem d_LW_make_26 : decode b_LW_make 26 = .ok (.ireturn, 1) := by decide +kernel
theorem d_LW_procedure_0 : decode b_LW_procedure 0 = .ok (.aload_n 0, 1) := by decide +kernel
theorem d_LW_procedure_1 : decode b_LW_procedure 1 = .ok (.iload_n 1, 1) := by decide +kernel
theorem d_LW_procedure_2 : decode b_LW_procedure 2 = .ok (.iload_n 2, 1) := by decide +kernel
theorem d_LW_procedure_3 : decode b_LW_procedure 3 = .ok (.iload_n 3, 1) := by decide +kernel
theorem d_LW_procedure_4 : decode b_LW_procedure 4 = .ok (.iload 4, 2) := by decide +kernel
theorem d_LW_procedure_6 : decode b_LW_procedure 6 = .ok (.invokevirtual 17, 3) := by decide +kernel
theorem d_LW_procedure_9 : decode b_LW_procedure 9 = .ok (.goto 7, 3) := by decide +kernel
theorem d_LW_procedure_12 : decode b_LW_procedure 12 = .ok (.astore 5, 2) := by decide +kernel
theorem d_LW_procedure_14 : decode b_LW_procedure 14 = .ok (.iconst 1, 1) := by decide +kernel
theorem d_LW_procedure_15 : decode b_LW_procedure 15 = .ok (.ireturn, 1) := by decide +kernel
theorem d_LW_procedure_16 : decode b_LW_procedure 16 = .ok (.iconst 0, 1) := by decide +kernel
theorem d_LW_procedure_17 : decode b_LW_procedure 17 = .ok (.ireturn, 1) := by decide +kernel
theorem d_LW_bounds_0 : decode b_LW_bounds 0 = .ok (.aload 5, 2) := by decide +kernel
theorem d_LW_bounds_2 : decode b_LW_bounds 2 = .ok (.iconst 0, 1) := by decide +kernel
theorem d_LW_bounds_3 : decode b_LW_bounds 3 = .ok (.aload_n 0, 1) := by decide +kernel
theorem d_LW_bounds_4 : decode b_LW_bounds 4 = .ok (.iload_n 1, 1) := by decide +kernel
theorem d_LW_bounds_5 : decode b_LW_bounds 5 = .ok (.iload_n 2, 1) := by decide +kernel
theorem d_LW_bounds_6 : decode b_LW_bounds 6 = .ok (.iload_n 3, 1) := by decide +kernel
theorem d_LW_bounds_7 : decode b_LW_bounds 7 = .ok (.iload 4, 2) := by decide +kernel
theorem d_LW_bounds_9 : decode b_LW_bounds 9 = .ok (.invokevirtual 21, 3) := by decide +kernel
theorem d_LW_bounds_12 : decode b_LW_bounds 12 = .ok (.i2l, 1) := by decide +kernel
theorem d_LW_bounds_13 : decode b_LW_bounds 13 = .ok (.lastore, 1) := by decide +kernel
theorem d_LW_bounds_14 : decode b_LW_bounds 14 = .ok (.goto 7, 3) := by decide +kernel
theorem d_LW_bounds_17 : decode b_LW_bounds 17 = .ok (.astore 6, 2) := by decide +kernel
theorem d_LW_bounds_19 : decode b_LW_bounds 19 = .ok (.iconst 1, 1) := by decide +kernel
theorem d_LW_bounds_20 : decode b_LW_bounds 20 = .ok (.ireturn, 1) := by decide +kernel
theorem d_LW_bounds_21 : decode b_LW_bounds 21 = .ok (.iconst 0, 1) := by decide +kernel
theorem d_LW_bounds_22 : decode b_LW_bounds 22 = .ok (.ireturn, 1) := by decide +kernel
theorem d_LW_put_0 : decode b_LW_put 0 = .ok (.aload 4, 2) := by decide +kernel
theorem d_LW_put_2 : decode b_LW_put 2 = .ok (.iconst 0, 1) := by decide +kernel
theorem d_LW_put_3 : decode b_LW_put 3 = .ok (.aload_n 0, 1) := by decide +kernel
theorem d_LW_put_4 : decode b_LW_put 4 = .ok (.iload_n 1, 1) := by decide +kernel
theorem d_LW_put_5 : decode b_LW_put 5 = .ok (.dload_n 2, 1) := by decide +kernel
theorem d_LW_put_6 : decode b_LW_put 6 = .ok (.invokevirtual 24, 3) := by decide +kernel
theorem d_LW_put_9 : decode b_LW_put 9 = .ok (.dastore, 1) := by decide +kernel
theorem d_LW_put_10 : decode b_LW_put 10 = .ok (.goto 7, 3) := by decide +kernel
theorem d_LW_put_13 : decode b_LW_put 13 = .ok (.astore 5, 2) := by decide +kernel
theorem d_LW_put_15 : decode b_LW_put 15 = .ok (.iconst 1, 1) := by decide +kernel
theorem d_LW_put_16 : decode b_LW_put 16 = .ok (.ireturn, 1) := by decide +kernel
theorem d_LW_put_17 : decode b_LW_put 17 = .ok (.iconst 0, 1) := by decide +kernel
theorem d_LW_put_18 : decode b_LW_put 18 = .ok (.ireturn, 1) := by decide +kernel
theorem d_LW_work_0 : decode b_LW_work 0 = .ok (.aload_n 2, 1) := by decide +kernel
theorem d_LW_work_1 : decode b_LW_work 1 = .ok (.iconst 0, 1) := by decide +kernel
theorem d_LW_work_2 : decode b_LW_work 2 = .ok (.aload_n 0, 1) := by decide +kernel
theorem d_LW_work_3 : decode b_LW_work 3 = .ok (.iload_n 1, 1) := by decide +kernel
theorem d_LW_work_4 : decode b_LW_work 4 = .ok (.invokevirtual 28, 3) := by decide +kernel
theorem d_LW_work_7 : decode b_LW_work 7 = .ok (.dastore, 1) := by decide +kernel
theorem d_LW_work_8 : decode b_LW_work 8 = .ok (.goto 22, 3) := by decide +kernel
theorem d_LW_work_11 : decode b_LW_work 11 = .ok (.astore_n 3, 1) := by decide +kernel
theorem d_LW_work_12 : decode b_LW_work 12 = .ok (.iconst 1, 1) := by decide +kernel
theorem d_LW_work_13 : decode b_LW_work 13 = .ok (.ireturn, 1) := by decide +kernel
theorem d_LW_work_14 : decode b_LW_work 14 = .ok (.astore_n 3, 1) := by decide +kernel
theorem d_LW_work_15 : decode b_LW_work 15 = .ok (.iconst 2, 1) := by decide +kernel
theorem d_LW_work_16 : decode b_LW_work 16 = .ok (.ireturn, 1) := by decide +kernel
theorem d_LW_work_17 : decode b_LW_work 17 = .ok (.astore_n 3, 1) := by decide +kernel
theorem d_LW_work_18 : decode b_LW_work 18 = .ok (.iconst 3, 1) := by decide +kernel
theorem d_LW_work_19 : decode b_LW_work 19 = .ok (.ireturn, 1) := by decide +kernel
theorem d_LW_work_20 : decode b_LW_work 20 = .ok (.astore_n 3, 1) := by decide +kernel
theorem d_LW_work_21 : decode b_LW_work 21 = .ok (.iconst 4, 1) := by decide +kernel
theorem d_LW_work_22 : decode b_LW_work 22 = .ok (.ireturn, 1) := by decide +kernel
theorem d_LW_work_23 : decode b_LW_work 23 = .ok (.astore_n 3, 1) := by decide +kernel
theorem d_LW_work_24 : decode b_LW_work 24 = .ok (.iconst 5, 1) := by decide +kernel
theorem d_LW_work_25 : decode b_LW_work 25 = .ok (.ireturn, 1) := by decide +kernel
theorem d_LW_work_26 : decode b_LW_work 26 = .ok (.astore_n 3, 1) := by decide +kernel
theorem d_LW_work_27 : decode b_LW_work 27 = .ok (.bipush 6, 2) := by decide +kernel
theorem d_LW_work_29 : decode b_LW_work 29 = .ok (.ireturn, 1) := by decide +kernel
theorem d_LW_work_30 : decode b_LW_work 30 = .ok (.iconst 0, 1) := by decide +kernel
theorem d_LW_work_31 : decode b_LW_work 31 = .ok (.ireturn, 1) := by decide +kernel
theorem d_LW_variable_0 : decode b_LW_variable 0 = .ok (.aload_n 2, 1) := by decide +kernel
theorem d_LW_variable_1 : decode b_LW_variable 1 = .ok (.iconst 0, 1) := by decide +kernel
theorem d_LW_variable_2 : decode b_LW_variable 2 = .ok (.aload_n 0, 1) := by decide +kernel
theorem d_LW_variable_3 : decode b_LW_variable 3 = .ok (.iload_n 1, 1) := by decide +kernel
theorem d_LW_variable_4 : decode b_LW_variable 4 = .ok (.invokevirtual 40, 3) := by decide +kernel
theorem d_LW_variable_7 : decode b_LW_variable 7 = .ok (.dastore, 1) := by decide +kernel
theorem d_LW_variable_8 : decode b_LW_variable 8 = .ok (.goto 6, 3) := by decide +kernel
theorem d_LW_variable_11 : decode b_LW_variable 11 = .ok (.astore_n 3, 1) := by decide +kernel
theorem d_LW_variable_12 : decode b_LW_variable 12 = .ok (.iconst 1, 1) := by decide +kernel
theorem d_LW_variable_13 : decode b_LW_variable 13 = .ok (.ireturn, 1) := by decide +kernel
theorem d_LW_variable_14 : decode b_LW_variable 14 = .ok (.iconst 0, 1) := by decide +kernel
theorem d_LW_variable_15 : decode b_LW_variable 15 = .ok (.ireturn, 1) := by decide +kernel
theorem d_LW_element_0 : decode b_LW_element 0 = .ok (.aload_n 3, 1) := by decide +kernel
theorem d_LW_element_1 : decode b_LW_element 1 = .ok (.iconst 0, 1) := by decide +kernel
theorem d_LW_element_2 : decode b_LW_element 2 = .ok (.aload_n 0, 1) := by decide +kernel
theorem d_LW_element_3 : decode b_LW_element 3 = .ok (.iload_n 1, 1) := by decide +kernel
theorem d_LW_element_4 : decode b_LW_element 4 = .ok (.iload_n 2, 1) := by decide +kernel
theorem d_LW_element_5 : decode b_LW_element 5 = .ok (.invokevirtual 43, 3) := by decide +kernel
theorem d_LW_element_8 : decode b_LW_element 8 = .ok (.dastore, 1) := by decide +kernel
theorem d_LW_element_9 : decode b_LW_element 9 = .ok (.goto 7, 3) := by decide +kernel
theorem d_LW_element_12 : decode b_LW_element 12 = .ok (.astore 4, 2) := by decide +kernel
theorem d_LW_element_14 : decode b_LW_element 14 = .ok (.iconst 1, 1) := by decide +kernel
theorem d_LW_element_15 : decode b_LW_element 15 = .ok (.ireturn, 1) := by decide +kernel
theorem d_LW_element_16 : decode b_LW_element 16 = .ok (.iconst 0, 1) := by decide +kernel
theorem d_LW_element_17 : decode b_LW_element 17 = .ok (.ireturn, 1) := by decide +kernel
theorem d_LW_node_0 : decode b_LW_node 0 = .ok (.aload_n 3, 1) := by decide +kernel
theorem d_LW_node_1 : decode b_LW_node 1 = .ok (.iconst 0, 1) := by decide +kernel
theorem d_LW_node_2 : decode b_LW_node 2 = .ok (.aload_n 0, 1) := by decide +kernel
theorem d_LW_node_3 : decode b_LW_node 3 = .ok (.iload_n 1, 1) := by decide +kernel
theorem d_LW_node_4 : decode b_LW_node 4 = .ok (.iload_n 2, 1) := by decide +kernel
theorem d_LW_node_5 : decode b_LW_node 5 = .ok (.invokevirtual 47, 3) := by decide +kernel
theorem d_LW_node_8 : decode b_LW_node 8 = .ok (.i2l, 1) := by decide +kernel
theorem d_LW_node_9 : decode b_LW_node 9 = .ok (.lastore, 1) := by decide +kernel
theorem d_LW_node_10 : decode b_LW_node 10 = .ok (.goto 11, 3) := by decide +kernel
theorem d_LW_node_13 : decode b_LW_node 13 = .ok (.astore 4, 2) := by decide +kernel
theorem d_LW_node_15 : decode b_LW_node 15 = .ok (.iconst 1, 1) := by decide +kernel
theorem d_LW_node_16 : decode b_LW_node 16 = .ok (.ireturn, 1) := by decide +kernel
theorem d_LW_node_17 : decode b_LW_node 17 = .ok (.astore 4, 2) := by decide +kernel
theorem d_LW_node_19 : decode b_LW_node 19 = .ok (.iconst 2, 1) := by decide +kernel
theorem d_LW_node_20 : decode b_LW_node 20 = .ok (.ireturn, 1) := by decide +kernel
theorem d_LW_node_21 : decode b_LW_node 21 = .ok (.iconst 0, 1) := by decide +kernel
theorem d_LW_node_22 : decode b_LW_node 22 = .ok (.ireturn, 1) := by decide +kernel
theorem d_LW_count_0 : decode b_LW_count 0 = .ok (.aload_n 2, 1) := by decide +kernel
theorem d_LW_count_1 : decode b_LW_count 1 = .ok (.iconst 0, 1) := by decide +kernel
theorem d_LW_count_2 : decode b_LW_count 2 = .ok (.aload_n 0, 1) := by decide +kernel
theorem d_LW_count_3 : decode b_LW_count 3 = .ok (.iload_n 1, 1) := by decide +kernel
theorem d_LW_count_4 : decode b_LW_count 4 = .ok (.invokevirtual 51, 3) := by decide +kernel
theorem d_LW_count_7 : decode b_LW_count 7 = .ok (.i2l, 1) := by decide +kernel
theorem d_LW_count_8 : decode b_LW_count 8 = .ok (.lastore, 1) := by decide +kernel
theorem d_LW_count_9 : decode b_LW_count 9 = .ok (.goto 6, 3) := by decide +kernel
theorem d_LW_count_12 : decode b_LW_count 12 = .ok (.astore_n 3, 1) := by decide +kernel
theorem d_LW_count_13 : decode b_LW_count 13 = .ok (.iconst 1, 1) := by decide +kernel
theorem d_LW_count_14 : decode b_LW_count 14 = .ok (.ireturn, 1) := by decide +kernel
theorem d_LW_count_15 : decode b_LW_count 15 = .ok (.iconst 0, 1) := by decide +kernel
theorem d_LW_count_16 : decode b_LW_count 16 = .ok (.ireturn, 1) := by decide +kernel
theorem d_LW_law_0 : decode b_LW_law 0 = .ok (.new 8, 3) := by decide +kernel
theorem d_LW_law_3 : decode b_LW_law 3 = .ok (.dup, 1) := by decide +kernel
theorem d_LW_law_4 : decode b_LW_law 4 = .ok (.invokespecial 55, 3) := by decide +kernel
theorem d_LW_law_7 : decode b_LW_law 7 = .ok (.astore_n 1, 1) := by decide +kernel
theorem d_LW_law_8 : decode b_LW_law 8 = .ok (.new 56, 3) := by decide +kernel
theorem d_LW_law_11 : decode b_LW_law 11 = .ok (.dup, 1) := by decide +kernel
theorem d_LW_law_12 : decode b_LW_law 12 = .ok (.invokespecial 58, 3) := by decide +kernel
theorem d_LW_law_15 : decode b_LW_law 15 = .ok (.astore_n 2, 1) := by decide +kernel
theorem d_LW_law_16 : decode b_LW_law 16 = .ok (.iconst 1, 1) := by decide +kernel
theorem d_LW_law_17 : decode b_LW_law 17 = .ok (.newarray .long, 2) := by decide +kernel
theorem d_LW_law_19 : decode b_LW_law 19 = .ok (.astore_n 3, 1) := by decide +kernel
theorem d_LW_law_20 : decode b_LW_law 20 = .ok (.iconst 1, 1) := by decide +kernel
theorem d_LW_law_21 : decode b_LW_law 21 = .ok (.newarray .double, 2) := by decide +kernel
theorem d_LW_law_23 : decode b_LW_law 23 = .ok (.astore 4, 2) := by decide +kernel
theorem d_LW_law_25 : decode b_LW_law 25 = .ok (.iconst 0, 1) := by decide +kernel
theorem d_LW_law_26 : decode b_LW_law 26 = .ok (.istore 5, 2) := by decide +kernel
theorem d_LW_law_28 : decode b_LW_law 28 = .ok (.iload 5, 2) := by decide +kernel
theorem d_LW_law_30 : decode b_LW_law 30 = .ok (.aload_n 0, 1) := by decide +kernel
theorem d_LW_law_31 : decode b_LW_law 31 = .ok (.arraylength, 1) := by decide +kernel
theorem d_LW_law_32 : decode b_LW_law 32 = .ok (.iconst 5, 1) := by decide +kernel
theorem d_LW_law_33 : decode b_LW_law 33 = .ok (.isub, 1) := by decide +kernel
theorem d_LW_law_34 : decode b_LW_law 34 = .ok (.if_icmp .gt 807, 3) := by decide +kernel
theorem d_LW_law_37 : decode b_LW_law 37 = .ok (.aload_n 0, 1) := by decide +kernel
theorem d_LW_law_38 : decode b_LW_law 38 = .ok (.iload 5, 2) := by decide +kernel
theorem d_LW_law_40 : decode b_LW_law 40 = .ok (.iaload, 1) := by decide +kernel
theorem d_LW_law_41 : decode b_LW_law 41 = .ok (.bipush 15, 2) := by decide +kernel
theorem d_LW_law_43 : decode b_LW_law 43 = .ok (.iand, 1) := by decide +kernel
theorem d_LW_law_44 : decode b_LW_law 44 = .ok (.tableswitch 791 0 9 #[56, 148, 220, 312, 411, 488, 565, 654, 722, 735], 56) := by decide +kernel
theorem d_LW_law_100 : decode b_LW_law 100 = .ok (.aload_n 1, 1) := by decide +kernel
theorem d_LW_law_101 : decode b_LW_law 101 = .ok (.aload_n 0, 1) := by decide +kernel
theorem d_LW_law_102 : decode b_LW_law 102 = .ok (.iload 5, 2) := by decide +kernel
theorem d_LW_law_104 : decode b_LW_law 104 = .ok (.iconst 1, 1) := by decide +kernel
theorem d_LW_law_105 : decode b_LW_law 105 = .ok (.iadd, 1) := by decide +kernel
theorem d_LW_law_106 : decode b_LW_law 106 = .ok (.iaload, 1) := by decide +kernel
theorem d_LW_law_107 : decode b_LW_law 107 = .ok (.aload_n 0, 1) := by decide +kernel
theorem d_LW_law_108 : decode b_LW_law 108 = .ok (.iload 5, 2) := by decide +kernel
theorem d_LW_law_110 : decode b_LW_law 110 = .ok (.iconst 2, 1) := by decide +kernel
theorem d_LW_law_111 : decode b_LW_law 111 = .ok (.iadd, 1) := by decide +kernel
theorem d_LW_law_112 : decode b_LW_law 112 = .ok (.iaload, 1) := by decide +kernel
theorem d_LW_law_113 : decode b_LW_law 113 = .ok (.aload_n 0, 1) := by decide +kernel
theorem d_LW_law_114 : decode b_LW_law 114 = .ok (.iload 5, 2) := by decide +kernel
theorem d_LW_law_116 : decode b_LW_law 116 = .ok (.iconst 3, 1) := by decide +kernel
theorem d_LW_law_117 : decode b_LW_law 117 = .ok (.iadd, 1) := by decide +kernel
theorem d_LW_law_118 : decode b_LW_law 118 = .ok (.iaload, 1) := by decide +kernel
theorem d_LW_law_119 : decode b_LW_law 119 = .ok (.aload_n 0, 1) := by decide +kernel
theorem d_LW_law_120 : decode b_LW_law 120 = .ok (.iload 5, 2) := by decide +kernel
theorem d_LW_law_122 : decode b_LW_law 122 = .ok (.iconst 4, 1) := by decide +kernel
theorem d_LW_law_123 : decode b_LW_law 123 = .ok (.iadd, 1) := by decide +kernel
theorem d_LW_law_124 : decode b_LW_law 124 = .ok (.iaload, 1) := by decide +kernel
theorem d_LW_law_125 : decode b_LW_law 125 = .ok (.aload_n 3, 1) := by decide +kernel
theorem d_LW_law_126 : decode b_LW_law 126 = .ok (.invokestatic 59, 3) := by decide +kernel
theorem d_LW_law_129 : decode b_LW_law 129 = .ok (.istore 6, 2) := by decide +kernel
theorem d_LW_law_131 : decode b_LW_law 131 = .ok (.aload_n 2, 1) := by decide +kernel
theorem d_LW_law_132 : decode b_LW_law 132 = .ok (.aload_n 0, 1) := by decide +kernel
theorem d_LW_law_133 : decode b_LW_law 133 = .ok (.iload 5, 2) := by decide +kernel
theorem d_LW_law_135 : decode b_LW_law 135 = .ok (.iconst 1, 1) := by decide +kernel
theorem d_LW_law_136 : decode b_LW_law 136 = .ok (.iadd, 1) := by decide +kernel
theorem d_LW_law_137 : decode b_LW_law 137 = .ok (.iaload, 1) := by decide +kernel
theorem d_LW_law_138 : decode b_LW_law 138 = .ok (.aload_n 0, 1) := by decide +kernel
theorem d_LW_law_139 : decode b_LW_law 139 = .ok (.iload 5, 2) := by decide +kernel
theorem d_LW_law_141 : decode b_LW_law 141 = .ok (.iconst 2, 1) := by decide +kernel
theorem d_LW_law_142 : decode b_LW_law 142 = .ok (.iadd, 1) := by decide +kernel
theorem d_LW_law_143 : decode b_LW_law 143 = .ok (.iaload, 1) := by decide +kernel
theorem d_LW_law_144 : decode b_LW_law 144 = .ok (.aload_n 0, 1) := by decide +kernel
theorem d_LW_law_145 : decode b_LW_law 145 = .ok (.iload 5, 2) := by decide +kernel
theorem d_LW_law_147 : decode b_LW_law 147 = .ok (.iconst 3, 1) := by decide +kernel
theorem d_LW_law_148 : decode b_LW_law 148 = .ok (.iadd, 1) := by decide +kernel
theorem d_LW_law_149 : decode b_LW_law 149 = .ok (.iaload, 1) := by decide +kernel
theorem d_LW_law_150 : decode b_LW_law 150 = .ok (.aload_n 0, 1) := by decide +kernel
theorem d_LW_law_151 : decode b_LW_law 151 = .ok (.iload 5, 2) := by decide +kernel
theorem d_LW_law_153 : decode b_LW_law 153 = .ok (.iconst 4, 1) := by decide +kernel
theorem d_LW_law_154 : decode b_LW_law 154 = .ok (.iadd, 1) := by decide +kernel
theorem d_LW_law_155 : decode b_LW_law 155 = .ok (.iaload, 1) := by decide +kernel
theorem d_LW_law_156 : decode b_LW_law 156 = .ok (.invokevirtual 64, 3) := by decide +kernel
theorem d_LW_law_159 : decode b_LW_law 159 = .ok (.istore 7, 2) := by decide +kernel
theorem d_LW_law_161 : decode b_LW_law 161 = .ok (.aload_n 2, 1) := by decide +kernel
theorem d_LW_law_162 : decode b_LW_law 162 = .ok (.invokevirtual 65, 3) := by decide +kernel
theorem d_LW_law_165 : decode b_LW_law 165 = .ok (.iload 6, 2) := by decide +kernel
theorem d_LW_law_167 : decode b_LW_law 167 = .ok (.if_icmp .eq 5, 3) := by decide +kernel
theorem d_LW_law_170 : decode b_LW_law 170 = .ok (.iconst 0, 1) := by decide +kernel
theorem d_LW_law_171 : decode b_LW_law 171 = .ok (.ireturn, 1) := by decide +kernel
theorem d_LW_law_172 : decode b_LW_law 172 = .ok (.iload 6, 2) := by decide +kernel
theorem d_LW_law_174 : decode b_LW_law 174 = .ok (.ifCond .ne 15, 3) := by decide +kernel
theorem d_LW_law_177 : decode b_LW_law 177 = .ok (.aload_n 3, 1) := by decide +kernel
theorem d_LW_law_178 : decode b_LW_law 178 = .ok (.iconst 0, 1) := by decide +kernel
theorem d_LW_law_179 : decode b_LW_law 179 = .ok (.laload, 1) := by decide +kernel
theorem d_LW_law_180 : decode b_LW_law 180 = .ok (.iload 7, 2) := by decide +kernel
theorem d_LW_law_182 : decode b_LW_law 182 = .ok (.i2l, 1) := by decide +kernel
theorem d_LW_law_183 : decode b_LW_law 183 = .ok (.lcmp, 1) := by decide +kernel
theorem d_LW_law_184 : decode b_LW_law 184 = .ok (.ifCond .eq 5, 3) := by decide +kernel
theorem d_LW_law_187 : decode b_LW_law 187 = .ok (.iconst 0, 1) := by decide +kernel
theorem d_LW_law_188 : decode b_LW_law 188 = .ok (.ireturn, 1) := by decide +kernel
theorem d_LW_law_189 : decode b_LW_law 189 = .ok (.goto 646, 3) := by decide +kernel
theorem d_LW_law_192 : decode b_LW_law 192 = .ok (.aload_n 1, 1) := by decide +kernel
theorem d_LW_law_193 : decode b_LW_law 193 = .ok (.aload_n 0, 1) := by decide +kernel
theorem d_LW_law_194 : decode b_LW_law 194 = .ok (.iload 5, 2) := by decide +kernel
theorem d_LW_law_196 : decode b_LW_law 196 = .ok (.iconst 1, 1) := by decide +kernel
theorem d_LW_law_197 : decode b_LW_law 197 = .ok (.iadd, 1) := by decide +kernel
theorem d_LW_law_198 : decode b_LW_law 198 = .ok (.iaload, 1) := by decide +kernel
theorem d_LW_law_199 : decode b_LW_law 199 = .ok (.aload_n 0, 1) := by decide +kernel
theorem d_LW_law_200 : decode b_LW_law 200 = .ok (.iload 5, 2) := by decide +kernel
theorem d_LW_law_202 : decode b_LW_law 202 = .ok (.iconst 2, 1) := by decide +kernel
theorem d_LW_law_203 : decode b_LW_law 203 = .ok (.iadd, 1) := by decide +kernel
theorem d_LW_law_204 : decode b_LW_law 204 = .ok (.iaload, 1) := by decide +kernel
theorem d_LW_law_205 : decode b_LW_law 205 = .ok (.aload_n 0, 1) := by decide +kernel
theorem d_LW_law_206 : decode b_LW_law 206 = .ok (.iload 5, 2) := by decide +kernel
theorem d_LW_law_208 : decode b_LW_law 208 = .ok (.iconst 3, 1) := by decide +kernel
theorem d_LW_law_209 : decode b_LW_law 209 = .ok (.iadd, 1) := by decide +kernel
theorem d_LW_law_210 : decode b_LW_law 210 = .ok (.iaload, 1) := by decide +kernel
theorem d_LW_law_211 : decode b_LW_law 211 = .ok (.aload_n 0, 1) := by decide +kernel
theorem d_LW_law_212 : decode b_LW_law 212 = .ok (.iload 5, 2) := by decide +kernel
theorem d_LW_law_214 : decode b_LW_law 214 = .ok (.iconst 4, 1) := by decide +kernel
theorem d_LW_law_215 : decode b_LW_law 215 = .ok (.iadd, 1) := by decide +kernel
theorem d_LW_law_216 : decode b_LW_law 216 = .ok (.iaload, 1) := by decide +kernel
theorem d_LW_law_217 : decode b_LW_law 217 = .ok (.invokestatic 69, 3) := by decide +kernel
theorem d_LW_law_220 : decode b_LW_law 220 = .ok (.istore 6, 2) := by decide +kernel
theorem d_LW_law_222 : decode b_LW_law 222 = .ok (.aload_n 2, 1) := by decide +kernel
theorem d_LW_law_223 : decode b_LW_law 223 = .ok (.aload_n 0, 1) := by decide +kernel
theorem d_LW_law_224 : decode b_LW_law 224 = .ok (.iload 5, 2) := by decide +kernel
theorem d_LW_law_226 : decode b_LW_law 226 = .ok (.iconst 1, 1) := by decide +kernel
theorem d_LW_law_227 : decode b_LW_law 227 = .ok (.iadd, 1) := by decide +kernel
theorem d_LW_law_228 : decode b_LW_law 228 = .ok (.iaload, 1) := by decide +kernel
theorem d_LW_law_229 : decode b_LW_law 229 = .ok (.aload_n 0, 1) := by decide +kernel
theorem d_LW_law_230 : decode b_LW_law 230 = .ok (.iload 5, 2) := by decide +kernel
theorem d_LW_law_232 : decode b_LW_law 232 = .ok (.iconst 2, 1) := by decide +kernel
theorem d_LW_law_233 : decode b_LW_law 233 = .ok (.iadd, 1) := by decide +kernel
theorem d_LW_law_234 : decode b_LW_law 234 = .ok (.iaload, 1) := by decide +kernel
theorem d_LW_law_235 : decode b_LW_law 235 = .ok (.aload_n 0, 1) := by decide +kernel
theorem d_LW_law_236 : decode b_LW_law 236 = .ok (.iload 5, 2) := by decide +kernel
theorem d_LW_law_238 : decode b_LW_law 238 = .ok (.iconst 3, 1) := by decide +kernel
theorem d_LW_law_239 : decode b_LW_law 239 = .ok (.iadd, 1) := by decide +kernel
theorem d_LW_law_240 : decode b_LW_law 240 = .ok (.iaload, 1) := by decide +kernel
theorem d_LW_law_241 : decode b_LW_law 241 = .ok (.aload_n 0, 1) := by decide +kernel
theorem d_LW_law_242 : decode b_LW_law 242 = .ok (.iload 5, 2) := by decide +kernel
theorem d_LW_law_244 : decode b_LW_law 244 = .ok (.iconst 4, 1) := by decide +kernel
theorem d_LW_law_245 : decode b_LW_law 245 = .ok (.iadd, 1) := by decide +kernel
theorem d_LW_law_246 : decode b_LW_law 246 = .ok (.iaload, 1) := by decide +kernel
theorem d_LW_law_247 : decode b_LW_law 247 = .ok (.invokevirtual 72, 3) := by decide +kernel
theorem d_LW_law_250 : decode b_LW_law 250 = .ok (.aload_n 2, 1) := by decide +kernel
theorem d_LW_law_251 : decode b_LW_law 251 = .ok (.invokevirtual 65, 3) := by decide +kernel
theorem d_LW_law_254 : decode b_LW_law 254 = .ok (.iload 6, 2) := by decide +kernel
theorem d_LW_law_256 : decode b_LW_law 256 = .ok (.if_icmp .eq 5, 3) := by decide +kernel
theorem d_LW_law_259 : decode b_LW_law 259 = .ok (.iconst 0, 1) := by decide +kernel
theorem d_LW_law_260 : decode b_LW_law 260 = .ok (.ireturn, 1) := by decide +kernel
theorem d_LW_law_261 : decode b_LW_law 261 = .ok (.goto 574, 3) := by decide +kernel
theorem d_LW_law_264 : decode b_LW_law 264 = .ok (.aload_n 1, 1) := by decide +kernel
theorem d_LW_law_265 : decode b_LW_law 265 = .ok (.aload_n 0, 1) := by decide +kernel
theorem d_LW_law_266 : decode b_LW_law 266 = .ok (.iload 5, 2) := by decide +kernel
theorem d_LW_law_268 : decode b_LW_law 268 = .ok (.iconst 1, 1) := by decide +kernel
theorem d_LW_law_269 : decode b_LW_law 269 = .ok (.iadd, 1) := by decide +kernel
theorem d_LW_law_270 : decode b_LW_law 270 = .ok (.iaload, 1) := by decide +kernel
theorem d_LW_law_271 : decode b_LW_law 271 = .ok (.aload_n 0, 1) := by decide +kernel
theorem d_LW_law_272 : decode b_LW_law 272 = .ok (.iload 5, 2) := by decide +kernel
theorem d_LW_law_274 : decode b_LW_law 274 = .ok (.iconst 2, 1) := by decide +kernel
theorem d_LW_law_275 : decode b_LW_law 275 = .ok (.iadd, 1) := by decide +kernel
theorem d_LW_law_276 : decode b_LW_law 276 = .ok (.iaload, 1) := by decide +kernel
theorem d_LW_law_277 : decode b_LW_law 277 = .ok (.aload_n 0, 1) := by decide +kernel
theorem d_LW_law_278 : decode b_LW_law 278 = .ok (.iload 5, 2) := by decide +kernel
theorem d_LW_law_280 : decode b_LW_law 280 = .ok (.iconst 3, 1) := by decide +kernel
theorem d_LW_law_281 : decode b_LW_law 281 = .ok (.iadd, 1) := by decide +kernel
theorem d_LW_law_282 : decode b_LW_law 282 = .ok (.iaload, 1) := by decide +kernel
theorem d_LW_law_283 : decode b_LW_law 283 = .ok (.aload_n 0, 1) := by decide +kernel
theorem d_LW_law_284 : decode b_LW_law 284 = .ok (.iload 5, 2) := by decide +kernel
theorem d_LW_law_286 : decode b_LW_law 286 = .ok (.iconst 4, 1) := by decide +kernel
theorem d_LW_law_287 : decode b_LW_law 287 = .ok (.iadd, 1) := by decide +kernel
theorem d_LW_law_288 : decode b_LW_law 288 = .ok (.iaload, 1) := by decide +kernel
theorem d_LW_law_289 : decode b_LW_law 289 = .ok (.aload_n 3, 1) := by decide +kernel
theorem d_LW_law_290 : decode b_LW_law 290 = .ok (.invokestatic 73, 3) := by decide +kernel
theorem d_LW_law_293 : decode b_LW_law 293 = .ok (.istore 6, 2) := by decide +kernel
theorem d_LW_law_295 : decode b_LW_law 295 = .ok (.aload_n 2, 1) := by decide +kernel
theorem d_LW_law_296 : decode b_LW_law 296 = .ok (.aload_n 0, 1) := by decide +kernel
theorem d_LW_law_297 : decode b_LW_law 297 = .ok (.iload 5, 2) := by decide +kernel
theorem d_LW_law_299 : decode b_LW_law 299 = .ok (.iconst 1, 1) := by decide +kernel
theorem d_LW_law_300 : decode b_LW_law 300 = .ok (.iadd, 1) := by decide +kernel
theorem d_LW_law_301 : decode b_LW_law 301 = .ok (.iaload, 1) := by decide +kernel
theorem d_LW_law_302 : decode b_LW_law 302 = .ok (.aload_n 0, 1) := by decide +kernel
theorem d_LW_law_303 : decode b_LW_law 303 = .ok (.iload 5, 2) := by decide +kernel
theorem d_LW_law_305 : decode b_LW_law 305 = .ok (.iconst 2, 1) := by decide +kernel
theorem d_LW_law_306 : decode b_LW_law 306 = .ok (.iadd, 1) := by decide +kernel
theorem d_LW_law_307 : decode b_LW_law 307 = .ok (.iaload, 1) := by decide +kernel
theorem d_LW_law_308 : decode b_LW_law 308 = .ok (.aload_n 0, 1) := by decide +kernel
theorem d_LW_law_309 : decode b_LW_law 309 = .ok (.iload 5, 2) := by decide +kernel
theorem d_LW_law_311 : decode b_LW_law 311 = .ok (.iconst 3, 1) := by decide +kernel
theorem d_LW_law_312 : decode b_LW_law 312 = .ok (.iadd, 1) := by decide +kernel
theorem d_LW_law_313 : decode b_LW_law 313 = .ok (.iaload, 1) := by decide +kernel
theorem d_LW_law_314 : decode b_LW_law 314 = .ok (.aload_n 0, 1) := by decide +kernel
theorem d_LW_law_315 : decode b_LW_law 315 = .ok (.iload 5, 2) := by decide +kernel
theorem d_LW_law_317 : decode b_LW_law 317 = .ok (.iconst 4, 1) := by decide +kernel
theorem d_LW_law_318 : decode b_LW_law 318 = .ok (.iadd, 1) := by decide +kernel
theorem d_LW_law_319 : decode b_LW_law 319 = .ok (.iaload, 1) := by decide +kernel
theorem d_LW_law_320 : decode b_LW_law 320 = .ok (.invokevirtual 75, 3) := by decide +kernel
theorem d_LW_law_323 : decode b_LW_law 323 = .ok (.istore 7, 2) := by decide +kernel
theorem d_LW_law_325 : decode b_LW_law 325 = .ok (.aload_n 2, 1) := by decide +kernel
theorem d_LW_law_326 : decode b_LW_law 326 = .ok (.invokevirtual 65, 3) := by decide +kernel
theorem d_LW_law_329 : decode b_LW_law 329 = .ok (.iload 6, 2) := by decide +kernel
theorem d_LW_law_331 : decode b_LW_law 331 = .ok (.if_icmp .eq 5, 3) := by decide +kernel
theorem d_LW_law_334 : decode b_LW_law 334 = .ok (.iconst 0, 1) := by decide +kernel
theorem d_LW_law_335 : decode b_LW_law 335 = .ok (.ireturn, 1) := by decide +kernel
theorem d_LW_law_336 : decode b_LW_law 336 = .ok (.iload 6, 2) := by decide +kernel
theorem d_LW_law_338 : decode b_LW_law 338 = .ok (.ifCond .ne 15, 3) := by decide +kernel
theorem d_LW_law_341 : decode b_LW_law 341 = .ok (.aload_n 3, 1) := by decide +kernel
theorem d_LW_law_342 : decode b_LW_law 342 = .ok (.iconst 0, 1) := by decide +kernel
theorem d_LW_law_343 : decode b_LW_law 343 = .ok (.laload, 1) := by decide +kernel
theorem d_LW_law_344 : decode b_LW_law 344 = .ok (.iload 7, 2) := by decide +kernel
theorem d_LW_law_346 : decode b_LW_law 346 = .ok (.i2l, 1) := by decide +kernel
theorem d_LW_law_347 : decode b_LW_law 347 = .ok (.lcmp, 1) := by decide +kernel
theorem d_LW_law_348 : decode b_LW_law 348 = .ok (.ifCond .eq 5, 3) := by decide +kernel
theorem d_LW_law_351 : decode b_LW_law 351 = .ok (.iconst 0, 1) := by decide +kernel
theorem d_LW_law_352 : decode b_LW_law 352 = .ok (.ireturn, 1) := by decide +kernel
theorem d_LW_law_353 : decode b_LW_law 353 = .ok (.goto 482, 3) := by decide +kernel
theorem d_LW_law_356 : decode b_LW_law 356 = .ok (.aload_n 1, 1) := by decide +kernel
theorem d_LW_law_357 : decode b_LW_law 357 = .ok (.aload_n 0, 1) := by decide +kernel
theorem d_LW_law_358 : decode b_LW_law 358 = .ok (.iload 5, 2) := by decide +kernel
theorem d_LW_law_360 : decode b_LW_law 360 = .ok (.iconst 1, 1) := by decide +kernel
theorem d_LW_law_361 : decode b_LW_law 361 = .ok (.iadd, 1) := by decide +kernel
theorem d_LW_law_362 : decode b_LW_law 362 = .ok (.iaload, 1) := by decide +kernel
theorem d_LW_law_363 : decode b_LW_law 363 = .ok (.aload_n 0, 1) := by decide +kernel
theorem d_LW_law_364 : decode b_LW_law 364 = .ok (.iload 5, 2) := by decide +kernel
theorem d_LW_law_366 : decode b_LW_law 366 = .ok (.iconst 2, 1) := by decide +kernel
theorem d_LW_law_367 : decode b_LW_law 367 = .ok (.iadd, 1) := by decide +kernel
theorem d_LW_law_368 : decode b_LW_law 368 = .ok (.iaload, 1) := by decide +kernel
theorem d_LW_law_369 : decode b_LW_law 369 = .ok (.i2d, 1) := by decide +kernel
theorem d_LW_law_370 : decode b_LW_law 370 = .ok (.ldc2_w 76, 3) := by decide +kernel
theorem d_LW_law_373 : decode b_LW_law 373 = .ok (.dmul, 1) := by decide +kernel
theorem d_LW_law_374 : decode b_LW_law 374 = .ok (.aload 4, 2) := by decide +kernel
theorem d_LW_law_376 : decode b_LW_law 376 = .ok (.invokestatic 78, 3) := by decide +kernel
theorem d_LW_law_379 : decode b_LW_law 379 = .ok (.istore 6, 2) := by decide +kernel
theorem d_LW_law_381 : decode b_LW_law 381 = .ok (.aload_n 2, 1) := by decide +kernel
theorem d_LW_law_382 : decode b_LW_law 382 = .ok (.aload_n 0, 1) := by decide +kernel
theorem d_LW_law_383 : decode b_LW_law 383 = .ok (.iload 5, 2) := by decide +kernel
theorem d_LW_law_385 : decode b_LW_law 385 = .ok (.iconst 1, 1) := by decide +kernel
theorem d_LW_law_386 : decode b_LW_law 386 = .ok (.iadd, 1) := by decide +kernel
theorem d_LW_law_387 : decode b_LW_law 387 = .ok (.iaload, 1) := by decide +kernel
theorem d_LW_law_388 : decode b_LW_law 388 = .ok (.aload_n 0, 1) := by decide +kernel
theorem d_LW_law_389 : decode b_LW_law 389 = .ok (.iload 5, 2) := by decide +kernel
theorem d_LW_law_391 : decode b_LW_law 391 = .ok (.iconst 2, 1) := by decide +kernel
theorem d_LW_law_392 : decode b_LW_law 392 = .ok (.iadd, 1) := by decide +kernel
theorem d_LW_law_393 : decode b_LW_law 393 = .ok (.iaload, 1) := by decide +kernel
theorem d_LW_law_394 : decode b_LW_law 394 = .ok (.i2d, 1) := by decide +kernel
theorem d_LW_law_395 : decode b_LW_law 395 = .ok (.ldc2_w 76, 3) := by decide +kernel
theorem d_LW_law_398 : decode b_LW_law 398 = .ok (.dmul, 1) := by decide +kernel
theorem d_LW_law_399 : decode b_LW_law 399 = .ok (.invokevirtual 81, 3) := by decide +kernel
theorem d_LW_law_402 : decode b_LW_law 402 = .ok (.dstore 7, 2) := by decide +kernel
theorem d_LW_law_404 : decode b_LW_law 404 = .ok (.aload_n 2, 1) := by decide +kernel
theorem d_LW_law_405 : decode b_LW_law 405 = .ok (.invokevirtual 65, 3) := by decide +kernel
theorem d_LW_law_408 : decode b_LW_law 408 = .ok (.iload 6, 2) := by decide +kernel
theorem d_LW_law_410 : decode b_LW_law 410 = .ok (.if_icmp .eq 5, 3) := by decide +kernel
theorem d_LW_law_413 : decode b_LW_law 413 = .ok (.iconst 0, 1) := by decide +kernel
theorem d_LW_law_414 : decode b_LW_law 414 = .ok (.ireturn, 1) := by decide +kernel
theorem d_LW_law_415 : decode b_LW_law 415 = .ok (.iload 6, 2) := by decide +kernel
theorem d_LW_law_417 : decode b_LW_law 417 = .ok (.ifCond .ne 35, 3) := by decide +kernel
theorem d_LW_law_420 : decode b_LW_law 420 = .ok (.aload 4, 2) := by decide +kernel
theorem d_LW_law_422 : decode b_LW_law 422 = .ok (.iconst 0, 1) := by decide +kernel
theorem d_LW_law_423 : decode b_LW_law 423 = .ok (.daload, 1) := by decide +kernel
theorem d_LW_law_424 : decode b_LW_law 424 = .ok (.dload 7, 2) := by decide +kernel
theorem d_LW_law_426 : decode b_LW_law 426 = .ok (.dcmp .l, 1) := by decide +kernel
theorem d_LW_law_427 : decode b_LW_law 427 = .ok (.ifCond .eq 25, 3) := by decide +kernel
theorem d_LW_law_430 : decode b_LW_law 430 = .ok (.aload 4, 2) := by decide +kernel
theorem d_LW_law_432 : decode b_LW_law 432 = .ok (.iconst 0, 1) := by decide +kernel
theorem d_LW_law_433 : decode b_LW_law 433 = .ok (.daload, 1) := by decide +kernel
theorem d_LW_law_434 : decode b_LW_law 434 = .ok (.aload 4, 2) := by decide +kernel
theorem d_LW_law_436 : decode b_LW_law 436 = .ok (.iconst 0, 1) := by decide +kernel
theorem d_LW_law_437 : decode b_LW_law 437 = .ok (.daload, 1) := by decide +kernel
theorem d_LW_law_438 : decode b_LW_law 438 = .ok (.dcmp .l, 1) := by decide +kernel
theorem d_LW_law_439 : decode b_LW_law 439 = .ok (.ifCond .eq 11, 3) := by decide +kernel
theorem d_LW_law_442 : decode b_LW_law 442 = .ok (.dload 7, 2) := by decide +kernel
theorem d_LW_law_444 : decode b_LW_law 444 = .ok (.dload 7, 2) := by decide +kernel
theorem d_LW_law_446 : decode b_LW_law 446 = .ok (.dcmp .l, 1) := by decide +kernel
theorem d_LW_law_447 : decode b_LW_law 447 = .ok (.ifCond .ne 5, 3) := by decide +kernel
theorem d_LW_law_450 : decode b_LW_law 450 = .ok (.iconst 0, 1) := by decide +kernel
theorem d_LW_law_451 : decode b_LW_law 451 = .ok (.ireturn, 1) := by decide +kernel
theorem d_LW_law_452 : decode b_LW_law 452 = .ok (.goto 383, 3) := by decide +kernel
theorem d_LW_law_455 : decode b_LW_law 455 = .ok (.aload_n 1, 1) := by decide +kernel
theorem d_LW_law_456 : decode b_LW_law 456 = .ok (.aload_n 0, 1) := by decide +kernel
theorem d_LW_law_457 : decode b_LW_law 457 = .ok (.iload 5, 2) := by decide +kernel
theorem d_LW_law_459 : decode b_LW_law 459 = .ok (.iconst 1, 1) := by decide +kernel
theorem d_LW_law_460 : decode b_LW_law 460 = .ok (.iadd, 1) := by decide +kernel
theorem d_LW_law_461 : decode b_LW_law 461 = .ok (.iaload, 1) := by decide +kernel
theorem d_LW_law_462 : decode b_LW_law 462 = .ok (.aload 4, 2) := by decide +kernel
theorem d_LW_law_464 : decode b_LW_law 464 = .ok (.invokestatic 82, 3) := by decide +kernel
theorem d_LW_law_467 : decode b_LW_law 467 = .ok (.istore 6, 2) := by decide +kernel
theorem d_LW_law_469 : decode b_LW_law 469 = .ok (.aload_n 2, 1) := by decide +kernel
theorem d_LW_law_470 : decode b_LW_law 470 = .ok (.aload_n 0, 1) := by decide +kernel
theorem d_LW_law_471 : decode b_LW_law 471 = .ok (.iload 5, 2) := by decide +kernel
theorem d_LW_law_473 : decode b_LW_law 473 = .ok (.iconst 1, 1) := by decide +kernel
theorem d_LW_law_474 : decode b_LW_law 474 = .ok (.iadd, 1) := by decide +kernel
theorem d_LW_law_475 : decode b_LW_law 475 = .ok (.iaload, 1) := by decide +kernel
theorem d_LW_law_476 : decode b_LW_law 476 = .ok (.invokevirtual 85, 3) := by decide +kernel
theorem d_LW_law_479 : decode b_LW_law 479 = .ok (.dstore 7, 2) := by decide +kernel
theorem d_LW_law_481 : decode b_LW_law 481 = .ok (.aload_n 2, 1) := by decide +kernel
theorem d_LW_law_482 : decode b_LW_law 482 = .ok (.invokevirtual 65, 3) := by decide +kernel
theorem d_LW_law_485 : decode b_LW_law 485 = .ok (.iload 6, 2) := by decide +kernel
theorem d_LW_law_487 : decode b_LW_law 487 = .ok (.if_icmp .eq 5, 3) := by decide +kernel
theorem d_LW_law_490 : decode b_LW_law 490 = .ok (.iconst 0, 1) := by decide +kernel
theorem d_LW_law_491 : decode b_LW_law 491 = .ok (.ireturn, 1) := by decide +kernel
theorem d_LW_law_492 : decode b_LW_law 492 = .ok (.iload 6, 2) := by decide +kernel
theorem d_LW_law_494 : decode b_LW_law 494 = .ok (.ifCond .ne 35, 3) := by decide +kernel
theorem d_LW_law_497 : decode b_LW_law 497 = .ok (.aload 4, 2) := by decide +kernel
theorem d_LW_law_499 : decode b_LW_law 499 = .ok (.iconst 0, 1) := by decide +kernel
theorem d_LW_law_500 : decode b_LW_law 500 = .ok (.daload, 1) := by decide +kernel
theorem d_LW_law_501 : decode b_LW_law 501 = .ok (.dload 7, 2) := by decide +kernel
theorem d_LW_law_503 : decode b_LW_law 503 = .ok (.dcmp .l, 1) := by decide +kernel
theorem d_LW_law_504 : decode b_LW_law 504 = .ok (.ifCond .eq 25, 3) := by decide +kernel
theorem d_LW_law_507 : decode b_LW_law 507 = .ok (.aload 4, 2) := by decide +kernel
theorem d_LW_law_509 : decode b_LW_law 509 = .ok (.iconst 0, 1) := by decide +kernel
theorem d_LW_law_510 : decode b_LW_law 510 = .ok (.daload, 1) := by decide +kernel
theorem d_LW_law_511 : decode b_LW_law 511 = .ok (.aload 4, 2) := by decide +kernel
theorem d_LW_law_513 : decode b_LW_law 513 = .ok (.iconst 0, 1) := by decide +kernel
theorem d_LW_law_514 : decode b_LW_law 514 = .ok (.daload, 1) := by decide +kernel
theorem d_LW_law_515 : decode b_LW_law 515 = .ok (.dcmp .l, 1) := by decide +kernel
theorem d_LW_law_516 : decode b_LW_law 516 = .ok (.ifCond .eq 11, 3) := by decide +kernel
theorem d_LW_law_519 : decode b_LW_law 519 = .ok (.dload 7, 2) := by decide +kernel
theorem d_LW_law_521 : decode b_LW_law 521 = .ok (.dload 7, 2) := by decide +kernel
theorem d_LW_law_523 : decode b_LW_law 523 = .ok (.dcmp .l, 1) := by decide +kernel
theorem d_LW_law_524 : decode b_LW_law 524 = .ok (.ifCond .ne 5, 3) := by decide +kernel
theorem d_LW_law_527 : decode b_LW_law 527 = .ok (.iconst 0, 1) := by decide +kernel
theorem d_LW_law_528 : decode b_LW_law 528 = .ok (.ireturn, 1) := by decide +kernel
theorem d_LW_law_529 : decode b_LW_law 529 = .ok (.goto 306, 3) := by decide +kernel
theorem d_LW_law_532 : decode b_LW_law 532 = .ok (.aload_n 1, 1) := by decide +kernel
theorem d_LW_law_533 : decode b_LW_law 533 = .ok (.aload_n 0, 1) := by decide +kernel
theorem d_LW_law_534 : decode b_LW_law 534 = .ok (.iload 5, 2) := by decide +kernel
theorem d_LW_law_536 : decode b_LW_law 536 = .ok (.iconst 1, 1) := by decide +kernel
theorem d_LW_law_537 : decode b_LW_law 537 = .ok (.iadd, 1) := by decide +kernel
theorem d_LW_law_538 : decode b_LW_law 538 = .ok (.iaload, 1) := by decide +kernel
theorem d_LW_law_539 : decode b_LW_law 539 = .ok (.aload 4, 2) := by decide +kernel
theorem d_LW_law_541 : decode b_LW_law 541 = .ok (.invokestatic 86, 3) := by decide +kernel
theorem d_LW_law_544 : decode b_LW_law 544 = .ok (.istore 6, 2) := by decide +kernel
theorem d_LW_law_546 : decode b_LW_law 546 = .ok (.aload_n 2, 1) := by decide +kernel
theorem d_LW_law_547 : decode b_LW_law 547 = .ok (.aload_n 0, 1) := by decide +kernel
theorem d_LW_law_548 : decode b_LW_law 548 = .ok (.iload 5, 2) := by decide +kernel
theorem d_LW_law_550 : decode b_LW_law 550 = .ok (.iconst 1, 1) := by decide +kernel
theorem d_LW_law_551 : decode b_LW_law 551 = .ok (.iadd, 1) := by decide +kernel
theorem d_LW_law_552 : decode b_LW_law 552 = .ok (.iaload, 1) := by decide +kernel
theorem d_LW_law_553 : decode b_LW_law 553 = .ok (.invokevirtual 88, 3) := by decide +kernel
theorem d_LW_law_556 : decode b_LW_law 556 = .ok (.dstore 7, 2) := by decide +kernel
theorem d_LW_law_558 : decode b_LW_law 558 = .ok (.aload_n 2, 1) := by decide +kernel
theorem d_LW_law_559 : decode b_LW_law 559 = .ok (.invokevirtual 65, 3) := by decide +kernel
theorem d_LW_law_562 : decode b_LW_law 562 = .ok (.iload 6, 2) := by decide +kernel
theorem d_LW_law_564 : decode b_LW_law 564 = .ok (.if_icmp .eq 5, 3) := by decide +kernel
theorem d_LW_law_567 : decode b_LW_law 567 = .ok (.iconst 0, 1) := by decide +kernel
theorem d_LW_law_568 : decode b_LW_law 568 = .ok (.ireturn, 1) := by decide +kernel
theorem d_LW_law_569 : decode b_LW_law 569 = .ok (.iload 6, 2) := by decide +kernel
theorem d_LW_law_571 : decode b_LW_law 571 = .ok (.ifCond .ne 35, 3) := by decide +kernel
theorem d_LW_law_574 : decode b_LW_law 574 = .ok (.aload 4, 2) := by decide +kernel
theorem d_LW_law_576 : decode b_LW_law 576 = .ok (.iconst 0, 1) := by decide +kernel
theorem d_LW_law_577 : decode b_LW_law 577 = .ok (.daload, 1) := by decide +kernel
theorem d_LW_law_578 : decode b_LW_law 578 = .ok (.dload 7, 2) := by decide +kernel
theorem d_LW_law_580 : decode b_LW_law 580 = .ok (.dcmp .l, 1) := by decide +kernel
theorem d_LW_law_581 : decode b_LW_law 581 = .ok (.ifCond .eq 25, 3) := by decide +kernel
theorem d_LW_law_584 : decode b_LW_law 584 = .ok (.aload 4, 2) := by decide +kernel
theorem d_LW_law_586 : decode b_LW_law 586 = .ok (.iconst 0, 1) := by decide +kernel
theorem d_LW_law_587 : decode b_LW_law 587 = .ok (.daload, 1) := by decide +kernel
theorem d_LW_law_588 : decode b_LW_law 588 = .ok (.aload 4, 2) := by decide +kernel
theorem d_LW_law_590 : decode b_LW_law 590 = .ok (.iconst 0, 1) := by decide +kernel
theorem d_LW_law_591 : decode b_LW_law 591 = .ok (.daload, 1) := by decide +kernel
theorem d_LW_law_592 : decode b_LW_law 592 = .ok (.dcmp .l, 1) := by decide +kernel
theorem d_LW_law_593 : decode b_LW_law 593 = .ok (.ifCond .eq 11, 3) := by decide +kernel
theorem d_LW_law_596 : decode b_LW_law 596 = .ok (.dload 7, 2) := by decide +kernel
theorem d_LW_law_598 : decode b_LW_law 598 = .ok (.dload 7, 2) := by decide +kernel
theorem d_LW_law_600 : decode b_LW_law 600 = .ok (.dcmp .l, 1) := by decide +kernel
theorem d_LW_law_601 : decode b_LW_law 601 = .ok (.ifCond .ne 5, 3) := by decide +kernel
theorem d_LW_law_604 : decode b_LW_law 604 = .ok (.iconst 0, 1) := by decide +kernel
theorem d_LW_law_605 : decode b_LW_law 605 = .ok (.ireturn, 1) := by decide +kernel
theorem d_LW_law_606 : decode b_LW_law 606 = .ok (.goto 229, 3) := by decide +kernel
theorem d_LW_law_609 : decode b_LW_law 609 = .ok (.aload_n 1, 1) := by decide +kernel
theorem d_LW_law_610 : decode b_LW_law 610 = .ok (.aload_n 0, 1) := by decide +kernel
theorem d_LW_law_611 : decode b_LW_law 611 = .ok (.iload 5, 2) := by decide +kernel
theorem d_LW_law_613 : decode b_LW_law 613 = .ok (.iconst 1, 1) := by decide +kernel
theorem d_LW_law_614 : decode b_LW_law 614 = .ok (.iadd, 1) := by decide +kernel
theorem d_LW_law_615 : decode b_LW_law 615 = .ok (.iaload, 1) := by decide +kernel
theorem d_LW_law_616 : decode b_LW_law 616 = .ok (.aload_n 0, 1) := by decide +kernel
theorem d_LW_law_617 : decode b_LW_law 617 = .ok (.iload 5, 2) := by decide +kernel
theorem d_LW_law_619 : decode b_LW_law 619 = .ok (.iconst 2, 1) := by decide +kernel
theorem d_LW_law_620 : decode b_LW_law 620 = .ok (.iadd, 1) := by decide +kernel
theorem d_LW_law_621 : decode b_LW_law 621 = .ok (.iaload, 1) := by decide +kernel
theorem d_LW_law_622 : decode b_LW_law 622 = .ok (.aload 4, 2) := by decide +kernel
theorem d_LW_law_624 : decode b_LW_law 624 = .ok (.invokestatic 89, 3) := by decide +kernel
theorem d_LW_law_627 : decode b_LW_law 627 = .ok (.istore 6, 2) := by decide +kernel
theorem d_LW_law_629 : decode b_LW_law 629 = .ok (.aload_n 2, 1) := by decide +kernel
theorem d_LW_law_630 : decode b_LW_law 630 = .ok (.aload_n 0, 1) := by decide +kernel
theorem d_LW_law_631 : decode b_LW_law 631 = .ok (.iload 5, 2) := by decide +kernel
theorem d_LW_law_633 : decode b_LW_law 633 = .ok (.iconst 1, 1) := by decide +kernel
theorem d_LW_law_634 : decode b_LW_law 634 = .ok (.iadd, 1) := by decide +kernel
theorem d_LW_law_635 : decode b_LW_law 635 = .ok (.iaload, 1) := by decide +kernel
theorem d_LW_law_636 : decode b_LW_law 636 = .ok (.aload_n 0, 1) := by decide +kernel
theorem d_LW_law_637 : decode b_LW_law 637 = .ok (.iload 5, 2) := by decide +kernel
theorem d_LW_law_639 : decode b_LW_law 639 = .ok (.iconst 2, 1) := by decide +kernel
theorem d_LW_law_640 : decode b_LW_law 640 = .ok (.iadd, 1) := by decide +kernel
theorem d_LW_law_641 : decode b_LW_law 641 = .ok (.iaload, 1) := by decide +kernel
theorem d_LW_law_642 : decode b_LW_law 642 = .ok (.invokevirtual 92, 3) := by decide +kernel
theorem d_LW_law_645 : decode b_LW_law 645 = .ok (.dstore 7, 2) := by decide +kernel
theorem d_LW_law_647 : decode b_LW_law 647 = .ok (.aload_n 2, 1) := by decide +kernel
theorem d_LW_law_648 : decode b_LW_law 648 = .ok (.invokevirtual 65, 3) := by decide +kernel
theorem d_LW_law_651 : decode b_LW_law 651 = .ok (.iload 6, 2) := by decide +kernel
theorem d_LW_law_653 : decode b_LW_law 653 = .ok (.if_icmp .eq 5, 3) := by decide +kernel
theorem d_LW_law_656 : decode b_LW_law 656 = .ok (.iconst 0, 1) := by decide +kernel
theorem d_LW_law_657 : decode b_LW_law 657 = .ok (.ireturn, 1) := by decide +kernel
theorem d_LW_law_658 : decode b_LW_law 658 = .ok (.iload 6, 2) := by decide +kernel
theorem d_LW_law_660 : decode b_LW_law 660 = .ok (.ifCond .ne 35, 3) := by decide +kernel
theorem d_LW_law_663 : decode b_LW_law 663 = .ok (.aload 4, 2) := by decide +kernel
theorem d_LW_law_665 : decode b_LW_law 665 = .ok (.iconst 0, 1) := by decide +kernel
theorem d_LW_law_666 : decode b_LW_law 666 = .ok (.daload, 1) := by decide +kernel
theorem d_LW_law_667 : decode b_LW_law 667 = .ok (.dload 7, 2) := by decide +kernel
theorem d_LW_law_669 : decode b_LW_law 669 = .ok (.dcmp .l, 1) := by decide +kernel
theorem d_LW_law_670 : decode b_LW_law 670 = .ok (.ifCond .eq 25, 3) := by decide +kernel
theorem d_LW_law_673 : decode b_LW_law 673 = .ok (.aload 4, 2) := by decide +kernel
theorem d_LW_law_675 : decode b_LW_law 675 = .ok (.iconst 0, 1) := by decide +kernel
theorem d_LW_law_676 : decode b_LW_law 676 = .ok (.daload, 1) := by decide +kernel
theorem d_LW_law_677 : decode b_LW_law 677 = .ok (.aload 4, 2) := by decide +kernel
theorem d_LW_law_679 : decode b_LW_law 679 = .ok (.iconst 0, 1) := by decide +kernel
theorem d_LW_law_680 : decode b_LW_law 680 = .ok (.daload, 1) := by decide +kernel
theorem d_LW_law_681 : decode b_LW_law 681 = .ok (.dcmp .l, 1) := by decide +kernel
theorem d_LW_law_682 : decode b_LW_law 682 = .ok (.ifCond .eq 11, 3) := by decide +kernel
theorem d_LW_law_685 : decode b_LW_law 685 = .ok (.dload 7, 2) := by decide +kernel
theorem d_LW_law_687 : decode b_LW_law 687 = .ok (.dload 7, 2) := by decide +kernel
theorem d_LW_law_689 : decode b_LW_law 689 = .ok (.dcmp .l, 1) := by decide +kernel
theorem d_LW_law_690 : decode b_LW_law 690 = .ok (.ifCond .ne 5, 3) := by decide +kernel
theorem d_LW_law_693 : decode b_LW_law 693 = .ok (.iconst 0, 1) := by decide +kernel
theorem d_LW_law_694 : decode b_LW_law 694 = .ok (.ireturn, 1) := by decide +kernel
theorem d_LW_law_695 : decode b_LW_law 695 = .ok (.goto 140, 3) := by decide +kernel
theorem d_LW_law_698 : decode b_LW_law 698 = .ok (.aload_n 1, 1) := by decide +kernel
theorem d_LW_law_699 : decode b_LW_law 699 = .ok (.aload_n 0, 1) := by decide +kernel
theorem d_LW_law_700 : decode b_LW_law 700 = .ok (.iload 5, 2) := by decide +kernel
theorem d_LW_law_702 : decode b_LW_law 702 = .ok (.iconst 1, 1) := by decide +kernel
theorem d_LW_law_703 : decode b_LW_law 703 = .ok (.iadd, 1) := by decide +kernel
theorem d_LW_law_704 : decode b_LW_law 704 = .ok (.iaload, 1) := by decide +kernel
theorem d_LW_law_705 : decode b_LW_law 705 = .ok (.aload_n 0, 1) := by decide +kernel
theorem d_LW_law_706 : decode b_LW_law 706 = .ok (.iload 5, 2) := by decide +kernel
theorem d_LW_law_708 : decode b_LW_law 708 = .ok (.iconst 2, 1) := by decide +kernel
theorem d_LW_law_709 : decode b_LW_law 709 = .ok (.iadd, 1) := by decide +kernel
theorem d_LW_law_710 : decode b_LW_law 710 = .ok (.iaload, 1) := by decide +kernel
theorem d_LW_law_711 : decode b_LW_law 711 = .ok (.aload_n 3, 1) := by decide +kernel
theorem d_LW_law_712 : decode b_LW_law 712 = .ok (.invokestatic 93, 3) := by decide +kernel
theorem d_LW_law_715 : decode b_LW_law 715 = .ok (.istore 6, 2) := by decide +kernel
theorem d_LW_law_717 : decode b_LW_law 717 = .ok (.aload_n 2, 1) := by decide +kernel
theorem d_LW_law_718 : decode b_LW_law 718 = .ok (.aload_n 0, 1) := by decide +kernel
theorem d_LW_law_719 : decode b_LW_law 719 = .ok (.iload 5, 2) := by decide +kernel
theorem d_LW_law_721 : decode b_LW_law 721 = .ok (.iconst 1, 1) := by decide +kernel
theorem d_LW_law_722 : decode b_LW_law 722 = .ok (.iadd, 1) := by decide +kernel
theorem d_LW_law_723 : decode b_LW_law 723 = .ok (.iaload, 1) := by decide +kernel
theorem d_LW_law_724 : decode b_LW_law 724 = .ok (.aload_n 0, 1) := by decide +kernel
theorem d_LW_law_725 : decode b_LW_law 725 = .ok (.iload 5, 2) := by decide +kernel
theorem d_LW_law_727 : decode b_LW_law 727 = .ok (.iconst 2, 1) := by decide +kernel
theorem d_LW_law_728 : decode b_LW_law 728 = .ok (.iadd, 1) := by decide +kernel
theorem d_LW_law_729 : decode b_LW_law 729 = .ok (.iaload, 1) := by decide +kernel
theorem d_LW_law_730 : decode b_LW_law 730 = .ok (.invokevirtual 96, 3) := by decide +kernel
theorem d_LW_law_733 : decode b_LW_law 733 = .ok (.istore 7, 2) := by decide +kernel
theorem d_LW_law_735 : decode b_LW_law 735 = .ok (.aload_n 2, 1) := by decide +kernel
theorem d_LW_law_736 : decode b_LW_law 736 = .ok (.invokevirtual 65, 3) := by decide +kernel
theorem d_LW_law_739 : decode b_LW_law 739 = .ok (.iload 6, 2) := by decide +kernel
theorem d_LW_law_741 : decode b_LW_law 741 = .ok (.if_icmp .eq 5, 3) := by decide +kernel
theorem d_LW_law_744 : decode b_LW_law 744 = .ok (.iconst 0, 1) := by decide +kernel
theorem d_LW_law_745 : decode b_LW_law 745 = .ok (.ireturn, 1) := by decide +kernel
theorem d_LW_law_746 : decode b_LW_law 746 = .ok (.iload 6, 2) := by decide +kernel
theorem d_LW_law_748 : decode b_LW_law 748 = .ok (.ifCond .ne 15, 3) := by decide +kernel
theorem d_LW_law_751 : decode b_LW_law 751 = .ok (.aload_n 3, 1) := by decide +kernel
theorem d_LW_law_752 : decode b_LW_law 752 = .ok (.iconst 0, 1) := by decide +kernel
theorem d_LW_law_753 : decode b_LW_law 753 = .ok (.laload, 1) := by decide +kernel
theorem d_LW_law_754 : decode b_LW_law 754 = .ok (.iload 7, 2) := by decide +kernel
theorem d_LW_law_756 : decode b_LW_law 756 = .ok (.i2l, 1) := by decide +kernel
theorem d_LW_law_757 : decode b_LW_law 757 = .ok (.lcmp, 1) := by decide +kernel
end
section
theorem d_LW_law_758 : decode b_LW_law 758 = .ok (.ifCond .eq 5, 3) := by decide +kernel
theorem d_LW_law_761 : decode b_LW_law 761 = .ok (.iconst 0, 1) := by decide +kernel
theorem d_LW_law_762 : decode b_LW_law 762 = .ok (.ireturn, 1) := by decide +kernel
theorem d_LW_law_763 : decode b_LW_law 763 = .ok (.goto 72, 3) := by decide +kernel
theorem d_LW_law_766 : decode b_LW_law 766 = .ok (.aload_n 1, 1) := by decide +kernel
theorem d_LW_law_767 : decode b_LW_law 767 = .ok (.invokevirtual 97, 3) := by decide +kernel
theorem d_LW_law_770 : decode b_LW_law 770 = .ok (.aload_n 2, 1) := by decide +kernel
theorem d_LW_law_771 : decode b_LW_law 771 = .ok (.invokevirtual 100, 3) := by decide +kernel
theorem d_LW_law_774 : decode b_LW_law 774 = .ok (.if_icmp .eq 61, 3) := by decide +kernel
theorem d_LW_law_777 : decode b_LW_law 777 = .ok (.iconst 0, 1) := by decide +kernel
theorem d_LW_law_778 : decode b_LW_law 778 = .ok (.ireturn, 1) := by decide +kernel
theorem d_LW_law_779 : decode b_LW_law 779 = .ok (.aload_n 1, 1) := by decide +kernel
theorem d_LW_law_780 : decode b_LW_law 780 = .ok (.aload_n 0, 1) := by decide +kernel
theorem d_LW_law_781 : decode b_LW_law 781 = .ok (.iload 5, 2) := by decide +kernel
theorem d_LW_law_783 : decode b_LW_law 783 = .ok (.iconst 1, 1) := by decide +kernel
theorem d_LW_law_784 : decode b_LW_law 784 = .ok (.iadd, 1) := by decide +kernel
theorem d_LW_law_785 : decode b_LW_law 785 = .ok (.iaload, 1) := by decide +kernel
theorem d_LW_law_786 : decode b_LW_law 786 = .ok (.aload_n 3, 1) := by decide +kernel
theorem d_LW_law_787 : decode b_LW_law 787 = .ok (.invokestatic 101, 3) := by decide +kernel
theorem d_LW_law_790 : decode b_LW_law 790 = .ok (.istore 6, 2) := by decide +kernel
theorem d_LW_law_792 : decode b_LW_law 792 = .ok (.aload_n 2, 1) := by decide +kernel
theorem d_LW_law_793 : decode b_LW_law 793 = .ok (.aload_n 0, 1) := by decide +kernel
theorem d_LW_law_794 : decode b_LW_law 794 = .ok (.iload 5, 2) := by decide +kernel
theorem d_LW_law_796 : decode b_LW_law 796 = .ok (.iconst 1, 1) := by decide +kernel
theorem d_LW_law_797 : decode b_LW_law 797 = .ok (.iadd, 1) := by decide +kernel
theorem d_LW_law_798 : decode b_LW_law 798 = .ok (.iaload, 1) := by decide +kernel
theorem d_LW_law_799 : decode b_LW_law 799 = .ok (.invokevirtual 104, 3) := by decide +kernel
theorem d_LW_law_802 : decode b_LW_law 802 = .ok (.istore 7, 2) := by decide +kernel
theorem d_LW_law_804 : decode b_LW_law 804 = .ok (.aload_n 2, 1) := by decide +kernel
theorem d_LW_law_805 : decode b_LW_law 805 = .ok (.invokevirtual 65, 3) := by decide +kernel
theorem d_LW_law_808 : decode b_LW_law 808 = .ok (.iload 6, 2) := by decide +kernel
theorem d_LW_law_810 : decode b_LW_law 810 = .ok (.if_icmp .eq 5, 3) := by decide +kernel
theorem d_LW_law_813 : decode b_LW_law 813 = .ok (.iconst 0, 1) := by decide +kernel
theorem d_LW_law_814 : decode b_LW_law 814 = .ok (.ireturn, 1) := by decide +kernel
theorem d_LW_law_815 : decode b_LW_law 815 = .ok (.iload 6, 2) := by decide +kernel
theorem d_LW_law_817 : decode b_LW_law 817 = .ok (.ifCond .ne 15, 3) := by decide +kernel
theorem d_LW_law_820 : decode b_LW_law 820 = .ok (.aload_n 3, 1) := by decide +kernel
theorem d_LW_law_821 : decode b_LW_law 821 = .ok (.iconst 0, 1) := by decide +kernel
theorem d_LW_law_822 : decode b_LW_law 822 = .ok (.laload, 1) := by decide +kernel
theorem d_LW_law_823 : decode b_LW_law 823 = .ok (.iload 7, 2) := by decide +kernel
theorem d_LW_law_825 : decode b_LW_law 825 = .ok (.i2l, 1) := by decide +kernel
theorem d_LW_law_826 : decode b_LW_law 826 = .ok (.lcmp, 1) := by decide +kernel
theorem d_LW_law_827 : decode b_LW_law 827 = .ok (.ifCond .eq 5, 3) := by decide +kernel
theorem d_LW_law_830 : decode b_LW_law 830 = .ok (.iconst 0, 1) := by decide +kernel
theorem d_LW_law_831 : decode b_LW_law 831 = .ok (.ireturn, 1) := by decide +kernel
theorem d_LW_law_832 : decode b_LW_law 832 = .ok (.goto 3, 3) := by decide +kernel
theorem d_LW_law_835 : decode b_LW_law 835 = .ok (.iinc 5 5, 3) := by decide +kernel
theorem d_LW_law_838 : decode b_LW_law 838 = .ok (.goto (-810), 3) := by decide +kernel
theorem d_LW_law_841 : decode b_LW_law 841 = .ok (.iconst 1, 1) := by decide +kernel
theorem d_LW_law_842 : decode b_LW_law 842 = .ok (.ireturn, 1) := by decide +kernel
end
section
/-! A world by numbers: cell k lies at ad k and holds ct k, for k below n -/
def wd (ad : Nat → Nat) (ct : Nat → va_E) (n : Nat) : va_W := (List.range n).map (fun k => (ad k, ct k))
/-- the addresses are apart -/
def aI (ad : Nat → Nat) (n : Nat) : Prop := ∀ i j : Nat, i < n → j < n → ad i = ad j → i = j
/-- the world's own addresses -/
def aK (ad : Nat → Nat) (n : Nat) : Nat → Prop := fun q => ∃ k : Nat, k < n ∧ q = ad k
theorem wd_at {ad : Nat → Nat} {ct : Nat → va_E} {n k : Nat} {e : va_E} (hk : k < n) (he : ct k = e) : (wd ad ct n)[k]? = some (ad k, e) := by
  subst he
  unfold wd
  rw [List.getElem?_map, List.getElem?_range hk]
  rfl
theorem wd_len {ad : Nat → Nat} {ct : Nat → va_E} {n : Nat} : (wd ad ct n).length = n := by simp [wd]
theorem wd_lt {ad : Nat → Nat} {ct : Nat → va_E} {n k : Nat} {q : Nat × va_E} (h : (wd ad ct n)[k]? = some q) : k < n := by
  have h1 := (List.getElem?_eq_some_iff.mp h).1
  rwa [wd_len] at h1
theorem wd_inv {ad : Nat → Nat} {ct : Nat → va_E} {n k : Nat} {q : Nat × va_E} (h : (wd ad ct n)[k]? = some q) : k < n ∧ q = (ad k, ct k) := by
  have hk := wd_lt h
  rw [wd_at hk rfl] at h
  exact ⟨hk, (Option.some.inj h).symm⟩
theorem wd_none {ad : Nat → Nat} {ct : Nat → va_E} {n k : Nat} (h : n ≤ k) : (wd ad ct n)[k]? = none := List.getElem?_eq_none (by rw [wd_len]; exact h)
theorem wd_set {ad : Nat → Nat} {ct : Nat → va_E} {n k : Nat} {v : va_E} (hk : k < n) : (wd ad ct n).set k (ad k, v) = wd ad (va_up ct k v) n := by
  apply List.ext_getElem?
  intro i
  rw [List.getElem?_set]
  by_cases hi : i < n
  · rw [wd_at hi rfl, wd_at hi rfl, wd_len]
    by_cases h : k = i
    · subst h
      rw [if_pos rfl, if_pos hk, va_up_self]
    · rw [if_neg h, va_up_ne _ _ (fun z => h z.symm)]
  · rw [wd_none (Nat.le_of_not_lt hi), wd_none (Nat.le_of_not_lt hi), if_neg (fun z => hi (by rw [← z]; exact hk))]
theorem wd_D {ad : Nat → Nat} {ct : Nat → va_E} {n : Nat} (h : aI ad n) : va_D (aK ad n) (wd ad ct n) := by
  refine ⟨fun i j p q hp hq e => ?_, fun k q hq => ?_⟩
  · obtain ⟨h1, rfl⟩ := wd_inv hp
    obtain ⟨h2, rfl⟩ := wd_inv hq
    exact h i j h1 h2 e
  · obtain ⟨h1, rfl⟩ := wd_inv hq
    exact ⟨k, h1, rfl⟩
theorem wd_P {D : va_G} {cl : List vw_C} {ad : Nat → Nat} {ct : Nat → va_E} {n : Nat} {H : Heap} (h : ∀ k : Nat, k < n → va_at D cl (ad k, ct k) H) : va_P D cl (wd ad ct n) H := by
  intro k q hq
  obtain ⟨h1, rfl⟩ := wd_inv hq
  exact h k h1
theorem wd_Pk {D : va_G} {cl : List vw_C} {ad : Nat → Nat} {ct : Nat → va_E} {n : Nat} {H : Heap} (h : va_P D cl (wd ad ct n) H) {k : Nat} (hk : k < n) : va_at D cl (ad k, ct k) H := h k _ (wd_at hk rfl)
/-- a callee that had one cell of the world -/
theorem wd_call {D : va_G} {cl : List vw_C} {ad : Nat → Nat} {ct : Nat → va_E} {n k : Nat} {e : va_E} {H H1 : Heap} (hP : va_P D cl (wd ad ct n) H) (hi : aI ad n) (hk : k < n) (h1 : va_P D cl [(ad k, e)] H1) (hs : ∀ q : Nat, q < H.size → q ≠ ad k → H1[q]? = H[q]?) : va_P D cl (wd ad (va_up ct k e) n) H1 := by
  refine wd_P fun j hj => ?_
  by_cases h : j = k
  · subst h
    rw [va_up_self]
    exact h1 0 _ rfl
  · rw [va_up_ne _ _ h]
    have hj1 := wd_Pk hP hj
    exact hj1.kept (hs _ hj1.lt (fun z => h (hi j k hj hk z)))
theorem vp_lt {i : Int32} {n : Nat} (h : vp_in i n) : i.toNatClampNeg < n := Nat.not_le.mp fun q => h (Or.inr q)
/-- an int that a boolean may be -/
def vp_z (r : Int32) : Prop := narrow .boolean (.int r) = .int r
theorem vp_z0 : vp_z 0 := rfl
theorem vp_z1 : vp_z 1 := rfl
section CW
variable {p : Program} {l : Launch} {e : Env} {R : Room} {s : State} {m : MethodId} {args : Array Value} {below : List Frame} {meth : Method} {c : Code} {H : Heap} {locs : List Loc} {cells slots : Nat} {Q : State → Prop}
variable {cc : ByteArray} {pc : Nat} {ls : Array Slot} {rest : List Value} {D : va_G} {cl : List vw_C} {tys : List (ClassId × FieldType)} {H0 : Heap} {ad : Nat → Nat} {ct : Nat → va_E} {n : Nat}
theorem cw_get (hexec : p.tables.exec = Jvm.exec) (hb : c.code = cc) {own C : String} {T : u_T} {N ci index : Nat} {Ts : List Cond} (hts : ∀ w ∈ Ts, w.before args s = true) (hin : ∀ w ∈ u_ws C T N, w ∈ Ts) (hown : s.vm.findClass own = some m.cls) (hK : va_K D cl tys s) (hP : va_P D cl (wd ad ct n) H) (q0 : Nat) (hq : q0 < n) {fs : List Value} (he : ct q0 = .inr (ci, fs)) (hc : cl[ci]? = some (C, T, N)) (k : Nat) (hk : k < N) (hlink : (Cond.fieldLink own index (T k).1 (T k).2.1 (T k).2.2.1).before args s = true) {v : Value} (hv : fs[k]? = some v) (hdg : decode cc pc = .ok (.getfield index, 3))
    (kk : W p l e R s m args below meth c H locs cells slots Q (F0 m (pc + 3) ls (v :: rest))) : W p l e R s m args below meth c H locs cells slots Q (F0 m pc ls (.ref (ad q0) :: rest)) :=
  va_get hexec hb hts hin hown hK hP q0 (wd_at hq he) hc k hk hlink (fun _ h => h) hv hdg kk
theorem cw_put (hexec : p.tables.exec = Jvm.exec) (hb : c.code = cc) {own C : String} {T : u_T} {N ci index : Nat} {Ts : List Cond} (hts : ∀ w ∈ Ts, w.before args s = true) (hin : ∀ w ∈ u_ws C T N, w ∈ Ts) (ty0 : Nat → FieldType) (hty : ∀ k, k < N → parseFieldDescriptor (T k).2.2.1 = some (ty0 k)) (hnm : ∀ a, a < N → ∀ b, b < N → a ≠ b → (T a).2.1 ≠ (T b).2.1) (hown : s.vm.findClass own = some m.cls) (hK : va_K D cl tys s) (hP : va_P D cl (wd ad ct n) H) (hi : aI ad n) (hS0 : va_S (aK ad n) H0 H locs) (q0 : Nat) (hq : q0 < n) {fs : List Value} (he : ct q0 = .inr (ci, fs)) (hc : cl[ci]? = some (C, T, N)) (k : Nat) (hk : k < N) (hlink : (Cond.fieldLink own index (T k).1 (T k).2.1 (T k).2.2.1).before args s = true) (hfin : (T k).2.2.2 = false) {ty : FieldType} {v : Value} (hd : parseFieldDescriptor (T k).2.2.1 = some ty) (hn : narrow ty v = v) (hfit : fits ty v = true) (hl : k < fs.length) {ct' : Nat → va_E} (hu : va_up ct q0 (.inr (ci, fs.set k v)) = ct')
    (hdg : decode cc pc = .ok (.putfield index, 3)) (kk : ∀ (H1 : Heap) (locs1 : List Loc), va_P D cl (wd ad ct' n) H1 → va_S (aK ad n) H0 H1 locs1 → W p l e R s m args below meth c H1 locs1 cells slots Q (F0 m (pc + 3) ls rest)) : W p l e R s m args below meth c H locs cells slots Q (F0 m pc ls (v :: .ref (ad q0) :: rest)) := by
  refine va_put hexec hb hts hin ty0 hty hnm hown hK hP (wd_D hi) hS0 q0 (wd_at hq he) hc k hk hlink (fun _ h => h) hfin hd hn hfit hl hdg (fun H1 locs1 h1 _ h3 => kk H1 locs1 ?_ h3)
  rw [wd_set hq, hu] at h1
  exact h1
theorem cw_iald (hexec : p.tables.exec = Jvm.exec) (hb : c.code = cc) (hK : va_K D cl tys s) (hP : va_P D cl (wd ad ct n) H) (q0 : Nat) (hq : q0 < n) {cA : ClassId} {N : Nat} {f : Nat → Int32} (he : ct q0 = .inl (cA, N, .inl f)) (t0 : Nat) (ht : tys[t0]? = some (cA, .int)) {i : Int32} (hin : vp_in i N) (hdg : decode cc pc = .ok (.iaload, 1))
    (kk : W p l e R s m args below meth c H locs cells slots Q (F0 m (pc + 1) ls (.int (f i.toNatClampNeg) :: rest))) : W p l e R s m args below meth c H locs cells slots Q (F0 m pc ls (.int i :: .ref (ad q0) :: rest)) :=
  va_iald hexec hb hK hP q0 t0 (wd_at hq he) ht hin hdg kk
theorem cw_dald (hexec : p.tables.exec = Jvm.exec) (hb : c.code = cc) (hK : va_K D cl tys s) (hP : va_P D cl (wd ad ct n) H) (q0 : Nat) (hq : q0 < n) {cA : ClassId} {N : Nat} {f : Nat → UInt64} (he : ct q0 = .inl (cA, N, .inr (.inr (.inr (.inl f))))) (t0 : Nat) (ht : tys[t0]? = some (cA, .double)) {i : Int32} (hin : vp_in i N) (hdg : decode cc pc = .ok (.daload, 1))
    (kk : W p l e R s m args below meth c H locs cells slots Q (F0 m (pc + 1) ls (.double (f i.toNatClampNeg) :: rest))) : W p l e R s m args below meth c H locs cells slots Q (F0 m pc ls (.int i :: .ref (ad q0) :: rest)) :=
  va_dald hexec hb hK hP q0 t0 (wd_at hq he) ht hin hdg kk
theorem cw_aldq (hexec : p.tables.exec = Jvm.exec) (hb : c.code = cc) (hK : va_K D cl tys s) (hP : va_P D cl (wd ad ct n) H) (q0 : Nat) (hq : q0 < n) {cA : ClassId} {N : Nat} {C : String} {f : Nat → Nat} (he : ct q0 = .inl (cA, N, .inr (.inr (.inr (.inr (fun j => some (f j))))))) (t0 : Nat) (ht : tys[t0]? = some (cA, .object C)) {i : Int32} (hin : vp_in i N) (hdg : decode cc pc = .ok (.aaload, 1))
    (kk : W p l e R s m args below meth c H locs cells slots Q (F0 m (pc + 1) ls (.ref (f i.toNatClampNeg) :: rest))) : W p l e R s m args below meth c H locs cells slots Q (F0 m pc ls (.int i :: .ref (ad q0) :: rest)) :=
  va_aldq hexec hb hK hP q0 t0 (wd_at hq he) ht hin hdg kk
theorem cw_iast (hexec : p.tables.exec = Jvm.exec) (hb : c.code = cc) (hK : va_K D cl tys s) (hP : va_P D cl (wd ad ct n) H) (hi : aI ad n) (hS : va_S (aK ad n) H0 H locs) (q0 : Nat) (hq : q0 < n) {cA : ClassId} {N : Nat} {f : Nat → Int32} (he : ct q0 = .inl (cA, N, .inl f)) (t0 : Nat) (ht : tys[t0]? = some (cA, .int)) {i x : Int32} (hin : vp_in i N) {ct' : Nat → va_E} (hu : va_up ct q0 (.inl (cA, N, .inl (upd f i.toNatClampNeg x))) = ct') (hdg : decode cc pc = .ok (.iastore, 1))
    (kk : ∀ (H1 : Heap) (locs1 : List Loc), va_P D cl (wd ad ct' n) H1 → va_S (aK ad n) H0 H1 locs1 → W p l e R s m args below meth c H1 locs1 cells slots Q (F0 m (pc + 1) ls rest)) : W p l e R s m args below meth c H locs cells slots Q (F0 m pc ls (.int x :: .int i :: .ref (ad q0) :: rest)) := by
  refine va_iast hexec hb hK hP (wd_D hi) hS q0 t0 (wd_at hq he) ht hin hdg (fun H1 locs1 h1 _ h3 => kk H1 locs1 ?_ h3)
  rw [wd_set hq, hu] at h1
  exact h1
theorem cw_dast (hexec : p.tables.exec = Jvm.exec) (hb : c.code = cc) (hK : va_K D cl tys s) (hP : va_P D cl (wd ad ct n) H) (hi : aI ad n) (hS : va_S (aK ad n) H0 H locs) (q0 : Nat) (hq : q0 < n) {cA : ClassId} {N : Nat} {f : Nat → UInt64} (he : ct q0 = .inl (cA, N, .inr (.inr (.inr (.inl f))))) (t0 : Nat) (ht : tys[t0]? = some (cA, .double)) {i : Int32} {x : UInt64} (hin : vp_in i N) {ct' : Nat → va_E} (hu : va_up ct q0 (.inl (cA, N, .inr (.inr (.inr (.inl (vf_upd f i.toNatClampNeg x)))))) = ct') (hdg : decode cc pc = .ok (.dastore, 1))
    (kk : ∀ (H1 : Heap) (locs1 : List Loc), va_P D cl (wd ad ct' n) H1 → va_S (aK ad n) H0 H1 locs1 → W p l e R s m args below meth c H1 locs1 cells slots Q (F0 m (pc + 1) ls rest)) : W p l e R s m args below meth c H locs cells slots Q (F0 m pc ls (.double x :: .int i :: .ref (ad q0) :: rest)) := by
  refine va_dast hexec hb hK hP (wd_D hi) hS q0 t0 (wd_at hq he) ht hin hdg (fun H1 locs1 h1 _ h3 => kk H1 locs1 ?_ h3)
  rw [wd_set hq, hu] at h1
  exact h1
theorem cw_alen (hexec : p.tables.exec = Jvm.exec) (hb : c.code = cc) (hK : va_K D cl tys s) (hP : va_P D cl (wd ad ct n) H) (q0 : Nat) (hq : q0 < n) {cA : ClassId} {x : vp_A} (he : ct q0 = .inl (cA, x)) (t0 : Nat) {ty : FieldType} (ht : tys[t0]? = some (cA, ty)) {v : Int32} (hv : Int32.ofNat x.1 = v) (hdg : decode cc pc = .ok (.arraylength, 1))
    (kk : W p l e R s m args below meth c H locs cells slots Q (F0 m (pc + 1) ls (.int v :: rest))) : W p l e R s m args below meth c H locs cells slots Q (F0 m pc ls (.ref (ad q0) :: rest)) :=
  va_alen hexec hb hK hP q0 t0 (wd_at hq he) ht hv hdg kk
/-- a table's default: out of range, or at a place that leads there -/
theorem cw_tabD (hexec : p.tables.exec = Jvm.exec) (hb : c.code = cc) {dflt lo hi : Int} {offs : Array Int} {len : Nat} {x : Int32} {tgt : Nat} (hdg : decode cc pc = .ok (.tableswitch dflt lo hi offs, len)) (ht : (pc : Int) + dflt = (tgt : Int)) (h : x.toInt < lo ∨ hi < x.toInt ∨ offs[(x.toInt - lo).toNat]? = some dflt)
    (k : W p l e R s m args below meth c H locs cells slots Q (F0 m tgt ls rest)) : W p l e R s m args below meth c H locs cells slots Q (F0 m pc ls (.int x :: rest)) := by
  by_cases h1 : x.toInt < lo
  · exact lv_tableOut hexec hb hdg (Or.inl h1) ht k
  · by_cases h2 : hi < x.toInt
    · exact lv_tableOut hexec hb hdg (Or.inr h2) ht k
    · exact lv_tableIn hexec hb hdg h1 h2 ((h.resolve_left h1).resolve_left h2) ht k
end CW
end
section
/-! The class's state: ints, int arrays, double arrays, callers, by number -/
abbrev CS : Type := (Nat → Int32) × (Nat → Nat → Int32) × (Nat → Nat → UInt64) × (Nat → Option Nat) × (Nat → UInt64)
def gI (σ : CS) (k : Nat) : Int32 := σ.1 k
def gA (σ : CS) (k : Nat) : Nat → Int32 := σ.2.1 k
def gD (σ : CS) (k : Nat) : Nat → UInt64 := σ.2.2.1 k
def gC (σ : CS) (k : Nat) : Option Nat := σ.2.2.2.1 k
def gX (σ : CS) (k : Nat) : UInt64 := σ.2.2.2.2 k
def sI (σ : CS) (k : Nat) (v : Int32) : CS := (va_up σ.1 k v, σ.2)
def sA (σ : CS) (k : Nat) (v : Nat → Int32) : CS := (σ.1, va_up σ.2.1 k v, σ.2.2)
def sD (σ : CS) (k : Nat) (v : Nat → UInt64) : CS := (σ.1, σ.2.1, va_up σ.2.2.1 k v, σ.2.2.2)
def sC (σ : CS) (k : Nat) (v : Option Nat) : CS := (σ.1, σ.2.1, σ.2.2.1, va_up σ.2.2.2.1 k v, σ.2.2.2.2)
def sX (σ : CS) (k : Nat) (v : UInt64) : CS := (σ.1, σ.2.1, σ.2.2.1, σ.2.2.2.1, va_up σ.2.2.2.2 k v)
theorem gI_sI {σ : CS} {k : Nat} {v : Int32} : gI (sI σ k v) k = v := va_up_self _ _ _
theorem gI_s {σ : CS} {k j : Nat} {v : Int32} (h : j ≠ k) : gI (sI σ k v) j = gI σ j := va_up_ne _ _ h
theorem gA_sA {σ : CS} {k : Nat} {v : Nat → Int32} : gA (sA σ k v) k = v := va_up_self _ _ _
theorem gA_s {σ : CS} {k j : Nat} {v : Nat → Int32} (h : j ≠ k) : gA (sA σ k v) j = gA σ j := va_up_ne _ _ h
theorem gD_sD {σ : CS} {k : Nat} {v : Nat → UInt64} : gD (sD σ k v) k = v := va_up_self _ _ _
theorem gD_s {σ : CS} {k j : Nat} {v : Nat → UInt64} (h : j ≠ k) : gD (sD σ k v) j = gD σ j := va_up_ne _ _ h
theorem gC_sC {σ : CS} {k : Nat} {v : Option Nat} : gC (sC σ k v) k = v := va_up_self _ _ _
theorem gC_s {σ : CS} {k j : Nat} {v : Option Nat} (h : j ≠ k) : gC (sC σ k v) j = gC σ j := va_up_ne _ _ h
theorem gX_sX {σ : CS} {k : Nat} {v : UInt64} : gX (sX σ k v) k = v := va_up_self _ _ _
theorem gX_s {σ : CS} {k j : Nat} {v : UInt64} (h : j ≠ k) : gX (sX σ k v) j = gX σ j := va_up_ne _ _ h
theorem gA_sI {σ : CS} {k j : Nat} {v : Int32} : gA (sI σ k v) j = gA σ j := rfl
theorem gD_sI {σ : CS} {k j : Nat} {v : Int32} : gD (sI σ k v) j = gD σ j := rfl
theorem gC_sI {σ : CS} {k j : Nat} {v : Int32} : gC (sI σ k v) j = gC σ j := rfl
theorem gX_sI {σ : CS} {k j : Nat} {v : Int32} : gX (sI σ k v) j = gX σ j := rfl
theorem gI_sA {σ : CS} {k j : Nat} {v : Nat → Int32} : gI (sA σ k v) j = gI σ j := rfl
theorem gD_sA {σ : CS} {k j : Nat} {v : Nat → Int32} : gD (sA σ k v) j = gD σ j := rfl
theorem gC_sA {σ : CS} {k j : Nat} {v : Nat → Int32} : gC (sA σ k v) j = gC σ j := rfl
theorem gX_sA {σ : CS} {k j : Nat} {v : Nat → Int32} : gX (sA σ k v) j = gX σ j := rfl
theorem gI_sD {σ : CS} {k j : Nat} {v : Nat → UInt64} : gI (sD σ k v) j = gI σ j := rfl
theorem gA_sD {σ : CS} {k j : Nat} {v : Nat → UInt64} : gA (sD σ k v) j = gA σ j := rfl
theorem gC_sD {σ : CS} {k j : Nat} {v : Nat → UInt64} : gC (sD σ k v) j = gC σ j := rfl
theorem gX_sD {σ : CS} {k j : Nat} {v : Nat → UInt64} : gX (sD σ k v) j = gX σ j := rfl
theorem gI_sC {σ : CS} {k j : Nat} {v : Option Nat} : gI (sC σ k v) j = gI σ j := rfl
theorem gA_sC {σ : CS} {k j : Nat} {v : Option Nat} : gA (sC σ k v) j = gA σ j := rfl
theorem gD_sC {σ : CS} {k j : Nat} {v : Option Nat} : gD (sC σ k v) j = gD σ j := rfl
theorem gX_sC {σ : CS} {k j : Nat} {v : Option Nat} : gX (sC σ k v) j = gX σ j := rfl
theorem gI_sX {σ : CS} {k j : Nat} {v : UInt64} : gI (sX σ k v) j = gI σ j := rfl
theorem gA_sX {σ : CS} {k j : Nat} {v : UInt64} : gA (sX σ k v) j = gA σ j := rfl
theorem gD_sX {σ : CS} {k j : Nat} {v : UInt64} : gD (sX σ k v) j = gD σ j := rfl
theorem gC_sX {σ : CS} {k j : Nat} {v : UInt64} : gC (sX σ k v) j = gC σ j := rfl
/-- an environment's caller as a value -/
def cv (ad : Nat → Nat) (o : Option Nat) : Value := match o with
  | none => .null
  | some c => .ref (ad (15 + c))
theorem cv_some (ad : Nat → Nat) (c : Nat) : cv ad (some c) = .ref (ad (15 + c)) := rfl
theorem cv_none (ad : Nat → Nat) : cv ad none = .null := rfl
abbrev CI : Type := ClassId × ClassId × ClassId
/-- the classes whose objects the worlds hold -/
abbrev clA : List vw_C := [(R_NF, F_NF, 3), (R_EN, F_EN, 6), (R_PR, F_PR, 8), (R_ST, F_ST, 6), (R_WK, F_WK, 13), (R_MO, F_MO, 39)]
abbrev tyC (cs : CI) : List (ClassId × FieldType) := [(cs.1, .int), (cs.2.1, .double), (cs.2.2, .object "NameForge$Environment")]
/-- an environment's cells -/
def contE (ad : Nat → Nat) (cs : CI) (σ : CS) (k : Nat) : va_E :=
  if k < 9 then .inr (1, [cv ad (gC σ k), .ref (ad (24 + k)), .ref (ad (33 + k)), .ref (ad (42 + k)), .int (gI σ (20 + k)), .int (gI σ (30 + k))])
  else if k < 18 then .inl (cs.1, 2, .inl (gA σ (10 + (k - 9))))
  else if k < 27 then .inl (cs.2.1, 2, .inr (.inr (.inr (.inl (gD σ (10 + (k - 18)))))))
  else .inl (cs.2.1, 2, .inr (.inr (.inr (.inl (gD σ (20 + (k - 27)))))))
/-- what the class's cells hold -/
def cont (ad : Nat → Nat) (cs : CI) (σ : CS) : Nat → va_E
  | 0 => .inr (0, [.ref (ad 1), .ref (ad 9), .ref (ad 12)])
  | 1 => .inr (2, [.ref (ad 2), .ref (ad 3), .ref (ad 4), .ref (ad 5), .int (gI σ 8), .ref (ad 6), .ref (ad 7), .ref (ad 8)])
  | 2 => .inl (cs.1, 48, .inl (gA σ 0))
  | 3 => .inl (cs.1, 48, .inl (gA σ 1))
  | 4 => .inl (cs.1, 48, .inl (gA σ 2))
  | 5 => .inl (cs.1, 48, .inl (gA σ 3))
  | 6 => .inl (cs.1, 4, .inl (gA σ 4))
  | 7 => .inl (cs.1, 4, .inl (gA σ 5))
  | 8 => .inl (cs.1, 4, .inl (gA σ 6))
  | 9 => .inr (3, [.ref (ad 10), .ref (ad 11), .int (gI σ 9), .int (gI σ 10), .int (gI σ 11), .int (gI σ 12)])
  | 10 => .inl (cs.2.1, 8, .inr (.inr (.inr (.inl (gD σ 0)))))
  | 11 => .inl (cs.2.1, 25, .inr (.inr (.inr (.inl (gD σ 1)))))
  | 12 => .inr (4, [.int (gI σ 0), .int (gI σ 1), .int (gI σ 2), .int (gI σ 3), .int (gI σ 4), .ref (ad 1), .ref (ad 9), .ref (ad 23), .ref (ad 14), .ref (ad 13), .int (gI σ 5), .int (gI σ 6), .int (gI σ 7)])
  | 13 => .inl (cs.1, 4, .inl (gA σ 7))
  | 14 => .inl (cs.2.2, 8, .inr (.inr (.inr (.inr (fun j => some (ad (15 + j)))))))
  | k + 15 => contE ad cs σ k
section CT
variable {ad : Nat → Nat} {cs : CI} {σ : CS} {h : Nat}
theorem ct_o (hh : h < 9) : cont ad cs σ (15 + h) = .inr (1, [cv ad (gC σ h), .ref (ad (24 + h)), .ref (ad (33 + h)), .ref (ad (42 + h)), .int (gI σ (20 + h)), .int (gI σ (30 + h))]) := by
  rw [Nat.add_comm]
  show contE ad cs σ h = _
  unfold contE
  rw [if_pos hh]
theorem ct_g (hh : h < 9) : cont ad cs σ (24 + h) = .inl (cs.1, 2, .inl (gA σ (10 + h))) := by
  rw [show 24 + h = (9 + h) + 15 by omega]
  show contE ad cs σ (9 + h) = _
  unfold contE
  rw [if_neg (by omega), if_pos (by omega), show 9 + h - 9 = h by omega]
theorem ct_v (hh : h < 9) : cont ad cs σ (33 + h) = .inl (cs.2.1, 2, .inr (.inr (.inr (.inl (gD σ (10 + h)))))) := by
  rw [show 33 + h = (18 + h) + 15 by omega]
  show contE ad cs σ (18 + h) = _
  unfold contE
  rw [if_neg (by omega), if_neg (by omega), if_pos (by omega), show 18 + h - 18 = h by omega]
theorem ct_l (hh : h < 9) : cont ad cs σ (42 + h) = .inl (cs.2.1, 2, .inr (.inr (.inr (.inl (gD σ (20 + h)))))) := by
  rw [show 42 + h = (27 + h) + 15 by omega]
  show contE ad cs σ (27 + h) = _
  unfold contE
  rw [if_neg (by omega), if_neg (by omega), if_neg (by omega), show 27 + h - 27 = h by omega]
/-- two states that differ in one cell -/
theorem up_of {σ' : CS} {c : Nat} {e : va_E} (h1 : cont ad cs σ' c = e) (h2 : ∀ k, k ≠ c → cont ad cs σ k = cont ad cs σ' k) : va_up (cont ad cs σ) c e = cont ad cs σ' := by
  funext k
  by_cases hk : k = c
  · subst hk
    rw [va_up_self, h1]
  · rw [va_up_ne _ _ hk, h2 k hk]
theorem cE_I {j : Nat} {v : Int32} (hj : j < 20 ∨ 39 < j) (k : Nat) : contE ad cs (sI σ j v) k = contE ad cs σ k := by
  unfold contE
  by_cases hk : k < 9
  · rw [if_pos hk, if_pos hk, gI_s (show 20 + k ≠ j by omega), gI_s (show 30 + k ≠ j by omega)]
    rfl
  · rw [if_neg hk, if_neg hk]
    rfl
theorem cE_A {j : Nat} {v : Nat → Int32} (hj : j < 10) (k : Nat) : contE ad cs (sA σ j v) k = contE ad cs σ k := by
  unfold contE
  by_cases hk : k < 9
  · rw [if_pos hk, if_pos hk]
    rfl
  · rw [gA_s (show 10 + (k - 9) ≠ j by omega)]
    rfl
theorem cE_D {j : Nat} {v : Nat → UInt64} (hj : j < 10) (k : Nat) : contE ad cs (sD σ j v) k = contE ad cs σ k := by
  unfold contE
  rw [gD_s (show 10 + (k - 18) ≠ j by omega), gD_s (show 20 + (k - 27) ≠ j by omega)]
  rfl
theorem up_PR_size {v : Int32} : va_up (cont ad cs σ) 1 (.inr (2, [.ref (ad 2), .ref (ad 3), .ref (ad 4), .ref (ad 5), .int v, .ref (ad 6), .ref (ad 7), .ref (ad 8)])) = cont ad cs (sI σ 8 v) := by
  refine up_of ?_ ?_
  · simp only [cont, gI_sI]
  · intro k hk
    match k, hk with
    | 0, _ => rfl
    | 1, hk => exact absurd rfl hk
    | 2, _ => rfl
    | 3, _ => rfl
    | 4, _ => rfl
    | 5, _ => rfl
    | 6, _ => rfl
    | 7, _ => rfl
    | 8, _ => rfl
    | 9, _ => simp only [cont, gI_s (show (9 : Nat) ≠ 8 by decide), gI_s (show (10 : Nat) ≠ 8 by decide), gI_s (show (11 : Nat) ≠ 8 by decide), gI_s (show (12 : Nat) ≠ 8 by decide)]
    | 10, _ => rfl
    | 11, _ => rfl
    | 12, _ => simp only [cont, gI_s (show (0 : Nat) ≠ 8 by decide), gI_s (show (1 : Nat) ≠ 8 by decide), gI_s (show (2 : Nat) ≠ 8 by decide), gI_s (show (3 : Nat) ≠ 8 by decide), gI_s (show (4 : Nat) ≠ 8 by decide), gI_s (show (5 : Nat) ≠ 8 by decide), gI_s (show (6 : Nat) ≠ 8 by decide), gI_s (show (7 : Nat) ≠ 8 by decide)]
    | 13, _ => rfl
    | 14, _ => rfl
    | k + 15, _ => exact (cE_I (by decide) k).symm
theorem up_ST_firstRow {v : Int32} : va_up (cont ad cs σ) 9 (.inr (3, [.ref (ad 10), .ref (ad 11), .int v, .int (gI σ 10), .int (gI σ 11), .int (gI σ 12)])) = cont ad cs (sI σ 9 v) := by
  refine up_of ?_ ?_
  · simp only [cont, gI_sI, gI_s (show (10 : Nat) ≠ 9 by decide), gI_s (show (11 : Nat) ≠ 9 by decide), gI_s (show (12 : Nat) ≠ 9 by decide)]
  · intro k hk
    match k, hk with
    | 0, _ => rfl
    | 1, _ => simp only [cont, gI_s (show (8 : Nat) ≠ 9 by decide)]
    | 2, _ => rfl
    | 3, _ => rfl
    | 4, _ => rfl
    | 5, _ => rfl
    | 6, _ => rfl
    | 7, _ => rfl
    | 8, _ => rfl
    | 9, hk => exact absurd rfl hk
    | 10, _ => rfl
    | 11, _ => rfl
    | 12, _ => simp only [cont, gI_s (show (0 : Nat) ≠ 9 by decide), gI_s (show (1 : Nat) ≠ 9 by decide), gI_s (show (2 : Nat) ≠ 9 by decide), gI_s (show (3 : Nat) ≠ 9 by decide), gI_s (show (4 : Nat) ≠ 9 by decide), gI_s (show (5 : Nat) ≠ 9 by decide), gI_s (show (6 : Nat) ≠ 9 by decide), gI_s (show (7 : Nat) ≠ 9 by decide)]
    | 13, _ => rfl
    | 14, _ => rfl
    | k + 15, _ => exact (cE_I (by decide) k).symm
theorem up_ST_lastRow {v : Int32} : va_up (cont ad cs σ) 9 (.inr (3, [.ref (ad 10), .ref (ad 11), .int (gI σ 9), .int v, .int (gI σ 11), .int (gI σ 12)])) = cont ad cs (sI σ 10 v) := by
  refine up_of ?_ ?_
  · simp only [cont, gI_sI, gI_s (show (9 : Nat) ≠ 10 by decide), gI_s (show (11 : Nat) ≠ 10 by decide), gI_s (show (12 : Nat) ≠ 10 by decide)]
  · intro k hk
    match k, hk with
    | 0, _ => rfl
    | 1, _ => simp only [cont, gI_s (show (8 : Nat) ≠ 10 by decide)]
    | 2, _ => rfl
    | 3, _ => rfl
    | 4, _ => rfl
    | 5, _ => rfl
    | 6, _ => rfl
    | 7, _ => rfl
    | 8, _ => rfl
    | 9, hk => exact absurd rfl hk
    | 10, _ => rfl
    | 11, _ => rfl
    | 12, _ => simp only [cont, gI_s (show (0 : Nat) ≠ 10 by decide), gI_s (show (1 : Nat) ≠ 10 by decide), gI_s (show (2 : Nat) ≠ 10 by decide), gI_s (show (3 : Nat) ≠ 10 by decide), gI_s (show (4 : Nat) ≠ 10 by decide), gI_s (show (5 : Nat) ≠ 10 by decide), gI_s (show (6 : Nat) ≠ 10 by decide), gI_s (show (7 : Nat) ≠ 10 by decide)]
    | 13, _ => rfl
    | 14, _ => rfl
    | k + 15, _ => exact (cE_I (by decide) k).symm
theorem up_ST_firstColumn {v : Int32} : va_up (cont ad cs σ) 9 (.inr (3, [.ref (ad 10), .ref (ad 11), .int (gI σ 9), .int (gI σ 10), .int v, .int (gI σ 12)])) = cont ad cs (sI σ 11 v) := by
  refine up_of ?_ ?_
  · simp only [cont, gI_sI, gI_s (show (9 : Nat) ≠ 11 by decide), gI_s (show (10 : Nat) ≠ 11 by decide), gI_s (show (12 : Nat) ≠ 11 by decide)]
  · intro k hk
    match k, hk with
    | 0, _ => rfl
    | 1, _ => simp only [cont, gI_s (show (8 : Nat) ≠ 11 by decide)]
    | 2, _ => rfl
    | 3, _ => rfl
    | 4, _ => rfl
    | 5, _ => rfl
    | 6, _ => rfl
    | 7, _ => rfl
    | 8, _ => rfl
    | 9, hk => exact absurd rfl hk
    | 10, _ => rfl
    | 11, _ => rfl
    | 12, _ => simp only [cont, gI_s (show (0 : Nat) ≠ 11 by decide), gI_s (show (1 : Nat) ≠ 11 by decide), gI_s (show (2 : Nat) ≠ 11 by decide), gI_s (show (3 : Nat) ≠ 11 by decide), gI_s (show (4 : Nat) ≠ 11 by decide), gI_s (show (5 : Nat) ≠ 11 by decide), gI_s (show (6 : Nat) ≠ 11 by decide), gI_s (show (7 : Nat) ≠ 11 by decide)]
    | 13, _ => rfl
    | 14, _ => rfl
    | k + 15, _ => exact (cE_I (by decide) k).symm
theorem up_ST_lastColumn {v : Int32} : va_up (cont ad cs σ) 9 (.inr (3, [.ref (ad 10), .ref (ad 11), .int (gI σ 9), .int (gI σ 10), .int (gI σ 11), .int v])) = cont ad cs (sI σ 12 v) := by
  refine up_of ?_ ?_
  · simp only [cont, gI_sI, gI_s (show (9 : Nat) ≠ 12 by decide), gI_s (show (10 : Nat) ≠ 12 by decide), gI_s (show (11 : Nat) ≠ 12 by decide)]
  · intro k hk
    match k, hk with
    | 0, _ => rfl
    | 1, _ => simp only [cont, gI_s (show (8 : Nat) ≠ 12 by decide)]
    | 2, _ => rfl
    | 3, _ => rfl
    | 4, _ => rfl
    | 5, _ => rfl
    | 6, _ => rfl
    | 7, _ => rfl
    | 8, _ => rfl
    | 9, hk => exact absurd rfl hk
    | 10, _ => rfl
    | 11, _ => rfl
    | 12, _ => simp only [cont, gI_s (show (0 : Nat) ≠ 12 by decide), gI_s (show (1 : Nat) ≠ 12 by decide), gI_s (show (2 : Nat) ≠ 12 by decide), gI_s (show (3 : Nat) ≠ 12 by decide), gI_s (show (4 : Nat) ≠ 12 by decide), gI_s (show (5 : Nat) ≠ 12 by decide), gI_s (show (6 : Nat) ≠ 12 by decide), gI_s (show (7 : Nat) ≠ 12 by decide)]
    | 13, _ => rfl
    | 14, _ => rfl
    | k + 15, _ => exact (cE_I (by decide) k).symm
theorem up_WK_worked {v : Int32} : va_up (cont ad cs σ) 12 (.inr (4, [.int v, .int (gI σ 1), .int (gI σ 2), .int (gI σ 3), .int (gI σ 4), .ref (ad 1), .ref (ad 9), .ref (ad 23), .ref (ad 14), .ref (ad 13), .int (gI σ 5), .int (gI σ 6), .int (gI σ 7)])) = cont ad cs (sI σ 0 v) := by
  refine up_of ?_ ?_
  · simp only [cont, gI_sI, gI_s (show (1 : Nat) ≠ 0 by decide), gI_s (show (2 : Nat) ≠ 0 by decide), gI_s (show (3 : Nat) ≠ 0 by decide), gI_s (show (4 : Nat) ≠ 0 by decide), gI_s (show (5 : Nat) ≠ 0 by decide), gI_s (show (6 : Nat) ≠ 0 by decide), gI_s (show (7 : Nat) ≠ 0 by decide)]
  · intro k hk
    match k, hk with
    | 0, _ => rfl
    | 1, _ => simp only [cont, gI_s (show (8 : Nat) ≠ 0 by decide)]
    | 2, _ => rfl
    | 3, _ => rfl
    | 4, _ => rfl
    | 5, _ => rfl
    | 6, _ => rfl
    | 7, _ => rfl
    | 8, _ => rfl
    | 9, _ => simp only [cont, gI_s (show (9 : Nat) ≠ 0 by decide), gI_s (show (10 : Nat) ≠ 0 by decide), gI_s (show (11 : Nat) ≠ 0 by decide), gI_s (show (12 : Nat) ≠ 0 by decide)]
    | 10, _ => rfl
    | 11, _ => rfl
    | 12, hk => exact absurd rfl hk
    | 13, _ => rfl
    | 14, _ => rfl
    | k + 15, _ => exact (cE_I (by decide) k).symm
theorem up_WK_fault {v : Int32} : va_up (cont ad cs σ) 12 (.inr (4, [.int (gI σ 0), .int v, .int (gI σ 2), .int (gI σ 3), .int (gI σ 4), .ref (ad 1), .ref (ad 9), .ref (ad 23), .ref (ad 14), .ref (ad 13), .int (gI σ 5), .int (gI σ 6), .int (gI σ 7)])) = cont ad cs (sI σ 1 v) := by
  refine up_of ?_ ?_
  · simp only [cont, gI_sI, gI_s (show (0 : Nat) ≠ 1 by decide), gI_s (show (2 : Nat) ≠ 1 by decide), gI_s (show (3 : Nat) ≠ 1 by decide), gI_s (show (4 : Nat) ≠ 1 by decide), gI_s (show (5 : Nat) ≠ 1 by decide), gI_s (show (6 : Nat) ≠ 1 by decide), gI_s (show (7 : Nat) ≠ 1 by decide)]
  · intro k hk
    match k, hk with
    | 0, _ => rfl
    | 1, _ => simp only [cont, gI_s (show (8 : Nat) ≠ 1 by decide)]
    | 2, _ => rfl
    | 3, _ => rfl
    | 4, _ => rfl
    | 5, _ => rfl
    | 6, _ => rfl
    | 7, _ => rfl
    | 8, _ => rfl
    | 9, _ => simp only [cont, gI_s (show (9 : Nat) ≠ 1 by decide), gI_s (show (10 : Nat) ≠ 1 by decide), gI_s (show (11 : Nat) ≠ 1 by decide), gI_s (show (12 : Nat) ≠ 1 by decide)]
    | 10, _ => rfl
    | 11, _ => rfl
    | 12, hk => exact absurd rfl hk
    | 13, _ => rfl
    | 14, _ => rfl
    | k + 15, _ => exact (cE_I (by decide) k).symm
theorem up_WK_bodiesBegun {v : Int32} : va_up (cont ad cs σ) 12 (.inr (4, [.int (gI σ 0), .int (gI σ 1), .int v, .int (gI σ 3), .int (gI σ 4), .ref (ad 1), .ref (ad 9), .ref (ad 23), .ref (ad 14), .ref (ad 13), .int (gI σ 5), .int (gI σ 6), .int (gI σ 7)])) = cont ad cs (sI σ 2 v) := by
  refine up_of ?_ ?_
  · simp only [cont, gI_sI, gI_s (show (0 : Nat) ≠ 2 by decide), gI_s (show (1 : Nat) ≠ 2 by decide), gI_s (show (3 : Nat) ≠ 2 by decide), gI_s (show (4 : Nat) ≠ 2 by decide), gI_s (show (5 : Nat) ≠ 2 by decide), gI_s (show (6 : Nat) ≠ 2 by decide), gI_s (show (7 : Nat) ≠ 2 by decide)]
  · intro k hk
    match k, hk with
    | 0, _ => rfl
    | 1, _ => simp only [cont, gI_s (show (8 : Nat) ≠ 2 by decide)]
    | 2, _ => rfl
    | 3, _ => rfl
    | 4, _ => rfl
    | 5, _ => rfl
    | 6, _ => rfl
    | 7, _ => rfl
    | 8, _ => rfl
    | 9, _ => simp only [cont, gI_s (show (9 : Nat) ≠ 2 by decide), gI_s (show (10 : Nat) ≠ 2 by decide), gI_s (show (11 : Nat) ≠ 2 by decide), gI_s (show (12 : Nat) ≠ 2 by decide)]
    | 10, _ => rfl
    | 11, _ => rfl
    | 12, hk => exact absurd rfl hk
    | 13, _ => rfl
    | 14, _ => rfl
    | k + 15, _ => exact (cE_I (by decide) k).symm
theorem up_WK_mostEnvironments {v : Int32} : va_up (cont ad cs σ) 12 (.inr (4, [.int (gI σ 0), .int (gI σ 1), .int (gI σ 2), .int v, .int (gI σ 4), .ref (ad 1), .ref (ad 9), .ref (ad 23), .ref (ad 14), .ref (ad 13), .int (gI σ 5), .int (gI σ 6), .int (gI σ 7)])) = cont ad cs (sI σ 3 v) := by
  refine up_of ?_ ?_
  · simp only [cont, gI_sI, gI_s (show (0 : Nat) ≠ 3 by decide), gI_s (show (1 : Nat) ≠ 3 by decide), gI_s (show (2 : Nat) ≠ 3 by decide), gI_s (show (4 : Nat) ≠ 3 by decide), gI_s (show (5 : Nat) ≠ 3 by decide), gI_s (show (6 : Nat) ≠ 3 by decide), gI_s (show (7 : Nat) ≠ 3 by decide)]
  · intro k hk
    match k, hk with
    | 0, _ => rfl
    | 1, _ => simp only [cont, gI_s (show (8 : Nat) ≠ 3 by decide)]
    | 2, _ => rfl
    | 3, _ => rfl
    | 4, _ => rfl
    | 5, _ => rfl
    | 6, _ => rfl
    | 7, _ => rfl
    | 8, _ => rfl
    | 9, _ => simp only [cont, gI_s (show (9 : Nat) ≠ 3 by decide), gI_s (show (10 : Nat) ≠ 3 by decide), gI_s (show (11 : Nat) ≠ 3 by decide), gI_s (show (12 : Nat) ≠ 3 by decide)]
    | 10, _ => rfl
    | 11, _ => rfl
    | 12, hk => exact absurd rfl hk
    | 13, _ => rfl
    | 14, _ => rfl
    | k + 15, _ => exact (cE_I (by decide) k).symm
theorem up_WK_jumpsArrived {v : Int32} : va_up (cont ad cs σ) 12 (.inr (4, [.int (gI σ 0), .int (gI σ 1), .int (gI σ 2), .int (gI σ 3), .int v, .ref (ad 1), .ref (ad 9), .ref (ad 23), .ref (ad 14), .ref (ad 13), .int (gI σ 5), .int (gI σ 6), .int (gI σ 7)])) = cont ad cs (sI σ 4 v) := by
  refine up_of ?_ ?_
  · simp only [cont, gI_sI, gI_s (show (0 : Nat) ≠ 4 by decide), gI_s (show (1 : Nat) ≠ 4 by decide), gI_s (show (2 : Nat) ≠ 4 by decide), gI_s (show (3 : Nat) ≠ 4 by decide), gI_s (show (5 : Nat) ≠ 4 by decide), gI_s (show (6 : Nat) ≠ 4 by decide), gI_s (show (7 : Nat) ≠ 4 by decide)]
  · intro k hk
    match k, hk with
    | 0, _ => rfl
    | 1, _ => simp only [cont, gI_s (show (8 : Nat) ≠ 4 by decide)]
    | 2, _ => rfl
    | 3, _ => rfl
    | 4, _ => rfl
    | 5, _ => rfl
    | 6, _ => rfl
    | 7, _ => rfl
    | 8, _ => rfl
    | 9, _ => simp only [cont, gI_s (show (9 : Nat) ≠ 4 by decide), gI_s (show (10 : Nat) ≠ 4 by decide), gI_s (show (11 : Nat) ≠ 4 by decide), gI_s (show (12 : Nat) ≠ 4 by decide)]
    | 10, _ => rfl
    | 11, _ => rfl
    | 12, hk => exact absurd rfl hk
    | 13, _ => rfl
    | 14, _ => rfl
    | k + 15, _ => exact (cE_I (by decide) k).symm
theorem up_WK_openCalls {v : Int32} : va_up (cont ad cs σ) 12 (.inr (4, [.int (gI σ 0), .int (gI σ 1), .int (gI σ 2), .int (gI σ 3), .int (gI σ 4), .ref (ad 1), .ref (ad 9), .ref (ad 23), .ref (ad 14), .ref (ad 13), .int v, .int (gI σ 6), .int (gI σ 7)])) = cont ad cs (sI σ 5 v) := by
  refine up_of ?_ ?_
  · simp only [cont, gI_sI, gI_s (show (0 : Nat) ≠ 5 by decide), gI_s (show (1 : Nat) ≠ 5 by decide), gI_s (show (2 : Nat) ≠ 5 by decide), gI_s (show (3 : Nat) ≠ 5 by decide), gI_s (show (4 : Nat) ≠ 5 by decide), gI_s (show (6 : Nat) ≠ 5 by decide), gI_s (show (7 : Nat) ≠ 5 by decide)]
  · intro k hk
    match k, hk with
    | 0, _ => rfl
    | 1, _ => simp only [cont, gI_s (show (8 : Nat) ≠ 5 by decide)]
    | 2, _ => rfl
    | 3, _ => rfl
    | 4, _ => rfl
    | 5, _ => rfl
    | 6, _ => rfl
    | 7, _ => rfl
    | 8, _ => rfl
    | 9, _ => simp only [cont, gI_s (show (9 : Nat) ≠ 5 by decide), gI_s (show (10 : Nat) ≠ 5 by decide), gI_s (show (11 : Nat) ≠ 5 by decide), gI_s (show (12 : Nat) ≠ 5 by decide)]
    | 10, _ => rfl
    | 11, _ => rfl
    | 12, hk => exact absurd rfl hk
    | 13, _ => rfl
    | 14, _ => rfl
    | k + 15, _ => exact (cE_I (by decide) k).symm
theorem up_WK_openEnvironments {v : Int32} : va_up (cont ad cs σ) 12 (.inr (4, [.int (gI σ 0), .int (gI σ 1), .int (gI σ 2), .int (gI σ 3), .int (gI σ 4), .ref (ad 1), .ref (ad 9), .ref (ad 23), .ref (ad 14), .ref (ad 13), .int (gI σ 5), .int v, .int (gI σ 7)])) = cont ad cs (sI σ 6 v) := by
  refine up_of ?_ ?_
  · simp only [cont, gI_sI, gI_s (show (0 : Nat) ≠ 6 by decide), gI_s (show (1 : Nat) ≠ 6 by decide), gI_s (show (2 : Nat) ≠ 6 by decide), gI_s (show (3 : Nat) ≠ 6 by decide), gI_s (show (4 : Nat) ≠ 6 by decide), gI_s (show (5 : Nat) ≠ 6 by decide), gI_s (show (7 : Nat) ≠ 6 by decide)]
  · intro k hk
    match k, hk with
    | 0, _ => rfl
    | 1, _ => simp only [cont, gI_s (show (8 : Nat) ≠ 6 by decide)]
    | 2, _ => rfl
    | 3, _ => rfl
    | 4, _ => rfl
    | 5, _ => rfl
    | 6, _ => rfl
    | 7, _ => rfl
    | 8, _ => rfl
    | 9, _ => simp only [cont, gI_s (show (9 : Nat) ≠ 6 by decide), gI_s (show (10 : Nat) ≠ 6 by decide), gI_s (show (11 : Nat) ≠ 6 by decide), gI_s (show (12 : Nat) ≠ 6 by decide)]
    | 10, _ => rfl
    | 11, _ => rfl
    | 12, hk => exact absurd rfl hk
    | 13, _ => rfl
    | 14, _ => rfl
    | k + 15, _ => exact (cE_I (by decide) k).symm
theorem up_WK_jumpingTo {v : Int32} : va_up (cont ad cs σ) 12 (.inr (4, [.int (gI σ 0), .int (gI σ 1), .int (gI σ 2), .int (gI σ 3), .int (gI σ 4), .ref (ad 1), .ref (ad 9), .ref (ad 23), .ref (ad 14), .ref (ad 13), .int (gI σ 5), .int (gI σ 6), .int v])) = cont ad cs (sI σ 7 v) := by
  refine up_of ?_ ?_
  · simp only [cont, gI_sI, gI_s (show (0 : Nat) ≠ 7 by decide), gI_s (show (1 : Nat) ≠ 7 by decide), gI_s (show (2 : Nat) ≠ 7 by decide), gI_s (show (3 : Nat) ≠ 7 by decide), gI_s (show (4 : Nat) ≠ 7 by decide), gI_s (show (5 : Nat) ≠ 7 by decide), gI_s (show (6 : Nat) ≠ 7 by decide)]
  · intro k hk
    match k, hk with
    | 0, _ => rfl
    | 1, _ => simp only [cont, gI_s (show (8 : Nat) ≠ 7 by decide)]
    | 2, _ => rfl
    | 3, _ => rfl
    | 4, _ => rfl
    | 5, _ => rfl
    | 6, _ => rfl
    | 7, _ => rfl
    | 8, _ => rfl
    | 9, _ => simp only [cont, gI_s (show (9 : Nat) ≠ 7 by decide), gI_s (show (10 : Nat) ≠ 7 by decide), gI_s (show (11 : Nat) ≠ 7 by decide), gI_s (show (12 : Nat) ≠ 7 by decide)]
    | 10, _ => rfl
    | 11, _ => rfl
    | 12, hk => exact absurd rfl hk
    | 13, _ => rfl
    | 14, _ => rfl
    | k + 15, _ => exact (cE_I (by decide) k).symm
theorem upa_0 {f : Nat → Int32} : va_up (cont ad cs σ) 2 (.inl (cs.1, 48, .inl f)) = cont ad cs (sA σ 0 f) := by
  refine up_of ?_ ?_
  · simp only [cont, gA_sA]
  · intro k hk
    match k, hk with
    | 0, _ => rfl
    | 1, _ => rfl
    | 2, hk => exact absurd rfl hk
    | 3, _ => simp only [cont, gA_s (show (1 : Nat) ≠ 0 by decide)]
    | 4, _ => simp only [cont, gA_s (show (2 : Nat) ≠ 0 by decide)]
    | 5, _ => simp only [cont, gA_s (show (3 : Nat) ≠ 0 by decide)]
    | 6, _ => simp only [cont, gA_s (show (4 : Nat) ≠ 0 by decide)]
    | 7, _ => simp only [cont, gA_s (show (5 : Nat) ≠ 0 by decide)]
    | 8, _ => simp only [cont, gA_s (show (6 : Nat) ≠ 0 by decide)]
    | 9, _ => rfl
    | 10, _ => rfl
    | 11, _ => rfl
    | 12, _ => rfl
    | 13, _ => simp only [cont, gA_s (show (7 : Nat) ≠ 0 by decide)]
    | 14, _ => rfl
    | k + 15, _ => exact (cE_A (by decide) k).symm
theorem upa_1 {f : Nat → Int32} : va_up (cont ad cs σ) 3 (.inl (cs.1, 48, .inl f)) = cont ad cs (sA σ 1 f) := by
  refine up_of ?_ ?_
  · simp only [cont, gA_sA]
  · intro k hk
    match k, hk with
    | 0, _ => rfl
    | 1, _ => rfl
    | 2, _ => simp only [cont, gA_s (show (0 : Nat) ≠ 1 by decide)]
    | 3, hk => exact absurd rfl hk
    | 4, _ => simp only [cont, gA_s (show (2 : Nat) ≠ 1 by decide)]
    | 5, _ => simp only [cont, gA_s (show (3 : Nat) ≠ 1 by decide)]
    | 6, _ => simp only [cont, gA_s (show (4 : Nat) ≠ 1 by decide)]
    | 7, _ => simp only [cont, gA_s (show (5 : Nat) ≠ 1 by decide)]
    | 8, _ => simp only [cont, gA_s (show (6 : Nat) ≠ 1 by decide)]
    | 9, _ => rfl
    | 10, _ => rfl
    | 11, _ => rfl
    | 12, _ => rfl
    | 13, _ => simp only [cont, gA_s (show (7 : Nat) ≠ 1 by decide)]
    | 14, _ => rfl
    | k + 15, _ => exact (cE_A (by decide) k).symm
theorem upa_2 {f : Nat → Int32} : va_up (cont ad cs σ) 4 (.inl (cs.1, 48, .inl f)) = cont ad cs (sA σ 2 f) := by
  refine up_of ?_ ?_
  · simp only [cont, gA_sA]
  · intro k hk
    match k, hk with
    | 0, _ => rfl
    | 1, _ => rfl
    | 2, _ => simp only [cont, gA_s (show (0 : Nat) ≠ 2 by decide)]
    | 3, _ => simp only [cont, gA_s (show (1 : Nat) ≠ 2 by decide)]
    | 4, hk => exact absurd rfl hk
    | 5, _ => simp only [cont, gA_s (show (3 : Nat) ≠ 2 by decide)]
    | 6, _ => simp only [cont, gA_s (show (4 : Nat) ≠ 2 by decide)]
    | 7, _ => simp only [cont, gA_s (show (5 : Nat) ≠ 2 by decide)]
    | 8, _ => simp only [cont, gA_s (show (6 : Nat) ≠ 2 by decide)]
    | 9, _ => rfl
    | 10, _ => rfl
    | 11, _ => rfl
    | 12, _ => rfl
    | 13, _ => simp only [cont, gA_s (show (7 : Nat) ≠ 2 by decide)]
    | 14, _ => rfl
    | k + 15, _ => exact (cE_A (by decide) k).symm
theorem upa_3 {f : Nat → Int32} : va_up (cont ad cs σ) 5 (.inl (cs.1, 48, .inl f)) = cont ad cs (sA σ 3 f) := by
  refine up_of ?_ ?_
  · simp only [cont, gA_sA]
  · intro k hk
    match k, hk with
    | 0, _ => rfl
    | 1, _ => rfl
    | 2, _ => simp only [cont, gA_s (show (0 : Nat) ≠ 3 by decide)]
    | 3, _ => simp only [cont, gA_s (show (1 : Nat) ≠ 3 by decide)]
    | 4, _ => simp only [cont, gA_s (show (2 : Nat) ≠ 3 by decide)]
    | 5, hk => exact absurd rfl hk
    | 6, _ => simp only [cont, gA_s (show (4 : Nat) ≠ 3 by decide)]
    | 7, _ => simp only [cont, gA_s (show (5 : Nat) ≠ 3 by decide)]
    | 8, _ => simp only [cont, gA_s (show (6 : Nat) ≠ 3 by decide)]
    | 9, _ => rfl
    | 10, _ => rfl
    | 11, _ => rfl
    | 12, _ => rfl
    | 13, _ => simp only [cont, gA_s (show (7 : Nat) ≠ 3 by decide)]
    | 14, _ => rfl
    | k + 15, _ => exact (cE_A (by decide) k).symm
theorem upa_4 {f : Nat → Int32} : va_up (cont ad cs σ) 6 (.inl (cs.1, 4, .inl f)) = cont ad cs (sA σ 4 f) := by
  refine up_of ?_ ?_
  · simp only [cont, gA_sA]
  · intro k hk
    match k, hk with
    | 0, _ => rfl
    | 1, _ => rfl
    | 2, _ => simp only [cont, gA_s (show (0 : Nat) ≠ 4 by decide)]
    | 3, _ => simp only [cont, gA_s (show (1 : Nat) ≠ 4 by decide)]
    | 4, _ => simp only [cont, gA_s (show (2 : Nat) ≠ 4 by decide)]
    | 5, _ => simp only [cont, gA_s (show (3 : Nat) ≠ 4 by decide)]
    | 6, hk => exact absurd rfl hk
    | 7, _ => simp only [cont, gA_s (show (5 : Nat) ≠ 4 by decide)]
    | 8, _ => simp only [cont, gA_s (show (6 : Nat) ≠ 4 by decide)]
    | 9, _ => rfl
    | 10, _ => rfl
    | 11, _ => rfl
    | 12, _ => rfl
    | 13, _ => simp only [cont, gA_s (show (7 : Nat) ≠ 4 by decide)]
    | 14, _ => rfl
    | k + 15, _ => exact (cE_A (by decide) k).symm
theorem upa_5 {f : Nat → Int32} : va_up (cont ad cs σ) 7 (.inl (cs.1, 4, .inl f)) = cont ad cs (sA σ 5 f) := by
  refine up_of ?_ ?_
  · simp only [cont, gA_sA]
  · intro k hk
    match k, hk with
    | 0, _ => rfl
    | 1, _ => rfl
    | 2, _ => simp only [cont, gA_s (show (0 : Nat) ≠ 5 by decide)]
    | 3, _ => simp only [cont, gA_s (show (1 : Nat) ≠ 5 by decide)]
    | 4, _ => simp only [cont, gA_s (show (2 : Nat) ≠ 5 by decide)]
    | 5, _ => simp only [cont, gA_s (show (3 : Nat) ≠ 5 by decide)]
    | 6, _ => simp only [cont, gA_s (show (4 : Nat) ≠ 5 by decide)]
    | 7, hk => exact absurd rfl hk
    | 8, _ => simp only [cont, gA_s (show (6 : Nat) ≠ 5 by decide)]
    | 9, _ => rfl
    | 10, _ => rfl
    | 11, _ => rfl
    | 12, _ => rfl
    | 13, _ => simp only [cont, gA_s (show (7 : Nat) ≠ 5 by decide)]
    | 14, _ => rfl
    | k + 15, _ => exact (cE_A (by decide) k).symm
theorem upa_6 {f : Nat → Int32} : va_up (cont ad cs σ) 8 (.inl (cs.1, 4, .inl f)) = cont ad cs (sA σ 6 f) := by
  refine up_of ?_ ?_
  · simp only [cont, gA_sA]
  · intro k hk
    match k, hk with
    | 0, _ => rfl
    | 1, _ => rfl
    | 2, _ => simp only [cont, gA_s (show (0 : Nat) ≠ 6 by decide)]
    | 3, _ => simp only [cont, gA_s (show (1 : Nat) ≠ 6 by decide)]
    | 4, _ => simp only [cont, gA_s (show (2 : Nat) ≠ 6 by decide)]
    | 5, _ => simp only [cont, gA_s (show (3 : Nat) ≠ 6 by decide)]
    | 6, _ => simp only [cont, gA_s (show (4 : Nat) ≠ 6 by decide)]
    | 7, _ => simp only [cont, gA_s (show (5 : Nat) ≠ 6 by decide)]
    | 8, hk => exact absurd rfl hk
    | 9, _ => rfl
    | 10, _ => rfl
    | 11, _ => rfl
    | 12, _ => rfl
    | 13, _ => simp only [cont, gA_s (show (7 : Nat) ≠ 6 by decide)]
    | 14, _ => rfl
    | k + 15, _ => exact (cE_A (by decide) k).symm
theorem upd_0 {f : Nat → UInt64} : va_up (cont ad cs σ) 10 (.inl (cs.2.1, 8, .inr (.inr (.inr (.inl f))))) = cont ad cs (sD σ 0 f) := by
  refine up_of ?_ ?_
  · simp only [cont, gD_sD]
  · intro k hk
    match k, hk with
    | 0, _ => rfl
    | 1, _ => rfl
    | 2, _ => rfl
    | 3, _ => rfl
    | 4, _ => rfl
    | 5, _ => rfl
    | 6, _ => rfl
    | 7, _ => rfl
    | 8, _ => rfl
    | 9, _ => rfl
    | 10, hk => exact absurd rfl hk
    | 11, _ => simp only [cont, gD_s (show (1 : Nat) ≠ 0 by decide)]
    | 12, _ => rfl
    | 13, _ => rfl
    | 14, _ => rfl
    | k + 15, _ => exact (cE_D (by decide) k).symm
theorem upd_1 {f : Nat → UInt64} : va_up (cont ad cs σ) 11 (.inl (cs.2.1, 25, .inr (.inr (.inr (.inl f))))) = cont ad cs (sD σ 1 f) := by
  refine up_of ?_ ?_
  · simp only [cont, gD_sD]
  · intro k hk
    match k, hk with
    | 0, _ => rfl
    | 1, _ => rfl
    | 2, _ => rfl
    | 3, _ => rfl
    | 4, _ => rfl
    | 5, _ => rfl
    | 6, _ => rfl
    | 7, _ => rfl
    | 8, _ => rfl
    | 9, _ => rfl
    | 10, _ => simp only [cont, gD_s (show (0 : Nat) ≠ 1 by decide)]
    | 11, hk => exact absurd rfl hk
    | 12, _ => rfl
    | 13, _ => rfl
    | 14, _ => rfl
    | k + 15, _ => exact (cE_D (by decide) k).symm
theorem upa_7 {f : Nat → Int32} : va_up (cont ad cs σ) 13 (.inl (cs.1, 4, .inl f)) = cont ad cs (sA σ 7 f) := by
  refine up_of ?_ ?_
  · simp only [cont, gA_sA]
  · intro k hk
    match k, hk with
    | 0, _ => rfl
    | 1, _ => rfl
    | 2, _ => simp only [cont, gA_s (show (0 : Nat) ≠ 7 by decide)]
    | 3, _ => simp only [cont, gA_s (show (1 : Nat) ≠ 7 by decide)]
    | 4, _ => simp only [cont, gA_s (show (2 : Nat) ≠ 7 by decide)]
    | 5, _ => simp only [cont, gA_s (show (3 : Nat) ≠ 7 by decide)]
    | 6, _ => simp only [cont, gA_s (show (4 : Nat) ≠ 7 by decide)]
    | 7, _ => simp only [cont, gA_s (show (5 : Nat) ≠ 7 by decide)]
    | 8, _ => simp only [cont, gA_s (show (6 : Nat) ≠ 7 by decide)]
    | 9, _ => rfl
    | 10, _ => rfl
    | 11, _ => rfl
    | 12, _ => rfl
    | 13, hk => exact absurd rfl hk
    | 14, _ => rfl
    | k + 15, _ => exact (cE_A (by decide) k).symm
theorem up_EN_parameters {v : Int32} (hh : h < 9) : va_up (cont ad cs σ) (15 + h) (.inr (1, [cv ad (gC σ h), .ref (ad (24 + h)), .ref (ad (33 + h)), .ref (ad (42 + h)), .int v, .int (gI σ (30 + h))])) = cont ad cs (sI σ (20 + h) v) := by
  refine up_of ?_ ?_
  · rw [ct_o hh, gI_sI, gI_s (show 30 + h ≠ 20 + h by omega)]; rfl
  · intro k hk
    match k, hk with
    | 0, _ => rfl
    | 1, _ => simp only [cont, gI_s (show (8 : Nat) ≠ 20 + h by omega)]
    | 2, _ => rfl
    | 3, _ => rfl
    | 4, _ => rfl
    | 5, _ => rfl
    | 6, _ => rfl
    | 7, _ => rfl
    | 8, _ => rfl
    | 9, _ => simp only [cont, gI_s (show (9 : Nat) ≠ 20 + h by omega), gI_s (show (10 : Nat) ≠ 20 + h by omega), gI_s (show (11 : Nat) ≠ 20 + h by omega), gI_s (show (12 : Nat) ≠ 20 + h by omega)]
    | 10, _ => rfl
    | 11, _ => rfl
    | 12, _ => simp only [cont, gI_s (show (0 : Nat) ≠ 20 + h by omega), gI_s (show (1 : Nat) ≠ 20 + h by omega), gI_s (show (2 : Nat) ≠ 20 + h by omega), gI_s (show (3 : Nat) ≠ 20 + h by omega), gI_s (show (4 : Nat) ≠ 20 + h by omega), gI_s (show (5 : Nat) ≠ 20 + h by omega), gI_s (show (6 : Nat) ≠ 20 + h by omega), gI_s (show (7 : Nat) ≠ 20 + h by omega)]
    | 13, _ => rfl
    | 14, _ => rfl
    | k + 15, hk =>
      show contE ad cs σ k = contE ad cs (sI σ (20 + h) v) k
      unfold contE
      by_cases hk9 : k < 9
      · rw [if_pos hk9, if_pos hk9, gI_s (show 20 + k ≠ 20 + h by omega), gI_s (show 30 + k ≠ 20 + h by omega)]; rfl
      · rw [if_neg hk9, if_neg hk9]; rfl
theorem up_EN_names {v : Int32} (hh : h < 9) : va_up (cont ad cs σ) (15 + h) (.inr (1, [cv ad (gC σ h), .ref (ad (24 + h)), .ref (ad (33 + h)), .ref (ad (42 + h)), .int (gI σ (20 + h)), .int v])) = cont ad cs (sI σ (30 + h) v) := by
  refine up_of ?_ ?_
  · rw [ct_o hh, gI_sI, gI_s (show 20 + h ≠ 30 + h by omega)]; rfl
  · intro k hk
    match k, hk with
    | 0, _ => rfl
    | 1, _ => simp only [cont, gI_s (show (8 : Nat) ≠ 30 + h by omega)]
    | 2, _ => rfl
    | 3, _ => rfl
    | 4, _ => rfl
    | 5, _ => rfl
    | 6, _ => rfl
    | 7, _ => rfl
    | 8, _ => rfl
    | 9, _ => simp only [cont, gI_s (show (9 : Nat) ≠ 30 + h by omega), gI_s (show (10 : Nat) ≠ 30 + h by omega), gI_s (show (11 : Nat) ≠ 30 + h by omega), gI_s (show (12 : Nat) ≠ 30 + h by omega)]
    | 10, _ => rfl
    | 11, _ => rfl
    | 12, _ => simp only [cont, gI_s (show (0 : Nat) ≠ 30 + h by omega), gI_s (show (1 : Nat) ≠ 30 + h by omega), gI_s (show (2 : Nat) ≠ 30 + h by omega), gI_s (show (3 : Nat) ≠ 30 + h by omega), gI_s (show (4 : Nat) ≠ 30 + h by omega), gI_s (show (5 : Nat) ≠ 30 + h by omega), gI_s (show (6 : Nat) ≠ 30 + h by omega), gI_s (show (7 : Nat) ≠ 30 + h by omega)]
    | 13, _ => rfl
    | 14, _ => rfl
    | k + 15, hk =>
      show contE ad cs σ k = contE ad cs (sI σ (30 + h) v) k
      unfold contE
      by_cases hk9 : k < 9
      · rw [if_pos hk9, if_pos hk9, gI_s (show 20 + k ≠ 30 + h by omega), gI_s (show 30 + k ≠ 30 + h by omega)]; rfl
      · rw [if_neg hk9, if_neg hk9]; rfl
theorem up_EN_caller {v : Option Nat} (hh : h < 9) : va_up (cont ad cs σ) (15 + h) (.inr (1, [cv ad v, .ref (ad (24 + h)), .ref (ad (33 + h)), .ref (ad (42 + h)), .int (gI σ (20 + h)), .int (gI σ (30 + h))])) = cont ad cs (sC σ h v) := by
  refine up_of ?_ ?_
  · rw [ct_o hh, gC_sC]; rfl
  · intro k hk
    match k, hk with
    | 0, _ => rfl
    | 1, _ => rfl
    | 2, _ => rfl
    | 3, _ => rfl
    | 4, _ => rfl
    | 5, _ => rfl
    | 6, _ => rfl
    | 7, _ => rfl
    | 8, _ => rfl
    | 9, _ => rfl
    | 10, _ => rfl
    | 11, _ => rfl
    | 12, _ => rfl
    | 13, _ => rfl
    | 14, _ => rfl
    | k + 15, hk =>
      show contE ad cs σ k = contE ad cs (sC σ h v) k
      unfold contE
      rw [gC_s (show k ≠ h by omega)]
      rfl
theorem upa_10 {f : Nat → Int32} (hh : h < 9) : va_up (cont ad cs σ) (24 + h) (.inl (cs.1, 2, .inl f)) = cont ad cs (sA σ (10 + h) f) := by
  refine up_of ?_ ?_
  · rw [ct_g hh, gA_sA]
  · intro k hk
    match k, hk with
    | 0, _ => rfl
    | 1, _ => rfl
    | 2, _ => simp only [cont, gA_s (show (0 : Nat) ≠ 10 + h by omega)]
    | 3, _ => simp only [cont, gA_s (show (1 : Nat) ≠ 10 + h by omega)]
    | 4, _ => simp only [cont, gA_s (show (2 : Nat) ≠ 10 + h by omega)]
    | 5, _ => simp only [cont, gA_s (show (3 : Nat) ≠ 10 + h by omega)]
    | 6, _ => simp only [cont, gA_s (show (4 : Nat) ≠ 10 + h by omega)]
    | 7, _ => simp only [cont, gA_s (show (5 : Nat) ≠ 10 + h by omega)]
    | 8, _ => simp only [cont, gA_s (show (6 : Nat) ≠ 10 + h by omega)]
    | 9, _ => rfl
    | 10, _ => rfl
    | 11, _ => rfl
    | 12, _ => rfl
    | 13, _ => simp only [cont, gA_s (show (7 : Nat) ≠ 10 + h by omega)]
    | 14, _ => rfl
    | k + 15, hk =>
      show contE ad cs σ k = contE ad cs (sA σ (10 + h) f) k
      unfold contE
      by_cases h1 : k < 9
      · rw [if_pos h1, if_pos h1]; rfl
      by_cases h2 : k < 18
      · rw [gA_s (show 10 + (k - 9) ≠ 10 + h by omega)]; rfl
      · rw [if_neg h1, if_neg h1, if_neg h2, if_neg h2]; rfl
theorem upd_10 {f : Nat → UInt64} (hh : h < 9) : va_up (cont ad cs σ) (33 + h) (.inl (cs.2.1, 2, .inr (.inr (.inr (.inl f))))) = cont ad cs (sD σ (10 + h) f) := by
  refine up_of ?_ ?_
  · rw [ct_v hh, gD_sD]
  · intro k hk
    match k, hk with
    | 0, _ => rfl
    | 1, _ => rfl
    | 2, _ => rfl
    | 3, _ => rfl
    | 4, _ => rfl
    | 5, _ => rfl
    | 6, _ => rfl
    | 7, _ => rfl
    | 8, _ => rfl
    | 9, _ => rfl
    | 10, _ => simp only [cont, gD_s (show (0 : Nat) ≠ 10 + h by omega)]
    | 11, _ => simp only [cont, gD_s (show (1 : Nat) ≠ 10 + h by omega)]
    | 12, _ => rfl
    | 13, _ => rfl
    | 14, _ => rfl
    | k + 15, hk =>
      show contE ad cs σ k = contE ad cs (sD σ (10 + h) f) k
      unfold contE
      by_cases h1 : k < 9
      · rw [if_pos h1, if_pos h1]; rfl
      by_cases h2 : k < 18
      · rw [if_neg h1, if_neg h1, if_pos h2, if_pos h2]; rfl
      by_cases h3 : k < 27
      · rw [if_neg h1, if_neg h1, if_neg h2, if_neg h2, if_pos h3, if_pos h3, gD_s (show 10 + (k - 18) ≠ 10 + h by omega)]
      · rw [if_neg h1, if_neg h1, if_neg h2, if_neg h2, if_neg h3, if_neg h3, gD_s (show 20 + (k - 27) ≠ 10 + h by omega)]
theorem upd_20 {f : Nat → UInt64} (hh : h < 9) : va_up (cont ad cs σ) (42 + h) (.inl (cs.2.1, 2, .inr (.inr (.inr (.inl f))))) = cont ad cs (sD σ (20 + h) f) := by
  refine up_of ?_ ?_
  · rw [ct_l hh, gD_sD]
  · intro k hk
    match k, hk with
    | 0, _ => rfl
    | 1, _ => rfl
    | 2, _ => rfl
    | 3, _ => rfl
    | 4, _ => rfl
    | 5, _ => rfl
    | 6, _ => rfl
    | 7, _ => rfl
    | 8, _ => rfl
    | 9, _ => rfl
    | 10, _ => simp only [cont, gD_s (show (0 : Nat) ≠ 20 + h by omega)]
    | 11, _ => simp only [cont, gD_s (show (1 : Nat) ≠ 20 + h by omega)]
    | 12, _ => rfl
    | 13, _ => rfl
    | 14, _ => rfl
    | k + 15, hk =>
      show contE ad cs σ k = contE ad cs (sD σ (20 + h) f) k
      unfold contE
      by_cases h1 : k < 9
      · rw [if_pos h1, if_pos h1]; rfl
      by_cases h2 : k < 18
      · rw [if_neg h1, if_neg h1, if_pos h2, if_pos h2]; rfl
      by_cases h3 : k < 27
      · rw [if_neg h1, if_neg h1, if_neg h2, if_neg h2, if_pos h3, if_pos h3, gD_s (show 10 + (k - 18) ≠ 20 + h by omega)]
      · rw [if_neg h1, if_neg h1, if_neg h2, if_neg h2, if_neg h3, if_neg h3, gD_s (show 20 + (k - 27) ≠ 20 + h by omega)]
end CT
end
section
/-! the words that contracts name: each a good word of the tables -/
theorem wC_7 : (.selects R_WK y_WK_fail y_WK_fail : Cond) ∈ wC := List.mem_filter.mpr ⟨List.mem_of_getElem? (i := 7) (by decide +kernel), rfl⟩
theorem wC_44 : (.initialized R_NF : Cond) ∈ wC := List.mem_filter.mpr ⟨List.mem_of_getElem? (i := 44) (by decide +kernel), rfl⟩
theorem wC_45 : (.initialized R_PR : Cond) ∈ wC := List.mem_filter.mpr ⟨List.mem_of_getElem? (i := 45) (by decide +kernel), rfl⟩
theorem wC_47 : (.initialized R_ST : Cond) ∈ wC := List.mem_filter.mpr ⟨List.mem_of_getElem? (i := 47) (by decide +kernel), rfl⟩
theorem wC_48 : (.initialized R_WK : Cond) ∈ wC := List.mem_filter.mpr ⟨List.mem_of_getElem? (i := 48) (by decide +kernel), rfl⟩
theorem wC_49 : (.initialized R_EN : Cond) ∈ wC := List.mem_filter.mpr ⟨List.mem_of_getElem? (i := 49) (by decide +kernel), rfl⟩
theorem wC_56 : (.initialized "java/lang/Math" : Cond) ∈ wC := List.mem_filter.mpr ⟨List.mem_of_getElem? (i := 56) (by decide +kernel), rfl⟩
theorem wC_78 : (.fieldLink R_PR 9 "NameForge$Program" "kinds" "[I" : Cond) ∈ wC := List.mem_filter.mpr ⟨List.mem_of_getElem? (i := 78) (by decide +kernel), rfl⟩
theorem wC_81 : (.fieldLink R_PR 15 "NameForge$Program" "as" "[I" : Cond) ∈ wC := List.mem_filter.mpr ⟨List.mem_of_getElem? (i := 81) (by decide +kernel), rfl⟩
theorem wC_84 : (.fieldLink R_PR 18 "NameForge$Program" "bs" "[I" : Cond) ∈ wC := List.mem_filter.mpr ⟨List.mem_of_getElem? (i := 84) (by decide +kernel), rfl⟩
theorem wC_87 : (.fieldLink R_PR 21 "NameForge$Program" "cs" "[I" : Cond) ∈ wC := List.mem_filter.mpr ⟨List.mem_of_getElem? (i := 87) (by decide +kernel), rfl⟩
theorem wC_90 : (.fieldLink R_PR 39 "NameForge$Program" "size" "I" : Cond) ∈ wC := List.mem_filter.mpr ⟨List.mem_of_getElem? (i := 90) (by decide +kernel), rfl⟩
theorem wC_92 : (.fieldLink R_PR 24 "NameForge$Program" "bodies" "[I" : Cond) ∈ wC := List.mem_filter.mpr ⟨List.mem_of_getElem? (i := 92) (by decide +kernel), rfl⟩
theorem wC_94 : (.fieldLink R_PR 27 "NameForge$Program" "parameters" "[I" : Cond) ∈ wC := List.mem_filter.mpr ⟨List.mem_of_getElem? (i := 94) (by decide +kernel), rfl⟩
theorem wC_96 : (.fieldLink R_PR 30 "NameForge$Program" "names" "[I" : Cond) ∈ wC := List.mem_filter.mpr ⟨List.mem_of_getElem? (i := 96) (by decide +kernel), rfl⟩
theorem wC_122 : (.fieldLink R_ST 9 "NameForge$Store" "variables" "[D" : Cond) ∈ wC := List.mem_filter.mpr ⟨List.mem_of_getElem? (i := 122) (by decide +kernel), rfl⟩
theorem wC_127 : (.fieldLink R_WK 149 "NameForge$Store" "elements" "[D" : Cond) ∈ wC := List.mem_filter.mpr ⟨List.mem_of_getElem? (i := 127) (by decide +kernel), rfl⟩
theorem wC_128 : (.fieldLink R_ST 18 "NameForge$Store" "firstRow" "I" : Cond) ∈ wC := List.mem_filter.mpr ⟨List.mem_of_getElem? (i := 128) (by decide +kernel), rfl⟩
theorem wC_129 : (.fieldLink R_ST 22 "NameForge$Store" "lastRow" "I" : Cond) ∈ wC := List.mem_filter.mpr ⟨List.mem_of_getElem? (i := 129) (by decide +kernel), rfl⟩
theorem wC_130 : (.fieldLink R_ST 25 "NameForge$Store" "firstColumn" "I" : Cond) ∈ wC := List.mem_filter.mpr ⟨List.mem_of_getElem? (i := 130) (by decide +kernel), rfl⟩
theorem wC_131 : (.fieldLink R_ST 28 "NameForge$Store" "lastColumn" "I" : Cond) ∈ wC := List.mem_filter.mpr ⟨List.mem_of_getElem? (i := 131) (by decide +kernel), rfl⟩
theorem wC_158 : (.fieldLink R_EN 22 "NameForge$Environment" "caller" "LNameForge$Environment;" : Cond) ∈ wC := List.mem_filter.mpr ⟨List.mem_of_getElem? (i := 158) (by decide +kernel), rfl⟩
theorem wC_160 : (.fieldLink R_EN 9 "NameForge$Environment" "given" "[I" : Cond) ∈ wC := List.mem_filter.mpr ⟨List.mem_of_getElem? (i := 160) (by decide +kernel), rfl⟩
theorem wC_162 : (.fieldLink R_EN 15 "NameForge$Environment" "values" "[D" : Cond) ∈ wC := List.mem_filter.mpr ⟨List.mem_of_getElem? (i := 162) (by decide +kernel), rfl⟩
theorem wC_165 : (.fieldLink R_WK 96 "NameForge$Environment" "locals" "[D" : Cond) ∈ wC := List.mem_filter.mpr ⟨List.mem_of_getElem? (i := 165) (by decide +kernel), rfl⟩
theorem wC_166 : (.fieldLink R_EN 26 "NameForge$Environment" "parameters" "I" : Cond) ∈ wC := List.mem_filter.mpr ⟨List.mem_of_getElem? (i := 166) (by decide +kernel), rfl⟩
theorem wC_167 : (.fieldLink R_EN 30 "NameForge$Environment" "names" "I" : Cond) ∈ wC := List.mem_filter.mpr ⟨List.mem_of_getElem? (i := 167) (by decide +kernel), rfl⟩
theorem wC_182 : (.fieldLink R_WK 38 "NameForge$Worker" "worked" "I" : Cond) ∈ wC := List.mem_filter.mpr ⟨List.mem_of_getElem? (i := 182) (by decide +kernel), rfl⟩
theorem wC_184 : (.fieldLink R_WK 41 "NameForge$Worker" "fault" "I" : Cond) ∈ wC := List.mem_filter.mpr ⟨List.mem_of_getElem? (i := 184) (by decide +kernel), rfl⟩
theorem wC_188 : (.fieldLink R_WK 47 "NameForge$Worker" "mostEnvironments" "I" : Cond) ∈ wC := List.mem_filter.mpr ⟨List.mem_of_getElem? (i := 188) (by decide +kernel), rfl⟩
theorem wC_193 : (.fieldLink R_WK 34 "NameForge$Worker" "store" "LNameForge$Store;" : Cond) ∈ wC := List.mem_filter.mpr ⟨List.mem_of_getElem? (i := 193) (by decide +kernel), rfl⟩
theorem wC_196 : (.fieldLink R_WK 22 "NameForge$Worker" "openLabels" "[I" : Cond) ∈ wC := List.mem_filter.mpr ⟨List.mem_of_getElem? (i := 196) (by decide +kernel), rfl⟩
theorem wC_198 : (.fieldLink R_WK 57 "NameForge$Worker" "openEnvironments" "I" : Cond) ∈ wC := List.mem_filter.mpr ⟨List.mem_of_getElem? (i := 198) (by decide +kernel), rfl⟩
theorem wC_199 : (.fieldLink R_WK 26 "NameForge$Worker" "jumpingTo" "I" : Cond) ∈ wC := List.mem_filter.mpr ⟨List.mem_of_getElem? (i := 199) (by decide +kernel), rfl⟩
theorem wC_259 : (.static y_NF_isBelow : Cond) ∈ wC := List.mem_filter.mpr ⟨List.mem_of_getElem? (i := 259) (by decide +kernel), rfl⟩
set_option maxRecDepth 100000 in
theorem wC_260 : (.code y_NF_isBelow b_NF_isBelow 2 (some .boolean) : Cond) ∈ wC := List.mem_filter.mpr ⟨List.mem_of_getElem? (i := 260) rfl, rfl⟩
theorem wC_267 : (.methodLink R_PR 59 y_PR_has : Cond) ∈ wC := List.mem_filter.mpr ⟨List.mem_of_getElem? (i := 267) (by decide +kernel), rfl⟩
theorem wC_268 : (.instanceMethod y_PR_has : Cond) ∈ wC := List.mem_filter.mpr ⟨List.mem_of_getElem? (i := 268) (by decide +kernel), rfl⟩
theorem wC_269 : (.selects R_PR y_PR_has y_PR_has : Cond) ∈ wC := List.mem_filter.mpr ⟨List.mem_of_getElem? (i := 269) (by decide +kernel), rfl⟩
set_option maxRecDepth 100000 in
theorem wC_270 : (.code y_PR_has b_PR_has 2 (some .boolean) : Cond) ∈ wC := List.mem_filter.mpr ⟨List.mem_of_getElem? (i := 270) rfl, rfl⟩
theorem wC_410 : (.static y_NF_isWithinSize : Cond) ∈ wC := List.mem_filter.mpr ⟨List.mem_of_getElem? (i := 410) (by decide +kernel), rfl⟩
set_option maxRecDepth 100000 in
theorem wC_411 : (.code y_NF_isWithinSize b_NF_isWithinSize 2 (some .boolean) : Cond) ∈ wC := List.mem_filter.mpr ⟨List.mem_of_getElem? (i := 411) rfl, rfl⟩
theorem wC_412 : (.constantDouble R_NF 183 13965043853221167104 : Cond) ∈ wC := List.mem_filter.mpr ⟨List.mem_of_getElem? (i := 412) (by decide +kernel), rfl⟩
theorem wC_413 : (.constantDouble R_NF 185 4741671816366391296 : Cond) ∈ wC := List.mem_filter.mpr ⟨List.mem_of_getElem? (i := 413) (by decide +kernel), rfl⟩
theorem wC_420 : (.static y_NF_rounded : Cond) ∈ wC := List.mem_filter.mpr ⟨List.mem_of_getElem? (i := 420) (by decide +kernel), rfl⟩
set_option maxRecDepth 100000 in
theorem wC_421 : (.code y_NF_rounded b_NF_rounded 6 (some .long) : Cond) ∈ wC := List.mem_filter.mpr ⟨List.mem_of_getElem? (i := 421) rfl, rfl⟩
theorem wC_422 : (.constantDouble R_NF 187 4602678819172646912 : Cond) ∈ wC := List.mem_filter.mpr ⟨List.mem_of_getElem? (i := 422) (by decide +kernel), rfl⟩
theorem wC_464 : (.methodLink R_WK 99 y_WK_fail : Cond) ∈ wC := List.mem_filter.mpr ⟨List.mem_of_getElem? (i := 464) (by decide +kernel), rfl⟩
theorem wC_466 : (.instanceMethod y_WK_fail : Cond) ∈ wC := List.mem_filter.mpr ⟨List.mem_of_getElem? (i := 466) (by decide +kernel), rfl⟩
set_option maxRecDepth 100000 in
theorem wC_467 : (.code y_WK_fail b_WK_fail 2 (some .double) : Cond) ∈ wC := List.mem_filter.mpr ⟨List.mem_of_getElem? (i := 467) rfl, rfl⟩
theorem wC_476 : (.methodLink R_WK 60 Lib.Math.max.name : Cond) ∈ wC := List.mem_filter.mpr ⟨List.mem_of_getElem? (i := 476) (by decide +kernel), rfl⟩
theorem wC_477 : (.static Lib.Math.max.name : Cond) ∈ wC := List.mem_filter.mpr ⟨List.mem_of_getElem? (i := 477) (by decide +kernel), rfl⟩
set_option maxRecDepth 100000 in
theorem wC_478 : (.code Lib.Math.max.name Lib.Math.max.code 2 (some .int) : Cond) ∈ wC := List.mem_filter.mpr ⟨List.mem_of_getElem? (i := 478) rfl, rfl⟩
theorem wC_479 : (.methodLink R_WK 92 y_EN_hasLocals : Cond) ∈ wC := List.mem_filter.mpr ⟨List.mem_of_getElem? (i := 479) (by decide +kernel), rfl⟩
theorem wC_480 : (.instanceMethod y_EN_hasLocals : Cond) ∈ wC := List.mem_filter.mpr ⟨List.mem_of_getElem? (i := 480) (by decide +kernel), rfl⟩
theorem wC_481 : (.selects R_EN y_EN_hasLocals y_EN_hasLocals : Cond) ∈ wC := List.mem_filter.mpr ⟨List.mem_of_getElem? (i := 481) (by decide +kernel), rfl⟩
set_option maxRecDepth 100000 in
theorem wC_482 : (.code y_EN_hasLocals b_EN_hasLocals 1 (some .boolean) : Cond) ∈ wC := List.mem_filter.mpr ⟨List.mem_of_getElem? (i := 482) rfl, rfl⟩
theorem wC_522 : (.methodLink R_WK 145 y_ST_holds : Cond) ∈ wC := List.mem_filter.mpr ⟨List.mem_of_getElem? (i := 522) (by decide +kernel), rfl⟩
theorem wC_523 : (.instanceMethod y_ST_holds : Cond) ∈ wC := List.mem_filter.mpr ⟨List.mem_of_getElem? (i := 523) (by decide +kernel), rfl⟩
theorem wC_524 : (.selects R_ST y_ST_holds y_ST_holds : Cond) ∈ wC := List.mem_filter.mpr ⟨List.mem_of_getElem? (i := 524) (by decide +kernel), rfl⟩
set_option maxRecDepth 100000 in
theorem wC_525 : (.code y_ST_holds b_ST_holds 5 (some .boolean) : Cond) ∈ wC := List.mem_filter.mpr ⟨List.mem_of_getElem? (i := 525) rfl, rfl⟩
theorem wC_526 : (.methodLink R_WK 152 y_ST_place : Cond) ∈ wC := List.mem_filter.mpr ⟨List.mem_of_getElem? (i := 526) (by decide +kernel), rfl⟩
theorem wC_527 : (.instanceMethod y_ST_place : Cond) ∈ wC := List.mem_filter.mpr ⟨List.mem_of_getElem? (i := 527) (by decide +kernel), rfl⟩
theorem wC_528 : (.selects R_ST y_ST_place y_ST_place : Cond) ∈ wC := List.mem_filter.mpr ⟨List.mem_of_getElem? (i := 528) (by decide +kernel), rfl⟩
set_option maxRecDepth 100000 in
theorem wC_529 : (.code y_ST_place b_ST_place 5 (some .int) : Cond) ∈ wC := List.mem_filter.mpr ⟨List.mem_of_getElem? (i := 529) rfl, rfl⟩
def wN : List Cond := [.methodLinkNest R_PR 43 y_NF_isBelow "NameForge", .methodLinkNest R_ST 37 y_NF_rounded "NameForge", .methodLinkNest R_WK 156 y_NF_isWithinSize "NameForge"]
theorem wN_258 : (.methodLinkNest R_PR 43 y_NF_isBelow "NameForge" : Cond) ∈ wN := List.mem_of_getElem? (i := 0) rfl
theorem wN_419 : (.methodLinkNest R_ST 37 y_NF_rounded "NameForge" : Cond) ∈ wN := List.mem_of_getElem? (i := 1) rfl
theorem wN_566 : (.methodLinkNest R_WK 156 y_NF_isWithinSize "NameForge" : Cond) ∈ wN := List.mem_of_getElem? (i := 2) rfl
/-- the nest mates' links -/
def NW (U : State) : Prop := ∀ w ∈ wN, va_Nw w U
theorem wN_form : ∀ w ∈ wN, ∃ (a : String) (i : Nat) (x : MethodName) (h : String), w = .methodLinkNest a i x h := by
  intro w hw
  simp only [wN, List.mem_cons, List.not_mem_nil, or_false] at hw
  rcases hw with rfl | rfl | rfl <;> exact ⟨_, _, _, _, rfl⟩
theorem NW.warm {s U : State} (h : NW s) (hW : s.WarmedH U.vm) : NW U := by
  intro w hw
  obtain ⟨a, i, x, y, rfl⟩ := wN_form w hw
  exact va_Nw.warmM hW (h _ hw)
theorem NW.same {u U : State} (h : NW u) (e : u.vm = U.vm) : NW U := by
  intro w hw
  obtain ⟨a, i, x, y, rfl⟩ := wN_form w hw
  exact va_Nw.same rfl e (h _ hw)
/-- the class's world holds the state σ -/
abbrev cP (D : va_G) (cs : CI) (ad : Nat → Nat) (σ : CS) (U : State) : Prop := va_P D clA (wd ad (cont ad cs σ) 51) U.heap ∧ va_K D clA (tyC cs) U ∧ NW U
theorem cP_blind {D : va_G} {cs : CI} {ad : Nat → Nat} {σ : CS} {av : List Value} : FrameBlind (va_Pc av (cP D cs ad σ)) :=
  fun a U g mk h => ⟨h.1, h.2.1, va_K.moved (u := U) (U := U.calling g mk a) (Vm.Alike.refl U.vm) h.2.2.1, h.2.2.2.same rfl⟩
theorem good_C {c0 c1 : Cond} (h : c1 ∈ wC) : GoodIn (c0 :: wC) (c1 :: wC) := by
  intro w hw
  have hm : w ∈ wC := by
    rcases List.mem_cons.mp hw with rfl | h1
    · exact h
    · exact h1
  exact ⟨List.mem_cons_of_mem _ hm, wC_good hm⟩
theorem good_V {c0 : Cond} {own C : String} {idx : Nat} {y : MethodName} {c1 : Cond} (h1 : .methodLink own idx y ∈ wC) (h2 : .instanceMethod y ∈ wC) (h3 : .selects C y y ∈ wC) (h4 : .initialized C ∈ wC) (h5 : c1 ∈ wC) : GoodIn (c0 :: wC) (wsV own idx C y (c1 :: wC)) := by
  intro w hw
  have hm : w ∈ wC := by
    simp only [wsV, List.cons_append, List.nil_append, List.mem_cons] at hw
    rcases hw with rfl | rfl | rfl | rfl | rfl | h
    · exact h1
    · exact h2
    · exact h3
    · exact h4
    · exact h5
    · exact h
  exact ⟨List.mem_cons_of_mem _ hm, wC_good hm⟩
theorem good_S {c0 : Cond} {own : String} {idx : Nat} {y : MethodName} {c1 : Cond} (h1 : .methodLink own idx y ∈ wC) (h2 : .static y ∈ wC) (h4 : .initialized y.cls ∈ wC) (h5 : c1 ∈ wC) : GoodIn (c0 :: wC) (va_wsS own idx y (c1 :: wC)) := by
  intro w hw
  have hm : w ∈ wC := by
    simp only [va_wsS, List.cons_append, List.nil_append, List.mem_cons] at hw
    rcases hw with rfl | rfl | rfl | rfl | h
    · exact h1
    · exact h2
    · exact h4
    · exact h5
    · exact h
  exact ⟨List.mem_cons_of_mem _ hm, wC_good hm⟩
end
section
def wp_NF_isBelow (p1 : Int32) (p2 : Int32) (σ : CS) (Q : Int32 → CS → Prop) : Prop := ((p1 < 0 → Q 0 σ) ∧ (¬ p1 < 0 → ((p2 ≤ p1 → Q 0 σ) ∧ (¬ p2 ≤ p1 → Q 1 σ))))
set_option maxHeartbeats 4000000 in
set_option maxRecDepth 100000 in
theorem c_NF_isBelow {l : Launch} {D : va_G} {cs : CI} {ad : Nat → Nat} (hi : aI ad 51) {p1 : Int32} {p2 : Int32} {σ : CS} {Q : Int32 → CS → Prop} (hq : wp_NF_isBelow p1 p2 σ Q) : Met l y_NF_isBelow (.code y_NF_isBelow b_NF_isBelow 2 (some .boolean) :: wC) ({ frames := 0, cells := 0, slots := 0, locals := 0 }) (va_Pc [.int p1, .int p2] (cP D cs ad σ)) (va_Qi Q (cP D cs ad) (aK ad 51)) 0 0 (aK ad 51) := by
  refine Met.ofW (cc := b_NF_isBelow) (maxL := 2) (ret := (some .boolean)) (by decide) rfl ?_
  intro p e s m args below meth c s₁ B hml hv
  obtain ⟨rfl, hP, hK, hN⟩ := hv
  have hx := B.exec
  have hb := B.bytes
  have hr := B.returns
  have hts := atoms_spec (ws := .code y_NF_isBelow b_NF_isBelow 2 (some .boolean) :: wC) B.pre
  have ht : ∀ w ∈ wC, w.before _ s = true := fun w h => hts w (List.mem_cons_of_mem _ h)
  have hown : s.vm.findClass R_NF = some m.cls := findClass_of_methodNamed B.named
  have hlocks := B.notSynchronized
  have hS : va_S (aK ad 51) s.heap s.heap [] := va_S.rf
  have hl := lv_entry ([.int p1, .int p2]) (n := 2) (Nat.le_of_ble_eq_true rfl)
  rw [lg_entry_eq]
  generalize (lg_sl ([.int p1, .int p2]) ++ List.replicate (2 - (lg_sl ([.int p1, .int p2])).length) Slot.unset).toArray = ls at hl ⊢
  have hl : lv_has ls 2 [(0, .int p1), (1, .int p2)] := hl
  unfold wp_NF_isBelow at hq
  have hh8 : 8 < 9 := by decide
  refine lv_iload_n hx hb d_NF_isBelow_0 rfl (lv_at hl 0 rfl) ?_
  refine lv_if_lt (tgt := 13) hx hb d_NF_isBelow_1 (by decide) (fun c1 => ?_) (fun c1 => ?_)
  · have hq := hq.1 c1
    refine lv_iconst (v := 0) hx hb d_NF_isBelow_13 (by decide) ?_
    exact W.zret hx hb hr rfl (fun t ht hW => ⟨⟨0, σ, rfl, hq, by rw [ht]; exact hP, va_K.moved hW.alike hK, hN.warm hW⟩, hS.F ht⟩) hS.2.2 d_NF_isBelow_14
  · have hq := hq.2 c1
    refine lv_iload_n hx hb d_NF_isBelow_4 rfl (lv_at hl 0 rfl) ?_
    refine lv_iload_n hx hb d_NF_isBelow_5 rfl (lv_at hl 1 rfl) ?_
    refine lv_icmp_ge (tgt := 13) hx hb d_NF_isBelow_6 (by decide) (fun c2 => ?_) (fun c2 => ?_)
    · have hq := hq.1 c2
      refine lv_iconst (v := 0) hx hb d_NF_isBelow_13 (by decide) ?_
      exact W.zret hx hb hr rfl (fun t ht hW => ⟨⟨0, σ, rfl, hq, by rw [ht]; exact hP, va_K.moved hW.alike hK, hN.warm hW⟩, hS.F ht⟩) hS.2.2 d_NF_isBelow_14
    · have hq := hq.2 c2
      refine lv_iconst (v := 1) hx hb d_NF_isBelow_9 (by decide) ?_
      refine lv_goto (tgt := 14) hx hb d_NF_isBelow_10 (by decide) ?_
      exact W.zret hx hb hr rfl (fun t ht hW => ⟨⟨1, σ, rfl, hq, by rw [ht]; exact hP, va_K.moved hW.alike hK, hN.warm hW⟩, hS.F ht⟩) hS.2.2 d_NF_isBelow_14
def wp_NF_areBounds (p1 : Int32) (p2 : Int32) (σ : CS) (Q : Int32 → CS → Prop) : Prop := ((p1 < (-9) → Q 0 σ) ∧ (¬ p1 < (-9) → ((9 < p2 → Q 0 σ) ∧ (¬ 9 < p2 → ((p2 < p1 → Q 0 σ) ∧ (¬ p2 < p1 → ((5 ≤ (p2 - p1) → Q 0 σ) ∧ (¬ 5 ≤ (p2 - p1) → Q 1 σ))))))))
set_option maxHeartbeats 4000000 in
set_option maxRecDepth 100000 in
theorem c_NF_areBounds {l : Launch} {D : va_G} {cs : CI} {ad : Nat → Nat} (hi : aI ad 51) {p1 : Int32} {p2 : Int32} {σ : CS} {Q : Int32 → CS → Prop} (hq : wp_NF_areBounds p1 p2 σ Q) : Met l y_NF_areBounds (.code y_NF_areBounds b_NF_areBounds 2 (some .boolean) :: wC) ({ frames := 0, cells := 0, slots := 0, locals := 0 }) (va_Pc [.int p1, .int p2] (cP D cs ad σ)) (va_Qi Q (cP D cs ad) (aK ad 51)) 0 0 (aK ad 51) := by
  refine Met.ofW (cc := b_NF_areBounds) (maxL := 2) (ret := (some .boolean)) (by decide) rfl ?_
  intro p e s m args below meth c s₁ B hml hv
  obtain ⟨rfl, hP, hK, hN⟩ := hv
  have hx := B.exec
  have hb := B.bytes
  have hr := B.returns
  have hts := atoms_spec (ws := .code y_NF_areBounds b_NF_areBounds 2 (some .boolean) :: wC) B.pre
  have ht : ∀ w ∈ wC, w.before _ s = true := fun w h => hts w (List.mem_cons_of_mem _ h)
  have hown : s.vm.findClass R_NF = some m.cls := findClass_of_methodNamed B.named
  have hlocks := B.notSynchronized
  have hS : va_S (aK ad 51) s.heap s.heap [] := va_S.rf
  have hl := lv_entry ([.int p1, .int p2]) (n := 2) (Nat.le_of_ble_eq_true rfl)
  rw [lg_entry_eq]
  generalize (lg_sl ([.int p1, .int p2]) ++ List.replicate (2 - (lg_sl ([.int p1, .int p2])).length) Slot.unset).toArray = ls at hl ⊢
  have hl : lv_has ls 2 [(0, .int p1), (1, .int p2)] := hl
  unfold wp_NF_areBounds at hq
  have hh8 : 8 < 9 := by decide
  refine lv_iload_n hx hb d_NF_areBounds_0 rfl (lv_at hl 0 rfl) ?_
  refine lv_bipush (v := (-9)) hx hb d_NF_areBounds_1 (by decide) ?_
  refine lv_icmp_lt (tgt := 28) hx hb d_NF_areBounds_3 (by decide) (fun c1 => ?_) (fun c1 => ?_)
  · have hq := hq.1 c1
    refine lv_iconst (v := 0) hx hb d_NF_areBounds_28 (by decide) ?_
    exact W.zret hx hb hr rfl (fun t ht hW => ⟨⟨0, σ, rfl, hq, by rw [ht]; exact hP, va_K.moved hW.alike hK, hN.warm hW⟩, hS.F ht⟩) hS.2.2 d_NF_areBounds_29
  · have hq := hq.2 c1
    refine lv_iload_n hx hb d_NF_areBounds_6 rfl (lv_at hl 1 rfl) ?_
    refine lv_bipush (v := 9) hx hb d_NF_areBounds_7 (by decide) ?_
    refine lv_icmp_gt (tgt := 28) hx hb d_NF_areBounds_9 (by decide) (fun c2 => ?_) (fun c2 => ?_)
    · have hq := hq.1 c2
      refine lv_iconst (v := 0) hx hb d_NF_areBounds_28 (by decide) ?_
      exact W.zret hx hb hr rfl (fun t ht hW => ⟨⟨0, σ, rfl, hq, by rw [ht]; exact hP, va_K.moved hW.alike hK, hN.warm hW⟩, hS.F ht⟩) hS.2.2 d_NF_areBounds_29
    · have hq := hq.2 c2
      refine lv_iload_n hx hb d_NF_areBounds_12 rfl (lv_at hl 0 rfl) ?_
      refine lv_iload_n hx hb d_NF_areBounds_13 rfl (lv_at hl 1 rfl) ?_
      refine lv_icmp_gt (tgt := 28) hx hb d_NF_areBounds_14 (by decide) (fun c3 => ?_) (fun c3 => ?_)
      · have hq := hq.1 c3
        refine lv_iconst (v := 0) hx hb d_NF_areBounds_28 (by decide) ?_
        exact W.zret hx hb hr rfl (fun t ht hW => ⟨⟨0, σ, rfl, hq, by rw [ht]; exact hP, va_K.moved hW.alike hK, hN.warm hW⟩, hS.F ht⟩) hS.2.2 d_NF_areBounds_29
      · have hq := hq.2 c3
        refine lv_iload_n hx hb d_NF_areBounds_17 rfl (lv_at hl 1 rfl) ?_
        refine lv_iload_n hx hb d_NF_areBounds_18 rfl (lv_at hl 0 rfl) ?_
        refine lv_isub hx hb d_NF_areBounds_19 ?_
        refine lv_iconst (v := 5) hx hb d_NF_areBounds_20 (by decide) ?_
        refine lv_icmp_ge (tgt := 28) hx hb d_NF_areBounds_21 (by decide) (fun c4 => ?_) (fun c4 => ?_)
        · have hq := hq.1 c4
          refine lv_iconst (v := 0) hx hb d_NF_areBounds_28 (by decide) ?_
          exact W.zret hx hb hr rfl (fun t ht hW => ⟨⟨0, σ, rfl, hq, by rw [ht]; exact hP, va_K.moved hW.alike hK, hN.warm hW⟩, hS.F ht⟩) hS.2.2 d_NF_areBounds_29
        · have hq := hq.2 c4
          refine lv_iconst (v := 1) hx hb d_NF_areBounds_24 (by decide) ?_
          refine lv_goto (tgt := 29) hx hb d_NF_areBounds_25 (by decide) ?_
          exact W.zret hx hb hr rfl (fun t ht hW => ⟨⟨1, σ, rfl, hq, by rw [ht]; exact hP, va_K.moved hW.alike hK, hN.warm hW⟩, hS.F ht⟩) hS.2.2 d_NF_areBounds_29
def wp_NF_isWithinSize (p1 : UInt64) (σ : CS) (Q : Int32 → CS → Prop) : Prop := (((Op.cmpValue (FP.dcmp p1 13965043853221167104) .l) < 0 → Q 0 σ) ∧ (¬ (Op.cmpValue (FP.dcmp p1 13965043853221167104) .l) < 0 → ((0 < (Op.cmpValue (FP.dcmp p1 4741671816366391296) .g) → Q 0 σ) ∧ (¬ 0 < (Op.cmpValue (FP.dcmp p1 4741671816366391296) .g) → Q 1 σ))))
set_option maxHeartbeats 4000000 in
set_option maxRecDepth 100000 in
theorem c_NF_isWithinSize {l : Launch} {D : va_G} {cs : CI} {ad : Nat → Nat} (hi : aI ad 51) {p1 : UInt64} {σ : CS} {Q : Int32 → CS → Prop} (hq : wp_NF_isWithinSize p1 σ Q) : Met l y_NF_isWithinSize (.code y_NF_isWithinSize b_NF_isWithinSize 2 (some .boolean) :: wC) ({ frames := 0, cells := 0, slots := 0, locals := 0 }) (va_Pc [.double p1] (cP D cs ad σ)) (va_Qi Q (cP D cs ad) (aK ad 51)) 0 0 (aK ad 51) := by
  refine Met.ofW (cc := b_NF_isWithinSize) (maxL := 2) (ret := (some .boolean)) (by decide) rfl ?_
  intro p e s m args below meth c s₁ B hml hv
  obtain ⟨rfl, hP, hK, hN⟩ := hv
  have hx := B.exec
  have hb := B.bytes
  have hr := B.returns
  have hts := atoms_spec (ws := .code y_NF_isWithinSize b_NF_isWithinSize 2 (some .boolean) :: wC) B.pre
  have ht : ∀ w ∈ wC, w.before _ s = true := fun w h => hts w (List.mem_cons_of_mem _ h)
  have hown : s.vm.findClass R_NF = some m.cls := findClass_of_methodNamed B.named
  have hlocks := B.notSynchronized
  have hS : va_S (aK ad 51) s.heap s.heap [] := va_S.rf
  have hl := lv_entry ([.double p1]) (n := 2) (Nat.le_of_ble_eq_true rfl)
  rw [lg_entry_eq]
  generalize (lg_sl ([.double p1]) ++ List.replicate (2 - (lg_sl ([.double p1])).length) Slot.unset).toArray = ls at hl ⊢
  have hl : lv_has ls 2 [(0, .double p1)] := hl
  unfold wp_NF_isWithinSize at hq
  have hh8 : 8 < 9 := by decide
  refine lv_dload_n hx hb d_NF_isWithinSize_0 rfl (lv_at hl 0 rfl) ?_
  refine lv_ldc2d hx hb hown (ht _ wC_412) d_NF_isWithinSize_1 ?_
  refine lv_dcmp hx hb d_NF_isWithinSize_4 ?_
  refine lv_if_lt (tgt := 20) hx hb d_NF_isWithinSize_5 (by decide) (fun c1 => ?_) (fun c1 => ?_)
  · have hq := hq.1 c1
    refine lv_iconst (v := 0) hx hb d_NF_isWithinSize_20 (by decide) ?_
    exact W.zret hx hb hr rfl (fun t ht hW => ⟨⟨0, σ, rfl, hq, by rw [ht]; exact hP, va_K.moved hW.alike hK, hN.warm hW⟩, hS.F ht⟩) hS.2.2 d_NF_isWithinSize_21
  · have hq := hq.2 c1
    refine lv_dload_n hx hb d_NF_isWithinSize_8 rfl (lv_at hl 0 rfl) ?_
    refine lv_ldc2d hx hb hown (ht _ wC_413) d_NF_isWithinSize_9 ?_
    refine lv_dcmp hx hb d_NF_isWithinSize_12 ?_
    refine lv_if_gt (tgt := 20) hx hb d_NF_isWithinSize_13 (by decide) (fun c2 => ?_) (fun c2 => ?_)
    · have hq := hq.1 c2
      refine lv_iconst (v := 0) hx hb d_NF_isWithinSize_20 (by decide) ?_
      exact W.zret hx hb hr rfl (fun t ht hW => ⟨⟨0, σ, rfl, hq, by rw [ht]; exact hP, va_K.moved hW.alike hK, hN.warm hW⟩, hS.F ht⟩) hS.2.2 d_NF_isWithinSize_21
    · have hq := hq.2 c2
      refine lv_iconst (v := 1) hx hb d_NF_isWithinSize_16 (by decide) ?_
      refine lv_goto (tgt := 21) hx hb d_NF_isWithinSize_17 (by decide) ?_
      exact W.zret hx hb hr rfl (fun t ht hW => ⟨⟨1, σ, rfl, hq, by rw [ht]; exact hP, va_K.moved hW.alike hK, hN.warm hW⟩, hS.F ht⟩) hS.2.2 d_NF_isWithinSize_21
def wp_NF_rounded (p1 : UInt64) (σ : CS) (Q : Int64 → CS → Prop) : Prop := (vf_n64 (FP.dadd p1 4602678819172646912) ∧ (((Op.cmpValue (FP.dcmp (FP.l2d (FP.d2l (FP.dadd p1 4602678819172646912))) (FP.dadd p1 4602678819172646912)) .l) ≤ 0 → Q (FP.d2l (FP.dadd p1 4602678819172646912)) σ) ∧ (¬ (Op.cmpValue (FP.dcmp (FP.l2d (FP.d2l (FP.dadd p1 4602678819172646912))) (FP.dadd p1 4602678819172646912)) .l) ≤ 0 → Q ((FP.d2l (FP.dadd p1 4602678819172646912)) - 1) σ)))
set_option maxHeartbeats 4000000 in
set_option maxRecDepth 100000 in
theorem c_NF_rounded {l : Launch} {D : va_G} {cs : CI} {ad : Nat → Nat} (hi : aI ad 51) {p1 : UInt64} {σ : CS} {Q : Int64 → CS → Prop} (hq : wp_NF_rounded p1 σ Q) : Met l y_NF_rounded (.code y_NF_rounded b_NF_rounded 6 (some .long) :: wC) ({ frames := 0, cells := 0, slots := 0, locals := 0 }) (va_Pc [.double p1] (cP D cs ad σ)) (va_Ql Q (cP D cs ad) (aK ad 51)) 0 0 (aK ad 51) := by
  refine Met.ofW (cc := b_NF_rounded) (maxL := 6) (ret := (some .long)) (by decide) rfl ?_
  intro p e s m args below meth c s₁ B hml hv
  obtain ⟨rfl, hP, hK, hN⟩ := hv
  have hx := B.exec
  have hb := B.bytes
  have hr := B.returns
  have hts := atoms_spec (ws := .code y_NF_rounded b_NF_rounded 6 (some .long) :: wC) B.pre
  have ht : ∀ w ∈ wC, w.before _ s = true := fun w h => hts w (List.mem_cons_of_mem _ h)
  have hown : s.vm.findClass R_NF = some m.cls := findClass_of_methodNamed B.named
  have hlocks := B.notSynchronized
  have hS : va_S (aK ad 51) s.heap s.heap [] := va_S.rf
  have hl := lv_entry ([.double p1]) (n := 6) (Nat.le_of_ble_eq_true rfl)
  rw [lg_entry_eq]
  generalize (lg_sl ([.double p1]) ++ List.replicate (6 - (lg_sl ([.double p1])).length) Slot.unset).toArray = ls at hl ⊢
  have hl : lv_has ls 6 [(0, .double p1)] := hl
  unfold wp_NF_rounded at hq
  have hh8 : 8 < 9 := by decide
  refine lv_dload_n hx hb d_NF_rounded_0 rfl (lv_at hl 0 rfl) ?_
  refine lv_ldc2d hx hb hown (ht _ wC_422) d_NF_rounded_1 ?_
  refine lv_dadd hx hb d_NF_rounded_4 hq.1 ?_
  have hq := hq.2
  refine lv_dstore_n (lv' := [(2, .double (FP.dadd p1 4602678819172646912)), (0, .double p1)]) hx hb d_NF_rounded_5 rfl hl (by decide) rfl (fun ls hl => ?_)
  refine lv_dload_n hx hb d_NF_rounded_6 rfl (lv_at hl 0 rfl) ?_
  refine lv_d2l hx hb d_NF_rounded_7 ?_
  refine lv_lstore (lv' := [(4, .long (FP.d2l (FP.dadd p1 4602678819172646912))), (2, .double (FP.dadd p1 4602678819172646912)), (0, .double p1)]) hx hb d_NF_rounded_8 hl (by decide) rfl (fun ls hl => ?_)
  refine lv_lload hx hb d_NF_rounded_10 (lv_at hl 0 rfl) ?_
  refine lv_l2d hx hb d_NF_rounded_12 ?_
  refine lv_dload_n hx hb d_NF_rounded_13 rfl (lv_at hl 1 rfl) ?_
  refine lv_dcmp hx hb d_NF_rounded_14 ?_
  refine lv_if_le (tgt := 25) hx hb d_NF_rounded_15 (by decide) (fun c1 => ?_) (fun c1 => ?_)
  · have hq := hq.1 c1
    refine lv_lload hx hb d_NF_rounded_25 (lv_at hl 0 rfl) ?_
    exact W.lret hx hb hr (fun t ht hW => ⟨⟨(FP.d2l (FP.dadd p1 4602678819172646912)), σ, rfl, hq, by rw [ht]; exact hP, va_K.moved hW.alike hK, hN.warm hW⟩, hS.F ht⟩) hS.2.2 d_NF_rounded_27
  · have hq := hq.2 c1
    refine lv_lload hx hb d_NF_rounded_18 (lv_at hl 0 rfl) ?_
    refine lv_lconst (v := 1) hx hb d_NF_rounded_20 (by decide) ?_
    refine lv_lsub hx hb d_NF_rounded_21 ?_
    refine lv_goto (tgt := 27) hx hb d_NF_rounded_22 (by decide) ?_
    exact W.lret hx hb hr (fun t ht hW => ⟨⟨((FP.d2l (FP.dadd p1 4602678819172646912)) - 1), σ, rfl, hq, by rw [ht]; exact hP, va_K.moved hW.alike hK, hN.warm hW⟩, hS.F ht⟩) hS.2.2 d_NF_rounded_27
def wp_PR_has (p1 : Int32) (σ : CS) (Q : Int32 → CS → Prop) : Prop := (wp_NF_isBelow p1 (gI σ 8) σ (fun r1 s2 => (vp_z r1 ∧ Q r1 s2)))
set_option maxHeartbeats 4000000 in
set_option maxRecDepth 100000 in
theorem c_PR_has {l : Launch} {D : va_G} {cs : CI} {ad : Nat → Nat} (hi : aI ad 51) {p1 : Int32} {σ : CS} {Q : Int32 → CS → Prop} (hq : wp_PR_has p1 σ Q) : Met l y_PR_has (.code y_PR_has b_PR_has 2 (some .boolean) :: wC) ({ frames := 1, cells := 0, slots := 0, locals := 21 }) (va_Pc [.ref (ad 1), .int p1] (cP D cs ad σ)) (va_Qi Q (cP D cs ad) (aK ad 51)) 0 0 (aK ad 51) := by
  refine Met.ofW (cc := b_PR_has) (maxL := 2) (ret := (some .boolean)) (by decide) rfl ?_
  intro p e s m args below meth c s₁ B hml hv
  obtain ⟨rfl, hP, hK, hN⟩ := hv
  have hx := B.exec
  have hb := B.bytes
  have hr := B.returns
  have hts := atoms_spec (ws := .code y_PR_has b_PR_has 2 (some .boolean) :: wC) B.pre
  have ht : ∀ w ∈ wC, w.before _ s = true := fun w h => hts w (List.mem_cons_of_mem _ h)
  have hown : s.vm.findClass R_PR = some m.cls := findClass_of_methodNamed B.named
  have hlocks := B.notSynchronized
  have hS : va_S (aK ad 51) s.heap s.heap [] := va_S.rf
  have hl := lv_entry ([.ref (ad 1), .int p1]) (n := 2) (Nat.le_of_ble_eq_true rfl)
  rw [lg_entry_eq]
  generalize (lg_sl ([.ref (ad 1), .int p1]) ++ List.replicate (2 - (lg_sl ([.ref (ad 1), .int p1])).length) Slot.unset).toArray = ls at hl ⊢
  have hl : lv_has ls 2 [(0, .ref (ad 1)), (1, .int p1)] := hl
  unfold wp_PR_has at hq
  have hh8 : 8 < 9 := by decide
  refine lv_iload_n hx hb d_PR_has_0 rfl (lv_at hl 1 rfl) ?_
  refine lv_aload_n hx hb d_PR_has_1 rfl (lv_at hl 0 rfl) ?_
  refine cw_get (C := R_PR) (T := F_PR) (N := 8) (v := .int (gI σ 8)) hx hb hts (in_PR _) hown hK hP 1 (by decide) rfl rfl 4 (by decide) (ht _ wC_90) rfl d_PR_has_2 ?_
  refine va_calli (va_runSN (As := [.int p1, .int (gI σ 8)]) (rest := []) ⟨hx, hb, hml, hown, hts⟩ (c_NF_isBelow (D := D) (cs := cs) hi hq) (⟨va_cnB 2 hts (good_C wC_260) rfl rfl rfl (hN _ wN_258) (ht _ wC_44) (by decide +kernel) ⟨(show 0 + 1 ≤ 1 by omega), (show 8 + (2 + 11) + 0 ≤ 21 by omega)⟩, (ht _ wC_259), trivial⟩) ⟨cP_blind, fun U hU hW => ⟨rfl, by rw [hU]; exact hP, va_K.moved hW.alike hK, hN.warm hW⟩⟩ rfl rfl hl.1 rfl (lv_room (Nat.le_of_ble_eq_true rfl)) d_PR_has_5 ⟨Nat.le_refl _, Nat.le_refl _⟩) hS (fun q _ h => h) (fun q h => h) (fun r1 s2 t H locs ht0 hvm hq hB hz1 hk1 hS => ?_)
  obtain ⟨hP, -, -⟩ := hB
  rw [ht0] at hP
  exact W.zret hx hb hr hq.1 (fun t ht hW => ⟨⟨r1, s2, rfl, hq.2, by rw [ht]; exact hP, va_K.moved hW.alike hK, hN.warm hW⟩, hS.F ht⟩) hS.2.2 d_PR_has_8
def wp_PR_fits (p1 : Int32) (p2 : Int32) (σ : CS) (Q : Int32 → CS → Prop) : Prop := ((p2 = (-3) → ((p1 = (-1) → Q 1 σ) ∧ (¬ p1 = (-1) → (wp_PR_has p1 σ (fun r3 s4 => ((r3 = 0 → Q 0 s4) ∧ (¬ r3 = 0 → Q 1 s4))))))) ∧ (¬ p2 = (-3) → ((p2 = (-2) → (wp_PR_has p1 σ (fun r7 s8 => (vp_z r7 ∧ Q r7 s8)))) ∧ (¬ p2 = (-2) → ((p2 = (-1) → Q 1 σ) ∧ (¬ p2 = (-1) → ((p2 = 0 → Q 1 σ) ∧ (¬ p2 = 0 → (wp_NF_isBelow p1 p2 σ (fun r11 s12 => (vp_z r11 ∧ Q r11 s12)))))))))))
set_option maxHeartbeats 4000000 in
set_option maxRecDepth 100000 in
theorem c_PR_fits {l : Launch} {D : va_G} {cs : CI} {ad : Nat → Nat} (hi : aI ad 51) {p1 : Int32} {p2 : Int32} {σ : CS} {Q : Int32 → CS → Prop} (hq : wp_PR_fits p1 p2 σ Q) : Met l y_PR_fits (.code y_PR_fits b_PR_fits 3 (some .boolean) :: wC) ({ frames := 2, cells := 0, slots := 0, locals := 42 }) (va_Pc [.ref (ad 1), .int p1, .int p2] (cP D cs ad σ)) (va_Qi Q (cP D cs ad) (aK ad 51)) 0 0 (aK ad 51) := by
  refine Met.ofW (cc := b_PR_fits) (maxL := 3) (ret := (some .boolean)) (by decide) rfl ?_
  intro p e s m args below meth c s₁ B hml hv
  obtain ⟨rfl, hP, hK, hN⟩ := hv
  have hx := B.exec
  have hb := B.bytes
  have hr := B.returns
  have hts := atoms_spec (ws := .code y_PR_fits b_PR_fits 3 (some .boolean) :: wC) B.pre
  have ht : ∀ w ∈ wC, w.before _ s = true := fun w h => hts w (List.mem_cons_of_mem _ h)
  have hown : s.vm.findClass R_PR = some m.cls := findClass_of_methodNamed B.named
  have hlocks := B.notSynchronized
  have hS : va_S (aK ad 51) s.heap s.heap [] := va_S.rf
  have hl := lv_entry ([.ref (ad 1), .int p1, .int p2]) (n := 3) (Nat.le_of_ble_eq_true rfl)
  rw [lg_entry_eq]
  generalize (lg_sl ([.ref (ad 1), .int p1, .int p2]) ++ List.replicate (3 - (lg_sl ([.ref (ad 1), .int p1, .int p2])).length) Slot.unset).toArray = ls at hl ⊢
  have hl : lv_has ls 3 [(0, .ref (ad 1)), (1, .int p1), (2, .int p2)] := hl
  unfold wp_PR_fits at hq
  have hh8 : 8 < 9 := by decide
  refine lv_iload_n hx hb d_PR_fits_0 rfl (lv_at hl 2 rfl) ?_
  by_cases c1 : p2 = (-3)
  · have hq := hq.1 c1
    refine lv_tableIn (tgt := 40) hx hb d_PR_fits_1 (by rw [c1]; decide) (by rw [c1]; decide) (by rw [c1]; rfl) (by decide) ?_
    refine lv_iload_n hx hb d_PR_fits_40 rfl (lv_at hl 1 rfl) ?_
    refine lv_iconst (v := (-1)) hx hb d_PR_fits_41 (by decide) ?_
    refine lv_icmp_eq (tgt := 53) hx hb d_PR_fits_42 (by decide) (fun c2 => ?_) (fun c2 => ?_)
    · have hq := hq.1 c2
      refine lv_iconst (v := 1) hx hb d_PR_fits_53 (by decide) ?_
      refine lv_goto (tgt := 58) hx hb d_PR_fits_54 (by decide) ?_
      exact W.zret hx hb hr rfl (fun t ht hW => ⟨⟨1, σ, rfl, hq, by rw [ht]; exact hP, va_K.moved hW.alike hK, hN.warm hW⟩, hS.F ht⟩) hS.2.2 d_PR_fits_58
    · have hq := hq.2 c2
      refine lv_aload_n hx hb d_PR_fits_45 rfl (lv_at hl 0 rfl) ?_
      refine lv_iload_n hx hb d_PR_fits_46 rfl (lv_at hl 1 rfl) ?_
      refine va_calli (va_runV (As := [.int p1]) (rest := []) ⟨hx, hb, hml, hown, hts⟩ (c_PR_has (D := D) (cs := cs) hi hq) (cwV 1 hts (good_V wC_267 wC_268 wC_269 wC_45 wC_270) rfl rfl rfl (by decide +kernel) ⟨(show 1 + 1 ≤ 2 by omega), (show 8 + (2 + 11) + 21 ≤ 42 by omega)⟩) ⟨cP_blind, va_recv hK hP (ci := 2) (q0 := 1) rfl (wd_at (by decide) rfl), fun U hU hW => ⟨rfl, by rw [hU]; exact hP, va_K.moved hW.alike hK, hN.warm hW⟩⟩ rfl rfl hl.1 rfl (lv_room (Nat.le_of_ble_eq_true rfl)) d_PR_fits_47 ⟨Nat.le_refl _, Nat.le_refl _⟩) hS (fun q _ h => h) (fun q h => h) (fun r3 s4 t H locs ht0 hvm hq hB hz1 hk1 hS => ?_)
      obtain ⟨hP, -, -⟩ := hB
      rw [ht0] at hP
      refine lv_if_eq (tgt := 57) hx hb d_PR_fits_50 (by decide) (fun c5 => ?_) (fun c5 => ?_)
      · have hq := hq.1 c5
        refine lv_iconst (v := 0) hx hb d_PR_fits_57 (by decide) ?_
        exact W.zret hx hb hr rfl (fun t ht hW => ⟨⟨0, s4, rfl, hq, by rw [ht]; exact hP, va_K.moved hW.alike hK, hN.warm hW⟩, hS.F ht⟩) hS.2.2 d_PR_fits_58
      · have hq := hq.2 c5
        refine lv_iconst (v := 1) hx hb d_PR_fits_53 (by decide) ?_
        refine lv_goto (tgt := 58) hx hb d_PR_fits_54 (by decide) ?_
        exact W.zret hx hb hr rfl (fun t ht hW => ⟨⟨1, s4, rfl, hq, by rw [ht]; exact hP, va_K.moved hW.alike hK, hN.warm hW⟩, hS.F ht⟩) hS.2.2 d_PR_fits_58
  have hq := hq.2 c1
  by_cases c6 : p2 = (-2)
  · have hq := hq.1 c6
    refine lv_tableIn (tgt := 34) hx hb d_PR_fits_1 (by rw [c6]; decide) (by rw [c6]; decide) (by rw [c6]; rfl) (by decide) ?_
    refine lv_aload_n hx hb d_PR_fits_34 rfl (lv_at hl 0 rfl) ?_
    refine lv_iload_n hx hb d_PR_fits_35 rfl (lv_at hl 1 rfl) ?_
    refine va_calli (va_runV (As := [.int p1]) (rest := []) ⟨hx, hb, hml, hown, hts⟩ (c_PR_has (D := D) (cs := cs) hi hq) (cwV 1 hts (good_V wC_267 wC_268 wC_269 wC_45 wC_270) rfl rfl rfl (by decide +kernel) ⟨(show 1 + 1 ≤ 2 by omega), (show 8 + (2 + 11) + 21 ≤ 42 by omega)⟩) ⟨cP_blind, va_recv hK hP (ci := 2) (q0 := 1) rfl (wd_at (by decide) rfl), fun U hU hW => ⟨rfl, by rw [hU]; exact hP, va_K.moved hW.alike hK, hN.warm hW⟩⟩ rfl rfl hl.1 rfl (lv_room (Nat.le_of_ble_eq_true rfl)) d_PR_fits_36 ⟨Nat.le_refl _, Nat.le_refl _⟩) hS (fun q _ h => h) (fun q h => h) (fun r7 s8 t H locs ht0 hvm hq hB hz1 hk1 hS => ?_)
    obtain ⟨hP, -, -⟩ := hB
    rw [ht0] at hP
    exact W.zret hx hb hr hq.1 (fun t ht hW => ⟨⟨r7, s8, rfl, hq.2, by rw [ht]; exact hP, va_K.moved hW.alike hK, hN.warm hW⟩, hS.F ht⟩) hS.2.2 d_PR_fits_39
  have hq := hq.2 c6
  by_cases c9 : p2 = (-1)
  · have hq := hq.1 c9
    refine lv_tableIn (tgt := 32) hx hb d_PR_fits_1 (by rw [c9]; decide) (by rw [c9]; decide) (by rw [c9]; rfl) (by decide) ?_
    refine lv_iconst (v := 1) hx hb d_PR_fits_32 (by decide) ?_
    exact W.zret hx hb hr rfl (fun t ht hW => ⟨⟨1, σ, rfl, hq, by rw [ht]; exact hP, va_K.moved hW.alike hK, hN.warm hW⟩, hS.F ht⟩) hS.2.2 d_PR_fits_33
  have hq := hq.2 c9
  by_cases c10 : p2 = 0
  · have hq := hq.1 c10
    refine lv_tableIn (tgt := 32) hx hb d_PR_fits_1 (by rw [c10]; decide) (by rw [c10]; decide) (by rw [c10]; rfl) (by decide) ?_
    refine lv_iconst (v := 1) hx hb d_PR_fits_32 (by decide) ?_
    exact W.zret hx hb hr rfl (fun t ht hW => ⟨⟨1, σ, rfl, hq, by rw [ht]; exact hP, va_K.moved hW.alike hK, hN.warm hW⟩, hS.F ht⟩) hS.2.2 d_PR_fits_33
  have hq := hq.2 c10
  refine cw_tabD (tgt := 59) hx hb d_PR_fits_1 (by decide) ?_ ?_
  · have e_c1 := lv_neT c1 (a := -3) rfl; have e_c6 := lv_neT c6 (a := -2) rfl; have e_c9 := lv_neT c9 (a := -1) rfl; have e_c10 := lv_neT c10 (a := 0) rfl
    have g3 : p2.toInt < -3 ∨ 0 < p2.toInt := by omega
    exact g3.elim Or.inl (fun g => Or.inr (Or.inl g))
  refine lv_iload_n hx hb d_PR_fits_59 rfl (lv_at hl 1 rfl) ?_
  refine lv_iload_n hx hb d_PR_fits_60 rfl (lv_at hl 2 rfl) ?_
  refine va_calli (va_runSN (As := [.int p1, .int p2]) (rest := []) ⟨hx, hb, hml, hown, hts⟩ (c_NF_isBelow (D := D) (cs := cs) hi hq) (⟨va_cnB 2 hts (good_C wC_260) rfl rfl rfl (hN _ wN_258) (ht _ wC_44) (by decide +kernel) ⟨(show 0 + 1 ≤ 2 by omega), (show 8 + (2 + 11) + 0 ≤ 42 by omega)⟩, (ht _ wC_259), trivial⟩) ⟨cP_blind, fun U hU hW => ⟨rfl, by rw [hU]; exact hP, va_K.moved hW.alike hK, hN.warm hW⟩⟩ rfl rfl hl.1 rfl (lv_room (Nat.le_of_ble_eq_true rfl)) d_PR_fits_61 ⟨Nat.le_refl _, Nat.le_refl _⟩) hS (fun q _ h => h) (fun q h => h) (fun r11 s12 t H locs ht0 hvm hq hB hz1 hk1 hS => ?_)
  obtain ⟨hP, -, -⟩ := hB
  rw [ht0] at hP
  exact W.zret hx hb hr hq.1 (fun t ht hW => ⟨⟨r11, s12, rfl, hq.2, by rw [ht]; exact hP, va_K.moved hW.alike hK, hN.warm hW⟩, hS.F ht⟩) hS.2.2 d_PR_fits_64
def wp_PR_define (p1 : Int32) (p2 : Int32) (p3 : Int32) (p4 : Int32) (σ : CS) (Q : CS → Prop) : Prop := (vp_in p1 4 ∧ (∀ s1 : CS, s1 = sA σ 4 (upd (gA σ 4) p1.toNatClampNeg p2) → (vp_in p1 4 ∧ (∀ s2 : CS, s2 = sA s1 5 (upd (gA s1 5) p1.toNatClampNeg p3) → (vp_in p1 4 ∧ (∀ s3 : CS, s3 = sA s2 6 (upd (gA s2 6) p1.toNatClampNeg p4) → Q s3))))))
set_option maxHeartbeats 4000000 in
set_option maxRecDepth 100000 in
theorem c_PR_define {l : Launch} {D : va_G} {cs : CI} {ad : Nat → Nat} (hi : aI ad 51) {p1 : Int32} {p2 : Int32} {p3 : Int32} {p4 : Int32} {σ : CS} {Q : CS → Prop} (hq : wp_PR_define p1 p2 p3 p4 σ Q) : Met l y_PR_define (.code y_PR_define b_PR_define 5 none :: wC) ({ frames := 0, cells := 0, slots := 0, locals := 0 }) (va_Pc [.ref (ad 1), .int p1, .int p2, .int p3, .int p4] (cP D cs ad σ)) (va_Qv Q (cP D cs ad) (aK ad 51)) 0 0 (aK ad 51) := by
  refine Met.ofW (cc := b_PR_define) (maxL := 5) (ret := none) (by decide) rfl ?_
  intro p e s m args below meth c s₁ B hml hv
  obtain ⟨rfl, hP, hK, hN⟩ := hv
  have hx := B.exec
  have hb := B.bytes
  have hr := B.returns
  have hts := atoms_spec (ws := .code y_PR_define b_PR_define 5 none :: wC) B.pre
  have ht : ∀ w ∈ wC, w.before _ s = true := fun w h => hts w (List.mem_cons_of_mem _ h)
  have hown : s.vm.findClass R_PR = some m.cls := findClass_of_methodNamed B.named
  have hlocks := B.notSynchronized
  have hS : va_S (aK ad 51) s.heap s.heap [] := va_S.rf
  have hl := lv_entry ([.ref (ad 1), .int p1, .int p2, .int p3, .int p4]) (n := 5) (Nat.le_of_ble_eq_true rfl)
  rw [lg_entry_eq]
  generalize (lg_sl ([.ref (ad 1), .int p1, .int p2, .int p3, .int p4]) ++ List.replicate (5 - (lg_sl ([.ref (ad 1), .int p1, .int p2, .int p3, .int p4])).length) Slot.unset).toArray = ls at hl ⊢
  have hl : lv_has ls 5 [(0, .ref (ad 1)), (1, .int p1), (2, .int p2), (3, .int p3), (4, .int p4)] := hl
  unfold wp_PR_define at hq
  have hh8 : 8 < 9 := by decide
  refine lv_aload_n hx hb d_PR_define_0 rfl (lv_at hl 0 rfl) ?_
  refine cw_get (C := R_PR) (T := F_PR) (N := 8) (v := .ref (ad 6)) hx hb hts (in_PR _) hown hK hP 1 (by decide) rfl rfl 5 (by decide) (ht _ wC_92) rfl d_PR_define_1 ?_
  refine lv_iload_n hx hb d_PR_define_4 rfl (lv_at hl 1 rfl) ?_
  refine lv_iload_n hx hb d_PR_define_5 rfl (lv_at hl 2 rfl) ?_
  refine cw_iast hx hb hK hP hi hS 6 (by decide) rfl 0 rfl hq.1 upa_4 d_PR_define_6 (fun H locs hP hS => ?_)
  have hq := hq.2
  obtain ⟨s1, e_s1⟩ : ∃ z, z = sA σ 4 (upd (gA σ 4) p1.toNatClampNeg p2) := ⟨_, rfl⟩
  rw [← e_s1] at hP
  have hq := hq s1 e_s1
  refine lv_aload_n hx hb d_PR_define_7 rfl (lv_at hl 0 rfl) ?_
  refine cw_get (C := R_PR) (T := F_PR) (N := 8) (v := .ref (ad 7)) hx hb hts (in_PR _) hown hK hP 1 (by decide) rfl rfl 6 (by decide) (ht _ wC_94) rfl d_PR_define_8 ?_
  refine lv_iload_n hx hb d_PR_define_11 rfl (lv_at hl 1 rfl) ?_
  refine lv_iload_n hx hb d_PR_define_12 rfl (lv_at hl 3 rfl) ?_
  refine cw_iast hx hb hK hP hi hS 7 (by decide) rfl 0 rfl hq.1 upa_5 d_PR_define_13 (fun H locs hP hS => ?_)
  have hq := hq.2
  obtain ⟨s2, e_s2⟩ : ∃ z, z = sA s1 5 (upd (gA s1 5) p1.toNatClampNeg p3) := ⟨_, rfl⟩
  rw [← e_s2] at hP
  have hq := hq s2 e_s2
  refine lv_aload_n hx hb d_PR_define_14 rfl (lv_at hl 0 rfl) ?_
  refine cw_get (C := R_PR) (T := F_PR) (N := 8) (v := .ref (ad 8)) hx hb hts (in_PR _) hown hK hP 1 (by decide) rfl rfl 7 (by decide) (ht _ wC_96) rfl d_PR_define_15 ?_
  refine lv_iload_n hx hb d_PR_define_18 rfl (lv_at hl 1 rfl) ?_
  refine lv_iload hx hb d_PR_define_19 (lv_at hl 4 rfl) ?_
  refine cw_iast hx hb hK hP hi hS 8 (by decide) rfl 0 rfl hq.1 upa_6 d_PR_define_21 (fun H locs hP hS => ?_)
  have hq := hq.2
  obtain ⟨s3, e_s3⟩ : ∃ z, z = sA s2 6 (upd (gA s2 6) p1.toNatClampNeg p4) := ⟨_, rfl⟩
  rw [← e_s3] at hP
  have hq := hq s3 e_s3
  exact W.vret hx hb hr (fun t ht hW => ⟨⟨s3, rfl, hq, by rw [ht]; exact hP, va_K.moved hW.alike hK, hN.warm hW⟩, hS.F ht⟩) hS.2.2 d_PR_define_22
def wp_PR_canBeSet (p1 : Int32) (σ : CS) (Q : Int32 → CS → Prop) : Prop := (vp_in p1 48 ∧ (((gA σ 0 p1.toNatClampNeg) = 1 → Q 1 σ) ∧ (¬ (gA σ 0 p1.toNatClampNeg) = 1 → (((gA σ 0 p1.toNatClampNeg) = 2 → Q 1 σ) ∧ (¬ (gA σ 0 p1.toNatClampNeg) = 2 → (((gA σ 0 p1.toNatClampNeg) = 11 → Q 1 σ) ∧ (¬ (gA σ 0 p1.toNatClampNeg) = 11 → (((gA σ 0 p1.toNatClampNeg) = 10 → Q 1 σ) ∧ (¬ (gA σ 0 p1.toNatClampNeg) = 10 → Q 0 σ)))))))))
set_option maxHeartbeats 4000000 in
set_option maxRecDepth 100000 in
theorem c_PR_canBeSet {l : Launch} {D : va_G} {cs : CI} {ad : Nat → Nat} (hi : aI ad 51) {p1 : Int32} {σ : CS} {Q : Int32 → CS → Prop} (hq : wp_PR_canBeSet p1 σ Q) : Met l y_PR_canBeSet (.code y_PR_canBeSet b_PR_canBeSet 3 (some .boolean) :: wC) ({ frames := 0, cells := 0, slots := 0, locals := 0 }) (va_Pc [.ref (ad 1), .int p1] (cP D cs ad σ)) (va_Qi Q (cP D cs ad) (aK ad 51)) 0 0 (aK ad 51) := by
  refine Met.ofW (cc := b_PR_canBeSet) (maxL := 3) (ret := (some .boolean)) (by decide) rfl ?_
  intro p e s m args below meth c s₁ B hml hv
  obtain ⟨rfl, hP, hK, hN⟩ := hv
  have hx := B.exec
  have hb := B.bytes
  have hr := B.returns
  have hts := atoms_spec (ws := .code y_PR_canBeSet b_PR_canBeSet 3 (some .boolean) :: wC) B.pre
  have ht : ∀ w ∈ wC, w.before _ s = true := fun w h => hts w (List.mem_cons_of_mem _ h)
  have hown : s.vm.findClass R_PR = some m.cls := findClass_of_methodNamed B.named
  have hlocks := B.notSynchronized
  have hS : va_S (aK ad 51) s.heap s.heap [] := va_S.rf
  have hl := lv_entry ([.ref (ad 1), .int p1]) (n := 3) (Nat.le_of_ble_eq_true rfl)
  rw [lg_entry_eq]
  generalize (lg_sl ([.ref (ad 1), .int p1]) ++ List.replicate (3 - (lg_sl ([.ref (ad 1), .int p1])).length) Slot.unset).toArray = ls at hl ⊢
  have hl : lv_has ls 3 [(0, .ref (ad 1)), (1, .int p1)] := hl
  unfold wp_PR_canBeSet at hq
  have hh8 : 8 < 9 := by decide
  refine lv_aload_n hx hb d_PR_canBeSet_0 rfl (lv_at hl 0 rfl) ?_
  refine cw_get (C := R_PR) (T := F_PR) (N := 8) (v := .ref (ad 2)) hx hb hts (in_PR _) hown hK hP 1 (by decide) rfl rfl 0 (by decide) (ht _ wC_78) rfl d_PR_canBeSet_1 ?_
  refine lv_iload_n hx hb d_PR_canBeSet_4 rfl (lv_at hl 1 rfl) ?_
  refine cw_iald hx hb hK hP 2 (by decide) rfl 0 rfl hq.1 d_PR_canBeSet_5 ?_
  have hq := hq.2
  refine lv_istore_n (lv' := [(2, .int (gA σ 0 p1.toNatClampNeg)), (0, .ref (ad 1)), (1, .int p1)]) hx hb d_PR_canBeSet_6 rfl hl (by decide) rfl (fun ls hl => ?_)
  refine lv_iload_n hx hb d_PR_canBeSet_7 rfl (lv_at hl 0 rfl) ?_
  refine lv_iconst (v := 1) hx hb d_PR_canBeSet_8 (by decide) ?_
  refine lv_icmp_eq (tgt := 29) hx hb d_PR_canBeSet_9 (by decide) (fun c1 => ?_) (fun c1 => ?_)
  · have hq := hq.1 c1
    refine lv_iconst (v := 1) hx hb d_PR_canBeSet_29 (by decide) ?_
    refine lv_goto (tgt := 34) hx hb d_PR_canBeSet_30 (by decide) ?_
    exact W.zret hx hb hr rfl (fun t ht hW => ⟨⟨1, σ, rfl, hq, by rw [ht]; exact hP, va_K.moved hW.alike hK, hN.warm hW⟩, hS.F ht⟩) hS.2.2 d_PR_canBeSet_34
  · have hq := hq.2 c1
    refine lv_iload_n hx hb d_PR_canBeSet_12 rfl (lv_at hl 0 rfl) ?_
    refine lv_iconst (v := 2) hx hb d_PR_canBeSet_13 (by decide) ?_
    refine lv_icmp_eq (tgt := 29) hx hb d_PR_canBeSet_14 (by decide) (fun c2 => ?_) (fun c2 => ?_)
    · have hq := hq.1 c2
      refine lv_iconst (v := 1) hx hb d_PR_canBeSet_29 (by decide) ?_
      refine lv_goto (tgt := 34) hx hb d_PR_canBeSet_30 (by decide) ?_
      exact W.zret hx hb hr rfl (fun t ht hW => ⟨⟨1, σ, rfl, hq, by rw [ht]; exact hP, va_K.moved hW.alike hK, hN.warm hW⟩, hS.F ht⟩) hS.2.2 d_PR_canBeSet_34
    · have hq := hq.2 c2
      refine lv_iload_n hx hb d_PR_canBeSet_17 rfl (lv_at hl 0 rfl) ?_
      refine lv_bipush (v := 11) hx hb d_PR_canBeSet_18 (by decide) ?_
      refine lv_icmp_eq (tgt := 29) hx hb d_PR_canBeSet_20 (by decide) (fun c3 => ?_) (fun c3 => ?_)
      · have hq := hq.1 c3
        refine lv_iconst (v := 1) hx hb d_PR_canBeSet_29 (by decide) ?_
        refine lv_goto (tgt := 34) hx hb d_PR_canBeSet_30 (by decide) ?_
        exact W.zret hx hb hr rfl (fun t ht hW => ⟨⟨1, σ, rfl, hq, by rw [ht]; exact hP, va_K.moved hW.alike hK, hN.warm hW⟩, hS.F ht⟩) hS.2.2 d_PR_canBeSet_34
      · have hq := hq.2 c3
        refine lv_iload_n hx hb d_PR_canBeSet_23 rfl (lv_at hl 0 rfl) ?_
        refine lv_bipush (v := 10) hx hb d_PR_canBeSet_24 (by decide) ?_
        refine lv_icmp_ne (tgt := 33) hx hb d_PR_canBeSet_26 (by decide) (fun c4 => ?_) (fun c4 => ?_)
        · have hq := hq.2 c4
          refine lv_iconst (v := 0) hx hb d_PR_canBeSet_33 (by decide) ?_
          exact W.zret hx hb hr rfl (fun t ht hW => ⟨⟨0, σ, rfl, hq, by rw [ht]; exact hP, va_K.moved hW.alike hK, hN.warm hW⟩, hS.F ht⟩) hS.2.2 d_PR_canBeSet_34
        · have hq := hq.1 c4
          refine lv_iconst (v := 1) hx hb d_PR_canBeSet_29 (by decide) ?_
          refine lv_goto (tgt := 34) hx hb d_PR_canBeSet_30 (by decide) ?_
          exact W.zret hx hb hr rfl (fun t ht hW => ⟨⟨1, σ, rfl, hq, by rw [ht]; exact hP, va_K.moved hW.alike hK, hN.warm hW⟩, hS.F ht⟩) hS.2.2 d_PR_canBeSet_34
def wp_PR_canBeCalled (p1 : Int32) (σ : CS) (Q : Int32 → CS → Prop) : Prop := (vp_in p1 48 ∧ (vp_in (gA σ 1 p1.toNatClampNeg) 4 ∧ (((gA σ 4 ((gA σ 1 p1.toNatClampNeg).toNatClampNeg)) = (-1) → Q 0 σ) ∧ (¬ (gA σ 4 ((gA σ 1 p1.toNatClampNeg).toNatClampNeg)) = (-1) → (vp_in (gA σ 1 p1.toNatClampNeg) 4 ∧ (((gA σ 5 ((gA σ 1 p1.toNatClampNeg).toNatClampNeg)) < 1 → (vp_in (gA σ 1 p1.toNatClampNeg) 4 ∧ (((gA σ 5 ((gA σ 1 p1.toNatClampNeg).toNatClampNeg)) < 2 → Q 1 σ) ∧ (¬ (gA σ 5 ((gA σ 1 p1.toNatClampNeg).toNatClampNeg)) < 2 → (vp_in p1 48 ∧ (((gA σ 3 p1.toNatClampNeg) = (-1) → Q 0 σ) ∧ (¬ (gA σ 3 p1.toNatClampNeg) = (-1) → Q 1 σ))))))) ∧ (¬ (gA σ 5 ((gA σ 1 p1.toNatClampNeg).toNatClampNeg)) < 1 → (vp_in p1 48 ∧ (((gA σ 2 p1.toNatClampNeg) = (-1) → Q 0 σ) ∧ (¬ (gA σ 2 p1.toNatClampNeg) = (-1) → (vp_in (gA σ 1 p1.toNatClampNeg) 4 ∧ (((gA σ 5 ((gA σ 1 p1.toNatClampNeg).toNatClampNeg)) < 2 → Q 1 σ) ∧ (¬ (gA σ 5 ((gA σ 1 p1.toNatClampNeg).toNatClampNeg)) < 2 → (vp_in p1 48 ∧ (((gA σ 3 p1.toNatClampNeg) = (-1) → Q 0 σ) ∧ (¬ (gA σ 3 p1.toNatClampNeg) = (-1) → Q 1 σ))))))))))))))))
set_option maxHeartbeats 4000000 in
set_option maxRecDepth 100000 in
theorem c_PR_canBeCalled {l : Launch} {D : va_G} {cs : CI} {ad : Nat → Nat} (hi : aI ad 51) {p1 : Int32} {σ : CS} {Q : Int32 → CS → Prop} (hq : wp_PR_canBeCalled p1 σ Q) : Met l y_PR_canBeCalled (.code y_PR_canBeCalled b_PR_canBeCalled 3 (some .boolean) :: wC) ({ frames := 0, cells := 0, slots := 0, locals := 0 }) (va_Pc [.ref (ad 1), .int p1] (cP D cs ad σ)) (va_Qi Q (cP D cs ad) (aK ad 51)) 0 0 (aK ad 51) := by
  refine Met.ofW (cc := b_PR_canBeCalled) (maxL := 3) (ret := (some .boolean)) (by decide) rfl ?_
  intro p e s m args below meth c s₁ B hml hv
  obtain ⟨rfl, hP, hK, hN⟩ := hv
  have hx := B.exec
  have hb := B.bytes
  have hr := B.returns
  have hts := atoms_spec (ws := .code y_PR_canBeCalled b_PR_canBeCalled 3 (some .boolean) :: wC) B.pre
  have ht : ∀ w ∈ wC, w.before _ s = true := fun w h => hts w (List.mem_cons_of_mem _ h)
  have hown : s.vm.findClass R_PR = some m.cls := findClass_of_methodNamed B.named
  have hlocks := B.notSynchronized
  have hS : va_S (aK ad 51) s.heap s.heap [] := va_S.rf
  have hl := lv_entry ([.ref (ad 1), .int p1]) (n := 3) (Nat.le_of_ble_eq_true rfl)
  rw [lg_entry_eq]
  generalize (lg_sl ([.ref (ad 1), .int p1]) ++ List.replicate (3 - (lg_sl ([.ref (ad 1), .int p1])).length) Slot.unset).toArray = ls at hl ⊢
  have hl : lv_has ls 3 [(0, .ref (ad 1)), (1, .int p1)] := hl
  unfold wp_PR_canBeCalled at hq
  have hh8 : 8 < 9 := by decide
  refine lv_aload_n hx hb d_PR_canBeCalled_0 rfl (lv_at hl 0 rfl) ?_
  refine cw_get (C := R_PR) (T := F_PR) (N := 8) (v := .ref (ad 3)) hx hb hts (in_PR _) hown hK hP 1 (by decide) rfl rfl 1 (by decide) (ht _ wC_81) rfl d_PR_canBeCalled_1 ?_
  refine lv_iload_n hx hb d_PR_canBeCalled_4 rfl (lv_at hl 1 rfl) ?_
  refine cw_iald hx hb hK hP 3 (by decide) rfl 0 rfl hq.1 d_PR_canBeCalled_5 ?_
  have hq := hq.2
  refine lv_istore_n (lv' := [(2, .int (gA σ 1 p1.toNatClampNeg)), (0, .ref (ad 1)), (1, .int p1)]) hx hb d_PR_canBeCalled_6 rfl hl (by decide) rfl (fun ls hl => ?_)
  refine lv_aload_n hx hb d_PR_canBeCalled_7 rfl (lv_at hl 1 rfl) ?_
  refine cw_get (C := R_PR) (T := F_PR) (N := 8) (v := .ref (ad 6)) hx hb hts (in_PR _) hown hK hP 1 (by decide) rfl rfl 5 (by decide) (ht _ wC_92) rfl d_PR_canBeCalled_8 ?_
  refine lv_iload_n hx hb d_PR_canBeCalled_11 rfl (lv_at hl 0 rfl) ?_
  refine cw_iald hx hb hK hP 6 (by decide) rfl 0 rfl hq.1 d_PR_canBeCalled_12 ?_
  have hq := hq.2
  refine lv_iconst (v := (-1)) hx hb d_PR_canBeCalled_13 (by decide) ?_
  refine lv_icmp_eq (tgt := 61) hx hb d_PR_canBeCalled_14 (by decide) (fun c1 => ?_) (fun c1 => ?_)
  · have hq := hq.1 c1
    refine lv_iconst (v := 0) hx hb d_PR_canBeCalled_61 (by decide) ?_
    exact W.zret hx hb hr rfl (fun t ht hW => ⟨⟨0, σ, rfl, hq, by rw [ht]; exact hP, va_K.moved hW.alike hK, hN.warm hW⟩, hS.F ht⟩) hS.2.2 d_PR_canBeCalled_62
  · have hq := hq.2 c1
    refine lv_aload_n hx hb d_PR_canBeCalled_17 rfl (lv_at hl 1 rfl) ?_
    refine cw_get (C := R_PR) (T := F_PR) (N := 8) (v := .ref (ad 7)) hx hb hts (in_PR _) hown hK hP 1 (by decide) rfl rfl 6 (by decide) (ht _ wC_94) rfl d_PR_canBeCalled_18 ?_
    refine lv_iload_n hx hb d_PR_canBeCalled_21 rfl (lv_at hl 0 rfl) ?_
    refine cw_iald hx hb hK hP 7 (by decide) rfl 0 rfl hq.1 d_PR_canBeCalled_22 ?_
    have hq := hq.2
    refine lv_iconst (v := 1) hx hb d_PR_canBeCalled_23 (by decide) ?_
    refine lv_icmp_lt (tgt := 37) hx hb d_PR_canBeCalled_24 (by decide) (fun c2 => ?_) (fun c2 => ?_)
    · have hq := hq.1 c2
      refine lv_aload_n hx hb d_PR_canBeCalled_37 rfl (lv_at hl 1 rfl) ?_
      refine cw_get (C := R_PR) (T := F_PR) (N := 8) (v := .ref (ad 7)) hx hb hts (in_PR _) hown hK hP 1 (by decide) rfl rfl 6 (by decide) (ht _ wC_94) rfl d_PR_canBeCalled_38 ?_
      refine lv_iload_n hx hb d_PR_canBeCalled_41 rfl (lv_at hl 0 rfl) ?_
      refine cw_iald hx hb hK hP 7 (by decide) rfl 0 rfl hq.1 d_PR_canBeCalled_42 ?_
      have hq := hq.2
      refine lv_iconst (v := 2) hx hb d_PR_canBeCalled_43 (by decide) ?_
      refine lv_icmp_lt (tgt := 57) hx hb d_PR_canBeCalled_44 (by decide) (fun c3 => ?_) (fun c3 => ?_)
      · have hq := hq.1 c3
        refine lv_iconst (v := 1) hx hb d_PR_canBeCalled_57 (by decide) ?_
        refine lv_goto (tgt := 62) hx hb d_PR_canBeCalled_58 (by decide) ?_
        exact W.zret hx hb hr rfl (fun t ht hW => ⟨⟨1, σ, rfl, hq, by rw [ht]; exact hP, va_K.moved hW.alike hK, hN.warm hW⟩, hS.F ht⟩) hS.2.2 d_PR_canBeCalled_62
      · have hq := hq.2 c3
        refine lv_aload_n hx hb d_PR_canBeCalled_47 rfl (lv_at hl 1 rfl) ?_
        refine cw_get (C := R_PR) (T := F_PR) (N := 8) (v := .ref (ad 5)) hx hb hts (in_PR _) hown hK hP 1 (by decide) rfl rfl 3 (by decide) (ht _ wC_87) rfl d_PR_canBeCalled_48 ?_
        refine lv_iload_n hx hb d_PR_canBeCalled_51 rfl (lv_at hl 2 rfl) ?_
        refine cw_iald hx hb hK hP 5 (by decide) rfl 0 rfl hq.1 d_PR_canBeCalled_52 ?_
        have hq := hq.2
        refine lv_iconst (v := (-1)) hx hb d_PR_canBeCalled_53 (by decide) ?_
        refine lv_icmp_eq (tgt := 61) hx hb d_PR_canBeCalled_54 (by decide) (fun c4 => ?_) (fun c4 => ?_)
        · have hq := hq.1 c4
          refine lv_iconst (v := 0) hx hb d_PR_canBeCalled_61 (by decide) ?_
          exact W.zret hx hb hr rfl (fun t ht hW => ⟨⟨0, σ, rfl, hq, by rw [ht]; exact hP, va_K.moved hW.alike hK, hN.warm hW⟩, hS.F ht⟩) hS.2.2 d_PR_canBeCalled_62
        · have hq := hq.2 c4
          refine lv_iconst (v := 1) hx hb d_PR_canBeCalled_57 (by decide) ?_
          refine lv_goto (tgt := 62) hx hb d_PR_canBeCalled_58 (by decide) ?_
          exact W.zret hx hb hr rfl (fun t ht hW => ⟨⟨1, σ, rfl, hq, by rw [ht]; exact hP, va_K.moved hW.alike hK, hN.warm hW⟩, hS.F ht⟩) hS.2.2 d_PR_canBeCalled_62
    · have hq := hq.2 c2
      refine lv_aload_n hx hb d_PR_canBeCalled_27 rfl (lv_at hl 1 rfl) ?_
      refine cw_get (C := R_PR) (T := F_PR) (N := 8) (v := .ref (ad 4)) hx hb hts (in_PR _) hown hK hP 1 (by decide) rfl rfl 2 (by decide) (ht _ wC_84) rfl d_PR_canBeCalled_28 ?_
      refine lv_iload_n hx hb d_PR_canBeCalled_31 rfl (lv_at hl 2 rfl) ?_
      refine cw_iald hx hb hK hP 4 (by decide) rfl 0 rfl hq.1 d_PR_canBeCalled_32 ?_
      have hq := hq.2
      refine lv_iconst (v := (-1)) hx hb d_PR_canBeCalled_33 (by decide) ?_
      refine lv_icmp_eq (tgt := 61) hx hb d_PR_canBeCalled_34 (by decide) (fun c5 => ?_) (fun c5 => ?_)
      · have hq := hq.1 c5
        refine lv_iconst (v := 0) hx hb d_PR_canBeCalled_61 (by decide) ?_
        exact W.zret hx hb hr rfl (fun t ht hW => ⟨⟨0, σ, rfl, hq, by rw [ht]; exact hP, va_K.moved hW.alike hK, hN.warm hW⟩, hS.F ht⟩) hS.2.2 d_PR_canBeCalled_62
      · have hq := hq.2 c5
        refine lv_aload_n hx hb d_PR_canBeCalled_37 rfl (lv_at hl 1 rfl) ?_
        refine cw_get (C := R_PR) (T := F_PR) (N := 8) (v := .ref (ad 7)) hx hb hts (in_PR _) hown hK hP 1 (by decide) rfl rfl 6 (by decide) (ht _ wC_94) rfl d_PR_canBeCalled_38 ?_
        refine lv_iload_n hx hb d_PR_canBeCalled_41 rfl (lv_at hl 0 rfl) ?_
        refine cw_iald hx hb hK hP 7 (by decide) rfl 0 rfl hq.1 d_PR_canBeCalled_42 ?_
        have hq := hq.2
        refine lv_iconst (v := 2) hx hb d_PR_canBeCalled_43 (by decide) ?_
        refine lv_icmp_lt (tgt := 57) hx hb d_PR_canBeCalled_44 (by decide) (fun c6 => ?_) (fun c6 => ?_)
        · have hq := hq.1 c6
          refine lv_iconst (v := 1) hx hb d_PR_canBeCalled_57 (by decide) ?_
          refine lv_goto (tgt := 62) hx hb d_PR_canBeCalled_58 (by decide) ?_
          exact W.zret hx hb hr rfl (fun t ht hW => ⟨⟨1, σ, rfl, hq, by rw [ht]; exact hP, va_K.moved hW.alike hK, hN.warm hW⟩, hS.F ht⟩) hS.2.2 d_PR_canBeCalled_62
        · have hq := hq.2 c6
          refine lv_aload_n hx hb d_PR_canBeCalled_47 rfl (lv_at hl 1 rfl) ?_
          refine cw_get (C := R_PR) (T := F_PR) (N := 8) (v := .ref (ad 5)) hx hb hts (in_PR _) hown hK hP 1 (by decide) rfl rfl 3 (by decide) (ht _ wC_87) rfl d_PR_canBeCalled_48 ?_
          refine lv_iload_n hx hb d_PR_canBeCalled_51 rfl (lv_at hl 2 rfl) ?_
          refine cw_iald hx hb hK hP 5 (by decide) rfl 0 rfl hq.1 d_PR_canBeCalled_52 ?_
          have hq := hq.2
          refine lv_iconst (v := (-1)) hx hb d_PR_canBeCalled_53 (by decide) ?_
          refine lv_icmp_eq (tgt := 61) hx hb d_PR_canBeCalled_54 (by decide) (fun c7 => ?_) (fun c7 => ?_)
          · have hq := hq.1 c7
            refine lv_iconst (v := 0) hx hb d_PR_canBeCalled_61 (by decide) ?_
            exact W.zret hx hb hr rfl (fun t ht hW => ⟨⟨0, σ, rfl, hq, by rw [ht]; exact hP, va_K.moved hW.alike hK, hN.warm hW⟩, hS.F ht⟩) hS.2.2 d_PR_canBeCalled_62
          · have hq := hq.2 c7
            refine lv_iconst (v := 1) hx hb d_PR_canBeCalled_57 (by decide) ?_
            refine lv_goto (tgt := 62) hx hb d_PR_canBeCalled_58 (by decide) ?_
            exact W.zret hx hb hr rfl (fun t ht hW => ⟨⟨1, σ, rfl, hq, by rw [ht]; exact hP, va_K.moved hW.alike hK, hN.warm hW⟩, hS.F ht⟩) hS.2.2 d_PR_canBeCalled_62
def wp_PR_isByValue (p1 : Int32) (p2 : Int32) (σ : CS) (Q : Int32 → CS → Prop) : Prop := (vp_in p1 4 ∧ (((gA σ 5 p1.toNatClampNeg) ≤ p2 → Q 0 σ) ∧ (¬ (gA σ 5 p1.toNatClampNeg) ≤ p2 → (vp_in p1 4 ∧ (((((gA σ 6 p1.toNatClampNeg) >>> (p2 &&& 31)) &&& 1) = 0 → Q 1 σ) ∧ (¬ (((gA σ 6 p1.toNatClampNeg) >>> (p2 &&& 31)) &&& 1) = 0 → Q 0 σ))))))
set_option maxHeartbeats 4000000 in
set_option maxRecDepth 100000 in
theorem c_PR_isByValue {l : Launch} {D : va_G} {cs : CI} {ad : Nat → Nat} (hi : aI ad 51) {p1 : Int32} {p2 : Int32} {σ : CS} {Q : Int32 → CS → Prop} (hq : wp_PR_isByValue p1 p2 σ Q) : Met l y_PR_isByValue (.code y_PR_isByValue b_PR_isByValue 3 (some .boolean) :: wC) ({ frames := 0, cells := 0, slots := 0, locals := 0 }) (va_Pc [.ref (ad 1), .int p1, .int p2] (cP D cs ad σ)) (va_Qi Q (cP D cs ad) (aK ad 51)) 0 0 (aK ad 51) := by
  refine Met.ofW (cc := b_PR_isByValue) (maxL := 3) (ret := (some .boolean)) (by decide) rfl ?_
  intro p e s m args below meth c s₁ B hml hv
  obtain ⟨rfl, hP, hK, hN⟩ := hv
  have hx := B.exec
  have hb := B.bytes
  have hr := B.returns
  have hts := atoms_spec (ws := .code y_PR_isByValue b_PR_isByValue 3 (some .boolean) :: wC) B.pre
  have ht : ∀ w ∈ wC, w.before _ s = true := fun w h => hts w (List.mem_cons_of_mem _ h)
  have hown : s.vm.findClass R_PR = some m.cls := findClass_of_methodNamed B.named
  have hlocks := B.notSynchronized
  have hS : va_S (aK ad 51) s.heap s.heap [] := va_S.rf
  have hl := lv_entry ([.ref (ad 1), .int p1, .int p2]) (n := 3) (Nat.le_of_ble_eq_true rfl)
  rw [lg_entry_eq]
  generalize (lg_sl ([.ref (ad 1), .int p1, .int p2]) ++ List.replicate (3 - (lg_sl ([.ref (ad 1), .int p1, .int p2])).length) Slot.unset).toArray = ls at hl ⊢
  have hl : lv_has ls 3 [(0, .ref (ad 1)), (1, .int p1), (2, .int p2)] := hl
  unfold wp_PR_isByValue at hq
  have hh8 : 8 < 9 := by decide
  refine lv_iload_n hx hb d_PR_isByValue_0 rfl (lv_at hl 2 rfl) ?_
  refine lv_aload_n hx hb d_PR_isByValue_1 rfl (lv_at hl 0 rfl) ?_
  refine cw_get (C := R_PR) (T := F_PR) (N := 8) (v := .ref (ad 7)) hx hb hts (in_PR _) hown hK hP 1 (by decide) rfl rfl 6 (by decide) (ht _ wC_94) rfl d_PR_isByValue_2 ?_
  refine lv_iload_n hx hb d_PR_isByValue_5 rfl (lv_at hl 1 rfl) ?_
  refine cw_iald hx hb hK hP 7 (by decide) rfl 0 rfl hq.1 d_PR_isByValue_6 ?_
  have hq := hq.2
  refine lv_icmp_ge (tgt := 27) hx hb d_PR_isByValue_7 (by decide) (fun c1 => ?_) (fun c1 => ?_)
  · have hq := hq.1 c1
    refine lv_iconst (v := 0) hx hb d_PR_isByValue_27 (by decide) ?_
    exact W.zret hx hb hr rfl (fun t ht hW => ⟨⟨0, σ, rfl, hq, by rw [ht]; exact hP, va_K.moved hW.alike hK, hN.warm hW⟩, hS.F ht⟩) hS.2.2 d_PR_isByValue_28
  · have hq := hq.2 c1
    refine lv_aload_n hx hb d_PR_isByValue_10 rfl (lv_at hl 0 rfl) ?_
    refine cw_get (C := R_PR) (T := F_PR) (N := 8) (v := .ref (ad 8)) hx hb hts (in_PR _) hown hK hP 1 (by decide) rfl rfl 7 (by decide) (ht _ wC_96) rfl d_PR_isByValue_11 ?_
    refine lv_iload_n hx hb d_PR_isByValue_14 rfl (lv_at hl 1 rfl) ?_
    refine cw_iald hx hb hK hP 8 (by decide) rfl 0 rfl hq.1 d_PR_isByValue_15 ?_
    have hq := hq.2
    refine lv_iload_n hx hb d_PR_isByValue_16 rfl (lv_at hl 2 rfl) ?_
    refine lv_ishr hx hb d_PR_isByValue_17 ?_
    refine lv_iconst (v := 1) hx hb d_PR_isByValue_18 (by decide) ?_
    refine lv_iand hx hb d_PR_isByValue_19 ?_
    refine lv_if_ne (tgt := 27) hx hb d_PR_isByValue_20 (by decide) (fun c2 => ?_) (fun c2 => ?_)
    · have hq := hq.2 c2
      refine lv_iconst (v := 0) hx hb d_PR_isByValue_27 (by decide) ?_
      exact W.zret hx hb hr rfl (fun t ht hW => ⟨⟨0, σ, rfl, hq, by rw [ht]; exact hP, va_K.moved hW.alike hK, hN.warm hW⟩, hS.F ht⟩) hS.2.2 d_PR_isByValue_28
    · have hq := hq.1 c2
      refine lv_iconst (v := 1) hx hb d_PR_isByValue_23 (by decide) ?_
      refine lv_goto (tgt := 28) hx hb d_PR_isByValue_24 (by decide) ?_
      exact W.zret hx hb hr rfl (fun t ht hW => ⟨⟨1, σ, rfl, hq, by rw [ht]; exact hP, va_K.moved hW.alike hK, hN.warm hW⟩, hS.F ht⟩) hS.2.2 d_PR_isByValue_28
def wp_ST_size  (σ : CS) (Q : Int32 → CS → Prop) : Prop := Q ((((gI σ 10) - (gI σ 9)) + 1) * (((gI σ 12) - (gI σ 11)) + 1)) σ
set_option maxHeartbeats 4000000 in
set_option maxRecDepth 100000 in
theorem c_ST_size {l : Launch} {D : va_G} {cs : CI} {ad : Nat → Nat} (hi : aI ad 51)  {σ : CS} {Q : Int32 → CS → Prop} (hq : wp_ST_size  σ Q) : Met l y_ST_size (.code y_ST_size b_ST_size 1 (some .int) :: wC) ({ frames := 0, cells := 0, slots := 0, locals := 0 }) (va_Pc [.ref (ad 9)] (cP D cs ad σ)) (va_Qi Q (cP D cs ad) (aK ad 51)) 0 0 (aK ad 51) := by
  refine Met.ofW (cc := b_ST_size) (maxL := 1) (ret := (some .int)) (by decide) rfl ?_
  intro p e s m args below meth c s₁ B hml hv
  obtain ⟨rfl, hP, hK, hN⟩ := hv
  have hx := B.exec
  have hb := B.bytes
  have hr := B.returns
  have hts := atoms_spec (ws := .code y_ST_size b_ST_size 1 (some .int) :: wC) B.pre
  have ht : ∀ w ∈ wC, w.before _ s = true := fun w h => hts w (List.mem_cons_of_mem _ h)
  have hown : s.vm.findClass R_ST = some m.cls := findClass_of_methodNamed B.named
  have hlocks := B.notSynchronized
  have hS : va_S (aK ad 51) s.heap s.heap [] := va_S.rf
  have hl := lv_entry ([.ref (ad 9)]) (n := 1) (Nat.le_of_ble_eq_true rfl)
  rw [lg_entry_eq]
  generalize (lg_sl ([.ref (ad 9)]) ++ List.replicate (1 - (lg_sl ([.ref (ad 9)])).length) Slot.unset).toArray = ls at hl ⊢
  have hl : lv_has ls 1 [(0, .ref (ad 9))] := hl
  unfold wp_ST_size at hq
  have hh8 : 8 < 9 := by decide
  refine lv_aload_n hx hb d_ST_size_0 rfl (lv_at hl 0 rfl) ?_
  refine cw_get (C := R_ST) (T := F_ST) (N := 6) (v := .int (gI σ 10)) hx hb hts (in_ST _) hown hK hP 9 (by decide) rfl rfl 3 (by decide) (ht _ wC_129) rfl d_ST_size_1 ?_
  refine lv_aload_n hx hb d_ST_size_4 rfl (lv_at hl 0 rfl) ?_
  refine cw_get (C := R_ST) (T := F_ST) (N := 6) (v := .int (gI σ 9)) hx hb hts (in_ST _) hown hK hP 9 (by decide) rfl rfl 2 (by decide) (ht _ wC_128) rfl d_ST_size_5 ?_
  refine lv_isub hx hb d_ST_size_8 ?_
  refine lv_iconst (v := 1) hx hb d_ST_size_9 (by decide) ?_
  refine lv_iadd hx hb d_ST_size_10 ?_
  refine lv_aload_n hx hb d_ST_size_11 rfl (lv_at hl 0 rfl) ?_
  refine cw_get (C := R_ST) (T := F_ST) (N := 6) (v := .int (gI σ 12)) hx hb hts (in_ST _) hown hK hP 9 (by decide) rfl rfl 5 (by decide) (ht _ wC_131) rfl d_ST_size_12 ?_
  refine lv_aload_n hx hb d_ST_size_15 rfl (lv_at hl 0 rfl) ?_
  refine cw_get (C := R_ST) (T := F_ST) (N := 6) (v := .int (gI σ 11)) hx hb hts (in_ST _) hown hK hP 9 (by decide) rfl rfl 4 (by decide) (ht _ wC_130) rfl d_ST_size_16 ?_
  refine lv_isub hx hb d_ST_size_19 ?_
  refine lv_iconst (v := 1) hx hb d_ST_size_20 (by decide) ?_
  refine lv_iadd hx hb d_ST_size_21 ?_
  refine lv_imul hx hb d_ST_size_22 ?_
  exact W.iret hx hb hr (fun t ht hW => ⟨⟨((((gI σ 10) - (gI σ 9)) + 1) * (((gI σ 12) - (gI σ 11)) + 1)), σ, rfl, hq, by rw [ht]; exact hP, va_K.moved hW.alike hK, hN.warm hW⟩, hS.F ht⟩) hS.2.2 d_ST_size_23
def wp_ST_holds (p1 : Int64) (p2 : Int64) (σ : CS) (Q : Int32 → CS → Prop) : Prop := (((lg_cmp p1 ((gI σ 9).toInt64)) < 0 → Q 0 σ) ∧ (¬ (lg_cmp p1 ((gI σ 9).toInt64)) < 0 → ((0 < (lg_cmp p1 ((gI σ 10).toInt64)) → Q 0 σ) ∧ (¬ 0 < (lg_cmp p1 ((gI σ 10).toInt64)) → (((lg_cmp p2 ((gI σ 11).toInt64)) < 0 → Q 0 σ) ∧ (¬ (lg_cmp p2 ((gI σ 11).toInt64)) < 0 → ((0 < (lg_cmp p2 ((gI σ 12).toInt64)) → Q 0 σ) ∧ (¬ 0 < (lg_cmp p2 ((gI σ 12).toInt64)) → Q 1 σ))))))))
set_option maxHeartbeats 4000000 in
set_option maxRecDepth 100000 in
theorem c_ST_holds {l : Launch} {D : va_G} {cs : CI} {ad : Nat → Nat} (hi : aI ad 51) {p1 : Int64} {p2 : Int64} {σ : CS} {Q : Int32 → CS → Prop} (hq : wp_ST_holds p1 p2 σ Q) : Met l y_ST_holds (.code y_ST_holds b_ST_holds 5 (some .boolean) :: wC) ({ frames := 0, cells := 0, slots := 0, locals := 0 }) (va_Pc [.ref (ad 9), .long p1, .long p2] (cP D cs ad σ)) (va_Qi Q (cP D cs ad) (aK ad 51)) 0 0 (aK ad 51) := by
  refine Met.ofW (cc := b_ST_holds) (maxL := 5) (ret := (some .boolean)) (by decide) rfl ?_
  intro p e s m args below meth c s₁ B hml hv
  obtain ⟨rfl, hP, hK, hN⟩ := hv
  have hx := B.exec
  have hb := B.bytes
  have hr := B.returns
  have hts := atoms_spec (ws := .code y_ST_holds b_ST_holds 5 (some .boolean) :: wC) B.pre
  have ht : ∀ w ∈ wC, w.before _ s = true := fun w h => hts w (List.mem_cons_of_mem _ h)
  have hown : s.vm.findClass R_ST = some m.cls := findClass_of_methodNamed B.named
  have hlocks := B.notSynchronized
  have hS : va_S (aK ad 51) s.heap s.heap [] := va_S.rf
  have hl := lv_entry ([.ref (ad 9), .long p1, .long p2]) (n := 5) (Nat.le_of_ble_eq_true rfl)
  rw [lg_entry_eq]
  generalize (lg_sl ([.ref (ad 9), .long p1, .long p2]) ++ List.replicate (5 - (lg_sl ([.ref (ad 9), .long p1, .long p2])).length) Slot.unset).toArray = ls at hl ⊢
  have hl : lv_has ls 5 [(0, .ref (ad 9)), (1, .long p1), (3, .long p2)] := hl
  unfold wp_ST_holds at hq
  have hh8 : 8 < 9 := by decide
  refine lv_lload_n hx hb d_ST_holds_0 rfl (lv_at hl 1 rfl) ?_
  refine lv_aload_n hx hb d_ST_holds_1 rfl (lv_at hl 0 rfl) ?_
  refine cw_get (C := R_ST) (T := F_ST) (N := 6) (v := .int (gI σ 9)) hx hb hts (in_ST _) hown hK hP 9 (by decide) rfl rfl 2 (by decide) (ht _ wC_128) rfl d_ST_holds_2 ?_
  refine lv_i2l hx hb d_ST_holds_5 rfl ?_
  refine W.lcmp hx hb d_ST_holds_6 ?_
  refine lv_if_lt (tgt := 44) hx hb d_ST_holds_7 (by decide) (fun c1 => ?_) (fun c1 => ?_)
  · have hq := hq.1 c1
    refine lv_iconst (v := 0) hx hb d_ST_holds_44 (by decide) ?_
    exact W.zret hx hb hr rfl (fun t ht hW => ⟨⟨0, σ, rfl, hq, by rw [ht]; exact hP, va_K.moved hW.alike hK, hN.warm hW⟩, hS.F ht⟩) hS.2.2 d_ST_holds_45
  · have hq := hq.2 c1
    refine lv_lload_n hx hb d_ST_holds_10 rfl (lv_at hl 1 rfl) ?_
    refine lv_aload_n hx hb d_ST_holds_11 rfl (lv_at hl 0 rfl) ?_
    refine cw_get (C := R_ST) (T := F_ST) (N := 6) (v := .int (gI σ 10)) hx hb hts (in_ST _) hown hK hP 9 (by decide) rfl rfl 3 (by decide) (ht _ wC_129) rfl d_ST_holds_12 ?_
    refine lv_i2l hx hb d_ST_holds_15 rfl ?_
    refine W.lcmp hx hb d_ST_holds_16 ?_
    refine lv_if_gt (tgt := 44) hx hb d_ST_holds_17 (by decide) (fun c2 => ?_) (fun c2 => ?_)
    · have hq := hq.1 c2
      refine lv_iconst (v := 0) hx hb d_ST_holds_44 (by decide) ?_
      exact W.zret hx hb hr rfl (fun t ht hW => ⟨⟨0, σ, rfl, hq, by rw [ht]; exact hP, va_K.moved hW.alike hK, hN.warm hW⟩, hS.F ht⟩) hS.2.2 d_ST_holds_45
    · have hq := hq.2 c2
      refine lv_lload_n hx hb d_ST_holds_20 rfl (lv_at hl 2 rfl) ?_
      refine lv_aload_n hx hb d_ST_holds_21 rfl (lv_at hl 0 rfl) ?_
      refine cw_get (C := R_ST) (T := F_ST) (N := 6) (v := .int (gI σ 11)) hx hb hts (in_ST _) hown hK hP 9 (by decide) rfl rfl 4 (by decide) (ht _ wC_130) rfl d_ST_holds_22 ?_
      refine lv_i2l hx hb d_ST_holds_25 rfl ?_
      refine W.lcmp hx hb d_ST_holds_26 ?_
      refine lv_if_lt (tgt := 44) hx hb d_ST_holds_27 (by decide) (fun c3 => ?_) (fun c3 => ?_)
      · have hq := hq.1 c3
        refine lv_iconst (v := 0) hx hb d_ST_holds_44 (by decide) ?_
        exact W.zret hx hb hr rfl (fun t ht hW => ⟨⟨0, σ, rfl, hq, by rw [ht]; exact hP, va_K.moved hW.alike hK, hN.warm hW⟩, hS.F ht⟩) hS.2.2 d_ST_holds_45
      · have hq := hq.2 c3
        refine lv_lload_n hx hb d_ST_holds_30 rfl (lv_at hl 2 rfl) ?_
        refine lv_aload_n hx hb d_ST_holds_31 rfl (lv_at hl 0 rfl) ?_
        refine cw_get (C := R_ST) (T := F_ST) (N := 6) (v := .int (gI σ 12)) hx hb hts (in_ST _) hown hK hP 9 (by decide) rfl rfl 5 (by decide) (ht _ wC_131) rfl d_ST_holds_32 ?_
        refine lv_i2l hx hb d_ST_holds_35 rfl ?_
        refine W.lcmp hx hb d_ST_holds_36 ?_
        refine lv_if_gt (tgt := 44) hx hb d_ST_holds_37 (by decide) (fun c4 => ?_) (fun c4 => ?_)
        · have hq := hq.1 c4
          refine lv_iconst (v := 0) hx hb d_ST_holds_44 (by decide) ?_
          exact W.zret hx hb hr rfl (fun t ht hW => ⟨⟨0, σ, rfl, hq, by rw [ht]; exact hP, va_K.moved hW.alike hK, hN.warm hW⟩, hS.F ht⟩) hS.2.2 d_ST_holds_45
        · have hq := hq.2 c4
          refine lv_iconst (v := 1) hx hb d_ST_holds_40 (by decide) ?_
          refine lv_goto (tgt := 45) hx hb d_ST_holds_41 (by decide) ?_
          exact W.zret hx hb hr rfl (fun t ht hW => ⟨⟨1, σ, rfl, hq, by rw [ht]; exact hP, va_K.moved hW.alike hK, hN.warm hW⟩, hS.F ht⟩) hS.2.2 d_ST_holds_45
def wp_ST_place (p1 : Int64) (p2 : Int64) (σ : CS) (Q : Int32 → CS → Prop) : Prop := Q ((((p1 - ((gI σ 9).toInt64)).toInt32) * 5) + ((p2 - ((gI σ 11).toInt64)).toInt32)) σ
set_option maxHeartbeats 4000000 in
set_option maxRecDepth 100000 in
theorem c_ST_place {l : Launch} {D : va_G} {cs : CI} {ad : Nat → Nat} (hi : aI ad 51) {p1 : Int64} {p2 : Int64} {σ : CS} {Q : Int32 → CS → Prop} (hq : wp_ST_place p1 p2 σ Q) : Met l y_ST_place (.code y_ST_place b_ST_place 5 (some .int) :: wC) ({ frames := 0, cells := 0, slots := 0, locals := 0 }) (va_Pc [.ref (ad 9), .long p1, .long p2] (cP D cs ad σ)) (va_Qi Q (cP D cs ad) (aK ad 51)) 0 0 (aK ad 51) := by
  refine Met.ofW (cc := b_ST_place) (maxL := 5) (ret := (some .int)) (by decide) rfl ?_
  intro p e s m args below meth c s₁ B hml hv
  obtain ⟨rfl, hP, hK, hN⟩ := hv
  have hx := B.exec
  have hb := B.bytes
  have hr := B.returns
  have hts := atoms_spec (ws := .code y_ST_place b_ST_place 5 (some .int) :: wC) B.pre
  have ht : ∀ w ∈ wC, w.before _ s = true := fun w h => hts w (List.mem_cons_of_mem _ h)
  have hown : s.vm.findClass R_ST = some m.cls := findClass_of_methodNamed B.named
  have hlocks := B.notSynchronized
  have hS : va_S (aK ad 51) s.heap s.heap [] := va_S.rf
  have hl := lv_entry ([.ref (ad 9), .long p1, .long p2]) (n := 5) (Nat.le_of_ble_eq_true rfl)
  rw [lg_entry_eq]
  generalize (lg_sl ([.ref (ad 9), .long p1, .long p2]) ++ List.replicate (5 - (lg_sl ([.ref (ad 9), .long p1, .long p2])).length) Slot.unset).toArray = ls at hl ⊢
  have hl : lv_has ls 5 [(0, .ref (ad 9)), (1, .long p1), (3, .long p2)] := hl
  unfold wp_ST_place at hq
  have hh8 : 8 < 9 := by decide
  refine lv_lload_n hx hb d_ST_place_0 rfl (lv_at hl 1 rfl) ?_
  refine lv_aload_n hx hb d_ST_place_1 rfl (lv_at hl 0 rfl) ?_
  refine cw_get (C := R_ST) (T := F_ST) (N := 6) (v := .int (gI σ 9)) hx hb hts (in_ST _) hown hK hP 9 (by decide) rfl rfl 2 (by decide) (ht _ wC_128) rfl d_ST_place_2 ?_
  refine lv_i2l hx hb d_ST_place_5 rfl ?_
  refine lv_lsub hx hb d_ST_place_6 ?_
  refine lv_l2i hx hb d_ST_place_7 rfl ?_
  refine lv_iconst (v := 5) hx hb d_ST_place_8 (by decide) ?_
  refine lv_imul hx hb d_ST_place_9 ?_
  refine lv_lload_n hx hb d_ST_place_10 rfl (lv_at hl 2 rfl) ?_
  refine lv_aload_n hx hb d_ST_place_11 rfl (lv_at hl 0 rfl) ?_
  refine cw_get (C := R_ST) (T := F_ST) (N := 6) (v := .int (gI σ 11)) hx hb hts (in_ST _) hown hK hP 9 (by decide) rfl rfl 4 (by decide) (ht _ wC_130) rfl d_ST_place_12 ?_
  refine lv_i2l hx hb d_ST_place_15 rfl ?_
  refine lv_lsub hx hb d_ST_place_16 ?_
  refine lv_l2i hx hb d_ST_place_17 rfl ?_
  refine lv_iadd hx hb d_ST_place_18 ?_
  exact W.iret hx hb hr (fun t ht hW => ⟨⟨((((p1 - ((gI σ 9).toInt64)).toInt32) * 5) + ((p2 - ((gI σ 11).toInt64)).toInt32)), σ, rfl, hq, by rw [ht]; exact hP, va_K.moved hW.alike hK, hN.warm hW⟩, hS.F ht⟩) hS.2.2 d_ST_place_19
def wp_ST_assign (p1 : Int32) (p2 : UInt64) (σ : CS) (Q : UInt64 → CS → Prop) : Prop := ((4 ≤ p1 → (vp_in p1 8 ∧ (∀ s2 : CS, s2 = sD σ 0 (vf_upd (gD σ 0) p1.toNatClampNeg p2) → (vp_in p1 8 ∧ Q (gD s2 0 p1.toNatClampNeg) s2)))) ∧ (¬ 4 ≤ p1 → (wp_NF_rounded p2 σ (fun r3 s4 => (vp_in p1 8 ∧ (∀ s5 : CS, s5 = sD s4 0 (vf_upd (gD s4 0) p1.toNatClampNeg (FP.l2d r3)) → (vp_in p1 8 ∧ Q (gD s5 0 p1.toNatClampNeg) s5)))))))
set_option maxHeartbeats 4000000 in
set_option maxRecDepth 100000 in
theorem c_ST_assign {l : Launch} {D : va_G} {cs : CI} {ad : Nat → Nat} (hi : aI ad 51) {p1 : Int32} {p2 : UInt64} {σ : CS} {Q : UInt64 → CS → Prop} (hq : wp_ST_assign p1 p2 σ Q) : Met l y_ST_assign (.code y_ST_assign b_ST_assign 4 (some .double) :: wC) ({ frames := 1, cells := 0, slots := 0, locals := 25 }) (va_Pc [.ref (ad 9), .int p1, .double p2] (cP D cs ad σ)) (va_Qd Q (cP D cs ad) (aK ad 51)) 0 0 (aK ad 51) := by
  refine Met.ofW (cc := b_ST_assign) (maxL := 4) (ret := (some .double)) (by decide) rfl ?_
  intro p e s m args below meth c s₁ B hml hv
  obtain ⟨rfl, hP, hK, hN⟩ := hv
  have hx := B.exec
  have hb := B.bytes
  have hr := B.returns
  have hts := atoms_spec (ws := .code y_ST_assign b_ST_assign 4 (some .double) :: wC) B.pre
  have ht : ∀ w ∈ wC, w.before _ s = true := fun w h => hts w (List.mem_cons_of_mem _ h)
  have hown : s.vm.findClass R_ST = some m.cls := findClass_of_methodNamed B.named
  have hlocks := B.notSynchronized
  have hS : va_S (aK ad 51) s.heap s.heap [] := va_S.rf
  have hl := lv_entry ([.ref (ad 9), .int p1, .double p2]) (n := 4) (Nat.le_of_ble_eq_true rfl)
  rw [lg_entry_eq]
  generalize (lg_sl ([.ref (ad 9), .int p1, .double p2]) ++ List.replicate (4 - (lg_sl ([.ref (ad 9), .int p1, .double p2])).length) Slot.unset).toArray = ls at hl ⊢
  have hl : lv_has ls 4 [(0, .ref (ad 9)), (1, .int p1), (2, .double p2)] := hl
  unfold wp_ST_assign at hq
  have hh8 : 8 < 9 := by decide
  refine lv_aload_n hx hb d_ST_assign_0 rfl (lv_at hl 0 rfl) ?_
  refine cw_get (C := R_ST) (T := F_ST) (N := 6) (v := .ref (ad 10)) hx hb hts (in_ST _) hown hK hP 9 (by decide) rfl rfl 0 (by decide) (ht _ wC_122) rfl d_ST_assign_1 ?_
  refine lv_iload_n hx hb d_ST_assign_4 rfl (lv_at hl 1 rfl) ?_
  refine lv_iload_n hx hb d_ST_assign_5 rfl (lv_at hl 1 rfl) ?_
  refine lv_iconst (v := 4) hx hb d_ST_assign_6 (by decide) ?_
  refine lv_icmp_ge (tgt := 18) hx hb d_ST_assign_7 (by decide) (fun c1 => ?_) (fun c1 => ?_)
  · have hq := hq.1 c1
    refine lv_dload_n hx hb d_ST_assign_18 rfl (lv_at hl 2 rfl) ?_
    refine cw_dast hx hb hK hP hi hS 10 (by decide) rfl 1 rfl hq.1 upd_0 d_ST_assign_19 (fun H locs hP hS => ?_)
    have hq := hq.2
    obtain ⟨s2, e_s2⟩ : ∃ z, z = sD σ 0 (vf_upd (gD σ 0) p1.toNatClampNeg p2) := ⟨_, rfl⟩
    rw [← e_s2] at hP
    have hq := hq s2 e_s2
    refine lv_aload_n hx hb d_ST_assign_20 rfl (lv_at hl 0 rfl) ?_
    refine cw_get (C := R_ST) (T := F_ST) (N := 6) (v := .ref (ad 10)) hx hb hts (in_ST _) hown hK hP 9 (by decide) rfl rfl 0 (by decide) (ht _ wC_122) rfl d_ST_assign_21 ?_
    refine lv_iload_n hx hb d_ST_assign_24 rfl (lv_at hl 1 rfl) ?_
    refine cw_dald hx hb hK hP 10 (by decide) rfl 1 rfl hq.1 d_ST_assign_25 ?_
    have hq := hq.2
    exact W.dret hx hb hr (fun t ht hW => ⟨⟨(gD s2 0 p1.toNatClampNeg), s2, rfl, hq, by rw [ht]; exact hP, va_K.moved hW.alike hK, hN.warm hW⟩, hS.F ht⟩) hS.2.2 d_ST_assign_26
  · have hq := hq.2 c1
    refine lv_dload_n hx hb d_ST_assign_10 rfl (lv_at hl 2 rfl) ?_
    refine va_calll (va_runSN (As := [.double p2]) (rest := [.int p1, .ref (ad 10)]) ⟨hx, hb, hml, hown, hts⟩ (c_NF_rounded (D := D) (cs := cs) hi hq) (⟨va_cnB 1 hts (good_C wC_421) rfl rfl rfl (hN _ wN_419) (ht _ wC_44) (by decide +kernel) ⟨(show 0 + 1 ≤ 1 by omega), (show 8 + (6 + 11) + 0 ≤ 25 by omega)⟩, (ht _ wC_420), trivial⟩) ⟨cP_blind, fun U hU hW => ⟨rfl, by rw [hU]; exact hP, va_K.moved hW.alike hK, hN.warm hW⟩⟩ rfl rfl hl.1 rfl (lv_room (Nat.le_of_ble_eq_true rfl)) d_ST_assign_11 ⟨Nat.le_refl _, Nat.le_refl _⟩) hS (fun q _ h => h) (fun q h => h) (fun r3 s4 t H locs ht0 hvm hq hB hz1 hk1 hS => ?_)
    obtain ⟨hP, -, -⟩ := hB
    rw [ht0] at hP
    refine lv_l2d hx hb d_ST_assign_14 ?_
    refine lv_goto (tgt := 19) hx hb d_ST_assign_15 (by decide) ?_
    refine cw_dast hx hb hK hP hi hS 10 (by decide) rfl 1 rfl hq.1 upd_0 d_ST_assign_19 (fun H locs hP hS => ?_)
    have hq := hq.2
    obtain ⟨s5, e_s5⟩ : ∃ z, z = sD s4 0 (vf_upd (gD s4 0) p1.toNatClampNeg (FP.l2d r3)) := ⟨_, rfl⟩
    rw [← e_s5] at hP
    have hq := hq s5 e_s5
    refine lv_aload_n hx hb d_ST_assign_20 rfl (lv_at hl 0 rfl) ?_
    refine cw_get (C := R_ST) (T := F_ST) (N := 6) (v := .ref (ad 10)) hx hb hts (in_ST _) hown hK hP 9 (by decide) rfl rfl 0 (by decide) (ht _ wC_122) rfl d_ST_assign_21 ?_
    refine lv_iload_n hx hb d_ST_assign_24 rfl (lv_at hl 1 rfl) ?_
    refine cw_dald hx hb hK hP 10 (by decide) rfl 1 rfl hq.1 d_ST_assign_25 ?_
    have hq := hq.2
    exact W.dret hx hb hr (fun t ht hW => ⟨⟨(gD s5 0 p1.toNatClampNeg), s5, rfl, hq, by rw [ht]; exact hP, va_K.moved hW.alike hK, hN.warm hW⟩, hS.F ht⟩) hS.2.2 d_ST_assign_26
def wp_EN_give (h : Nat) (p1 : Int32) (p2 : Int32) (p3 : UInt64) (σ : CS) (Q : CS → Prop) : Prop := (h < 9 ∧ (vp_in p1 2 ∧ (∀ s1 : CS, s1 = sA σ (10 + h) (upd (gA σ (10 + h)) p1.toNatClampNeg p2) → (vp_in p1 2 ∧ (∀ s2 : CS, s2 = sD s1 (10 + h) (vf_upd (gD s1 (10 + h)) p1.toNatClampNeg p3) → Q s2)))))
set_option maxHeartbeats 4000000 in
set_option maxRecDepth 100000 in
theorem c_EN_give {l : Launch} {D : va_G} {cs : CI} {ad : Nat → Nat} (hi : aI ad 51) {h : Nat} {p1 : Int32} {p2 : Int32} {p3 : UInt64} {σ : CS} {Q : CS → Prop} (hq : wp_EN_give h p1 p2 p3 σ Q) : Met l y_EN_give (.code y_EN_give b_EN_give 5 none :: wC) ({ frames := 0, cells := 0, slots := 0, locals := 0 }) (va_Pc [.ref (ad (15 + h)), .int p1, .int p2, .double p3] (cP D cs ad σ)) (va_Qv Q (cP D cs ad) (aK ad 51)) 0 0 (aK ad 51) := by
  refine Met.ofW (cc := b_EN_give) (maxL := 5) (ret := none) (by decide) rfl ?_
  intro p e s m args below meth c s₁ B hml hv
  obtain ⟨rfl, hP, hK, hN⟩ := hv
  have hx := B.exec
  have hb := B.bytes
  have hr := B.returns
  have hts := atoms_spec (ws := .code y_EN_give b_EN_give 5 none :: wC) B.pre
  have ht : ∀ w ∈ wC, w.before _ s = true := fun w h => hts w (List.mem_cons_of_mem _ h)
  have hown : s.vm.findClass R_EN = some m.cls := findClass_of_methodNamed B.named
  have hlocks := B.notSynchronized
  have hS : va_S (aK ad 51) s.heap s.heap [] := va_S.rf
  have hl := lv_entry ([.ref (ad (15 + h)), .int p1, .int p2, .double p3]) (n := 5) (Nat.le_of_ble_eq_true rfl)
  rw [lg_entry_eq]
  generalize (lg_sl ([.ref (ad (15 + h)), .int p1, .int p2, .double p3]) ++ List.replicate (5 - (lg_sl ([.ref (ad (15 + h)), .int p1, .int p2, .double p3])).length) Slot.unset).toArray = ls at hl ⊢
  have hl : lv_has ls 5 [(0, .ref (ad (15 + h))), (1, .int p1), (2, .int p2), (3, .double p3)] := hl
  unfold wp_EN_give at hq
  have hh_h : h < 9 := hq.1
  have hq := hq.2
  have hh8 : 8 < 9 := by decide
  refine lv_aload_n hx hb d_EN_give_0 rfl (lv_at hl 0 rfl) ?_
  refine cw_get (C := R_EN) (T := F_EN) (N := 6) (v := .ref (ad (24 + h))) hx hb hts (in_EN _) hown hK hP (15 + h) (by omega) (ct_o hh_h) rfl 1 (by decide) (ht _ wC_160) rfl d_EN_give_1 ?_
  refine lv_iload_n hx hb d_EN_give_4 rfl (lv_at hl 1 rfl) ?_
  refine lv_iload_n hx hb d_EN_give_5 rfl (lv_at hl 2 rfl) ?_
  refine cw_iast hx hb hK hP hi hS (24 + h) (by omega) (ct_g hh_h) 0 rfl hq.1 (upa_10 hh_h) d_EN_give_6 (fun H locs hP hS => ?_)
  have hq := hq.2
  obtain ⟨s1, e_s1⟩ : ∃ z, z = sA σ (10 + h) (upd (gA σ (10 + h)) p1.toNatClampNeg p2) := ⟨_, rfl⟩
  rw [← e_s1] at hP
  have hq := hq s1 e_s1
  refine lv_aload_n hx hb d_EN_give_7 rfl (lv_at hl 0 rfl) ?_
  refine cw_get (C := R_EN) (T := F_EN) (N := 6) (v := .ref (ad (33 + h))) hx hb hts (in_EN _) hown hK hP (15 + h) (by omega) (ct_o hh_h) rfl 2 (by decide) (ht _ wC_162) rfl d_EN_give_8 ?_
  refine lv_iload_n hx hb d_EN_give_11 rfl (lv_at hl 1 rfl) ?_
  refine lv_dload_n hx hb d_EN_give_12 rfl (lv_at hl 3 rfl) ?_
  refine cw_dast hx hb hK hP hi hS (33 + h) (by omega) (ct_v hh_h) 1 rfl hq.1 (upd_10 hh_h) d_EN_give_13 (fun H locs hP hS => ?_)
  have hq := hq.2
  obtain ⟨s2, e_s2⟩ : ∃ z, z = sD s1 (10 + h) (vf_upd (gD s1 (10 + h)) p1.toNatClampNeg p3) := ⟨_, rfl⟩
  rw [← e_s2] at hP
  have hq := hq s2 e_s2
  exact W.vret hx hb hr (fun t ht hW => ⟨⟨s2, rfl, hq, by rw [ht]; exact hP, va_K.moved hW.alike hK, hN.warm hW⟩, hS.F ht⟩) hS.2.2 d_EN_give_14
def wp_EN_isByName (h : Nat) (p1 : Int32) (σ : CS) (Q : Int32 → CS → Prop) : Prop := (h < 9 ∧ (((((gI σ (30 + h)) >>> (p1 &&& 31)) &&& 1) = 1 → Q 1 σ) ∧ (¬ (((gI σ (30 + h)) >>> (p1 &&& 31)) &&& 1) = 1 → Q 0 σ)))
set_option maxHeartbeats 4000000 in
set_option maxRecDepth 100000 in
theorem c_EN_isByName {l : Launch} {D : va_G} {cs : CI} {ad : Nat → Nat} (hi : aI ad 51) {h : Nat} {p1 : Int32} {σ : CS} {Q : Int32 → CS → Prop} (hq : wp_EN_isByName h p1 σ Q) : Met l y_EN_isByName (.code y_EN_isByName b_EN_isByName 2 (some .boolean) :: wC) ({ frames := 0, cells := 0, slots := 0, locals := 0 }) (va_Pc [.ref (ad (15 + h)), .int p1] (cP D cs ad σ)) (va_Qi Q (cP D cs ad) (aK ad 51)) 0 0 (aK ad 51) := by
  refine Met.ofW (cc := b_EN_isByName) (maxL := 2) (ret := (some .boolean)) (by decide) rfl ?_
  intro p e s m args below meth c s₁ B hml hv
  obtain ⟨rfl, hP, hK, hN⟩ := hv
  have hx := B.exec
  have hb := B.bytes
  have hr := B.returns
  have hts := atoms_spec (ws := .code y_EN_isByName b_EN_isByName 2 (some .boolean) :: wC) B.pre
  have ht : ∀ w ∈ wC, w.before _ s = true := fun w h => hts w (List.mem_cons_of_mem _ h)
  have hown : s.vm.findClass R_EN = some m.cls := findClass_of_methodNamed B.named
  have hlocks := B.notSynchronized
  have hS : va_S (aK ad 51) s.heap s.heap [] := va_S.rf
  have hl := lv_entry ([.ref (ad (15 + h)), .int p1]) (n := 2) (Nat.le_of_ble_eq_true rfl)
  rw [lg_entry_eq]
  generalize (lg_sl ([.ref (ad (15 + h)), .int p1]) ++ List.replicate (2 - (lg_sl ([.ref (ad (15 + h)), .int p1])).length) Slot.unset).toArray = ls at hl ⊢
  have hl : lv_has ls 2 [(0, .ref (ad (15 + h))), (1, .int p1)] := hl
  unfold wp_EN_isByName at hq
  have hh_h : h < 9 := hq.1
  have hq := hq.2
  have hh8 : 8 < 9 := by decide
  refine lv_aload_n hx hb d_EN_isByName_0 rfl (lv_at hl 0 rfl) ?_
  refine cw_get (C := R_EN) (T := F_EN) (N := 6) (v := .int (gI σ (30 + h))) hx hb hts (in_EN _) hown hK hP (15 + h) (by omega) (ct_o hh_h) rfl 5 (by decide) (ht _ wC_167) rfl d_EN_isByName_1 ?_
  refine lv_iload_n hx hb d_EN_isByName_4 rfl (lv_at hl 1 rfl) ?_
  refine lv_ishr hx hb d_EN_isByName_5 ?_
  refine lv_iconst (v := 1) hx hb d_EN_isByName_6 (by decide) ?_
  refine lv_iand hx hb d_EN_isByName_7 ?_
  refine lv_iconst (v := 1) hx hb d_EN_isByName_8 (by decide) ?_
  refine lv_icmp_ne (tgt := 16) hx hb d_EN_isByName_9 (by decide) (fun c1 => ?_) (fun c1 => ?_)
  · have hq := hq.2 c1
    refine lv_iconst (v := 0) hx hb d_EN_isByName_16 (by decide) ?_
    exact W.zret hx hb hr rfl (fun t ht hW => ⟨⟨0, σ, rfl, hq, by rw [ht]; exact hP, va_K.moved hW.alike hK, hN.warm hW⟩, hS.F ht⟩) hS.2.2 d_EN_isByName_17
  · have hq := hq.1 c1
    refine lv_iconst (v := 1) hx hb d_EN_isByName_12 (by decide) ?_
    refine lv_goto (tgt := 17) hx hb d_EN_isByName_13 (by decide) ?_
    exact W.zret hx hb hr rfl (fun t ht hW => ⟨⟨1, σ, rfl, hq, by rw [ht]; exact hP, va_K.moved hW.alike hK, hN.warm hW⟩, hS.F ht⟩) hS.2.2 d_EN_isByName_17
def wp_EN_hasParameter (h : Nat) (p1 : Int32) (σ : CS) (Q : Int32 → CS → Prop) : Prop := (h < 9 ∧ ((gC σ h = none → Q 0 σ) ∧ (∀ k1 : Nat, gC σ h = some k1 → (((gI σ (20 + h)) ≤ p1 → Q 0 σ) ∧ (¬ (gI σ (20 + h)) ≤ p1 → Q 1 σ)))))
set_option maxHeartbeats 4000000 in
set_option maxRecDepth 100000 in
theorem c_EN_hasParameter {l : Launch} {D : va_G} {cs : CI} {ad : Nat → Nat} (hi : aI ad 51) {h : Nat} {p1 : Int32} {σ : CS} {Q : Int32 → CS → Prop} (hq : wp_EN_hasParameter h p1 σ Q) : Met l y_EN_hasParameter (.code y_EN_hasParameter b_EN_hasParameter 2 (some .boolean) :: wC) ({ frames := 0, cells := 0, slots := 0, locals := 0 }) (va_Pc [.ref (ad (15 + h)), .int p1] (cP D cs ad σ)) (va_Qi Q (cP D cs ad) (aK ad 51)) 0 0 (aK ad 51) := by
  refine Met.ofW (cc := b_EN_hasParameter) (maxL := 2) (ret := (some .boolean)) (by decide) rfl ?_
  intro p e s m args below meth c s₁ B hml hv
  obtain ⟨rfl, hP, hK, hN⟩ := hv
  have hx := B.exec
  have hb := B.bytes
  have hr := B.returns
  have hts := atoms_spec (ws := .code y_EN_hasParameter b_EN_hasParameter 2 (some .boolean) :: wC) B.pre
  have ht : ∀ w ∈ wC, w.before _ s = true := fun w h => hts w (List.mem_cons_of_mem _ h)
  have hown : s.vm.findClass R_EN = some m.cls := findClass_of_methodNamed B.named
  have hlocks := B.notSynchronized
  have hS : va_S (aK ad 51) s.heap s.heap [] := va_S.rf
  have hl := lv_entry ([.ref (ad (15 + h)), .int p1]) (n := 2) (Nat.le_of_ble_eq_true rfl)
  rw [lg_entry_eq]
  generalize (lg_sl ([.ref (ad (15 + h)), .int p1]) ++ List.replicate (2 - (lg_sl ([.ref (ad (15 + h)), .int p1])).length) Slot.unset).toArray = ls at hl ⊢
  have hl : lv_has ls 2 [(0, .ref (ad (15 + h))), (1, .int p1)] := hl
  unfold wp_EN_hasParameter at hq
  have hh_h : h < 9 := hq.1
  have hq := hq.2
  have hh8 : 8 < 9 := by decide
  refine lv_aload_n hx hb d_EN_hasParameter_0 rfl (lv_at hl 0 rfl) ?_
  refine cw_get (C := R_EN) (T := F_EN) (N := 6) (v := cv ad (gC σ h)) hx hb hts (in_EN _) hown hK hP (15 + h) (by omega) (ct_o hh_h) rfl 0 (by decide) (ht _ wC_158) rfl d_EN_hasParameter_1 ?_
  cases e2 : gC σ h with
  | none =>
    have hq := hq.1 e2
    rw [cv_none]
    refine lv_ifnullN (tgt := 19) hx hb d_EN_hasParameter_4 (by decide) ?_
    refine lv_iconst (v := 0) hx hb d_EN_hasParameter_19 (by decide) ?_
    exact W.zret hx hb hr rfl (fun t ht hW => ⟨⟨0, σ, rfl, hq, by rw [ht]; exact hP, va_K.moved hW.alike hK, hN.warm hW⟩, hS.F ht⟩) hS.2.2 d_EN_hasParameter_20
  | some k1 =>
    have hq := hq.2 k1 e2
    rw [cv_some]
    refine lv_ifnull hx hb d_EN_hasParameter_4 ?_
    refine lv_iload_n hx hb d_EN_hasParameter_7 rfl (lv_at hl 1 rfl) ?_
    refine lv_aload_n hx hb d_EN_hasParameter_8 rfl (lv_at hl 0 rfl) ?_
    refine cw_get (C := R_EN) (T := F_EN) (N := 6) (v := .int (gI σ (20 + h))) hx hb hts (in_EN _) hown hK hP (15 + h) (by omega) (ct_o hh_h) rfl 4 (by decide) (ht _ wC_166) rfl d_EN_hasParameter_9 ?_
    refine lv_icmp_ge (tgt := 19) hx hb d_EN_hasParameter_12 (by decide) (fun c3 => ?_) (fun c3 => ?_)
    · have hq := hq.1 c3
      refine lv_iconst (v := 0) hx hb d_EN_hasParameter_19 (by decide) ?_
      exact W.zret hx hb hr rfl (fun t ht hW => ⟨⟨0, σ, rfl, hq, by rw [ht]; exact hP, va_K.moved hW.alike hK, hN.warm hW⟩, hS.F ht⟩) hS.2.2 d_EN_hasParameter_20
    · have hq := hq.2 c3
      refine lv_iconst (v := 1) hx hb d_EN_hasParameter_15 (by decide) ?_
      refine lv_goto (tgt := 20) hx hb d_EN_hasParameter_16 (by decide) ?_
      exact W.zret hx hb hr rfl (fun t ht hW => ⟨⟨1, σ, rfl, hq, by rw [ht]; exact hP, va_K.moved hW.alike hK, hN.warm hW⟩, hS.F ht⟩) hS.2.2 d_EN_hasParameter_20
def wp_EN_hasLocals (h : Nat) (σ : CS) (Q : Int32 → CS → Prop) : Prop := (h < 9 ∧ ((gC σ h = none → Q 0 σ) ∧ (∀ k1 : Nat, gC σ h = some k1 → Q 1 σ)))
set_option maxHeartbeats 4000000 in
set_option maxRecDepth 100000 in
theorem c_EN_hasLocals {l : Launch} {D : va_G} {cs : CI} {ad : Nat → Nat} (hi : aI ad 51) {h : Nat} {σ : CS} {Q : Int32 → CS → Prop} (hq : wp_EN_hasLocals h σ Q) : Met l y_EN_hasLocals (.code y_EN_hasLocals b_EN_hasLocals 1 (some .boolean) :: wC) ({ frames := 0, cells := 0, slots := 0, locals := 0 }) (va_Pc [.ref (ad (15 + h))] (cP D cs ad σ)) (va_Qi Q (cP D cs ad) (aK ad 51)) 0 0 (aK ad 51) := by
  refine Met.ofW (cc := b_EN_hasLocals) (maxL := 1) (ret := (some .boolean)) (by decide) rfl ?_
  intro p e s m args below meth c s₁ B hml hv
  obtain ⟨rfl, hP, hK, hN⟩ := hv
  have hx := B.exec
  have hb := B.bytes
  have hr := B.returns
  have hts := atoms_spec (ws := .code y_EN_hasLocals b_EN_hasLocals 1 (some .boolean) :: wC) B.pre
  have ht : ∀ w ∈ wC, w.before _ s = true := fun w h => hts w (List.mem_cons_of_mem _ h)
  have hown : s.vm.findClass R_EN = some m.cls := findClass_of_methodNamed B.named
  have hlocks := B.notSynchronized
  have hS : va_S (aK ad 51) s.heap s.heap [] := va_S.rf
  have hl := lv_entry ([.ref (ad (15 + h))]) (n := 1) (Nat.le_of_ble_eq_true rfl)
  rw [lg_entry_eq]
  generalize (lg_sl ([.ref (ad (15 + h))]) ++ List.replicate (1 - (lg_sl ([.ref (ad (15 + h))])).length) Slot.unset).toArray = ls at hl ⊢
  have hl : lv_has ls 1 [(0, .ref (ad (15 + h)))] := hl
  unfold wp_EN_hasLocals at hq
  have hh_h : h < 9 := hq.1
  have hq := hq.2
  have hh8 : 8 < 9 := by decide
  refine lv_aload_n hx hb d_EN_hasLocals_0 rfl (lv_at hl 0 rfl) ?_
  refine cw_get (C := R_EN) (T := F_EN) (N := 6) (v := cv ad (gC σ h)) hx hb hts (in_EN _) hown hK hP (15 + h) (by omega) (ct_o hh_h) rfl 0 (by decide) (ht _ wC_158) rfl d_EN_hasLocals_1 ?_
  cases e2 : gC σ h with
  | none =>
    have hq := hq.1 e2
    rw [cv_none]
    refine lv_ifnullN (tgt := 11) hx hb d_EN_hasLocals_4 (by decide) ?_
    refine lv_iconst (v := 0) hx hb d_EN_hasLocals_11 (by decide) ?_
    exact W.zret hx hb hr rfl (fun t ht hW => ⟨⟨0, σ, rfl, hq, by rw [ht]; exact hP, va_K.moved hW.alike hK, hN.warm hW⟩, hS.F ht⟩) hS.2.2 d_EN_hasLocals_12
  | some k1 =>
    have hq := hq.2 k1 e2
    rw [cv_some]
    refine lv_ifnull hx hb d_EN_hasLocals_4 ?_
    refine lv_iconst (v := 1) hx hb d_EN_hasLocals_7 (by decide) ?_
    refine lv_goto (tgt := 12) hx hb d_EN_hasLocals_8 (by decide) ?_
    exact W.zret hx hb hr rfl (fun t ht hW => ⟨⟨1, σ, rfl, hq, by rw [ht]; exact hP, va_K.moved hW.alike hK, hN.warm hW⟩, hS.F ht⟩) hS.2.2 d_EN_hasLocals_12
def wp_WK_leaving  (σ : CS) (Q : Int32 → CS → Prop) : Prop := (((gI σ 1) = 0 → (((gI σ 7) = (-1) → Q 0 σ) ∧ (¬ (gI σ 7) = (-1) → Q 1 σ))) ∧ (¬ (gI σ 1) = 0 → Q 1 σ))
set_option maxHeartbeats 4000000 in
set_option maxRecDepth 100000 in
theorem c_WK_leaving {l : Launch} {D : va_G} {cs : CI} {ad : Nat → Nat} (hi : aI ad 51)  {σ : CS} {Q : Int32 → CS → Prop} (hq : wp_WK_leaving  σ Q) : Met l y_WK_leaving (.code y_WK_leaving b_WK_leaving 1 (some .boolean) :: wC) ({ frames := 0, cells := 0, slots := 0, locals := 0 }) (va_Pc [.ref (ad 12)] (cP D cs ad σ)) (va_Qi Q (cP D cs ad) (aK ad 51)) 0 0 (aK ad 51) := by
  refine Met.ofW (cc := b_WK_leaving) (maxL := 1) (ret := (some .boolean)) (by decide) rfl ?_
  intro p e s m args below meth c s₁ B hml hv
  obtain ⟨rfl, hP, hK, hN⟩ := hv
  have hx := B.exec
  have hb := B.bytes
  have hr := B.returns
  have hts := atoms_spec (ws := .code y_WK_leaving b_WK_leaving 1 (some .boolean) :: wC) B.pre
  have ht : ∀ w ∈ wC, w.before _ s = true := fun w h => hts w (List.mem_cons_of_mem _ h)
  have hown : s.vm.findClass R_WK = some m.cls := findClass_of_methodNamed B.named
  have hlocks := B.notSynchronized
  have hS : va_S (aK ad 51) s.heap s.heap [] := va_S.rf
  have hl := lv_entry ([.ref (ad 12)]) (n := 1) (Nat.le_of_ble_eq_true rfl)
  rw [lg_entry_eq]
  generalize (lg_sl ([.ref (ad 12)]) ++ List.replicate (1 - (lg_sl ([.ref (ad 12)])).length) Slot.unset).toArray = ls at hl ⊢
  have hl : lv_has ls 1 [(0, .ref (ad 12))] := hl
  unfold wp_WK_leaving at hq
  have hh8 : 8 < 9 := by decide
  refine lv_aload_n hx hb d_WK_leaving_0 rfl (lv_at hl 0 rfl) ?_
  refine cw_get (C := R_WK) (T := F_WK) (N := 13) (v := .int (gI σ 1)) hx hb hts (in_WK _) hown hK hP 12 (by decide) rfl rfl 1 (by decide) (ht _ wC_184) rfl d_WK_leaving_1 ?_
  refine lv_if_ne (tgt := 15) hx hb d_WK_leaving_4 (by decide) (fun c1 => ?_) (fun c1 => ?_)
  · have hq := hq.2 c1
    refine lv_iconst (v := 1) hx hb d_WK_leaving_15 (by decide) ?_
    refine lv_goto (tgt := 20) hx hb d_WK_leaving_16 (by decide) ?_
    exact W.zret hx hb hr rfl (fun t ht hW => ⟨⟨1, σ, rfl, hq, by rw [ht]; exact hP, va_K.moved hW.alike hK, hN.warm hW⟩, hS.F ht⟩) hS.2.2 d_WK_leaving_20
  · have hq := hq.1 c1
    refine lv_aload_n hx hb d_WK_leaving_7 rfl (lv_at hl 0 rfl) ?_
    refine cw_get (C := R_WK) (T := F_WK) (N := 13) (v := .int (gI σ 7)) hx hb hts (in_WK _) hown hK hP 12 (by decide) rfl rfl 12 (by decide) (ht _ wC_199) rfl d_WK_leaving_8 ?_
    refine lv_iconst (v := (-1)) hx hb d_WK_leaving_11 (by decide) ?_
    refine lv_icmp_eq (tgt := 19) hx hb d_WK_leaving_12 (by decide) (fun c2 => ?_) (fun c2 => ?_)
    · have hq := hq.1 c2
      refine lv_iconst (v := 0) hx hb d_WK_leaving_19 (by decide) ?_
      exact W.zret hx hb hr rfl (fun t ht hW => ⟨⟨0, σ, rfl, hq, by rw [ht]; exact hP, va_K.moved hW.alike hK, hN.warm hW⟩, hS.F ht⟩) hS.2.2 d_WK_leaving_20
    · have hq := hq.2 c2
      refine lv_iconst (v := 1) hx hb d_WK_leaving_15 (by decide) ?_
      refine lv_goto (tgt := 20) hx hb d_WK_leaving_16 (by decide) ?_
      exact W.zret hx hb hr rfl (fun t ht hW => ⟨⟨1, σ, rfl, hq, by rw [ht]; exact hP, va_K.moved hW.alike hK, hN.warm hW⟩, hS.F ht⟩) hS.2.2 d_WK_leaving_20
def wp_WK_fail (p1 : Int32) (σ : CS) (Q : UInt64 → CS → Prop) : Prop := (∀ s1 : CS, s1 = sI σ 1 p1 → Q FP.dconst0 s1)
set_option maxHeartbeats 4000000 in
set_option maxRecDepth 100000 in
theorem c_WK_fail {l : Launch} {D : va_G} {cs : CI} {ad : Nat → Nat} (hi : aI ad 51) {p1 : Int32} {σ : CS} {Q : UInt64 → CS → Prop} (hq : wp_WK_fail p1 σ Q) : Met l y_WK_fail (.code y_WK_fail b_WK_fail 2 (some .double) :: wC) ({ frames := 0, cells := 0, slots := 0, locals := 0 }) (va_Pc [.ref (ad 12), .int p1] (cP D cs ad σ)) (va_Qd Q (cP D cs ad) (aK ad 51)) 0 0 (aK ad 51) := by
  refine Met.ofW (cc := b_WK_fail) (maxL := 2) (ret := (some .double)) (by decide) rfl ?_
  intro p e s m args below meth c s₁ B hml hv
  obtain ⟨rfl, hP, hK, hN⟩ := hv
  have hx := B.exec
  have hb := B.bytes
  have hr := B.returns
  have hts := atoms_spec (ws := .code y_WK_fail b_WK_fail 2 (some .double) :: wC) B.pre
  have ht : ∀ w ∈ wC, w.before _ s = true := fun w h => hts w (List.mem_cons_of_mem _ h)
  have hown : s.vm.findClass R_WK = some m.cls := findClass_of_methodNamed B.named
  have hlocks := B.notSynchronized
  have hS : va_S (aK ad 51) s.heap s.heap [] := va_S.rf
  have hl := lv_entry ([.ref (ad 12), .int p1]) (n := 2) (Nat.le_of_ble_eq_true rfl)
  rw [lg_entry_eq]
  generalize (lg_sl ([.ref (ad 12), .int p1]) ++ List.replicate (2 - (lg_sl ([.ref (ad 12), .int p1])).length) Slot.unset).toArray = ls at hl ⊢
  have hl : lv_has ls 2 [(0, .ref (ad 12)), (1, .int p1)] := hl
  unfold wp_WK_fail at hq
  have hh8 : 8 < 9 := by decide
  refine lv_aload_n hx hb d_WK_fail_0 rfl (lv_at hl 0 rfl) ?_
  refine lv_iload_n hx hb d_WK_fail_1 rfl (lv_at hl 1 rfl) ?_
  refine cw_put (C := R_WK) (T := F_WK) (N := 13) (ty := .int) (v := .int p1) hx hb hts (in_WK _) t_WK tok_WK n_WK hown hK hP hi hS 12 (by decide) rfl rfl 1 (by decide) (ht _ wC_184) rfl (by decide +kernel) rfl rfl (Nat.le_of_ble_eq_true rfl) up_WK_fault d_WK_fail_2 (fun H locs hP hS => ?_)
  obtain ⟨s1, e_s1⟩ : ∃ z, z = sI σ 1 p1 := ⟨_, rfl⟩
  rw [← e_s1] at hP
  have hq := hq s1 e_s1
  refine lv_dconst0 hx hb d_WK_fail_5 ?_
  exact W.dret hx hb hr (fun t ht hW => ⟨⟨FP.dconst0, s1, rfl, hq, by rw [ht]; exact hP, va_K.moved hW.alike hK, hN.warm hW⟩, hS.F ht⟩) hS.2.2 d_WK_fail_6
def wp_WK_mayBegin (p1 : Int32) (σ : CS) (Q : Int32 → CS → Prop) : Prop := ((p1 ≤ 80 → (((gI σ 0) = 300 → (∀ s4 : CS, s4 = sI σ 1 8 → Q 0 s4)) ∧ (¬ (gI σ 0) = 300 → (∀ s3 : CS, s3 = sI σ 0 ((gI σ 0) + 1) → Q 1 s3)))) ∧ (¬ p1 ≤ 80 → (∀ s5 : CS, s5 = sI σ 1 7 → Q 0 s5)))
set_option maxHeartbeats 4000000 in
set_option maxRecDepth 100000 in
theorem c_WK_mayBegin {l : Launch} {D : va_G} {cs : CI} {ad : Nat → Nat} (hi : aI ad 51) {p1 : Int32} {σ : CS} {Q : Int32 → CS → Prop} (hq : wp_WK_mayBegin p1 σ Q) : Met l y_WK_mayBegin (.code y_WK_mayBegin b_WK_mayBegin 2 (some .boolean) :: wC) ({ frames := 0, cells := 0, slots := 0, locals := 0 }) (va_Pc [.ref (ad 12), .int p1] (cP D cs ad σ)) (va_Qi Q (cP D cs ad) (aK ad 51)) 0 0 (aK ad 51) := by
  refine Met.ofW (cc := b_WK_mayBegin) (maxL := 2) (ret := (some .boolean)) (by decide) rfl ?_
  intro p e s m args below meth c s₁ B hml hv
  obtain ⟨rfl, hP, hK, hN⟩ := hv
  have hx := B.exec
  have hb := B.bytes
  have hr := B.returns
  have hts := atoms_spec (ws := .code y_WK_mayBegin b_WK_mayBegin 2 (some .boolean) :: wC) B.pre
  have ht : ∀ w ∈ wC, w.before _ s = true := fun w h => hts w (List.mem_cons_of_mem _ h)
  have hown : s.vm.findClass R_WK = some m.cls := findClass_of_methodNamed B.named
  have hlocks := B.notSynchronized
  have hS : va_S (aK ad 51) s.heap s.heap [] := va_S.rf
  have hl := lv_entry ([.ref (ad 12), .int p1]) (n := 2) (Nat.le_of_ble_eq_true rfl)
  rw [lg_entry_eq]
  generalize (lg_sl ([.ref (ad 12), .int p1]) ++ List.replicate (2 - (lg_sl ([.ref (ad 12), .int p1])).length) Slot.unset).toArray = ls at hl ⊢
  have hl : lv_has ls 2 [(0, .ref (ad 12)), (1, .int p1)] := hl
  unfold wp_WK_mayBegin at hq
  have hh8 : 8 < 9 := by decide
  refine lv_iload_n hx hb d_WK_mayBegin_0 rfl (lv_at hl 1 rfl) ?_
  refine lv_bipush (v := 80) hx hb d_WK_mayBegin_1 (by decide) ?_
  refine lv_icmp_le (tgt := 14) hx hb d_WK_mayBegin_3 (by decide) (fun c1 => ?_) (fun c1 => ?_)
  · have hq := hq.1 c1
    refine lv_aload_n hx hb d_WK_mayBegin_14 rfl (lv_at hl 0 rfl) ?_
    refine cw_get (C := R_WK) (T := F_WK) (N := 13) (v := .int (gI σ 0)) hx hb hts (in_WK _) hown hK hP 12 (by decide) rfl rfl 0 (by decide) (ht _ wC_182) rfl d_WK_mayBegin_15 ?_
    refine lv_sipush (v := 300) hx hb d_WK_mayBegin_18 (by decide) ?_
    refine lv_icmp_ne (tgt := 32) hx hb d_WK_mayBegin_21 (by decide) (fun c2 => ?_) (fun c2 => ?_)
    · have hq := hq.2 c2
      refine lv_aload_n hx hb d_WK_mayBegin_32 rfl (lv_at hl 0 rfl) ?_
      refine lv_dup hx hb d_WK_mayBegin_33 rfl ?_
      refine cw_get (C := R_WK) (T := F_WK) (N := 13) (v := .int (gI σ 0)) hx hb hts (in_WK _) hown hK hP 12 (by decide) rfl rfl 0 (by decide) (ht _ wC_182) rfl d_WK_mayBegin_34 ?_
      refine lv_iconst (v := 1) hx hb d_WK_mayBegin_37 (by decide) ?_
      refine lv_iadd hx hb d_WK_mayBegin_38 ?_
      refine cw_put (C := R_WK) (T := F_WK) (N := 13) (ty := .int) (v := .int ((gI σ 0) + 1)) hx hb hts (in_WK _) t_WK tok_WK n_WK hown hK hP hi hS 12 (by decide) rfl rfl 0 (by decide) (ht _ wC_182) rfl (by decide +kernel) rfl rfl (Nat.le_of_ble_eq_true rfl) up_WK_worked d_WK_mayBegin_39 (fun H locs hP hS => ?_)
      obtain ⟨s3, e_s3⟩ : ∃ z, z = sI σ 0 ((gI σ 0) + 1) := ⟨_, rfl⟩
      rw [← e_s3] at hP
      have hq := hq s3 e_s3
      refine lv_iconst (v := 1) hx hb d_WK_mayBegin_42 (by decide) ?_
      exact W.zret hx hb hr rfl (fun t ht hW => ⟨⟨1, s3, rfl, hq, by rw [ht]; exact hP, va_K.moved hW.alike hK, hN.warm hW⟩, hS.F ht⟩) hS.2.2 d_WK_mayBegin_43
    · have hq := hq.1 c2
      refine lv_aload_n hx hb d_WK_mayBegin_24 rfl (lv_at hl 0 rfl) ?_
      refine lv_bipush (v := 8) hx hb d_WK_mayBegin_25 (by decide) ?_
      refine cw_put (C := R_WK) (T := F_WK) (N := 13) (ty := .int) (v := .int 8) hx hb hts (in_WK _) t_WK tok_WK n_WK hown hK hP hi hS 12 (by decide) rfl rfl 1 (by decide) (ht _ wC_184) rfl (by decide +kernel) rfl rfl (Nat.le_of_ble_eq_true rfl) up_WK_fault d_WK_mayBegin_27 (fun H locs hP hS => ?_)
      obtain ⟨s4, e_s4⟩ : ∃ z, z = sI σ 1 8 := ⟨_, rfl⟩
      rw [← e_s4] at hP
      have hq := hq s4 e_s4
      refine lv_iconst (v := 0) hx hb d_WK_mayBegin_30 (by decide) ?_
      exact W.zret hx hb hr rfl (fun t ht hW => ⟨⟨0, s4, rfl, hq, by rw [ht]; exact hP, va_K.moved hW.alike hK, hN.warm hW⟩, hS.F ht⟩) hS.2.2 d_WK_mayBegin_31
  · have hq := hq.2 c1
    refine lv_aload_n hx hb d_WK_mayBegin_6 rfl (lv_at hl 0 rfl) ?_
    refine lv_bipush (v := 7) hx hb d_WK_mayBegin_7 (by decide) ?_
    refine cw_put (C := R_WK) (T := F_WK) (N := 13) (ty := .int) (v := .int 7) hx hb hts (in_WK _) t_WK tok_WK n_WK hown hK hP hi hS 12 (by decide) rfl rfl 1 (by decide) (ht _ wC_184) rfl (by decide +kernel) rfl rfl (Nat.le_of_ble_eq_true rfl) up_WK_fault d_WK_mayBegin_9 (fun H locs hP hS => ?_)
    obtain ⟨s5, e_s5⟩ : ∃ z, z = sI σ 1 7 := ⟨_, rfl⟩
    rw [← e_s5] at hP
    have hq := hq s5 e_s5
    refine lv_iconst (v := 0) hx hb d_WK_mayBegin_12 (by decide) ?_
    exact W.zret hx hb hr rfl (fun t ht hW => ⟨⟨0, s5, rfl, hq, by rw [ht]; exact hP, va_K.moved hW.alike hK, hN.warm hW⟩, hS.F ht⟩) hS.2.2 d_WK_mayBegin_13
def wp_WK_mayEnter  (σ : CS) (Q : Int32 → CS → Prop) : Prop := (((gI σ 6) = 8 → (∀ s4 : CS, s4 = sI σ 1 7 → Q 0 s4)) ∧ (¬ (gI σ 6) = 8 → (∀ s2 : CS, s2 = sI σ 6 ((gI σ 6) + 1) → (∀ s3 : CS, s3 = sI s2 3 (if (gI s2 3) < (gI s2 6) then (gI s2 6) else (gI s2 3)) → Q 1 s3))))
set_option maxHeartbeats 4000000 in
set_option maxRecDepth 100000 in
theorem c_WK_mayEnter {l : Launch} {D : va_G} {cs : CI} {ad : Nat → Nat} (hi : aI ad 51)  {σ : CS} {Q : Int32 → CS → Prop} (hq : wp_WK_mayEnter  σ Q) : Met l y_WK_mayEnter (.code y_WK_mayEnter b_WK_mayEnter 1 (some .boolean) :: wC) ({ frames := 1, cells := 0, slots := 0, locals := 32 }) (va_Pc [.ref (ad 12)] (cP D cs ad σ)) (va_Qi Q (cP D cs ad) (aK ad 51)) 0 0 (aK ad 51) := by
  refine Met.ofW (cc := b_WK_mayEnter) (maxL := 1) (ret := (some .boolean)) (by decide) rfl ?_
  intro p e s m args below meth c s₁ B hml hv
  obtain ⟨rfl, hP, hK, hN⟩ := hv
  have hx := B.exec
  have hb := B.bytes
  have hr := B.returns
  have hts := atoms_spec (ws := .code y_WK_mayEnter b_WK_mayEnter 1 (some .boolean) :: wC) B.pre
  have ht : ∀ w ∈ wC, w.before _ s = true := fun w h => hts w (List.mem_cons_of_mem _ h)
  have hown : s.vm.findClass R_WK = some m.cls := findClass_of_methodNamed B.named
  have hlocks := B.notSynchronized
  have hS : va_S (aK ad 51) s.heap s.heap [] := va_S.rf
  have hl := lv_entry ([.ref (ad 12)]) (n := 1) (Nat.le_of_ble_eq_true rfl)
  rw [lg_entry_eq]
  generalize (lg_sl ([.ref (ad 12)]) ++ List.replicate (1 - (lg_sl ([.ref (ad 12)])).length) Slot.unset).toArray = ls at hl ⊢
  have hl : lv_has ls 1 [(0, .ref (ad 12))] := hl
  unfold wp_WK_mayEnter at hq
  have hh8 : 8 < 9 := by decide
  refine lv_aload_n hx hb d_WK_mayEnter_0 rfl (lv_at hl 0 rfl) ?_
  refine cw_get (C := R_WK) (T := F_WK) (N := 13) (v := .int (gI σ 6)) hx hb hts (in_WK _) hown hK hP 12 (by decide) rfl rfl 11 (by decide) (ht _ wC_198) rfl d_WK_mayEnter_1 ?_
  refine lv_bipush (v := 8) hx hb d_WK_mayEnter_4 (by decide) ?_
  refine lv_icmp_ne (tgt := 17) hx hb d_WK_mayEnter_6 (by decide) (fun c1 => ?_) (fun c1 => ?_)
  · have hq := hq.2 c1
    refine lv_aload_n hx hb d_WK_mayEnter_17 rfl (lv_at hl 0 rfl) ?_
    refine lv_dup hx hb d_WK_mayEnter_18 rfl ?_
    refine cw_get (C := R_WK) (T := F_WK) (N := 13) (v := .int (gI σ 6)) hx hb hts (in_WK _) hown hK hP 12 (by decide) rfl rfl 11 (by decide) (ht _ wC_198) rfl d_WK_mayEnter_19 ?_
    refine lv_iconst (v := 1) hx hb d_WK_mayEnter_22 (by decide) ?_
    refine lv_iadd hx hb d_WK_mayEnter_23 ?_
    refine cw_put (C := R_WK) (T := F_WK) (N := 13) (ty := .int) (v := .int ((gI σ 6) + 1)) hx hb hts (in_WK _) t_WK tok_WK n_WK hown hK hP hi hS 12 (by decide) rfl rfl 11 (by decide) (ht _ wC_198) rfl (by decide +kernel) rfl rfl (Nat.le_of_ble_eq_true rfl) up_WK_openEnvironments d_WK_mayEnter_24 (fun H locs hP hS => ?_)
    obtain ⟨s2, e_s2⟩ : ∃ z, z = sI σ 6 ((gI σ 6) + 1) := ⟨_, rfl⟩
    rw [← e_s2] at hP
    have hq := hq s2 e_s2
    refine lv_aload_n hx hb d_WK_mayEnter_27 rfl (lv_at hl 0 rfl) ?_
    refine lv_aload_n hx hb d_WK_mayEnter_28 rfl (lv_at hl 0 rfl) ?_
    refine cw_get (C := R_WK) (T := F_WK) (N := 13) (v := .int (gI s2 3)) hx hb hts (in_WK _) hown hK hP 12 (by decide) rfl rfl 3 (by decide) (ht _ wC_188) rfl d_WK_mayEnter_29 ?_
    refine lv_aload_n hx hb d_WK_mayEnter_32 rfl (lv_at hl 0 rfl) ?_
    refine cw_get (C := R_WK) (T := F_WK) (N := 13) (v := .int (gI s2 6)) hx hb hts (in_WK _) hown hK hP 12 (by decide) rfl rfl 11 (by decide) (ht _ wC_198) rfl d_WK_mayEnter_33 ?_
    refine va_mmax hx hb (by rw [hml]; exact hl.1.symm) hown (ht _ wC_476) (ht _ wC_477) (ht _ wC_56) (ht _ wC_478) (show 1 ≤ 1 by omega) (show _ ≤ 32 by simp only [List.map_cons, List.map_nil, List.sum_cons, List.sum_nil, Value.category]; omega) (Nat.le_refl _) (Nat.le_refl _) d_WK_mayEnter_36 ?_
    refine cw_put (C := R_WK) (T := F_WK) (N := 13) (ty := .int) (v := .int (if (gI s2 3) < (gI s2 6) then (gI s2 6) else (gI s2 3))) hx hb hts (in_WK _) t_WK tok_WK n_WK hown hK hP hi hS 12 (by decide) rfl rfl 3 (by decide) (ht _ wC_188) rfl (by decide +kernel) rfl rfl (Nat.le_of_ble_eq_true rfl) up_WK_mostEnvironments d_WK_mayEnter_39 (fun H locs hP hS => ?_)
    obtain ⟨s3, e_s3⟩ : ∃ z, z = sI s2 3 (if (gI s2 3) < (gI s2 6) then (gI s2 6) else (gI s2 3)) := ⟨_, rfl⟩
    rw [← e_s3] at hP
    have hq := hq s3 e_s3
    refine lv_iconst (v := 1) hx hb d_WK_mayEnter_42 (by decide) ?_
    exact W.zret hx hb hr rfl (fun t ht hW => ⟨⟨1, s3, rfl, hq, by rw [ht]; exact hP, va_K.moved hW.alike hK, hN.warm hW⟩, hS.F ht⟩) hS.2.2 d_WK_mayEnter_43
  · have hq := hq.1 c1
    refine lv_aload_n hx hb d_WK_mayEnter_9 rfl (lv_at hl 0 rfl) ?_
    refine lv_bipush (v := 7) hx hb d_WK_mayEnter_10 (by decide) ?_
    refine cw_put (C := R_WK) (T := F_WK) (N := 13) (ty := .int) (v := .int 7) hx hb hts (in_WK _) t_WK tok_WK n_WK hown hK hP hi hS 12 (by decide) rfl rfl 1 (by decide) (ht _ wC_184) rfl (by decide +kernel) rfl rfl (Nat.le_of_ble_eq_true rfl) up_WK_fault d_WK_mayEnter_12 (fun H locs hP hS => ?_)
    obtain ⟨s4, e_s4⟩ : ∃ z, z = sI σ 1 7 := ⟨_, rfl⟩
    rw [← e_s4] at hP
    have hq := hq s4 e_s4
    refine lv_iconst (v := 0) hx hb d_WK_mayEnter_15 (by decide) ?_
    exact W.zret hx hb hr rfl (fun t ht hW => ⟨⟨0, s4, rfl, hq, by rw [ht]; exact hP, va_K.moved hW.alike hK, hN.warm hW⟩, hS.F ht⟩) hS.2.2 d_WK_mayEnter_16
def wp_WK_elementAt (p1 : Int64) (p2 : Int64) (σ : CS) (Q : UInt64 → CS → Prop) : Prop := (wp_ST_holds p1 p2 σ (fun r1 s2 => ((r1 = 0 → (wp_WK_fail 3 s2 (fun r4 s5 => Q r4 s5))) ∧ (¬ r1 = 0 → (wp_ST_place p1 p2 s2 (fun r6 s7 => (vp_in r6 25 ∧ Q (gD s7 1 r6.toNatClampNeg) s7)))))))
set_option maxHeartbeats 4000000 in
set_option maxRecDepth 100000 in
theorem c_WK_elementAt {l : Launch} {D : va_G} {cs : CI} {ad : Nat → Nat} (hi : aI ad 51) {p1 : Int64} {p2 : Int64} {σ : CS} {Q : UInt64 → CS → Prop} (hq : wp_WK_elementAt p1 p2 σ Q) : Met l y_WK_elementAt (.code y_WK_elementAt b_WK_elementAt 5 (some .double) :: wC) ({ frames := 1, cells := 0, slots := 0, locals := 24 }) (va_Pc [.ref (ad 12), .long p1, .long p2] (cP D cs ad σ)) (va_Qd Q (cP D cs ad) (aK ad 51)) 0 0 (aK ad 51) := by
  refine Met.ofW (cc := b_WK_elementAt) (maxL := 5) (ret := (some .double)) (by decide) rfl ?_
  intro p e s m args below meth c s₁ B hml hv
  obtain ⟨rfl, hP, hK, hN⟩ := hv
  have hx := B.exec
  have hb := B.bytes
  have hr := B.returns
  have hts := atoms_spec (ws := .code y_WK_elementAt b_WK_elementAt 5 (some .double) :: wC) B.pre
  have ht : ∀ w ∈ wC, w.before _ s = true := fun w h => hts w (List.mem_cons_of_mem _ h)
  have hown : s.vm.findClass R_WK = some m.cls := findClass_of_methodNamed B.named
  have hlocks := B.notSynchronized
  have hS : va_S (aK ad 51) s.heap s.heap [] := va_S.rf
  have hl := lv_entry ([.ref (ad 12), .long p1, .long p2]) (n := 5) (Nat.le_of_ble_eq_true rfl)
  rw [lg_entry_eq]
  generalize (lg_sl ([.ref (ad 12), .long p1, .long p2]) ++ List.replicate (5 - (lg_sl ([.ref (ad 12), .long p1, .long p2])).length) Slot.unset).toArray = ls at hl ⊢
  have hl : lv_has ls 5 [(0, .ref (ad 12)), (1, .long p1), (3, .long p2)] := hl
  unfold wp_WK_elementAt at hq
  have hh8 : 8 < 9 := by decide
  refine lv_aload_n hx hb d_WK_elementAt_0 rfl (lv_at hl 0 rfl) ?_
  refine cw_get (C := R_WK) (T := F_WK) (N := 13) (v := .ref (ad 9)) hx hb hts (in_WK _) hown hK hP 12 (by decide) rfl rfl 6 (by decide) (ht _ wC_193) rfl d_WK_elementAt_1 ?_
  refine lv_lload_n hx hb d_WK_elementAt_4 rfl (lv_at hl 1 rfl) ?_
  refine lv_lload_n hx hb d_WK_elementAt_5 rfl (lv_at hl 2 rfl) ?_
  refine va_calli (va_runV (As := [.long p1, .long p2]) (rest := []) ⟨hx, hb, hml, hown, hts⟩ (c_ST_holds (D := D) (cs := cs) hi hq) (cwV 2 hts (good_V wC_522 wC_523 wC_524 wC_47 wC_525) rfl rfl rfl (by decide +kernel) ⟨(show 0 + 1 ≤ 1 by omega), (show 8 + (5 + 11) + 0 ≤ 24 by omega)⟩) ⟨cP_blind, va_recv hK hP (ci := 3) (q0 := 9) rfl (wd_at (by decide) rfl), fun U hU hW => ⟨rfl, by rw [hU]; exact hP, va_K.moved hW.alike hK, hN.warm hW⟩⟩ rfl rfl hl.1 rfl (lv_room (Nat.le_of_ble_eq_true rfl)) d_WK_elementAt_6 ⟨Nat.le_refl _, Nat.le_refl _⟩) hS (fun q _ h => h) (fun q h => h) (fun r1 s2 t H locs ht0 hvm hq hB hz1 hk1 hS => ?_)
  obtain ⟨hP, -, -⟩ := hB
  rw [ht0] at hP
  refine lv_if_eq (tgt := 32) hx hb d_WK_elementAt_9 (by decide) (fun c3 => ?_) (fun c3 => ?_)
  · have hq := hq.1 c3
    refine lv_aload_n hx hb d_WK_elementAt_32 rfl (lv_at hl 0 rfl) ?_
    refine lv_iconst (v := 3) hx hb d_WK_elementAt_33 (by decide) ?_
    refine va_calld (va_runV (As := [.int 3]) (rest := []) ⟨hx, hb, hml, hown, hts⟩ (c_WK_fail (D := D) (cs := cs) hi hq) (cwV 1 hts (good_V wC_464 wC_466 wC_7 wC_48 wC_467) rfl rfl rfl (by decide +kernel) ⟨(show 0 + 1 ≤ 1 by omega), (show 8 + (2 + 11) + 0 ≤ 24 by omega)⟩) ⟨cP_blind, va_recv hK hP (ci := 4) (q0 := 12) rfl (wd_at (by decide) rfl), fun U hU hW => ⟨rfl, by rw [hU]; exact hP, va_K.moved hW.alike hK, hN.warm hW⟩⟩ rfl rfl hl.1 rfl (lv_room (Nat.le_of_ble_eq_true rfl)) d_WK_elementAt_34 ⟨Nat.le_refl _, Nat.le_refl _⟩) hS (fun q _ h => h) (fun q h => h) (fun r4 s5 t H locs ht0 hvm hq hB hz1 hk1 hS => ?_)
    obtain ⟨hP, -, -⟩ := hB
    rw [ht0] at hP
    exact W.dret hx hb hr (fun t ht hW => ⟨⟨r4, s5, rfl, hq, by rw [ht]; exact hP, va_K.moved hW.alike hK, hN.warm hW⟩, hS.F ht⟩) hS.2.2 d_WK_elementAt_37
  · have hq := hq.2 c3
    refine lv_aload_n hx hb d_WK_elementAt_12 rfl (lv_at hl 0 rfl) ?_
    refine cw_get (C := R_WK) (T := F_WK) (N := 13) (v := .ref (ad 9)) hx hb hts (in_WK _) hown hK hP 12 (by decide) rfl rfl 6 (by decide) (ht _ wC_193) rfl d_WK_elementAt_13 ?_
    refine cw_get (C := R_ST) (T := F_ST) (N := 6) (v := .ref (ad 11)) hx hb hts (in_ST _) hown hK hP 9 (by decide) rfl rfl 1 (by decide) (ht _ wC_127) rfl d_WK_elementAt_16 ?_
    refine lv_aload_n hx hb d_WK_elementAt_19 rfl (lv_at hl 0 rfl) ?_
    refine cw_get (C := R_WK) (T := F_WK) (N := 13) (v := .ref (ad 9)) hx hb hts (in_WK _) hown hK hP 12 (by decide) rfl rfl 6 (by decide) (ht _ wC_193) rfl d_WK_elementAt_20 ?_
    refine lv_lload_n hx hb d_WK_elementAt_23 rfl (lv_at hl 1 rfl) ?_
    refine lv_lload_n hx hb d_WK_elementAt_24 rfl (lv_at hl 2 rfl) ?_
    refine va_calli (va_runV (As := [.long p1, .long p2]) (rest := [.ref (ad 11)]) ⟨hx, hb, hml, hown, hts⟩ (c_ST_place (D := D) (cs := cs) hi hq) (cwV 2 hts (good_V wC_526 wC_527 wC_528 wC_47 wC_529) rfl rfl rfl (by decide +kernel) ⟨(show 0 + 1 ≤ 1 by omega), (show 8 + (5 + 11) + 0 ≤ 24 by omega)⟩) ⟨cP_blind, va_recv hK hP (ci := 3) (q0 := 9) rfl (wd_at (by decide) rfl), fun U hU hW => ⟨rfl, by rw [hU]; exact hP, va_K.moved hW.alike hK, hN.warm hW⟩⟩ rfl rfl hl.1 rfl (lv_room (Nat.le_of_ble_eq_true rfl)) d_WK_elementAt_25 ⟨Nat.le_refl _, Nat.le_refl _⟩) hS (fun q _ h => h) (fun q h => h) (fun r6 s7 t H locs ht0 hvm hq hB hz1 hk1 hS => ?_)
    obtain ⟨hP, -, -⟩ := hB
    rw [ht0] at hP
    refine cw_dald hx hb hK hP 11 (by decide) rfl 1 rfl hq.1 d_WK_elementAt_28 ?_
    have hq := hq.2
    refine lv_goto (tgt := 37) hx hb d_WK_elementAt_29 (by decide) ?_
    exact W.dret hx hb hr (fun t ht hW => ⟨⟨(gD s7 1 r6.toNatClampNeg), s7, rfl, hq, by rw [ht]; exact hP, va_K.moved hW.alike hK, hN.warm hW⟩, hS.F ht⟩) hS.2.2 d_WK_elementAt_37
def wp_WK_limited (p1 : UInt64) (σ : CS) (Q : UInt64 → CS → Prop) : Prop := (wp_NF_isWithinSize p1 σ (fun r1 s2 => ((r1 = 0 → (wp_WK_fail 2 s2 (fun r4 s5 => Q r4 s5))) ∧ (¬ r1 = 0 → Q p1 s2))))
set_option maxHeartbeats 4000000 in
set_option maxRecDepth 100000 in
theorem c_WK_limited {l : Launch} {D : va_G} {cs : CI} {ad : Nat → Nat} (hi : aI ad 51) {p1 : UInt64} {σ : CS} {Q : UInt64 → CS → Prop} (hq : wp_WK_limited p1 σ Q) : Met l y_WK_limited (.code y_WK_limited b_WK_limited 3 (some .double) :: wC) ({ frames := 1, cells := 0, slots := 0, locals := 21 }) (va_Pc [.ref (ad 12), .double p1] (cP D cs ad σ)) (va_Qd Q (cP D cs ad) (aK ad 51)) 0 0 (aK ad 51) := by
  refine Met.ofW (cc := b_WK_limited) (maxL := 3) (ret := (some .double)) (by decide) rfl ?_
  intro p e s m args below meth c s₁ B hml hv
  obtain ⟨rfl, hP, hK, hN⟩ := hv
  have hx := B.exec
  have hb := B.bytes
  have hr := B.returns
  have hts := atoms_spec (ws := .code y_WK_limited b_WK_limited 3 (some .double) :: wC) B.pre
  have ht : ∀ w ∈ wC, w.before _ s = true := fun w h => hts w (List.mem_cons_of_mem _ h)
  have hown : s.vm.findClass R_WK = some m.cls := findClass_of_methodNamed B.named
  have hlocks := B.notSynchronized
  have hS : va_S (aK ad 51) s.heap s.heap [] := va_S.rf
  have hl := lv_entry ([.ref (ad 12), .double p1]) (n := 3) (Nat.le_of_ble_eq_true rfl)
  rw [lg_entry_eq]
  generalize (lg_sl ([.ref (ad 12), .double p1]) ++ List.replicate (3 - (lg_sl ([.ref (ad 12), .double p1])).length) Slot.unset).toArray = ls at hl ⊢
  have hl : lv_has ls 3 [(0, .ref (ad 12)), (1, .double p1)] := hl
  unfold wp_WK_limited at hq
  have hh8 : 8 < 9 := by decide
  refine lv_dload_n hx hb d_WK_limited_0 rfl (lv_at hl 1 rfl) ?_
  refine va_calli (va_runSN (As := [.double p1]) (rest := []) ⟨hx, hb, hml, hown, hts⟩ (c_NF_isWithinSize (D := D) (cs := cs) hi hq) (⟨va_cnB 1 hts (good_C wC_411) rfl rfl rfl (hN _ wN_566) (ht _ wC_44) (by decide +kernel) ⟨(show 0 + 1 ≤ 1 by omega), (show 8 + (2 + 11) + 0 ≤ 21 by omega)⟩, (ht _ wC_410), trivial⟩) ⟨cP_blind, fun U hU hW => ⟨rfl, by rw [hU]; exact hP, va_K.moved hW.alike hK, hN.warm hW⟩⟩ rfl rfl hl.1 rfl (lv_room (Nat.le_of_ble_eq_true rfl)) d_WK_limited_1 ⟨Nat.le_refl _, Nat.le_refl _⟩) hS (fun q _ h => h) (fun q h => h) (fun r1 s2 t H locs ht0 hvm hq hB hz1 hk1 hS => ?_)
  obtain ⟨hP, -, -⟩ := hB
  rw [ht0] at hP
  refine lv_if_eq (tgt := 11) hx hb d_WK_limited_4 (by decide) (fun c3 => ?_) (fun c3 => ?_)
  · have hq := hq.1 c3
    refine lv_aload_n hx hb d_WK_limited_11 rfl (lv_at hl 0 rfl) ?_
    refine lv_iconst (v := 2) hx hb d_WK_limited_12 (by decide) ?_
    refine va_calld (va_runV (As := [.int 2]) (rest := []) ⟨hx, hb, hml, hown, hts⟩ (c_WK_fail (D := D) (cs := cs) hi hq) (cwV 1 hts (good_V wC_464 wC_466 wC_7 wC_48 wC_467) rfl rfl rfl (by decide +kernel) ⟨(show 0 + 1 ≤ 1 by omega), (show 8 + (2 + 11) + 0 ≤ 21 by omega)⟩) ⟨cP_blind, va_recv hK hP (ci := 4) (q0 := 12) rfl (wd_at (by decide) rfl), fun U hU hW => ⟨rfl, by rw [hU]; exact hP, va_K.moved hW.alike hK, hN.warm hW⟩⟩ rfl rfl hl.1 rfl (lv_room (Nat.le_of_ble_eq_true rfl)) d_WK_limited_13 ⟨Nat.le_refl _, Nat.le_refl _⟩) hS (fun q _ h => h) (fun q h => h) (fun r4 s5 t H locs ht0 hvm hq hB hz1 hk1 hS => ?_)
    obtain ⟨hP, -, -⟩ := hB
    rw [ht0] at hP
    exact W.dret hx hb hr (fun t ht hW => ⟨⟨r4, s5, rfl, hq, by rw [ht]; exact hP, va_K.moved hW.alike hK, hN.warm hW⟩, hS.F ht⟩) hS.2.2 d_WK_limited_16
  · have hq := hq.2 c3
    refine lv_dload_n hx hb d_WK_limited_7 rfl (lv_at hl 1 rfl) ?_
    refine lv_goto (tgt := 16) hx hb d_WK_limited_8 (by decide) ?_
    exact W.dret hx hb hr (fun t ht hW => ⟨⟨p1, s2, rfl, hq, by rw [ht]; exact hP, va_K.moved hW.alike hK, hN.warm hW⟩, hS.F ht⟩) hS.2.2 d_WK_limited_16
def wp_WK_quotient (p1 : Int64) (p2 : Int64) (σ : CS) (Q : UInt64 → CS → Prop) : Prop := (((lg_cmp p2 0) = 0 → (wp_WK_fail 1 σ (fun r2 s3 => Q r2 s3))) ∧ (¬ (lg_cmp p2 0) = 0 → (¬ p2 = 0 ∧ Q (FP.l2d (p1 / p2)) σ)))
set_option maxHeartbeats 4000000 in
set_option maxRecDepth 100000 in
theorem c_WK_quotient {l : Launch} {D : va_G} {cs : CI} {ad : Nat → Nat} (hi : aI ad 51) {p1 : Int64} {p2 : Int64} {σ : CS} {Q : UInt64 → CS → Prop} (hq : wp_WK_quotient p1 p2 σ Q) : Met l y_WK_quotient (.code y_WK_quotient b_WK_quotient 5 (some .double) :: wC) ({ frames := 1, cells := 0, slots := 0, locals := 21 }) (va_Pc [.ref (ad 12), .long p1, .long p2] (cP D cs ad σ)) (va_Qd Q (cP D cs ad) (aK ad 51)) 0 0 (aK ad 51) := by
  refine Met.ofW (cc := b_WK_quotient) (maxL := 5) (ret := (some .double)) (by decide) rfl ?_
  intro p e s m args below meth c s₁ B hml hv
  obtain ⟨rfl, hP, hK, hN⟩ := hv
  have hx := B.exec
  have hb := B.bytes
  have hr := B.returns
  have hts := atoms_spec (ws := .code y_WK_quotient b_WK_quotient 5 (some .double) :: wC) B.pre
  have ht : ∀ w ∈ wC, w.before _ s = true := fun w h => hts w (List.mem_cons_of_mem _ h)
  have hown : s.vm.findClass R_WK = some m.cls := findClass_of_methodNamed B.named
  have hlocks := B.notSynchronized
  have hS : va_S (aK ad 51) s.heap s.heap [] := va_S.rf
  have hl := lv_entry ([.ref (ad 12), .long p1, .long p2]) (n := 5) (Nat.le_of_ble_eq_true rfl)
  rw [lg_entry_eq]
  generalize (lg_sl ([.ref (ad 12), .long p1, .long p2]) ++ List.replicate (5 - (lg_sl ([.ref (ad 12), .long p1, .long p2])).length) Slot.unset).toArray = ls at hl ⊢
  have hl : lv_has ls 5 [(0, .ref (ad 12)), (1, .long p1), (3, .long p2)] := hl
  unfold wp_WK_quotient at hq
  have hh8 : 8 < 9 := by decide
  refine lv_lload_n hx hb d_WK_quotient_0 rfl (lv_at hl 2 rfl) ?_
  refine lv_lconst (v := 0) hx hb d_WK_quotient_1 (by decide) ?_
  refine W.lcmp hx hb d_WK_quotient_2 ?_
  refine lv_if_ne (tgt := 14) hx hb d_WK_quotient_3 (by decide) (fun c1 => ?_) (fun c1 => ?_)
  · have hq := hq.2 c1
    refine lv_lload_n hx hb d_WK_quotient_14 rfl (lv_at hl 1 rfl) ?_
    refine lv_lload_n hx hb d_WK_quotient_15 rfl (lv_at hl 2 rfl) ?_
    refine lv_ldiv hx hb d_WK_quotient_16 hq.1 ?_
    have hq := hq.2
    refine lv_l2d hx hb d_WK_quotient_17 ?_
    exact W.dret hx hb hr (fun t ht hW => ⟨⟨(FP.l2d (p1 / p2)), σ, rfl, hq, by rw [ht]; exact hP, va_K.moved hW.alike hK, hN.warm hW⟩, hS.F ht⟩) hS.2.2 d_WK_quotient_18
  · have hq := hq.1 c1
    refine lv_aload_n hx hb d_WK_quotient_6 rfl (lv_at hl 0 rfl) ?_
    refine lv_iconst (v := 1) hx hb d_WK_quotient_7 (by decide) ?_
    refine va_calld (va_runV (As := [.int 1]) (rest := []) ⟨hx, hb, hml, hown, hts⟩ (c_WK_fail (D := D) (cs := cs) hi hq) (cwV 1 hts (good_V wC_464 wC_466 wC_7 wC_48 wC_467) rfl rfl rfl (by decide +kernel) ⟨(show 0 + 1 ≤ 1 by omega), (show 8 + (2 + 11) + 0 ≤ 21 by omega)⟩) ⟨cP_blind, va_recv hK hP (ci := 4) (q0 := 12) rfl (wd_at (by decide) rfl), fun U hU hW => ⟨rfl, by rw [hU]; exact hP, va_K.moved hW.alike hK, hN.warm hW⟩⟩ rfl rfl hl.1 rfl (lv_room (Nat.le_of_ble_eq_true rfl)) d_WK_quotient_8 ⟨Nat.le_refl _, Nat.le_refl _⟩) hS (fun q _ h => h) (fun q h => h) (fun r2 s3 t H locs ht0 hvm hq hB hz1 hk1 hS => ?_)
    obtain ⟨hP, -, -⟩ := hB
    rw [ht0] at hP
    refine lv_goto (tgt := 18) hx hb d_WK_quotient_11 (by decide) ?_
    exact W.dret hx hb hr (fun t ht hW => ⟨⟨r2, s3, rfl, hq, by rw [ht]; exact hP, va_K.moved hW.alike hK, hN.warm hW⟩, hS.F ht⟩) hS.2.2 d_WK_quotient_18
def wp_WK_elementBecomes (p1 : Int64) (p2 : Int64) (p3 : UInt64) (σ : CS) (Q : UInt64 → CS → Prop) : Prop := (wp_ST_holds p1 p2 σ (fun r1 s2 => ((r1 = 0 → (wp_WK_fail 3 s2 (fun r7 s8 => Q r7 s8))) ∧ (¬ r1 = 0 → (wp_ST_place p1 p2 s2 (fun r4 s5 => (vp_in r4 25 ∧ (∀ s6 : CS, s6 = sD s5 1 (vf_upd (gD s5 1) r4.toNatClampNeg p3) → Q p3 s6))))))))
set_option maxHeartbeats 4000000 in
set_option maxRecDepth 100000 in
theorem c_WK_elementBecomes {l : Launch} {D : va_G} {cs : CI} {ad : Nat → Nat} (hi : aI ad 51) {p1 : Int64} {p2 : Int64} {p3 : UInt64} {σ : CS} {Q : UInt64 → CS → Prop} (hq : wp_WK_elementBecomes p1 p2 p3 σ Q) : Met l y_WK_elementBecomes (.code y_WK_elementBecomes b_WK_elementBecomes 7 (some .double) :: wC) ({ frames := 1, cells := 0, slots := 0, locals := 24 }) (va_Pc [.ref (ad 12), .long p1, .long p2, .double p3] (cP D cs ad σ)) (va_Qd Q (cP D cs ad) (aK ad 51)) 0 0 (aK ad 51) := by
  refine Met.ofW (cc := b_WK_elementBecomes) (maxL := 7) (ret := (some .double)) (by decide) rfl ?_
  intro p e s m args below meth c s₁ B hml hv
  obtain ⟨rfl, hP, hK, hN⟩ := hv
  have hx := B.exec
  have hb := B.bytes
  have hr := B.returns
  have hts := atoms_spec (ws := .code y_WK_elementBecomes b_WK_elementBecomes 7 (some .double) :: wC) B.pre
  have ht : ∀ w ∈ wC, w.before _ s = true := fun w h => hts w (List.mem_cons_of_mem _ h)
  have hown : s.vm.findClass R_WK = some m.cls := findClass_of_methodNamed B.named
  have hlocks := B.notSynchronized
  have hS : va_S (aK ad 51) s.heap s.heap [] := va_S.rf
  have hl := lv_entry ([.ref (ad 12), .long p1, .long p2, .double p3]) (n := 7) (Nat.le_of_ble_eq_true rfl)
  rw [lg_entry_eq]
  generalize (lg_sl ([.ref (ad 12), .long p1, .long p2, .double p3]) ++ List.replicate (7 - (lg_sl ([.ref (ad 12), .long p1, .long p2, .double p3])).length) Slot.unset).toArray = ls at hl ⊢
  have hl : lv_has ls 7 [(0, .ref (ad 12)), (1, .long p1), (3, .long p2), (5, .double p3)] := hl
  unfold wp_WK_elementBecomes at hq
  have hh8 : 8 < 9 := by decide
  refine lv_aload_n hx hb d_WK_elementBecomes_0 rfl (lv_at hl 0 rfl) ?_
  refine cw_get (C := R_WK) (T := F_WK) (N := 13) (v := .ref (ad 9)) hx hb hts (in_WK _) hown hK hP 12 (by decide) rfl rfl 6 (by decide) (ht _ wC_193) rfl d_WK_elementBecomes_1 ?_
  refine lv_lload_n hx hb d_WK_elementBecomes_4 rfl (lv_at hl 1 rfl) ?_
  refine lv_lload_n hx hb d_WK_elementBecomes_5 rfl (lv_at hl 2 rfl) ?_
  refine va_calli (va_runV (As := [.long p1, .long p2]) (rest := []) ⟨hx, hb, hml, hown, hts⟩ (c_ST_holds (D := D) (cs := cs) hi hq) (cwV 2 hts (good_V wC_522 wC_523 wC_524 wC_47 wC_525) rfl rfl rfl (by decide +kernel) ⟨(show 0 + 1 ≤ 1 by omega), (show 8 + (5 + 11) + 0 ≤ 24 by omega)⟩) ⟨cP_blind, va_recv hK hP (ci := 3) (q0 := 9) rfl (wd_at (by decide) rfl), fun U hU hW => ⟨rfl, by rw [hU]; exact hP, va_K.moved hW.alike hK, hN.warm hW⟩⟩ rfl rfl hl.1 rfl (lv_room (Nat.le_of_ble_eq_true rfl)) d_WK_elementBecomes_6 ⟨Nat.le_refl _, Nat.le_refl _⟩) hS (fun q _ h => h) (fun q h => h) (fun r1 s2 t H locs ht0 hvm hq hB hz1 hk1 hS => ?_)
  obtain ⟨hP, -, -⟩ := hB
  rw [ht0] at hP
  refine lv_if_ne (tgt := 18) hx hb d_WK_elementBecomes_9 (by decide) (fun c3 => ?_) (fun c3 => ?_)
  · have hq := hq.2 c3
    refine lv_aload_n hx hb d_WK_elementBecomes_18 rfl (lv_at hl 0 rfl) ?_
    refine cw_get (C := R_WK) (T := F_WK) (N := 13) (v := .ref (ad 9)) hx hb hts (in_WK _) hown hK hP 12 (by decide) rfl rfl 6 (by decide) (ht _ wC_193) rfl d_WK_elementBecomes_19 ?_
    refine cw_get (C := R_ST) (T := F_ST) (N := 6) (v := .ref (ad 11)) hx hb hts (in_ST _) hown hK hP 9 (by decide) rfl rfl 1 (by decide) (ht _ wC_127) rfl d_WK_elementBecomes_22 ?_
    refine lv_aload_n hx hb d_WK_elementBecomes_25 rfl (lv_at hl 0 rfl) ?_
    refine cw_get (C := R_WK) (T := F_WK) (N := 13) (v := .ref (ad 9)) hx hb hts (in_WK _) hown hK hP 12 (by decide) rfl rfl 6 (by decide) (ht _ wC_193) rfl d_WK_elementBecomes_26 ?_
    refine lv_lload_n hx hb d_WK_elementBecomes_29 rfl (lv_at hl 1 rfl) ?_
    refine lv_lload_n hx hb d_WK_elementBecomes_30 rfl (lv_at hl 2 rfl) ?_
    refine va_calli (va_runV (As := [.long p1, .long p2]) (rest := [.ref (ad 11)]) ⟨hx, hb, hml, hown, hts⟩ (c_ST_place (D := D) (cs := cs) hi hq) (cwV 2 hts (good_V wC_526 wC_527 wC_528 wC_47 wC_529) rfl rfl rfl (by decide +kernel) ⟨(show 0 + 1 ≤ 1 by omega), (show 8 + (5 + 11) + 0 ≤ 24 by omega)⟩) ⟨cP_blind, va_recv hK hP (ci := 3) (q0 := 9) rfl (wd_at (by decide) rfl), fun U hU hW => ⟨rfl, by rw [hU]; exact hP, va_K.moved hW.alike hK, hN.warm hW⟩⟩ rfl rfl hl.1 rfl (lv_room (Nat.le_of_ble_eq_true rfl)) d_WK_elementBecomes_31 ⟨Nat.le_refl _, Nat.le_refl _⟩) hS (fun q _ h => h) (fun q h => h) (fun r4 s5 t H locs ht0 hvm hq hB hz1 hk1 hS => ?_)
    obtain ⟨hP, -, -⟩ := hB
    rw [ht0] at hP
    refine lv_dload hx hb d_WK_elementBecomes_34 (lv_at hl 3 rfl) ?_
    refine cw_dast hx hb hK hP hi hS 11 (by decide) rfl 1 rfl hq.1 upd_1 d_WK_elementBecomes_36 (fun H locs hP hS => ?_)
    have hq := hq.2
    obtain ⟨s6, e_s6⟩ : ∃ z, z = sD s5 1 (vf_upd (gD s5 1) r4.toNatClampNeg p3) := ⟨_, rfl⟩
    rw [← e_s6] at hP
    have hq := hq s6 e_s6
    refine lv_dload hx hb d_WK_elementBecomes_37 (lv_at hl 3 rfl) ?_
    exact W.dret hx hb hr (fun t ht hW => ⟨⟨p3, s6, rfl, hq, by rw [ht]; exact hP, va_K.moved hW.alike hK, hN.warm hW⟩, hS.F ht⟩) hS.2.2 d_WK_elementBecomes_39
  · have hq := hq.1 c3
    refine lv_aload_n hx hb d_WK_elementBecomes_12 rfl (lv_at hl 0 rfl) ?_
    refine lv_iconst (v := 3) hx hb d_WK_elementBecomes_13 (by decide) ?_
    refine va_calld (va_runV (As := [.int 3]) (rest := []) ⟨hx, hb, hml, hown, hts⟩ (c_WK_fail (D := D) (cs := cs) hi hq) (cwV 1 hts (good_V wC_464 wC_466 wC_7 wC_48 wC_467) rfl rfl rfl (by decide +kernel) ⟨(show 0 + 1 ≤ 1 by omega), (show 8 + (2 + 11) + 0 ≤ 24 by omega)⟩) ⟨cP_blind, va_recv hK hP (ci := 4) (q0 := 12) rfl (wd_at (by decide) rfl), fun U hU hW => ⟨rfl, by rw [hU]; exact hP, va_K.moved hW.alike hK, hN.warm hW⟩⟩ rfl rfl hl.1 rfl (lv_room (Nat.le_of_ble_eq_true rfl)) d_WK_elementBecomes_14 ⟨Nat.le_refl _, Nat.le_refl _⟩) hS (fun q _ h => h) (fun q h => h) (fun r7 s8 t H locs ht0 hvm hq hB hz1 hk1 hS => ?_)
    obtain ⟨hP, -, -⟩ := hB
    rw [ht0] at hP
    exact W.dret hx hb hr (fun t ht hW => ⟨⟨r7, s8, rfl, hq, by rw [ht]; exact hP, va_K.moved hW.alike hK, hN.warm hW⟩, hS.F ht⟩) hS.2.2 d_WK_elementBecomes_17
def wp_WK_localBecomes (p1 : Int32) (p2 : UInt64) (g3 : Nat) (σ : CS) (Q : UInt64 → CS → Prop) : Prop := (g3 < 9 ∧ (wp_EN_hasLocals g3 σ (fun r1 s2 => ((r1 = 0 → (wp_WK_fail 4 s2 (fun r5 s6 => Q r5 s6))) ∧ (¬ r1 = 0 → (vp_in p1 2 ∧ (∀ s4 : CS, s4 = sD s2 (20 + g3) (vf_upd (gD s2 (20 + g3)) p1.toNatClampNeg p2) → Q p2 s4)))))))
set_option maxHeartbeats 4000000 in
set_option maxRecDepth 100000 in
theorem c_WK_localBecomes {l : Launch} {D : va_G} {cs : CI} {ad : Nat → Nat} (hi : aI ad 51) {p1 : Int32} {p2 : UInt64} {g3 : Nat} {σ : CS} {Q : UInt64 → CS → Prop} (hq : wp_WK_localBecomes p1 p2 g3 σ Q) : Met l y_WK_localBecomes (.code y_WK_localBecomes b_WK_localBecomes 5 (some .double) :: wC) ({ frames := 1, cells := 0, slots := 0, locals := 21 }) (va_Pc [.ref (ad 12), .int p1, .double p2, .ref (ad (15 + g3))] (cP D cs ad σ)) (va_Qd Q (cP D cs ad) (aK ad 51)) 0 0 (aK ad 51) := by
  refine Met.ofW (cc := b_WK_localBecomes) (maxL := 5) (ret := (some .double)) (by decide) rfl ?_
  intro p e s m args below meth c s₁ B hml hv
  obtain ⟨rfl, hP, hK, hN⟩ := hv
  have hx := B.exec
  have hb := B.bytes
  have hr := B.returns
  have hts := atoms_spec (ws := .code y_WK_localBecomes b_WK_localBecomes 5 (some .double) :: wC) B.pre
  have ht : ∀ w ∈ wC, w.before _ s = true := fun w h => hts w (List.mem_cons_of_mem _ h)
  have hown : s.vm.findClass R_WK = some m.cls := findClass_of_methodNamed B.named
  have hlocks := B.notSynchronized
  have hS : va_S (aK ad 51) s.heap s.heap [] := va_S.rf
  have hl := lv_entry ([.ref (ad 12), .int p1, .double p2, .ref (ad (15 + g3))]) (n := 5) (Nat.le_of_ble_eq_true rfl)
  rw [lg_entry_eq]
  generalize (lg_sl ([.ref (ad 12), .int p1, .double p2, .ref (ad (15 + g3))]) ++ List.replicate (5 - (lg_sl ([.ref (ad 12), .int p1, .double p2, .ref (ad (15 + g3))])).length) Slot.unset).toArray = ls at hl ⊢
  have hl : lv_has ls 5 [(0, .ref (ad 12)), (1, .int p1), (2, .double p2), (4, .ref (ad (15 + g3)))] := hl
  unfold wp_WK_localBecomes at hq
  have hh_g3 : g3 < 9 := hq.1
  have hq := hq.2
  have hh8 : 8 < 9 := by decide
  refine lv_aload hx hb d_WK_localBecomes_0 (lv_at hl 3 rfl) ?_
  refine va_calli (va_runV (As := []) (rest := []) ⟨hx, hb, hml, hown, hts⟩ (c_EN_hasLocals (D := D) (cs := cs) hi hq) (cwV 0 hts (good_V wC_479 wC_480 wC_481 wC_49 wC_482) rfl rfl rfl (by decide +kernel) ⟨(show 0 + 1 ≤ 1 by omega), (show 8 + (1 + 11) + 0 ≤ 21 by omega)⟩) ⟨cP_blind, va_recv hK hP (ci := 1) (q0 := (15 + g3)) rfl (wd_at (by omega) (ct_o hh_g3)), fun U hU hW => ⟨rfl, by rw [hU]; exact hP, va_K.moved hW.alike hK, hN.warm hW⟩⟩ rfl rfl hl.1 rfl (lv_room (Nat.le_of_ble_eq_true rfl)) d_WK_localBecomes_2 ⟨Nat.le_refl _, Nat.le_refl _⟩) hS (fun q _ h => h) (fun q h => h) (fun r1 s2 t H locs ht0 hvm hq hB hz1 hk1 hS => ?_)
  obtain ⟨hP, -, -⟩ := hB
  rw [ht0] at hP
  refine lv_if_ne (tgt := 14) hx hb d_WK_localBecomes_5 (by decide) (fun c3 => ?_) (fun c3 => ?_)
  · have hq := hq.2 c3
    refine lv_aload hx hb d_WK_localBecomes_14 (lv_at hl 3 rfl) ?_
    refine cw_get (C := R_EN) (T := F_EN) (N := 6) (v := .ref (ad (42 + g3))) hx hb hts (in_EN _) hown hK hP (15 + g3) (by omega) (ct_o hh_g3) rfl 3 (by decide) (ht _ wC_165) rfl d_WK_localBecomes_16 ?_
    refine lv_iload_n hx hb d_WK_localBecomes_19 rfl (lv_at hl 1 rfl) ?_
    refine lv_dload_n hx hb d_WK_localBecomes_20 rfl (lv_at hl 2 rfl) ?_
    refine cw_dast hx hb hK hP hi hS (42 + g3) (by omega) (ct_l hh_g3) 1 rfl hq.1 (upd_20 hh_g3) d_WK_localBecomes_21 (fun H locs hP hS => ?_)
    have hq := hq.2
    obtain ⟨s4, e_s4⟩ : ∃ z, z = sD s2 (20 + g3) (vf_upd (gD s2 (20 + g3)) p1.toNatClampNeg p2) := ⟨_, rfl⟩
    rw [← e_s4] at hP
    have hq := hq s4 e_s4
    refine lv_dload_n hx hb d_WK_localBecomes_22 rfl (lv_at hl 2 rfl) ?_
    exact W.dret hx hb hr (fun t ht hW => ⟨⟨p2, s4, rfl, hq, by rw [ht]; exact hP, va_K.moved hW.alike hK, hN.warm hW⟩, hS.F ht⟩) hS.2.2 d_WK_localBecomes_23
  · have hq := hq.1 c3
    refine lv_aload_n hx hb d_WK_localBecomes_8 rfl (lv_at hl 0 rfl) ?_
    refine lv_iconst (v := 4) hx hb d_WK_localBecomes_9 (by decide) ?_
    refine va_calld (va_runV (As := [.int 4]) (rest := []) ⟨hx, hb, hml, hown, hts⟩ (c_WK_fail (D := D) (cs := cs) hi hq) (cwV 1 hts (good_V wC_464 wC_466 wC_7 wC_48 wC_467) rfl rfl rfl (by decide +kernel) ⟨(show 0 + 1 ≤ 1 by omega), (show 8 + (2 + 11) + 0 ≤ 21 by omega)⟩) ⟨cP_blind, va_recv hK hP (ci := 4) (q0 := 12) rfl (wd_at (by decide) rfl), fun U hU hW => ⟨rfl, by rw [hU]; exact hP, va_K.moved hW.alike hK, hN.warm hW⟩⟩ rfl rfl hl.1 rfl (lv_room (Nat.le_of_ble_eq_true rfl)) d_WK_localBecomes_10 ⟨Nat.le_refl _, Nat.le_refl _⟩) hS (fun q _ h => h) (fun q h => h) (fun r5 s6 t H locs ht0 hvm hq hB hz1 hk1 hS => ?_)
    obtain ⟨hP, -, -⟩ := hB
    rw [ht0] at hP
    exact W.dret hx hb hr (fun t ht hW => ⟨⟨r5, s6, rfl, hq, by rw [ht]; exact hP, va_K.moved hW.alike hK, hN.warm hW⟩, hS.F ht⟩) hS.2.2 d_WK_localBecomes_13
def wp_WK_jump (p1 : Int32) (σ : CS) (Q : UInt64 → CS → Prop) : Prop := (vp_in p1 4 ∧ (((gA σ 7 p1.toNatClampNeg) = 0 → (wp_WK_fail 5 σ (fun r3 s4 => Q r3 s4))) ∧ (¬ (gA σ 7 p1.toNatClampNeg) = 0 → (∀ s2 : CS, s2 = sI σ 7 p1 → Q FP.dconst0 s2))))
set_option maxHeartbeats 4000000 in
set_option maxRecDepth 100000 in
theorem c_WK_jump {l : Launch} {D : va_G} {cs : CI} {ad : Nat → Nat} (hi : aI ad 51) {p1 : Int32} {σ : CS} {Q : UInt64 → CS → Prop} (hq : wp_WK_jump p1 σ Q) : Met l y_WK_jump (.code y_WK_jump b_WK_jump 2 (some .double) :: wC) ({ frames := 1, cells := 0, slots := 0, locals := 21 }) (va_Pc [.ref (ad 12), .int p1] (cP D cs ad σ)) (va_Qd Q (cP D cs ad) (aK ad 51)) 0 0 (aK ad 51) := by
  refine Met.ofW (cc := b_WK_jump) (maxL := 2) (ret := (some .double)) (by decide) rfl ?_
  intro p e s m args below meth c s₁ B hml hv
  obtain ⟨rfl, hP, hK, hN⟩ := hv
  have hx := B.exec
  have hb := B.bytes
  have hr := B.returns
  have hts := atoms_spec (ws := .code y_WK_jump b_WK_jump 2 (some .double) :: wC) B.pre
  have ht : ∀ w ∈ wC, w.before _ s = true := fun w h => hts w (List.mem_cons_of_mem _ h)
  have hown : s.vm.findClass R_WK = some m.cls := findClass_of_methodNamed B.named
  have hlocks := B.notSynchronized
  have hS : va_S (aK ad 51) s.heap s.heap [] := va_S.rf
  have hl := lv_entry ([.ref (ad 12), .int p1]) (n := 2) (Nat.le_of_ble_eq_true rfl)
  rw [lg_entry_eq]
  generalize (lg_sl ([.ref (ad 12), .int p1]) ++ List.replicate (2 - (lg_sl ([.ref (ad 12), .int p1])).length) Slot.unset).toArray = ls at hl ⊢
  have hl : lv_has ls 2 [(0, .ref (ad 12)), (1, .int p1)] := hl
  unfold wp_WK_jump at hq
  have hh8 : 8 < 9 := by decide
  refine lv_aload_n hx hb d_WK_jump_0 rfl (lv_at hl 0 rfl) ?_
  refine cw_get (C := R_WK) (T := F_WK) (N := 13) (v := .ref (ad 13)) hx hb hts (in_WK _) hown hK hP 12 (by decide) rfl rfl 9 (by decide) (ht _ wC_196) rfl d_WK_jump_1 ?_
  refine lv_iload_n hx hb d_WK_jump_4 rfl (lv_at hl 1 rfl) ?_
  refine cw_iald hx hb hK hP 13 (by decide) rfl 0 rfl hq.1 d_WK_jump_5 ?_
  have hq := hq.2
  refine lv_if_ne (tgt := 15) hx hb d_WK_jump_6 (by decide) (fun c1 => ?_) (fun c1 => ?_)
  · have hq := hq.2 c1
    refine lv_aload_n hx hb d_WK_jump_15 rfl (lv_at hl 0 rfl) ?_
    refine lv_iload_n hx hb d_WK_jump_16 rfl (lv_at hl 1 rfl) ?_
    refine cw_put (C := R_WK) (T := F_WK) (N := 13) (ty := .int) (v := .int p1) hx hb hts (in_WK _) t_WK tok_WK n_WK hown hK hP hi hS 12 (by decide) rfl rfl 12 (by decide) (ht _ wC_199) rfl (by decide +kernel) rfl rfl (Nat.le_of_ble_eq_true rfl) up_WK_jumpingTo d_WK_jump_17 (fun H locs hP hS => ?_)
    obtain ⟨s2, e_s2⟩ : ∃ z, z = sI σ 7 p1 := ⟨_, rfl⟩
    rw [← e_s2] at hP
    have hq := hq s2 e_s2
    refine lv_dconst0 hx hb d_WK_jump_20 ?_
    exact W.dret hx hb hr (fun t ht hW => ⟨⟨FP.dconst0, s2, rfl, hq, by rw [ht]; exact hP, va_K.moved hW.alike hK, hN.warm hW⟩, hS.F ht⟩) hS.2.2 d_WK_jump_21
  · have hq := hq.1 c1
    refine lv_aload_n hx hb d_WK_jump_9 rfl (lv_at hl 0 rfl) ?_
    refine lv_iconst (v := 5) hx hb d_WK_jump_10 (by decide) ?_
    refine va_calld (va_runV (As := [.int 5]) (rest := []) ⟨hx, hb, hml, hown, hts⟩ (c_WK_fail (D := D) (cs := cs) hi hq) (cwV 1 hts (good_V wC_464 wC_466 wC_7 wC_48 wC_467) rfl rfl rfl (by decide +kernel) ⟨(show 0 + 1 ≤ 1 by omega), (show 8 + (2 + 11) + 0 ≤ 21 by omega)⟩) ⟨cP_blind, va_recv hK hP (ci := 4) (q0 := 12) rfl (wd_at (by decide) rfl), fun U hU hW => ⟨rfl, by rw [hU]; exact hP, va_K.moved hW.alike hK, hN.warm hW⟩⟩ rfl rfl hl.1 rfl (lv_room (Nat.le_of_ble_eq_true rfl)) d_WK_jump_11 ⟨Nat.le_refl _, Nat.le_refl _⟩) hS (fun q _ h => h) (fun q h => h) (fun r3 s4 t H locs ht0 hvm hq hB hz1 hk1 hS => ?_)
    obtain ⟨hP, -, -⟩ := hB
    rw [ht0] at hP
    exact W.dret hx hb hr (fun t ht hW => ⟨⟨r3, s4, rfl, hq, by rw [ht]; exact hP, va_K.moved hW.alike hK, hN.warm hW⟩, hS.F ht⟩) hS.2.2 d_WK_jump_14
end
